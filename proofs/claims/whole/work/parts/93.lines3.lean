/-! ===== the class: what a line needs ===== -/
section Q9
variable {G : GG} {σ σ1 σ2 : Hp} {ad : Nat → Nat} {aA aS aV r sA n p b e k : Nat} {T : ST}
/-- the reader stands at a token -/
def CL (ad : Nat → Nat) (T : ST) (n p b e k r sA : Nat) (σ : Hp) : Prop := RS σ r sA n ∧ zI σ sA = T ∧ CT ad T n p b e k (r + 14) σ ∧ ∀ i, i < n → okS (T i)
theorem CH.cl {ice : Bool} {c : Nat} (h : CH ad T n ice p b e k c r sA σ) : CL ad T n p b e k r sA σ := ⟨h.1, h.2.1, h.2.2.1, h.2.2.2.2.2.2.2⟩
/-- a name, not a word that is kept -/
def nmT (T : ST) (b e k : Nat) : Prop := k = 1 ∧ ∀ i, i < 17 → ¬ isW T b e k i
/-- it went on to the next token -/
def CNx (ad : Nat → Nat) (T : ST) (n e r sA : Nat) (σ σ' : Hp) : Prop := TF (r + 14) σ σ' ∧ ∃ b2 e2 k2, CL ad T n e b2 e2 k2 r sA σ'
theorem sc_nxL (hE : NE G) (hB : BK G ad aA aS aV) (h : CL ad T n p b e k r sA σ) : Sp G mX7_next 4 [.ref (r + 14)] σ (fun rv σ' => rv = none ∧ CNx ad T n e r sA σ σ') := by
  refine ht_mono (sc_next hE hB h.1.ts h.2.1 h.2.2.2 h.2.2.1.2.2.1 (TK_le h.2.2.1.1).2.2.1) ?_
  rintro rv σ' ⟨rfl, b2, e2, k2, hf, hc⟩
  have f3 := QF_tf hf
  exact ⟨rfl, hf, b2, e2, k2, h.1.qf f3, by rw [f3.sg h.1]; exact h.2.1, hc, h.2.2.2⟩
theorem RS.lk (h : RS σ r sA n) : zK σ (r + 1) = 2 := h.2.2.2.2.2.2.1.1
theorem RS.ck (h : RS σ r sA n) : zK σ (r + 12) = 21 := h.2.2.2.2.1.1
theorem RS.cn (h : RS σ r sA n) : zN σ (r + 12) = 8 := h.2.2.2.2.1.2
theorem RS.mk (h : RS σ r sA n) : zK σ (r + 13) = 21 := h.2.2.2.2.2.1.1
theorem RS.mn (h : RS σ r sA n) : zN σ (r + 13) = 6 := h.2.2.2.2.2.1.2
set_option maxRecDepth 100000 in
theorem sc_wrongL (hH : CL ad T n p b e k r sA σ) (x : Int32) : Sp G mX5_wrong 0 [.ref r, .int x] σ (fun rv σ' => rv = some (.int 0) ∧ σ' = wI σ r 10 (x + 16 * nI b)) := by
  have D := dat dl_X5_wrong
  show HT G mX5_wrong 0 [some (.ref r), some (.int x)] [] σ 0 _
  refine ht_aload_n (D 0 rfl) rfl rfl ?_
  refine ht_iload_n (D 1 rfl) rfl rfl ?_
  refine ht_bipush (v := 16) (D 2 rfl) (by decide) ?_
  refine ht_aload_n (D 3 rfl) rfl rfl ?_
  refine gf_X5_30 rfl (D 4 rfl) hH.1.rk hH.1.q1 ?_
  refine gf_X5_60 rfl (D 5 rfl) hH.1.tk ?_
  rw [hH.2.2.1.2.1]
  refine ht_imul (D 6 rfl) ?_
  refine ht_iadd (D 7 rfl) ?_
  refine pf_X5_54 rfl (D 8 rfl) hH.1.rk ?_
  refine ht_iconst (v := 0) (D 9 rfl) (by decide) ?_
  refine ht_iret (D 10 rfl) rfl rfl ?_
  exact ⟨rfl, rfl⟩
set_option maxRecDepth 100000 in
theorem sc_rdEnd (hE : NE G) (hB : BK G ad aA aS aV) (hH : CL ad T n p b e k r sA σ) : Sp G mX5_readLineEnd 5 [.ref r] σ (fun rv σ' => (¬ isS T b k 59 ∧ rv = some (.int 0) ∧ σ' = wI σ r 10 (1 + 16 * nI b)) ∨ (isS T b k 59 ∧ rv = some (.int 1) ∧ CNx ad T n e r sA σ σ')) := by
  have D := dat dl_X5_readLineEnd
  show HT G mX5_readLineEnd 0 [some (.ref r)] [] σ 5 _
  refine ht_aload_n (D 0 rfl) rfl rfl ?_
  refine gf_X5_30 rfl (D 1 rfl) hH.1.rk hH.1.q1 ?_
  refine ht_bipush (v := 59) (D 2 rfl) (by decide) ?_
  refine kVX7_isSign (As := [_]) cl_X5_238 (D 3 rfl) (sc_isSgn hH.1.tk hH.2.2.1 59) hH.1.tk rfl (Nat.le_of_ble_eq_true rfl) rfl (Nat.le_of_ble_eq_true rfl) (by omega) ?_
  rintro _ σ ⟨rfl, rfl⟩
  refine ht_if_ne (tgt := 18) (D 4 rfl) (by decide) (fun hb9 => ?_) (fun hb9 => ?_)
  · skip
    have hye := b01_ne hb9
    refine ht_aload_n (D 9 rfl) rfl rfl ?_
    refine gf_X5_30 rfl (D 10 rfl) hH.1.rk hH.1.q1 ?_
    refine kVX7_next (As := []) cl_X5_42 (D 11 rfl) (sc_nxL hE hB hH) hH.1.tk rfl (Nat.le_of_ble_eq_true rfl) rfl (Nat.le_of_ble_eq_true rfl) (by omega) ?_
    rintro _ σ2 ⟨rfl, hnx⟩
    refine ht_iconst (v := 1) (D 12 rfl) (by decide) ?_
    refine ht_iret (D 13 rfl) rfl rfl ?_
    exact Or.inr ⟨hye, rfl, hnx⟩
  · skip
    have hno := b01_eq hb9
    refine ht_aload_n (D 5 rfl) rfl rfl ?_
    refine ht_iconst (v := 1) (D 6 rfl) (by decide) ?_
    refine kVX5_wrong (As := [_]) cl_X5_109 (D 7 rfl) (sc_wrongL hH 1) hH.1.rk rfl (Nat.le_of_ble_eq_true rfl) rfl (Nat.le_of_ble_eq_true rfl) (by omega) ?_
    rintro _ _ ⟨rfl, rfl⟩
    refine ht_iret (D 8 rfl) rfl rfl ?_
    exact Or.inl ⟨hno, rfl, rfl⟩
set_option maxRecDepth 100000 in
theorem sc_readWord (hE : NE G) (hB : BK G ad aA aS aV) (hJ : ∀ i j, i < 22 → j < 22 → ad i = ad j → i = j) (hH : CL ad T n p b e k r sA σ) {j : Nat} (hj : j < 22) : Sp G mX5_readWord 5 [.ref r, .ref (ad j)] σ (fun rv σ' => (¬ isW T b e k j ∧ rv = some (.int 0) ∧ σ' = wI σ r 10 (1 + 16 * nI b)) ∨ (isW T b e k j ∧ rv = some (.int 1) ∧ CNx ad T n e r sA σ σ')) := by
  have D := dat dl_X5_readWord
  show HT G mX5_readWord 0 [some (.ref r), some (.ref (ad j))] [] σ 5 _
  rcases CT_w hH.2.2.1 with ⟨hw, hno0⟩ | ⟨i, hi, hw, hiw⟩
  · skip
    refine ht_aload_n (D 0 rfl) rfl rfl ?_
    refine gf_X5_30 rfl (D 1 rfl) hH.1.rk hH.1.q1 ?_
    refine gn_X5_63 rfl (D 2 rfl) hH.1.tk hw ?_
    refine ht_aload_n (D 3 rfl) rfl rfl ?_
    refine ht_acmp_eq (rx := none) (ry := some (ad j)) (tgt := 17) (D 4 rfl) (by decide) (fun hb8 => ?_) (fun hb8 => ?_)
    · skip
      cases hb8
    · skip
      have hno : ¬ isW T b e k j := hno0 j hj
      refine ht_aload_n (D 5 rfl) rfl rfl ?_
      refine ht_iconst (v := 1) (D 6 rfl) (by decide) ?_
      refine kVX5_wrong (As := [_]) cl_X5_109 (D 7 rfl) (sc_wrongL hH 1) hH.1.rk rfl (Nat.le_of_ble_eq_true rfl) rfl (Nat.le_of_ble_eq_true rfl) (by omega) ?_
      rintro _ _ ⟨rfl, rfl⟩
      refine ht_iret (D 8 rfl) rfl rfl ?_
      exact Or.inl ⟨hno, rfl, rfl⟩
  · skip
    refine ht_aload_n (D 0 rfl) rfl rfl ?_
    refine gf_X5_30 rfl (D 1 rfl) hH.1.rk hH.1.q1 ?_
    refine gf_X5_63 rfl (D 2 rfl) hH.1.tk hw ?_
    refine ht_aload_n (D 3 rfl) rfl rfl ?_
    refine ht_acmp_eq (rx := some (ad i)) (ry := some (ad j)) (tgt := 17) (D 4 rfl) (by decide) (fun hb8 => ?_) (fun hb8 => ?_)
    · skip
      have hye : isW T b e k j := by
        have h9 := hJ i j hi hj (Option.some.inj hb8)
        rw [← h9]; exact hiw
      refine ht_aload_n (D 9 rfl) rfl rfl ?_
      refine gf_X5_30 rfl (D 10 rfl) hH.1.rk hH.1.q1 ?_
      refine kVX7_next (As := []) cl_X5_42 (D 11 rfl) (sc_nxL hE hB hH) hH.1.tk rfl (Nat.le_of_ble_eq_true rfl) rfl (Nat.le_of_ble_eq_true rfl) (by omega) ?_
      rintro _ σ2 ⟨rfl, hnx⟩
      refine ht_iconst (v := 1) (D 12 rfl) (by decide) ?_
      refine ht_iret (D 13 rfl) rfl rfl ?_
      exact Or.inr ⟨hye, rfl, hnx⟩
    · skip
      have hno : ¬ isW T b e k j := fun q => hb8 (by rw [wB_inj hi hj (hiw.2.symm.trans q.2)])
      refine ht_aload_n (D 5 rfl) rfl rfl ?_
      refine ht_iconst (v := 1) (D 6 rfl) (by decide) ?_
      refine kVX5_wrong (As := [_]) cl_X5_109 (D 7 rfl) (sc_wrongL hH 1) hH.1.rk rfl (Nat.le_of_ble_eq_true rfl) rfl (Nat.le_of_ble_eq_true rfl) (by omega) ?_
      rintro _ _ ⟨rfl, rfl⟩
      refine ht_iret (D 8 rfl) rfl rfl ?_
      exact Or.inl ⟨hno, rfl, rfl⟩
theorem wrs {i : Nat} (hi : i < 22) (h : ¬ wRs.getD i 0 = 0) : i < 17 := by
  have key : ∀ i, i < 22 → ¬ wRs.getD i 0 = 0 → i < 17 := by decide
  exact key i hi h
theorem wrn {i : Nat} (hi : i < 22) (h : wRs.getD i 0 = 0) : ¬ i < 17 := by
  have key : ∀ i, i < 22 → wRs.getD i 0 = 0 → ¬ i < 17 := by decide
  exact key i hi h
set_option maxRecDepth 100000 in
theorem sc_isName (hB : BK G ad aA aS aV) (hH : CL ad T n p b e k r sA σ) : Sp G mX7_isName 0 [.ref (r + 14)] σ (fun rv σ' => ((rv = some (.int 1) ∧ nmT T b e k) ∨ (rv = some (.int 0) ∧ ¬ nmT T b e k)) ∧ σ' = σ) := by
  have D := dat dl_X7_isName
  show HT G mX7_isName 0 [some (.ref (r + 14))] [] σ 0 _
  have hk4 : k ≤ 4 := (TK_le hH.2.2.1.1).2.2.2.2.2
  rcases CT_w hH.2.2.1 with ⟨hw, hno0⟩ | ⟨i, hi, hw, hiw⟩
  · skip
    refine ht_aload_n (D 0 rfl) rfl rfl ?_
    refine gf_X7_27 rfl (D 1 rfl) hH.1.tk ?_
    refine ht_iconst (v := 2) (D 2 rfl) (by decide) ?_
    rw [hH.2.2.1.2.2.2.1]
    refine ht_icmp_ne (tgt := 29) (D 3 rfl) (by decide) (fun hb5 => ?_) (fun hb5 => ?_)
    · skip
      have hno : ¬ nmT T b e k := fun q => hb5 ((ckd_i hk4 (by decide)).mpr q.1)
      refine ht_iconst (v := 0) (D 13 rfl) (by decide) ?_
      refine ht_iret (D 14 rfl) rfl rfl ?_
      first | exact ⟨Or.inl ⟨rfl, hye⟩, rfl⟩ | exact ⟨Or.inr ⟨rfl, hno⟩, rfl⟩
    · skip
      have hye : nmT T b e k := ⟨(ckd_i (j := 1) hk4 (by decide)).mp hb5, fun i hi => hno0 i (by omega)⟩
      refine ht_aload_n (D 4 rfl) rfl rfl ?_
      refine gn_X7_33 rfl (D 5 rfl) hH.1.tk hw ?_
      refine ht_ifnullN (tgt := 25) (D 6 rfl) (by decide) ?_
      refine ht_iconst (v := 1) (D 11 rfl) (by decide) ?_
      refine ht_goto (tgt := 30) (D 12 rfl) (by decide) ?_
      refine ht_iret (D 14 rfl) rfl rfl ?_
      first | exact ⟨Or.inl ⟨rfl, hye⟩, rfl⟩ | exact ⟨Or.inr ⟨rfl, hno⟩, rfl⟩
  · skip
    refine ht_aload_n (D 0 rfl) rfl rfl ?_
    refine gf_X7_27 rfl (D 1 rfl) hH.1.tk ?_
    refine ht_iconst (v := 2) (D 2 rfl) (by decide) ?_
    rw [hH.2.2.1.2.2.2.1]
    refine ht_icmp_ne (tgt := 29) (D 3 rfl) (by decide) (fun hb5 => ?_) (fun hb5 => ?_)
    · skip
      exact absurd ((ckd_i hk4 (by decide)).mpr hiw.1) hb5
    · skip
      refine ht_aload_n (D 4 rfl) rfl rfl ?_
      refine gf_X7_33 rfl (D 5 rfl) hH.1.tk hw ?_
      refine ht_ifnull (D 6 rfl) ?_
      refine ht_aload_n (D 7 rfl) rfl rfl ?_
      refine gf_X7_33 rfl (D 8 rfl) hH.1.tk hw ?_
      refine ht_getB (hB.rs hi) lb_X7_37 (D 9 rfl) ?_
      refine ht_if_ne (tgt := 29) (D 10 rfl) (by decide) (fun hb22 => ?_) (fun hb22 => ?_)
      · skip
        have hno : ¬ nmT T b e k := fun q => q.2 i (wrs hi hb22) hiw
        refine ht_iconst (v := 0) (D 13 rfl) (by decide) ?_
        refine ht_iret (D 14 rfl) rfl rfl ?_
        first | exact ⟨Or.inl ⟨rfl, hye⟩, rfl⟩ | exact ⟨Or.inr ⟨rfl, hno⟩, rfl⟩
      · skip
        have hye : nmT T b e k := ⟨hiw.1, fun i2 h2 q => wrn hi hb22 (by rw [wB_inj hi (by omega) (hiw.2.symm.trans q.2)]; exact h2)⟩
        refine ht_iconst (v := 1) (D 11 rfl) (by decide) ?_
        refine ht_goto (tgt := 30) (D 12 rfl) (by decide) ?_
        refine ht_iret (D 14 rfl) rfl rfl ?_
        first | exact ⟨Or.inl ⟨rfl, hye⟩, rfl⟩ | exact ⟨Or.inr ⟨rfl, hno⟩, rfl⟩
end Q9
