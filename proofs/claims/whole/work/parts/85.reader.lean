/-! ===== the class: the reader ===== -/
def L0m (d p : Nat) (r : Rs) : Prop := ∀ q E, r = .inl (q, E) → p + E.2.1.length ≤ q ∧ 0 < E.1.length
def LLm (l d p : Nat) (r : Rs) : Prop := ∀ q E, r = .inl (q, E) → p + E.2.1.length ≤ q ∧ 0 < E.1.length
def LOm (l d : Nat) (u : Bool) (p : Nat) (E0 : EX) (r : Rs) : Prop := ∀ q E, r = .inl (q, E) → p + E.2.1.length ≤ q + E0.2.1.length ∧ E0.1.length ≤ E.1.length ∧ p ≤ q
theorem ClR_l (T : ST) (n : Nat) (ice : Bool) : ClR T n ice L0m LLm LOm := by
  refine ⟨?_, ?_, ?_, ?_, ?_, ?_, ?_, ?_, ?_, ?_, ?_, ?_, ?_⟩
  · intro d p b e k hT hns q E hr
    cases hr
  · intro d p b e k hT hns h5 q E hr
    cases hr
  · intro d p b e k E hT hlf hd5 q E2 hr
    cases hr
    have h1 := TK_le hT
    have hk : k ≠ 0 := by
      rcases hlf with ⟨q, _⟩ | ⟨f, _, _, q, _⟩
      · omega
      · have := q.1; omega
    have h2 : E.2.1.length = 1 ∧ E.1.length = 1 := by
      rcases hlf with ⟨_, rfl⟩ | ⟨f, _, _, _, rfl⟩ <;> exact ⟨rfl, rfl⟩
    omega
  · intro d p b e k r hT hW hd5 ih q E hr
    cases r with
    | inr f => cases hr
    | inl x =>
      cases hr
      have h1 := ih x.1 x.2 rfl
      have h2 := TK_le hT
      have h3 := hW.1
      have h4 : (ngE x.2).2.1.length = x.2.2.1.length + 1 := by
        show (x.2.2.1 ++ [2]).length = _
        rw [List.length_append]
        rfl
      have h5 : (ngE x.2).1.length = x.2.1.length + 1 := rfl
      rw [h4, h5]
      omega
  · intro d p b e k f hT hW hd5 ih q E hr
    cases hr
  · intro d p b e k q E b2 e2 k2 hT hW hd5 ih hT2 hS2 q2 E2 hr
    cases hr
    have h1 := ih q E rfl
    have h2 := TK_le hT
    have h3 := TK_le hT2
    have h5 : (paE E).1.length = (E.1 ++ [29]).length + 1 := rfl
    have h6 : (paE E).2.1 = E.2.1 := rfl
    rw [h5, h6]
    omega
  · intro d p b e k q E b2 e2 k2 hT hW hd5 ih hT2 hS2 q2 E2 hr
    cases hr
  · exact fun d p r ih => ih
  · intro l d p f hl ih q E hr
    cases hr
  · intro l d p q E r hl ih1 ih2 q2 E2 hr
    have h1 := ih1 q E rfl
    have h2 := ih2 q2 E2 hr
    omega
  · intro l d u p E b e k hl hT hst q E2 hr
    cases hr
    exact ⟨Nat.le_refl _, Nat.le_refl _, Nat.le_refl _⟩
  · intro l d u p E b e k op f hl hT hop hu ih q E2 hr
    cases hr
  · intro l d u p E b e k op q E2 r hl hT hop hu ih1 ih2 q3 E3 hr
    have h1 := ih1 q E2 rfl
    have h2 := ih2 q3 E3 hr
    have h3 := TK_le hT
    have h4 := (OP_sg hop).2.2
    have h5 : (bnE op E E2).2.1.length = E.2.1.length + E2.2.1.length + 1 := by
      show (E.2.1 ++ E2.2.1 ++ [opS op]).length = _
      rw [List.length_append, List.length_append]
      rfl
    have h6 : (bnE op E E2).1.length = E.1.length + (E2.1.length + 1) := by
      show (E.1 ++ (nI op :: E2.1)).length = _
      rw [List.length_append]
      rfl
    rw [h5, h6] at h2
    omega
section Q0
variable {G : GG} {σ σ1 σ2 : Hp} {ad : Nat → Nat} {aA aS aV r sA n p b e k c t : Nat} {T : ST} {ice : Bool}
/-- the reader at r -/
def RS (σ : Hp) (r sA n : Nat) : Prop := zK σ r = 5 ∧ (zQ σ r 0 = some (r + 1) ∧ zQ σ r 1 = some (r + 14) ∧ zQ σ r 2 = some (r + 12) ∧ zQ σ r 3 = some (r + 13) ∧ zQ σ r 4 = some (r + 15)) ∧ TS σ (r + 14) sA n ∧ (zK σ (r + 15) = 20 ∧ zN σ (r + 15) = n) ∧ (zK σ (r + 12) = 21 ∧ zN σ (r + 12) = 8) ∧ (zK σ (r + 13) = 21 ∧ zN σ (r + 13) = 6) ∧ LwS σ (r + 1) ∧ (sA < r ∨ r + 16 ≤ sA)
theorem RS.rk (h : RS σ r sA n) : zK σ r = 5 := h.1
theorem RS.q0 (h : RS σ r sA n) : zQ σ r 0 = some (r + 1) := h.2.1.1
theorem RS.q1 (h : RS σ r sA n) : zQ σ r 1 = some (r + 14) := h.2.1.2.1
theorem RS.q2 (h : RS σ r sA n) : zQ σ r 2 = some (r + 12) := h.2.1.2.2.1
theorem RS.q3 (h : RS σ r sA n) : zQ σ r 3 = some (r + 13) := h.2.1.2.2.2.1
theorem RS.q4 (h : RS σ r sA n) : zQ σ r 4 = some (r + 15) := h.2.1.2.2.2.2
theorem RS.ts (h : RS σ r sA n) : TS σ (r + 14) sA n := h.2.2.1
theorem RS.tk (h : RS σ r sA n) : zK σ (r + 14) = 7 := h.2.2.1.1
theorem RS.sk (h : RS σ r sA n) : zK σ (r + 15) = 20 := h.2.2.2.1.1
theorem RS.sn (h : RS σ r sA n) : zN σ (r + 15) = n := h.2.2.2.1.2
/-- what reading a formula leaves alone -/
def QF (r : Nat) (σ σ1 : Hp) : Prop := (zK σ1 = zK σ ∧ zN σ1 = zN σ ∧ zX σ1 = zX σ ∧ zS σ1 = zS σ) ∧ (∀ a, a ≠ r → a ≠ r + 14 → a ≠ r + 15 → zI σ1 a = zI σ a) ∧ (∀ a, a ≠ r + 14 → zJ σ1 a = zJ σ a ∧ zQ σ1 a = zQ σ a) ∧ (∀ k, k ≠ 8 → zQ σ1 (r + 14) k = zQ σ (r + 14) k) ∧ zI σ1 (r + 14) 1 = zI σ (r + 14) 1 ∧ ∀ k, k ≠ 5 → k ≠ 10 → zI σ1 r k = zI σ r k
theorem QF_r (r : Nat) (σ : Hp) : QF r σ σ := ⟨⟨rfl, rfl, rfl, rfl⟩, fun _ _ _ _ => rfl, fun _ _ => ⟨rfl, rfl⟩, fun _ _ => rfl, rfl, fun _ _ _ => rfl⟩
theorem QF_t (h : QF r σ σ1) (h2 : QF r σ1 σ2) : QF r σ σ2 := ⟨⟨h2.1.1.trans h.1.1, h2.1.2.1.trans h.1.2.1, h2.1.2.2.1.trans h.1.2.2.1, h2.1.2.2.2.trans h.1.2.2.2⟩, fun a q1 q2 q3 => (h2.2.1 a q1 q2 q3).trans (h.2.1 a q1 q2 q3), fun a q => ⟨(h2.2.2.1 a q).1.trans (h.2.2.1 a q).1, (h2.2.2.1 a q).2.trans (h.2.2.1 a q).2⟩, fun k q => (h2.2.2.2.1 k q).trans (h.2.2.2.1 k q), h2.2.2.2.2.1.trans h.2.2.2.2.1, fun k q1 q2 => (h2.2.2.2.2.2 k q1 q2).trans (h.2.2.2.2.2 k q1 q2)⟩
theorem QF_tf (h : TF (r + 14) σ σ1) : QF r σ σ1 := ⟨⟨h.1, h.2.1, h.2.2.1, h.2.2.2.1⟩, fun a _ q _ => (h.2.2.2.2.1 a q).1, fun a q => (h.2.2.2.2.1 a q).2, h.2.2.2.2.2.1, h.2.2.2.2.2.2, fun k _ _ => by rw [(h.2.2.2.2.1 r (by omega)).1]⟩
theorem QF_I (r : Nat) (σ : Hp) {k : Nat} (hk : k = 5 ∨ k = 10) (x : Int32) : QF r σ (wI σ r k x) := ⟨⟨rfl, rfl, rfl, rfl⟩, fun a q _ _ => zI_a σ x q, fun _ _ => ⟨rfl, rfl⟩, fun _ _ => rfl, by rw [zI_a σ x (by omega)], fun j q1 q2 => zI_k σ x (by omega)⟩
theorem QF_S (r : Nat) (σ : Hp) (k : Nat) (x : Int32) : QF r σ (wI σ (r + 15) k x) := ⟨⟨rfl, rfl, rfl, rfl⟩, fun a _ _ q => zI_a σ x q, fun _ _ => ⟨rfl, rfl⟩, fun _ _ => rfl, by rw [zI_a σ x (by omega)], fun j q1 q2 => by rw [zI_a σ x (by omega)]⟩
theorem RS.qf (h : RS σ r sA n) (f : QF r σ σ1) : RS σ1 r sA n := by
  obtain ⟨h1, ⟨a0, a1, a2, a3, a4⟩, h3, ⟨b1, b2⟩, ⟨c1, c2⟩, ⟨d1, d2⟩, e1, e2⟩ := h
  obtain ⟨⟨k1, k2, _, _⟩, i1, j1, q1, t1, r1⟩ := f
  have qr : zQ σ1 r = zQ σ r := (j1 r (by omega)).2
  refine ⟨by rw [k1]; exact h1, ⟨by rw [qr]; exact a0, by rw [qr]; exact a1, by rw [qr]; exact a2, by rw [qr]; exact a3, by rw [qr]; exact a4⟩, ?_, ⟨by rw [k1]; exact b1, by rw [k2]; exact b2⟩, ⟨by rw [k1]; exact c1, by rw [k2]; exact c2⟩, ⟨by rw [k1]; exact d1, by rw [k2]; exact d2⟩, ?_, e2⟩
  · exact ⟨by rw [k1]; exact h3.1, (q1 0 (by decide)).trans h3.2.1, by rw [k1]; exact h3.2.2.1, by rw [k2]; exact h3.2.2.2.1, t1.trans h3.l, h3.2.2.2.2.2.1, h3.2.2.2.2.2.2⟩
  · refine ⟨by rw [k1]; exact e1.1, fun q q1 q2 => ?_⟩
    rw [k1, k2, (j1 (r + 1) (by omega)).2]
    exact e1.2 q q1 q2
theorem QF.sg (f : QF r σ σ1) (h : RS σ r sA n) : zI σ1 sA = zI σ sA := by
  have h1 := h.2.2.2.2.2.2.2
  exact f.2.1 sA (by omega) (by omega) (by omega)
/-- the reader stands at a token, with c steps laid -/
def CH (ad : Nat → Nat) (T : ST) (n : Nat) (ice : Bool) (p b e k c r sA : Nat) (σ : Hp) : Prop := RS σ r sA n ∧ zI σ sA = T ∧ CT ad T n p b e k (r + 14) σ ∧ zI σ r 5 = nI c ∧ c ≤ p ∧ zI σ r 6 = (if ice then 3 else 0) ∧ zI σ r 7 = (if ice then 8 else 2) ∧ ∀ i, i < n → okS (T i)
theorem ckd_i {k j : Nat} (h : k ≤ 4) (hj : j ≤ 4) : ckd k = ckd j ↔ k = j := by
  have key : ∀ k, k < 5 → ∀ j, j < 5 → (ckd k = ckd j ↔ k = j) := by decide
  exact key k (by omega) j (by omega)
theorem CT_w (h : CT ad T n p b e k t σ) : (zQ σ t 8 = none ∧ ∀ i, i < 22 → ¬ isW T b e k i) ∨ ∃ i, i < 22 ∧ zQ σ t 8 = some (ad i) ∧ isW T b e k i := by
  obtain ⟨h1, _, _, _, _, _, _, h8, h9⟩ := h
  by_cases hk : k = 1
  · have hq : Wq (pkA T b (e - b)) (pkD T b (e - b)) := by
      rcases h1.2 with ⟨_, _, z⟩ | ⟨_, _, hr, z⟩ | ⟨_, _, _, hr, z⟩ | ⟨_, _, _, _, z⟩
      · omega
      · exact Wq_t (by omega) (fun i q1 q2 => hr.2.2.1 i q1 (by omega))
      · omega
      · omega
    rcases h8 hk with ⟨i, hi, hx, hz⟩ | ⟨hx, hz⟩
    · exact Or.inr ⟨i, hi, hz, hk, (Wq_iff hq (Wq_w hi)).mpr hx.symm⟩
    · exact Or.inl ⟨hz, fun i hi q => hx i hi ((Wq_iff hq (Wq_w hi)).mp q.2).symm⟩
  · exact Or.inl ⟨h9 hk, fun i _ q => hk q.1⟩
set_option maxRecDepth 100000 in
theorem sc_isSgn (hK : zK σ t = 7) (hC : CT ad T n p b e k t σ) (s : Int32) : Sp G mX7_isSign 0 [.ref t, .int s] σ (fun rv σ' => rv = some (.int (b01 (isS T b k s))) ∧ σ' = σ) := by
  have D := dat dl_X7_isSign
  show HT G mX7_isSign 0 [some (.ref t), some (.int s)] [] σ 0 _
  have hk4 : k ≤ 4 := (TK_le hC.1).2.2.2.2.2
  refine ht_aload_n (D 0 rfl) rfl rfl ?_
  refine gf_X7_27 rfl (D 1 rfl) hK ?_
  refine ht_iconst (v := 4) (D 2 rfl) (by decide) ?_
  rw [hC.2.2.2.1]
  refine ht_icmp_ne (tgt := 20) (D 3 rfl) (by decide) (fun hb5 => ?_) (fun hb5 => ?_)
  · skip
    have hno : ¬ isS T b k s := fun q => hb5 ((ckd_i hk4 (by decide)).mpr q.1)
    refine ht_iconst (v := 0) (D 10 rfl) (by decide) ?_
    refine ht_iret (D 11 rfl) rfl rfl ?_
    first | exact ⟨by rw [b01_t hye], rfl⟩ | exact ⟨by rw [b01_f hno], rfl⟩
  · skip
    have hk3 : k = 3 := (ckd_i (j := 3) hk4 (by decide)).mp hb5
    refine ht_aload_n (D 4 rfl) rfl rfl ?_
    refine gf_X7_30 rfl (D 5 rfl) hK ?_
    refine ht_iload_n (D 6 rfl) rfl rfl ?_
    refine ht_icmp_ne (tgt := 20) (D 7 rfl) (by decide) (fun hb13 => ?_) (fun hb13 => ?_)
    · skip
      have hno : ¬ isS T b k s := fun q => hb13 ((hC.2.2.2.2.2.2.1 hk3).trans q.2)
      refine ht_iconst (v := 0) (D 10 rfl) (by decide) ?_
      refine ht_iret (D 11 rfl) rfl rfl ?_
      first | exact ⟨by rw [b01_t hye], rfl⟩ | exact ⟨by rw [b01_f hno], rfl⟩
    · skip
      have hye : isS T b k s := ⟨hk3, (hC.2.2.2.2.2.2.1 hk3).symm.trans hb13⟩
      refine ht_iconst (v := 1) (D 8 rfl) (by decide) ?_
      refine ht_goto (tgt := 21) (D 9 rfl) (by decide) ?_
      refine ht_iret (D 11 rfl) rfl rfl ?_
      first | exact ⟨by rw [b01_t hye], rfl⟩ | exact ⟨by rw [b01_f hno], rfl⟩
set_option maxRecDepth 100000 in
theorem sc_wrong (hH : CH ad T n ice p b e k c r sA σ) (x : Int32) : Sp G mX5_wrong 0 [.ref r, .int x] σ (fun rv σ' => rv = some (.int 0) ∧ σ' = wI σ r 10 (x + 16 * nI b)) := by
  have D := dat dl_X5_wrong
  show HT G mX5_wrong 0 [some (.ref r), some (.int x)] [] σ 0 _
  refine ht_aload_n (D 0 rfl) rfl rfl ?_
  refine ht_iload_n (D 1 rfl) rfl rfl ?_
  refine ht_bipush (v := 16) (D 2 rfl) (by decide) ?_
  refine ht_aload_n (D 3 rfl) rfl rfl ?_
  refine gf_X5_30 rfl (D 4 rfl) hH.1.rk hH.1.q1 ?_
  refine gf_X5_60 rfl (D 5 rfl) hH.1.tk ?_
  rw [hH.2.2.1.2.1]
  refine ht_imul (D 6 rfl) ?_
  refine ht_iadd (D 7 rfl) ?_
  refine pf_X5_54 rfl (D 8 rfl) hH.1.rk ?_
  refine ht_iconst (v := 0) (D 9 rfl) (by decide) ?_
  refine ht_iret (D 10 rfl) rfl rfl ?_
  exact ⟨rfl, rfl⟩
set_option maxRecDepth 100000 in
theorem sc_stepO (x y : Int32) : Sp G mX1_stepOf 0 [.int x, .int y] σ (fun rv σ' => rv = some (.int (y * 16 + x)) ∧ σ' = σ) := by
  have D := dat dl_X1_stepOf
  show HT G mX1_stepOf 0 [some (.int x), some (.int y)] [] σ 0 _
  refine ht_iload_n (D 0 rfl) rfl rfl ?_
  refine ht_bipush (v := 16) (D 1 rfl) (by decide) ?_
  refine ht_imul (D 2 rfl) ?_
  refine ht_iload_n (D 3 rfl) rfl rfl ?_
  refine ht_iadd (D 4 rfl) ?_
  refine ht_iret (D 5 rfl) rfl rfl ?_
  exact ⟨rfl, rfl⟩
set_option maxRecDepth 100000 in
theorem sc_addStep (hR : RS σ r sA n) (hc : zI σ r 5 = nI c) (hcn : c < n) (x y : Int32) : Sp G mX5_addStep 1 [.ref r, .int x, .int y] σ (fun rv σ' => rv = none ∧ σ' = wI (wI σ (r + 15) c (y * 16 + x)) r 5 (nI (c + 1))) := by
  have D := dat dl_X5_addStep
  show HT G mX5_addStep 0 [some (.ref r), some (.int x), some (.int y)] [] σ 1 _
  have hn2 : n ≤ 1000 := hR.ts.2.2.2.2.2.1
  refine ht_aload_n (D 0 rfl) rfl rfl ?_
  refine gf_X5_129 rfl (D 1 rfl) hR.rk ?_
  refine ht_aload_n (D 2 rfl) rfl rfl ?_
  refine gf_X5_38 rfl (D 3 rfl) hR.rk hR.q4 ?_
  refine ht_len (by decide) (by decide) (D 4 rfl) hR.sk hR.sn ?_
  rw [hc]
  refine ht_icmp_ge (tgt := 36) (D 5 rfl) (by decide) (fun hb9 => ?_) (fun hb9 => ?_)
  · skip
    exact absurd ((nI_leI (a := n) (b := c) (by omega) (by omega)).mp hb9) (by omega)
  · skip
    refine ht_aload_n (D 6 rfl) rfl rfl ?_
    refine gf_X5_38 rfl (D 7 rfl) hR.rk hR.q4 ?_
    refine ht_aload_n (D 8 rfl) rfl rfl ?_
    refine gf_X5_129 rfl (D 9 rfl) hR.rk ?_
    rw [hc]
    refine ht_iload_n (D 10 rfl) rfl rfl ?_
    refine ht_iload_n (D 11 rfl) rfl rfl ?_
    refine kSX1_stepOf (As := [_, _]) cl_X5_269 (D 12 rfl) (sc_stepO x y) rfl (Nat.le_of_ble_eq_true rfl) rfl (Nat.le_of_ble_eq_true rfl) (by omega) ?_
    rintro _ σ ⟨rfl, rfl⟩
    refine ht_ist (n := c) (D 13 rfl) hR.sk hR.sn (by first | rfl | exact nI_add _ _ | assumption) (by omega) (by first | decide | omega) ?_
    refine ht_aload_n (D 14 rfl) rfl rfl ?_
    refine ht_dup (D 15 rfl) rfl ?_
    refine gf_X5_129 rfl (D 16 rfl) hR.rk ?_
    rw [show zI (wI σ (r + 15) c (y * 16 + x)) r 5 = nI c from (congrFun (zI_a σ _ (by omega)) 5).trans hc]
    refine ht_iconst (v := 1) (D 17 rfl) (by decide) ?_
    refine ht_iadd (D 18 rfl) ?_
    rw [show nI c + 1 = nI (c + 1) from nI_1 c]
    refine pf_X5_129 rfl (D 19 rfl) hR.rk ?_
    refine ht_vret (D 20 rfl) rfl ?_
    exact ⟨rfl, rfl⟩
end Q0
