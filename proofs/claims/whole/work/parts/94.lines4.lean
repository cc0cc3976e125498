/-! ===== the class: numbers, cells, new names ===== -/
section Q10
variable {G : GG} {σ σ1 σ2 : Hp} {ad : Nat → Nat} {aA aS aV r sA n p b e k : Nat} {T : ST}
theorem CL_rI (h : CL ad T n p b e k r sA σ) (j : Nat) (x : Int32) : CL ad T n p b e k r sA (wI σ r j x) := by
  obtain ⟨⟨h1, h2, h3, h4, h5, h6, h7, h8⟩, hs, ⟨a1, a2, a3, a4, a5, a6, a7, a8, a9⟩, ho⟩ := h
  have et : zI (wI σ r j x) (r + 14) = zI σ (r + 14) := zI_a σ x (by omega)
  refine ⟨⟨h1, h2, ⟨h3.1, h3.2.1, h3.2.2.1, h3.2.2.2.1, by rw [et]; exact h3.l, h3.2.2.2.2.2.1, h3.2.2.2.2.2.2⟩, h4, h5, h6, h7, h8⟩, by rw [zI_a σ x (by omega)]; exact hs, ⟨a1, by rw [et]; exact a2, by rw [et]; exact a3, by rw [et]; exact a4, a5, fun q => by rw [et]; exact a6 q, fun q => by rw [et]; exact a7 q, a8, a9⟩, ho⟩
set_option maxRecDepth 100000 in
theorem sc_readNumber (hE : NE G) (hB : BK G ad aA aS aV) (hH : CL ad T n p b e k r sA σ) (hi : Int32) : Sp G mX5_readNumber 5 [.ref r, .int hi] σ (fun rv σ' => (¬ k = 2 ∧ rv = some (.int 0) ∧ σ' = wI σ r 10 (1 + 16 * nI b)) ∨ (k = 2 ∧ ¬ dgA T b (e - b) ≤ hi ∧ rv = some (.int 0) ∧ σ' = wI σ r 10 (4 + 16 * nI b)) ∨ (k = 2 ∧ dgA T b (e - b) ≤ hi ∧ rv = some (.int 1) ∧ CNx ad T n e r sA (wI σ r 9 (dgA T b (e - b))) σ')) := by
  have D := dat dl_X5_readNumber
  show HT G mX5_readNumber 0 [some (.ref r), some (.int hi)] [] σ 5 _
  have hk4 : k ≤ 4 := (TK_le hH.2.2.1.1).2.2.2.2.2
  refine ht_aload_n (D 0 rfl) rfl rfl ?_
  refine gf_X5_30 rfl (D 1 rfl) hH.1.rk hH.1.q1 ?_
  refine gf_X5_47 rfl (D 2 rfl) hH.1.tk ?_
  refine ht_iconst (v := 3) (D 3 rfl) (by decide) ?_
  rw [hH.2.2.1.2.2.2.1]
  refine ht_icmp_eq (tgt := 17) (D 4 rfl) (by decide) (fun hb8 => ?_) (fun hb8 => ?_)
  · skip
    have hk2 : k = 2 := (ckd_i (j := 2) hk4 (by decide)).mp hb8
    have hnum : zI σ (r + 14) 5 = dgA T b (e - b) := by
      subst hk2
      obtain ⟨v, _, hv1, hv2⟩ := TK_dg hH.2.2.1.1
      exact (hH.2.2.1.2.2.2.2.2.1 rfl).trans (hv2.trans hv1.symm)
    refine ht_aload_n (D 9 rfl) rfl rfl ?_
    refine gf_X5_30 rfl (D 10 rfl) hH.1.rk hH.1.q1 ?_
    refine gf_X5_241 rfl (D 11 rfl) hH.1.tk ?_
    rw [hnum]
    refine ht_iload_n (D 12 rfl) rfl rfl ?_
    refine ht_icmp_le (tgt := 34) (D 13 rfl) (by decide) (fun hb25 => ?_) (fun hb25 => ?_)
    · skip
      refine ht_aload_n (D 18 rfl) rfl rfl ?_
      refine ht_aload_n (D 19 rfl) rfl rfl ?_
      refine gf_X5_30 rfl (D 20 rfl) hH.1.rk hH.1.q1 ?_
      refine gf_X5_241 rfl (D 21 rfl) hH.1.tk ?_
      rw [hnum]
      refine pf_X5_148 rfl (D 22 rfl) hH.1.rk ?_
      refine ht_aload_n (D 23 rfl) rfl rfl ?_
      refine gf_X5_30 rfl (D 24 rfl) hH.1.rk hH.1.q1 ?_
      refine kVX7_next (As := []) cl_X5_42 (D 25 rfl) (sc_nxL hE hB (CL_rI hH 9 (dgA T b (e - b)))) hH.1.tk rfl (Nat.le_of_ble_eq_true rfl) rfl (Nat.le_of_ble_eq_true rfl) (by omega) ?_
      rintro _ σ2 ⟨rfl, hnx⟩
      refine ht_iconst (v := 1) (D 26 rfl) (by decide) ?_
      refine ht_iret (D 27 rfl) rfl rfl ?_
      exact Or.inr (Or.inr ⟨hk2, hb25, rfl, hnx⟩)
    · skip
      refine ht_aload_n (D 14 rfl) rfl rfl ?_
      refine ht_iconst (v := 4) (D 15 rfl) (by decide) ?_
      refine kVX5_wrong (As := [_]) cl_X5_109 (D 16 rfl) (sc_wrongL hH 4) hH.1.rk rfl (Nat.le_of_ble_eq_true rfl) rfl (Nat.le_of_ble_eq_true rfl) (by omega) ?_
      rintro _ _ ⟨rfl, rfl⟩
      refine ht_iret (D 17 rfl) rfl rfl ?_
      exact Or.inr (Or.inl ⟨hk2, hb25, rfl, rfl⟩)
  · skip
    have hk2 : ¬ k = 2 := fun q => hb8 ((ckd_i (j := 2) hk4 (by decide)).mpr q)
    refine ht_aload_n (D 5 rfl) rfl rfl ?_
    refine ht_iconst (v := 1) (D 6 rfl) (by decide) ?_
    refine kVX5_wrong (As := [_]) cl_X5_109 (D 7 rfl) (sc_wrongL hH 1) hH.1.rk rfl (Nat.le_of_ble_eq_true rfl) rfl (Nat.le_of_ble_eq_true rfl) (by omega) ?_
    rintro _ _ ⟨rfl, rfl⟩
    refine ht_iret (D 8 rfl) rfl rfl ?_
    exact Or.inl ⟨hk2, rfl, rfl⟩
set_option maxRecDepth 100000 in
theorem sc_cellNamed (hH : CL ad T n p b e k r sA σ) (x : Int64) {cN : Nat} (hc : zI σ (r + 1) 0 = nI cN) (hc8 : cN ≤ 8) : Sp G mX5_cellNamed 0 [.ref r, .long x] σ (fun rv σ' => ((∃ j, j < cN ∧ zJ σ (r + 12) j = x ∧ rv = some (.int (nI j)) ∧ ∀ i, i < j → ¬ zJ σ (r + 12) i = x) ∨ ((∀ j, j < cN → ¬ zJ σ (r + 12) j = x) ∧ rv = some (.int (-1)))) ∧ σ' = σ) := by
  have D := dat dl_X5_cellNamed
  have loop : ∀ m j : Nat, j ≤ cN → cN - j = m → (∀ i, i < j → ¬ zJ σ (r + 12) i = x) → HT G mX5_cellNamed 2 [some (.ref r), some (.long x), none, some (.int (nI j))] [] σ 0 (fun rv σ' => ((∃ j, j < cN ∧ zJ σ (r + 12) j = x ∧ rv = some (.int (nI j)) ∧ ∀ i, i < j → ¬ zJ σ (r + 12) i = x) ∨ ((∀ j, j < cN → ¬ zJ σ (r + 12) j = x) ∧ rv = some (.int (-1)))) ∧ σ' = σ) := by
    intro m
    induction m using Nat.strongRecOn with
    | _ m ih =>
      intro j hj hr hno
      refine ht_iload_n (D 2 rfl) rfl rfl ?_
      refine ht_aload_n (D 3 rfl) rfl rfl ?_
      refine gf_X5_12 rfl (D 4 rfl) hH.1.rk hH.1.q0 ?_
      refine gf_X5_154 rfl (D 5 rfl) hH.1.lk ?_
      rw [hc]
      refine ht_icmp_ge (tgt := 32) (D 6 rfl) (by decide) (fun hb10 => ?_) (fun hb10 => ?_)
      · skip
        have hjk : j = cN := by have h3 := (nI_leI (a := cN) (b := j) (by omega) (by omega)).mp hb10; omega
        subst hjk
        refine ht_iconst (v := -1) (D 18 rfl) (by decide) ?_
        refine ht_iret (D 19 rfl) rfl rfl ?_
        exact ⟨Or.inr ⟨hno, rfl⟩, rfl⟩
      · skip
        have hjk : j < cN := by have h3 := mt (nI_leI (a := cN) (b := j) (by omega) (by omega)).mpr hb10; omega
        refine ht_aload_n (D 7 rfl) rfl rfl ?_
        refine gf_X5_18 rfl (D 8 rfl) hH.1.rk hH.1.q2 ?_
        refine ht_iload_n (D 9 rfl) rfl rfl ?_
        refine ht_lld (n := j) (D 10 rfl) hH.1.ck hH.1.cn (by first | rfl | exact nI_add _ _ | assumption) (by omega) (by first | decide | omega) ?_
        refine ht_lload_n (D 11 rfl) rfl rfl ?_
        refine ht_lcmp (D 12 rfl) ?_
        refine ht_if_ne (tgt := 26) (D 13 rfl) (by decide) (fun hb21 => ?_) (fun hb21 => ?_)
        · skip
          have hne : ¬ zJ σ (r + 12) j = x := fun q => hb21 ((lg_cmp_eq _ _).mpr q)
          refine ht_iinc (v := nI (j + 1)) (D 16 rfl) rfl (nI_i1 _) (by decide) rfl ?_
          refine ht_goto (tgt := 2) (D 17 rfl) (by decide) ?_
          exact ht_cast (ih (cN - (j + 1)) (by omega) (j + 1) (by omega) rfl (fun i hi => by by_cases q : i = j; rw [q]; exact hne; exact hno i (by omega))) rfl rfl rfl
        · skip
          have heq : zJ σ (r + 12) j = x := (lg_cmp_eq _ _).mp hb21
          refine ht_iload_n (D 14 rfl) rfl rfl ?_
          refine ht_iret (D 15 rfl) rfl rfl ?_
          exact ⟨Or.inl ⟨j, hjk, heq, rfl, hno⟩, rfl⟩
  show HT G mX5_cellNamed 0 [some (.ref r), some (.long x), none, none] [] σ 0 _
  refine ht_iconst (v := 0) (D 0 rfl) (by decide) ?_
  refine ht_istore_n (D 1 rfl) rfl (by decide) rfl ?_
  exact ht_cast (loop cN 0 (by omega) (by omega) (fun i hi => absurd hi (by omega))) rfl rfl rfl
set_option maxRecDepth 100000 in
theorem sc_isCellName (hB : BK G ad aA aS aV) (hH : CL ad T n p b e k r sA σ) {cN : Nat} (hc : zI σ (r + 1) 0 = nI cN) (hc8 : cN ≤ 8) : Sp G mX5_isCellName 1 [.ref r] σ (fun rv σ' => (¬ nmT T b e k ∧ rv = some (.int 0) ∧ σ' = wI σ r 10 (1 + 16 * nI b)) ∨ (nmT T b e k ∧ (∀ j, j < cN → ¬ zJ σ (r + 12) j = zJ σ (r + 14) 7) ∧ rv = some (.int 0) ∧ σ' = wI σ r 10 (2 + 16 * nI b)) ∨ (nmT T b e k ∧ ∃ j, j < cN ∧ zJ σ (r + 12) j = zJ σ (r + 14) 7 ∧ (∀ i, i < j → ¬ zJ σ (r + 12) i = zJ σ (r + 14) 7) ∧ rv = some (.int 1) ∧ σ' = σ)) := by
  have D := dat dl_X5_isCellName
  show HT G mX5_isCellName 0 [some (.ref r)] [] σ 1 _
  refine ht_aload_n (D 0 rfl) rfl rfl ?_
  refine gf_X5_30 rfl (D 1 rfl) hH.1.rk hH.1.q1 ?_
  refine kVX7_isName (As := []) cl_X5_229 (D 2 rfl) (sc_isName hB hH) hH.1.tk rfl (Nat.le_of_ble_eq_true rfl) rfl (Nat.le_of_ble_eq_true rfl) (by omega) ?_
  rintro _ σ ⟨⟨rfl, hnm⟩ | ⟨rfl, hnm⟩, rfl⟩
  · skip
    refine ht_if_ne (tgt := 16) (D 3 rfl) (by decide) (fun hb7 => ?_) (fun hb7 => absurd hb7 (by decide))
    refine ht_aload_n (D 8 rfl) rfl rfl ?_
    refine ht_aload_n (D 9 rfl) rfl rfl ?_
    refine gf_X5_30 rfl (D 10 rfl) hH.1.rk hH.1.q1 ?_
    refine gf_X5_160 rfl (D 11 rfl) hH.1.tk ?_
    refine kVX5_cellNamed (As := [_]) cl_X5_183 (D 12 rfl) (sc_cellNamed hH _ hc hc8) hH.1.rk rfl (Nat.le_of_ble_eq_true rfl) rfl (Nat.le_of_ble_eq_true rfl) (by omega) ?_
    rintro _ σ ⟨⟨j, hj, heq, rfl, hlo⟩ | ⟨hno, rfl⟩, rfl⟩
    · skip
      refine ht_iconst (v := -1) (D 13 rfl) (by decide) ?_
      refine ht_icmp_ne (tgt := 39) (D 14 rfl) (by decide) (fun hb28 => ?_) (fun hb28 => ?_)
      · skip
        refine ht_iconst (v := 1) (D 19 rfl) (by decide) ?_
        refine ht_goto (tgt := 44) (D 20 rfl) (by decide) ?_
        refine ht_iret (D 22 rfl) rfl rfl ?_
        exact Or.inr (Or.inr ⟨hnm, j, hj, heq, hlo, rfl, rfl⟩)
      · skip
        exact absurd hb28 (nI_ge0 (by omega))
    · skip
      refine ht_iconst (v := -1) (D 13 rfl) (by decide) ?_
      refine ht_icmp_ne (tgt := 39) (D 14 rfl) (by decide) (fun hb28 => ?_) (fun hb28 => ?_)
      · skip
        exact absurd rfl hb28
      · skip
        refine ht_aload_n (D 15 rfl) rfl rfl ?_
        refine ht_iconst (v := 2) (D 16 rfl) (by decide) ?_
        refine kVX5_wrong (As := [_]) cl_X5_109 (D 17 rfl) (sc_wrongL hH 2) hH.1.rk rfl (Nat.le_of_ble_eq_true rfl) rfl (Nat.le_of_ble_eq_true rfl) (by omega) ?_
        rintro _ _ ⟨rfl, rfl⟩
        refine ht_if_eq (tgt := 43) (D 18 rfl) (by decide) (fun hb36 => ?_) (fun hb36 => absurd (by decide) hb36)
        refine ht_iconst (v := 0) (D 21 rfl) (by decide) ?_
        refine ht_iret (D 22 rfl) rfl rfl ?_
        exact Or.inr (Or.inl ⟨hnm, hno, rfl, rfl⟩)
  · skip
    refine ht_if_ne (tgt := 16) (D 3 rfl) (by decide) (fun hb7 => absurd (by decide) hb7) (fun hb7 => ?_)
    refine ht_aload_n (D 4 rfl) rfl rfl ?_
    refine ht_iconst (v := 1) (D 5 rfl) (by decide) ?_
    refine kVX5_wrong (As := [_]) cl_X5_109 (D 6 rfl) (sc_wrongL hH 1) hH.1.rk rfl (Nat.le_of_ble_eq_true rfl) rfl (Nat.le_of_ble_eq_true rfl) (by omega) ?_
    rintro _ _ ⟨rfl, rfl⟩
    refine ht_iret (D 7 rfl) rfl rfl ?_
    exact Or.inl ⟨hnm, rfl, rfl⟩
end Q10
