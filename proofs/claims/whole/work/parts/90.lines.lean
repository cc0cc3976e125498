/-! ===== the reference: what a line needs ===== -/
section Q6
variable {G : GG} {σ : Hp} {m : Nat} {V : VT} {U : UT} {T : ST} {n p b e k c : Nat} {ice : Bool}
/-- it went on to the next token -/
def Nxt (σ : Hp) (m : Nat) (V : VT) (U : UT) (T : ST) (n : Nat) (ice : Bool) (e c : Nat) (σ' : Hp) : Prop := ∃ (V2 : VT) (U2 : UT) (b2 e2 k2 : Nat), σ' = sv σ m V2 U2 ∧ NF V V2 ∧ NU U U2 ∧ HD T n ice e b2 e2 k2 c V2 U2
theorem HD_le (h : HD T n ice p b e k c V U) : c ≤ 1000 + e ∧ e ≤ n ∧ n ≤ 1000 := by
  have h1 := TK_le h.1.1
  have h2 := h.2.2.2.2.2.1
  have h3 := h.2.2.2.2.2.2
  omega
theorem sm_nxH (hM : MS σ m) (h : HD T n ice p b e k c V U) : Sp G mX10_nextToken 1 [.ref m] (sv σ m V U) (fun rv σ' => rv = none ∧ Nxt σ m V U T n ice e c σ') := by
  have h2 := sm_nextToken (G := G) (σ := σ) (U := U) hM (T := T) (n := n) (p := e) h.2.1 h.2.2.1 h.2.2.2.2.2.2 h.1.2.2.1 (HD_le h).2.1
  refine ht_mono h2 ?_
  rintro rv σ' ⟨rfl, V2, U2, b2, e2, k2, rfl, hf, hu, hr⟩
  exact ⟨rfl, V2, U2, b2, e2, k2, rfl, hf, hu, HD_nx h rfl rfl rfl h.2.2.2.2.1 (HD_le h).1 hf hr⟩
set_option maxRecDepth 100000 in
theorem sm_ends (hM : MS σ m) (hH : HD T n ice p b e k c V U) : Sp G mX10_ends 2 [.ref m] (sv σ m V U) (fun rv σ' => (¬ isS T b k 59 ∧ rv = some (.int 0) ∧ σ' = sv σ m (up2 V 0 9 (1 + 16 * nI b)) U) ∨ (isS T b k 59 ∧ rv = some (.int 1) ∧ Nxt σ m V U T n ice e c σ')) := by
  have D := dat dl_X10_ends
  show HT G mX10_ends 0 [some (.ref m)] [] (sv σ m V U) 2 _
  refine ht_aload_n (D 0 rfl) rfl rfl ?_
  refine ht_bipush (v := 59) (D 1 rfl) (by decide) ?_
  refine kVX10_isSign (As := [_]) cl_X10_209 (D 2 rfl) (sm_isSg hM hH 59) hM.k0 rfl (Nat.le_of_ble_eq_true rfl) rfl (Nat.le_of_ble_eq_true rfl) (by omega) ?_
  rintro _ _ ⟨rfl, rfl⟩
  refine ht_if_ne (tgt := 15) (D 3 rfl) (by decide) (fun hb6 => ?_) (fun hb6 => ?_)
  · skip
    have hye := b01_ne hb6
    refine ht_aload_n (D 8 rfl) rfl rfl ?_
    refine kVX10_nextToken (As := []) cl_X10_220 (D 9 rfl) (sm_nxH hM hH) hM.k0 rfl (Nat.le_of_ble_eq_true rfl) rfl (Nat.le_of_ble_eq_true rfl) (by omega) ?_
    rintro _ σ2 ⟨rfl, hnx⟩
    refine ht_iconst (v := 1) (D 10 rfl) (by decide) ?_
    refine ht_iret (D 11 rfl) rfl rfl ?_
    exact Or.inr ⟨hye, rfl, hnx⟩
  · skip
    have hno := b01_eq hb6
    refine ht_aload_n (D 4 rfl) rfl rfl ?_
    refine ht_iconst (v := 1) (D 5 rfl) (by decide) ?_
    refine kVX10_fails (As := [_]) cl_X10_213 (D 6 rfl) (sm_fails hM 1) hM.k0 rfl (Nat.le_of_ble_eq_true rfl) rfl (Nat.le_of_ble_eq_true rfl) (by omega) ?_
    rintro _ _ ⟨rfl, rfl⟩
    rw [hH.1.2.1]
    refine ht_iret (D 7 rfl) rfl rfl ?_
    exact Or.inl ⟨hno, rfl, rfl⟩
set_option maxRecDepth 100000 in
theorem sm_needsWord (hM : MS σ m) (hH : HD T n ice p b e k c V U) (i : Nat) : Sp G mX10_needsWord 2 [.ref m, .long (wB i)] (sv σ m V U) (fun rv σ' => (¬ isW T b e k i ∧ rv = some (.int 0) ∧ σ' = sv σ m (up2 V 0 9 (1 + 16 * nI b)) U) ∨ (isW T b e k i ∧ rv = some (.int 1) ∧ Nxt σ m V U T n ice e c σ')) := by
  have D := dat dl_X10_needsWord
  show HT G mX10_needsWord 0 [some (.ref m), some (.long (wB i)), none] [] (sv σ m V U) 2 _
  refine ht_aload_n (D 0 rfl) rfl rfl ?_
  refine ht_lload_n (D 1 rfl) rfl rfl ?_
  refine kVX10_isWord (As := [_]) cl_X10_205 (D 2 rfl) (sm_isWd hM hH i) hM.k0 rfl (Nat.le_of_ble_eq_true rfl) rfl (Nat.le_of_ble_eq_true rfl) (by omega) ?_
  rintro _ _ ⟨rfl, rfl⟩
  refine ht_if_ne (tgt := 14) (D 3 rfl) (by decide) (fun hb5 => ?_) (fun hb5 => ?_)
  · skip
    have hye := b01_ne hb5
    refine ht_aload_n (D 8 rfl) rfl rfl ?_
    refine kVX10_nextToken (As := []) cl_X10_220 (D 9 rfl) (sm_nxH hM hH) hM.k0 rfl (Nat.le_of_ble_eq_true rfl) rfl (Nat.le_of_ble_eq_true rfl) (by omega) ?_
    rintro _ σ2 ⟨rfl, hnx⟩
    refine ht_iconst (v := 1) (D 10 rfl) (by decide) ?_
    refine ht_iret (D 11 rfl) rfl rfl ?_
    exact Or.inr ⟨hye, rfl, hnx⟩
  · skip
    have hno := b01_eq hb5
    refine ht_aload_n (D 4 rfl) rfl rfl ?_
    refine ht_iconst (v := 1) (D 5 rfl) (by decide) ?_
    refine kVX10_fails (As := [_]) cl_X10_213 (D 6 rfl) (sm_fails hM 1) hM.k0 rfl (Nat.le_of_ble_eq_true rfl) rfl (Nat.le_of_ble_eq_true rfl) (by omega) ?_
    rintro _ _ ⟨rfl, rfl⟩
    rw [hH.1.2.1]
    refine ht_iret (D 7 rfl) rfl rfl ?_
    exact Or.inl ⟨hno, rfl, rfl⟩
set_option maxRecDepth 100000 in
theorem sm_cellNamed (hM : MS σ m) {cN : Nat} (hc : V 2 1 = nI cN) (hc8 : cN ≤ 8) : Sp G mX10_cellNamed 0 [.ref m] (sv σ m V U) (fun rv σ' => ((∃ j, j < cN ∧ U 7 j = U 0 7 ∧ rv = some (.int (nI j)) ∧ ∀ i, i < j → ¬ U 7 i = U 0 7) ∨ ((∀ j, j < cN → ¬ U 7 j = U 0 7) ∧ rv = some (.int (-1)))) ∧ σ' = sv σ m V U) := by
  have D := dat dl_X10_cellNamed
  have loop : ∀ r j : Nat, j ≤ cN → cN - j = r → (∀ i, i < j → ¬ U 7 i = U 0 7) → HT G mX10_cellNamed 2 [some (.ref m), some (.int (nI j))] [] (sv σ m V U) 0 (fun rv σ' => ((∃ j, j < cN ∧ U 7 j = U 0 7 ∧ rv = some (.int (nI j)) ∧ ∀ i, i < j → ¬ U 7 i = U 0 7) ∨ ((∀ j, j < cN → ¬ U 7 j = U 0 7) ∧ rv = some (.int (-1)))) ∧ σ' = sv σ m V U) := by
    intro r
    induction r using Nat.strongRecOn with
    | _ r ih =>
      intro j hj hr hno
      refine ht_iload_n (D 2 rfl) rfl rfl ?_
      refine ht_aload_n (D 3 rfl) rfl rfl ?_
      refine gf_X10_13 rfl (D 4 rfl) hM.k0 hM.q2 ?_
      refine ht_iconst (v := 1) (D 5 rfl) (by decide) ?_
      refine hm_ild (o := 2) (n := 1) (by decide) (D 6 rfl) hM.k2 hM.n2 (by first | rfl | exact nI_add _ _ | assumption) (by omega) (by decide) ?_
      rw [hc]
      refine ht_icmp_ge (tgt := 34) (D 7 rfl) (by decide) (fun hb9 => ?_) (fun hb9 => ?_)
      · skip
        have hjk : j = cN := by have h3 := (nI_leI (a := cN) (b := j) (by omega) (by omega)).mp hb9; omega
        subst hjk
        refine ht_iconst (v := -1) (D 20 rfl) (by decide) ?_
        refine ht_iret (D 21 rfl) rfl rfl ?_
        exact ⟨Or.inr ⟨hno, rfl⟩, rfl⟩
      · skip
        have hjk : j < cN := by have h3 := mt (nI_leI (a := cN) (b := j) (by omega) (by omega)).mpr hb9; omega
        refine ht_aload_n (D 8 rfl) rfl rfl ?_
        refine gf_X10_28 rfl (D 9 rfl) hM.k0 hM.q7 ?_
        refine ht_iload_n (D 10 rfl) rfl rfl ?_
        refine hm_lld (o := 7) (n := j) (by decide) (D 11 rfl) hM.k7 hM.n7 (by first | rfl | exact nI_add _ _ | assumption) (by omega) (by decide) ?_
        refine ht_aload_n (D 12 rfl) rfl rfl ?_
        refine gm_X10_153 hM rfl (D 13 rfl) ?_
        refine ht_lcmp (D 14 rfl) ?_
        refine ht_if_ne (tgt := 28) (D 15 rfl) (by decide) (fun hb23 => ?_) (fun hb23 => ?_)
        · skip
          have hne : ¬ U 7 j = U 0 7 := fun q => hb23 ((lg_cmp_eq _ _).mpr q)
          refine ht_iinc (v := nI (j + 1)) (D 18 rfl) rfl (nI_i1 _) (by decide) rfl ?_
          refine ht_goto (tgt := 2) (D 19 rfl) (by decide) ?_
          exact ht_cast (ih (cN - (j + 1)) (by omega) (j + 1) (by omega) rfl (fun i hi => by by_cases q : i = j; rw [q]; exact hne; exact hno i (by omega))) rfl rfl rfl
        · skip
          have heq : U 7 j = U 0 7 := (lg_cmp_eq _ _).mp hb23
          refine ht_iload_n (D 16 rfl) rfl rfl ?_
          refine ht_iret (D 17 rfl) rfl rfl ?_
          exact ⟨Or.inl ⟨j, hjk, heq, rfl, hno⟩, rfl⟩
  show HT G mX10_cellNamed 0 [some (.ref m), none] [] (sv σ m V U) 0 _
  refine ht_iconst (v := 0) (D 0 rfl) (by decide) ?_
  refine ht_istore_n (D 1 rfl) rfl (by decide) rfl ?_
  exact ht_cast (loop cN 0 (by omega) (by omega) (fun i hi => absurd hi (by omega))) rfl rfl rfl
end Q6
