/-! ===== the reference: numbers, cells, new names ===== -/
section Q7
variable {G : GG} {σ : Hp} {m : Nat} {V : VT} {U : UT} {T : ST} {n p b e k c : Nat} {ice : Bool}
theorem HD_44 (h : HD T n ice p b e k c V U) (x : Int32) : HD T n ice p b e k c (up2 V 0 44 x) U := by
  obtain ⟨⟨a1, a2, a3, a4, a5, a6⟩, b1, b2, b3, b4, b5, b6⟩ := h
  exact ⟨⟨a1, (up2_k _ _ (by decide)).trans a2, (up2_k _ _ (by decide)).trans a3, (up2_k _ _ (by decide)).trans a4, a5, fun q => (up2_k _ _ (by decide)).trans (a6 q)⟩, (up2_o _ _ (by decide)).trans b1, (up2_k _ _ (by decide)).trans b2, (up2_k _ _ (by decide)).trans b3, (up2_k _ _ (by decide)).trans b4, b5, b6⟩
set_option maxRecDepth 100000 in
theorem sm_needsNumber (hM : MS σ m) (hH : HD T n ice p b e k c V U) (lo hi : Int32) : Sp G mX10_needsNumber 2 [.ref m, .int lo, .int hi] (sv σ m V U) (fun rv σ' => (¬ k = 2 ∧ rv = some (.int 0) ∧ σ' = sv σ m (up2 V 0 9 (1 + 16 * nI b)) U) ∨ (k = 2 ∧ ¬ (lo ≤ dgA T b (e - b) ∧ dgA T b (e - b) ≤ hi) ∧ rv = some (.int 0) ∧ σ' = sv σ m (up2 V 0 9 (4 + 16 * nI b)) U) ∨ (k = 2 ∧ (lo ≤ dgA T b (e - b) ∧ dgA T b (e - b) ≤ hi) ∧ rv = some (.int 1) ∧ Nxt σ m (up2 V 0 44 (dgA T b (e - b))) U T n ice e c σ')) := by
  have D := dat dl_X10_needsNumber
  show HT G mX10_needsNumber 0 [some (.ref m), some (.int lo), some (.int hi)] [] (sv σ m V U) 2 _
  refine ht_aload_n (D 0 rfl) rfl rfl ?_
  refine gm_X10_160 hM rfl (D 1 rfl) ?_
  refine ht_iconst (v := 2) (D 2 rfl) (by decide) ?_
  refine ht_icmp_eq (tgt := 14) (D 3 rfl) (by decide) (fun hb5 => ?_) (fun hb5 => ?_)
  · skip
    have hk2 : k = 2 := (hH.k1 (j := 2) (by decide)).mp hb5
    have h8 : V 0 8 = dgA T b (e - b) := hH.1.2.2.2.2.2 hk2
    refine ht_aload_n (D 8 rfl) rfl rfl ?_
    refine gm_X10_157 hM rfl (D 9 rfl) ?_
    rw [h8]
    refine ht_iload_n (D 10 rfl) rfl rfl ?_
    refine ht_iload_n (D 11 rfl) rfl rfl ?_
    refine kSX10_within (As := [_, _, _]) cl_X10_263 (D 12 rfl) (sm_within (dgA T b (e - b)) lo hi) rfl (Nat.le_of_ble_eq_true rfl) rfl (Nat.le_of_ble_eq_true rfl) (by omega) ?_
    rintro _ _ ⟨rfl, rfl⟩
    refine ht_if_ne (tgt := 32) (D 13 rfl) (by decide) (fun hb23 => ?_) (fun hb23 => ?_)
    · skip
      have hwi := b01_ne hb23
      refine ht_aload_n (D 18 rfl) rfl rfl ?_
      refine ht_aload_n (D 19 rfl) rfl rfl ?_
      refine gm_X10_157 hM rfl (D 20 rfl) ?_
      rw [h8]
      refine pm_X10_267 hM rfl (D 21 rfl) ?_
      refine ht_aload_n (D 22 rfl) rfl rfl ?_
      refine kVX10_nextToken (As := []) cl_X10_220 (D 23 rfl) (sm_nxH hM (HD_44 hH (dgA T b (e - b)))) hM.k0 rfl (Nat.le_of_ble_eq_true rfl) rfl (Nat.le_of_ble_eq_true rfl) (by omega) ?_
      rintro _ σ2 ⟨rfl, hnx⟩
      refine ht_iconst (v := 1) (D 24 rfl) (by decide) ?_
      refine ht_iret (D 25 rfl) rfl rfl ?_
      exact Or.inr (Or.inr ⟨hk2, hwi, rfl, hnx⟩)
    · skip
      have hnw := b01_eq hb23
      refine ht_aload_n (D 14 rfl) rfl rfl ?_
      refine ht_iconst (v := 4) (D 15 rfl) (by decide) ?_
      refine kVX10_fails (As := [_]) cl_X10_213 (D 16 rfl) (sm_fails hM 4) hM.k0 rfl (Nat.le_of_ble_eq_true rfl) rfl (Nat.le_of_ble_eq_true rfl) (by omega) ?_
      rintro _ _ ⟨rfl, rfl⟩
      rw [hH.1.2.1]
      refine ht_iret (D 17 rfl) rfl rfl ?_
      exact Or.inr (Or.inl ⟨hk2, hnw, rfl, rfl⟩)
  · skip
    have hk2 : ¬ k = 2 := fun q => hb5 ((hH.k1 (j := 2) (by decide)).mpr q)
    refine ht_aload_n (D 4 rfl) rfl rfl ?_
    refine ht_iconst (v := 1) (D 5 rfl) (by decide) ?_
    refine kVX10_fails (As := [_]) cl_X10_213 (D 6 rfl) (sm_fails hM 1) hM.k0 rfl (Nat.le_of_ble_eq_true rfl) rfl (Nat.le_of_ble_eq_true rfl) (by omega) ?_
    rintro _ _ ⟨rfl, rfl⟩
    rw [hH.1.2.1]
    refine ht_iret (D 7 rfl) rfl rfl ?_
    exact Or.inl ⟨hk2, rfl, rfl⟩
set_option maxRecDepth 100000 in
theorem sm_needsCell (hM : MS σ m) (hH : HD T n ice p b e k c V U) {cN : Nat} (hc : V 2 1 = nI cN) (hc8 : cN ≤ 8) : Sp G mX10_needsCell 2 [.ref m] (sv σ m V U) (fun rv σ' => (kpR V U ∧ rv = some (.int 0) ∧ σ' = sv σ m (up2 V 0 9 (1 + 16 * nI b)) U) ∨ (¬ kpR V U ∧ (∀ j, j < cN → ¬ U 7 j = U 0 7) ∧ rv = some (.int 0) ∧ σ' = sv σ m (up2 (up2 V 0 44 (-1)) 0 9 (2 + 16 * nI b)) U) ∨ (¬ kpR V U ∧ ∃ j, j < cN ∧ U 7 j = U 0 7 ∧ (∀ i, i < j → ¬ U 7 i = U 0 7) ∧ rv = some (.int 1) ∧ Nxt σ m (up2 V 0 44 (nI j)) U T n ice e c σ')) := by
  have D := dat dl_X10_needsCell
  show HT G mX10_needsCell 0 [some (.ref m)] [] (sv σ m V U) 2 _
  refine ht_aload_n (D 0 rfl) rfl rfl ?_
  refine kVX10_isKept (As := []) cl_X10_256 (D 1 rfl) (sm_isKept hM) hM.k0 rfl (Nat.le_of_ble_eq_true rfl) rfl (Nat.le_of_ble_eq_true rfl) (by omega) ?_
  rintro _ _ ⟨⟨rfl, hkp⟩ | ⟨rfl, hkp⟩, rfl⟩
  · skip
    refine ht_if_eq (tgt := 13) (D 2 rfl) (by decide) (fun hb4 => absurd hb4 (by decide)) (fun hb4 => ?_)
    refine ht_aload_n (D 3 rfl) rfl rfl ?_
    refine ht_iconst (v := 1) (D 4 rfl) (by decide) ?_
    refine kVX10_fails (As := [_]) cl_X10_213 (D 5 rfl) (sm_fails hM 1) hM.k0 rfl (Nat.le_of_ble_eq_true rfl) rfl (Nat.le_of_ble_eq_true rfl) (by omega) ?_
    rintro _ _ ⟨rfl, rfl⟩
    rw [hH.1.2.1]
    refine ht_iret (D 6 rfl) rfl rfl ?_
    exact Or.inl ⟨hkp, rfl, rfl⟩
  · skip
    refine ht_if_eq (tgt := 13) (D 2 rfl) (by decide) (fun hb4 => ?_) (fun hb4 => absurd (by decide) hb4)
    refine ht_aload_n (D 7 rfl) rfl rfl ?_
    refine ht_aload_n (D 8 rfl) rfl rfl ?_
    refine kVX10_cellNamed (As := []) cl_X10_260 (D 9 rfl) (sm_cellNamed hM hc hc8) hM.k0 rfl (Nat.le_of_ble_eq_true rfl) rfl (Nat.le_of_ble_eq_true rfl) (by omega) ?_
    rintro _ _ ⟨⟨j, hj, heq, rfl, hlo⟩ | ⟨hno, rfl⟩, rfl⟩
    · skip
      refine pm_X10_267 hM rfl (D 10 rfl) ?_
      refine ht_aload_n (D 11 rfl) rfl rfl ?_
      refine gm_X10_267 hM rfl (D 12 rfl) ?_
      rw [up2_s]
      refine ht_if_ge (tgt := 34) (D 13 rfl) (by decide) (fun hb25 => ?_) (fun hb25 => ?_)
      · skip
        refine ht_aload_n (D 18 rfl) rfl rfl ?_
        refine kVX10_nextToken (As := []) cl_X10_220 (D 19 rfl) (sm_nxH hM (HD_44 hH (nI j))) hM.k0 rfl (Nat.le_of_ble_eq_true rfl) rfl (Nat.le_of_ble_eq_true rfl) (by omega) ?_
        rintro _ σ2 ⟨rfl, hnx⟩
        refine ht_iconst (v := 1) (D 20 rfl) (by decide) ?_
        refine ht_iret (D 21 rfl) rfl rfl ?_
        exact Or.inr (Or.inr ⟨hkp, j, hj, heq, hlo, rfl, hnx⟩)
      · skip
        exact absurd (nI_pos' (by omega)) hb25
    · skip
      refine pm_X10_267 hM rfl (D 10 rfl) ?_
      refine ht_aload_n (D 11 rfl) rfl rfl ?_
      refine gm_X10_267 hM rfl (D 12 rfl) ?_
      rw [up2_s]
      refine ht_if_ge (tgt := 34) (D 13 rfl) (by decide) (fun hb25 => ?_) (fun hb25 => ?_)
      · skip
        exact absurd hb25 (by decide)
      · skip
        refine ht_aload_n (D 14 rfl) rfl rfl ?_
        refine ht_iconst (v := 2) (D 15 rfl) (by decide) ?_
        refine kVX10_fails (As := [_]) cl_X10_213 (D 16 rfl) (sm_fails hM 2) hM.k0 rfl (Nat.le_of_ble_eq_true rfl) rfl (Nat.le_of_ble_eq_true rfl) (by omega) ?_
        rintro _ _ ⟨rfl, rfl⟩
        rw [up2_k _ _ (by decide), hH.1.2.1]
        refine ht_iret (D 17 rfl) rfl rfl ?_
        exact Or.inr (Or.inl ⟨hkp, hno, rfl, rfl⟩)
end Q7
