/-! ===== the reference: a new name ===== -/
section Q8
variable {G : GG} {σ : Hp} {m : Nat} {V : VT} {U : UT} {T : ST} {n p b e k c : Nat} {ice : Bool}
/-- no cell, and none of the first j men, has the name -/
def nwN (U : UT) (w : Int64) (cN j : Nat) : Prop := (∀ i, i < cN → ¬ U 7 i = w) ∧ ∀ i, i < j → ¬ U 8 i = w
set_option maxRecDepth 100000 in
theorem sm_isNew (hM : MS σ m) (hH : HD T n ice p b e k c V U) {cN mN : Nat} (hc : V 2 1 = nI cN) (hc8 : cN ≤ 8) (hm : V 4 1 = nI mN) (hm6 : mN ≤ 6) : Sp G mX10_isNew 1 [.ref m] (sv σ m V U) (fun rv σ' => (kpR V U ∧ rv = some (.int 0) ∧ σ' = sv σ m (up2 V 0 9 (1 + 16 * nI b)) U) ∨ (¬ kpR V U ∧ ¬ nwN U (U 0 7) cN mN ∧ rv = some (.int 0) ∧ σ' = sv σ m (up2 V 0 9 (3 + 16 * nI b)) U) ∨ (¬ kpR V U ∧ nwN U (U 0 7) cN mN ∧ rv = some (.int 1) ∧ σ' = sv σ m V U)) := by
  have D := dat dl_X10_isNew
  have loop : ¬ kpR V U → ∀ r j : Nat, j ≤ mN → mN - j = r → ∀ x : Int32, (x = 1 ∧ nwN U (U 0 7) cN j) ∨ (x = 0 ∧ ¬ nwN U (U 0 7) cN j) → HT G mX10_isNew 28 [some (.ref m), some (.int x), some (.int (nI j))] [] (sv σ m V U) 1 (fun rv σ' => (kpR V U ∧ rv = some (.int 0) ∧ σ' = sv σ m (up2 V 0 9 (1 + 16 * nI b)) U) ∨ (¬ kpR V U ∧ ¬ nwN U (U 0 7) cN mN ∧ rv = some (.int 0) ∧ σ' = sv σ m (up2 V 0 9 (3 + 16 * nI b)) U) ∨ (¬ kpR V U ∧ nwN U (U 0 7) cN mN ∧ rv = some (.int 1) ∧ σ' = sv σ m V U)) := by
    intro hkp r
    induction r using Nat.strongRecOn with
    | _ r ih =>
      intro j hj hr x hxx
      rcases hxx with ⟨rfl, hx⟩ | ⟨rfl, hx⟩
      · skip
        refine ht_iload_n (D 16 rfl) rfl rfl ?_
        refine ht_aload_n (D 17 rfl) rfl rfl ?_
        refine gf_X10_19 rfl (D 18 rfl) hM.k0 hM.q4 ?_
        refine ht_iconst (v := 1) (D 19 rfl) (by decide) ?_
        refine hm_ild (o := 4) (n := 1) (by decide) (D 20 rfl) hM.k4 hM.n4 (by first | rfl | exact nI_add _ _ | assumption) (by omega) (by decide) ?_
        rw [hm]
        refine ht_icmp_ge (tgt := 68) (D 21 rfl) (by decide) (fun hb35 => ?_) (fun hb35 => ?_)
        · skip
          have hjk : j = mN := by have h3 := (nI_leI (a := mN) (b := j) (by omega) (by omega)).mp hb35; omega
          subst hjk
          refine ht_iload_n (D 38 rfl) rfl rfl ?_
          refine ht_if_ne (tgt := 80) (D 39 rfl) (by decide) (fun hb69 => ?_) (fun hb69 => absurd hb69 (by decide))
          refine ht_iconst (v := 1) (D 44 rfl) (by decide) ?_
          refine ht_goto (tgt := 85) (D 45 rfl) (by decide) ?_
          refine ht_iret (D 47 rfl) rfl rfl ?_
          exact Or.inr (Or.inr ⟨hkp, hx, rfl, rfl⟩)
        · skip
          have hjk : j < mN := by have h3 := mt (nI_leI (a := mN) (b := j) (by omega) (by omega)).mpr hb35; omega
          refine ht_iload_n (D 22 rfl) rfl rfl ?_
          refine ht_if_eq (tgt := 60) (D 23 rfl) (by decide) (fun hb39 => absurd hb39 (by decide)) (fun hb39 => ?_)
          refine ht_aload_n (D 24 rfl) rfl rfl ?_
          refine gf_X10_32 rfl (D 25 rfl) hM.k0 hM.q8 ?_
          refine ht_iload_n (D 26 rfl) rfl rfl ?_
          refine hm_lld (o := 8) (n := j) (by decide) (D 27 rfl) hM.k8 hM.n8 (by first | rfl | exact nI_add _ _ | assumption) (by omega) (by decide) ?_
          refine ht_aload_n (D 28 rfl) rfl rfl ?_
          refine gm_X10_153 hM rfl (D 29 rfl) ?_
          refine ht_lcmp (D 30 rfl) ?_
          refine ht_if_eq (tgt := 60) (D 31 rfl) (by decide) (fun hb53 => ?_) (fun hb53 => ?_)
          · skip
            have heq : U 8 j = U 0 7 := (lg_cmp_eq _ _).mp hb53
            refine ht_iconst (v := 0) (D 34 rfl) (by decide) ?_
            refine ht_istore_n (D 35 rfl) rfl (by decide) rfl ?_
            refine ht_iinc (v := nI (j + 1)) (D 36 rfl) rfl (nI_i1 _) (by decide) rfl ?_
            refine ht_goto (tgt := 28) (D 37 rfl) (by decide) ?_
            first | exact ht_cast (ih (mN - (j + 1)) (by omega) (j + 1) (by omega) rfl 1 (Or.inl ⟨rfl, hx.1, fun i hi => by by_cases q : i = j; rw [q]; exact hne; exact hx.2 i (by omega)⟩)) rfl rfl rfl | exact ht_cast (ih (mN - (j + 1)) (by omega) (j + 1) (by omega) rfl 0 (Or.inr ⟨rfl, fun q => q.2 j (by omega) heq⟩)) rfl rfl rfl
          · skip
            have hne : ¬ U 8 j = U 0 7 := fun q => hb53 ((lg_cmp_eq _ _).mpr q)
            refine ht_iconst (v := 1) (D 32 rfl) (by decide) ?_
            refine ht_goto (tgt := 61) (D 33 rfl) (by decide) ?_
            refine ht_istore_n (D 35 rfl) rfl (by decide) rfl ?_
            refine ht_iinc (v := nI (j + 1)) (D 36 rfl) rfl (nI_i1 _) (by decide) rfl ?_
            refine ht_goto (tgt := 28) (D 37 rfl) (by decide) ?_
            first | exact ht_cast (ih (mN - (j + 1)) (by omega) (j + 1) (by omega) rfl 1 (Or.inl ⟨rfl, hx.1, fun i hi => by by_cases q : i = j; rw [q]; exact hne; exact hx.2 i (by omega)⟩)) rfl rfl rfl | exact ht_cast (ih (mN - (j + 1)) (by omega) (j + 1) (by omega) rfl 0 (Or.inr ⟨rfl, fun q => q.2 j (by omega) heq⟩)) rfl rfl rfl
      · skip
        refine ht_iload_n (D 16 rfl) rfl rfl ?_
        refine ht_aload_n (D 17 rfl) rfl rfl ?_
        refine gf_X10_19 rfl (D 18 rfl) hM.k0 hM.q4 ?_
        refine ht_iconst (v := 1) (D 19 rfl) (by decide) ?_
        refine hm_ild (o := 4) (n := 1) (by decide) (D 20 rfl) hM.k4 hM.n4 (by first | rfl | exact nI_add _ _ | assumption) (by omega) (by decide) ?_
        rw [hm]
        refine ht_icmp_ge (tgt := 68) (D 21 rfl) (by decide) (fun hb35 => ?_) (fun hb35 => ?_)
        · skip
          have hjk : j = mN := by have h3 := (nI_leI (a := mN) (b := j) (by omega) (by omega)).mp hb35; omega
          subst hjk
          refine ht_iload_n (D 38 rfl) rfl rfl ?_
          refine ht_if_ne (tgt := 80) (D 39 rfl) (by decide) (fun hb69 => absurd (by decide) hb69) (fun hb69 => ?_)
          refine ht_aload_n (D 40 rfl) rfl rfl ?_
          refine ht_iconst (v := 3) (D 41 rfl) (by decide) ?_
          refine kVX10_fails (As := [_]) cl_X10_213 (D 42 rfl) (sm_fails hM 3) hM.k0 rfl (Nat.le_of_ble_eq_true rfl) rfl (Nat.le_of_ble_eq_true rfl) (by omega) ?_
          rintro _ _ ⟨rfl, rfl⟩
          rw [hH.1.2.1]
          refine ht_if_eq (tgt := 84) (D 43 rfl) (by decide) (fun hb77 => ?_) (fun hb77 => absurd (by decide) hb77)
          refine ht_iconst (v := 0) (D 46 rfl) (by decide) ?_
          refine ht_iret (D 47 rfl) rfl rfl ?_
          exact Or.inr (Or.inl ⟨hkp, hx, rfl, rfl⟩)
        · skip
          have hjk : j < mN := by have h3 := mt (nI_leI (a := mN) (b := j) (by omega) (by omega)).mpr hb35; omega
          refine ht_iload_n (D 22 rfl) rfl rfl ?_
          refine ht_if_eq (tgt := 60) (D 23 rfl) (by decide) (fun hb39 => ?_) (fun hb39 => absurd (by decide) hb39)
          refine ht_iconst (v := 0) (D 34 rfl) (by decide) ?_
          refine ht_istore_n (D 35 rfl) rfl (by decide) rfl ?_
          refine ht_iinc (v := nI (j + 1)) (D 36 rfl) rfl (nI_i1 _) (by decide) rfl ?_
          refine ht_goto (tgt := 28) (D 37 rfl) (by decide) ?_
          exact ht_cast (ih (mN - (j + 1)) (by omega) (j + 1) (by omega) rfl 0 (Or.inr ⟨rfl, fun q => hx ⟨q.1, fun i hi => q.2 i (by omega)⟩⟩)) rfl rfl rfl
  show HT G mX10_isNew 0 [some (.ref m), none, none] [] (sv σ m V U) 1 _
  refine ht_aload_n (D 0 rfl) rfl rfl ?_
  refine kVX10_isKept (As := []) cl_X10_256 (D 1 rfl) (sm_isKept hM) hM.k0 rfl (Nat.le_of_ble_eq_true rfl) rfl (Nat.le_of_ble_eq_true rfl) (by omega) ?_
  rintro _ _ ⟨⟨rfl, hkp⟩ | ⟨rfl, hkp⟩, rfl⟩
  · skip
    refine ht_if_eq (tgt := 13) (D 2 rfl) (by decide) (fun hb4 => absurd hb4 (by decide)) (fun hb4 => ?_)
    refine ht_aload_n (D 3 rfl) rfl rfl ?_
    refine ht_iconst (v := 1) (D 4 rfl) (by decide) ?_
    refine kVX10_fails (As := [_]) cl_X10_213 (D 5 rfl) (sm_fails hM 1) hM.k0 rfl (Nat.le_of_ble_eq_true rfl) rfl (Nat.le_of_ble_eq_true rfl) (by omega) ?_
    rintro _ _ ⟨rfl, rfl⟩
    rw [hH.1.2.1]
    refine ht_iret (D 6 rfl) rfl rfl ?_
    exact Or.inl ⟨hkp, rfl, rfl⟩
  · skip
    refine ht_if_eq (tgt := 13) (D 2 rfl) (by decide) (fun hb4 => ?_) (fun hb4 => absurd (by decide) hb4)
    refine ht_aload_n (D 7 rfl) rfl rfl ?_
    refine kVX10_cellNamed (As := []) cl_X10_260 (D 8 rfl) (sm_cellNamed hM hc hc8) hM.k0 rfl (Nat.le_of_ble_eq_true rfl) rfl (Nat.le_of_ble_eq_true rfl) (by omega) ?_
    rintro _ _ ⟨⟨j, hj, heq, rfl, hlo⟩ | ⟨hno, rfl⟩, rfl⟩
    · skip
      refine ht_if_ge (tgt := 24) (D 9 rfl) (by decide) (fun hb17 => ?_) (fun hb17 => ?_)
      · skip
        refine ht_iconst (v := 0) (D 12 rfl) (by decide) ?_
        refine ht_istore_n (D 13 rfl) rfl (by decide) rfl ?_
        refine ht_iconst (v := 0) (D 14 rfl) (by decide) ?_
        refine ht_istore_n (D 15 rfl) rfl (by decide) rfl ?_
        exact ht_cast (loop hkp mN 0 (by omega) (by omega) 0 (Or.inr ⟨rfl, fun q => q.1 j hj heq⟩)) rfl rfl rfl
      · skip
        exact absurd (nI_pos' (by omega)) hb17
    · skip
      refine ht_if_ge (tgt := 24) (D 9 rfl) (by decide) (fun hb17 => ?_) (fun hb17 => ?_)
      · skip
        exact absurd hb17 (by decide)
      · skip
        refine ht_iconst (v := 1) (D 10 rfl) (by decide) ?_
        refine ht_goto (tgt := 25) (D 11 rfl) (by decide) ?_
        refine ht_istore_n (D 13 rfl) rfl (by decide) rfl ?_
        refine ht_iconst (v := 0) (D 14 rfl) (by decide) ?_
        refine ht_istore_n (D 15 rfl) rfl (by decide) rfl ?_
        exact ht_cast (loop hkp mN 0 (by omega) (by omega) 1 (Or.inl ⟨rfl, hno, fun i hi => absurd hi (by omega)⟩)) rfl rfl rfl
end Q8
