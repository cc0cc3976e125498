/-! ===== the reference: man, degrees, draws, lots ===== -/
def t1 (V : VT) : VT := up2 V 0 0 1
theorem t1_o (V : VT) {o : Nat} (h : o ≠ 0) : t1 V o = V o := up2_o V 1 h
theorem t1_pz (V : VT) : Pz V (t1 V) := ⟨fun o h _ _ => t1_o V (by omega), up2_k V 1 (by decide), up2_k V 1 (by decide)⟩
def QT (σ : Hp) (m : Nat) (V : VT) (r th : Int32) : Option Value → Hp → Prop := fun rv σ' => rv = some (.int r) ∧ ∃ (V' : VT) (U' : UT), σ' = sv σ m V' U' ∧ Pz V V' ∧ V' 33 = V 33 ∧ V' 0 0 = th
def aManOk (mN : Nat) (x w : Int32) : Prop := (0 ≤ x ∧ x < nI mN) ∧ (0 ≤ w ∧ w ≤ 2)
def aManV (V : VT) (S : ST) (x w : Int32) : Int32 := if w = 0 then S (68 + x.toNatClampNeg) else if w = 1 then S (74 + x.toNatClampNeg) else V 15 x.toNatClampNeg
section M12
variable {G : GG} {σ : Hp} {m : Nat} {V : VT} {U : UT}
set_option maxRecDepth 100000 in
theorem sm_man (hM : MS σ m) {cN dN mN gk : Nat} (hP : PL V cN dN mN gk) (x w : Int32) : Sp G mX10_man 1 [.ref m, .int x, .int w] (sv σ m V U) (fun rv σ' => (aManOk mN x w ∧ QT σ m V (aManV V (V 33) x w) 0 rv σ') ∨ (¬ aManOk mN x w ∧ QT σ m V 0 1 rv σ')) := by
  have D := dat dl_X10_man
  show HT G mX10_man 0 [some (.ref m), some (.int x), some (.int w)] [] (sv σ m V U) 1 _
  have hm6 : mN ≤ 6 := hP.2.2.1.2
  refine ht_aload_n (D 0 rfl) rfl rfl ?_
  refine ht_aload_n (D 1 rfl) rfl rfl ?_
  refine ht_iload_n (D 2 rfl) rfl rfl ?_
  refine kVX10_isMan (As := [_]) cl_X10_324 (D 3 rfl) (sm_isMan hM x) hM.k0 rfl (Nat.le_of_ble_eq_true rfl) rfl (Nat.le_of_ble_eq_true rfl) (by omega) ?_
  rintro rv σ1 ⟨rfl, rfl⟩
  refine ht_if_eq (tgt := 22) (D 4 rfl) (by decide) (fun hb6 => ?_) (fun hb6 => ?_)
  · skip
    have hng : ¬ aManOk mN x w := by
      intro q
      have q1 := q.1
      rw [← hP.2.2.1.1] at q1
      exact b01_eq hb6 q1
    refine ht_iconst (v := 1) (D 12 rfl) (by decide) ?_
    refine pm_X10_135 hM rfl (D 13 rfl) ?_
    refine ht_aload_n (D 14 rfl) rfl rfl ?_
    refine gm_X10_135 hM rfl (D 15 rfl) ?_
    rw [up2_s]
    refine ht_iconst (v := 1) (D 16 rfl) (by decide) ?_
    refine ht_icmp_ne (tgt := 36) (D 17 rfl) (by decide) (fun hb31 => ?_) (fun hb31 => ?_)
    · skip
      exact absurd rfl hb31
    · skip
      refine ht_iconst (v := 0) (D 18 rfl) (by decide) ?_
      refine ht_iret (D 19 rfl) rfl rfl ?_
      exact Or.inr ⟨hng, rfl, t1 V, U, rfl, t1_pz V, t1_o V (by decide), up2_s V 0 0 1⟩
  · skip
    have hq6 := b01_ne hb6
    rw [hP.2.2.1.1] at hq6
    obtain ⟨jq, hj, rfl⟩ := rng (by omega) hq6
    have hjc : (nI jq).toNatClampNeg = jq := nI_clamp (by omega)
    refine ht_iload_n (D 5 rfl) rfl rfl ?_
    refine ht_iconst (v := 0) (D 6 rfl) (by decide) ?_
    refine ht_iconst (v := 2) (D 7 rfl) (by decide) ?_
    refine kSX10_within (As := [_, _, _]) cl_X10_263 (D 8 rfl) (sm_within _ _ _) rfl (Nat.le_of_ble_eq_true rfl) rfl (Nat.le_of_ble_eq_true rfl) (by omega) ?_
    rintro rv σ1 ⟨rfl, rfl⟩
    refine ht_if_eq (tgt := 22) (D 9 rfl) (by decide) (fun hb15 => ?_) (fun hb15 => ?_)
    · skip
      have hng : ¬ aManOk mN (nI jq) w := fun q => b01_eq hb15 q.2
      refine ht_iconst (v := 1) (D 12 rfl) (by decide) ?_
      refine pm_X10_135 hM rfl (D 13 rfl) ?_
      refine ht_aload_n (D 14 rfl) rfl rfl ?_
      refine gm_X10_135 hM rfl (D 15 rfl) ?_
      rw [up2_s]
      refine ht_iconst (v := 1) (D 16 rfl) (by decide) ?_
      refine ht_icmp_ne (tgt := 36) (D 17 rfl) (by decide) (fun hb31 => ?_) (fun hb31 => ?_)
      · skip
        exact absurd rfl hb31
      · skip
        refine ht_iconst (v := 0) (D 18 rfl) (by decide) ?_
        refine ht_iret (D 19 rfl) rfl rfl ?_
        exact Or.inr ⟨hng, rfl, t1 V, U, rfl, t1_pz V, t1_o V (by decide), up2_s V 0 0 1⟩
    · skip
      have hok : aManOk mN (nI jq) w := ⟨hq6, b01_ne hb15⟩
      refine ht_iconst (v := 0) (D 10 rfl) (by decide) ?_
      refine ht_goto (tgt := 23) (D 11 rfl) (by decide) ?_
      refine pm_X10_135 hM rfl (D 13 rfl) ?_
      refine ht_aload_n (D 14 rfl) rfl rfl ?_
      refine gm_X10_135 hM rfl (D 15 rfl) ?_
      rw [up2_s]
      refine ht_iconst (v := 1) (D 16 rfl) (by decide) ?_
      refine ht_icmp_ne (tgt := 36) (D 17 rfl) (by decide) (fun hb31 => ?_) (fun hb31 => ?_)
      · skip
        refine ht_iload_n (D 20 rfl) rfl rfl ?_
        refine ht_if_ne (tgt := 52) (D 21 rfl) (by decide) (fun hb37 => ?_) (fun hb37 => ?_)
        · skip
          refine ht_iload_n (D 29 rfl) rfl rfl ?_
          refine ht_iconst (v := 1) (D 30 rfl) (by decide) ?_
          refine ht_icmp_ne (tgt := 69) (D 31 rfl) (by decide) (fun hb54 => ?_) (fun hb54 => ?_)
          · skip
            refine ht_aload_n (D 39 rfl) rfl rfl ?_
            refine gf_X10_53 rfl (D 40 rfl) hM.k0 hM.q15 ?_
            refine ht_iload_n (D 41 rfl) rfl rfl ?_
            refine hm_ild (o := 15) (n := jq) (by decide) (D 42 rfl) hM.k15 hM.n15 (by first | rfl | exact nI_add _ _ | assumption) (by omega) (by decide) ?_
            refine ht_iret (D 43 rfl) rfl rfl ?_
            exact Or.inl ⟨hok, by unfold aManV; rw [hjc]; simp [*, show up2 V 0 0 0 33 = V 33 from tz_o V (by decide), show up2 V 0 0 0 15 = V 15 from tz_o V (by decide)], tz V, U, rfl, tz_pz V, tz_o V (by decide), up2_s V 0 0 0⟩
          · skip
            refine ht_aload_n (D 32 rfl) rfl rfl ?_
            refine gf_X10_108 rfl (D 33 rfl) hM.k0 hM.q33 ?_
            refine ht_bipush (v := 74) (D 34 rfl) (by decide) ?_
            refine ht_iload_n (D 35 rfl) rfl rfl ?_
            refine ht_iadd (D 36 rfl) ?_
            refine hm_ild (o := 33) (n := (74 + jq)) (by decide) (D 37 rfl) hM.k33 hM.n33 (by first | rfl | exact nI_add _ _ | assumption) (by omega) (by decide) ?_
            refine ht_goto (tgt := 75) (D 38 rfl) (by decide) ?_
            refine ht_iret (D 43 rfl) rfl rfl ?_
            exact Or.inl ⟨hok, by unfold aManV; rw [hjc]; simp [*, show up2 V 0 0 0 33 = V 33 from tz_o V (by decide), show up2 V 0 0 0 15 = V 15 from tz_o V (by decide)], tz V, U, rfl, tz_pz V, tz_o V (by decide), up2_s V 0 0 0⟩
        · skip
          refine ht_aload_n (D 22 rfl) rfl rfl ?_
          refine gf_X10_108 rfl (D 23 rfl) hM.k0 hM.q33 ?_
          refine ht_bipush (v := 68) (D 24 rfl) (by decide) ?_
          refine ht_iload_n (D 25 rfl) rfl rfl ?_
          refine ht_iadd (D 26 rfl) ?_
          refine hm_ild (o := 33) (n := (68 + jq)) (by decide) (D 27 rfl) hM.k33 hM.n33 (by first | rfl | exact nI_add _ _ | assumption) (by omega) (by decide) ?_
          refine ht_goto (tgt := 75) (D 28 rfl) (by decide) ?_
          refine ht_iret (D 43 rfl) rfl rfl ?_
          exact Or.inl ⟨hok, by unfold aManV; rw [hjc]; simp [*, show up2 V 0 0 0 33 = V 33 from tz_o V (by decide), show up2 V 0 0 0 15 = V 15 from tz_o V (by decide)], tz V, U, rfl, tz_pz V, tz_o V (by decide), up2_s V 0 0 0⟩
      · skip
        exact absurd hb31 (by decide)
set_option maxRecDepth 100000 in
theorem sm_degrees (hM : MS σ m) {gw : Option GWt} (hW : LnW V gw) {h : Nat} (hh : V 33 80 = nI h) (h31 : h < 2 ^ 30) (w : Int32) : Sp G mX10_degrees 4 [.ref m, .int w] (sv σ m V U) (fun rv σ' => ((0 ≤ w ∧ w ≤ 9999) ∧ QT σ m V (dgF gw (h + w.toNatClampNeg) 0) 0 rv σ') ∨ (¬ (0 ≤ w ∧ w ≤ 9999) ∧ QT σ m V 0 1 rv σ')) := by
  have D := dat dl_X10_degrees
  show HT G mX10_degrees 0 [some (.ref m), some (.int w)] [] (sv σ m V U) 4 _
  refine ht_aload_n (D 0 rfl) rfl rfl ?_
  refine ht_iload_n (D 1 rfl) rfl rfl ?_
  refine ht_iconst (v := 0) (D 2 rfl) (by decide) ?_
  refine ht_sipush (v := 9999) (D 3 rfl) (by decide) ?_
  refine kSX10_within (As := [_, _, _]) cl_X10_263 (D 4 rfl) (sm_within _ _ _) rfl (Nat.le_of_ble_eq_true rfl) rfl (Nat.le_of_ble_eq_true rfl) (by omega) ?_
  rintro rv σ1 ⟨rfl, rfl⟩
  refine ht_if_eq (tgt := 16) (D 5 rfl) (by decide) (fun hb9 => ?_) (fun hb9 => ?_)
  · skip
    have hng : ¬ (0 ≤ w ∧ w ≤ 9999) := b01_eq hb9
    refine ht_iconst (v := 1) (D 8 rfl) (by decide) ?_
    refine pm_X10_135 hM rfl (D 9 rfl) ?_
    refine ht_aload_n (D 10 rfl) rfl rfl ?_
    refine gm_X10_135 hM rfl (D 11 rfl) ?_
    rw [up2_s]
    refine ht_iconst (v := 1) (D 12 rfl) (by decide) ?_
    refine ht_icmp_ne (tgt := 32) (D 13 rfl) (by decide) (fun hb25 => ?_) (fun hb25 => ?_)
    · skip
      exact absurd rfl hb25
    · skip
      refine ht_iconst (v := 0) (D 14 rfl) (by decide) ?_
      refine ht_goto (tgt := 46) (D 15 rfl) (by decide) ?_
      refine ht_iret (D 25 rfl) rfl rfl ?_
      exact Or.inr ⟨hng, rfl, t1 V, U, rfl, t1_pz V, t1_o V (by decide), up2_s V 0 0 1⟩
  · skip
    have hok := b01_ne hb9
    obtain ⟨nq, hn1, hn2, rfl⟩ := rngW (lo := 0) 9999 (by decide) hok (by decide)
    have hnc : (nI nq).toNatClampNeg = nq := nI_clamp (by omega)
    refine ht_iconst (v := 0) (D 6 rfl) (by decide) ?_
    refine ht_goto (tgt := 17) (D 7 rfl) (by decide) ?_
    refine pm_X10_135 hM rfl (D 9 rfl) ?_
    refine ht_aload_n (D 10 rfl) rfl rfl ?_
    refine gm_X10_135 hM rfl (D 11 rfl) ?_
    rw [up2_s]
    refine ht_iconst (v := 1) (D 12 rfl) (by decide) ?_
    refine ht_icmp_ne (tgt := 32) (D 13 rfl) (by decide) (fun hb25 => ?_) (fun hb25 => ?_)
    · skip
      refine ht_aload_n (D 16 rfl) rfl rfl ?_
      refine ht_aload_n (D 17 rfl) rfl rfl ?_
      refine gf_X10_108 rfl (D 18 rfl) hM.k0 hM.q33 ?_
      refine ht_bipush (v := 80) (D 19 rfl) (by decide) ?_
      refine hm_ild (o := 33) (n := 80) (by decide) (D 20 rfl) hM.k33 hM.n33 (by first | rfl | exact nI_add _ _ | assumption) (by omega) (by decide) ?_
      refine ht_iload_n (D 21 rfl) rfl rfl ?_
      refine ht_iadd (D 22 rfl) ?_
      rw [show up2 V 0 0 0 33 80 = nI h by rw [show up2 V 0 0 0 33 = V 33 from tz_o V (by decide)]; exact hh, nI_add]
      refine ht_iconst (v := 0) (D 23 rfl) (by decide) ?_
      refine kVX10_degreesAt (As := [_, _]) cl_X10_347 (D 24 rfl) (sm_degreesAt hM (hW.dz (tz_dz V)) (h := h + nq) (by omega) 0) hM.k0 rfl (Nat.le_of_ble_eq_true rfl) rfl (Nat.le_of_ble_eq_true rfl) (by omega) ?_
      rintro rv σ1 ⟨rfl, V2, rfl, hs2⟩
      refine ht_iret (D 25 rfl) rfl rfl ?_
      exact Or.inl ⟨hok, by rw [hnc], V2, U, rfl, hs2.dy.pz, by rw [hs2.s33]; exact tz_o V (by decide), by rw [hs2 0 (by decide)]; exact up2_s V 0 0 0⟩
    · skip
      exact absurd hb25 (by decide)
def dG (g : Int64) : Int64 := (g * 1103515245 + 12345) - (g * 1103515245 + 12345) / 2147483648 * 2147483648
def dV (g : Int64) (k : Int32) : Int32 := (g / 65536 - g / 65536 / k.toInt64 * k.toInt64).toInt32
set_option maxRecDepth 100000 in
theorem sm_draws (hM : MS σ m) {k : Int32} (hk : ¬ k.toInt64 = 0) : Sp G mX10_draws 0 [.ref m, .int k] (sv σ m V U) (fun rv σ' => rv = some (.int (dV (dG (U 0 55)) k)) ∧ σ' = sv σ m V (up2 U 0 55 (dG (U 0 55)))) := by
  have D := dat dl_X10_draws
  show HT G mX10_draws 0 [some (.ref m), some (.int k)] [] (sv σ m V U) 0 _
  refine ht_aload_n (D 0 rfl) rfl rfl ?_
  refine ht_aload_n (D 1 rfl) rfl rfl ?_
  refine gm_X10_428 hM rfl (D 2 rfl) ?_
  refine ht_ldc2 kl_X10_431 (D 3 rfl) ?_
  refine ht_lmul (D 4 rfl) ?_
  refine ht_ldc2 kl_X10_433 (D 5 rfl) ?_
  refine ht_ladd (D 6 rfl) ?_
  refine ht_ldc2 kl_X10_435 (D 7 rfl) ?_
  refine ht_lrem (D 8 rfl) (by decide) ?_
  refine pm_X10_428 hM rfl (D 9 rfl) ?_
  show HT _ _ _ _ _ (sv σ m V (up2 U 0 55 (dG (U 0 55)))) _ _
  refine ht_aload_n (D 10 rfl) rfl rfl ?_
  refine gm_X10_428 hM rfl (D 11 rfl) ?_
  rw [up2_s]
  refine ht_ldc2 kl_X10_437 (D 12 rfl) ?_
  refine ht_ldiv (D 13 rfl) (by decide) ?_
  refine ht_iload_n (D 14 rfl) rfl rfl ?_
  refine ht_i2l (D 15 rfl) ?_
  refine ht_lrem (D 16 rfl) hk ?_
  refine ht_l2i (D 17 rfl) ?_
  refine ht_iret (D 18 rfl) rfl rfl ?_
  exact ⟨rfl, rfl⟩
end M12
