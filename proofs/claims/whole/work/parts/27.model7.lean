/-! ===== the reference: salt, hours, thaw, amnesty, man, degrees ===== -/
section M7
variable {G : GG} {σ : Hp} {m : Nat} {V : VT} {U : UT}
set_option maxRecDepth 100000 in
theorem sm_salt (hM : MS σ m) {cN dN mN gk : Nat} (hP : PL V cN dN mN gk) (hmn : Mn (V 33) cN mN) (x y : Int32) : Sp G mX10_salt 2 [.ref m, .int x, .int y] (sv σ m V U) (QA σ m V (aSalt V (V 33) dN mN x y).1 (aSalt V (V 33) dN mN x y).2) := by
  have D := dat dl_X10_salt
  show HT G mX10_salt 0 [some (.ref m), some (.int x), some (.int y)] [] (sv σ m V U) 2 _
  have hPt : PL (tz V) cN dN mN gk := hP.dz (tz_dz V)
  have hd10 : dN ≤ 10 := hP.2.1.2
  have hc8 : cN ≤ 8 := hP.1.2
  have hm6 : mN ≤ 6 := hP.2.2.1.2
  refine ht_aload_n (D 0 rfl) rfl rfl ?_
  refine ht_iconst (v := 0) (D 1 rfl) (by decide) ?_
  refine pm_X10_135 hM rfl (D 2 rfl) ?_
  show HT _ _ _ _ _ (sv σ m (tz V) U) _ _
  refine ht_aload_n (D 3 rfl) rfl rfl ?_
  refine ht_iload_n (D 4 rfl) rfl rfl ?_
  refine kVX10_isHeld (As := [_]) cl_X10_358 (D 5 rfl) (sm_isHeld hM hPt (by rw [tz_o V (show (33 : Nat) ≠ 0 by decide)]; exact hmn) x) hM.k0 rfl (Nat.le_of_ble_eq_true rfl) rfl (Nat.le_of_ble_eq_true rfl) (by omega) ?_
  rintro rv σ1 ⟨⟨yh, rfl, hyh⟩, rfl⟩
  rw [tz_o V (show (33 : Nat) ≠ 0 by decide)] at hyh
  refine ht_if_eq (tgt := 52) (D 6 rfl) (by decide) (fun hb10 => ?_) (fun hb10 => ?_)
  · skip
    have hn1 : ¬ aHeld (V 33) mN x := by
      rcases hyh with h9 | h9
      · rw [h9.1] at hb10
        exact absurd hb10 (by decide)
      · exact h9.2
    refine ht_iconst (v := 0) (D 29 rfl) (by decide) ?_
    refine ht_iret (D 30 rfl) rfl rfl ?_
    first | (rw [aSalt_f (fun q => hn1 q.1)]; exact QA_t rfl) | (rw [aSalt_f (fun q => hno q.2.1)]; exact QA_t rfl) | (rw [aSalt_f (fun q => q.2.2.1 (by rw [hj2, nI_clamp (show j < 2 ^ 31 by omega)]; exact hb30))]; exact QA_t rfl) | (rw [aSalt_f (fun q => q.2.2.2 (by rw [hj2, nI_clamp (show j < 2 ^ 31 by omega), hec]; exact hb49))]; exact QA_t rfl)
  · skip
    have hy : aHeld (V 33) mN x := by
      rcases hyh with h9 | h9
      · exact h9.2
      · exact absurd h9.1 hb10
    obtain ⟨j, hj, hj2⟩ := rng (by omega) hy.1
    have hj2' : (68 : Nat) + j = 68 + j := rfl
    refine ht_aload_n (D 7 rfl) rfl rfl ?_
    refine ht_iload_n (D 8 rfl) rfl rfl ?_
    refine kVX10_isDoor (As := [_]) cl_X10_337 (D 9 rfl) (sm_isDoor hM y) hM.k0 rfl (Nat.le_of_ble_eq_true rfl) rfl (Nat.le_of_ble_eq_true rfl) (by omega) ?_
    rintro rv σ1 ⟨rfl, rfl⟩
    refine ht_if_eq (tgt := 52) (D 10 rfl) (by decide) (fun hb18 => ?_) (fun hb18 => ?_)
    · skip
      have hno := b01_eq hb18
      rw [hPt.2.1.1] at hno
      refine ht_iconst (v := 0) (D 29 rfl) (by decide) ?_
      refine ht_iret (D 30 rfl) rfl rfl ?_
      first | (rw [aSalt_f (fun q => hn1 q.1)]; exact QA_t rfl) | (rw [aSalt_f (fun q => hno q.2.1)]; exact QA_t rfl) | (rw [aSalt_f (fun q => q.2.2.1 (by rw [hj2, nI_clamp (show j < 2 ^ 31 by omega)]; exact hb30))]; exact QA_t rfl) | (rw [aSalt_f (fun q => q.2.2.2 (by rw [hj2, nI_clamp (show j < 2 ^ 31 by omega), hec]; exact hb49))]; exact QA_t rfl)
    · skip
      have hq18 := b01_ne hb18
      rw [hPt.2.1.1] at hq18
      obtain ⟨e, he, rfl⟩ := rng (by omega) hq18
      have hec : (nI e).toNatClampNeg = e := nI_clamp (by omega)
      refine ht_aload_n (D 11 rfl) rfl rfl ?_
      refine gf_X10_108 rfl (D 12 rfl) hM.k0 hM.q33 ?_
      refine ht_bipush (v := 74) (D 13 rfl) (by decide) ?_
      refine ht_iload_n (D 14 rfl) rfl rfl ?_
      refine ht_iadd (D 15 rfl) ?_
      refine hm_ild (o := 33) (n := 74 + j) (by decide) (D 16 rfl) hM.k33 hM.n33 (by rw [hj2]; exact nI_add 74 j) (by omega) (by decide) ?_
      refine ht_if_eq (tgt := 52) (D 17 rfl) (by decide) (fun hb30 => ?_) (fun hb30 => ?_)
      · skip
        rw [tz_o V (show (33 : Nat) ≠ 0 by decide)] at hb30
        refine ht_iconst (v := 0) (D 29 rfl) (by decide) ?_
        refine ht_iret (D 30 rfl) rfl rfl ?_
        first | (rw [aSalt_f (fun q => hn1 q.1)]; exact QA_t rfl) | (rw [aSalt_f (fun q => hno q.2.1)]; exact QA_t rfl) | (rw [aSalt_f (fun q => q.2.2.1 (by rw [hj2, nI_clamp (show j < 2 ^ 31 by omega)]; exact hb30))]; exact QA_t rfl) | (rw [aSalt_f (fun q => q.2.2.2 (by rw [hj2, nI_clamp (show j < 2 ^ 31 by omega), hec]; exact hb49))]; exact QA_t rfl)
      · skip
        rw [tz_o V (show (33 : Nat) ≠ 0 by decide)] at hb30
        refine ht_aload_n (D 18 rfl) rfl rfl ?_
        refine ht_iload_n (D 19 rfl) rfl rfl ?_
        refine ht_aload_n (D 20 rfl) rfl rfl ?_
        refine gf_X10_108 rfl (D 21 rfl) hM.k0 hM.q33 ?_
        refine ht_bipush (v := 68) (D 22 rfl) (by decide) ?_
        refine ht_iload_n (D 23 rfl) rfl rfl ?_
        refine ht_iadd (D 24 rfl) ?_
        refine hm_ild (o := 33) (n := 68 + j) (by decide) (D 25 rfl) hM.k33 hM.n33 (by rw [hj2]; exact nI_add 68 j) (by omega) (by decide) ?_
        refine kVX10_leads (As := [_, _]) cl_X10_361 (D 26 rfl) (sm_leads hM (j := e) (by omega) _) hM.k0 rfl (Nat.le_of_ble_eq_true rfl) rfl (Nat.le_of_ble_eq_true rfl) (by omega) ?_
        rintro rv σ1 ⟨rfl, rfl⟩
        rw [ld_dz (tz_dz V), tz_o V (show (33 : Nat) ≠ 0 by decide)]
        refine ht_bipush (v := -2) (D 27 rfl) (by decide) ?_
        refine ht_icmp_ne (tgt := 54) (D 28 rfl) (by decide) (fun hb49 => ?_) (fun hb49 => ?_)
        · skip
          refine ht_aload_n (D 31 rfl) rfl rfl ?_
          refine gf_X10_108 rfl (D 32 rfl) hM.k0 hM.q33 ?_
          refine ht_bipush (v := 74) (D 33 rfl) (by decide) ?_
          refine ht_iload_n (D 34 rfl) rfl rfl ?_
          refine ht_iadd (D 35 rfl) ?_
          refine ht_dup2 (D 36 rfl) rfl rfl ?_
          refine hm_ild (o := 33) (n := 74 + j) (by decide) (D 37 rfl) hM.k33 hM.n33 (by rw [hj2]; exact nI_add 74 j) (by omega) (by decide) ?_
          refine ht_iconst (v := 1) (D 38 rfl) (by decide) ?_
          refine ht_isub (D 39 rfl) ?_
          refine hm_ist (o := 33) (n := 74 + j) (by decide) (D 40 rfl) hM.k33 hM.n33 (by rw [hj2]; exact nI_add 74 j) (by omega) (by decide) ?_
          refine ht_aload_n (D 41 rfl) rfl rfl ?_
          refine gf_X10_108 rfl (D 42 rfl) hM.k0 hM.q33 ?_
          refine ht_bipush (v := 20) (D 43 rfl) (by decide) ?_
          refine ht_iload_n (D 44 rfl) rfl rfl ?_
          refine ht_iadd (D 45 rfl) ?_
          refine ht_dup2 (D 46 rfl) rfl rfl ?_
          refine hm_ild (o := 33) (n := (20 + e)) (by decide) (D 47 rfl) hM.k33 hM.n33 (by first | rfl | exact nI_add _ _ | assumption) (by omega) (by decide) ?_
          refine ht_iconst (v := 1) (D 48 rfl) (by decide) ?_
          refine ht_iadd (D 49 rfl) ?_
          refine hm_ist (o := 33) (n := (20 + e)) (by decide) (D 50 rfl) hM.k33 hM.n33 (by first | rfl | exact nI_add _ _ | assumption) (by omega) (by decide) ?_
          rw [up2_33, up2_33, sS_sS, sS_s, tz_o V (show (33 : Nat) ≠ 0 by decide)]
          show HT _ _ _ _ _ (sv σ m (sS (tz V) (slS V (V 33) mN j e)) U) _ _
          have hok : aSaltOk V (V 33) dN mN x (nI e) := ⟨hy, hq18, by rw [hj2, nI_clamp (show j < 2 ^ 31 by omega)]; exact hb30, by rw [hj2, nI_clamp (show j < 2 ^ 31 by omega), hec]; exact hb49⟩
          have hPs : PL (sS (tz V) (slS V (V 33) mN j e)) cN dN mN gk := hPt.dy ((Dy.rf _).sS _)
          have es : sS (tz V) (slS V (V 33) mN j e) 33 = slS V (V 33) mN j e := sS_s _ _
          have e10 : sS (tz V) (slS V (V 33) mN j e) 10 = V 10 := by rw [sS_o _ _ (by decide), tz_o V (by decide)]
          have e11 : sS (tz V) (slS V (V 33) mN j e) 11 = V 11 := by rw [sS_o _ _ (by decide), tz_o V (by decide)]
          generalize hVs : sS (tz V) (slS V (V 33) mN j e) = Vs at *
          refine ht_aload_n (D 51 rfl) rfl rfl ?_
          refine gf_X10_108 rfl (D 52 rfl) hM.k0 hM.q33 ?_
          refine ht_bipush (v := 50) (D 53 rfl) (by decide) ?_
          refine ht_iload_n (D 54 rfl) rfl rfl ?_
          refine ht_iadd (D 55 rfl) ?_
          refine hm_ild (o := 33) (n := (50 + e)) (by decide) (D 56 rfl) hM.k33 hM.n33 (by first | rfl | exact nI_add _ _ | assumption) (by omega) (by decide) ?_
          refine ht_if_ne (tgt := 124) (D 57 rfl) (by decide) (fun hb89 => ?_) (fun hb89 => ?_)
          · skip
            refine ht_iconst (v := 1) (D 79 rfl) (by decide) ?_
            refine ht_iret (D 80 rfl) rfl rfl ?_
            rw [aSalt_t hok]
            have hxj : (nI e).toNatClampNeg = e := hec
            have hxk : x.toNatClampNeg = j := by rw [hj2, nI_clamp (show j < 2 ^ 31 by omega)]
            rw [hxj, hxk]
            first | (rw [show slT V (slS V (V 33) mN j e) mN e = slS V (V 33) mN j e from if_neg (by rw [← es]; exact hb89), ← hVs]; exact QA_s rfl rfl) | (rw [show slT V (slS V (V 33) mN j e) mN e = _ from if_pos (by rw [← es]; exact hb89), up2_33, es, e10, e11, ← hVs, sS_sS]; exact QA_s rfl rfl)
          · skip
            refine ht_aload_n (D 58 rfl) rfl rfl ?_
            refine gf_X10_108 rfl (D 59 rfl) hM.k0 hM.q33 ?_
            refine ht_bipush (v := 50) (D 60 rfl) (by decide) ?_
            refine ht_iload_n (D 61 rfl) rfl rfl ?_
            refine ht_iadd (D 62 rfl) ?_
            refine ht_iconst (v := 1) (D 63 rfl) (by decide) ?_
            refine ht_aload_n (D 64 rfl) rfl rfl ?_
            refine ht_aload_n (D 65 rfl) rfl rfl ?_
            refine gf_X10_38 rfl (D 66 rfl) hM.k0 hM.q10 ?_
            refine ht_iload_n (D 67 rfl) rfl rfl ?_
            refine hm_ild (o := 10) (n := e) (by decide) (D 68 rfl) hM.k10 hM.n10 (by first | rfl | exact nI_add _ _ | assumption) (by omega) (by decide) ?_
            refine kVX10_menIn (As := [_]) cl_X10_330 (D 69 rfl) (sm_menIn hM hPs.2.2.1.1 hm6 _) hM.k0 rfl (Nat.le_of_ble_eq_true rfl) rfl (Nat.le_of_ble_eq_true rfl) (by omega) ?_
            rintro rv σ1 ⟨rfl, rfl⟩
            refine ht_aload_n (D 70 rfl) rfl rfl ?_
            refine ht_aload_n (D 71 rfl) rfl rfl ?_
            refine gf_X10_41 rfl (D 72 rfl) hM.k0 hM.q11 ?_
            refine ht_iload_n (D 73 rfl) rfl rfl ?_
            refine hm_ild (o := 11) (n := e) (by decide) (D 74 rfl) hM.k11 hM.n11 (by first | rfl | exact nI_add _ _ | assumption) (by omega) (by decide) ?_
            refine kVX10_menIn (As := [_]) cl_X10_330 (D 75 rfl) (sm_menIn hM hPs.2.2.1.1 hm6 _) hM.k0 rfl (Nat.le_of_ble_eq_true rfl) rfl (Nat.le_of_ble_eq_true rfl) (by omega) ?_
            rintro rv σ1 ⟨rfl, rfl⟩
            refine ht_ior (D 76 rfl) ?_
            refine ht_iadd (D 77 rfl) ?_
            refine hm_ist (o := 33) (n := (50 + e)) (by decide) (D 78 rfl) hM.k33 hM.n33 (by first | rfl | exact nI_add _ _ | assumption) (by omega) (by decide) ?_
            refine ht_iconst (v := 1) (D 79 rfl) (by decide) ?_
            refine ht_iret (D 80 rfl) rfl rfl ?_
            rw [aSalt_t hok]
            have hxj : (nI e).toNatClampNeg = e := hec
            have hxk : x.toNatClampNeg = j := by rw [hj2, nI_clamp (show j < 2 ^ 31 by omega)]
            rw [hxj, hxk]
            first | (rw [show slT V (slS V (V 33) mN j e) mN e = slS V (V 33) mN j e from if_neg (by rw [← es]; exact hb89), ← hVs]; exact QA_s rfl rfl) | (rw [show slT V (slS V (V 33) mN j e) mN e = _ from if_pos (by rw [← es]; exact hb89), up2_33, es, e10, e11, ← hVs, sS_sS]; exact QA_s rfl rfl)
        · skip
          refine ht_iconst (v := 0) (D 29 rfl) (by decide) ?_
          refine ht_iret (D 30 rfl) rfl rfl ?_
          first | (rw [aSalt_f (fun q => hn1 q.1)]; exact QA_t rfl) | (rw [aSalt_f (fun q => hno q.2.1)]; exact QA_t rfl) | (rw [aSalt_f (fun q => q.2.2.1 (by rw [hj2, nI_clamp (show j < 2 ^ 31 by omega)]; exact hb30))]; exact QA_t rfl) | (rw [aSalt_f (fun q => q.2.2.2 (by rw [hj2, nI_clamp (show j < 2 ^ 31 by omega), hec]; exact hb49))]; exact QA_t rfl)
set_option maxRecDepth 100000 in
theorem sm_gcd {p q : Nat} (hp : p < 2 ^ 31) (hq : q < 2 ^ 31) : Sp G mX10_gcd 0 [.int (nI p), .int (nI q)] (sv σ m V U) (fun rv σ' => rv = some (.int (nI (Nat.gcd p q))) ∧ σ' = sv σ m V U) := by
  have D := dat dl_X10_gcd
  have loop : ∀ (y x : Nat) (l0 l1 l4 : Option Value), x < 2 ^ 31 → y < 2 ^ 31 → Nat.gcd x y = Nat.gcd p q → HT G mX10_gcd 4 [some (.int (nI p)), some (.int (nI q)), some (.int (nI x)), some (.int (nI y)), l4] [] (sv σ m V U) 0 (fun rv σ' => rv = some (.int (nI (Nat.gcd p q))) ∧ σ' = sv σ m V U) := by
    intro y
    induction y using Nat.strongRecOn with
    | _ y ih =>
      intro x l0 l1 l4 hx hy hg
      refine ht_iload_n (D 4 rfl) rfl rfl ?_
      refine ht_if_eq (tgt := 21) (D 5 rfl) (by decide) (fun hb5 => ?_) (fun hb5 => ?_)
      · skip
        have hy0 : y = 0 := (nI_eq hy (by decide)).mp hb5
        subst hy0
        refine ht_iload_n (D 15 rfl) rfl rfl ?_
        refine ht_iret (D 16 rfl) rfl rfl ?_
        exact ⟨by rw [← hg, Nat.gcd_zero_right], rfl⟩
      · skip
        have hy0 : 0 < y := by
          rcases Nat.eq_zero_or_pos y with h9 | h9
          · rw [h9] at hb5
            exact absurd rfl hb5
          · exact h9
        refine ht_iload_n (D 6 rfl) rfl rfl ?_
        refine ht_iload_n (D 7 rfl) rfl rfl ?_
        refine ht_irem (D 8 rfl) (nI_ne0 hy0 hy) ?_
        rw [pk_rem hx hy0 hy]
        refine ht_istore (D 9 rfl) (by decide) rfl ?_
        refine ht_iload_n (D 10 rfl) rfl rfl ?_
        refine ht_istore_n (D 11 rfl) rfl (by decide) rfl ?_
        refine ht_iload (D 12 rfl) rfl ?_
        refine ht_istore_n (D 13 rfl) rfl (by decide) rfl ?_
        refine ht_goto (tgt := 4) (D 14 rfl) (by decide) ?_
        exact ih (x % y) (Nat.mod_lt x hy0) y none none _ hy (Nat.lt_trans (Nat.mod_lt x hy0) hy) (by rw [← hg]; rw [Nat.gcd_comm y (x % y), ← Nat.gcd_rec, Nat.gcd_comm])
  show HT G mX10_gcd 0 [some (.int (nI p)), some (.int (nI q)), none, none, none] [] (sv σ m V U) 0 _
  refine ht_iload_n (D 0 rfl) rfl rfl ?_
  refine ht_istore_n (D 1 rfl) rfl (by decide) rfl ?_
  refine ht_iload_n (D 2 rfl) rfl rfl ?_
  refine ht_istore_n (D 3 rfl) rfl (by decide) rfl ?_
  exact ht_cast (loop q p none none none hp hq rfl) rfl rfl rfl
def aAmn (S : ST) (mN : Nat) (x w : Int32) : Int32 := if ¬ nI (hN S mN) = 0 ∧ (0 ≤ x ∧ x ≤ nI (hN S mN)) ∧ (0 ≤ w ∧ w ≤ 1) then nI ((if w = 0 then x.toNatClampNeg else hN S mN) / Nat.gcd x.toNatClampNeg (hN S mN)) else -1
theorem hN_le (S : ST) (k : Nat) : hN S k ≤ k := by
  induction k with
  | zero => exact Nat.le_refl 0
  | succ k ih =>
    unfold hN
    split <;> omega
set_option maxRecDepth 100000 in
theorem sm_amnesty (hM : MS σ m) {cN dN mN gk : Nat} (hP : PL V cN dN mN gk) (x w : Int32) : Sp G mX10_amnesty 1 [.ref m, .int x, .int w] (sv σ m V U) (QA σ m V (aAmn (V 33) mN x w) (V 33)) := by
  have D := dat dl_X10_amnesty
  show HT G mX10_amnesty 0 [some (.ref m), some (.int x), some (.int w), none] [] (sv σ m V U) 1 _
  have hPt : PL (tz V) cN dN mN gk := hP.dz (tz_dz V)
  have hd10 : dN ≤ 10 := hP.2.1.2
  have hc8 : cN ≤ 8 := hP.1.2
  have hm6 : mN ≤ 6 := hP.2.2.1.2
  refine ht_aload_n (D 0 rfl) rfl rfl ?_
  refine ht_iconst (v := 0) (D 1 rfl) (by decide) ?_
  refine pm_X10_135 hM rfl (D 2 rfl) ?_
  show HT _ _ _ _ _ (sv σ m (tz V) U) _ _
  refine ht_aload_n (D 3 rfl) rfl rfl ?_
  refine kVX10_held (As := []) cl_X10_422 (D 4 rfl) (sm_held hM hPt.2.2.1.1 hm6) hM.k0 rfl (Nat.le_of_ble_eq_true rfl) rfl (Nat.le_of_ble_eq_true rfl) (by omega) ?_
  rintro rv σ1 ⟨rfl, rfl⟩
  rw [tz_o V (show (33 : Nat) ≠ 0 by decide)]
  refine ht_istore_n (D 5 rfl) rfl (by decide) rfl ?_
  refine ht_iload_n (D 6 rfl) rfl rfl ?_
  refine ht_if_eq (tgt := 32) (D 7 rfl) (by decide) (fun hb11 => ?_) (fun hb11 => ?_)
  · skip
    have hng : ¬ (¬ nI (hN (V 33) mN) = 0 ∧ (0 ≤ x ∧ x ≤ nI (hN (V 33) mN)) ∧ (0 ≤ w ∧ w ≤ 1)) := fun q => q.1 hb11
    refine ht_iconst (v := -1) (D 18 rfl) (by decide) ?_
    refine ht_iret (D 19 rfl) rfl rfl ?_
    exact QA_t (by unfold aAmn; rw [if_neg hng])
  · skip
    refine ht_iload_n (D 8 rfl) rfl rfl ?_
    refine ht_iconst (v := 0) (D 9 rfl) (by decide) ?_
    refine ht_iload_n (D 10 rfl) rfl rfl ?_
    refine kSX10_within (As := [_, _, _]) cl_X10_263 (D 11 rfl) (sm_within _ _ _) rfl (Nat.le_of_ble_eq_true rfl) rfl (Nat.le_of_ble_eq_true rfl) (by omega) ?_
    rintro rv σ1 ⟨rfl, rfl⟩
    refine ht_if_eq (tgt := 32) (D 12 rfl) (by decide) (fun hb20 => ?_) (fun hb20 => ?_)
    · skip
      have hng : ¬ (¬ nI (hN (V 33) mN) = 0 ∧ (0 ≤ x ∧ x ≤ nI (hN (V 33) mN)) ∧ (0 ≤ w ∧ w ≤ 1)) := fun q => b01_eq hb20 q.2.1
      refine ht_iconst (v := -1) (D 18 rfl) (by decide) ?_
      refine ht_iret (D 19 rfl) rfl rfl ?_
      exact QA_t (by unfold aAmn; rw [if_neg hng])
    · skip
      have hx9 := b01_ne hb20
      refine ht_iload_n (D 13 rfl) rfl rfl ?_
      refine ht_iconst (v := 0) (D 14 rfl) (by decide) ?_
      refine ht_iconst (v := 1) (D 15 rfl) (by decide) ?_
      refine kSX10_within (As := [_, _, _]) cl_X10_263 (D 16 rfl) (sm_within _ _ _) rfl (Nat.le_of_ble_eq_true rfl) rfl (Nat.le_of_ble_eq_true rfl) (by omega) ?_
      rintro rv σ1 ⟨rfl, rfl⟩
      refine ht_if_ne (tgt := 34) (D 17 rfl) (by decide) (fun hb29 => ?_) (fun hb29 => ?_)
      · skip
        have hw9 := b01_ne hb29
        obtain ⟨j, hj, hj2⟩ : ∃ j, j < hN (V 33) mN + 1 ∧ x = nI j := rng (by have := hN_le (V 33) mN; omega) ⟨hx9.1, by have h8 := hx9.2; rw [nI_succ]; have := hN_le (V 33) mN; simp only [i_lt, i_le] at h8 ⊢; rw [← nI_succ, nI_toInt (by omega)]; rw [nI_toInt (by omega)] at h8; omega⟩
        have hjc : (nI j).toNatClampNeg = j := nI_clamp (by have := hN_le (V 33) mN; omega)
        subst hj2
        have hHp : 0 < hN (V 33) mN := by
          rcases Nat.eq_zero_or_pos (hN (V 33) mN) with h9 | h9
          · rw [h9] at hb11
            exact absurd rfl hb11
          · exact h9
        have hg0 : 0 < Nat.gcd j (hN (V 33) mN) := Nat.gcd_pos_of_pos_right j hHp
        have hgl : Nat.gcd j (hN (V 33) mN) ≤ hN (V 33) mN := Nat.gcd_le_right j hHp
        have hHl := hN_le (V 33) mN
        refine ht_iload_n (D 20 rfl) rfl rfl ?_
        refine ht_if_ne (tgt := 42) (D 21 rfl) (by decide) (fun hb35 => ?_) (fun hb35 => ?_)
        · skip
          refine ht_iload_n (D 24 rfl) rfl rfl ?_
          refine ht_iload_n (D 25 rfl) rfl rfl ?_
          refine ht_iload_n (D 26 rfl) rfl rfl ?_
          refine kSX10_gcd (As := [_, _]) cl_X10_425 (D 27 rfl) (sm_gcd (p := j) (q := hN (V 33) mN) (by omega) (by omega)) rfl (Nat.le_of_ble_eq_true rfl) rfl (Nat.le_of_ble_eq_true rfl) (by omega) ?_
          rintro rv σ1 ⟨rfl, rfl⟩
          refine ht_idiv (D 28 rfl) (nI_ne0 hg0 (by omega)) ?_
          refine ht_iret (D 29 rfl) rfl rfl ?_
          exact QA_t (by unfold aAmn; rw [if_pos ⟨hb11, hx9, hw9⟩, hjc]; first | rw [if_pos hb35] | rw [if_neg hb35]
                         rw [pk_div (by omega) hg0 (by omega)])
        · skip
          refine ht_iload_n (D 22 rfl) rfl rfl ?_
          refine ht_goto (tgt := 43) (D 23 rfl) (by decide) ?_
          refine ht_iload_n (D 25 rfl) rfl rfl ?_
          refine ht_iload_n (D 26 rfl) rfl rfl ?_
          refine kSX10_gcd (As := [_, _]) cl_X10_425 (D 27 rfl) (sm_gcd (p := j) (q := hN (V 33) mN) (by omega) (by omega)) rfl (Nat.le_of_ble_eq_true rfl) rfl (Nat.le_of_ble_eq_true rfl) (by omega) ?_
          rintro rv σ1 ⟨rfl, rfl⟩
          refine ht_idiv (D 28 rfl) (nI_ne0 hg0 (by omega)) ?_
          refine ht_iret (D 29 rfl) rfl rfl ?_
          exact QA_t (by unfold aAmn; rw [if_pos ⟨hb11, hx9, hw9⟩, hjc]; first | rw [if_pos hb35] | rw [if_neg hb35]
                         rw [pk_div (by omega) hg0 (by omega)])
      · skip
        have hng : ¬ (¬ nI (hN (V 33) mN) = 0 ∧ (0 ≤ x ∧ x ≤ nI (hN (V 33) mN)) ∧ (0 ≤ w ∧ w ≤ 1)) := fun q => b01_eq hb29 q.2.2
        refine ht_iconst (v := -1) (D 18 rfl) (by decide) ?_
        refine ht_iret (D 19 rfl) rfl rfl ?_
        exact QA_t (by unfold aAmn; rw [if_neg hng])
def thF (gw : Option GWt) (h t : Nat) : Nat → Int32
  | 0 => -1
  | n + 1 => if 0 ≤ dgF gw (h + t) 0 then nI t else thF gw h (t + 1) n
theorem thF_n {gw : Option GWt} {h t n : Nat} (hn : ¬ 0 ≤ dgF gw (h + t) 0) : thF gw h t (n + 1) = thF gw h (t + 1) n := by
  conv => lhs; unfold thF
  rw [if_neg hn]
def aThaw (gw : Option GWt) (h : Nat) (w : Int32) : Int32 := if 1 ≤ w ∧ w ≤ 240 then thF gw h 0 (w.toNatClampNeg + 1) else -1
set_option maxRecDepth 100000 in
theorem sm_thaw (hM : MS σ m) {gw : Option GWt} (hW : LnW V gw) {h : Nat} (hh : V 33 80 = nI h) (h31 : h < 2 ^ 30) (w : Int32) : Sp G mX10_thaw 4 [.ref m, .int w] (sv σ m V U) (QA σ m V (aThaw gw h w) (V 33)) := by
  have D := dat dl_X10_thaw
  show HT G mX10_thaw 0 [some (.ref m), some (.int w), none] [] (sv σ m V U) 4 _
  refine ht_aload_n (D 0 rfl) rfl rfl ?_
  refine ht_iconst (v := 0) (D 1 rfl) (by decide) ?_
  refine pm_X10_135 hM rfl (D 2 rfl) ?_
  show HT _ _ _ _ _ (sv σ m (tz V) U) _ _
  refine ht_iload_n (D 3 rfl) rfl rfl ?_
  refine kSX10_isSome (As := [_]) cl_X10_400 (D 4 rfl) (sm_isSome w) rfl (Nat.le_of_ble_eq_true rfl) rfl (Nat.le_of_ble_eq_true rfl) (by omega) ?_
  rintro rv σ1 ⟨rfl, rfl⟩
  refine ht_if_ne (tgt := 14) (D 5 rfl) (by decide) (fun hb9 => ?_) (fun hb9 => ?_)
  · skip
    have hw9 := b01_ne hb9
    obtain ⟨n, hn1, hn2⟩ : ∃ n, n < 241 ∧ w = nI n := rng (by decide) ⟨by have h8 := hw9.1; simp only [i_lt, i_le] at h8 ⊢; have e1 : (1 : Int32).toInt = 1 := rfl; have e0 : (0 : Int32).toInt = 0 := rfl; omega, by have h8 := hw9.2; simp only [i_lt, i_le] at h8 ⊢; have e1 : (240 : Int32).toInt = 240 := rfl; have e0 : (nI 241).toInt = 241 := rfl; omega⟩
    subst hn2
    refine ht_iconst (v := 0) (D 8 rfl) (by decide) ?_
    refine ht_istore_n (D 9 rfl) rfl (by decide) rfl ?_
    have loop : ∀ (r j : Nat) (V1 : VT), j + r = n + 1 → Sc (tz V) V1 → thF gw h j r = aThaw gw h (nI n) → HT G mX10_thaw 16 [some (.ref m), some (.int (nI n)), some (.int (nI j))] [] (sv σ m V1 U) 4 (QA σ m V (aThaw gw h (nI n)) (V 33)) := by
      intro r
      induction r using Nat.strongRecOn with
      | _ r ih =>
        intro j V1 hj hs1 hth
        refine ht_iload_n (D 10 rfl) rfl rfl ?_
        refine ht_iload_n (D 11 rfl) rfl rfl ?_
        refine ht_icmp_gt (tgt := 46) (D 12 rfl) (by decide) (fun hb18 => ?_) (fun hb18 => ?_)
        · skip
          have hr0 : r = 0 := by have h9 := (nI_ltI (a := n) (b := j) (by omega) (by omega)).mp hb18; omega
          subst hr0
          refine ht_iconst (v := -1) (D 27 rfl) (by decide) ?_
          refine ht_iret (D 28 rfl) rfl rfl ?_
          exact ⟨by rw [← hth]; rfl, V1, U, rfl, ⟨fun o h1 h2 h3 => (hs1 o (fun q => h2 ⟨q.1, by omega⟩)).trans (tz_o V (by omega)), by rw [hs1 0 (by decide)]; exact ⟨up2_k V 0 (by decide), up2_k V 0 (by decide)⟩⟩, by rw [hs1.s33, tz_o V (show (33 : Nat) ≠ 0 by decide)]⟩
        · skip
          obtain ⟨r2, rfl⟩ : ∃ r2, r = r2 + 1 := ⟨r - 1, by have h9 := mt (nI_ltI (a := n) (b := j) (by omega) (by omega)).mpr hb18; omega⟩
          refine ht_aload_n (D 13 rfl) rfl rfl ?_
          refine ht_aload_n (D 14 rfl) rfl rfl ?_
          refine gf_X10_108 rfl (D 15 rfl) hM.k0 hM.q33 ?_
          refine ht_bipush (v := 80) (D 16 rfl) (by decide) ?_
          refine hm_ild (o := 33) (n := 80) (by decide) (D 17 rfl) hM.k33 hM.n33 (by first | rfl | exact nI_add _ _ | assumption) (by omega) (by decide) ?_
          refine ht_iload_n (D 18 rfl) rfl rfl ?_
          refine ht_iadd (D 19 rfl) ?_
          rw [show V1 33 80 = nI h by rw [hs1.s33, tz_o V (show (33 : Nat) ≠ 0 by decide)]; exact hh, nI_add]
          refine ht_iconst (v := 0) (D 20 rfl) (by decide) ?_
          refine kVX10_degreesAt (As := [_, _]) cl_X10_347 (D 21 rfl) (sm_degreesAt hM ((hW.dz (tz_dz V)).dy hs1.dy) (by omega) 0) hM.k0 rfl (Nat.le_of_ble_eq_true rfl) rfl (Nat.le_of_ble_eq_true rfl) (by omega) ?_
          rintro rv σ1 ⟨rfl, V2, rfl, hs2⟩
          refine ht_if_lt (tgt := 40) (D 22 rfl) (by decide) (fun hb35 => ?_) (fun hb35 => ?_)
          · skip
            refine ht_iinc (v := nI (j + 1)) (D 25 rfl) rfl (nI_i1 _) (by decide) rfl ?_
            refine ht_goto (tgt := 16) (D 26 rfl) (by decide) ?_
            exact ih r2 (by omega) (j + 1) V2 (by omega) (hs1.tr hs2) (by rw [← hth, thF_n (by simp only [i_lt, i_le] at hb35 ⊢; omega)])
          · skip
            refine ht_iload_n (D 23 rfl) rfl rfl ?_
            refine ht_iret (D 24 rfl) rfl rfl ?_
            exact ⟨by rw [← hth]; unfold thF; rw [if_pos (by simp only [i_lt, i_le] at hb35 ⊢; omega)], V2, U, rfl, ⟨fun o h1 h2 h3 => ((hs1.tr hs2) o (fun q => h2 ⟨q.1, by omega⟩)).trans (tz_o V (by omega)), by rw [(hs1.tr hs2) 0 (by decide)]; exact ⟨up2_k V 0 (by decide), up2_k V 0 (by decide)⟩⟩, by rw [(hs1.tr hs2).s33, tz_o V (show (33 : Nat) ≠ 0 by decide)]⟩
    exact ht_cast (loop (n + 1) 0 (tz V) (by omega) (Sc.rf _) (by unfold aThaw; rw [if_pos hw9, nI_clamp (by omega)])) rfl rfl rfl
  · skip
    have hno2 := b01_eq hb9
    refine ht_iconst (v := -1) (D 6 rfl) (by decide) ?_
    refine ht_iret (D 7 rfl) rfl rfl ?_
    exact QA_t (by unfold aThaw; rw [if_neg hno2])
end M7
