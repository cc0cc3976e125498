/-! ===== the class: plan itself ===== -/
section C18
variable {G : GG} {σ : Hp} {Z : VT} {xo b : Nat} {V : VT} {cN dN mN gk : Nat} {gw : Option GWt} {gi : Option GIt}
theorem sb_one {n m : Nat} (hn : n < 8) (hm : m < 8) : sb (1 <<< (nI n &&& 31)) (nI m) ↔ m = n := by
  have q := sb_or 0 (c := n) (e := m) hn hm
  rw [Int32.zero_or] at q
  rw [q]
  constructor
  · rintro (h | h)
    · exact h
    · exact absurd ((sb_lsb 0 hm).mp h) (by simp)
  · exact Or.inl
theorem pl_none {S : ST} {pcs : Nat → Nat} {W : WT} (hP : PL V cN dN mN gk) (hS : ∀ d, d < dN → S d = nI (pcs d) ∧ pcs d ≤ 99) (hO : Opt V cN dN (wd pcs) W) {n : Nat} (hn : n < cN) (hx : W n = none) (b0 : Int32) (F1 F2 : ST) (w : Int32) : plA (plQ V S dN (nI n) b0 F1 F2) w = -1 := by
  have h8 := hP.1.2
  have hq0 : OkQ (-1, b0, F1, F2) := Or.inl rfl
  obtain ⟨a1, -, a3⟩ := tr_ac hP hS hO 9 (nI n) (1 <<< (nI n &&& 31)) 0 0 (-1, b0, F1, F2) (Or.inr ⟨n, hn, rfl, by rw [un_one (by omega)]; omega, by rw [un_one (by omega)]; omega⟩) (Or.inr ⟨n, hn, rfl⟩) (by omega) hq0
  have a4 : bq (plQ V S dN (nI n) b0 F1 F2) = none := by
    cases hb : bq (plQ V S dN (nI n) b0 F1 F2) with
    | none => rfl
    | some β =>
      exfalso
      have := (a3 (β + 1) (fun x h => by rw [wo_c _ (by omega), hx] at h; cases h)).1 (fun β h => by rw [bq_n rfl] at h; cases h) β hb
      omega
  have a5 : (plQ V S dN (nI n) b0 F1 F2).1 < 0 := by
    rcases a1 with h | ⟨s, l, q1, q2, q3, q4⟩
    · have h2 : (plQ V S dN (nI n) b0 F1 F2).1 = -1 := h
      rw [h2]; decide
    · have := bq_s (q := plQ V S dN (nI n) b0 F1 F2) q1 q2 q3 q4
      rw [a4] at this
      cases this
  unfold plA
  rw [if_pos a5]
theorem pl_key {S : ST} {pcs : Nat → Nat} {W : WT} (hP : PL V cN dN mN gk) (hS : ∀ d, d < dN → S d = nI (pcs d) ∧ pcs d ≤ 99) (hO : Opt V cN dN (wd pcs) W) {n : Nat} (hn : n < cN) {ds : List Nat} (hg : GP V cN dN (wd pcs) W ds (nI n)) (b0 : Int32) (F1 F2 : ST) : (plQ V S dN (nI n) b0 F1 F2).1 = nI (cs pcs ds) ∧ (plQ V S dN (nI n) b0 F1 F2).2.1 = nI ds.length ∧ ds.length ≤ 8 ∧ cs pcs ds ≤ 160 ∧ ∀ i, i < ds.length → (plQ V S dN (nI n) b0 F1 F2).2.2.1 i = nI (ds.getD i 0) := by
  have h8 := hP.1.2
  have key := tr_b hP hS hO ds 9 (nI n) (1 <<< (nI n &&& 31)) 0 0 (-1, b0, F1, F2) (Or.inr ⟨n, hn, rfl, by rw [un_one (by omega)]; omega, by rw [un_one (by omega)]; omega⟩) (Or.inr ⟨n, hn, rfl⟩) (by omega) (Or.inl rfl) hg (by
    intro m hm hs y hy
    have e := (sb_one (by omega) (by omega)).mp hs
    have q := gp_wo h8 ds _ hg
    rw [wo_c _ (by omega), ← e, hy] at q
    rw [Option.some.inj q]
    exact Nat.le_refl _) (fun β h => by rw [bq_n rfl] at h; cases h)
  obtain ⟨r1, r2, r3, r4, -, r6⟩ := key
  rw [Nat.zero_add] at r1 r2 r3 r4
  refine ⟨r1, r2, r3, by omega, fun i hi => ?_⟩
  have z := r6 i hi
  rw [Nat.zero_add] at z
  exact z
theorem pl_some {S : ST} {pcs : Nat → Nat} {W : WT} (hP : PL V cN dN mN gk) (hS : ∀ d, d < dN → S d = nI (pcs d) ∧ pcs d ≤ 99) (hO : Opt V cN dN (wd pcs) W) {n : Nat} (hn : n < cN) {ds : List Nat} (hg : GP V cN dN (wd pcs) W ds (nI n)) : ds.length ≤ 8 ∧ cs pcs ds ≤ 160 ∧ ∀ (b0 : Int32) (F1 F2 : ST) (w : Int32), plA (plQ V S dN (nI n) b0 F1 F2) w = if w = 0 then nI (cs pcs ds) else if w = 1 then nI ds.length else if w - 2 < nI ds.length then (plQ V S dN (nI n) b0 F1 F2).2.2.1 (w - 2).toNatClampNeg else -1 := by
  have k0 := pl_key hP hS hO hn hg 0 (fun _ => 0) (fun _ => 0)
  refine ⟨k0.2.2.1, k0.2.2.2.1, fun b0 F1 F2 w => ?_⟩
  obtain ⟨r1, r2, r3, r4, -⟩ := pl_key hP hS hO hn hg b0 F1 F2
  unfold plA
  rw [r1, r2, if_neg (nI_pos (by omega))]
set_option maxRecDepth 100000 in
theorem sc_plan (hE : NE G) (hC : CW σ Z xo b V cN dN mN gk gw gi) (hbar : Z (xo + 14) 2 = -1) (hmn : Mn (nv dN Z (xo + 14)) cN mN) (hlk : LkI (nv dN Z (xo + 14)) dN) (x w : Int32) : Sp G mX9_plan 3 [.ref xo, .int x, .int w] (cv σ Z) (fun rv σ' => ∃ r : Int32, QC σ xo b dN Z r (nv dN Z (xo + 14)) rv σ' ∧ (¬ aPlOk (nv dN Z (xo + 14)) mN x w → r = -1) ∧ (aPlOk (nv dN Z (xo + 14)) mN x w → ∀ (b0 : Int32) (F1 F2 : ST), r = plA (plQ V (nv dN Z (xo + 14)) dN (nv dN Z (xo + 14) (68 + x.toNatClampNeg)) b0 F1 F2) w)) := by
  have D := dat dl_X9_plan
  show HT G mX9_plan 0 [some (.ref xo), some (.int x), some (.int w), none, none, none] [] (cv σ Z) 3 _
  have hX := hC.1
  have hW := hC.2.1
  have h10 := hW.d10
  have h8 := hW.c8
  have h6 := hW.m6
  have h2 := hW.g2
  obtain ⟨pcs, hpcS⟩ : ∃ pcs : Nat → Nat, ∀ d, d < dN → nv dN Z (xo + 14) d = nI (pcs d) ∧ pcs d ≤ 99 := by
    refine ⟨fun d => (nv dN Z (xo + 14) d).toNatClampNeg, fun d hd => ?_⟩
    obtain ⟨p, p1, p2⟩ := hlk.ice hd
    show nv dN Z (xo + 14) d = nI (nv dN Z (xo + 14) d).toNatClampNeg ∧ (nv dN Z (xo + 14) d).toNatClampNeg ≤ 99
    rw [p2, nI_clamp (by omega)]
    exact ⟨rfl, p1⟩
  have hpc : ∀ d, d < dN → Z (xo + 14 + 6 + d) 0 = nI (pcs d) ∧ pcs d ≤ 99 := fun d hd => by
    rw [← nv_ice dN Z (xo + 14) (show d < 10 by omega)]
    exact hpcS d hd
  refine ht_aload_n (D 0 rfl) rfl rfl ?_
  refine ht_iload_n (D 1 rfl) rfl rfl ?_
  refine kVX9_isHeld (As := [_]) cl_X9_154 (D 2 rfl) (sc_isHeld hE hC hbar hmn x) hX.k0 rfl (Nat.le_of_ble_eq_true rfl) rfl (Nat.le_of_ble_eq_true rfl) (by omega) ?_
  rintro _ _ ⟨⟨y, rfl, hy⟩, rfl⟩
  refine ht_if_eq (tgt := 12) (D 3 rfl) (by decide) (fun hb5 => ?_) (fun hb5 => ?_)
  · skip
    have hnh := hd_0 hy hb5
    refine ht_iconst (v := -1) (D 6 rfl) (by decide) ?_
    refine ht_iret (D 7 rfl) rfl rfl ?_
    first
    | exact ⟨-1, QC_t hbar rfl, fun _ => rfl, fun q => absurd q.1 hnh⟩
    | exact ⟨-1, QC_t hbar rfl, fun _ => rfl, fun q => absurd q.2.1 hb9⟩
  · skip
    have hhe := hd_1 hy hb5
    obtain ⟨k, hk1, rfl⟩ := rng (by omega) hhe.1
    have hkc : (nI k).toNatClampNeg = k := nI_clamp (by omega)
    refine ht_iload_n (D 4 rfl) rfl rfl ?_
    refine ht_if_ge (tgt := 14) (D 5 rfl) (by decide) (fun hb9 => ?_) (fun hb9 => ?_)
    · skip
      refine ht_aload_n (D 8 rfl) rfl rfl ?_
      refine kVX9_weighWays (As := []) cl_X9_201 (D 9 rfl) (sc_weighWays hC hpc) hX.k0 rfl (Nat.le_of_ble_eq_true rfl) rfl (Nat.le_of_ble_eq_true rfl) (by omega) ?_
      rintro _ _ ⟨rfl, Z1, rfl, hd1, hR1⟩
      have hC1 := hC.keep (Z2 := Z1) (fun q hq => hd1 q (fun e => hq (Or.inl ⟨by omega, by omega⟩)))
      have hpc1 : ∀ d, d < dN → Z1 (xo + 14 + 6 + d) 0 = nI (pcs d) ∧ pcs d ≤ 99 := fun d hd => by rw [hd1 _ (by omega)]; exact hpc d hd
      have hq1 : ∀ r : Int32, QC σ xo b dN Z r (nv dN Z (xo + 14)) (some (.int r)) (cv σ Z1) := fun r => QC_k rfl (fun q hq => hd1 q (fun e => hq (Or.inl ⟨by omega, by omega⟩))) (nv_fr (fun i i1 _ _ => hd1 _ (by omega))) (by rw [hd1 _ (by omega)]; exact hbar)
      obtain ⟨n, n1, n2⟩ : ∃ n, n < cN ∧ nv dN Z (xo + 14) (68 + k) = nI n := by
        rcases hmn k hk1 with e | e
        · have := hhe.2; rw [nI_clamp (by omega), e] at this; exact absurd this (by decide)
        · exact e
      have hman : Z1 (xo + 14 + 2) k = nI n := by rw [hd1 _ (by omega), ← nv_man dN Z (xo + 14) (show k < 6 by omega)]; exact n2
      have hO := rdN_opt hW.pl hW.px.2.2.1 (wd pcs)
      generalize rdN V (wd pcs) dN (fun _ => none) cN = W at hR1 hO
      refine ht_aload_n (D 10 rfl) rfl rfl ?_
      refine gf_X9_24 rfl (D 11 rfl) hX.k0 hX.q1 ?_
      refine gf_X9_131 rfl (D 12 rfl) hX.nt.k0 hX.nt.q2 ?_
      refine ht_iload_n (D 13 rfl) rfl rfl ?_
      refine hi_ild (n := k) (D 14 rfl) hX.nt.k2 hX.nt.n2 rfl (by omega) (by first | decide | omega) ?_
      rw [hman]
      refine ht_istore_n (D 15 rfl) rfl (by decide) rfl ?_
      refine ht_aload_n (D 16 rfl) rfl rfl ?_
      refine gf_X9_48 rfl (D 17 rfl) hX.k0 hX.q8 ?_
      refine ht_iload_n (D 18 rfl) rfl rfl ?_
      refine hi_ild (n := n) (D 19 rfl) hX.k8 hX.n8 rfl (by omega) (by first | decide | omega) ?_
      rw [(hR1 n (by omega)).1]
      refine ht_istore (D 20 rfl) (by decide) rfl ?_
      refine ht_iload (D 21 rfl) rfl ?_
      refine ht_iconst (v := -1) (D 22 rfl) (by decide) ?_
      refine ht_icmp_ne (tgt := 44) (D 23 rfl) (by decide) (fun hb39 => ?_) (fun hb39 => ?_)
      · skip
        obtain ⟨xx, hxx⟩ : ∃ xx, W n = some xx := by
          cases hq : W n with
          | none => exact absurd (by rw [hq]; rfl) hb39
          | some xx => exact ⟨xx, rfl⟩
        obtain ⟨ds, hgp, hds⟩ := gp_ex hW.pl (w := wd pcs) (fun d => by unfold wd; omega) hO xx (nI n) (Or.inr ⟨n, n1, rfl⟩) (by rw [wo_c _ (by omega)]; exact hxx)
        obtain ⟨p1, p2, p3⟩ := pl_some hW.pl hpcS hO n1 hgp
        have hWx : W n = some (wt (wd pcs) ds) := by rw [hds]; exact hxx
        have hwt := wt_cs pcs ds
        refine ht_iload_n (D 26 rfl) rfl rfl ?_
        refine ht_if_ne (tgt := 54) (D 27 rfl) (by decide) (fun hb45 => ?_) (fun hb45 => ?_)
        · skip
          refine ht_iload (D 32 rfl) rfl ?_
          refine ht_bipush (v := 100) (D 33 rfl) (by decide) ?_
          refine ht_irem (D 34 rfl) (by decide) ?_
          rw [hWx]
          rw [show enc (some (wt (wd pcs) ds)) = nI (wt (wd pcs) ds) from rfl, show (100 : Int32) = nI 100 from rfl, pk_rem (by omega) (by decide) (by decide), show wt (wd pcs) ds % 100 = ds.length by omega]
          refine ht_istore (D 35 rfl) (by decide) rfl ?_
          refine ht_iload_n (D 36 rfl) rfl rfl ?_
          refine ht_iconst (v := 1) (D 37 rfl) (by decide) ?_
          refine ht_icmp_ne (tgt := 69) (D 38 rfl) (by decide) (fun hb63 => ?_) (fun hb63 => ?_)
          · skip
            refine ht_iload_n (D 41 rfl) rfl rfl ?_
            refine ht_iconst (v := 2) (D 42 rfl) (by decide) ?_
            refine ht_isub (D 43 rfl) ?_
            refine ht_iload (D 44 rfl) rfl ?_
            refine ht_icmp_ge (tgt := 88) (D 45 rfl) (by decide) (fun hb74 => ?_) (fun hb74 => ?_)
            · skip
              have hw2 : ¬ w - 2 < nI ds.length := Int32.not_lt.mpr hb74
              refine ht_iconst (v := -1) (D 53 rfl) (by decide) ?_
              refine ht_iret (D 54 rfl) rfl rfl ?_
              first
              | exact ⟨_, hq1 _, fun q => absurd hfin0 q, fun _ => hfin⟩
              | (refine ⟨-1, hq1 _, fun _ => rfl, fun q b0 F1 F2 => ?_⟩
                 rw [hkc, n2, p3 b0 F1 F2 w, if_neg (show ¬ w = 0 from hb45), if_neg (show ¬ w = 1 from hb63), if_neg hw2])
            · skip
              have hw2 : ¬ nI ds.length ≤ w - 2 := hb74
              have hwpos : 2 ≤ w.toInt := by
                have a1 : ¬ w = 0 := hb45
                have a2 : ¬ w = 1 := hb63
                have a3 : 0 ≤ w.toInt := by rw [i_le] at hb9; exact hb9
                have z1 : (1 : Int32).toInt = 1 := rfl
                have z0 : (0 : Int32).toInt = 0 := rfl
                have : w.toInt ≠ 0 := fun e => a1 (Int32.toInt_inj.mp (e.trans z0.symm))
                have : w.toInt ≠ 1 := fun e => a2 (Int32.toInt_inj.mp (e.trans z1.symm))
                omega
              have hwl := w.toInt_lt
              have hw3 : (w - 2).toInt = w.toInt - 2 := by
                have z2 : (2 : Int32).toInt = 2 := rfl
                rw [xi_sub] <;> rw [z2] <;> omega
              obtain ⟨u, hu2, hu⟩ : ∃ u : Nat, w - 2 = nI u ∧ u < ds.length := by
                refine ⟨(w - 2).toInt.toNat, xi_nat (by omega), ?_⟩
                rw [i_le, nI_toInt (by omega)] at hw2
                omega
              refine ht_aload_n (D 46 rfl) rfl rfl ?_
              refine ht_iload_n (D 47 rfl) rfl rfl ?_
              refine ht_iload_n (D 48 rfl) rfl rfl ?_
              refine ht_iconst (v := 2) (D 49 rfl) (by decide) ?_
              refine ht_isub (D 50 rfl) ?_
              rw [hu2]
              refine kVX9_doorOfWay (As := [_, _]) cl_X9_204 (D 51 rfl) (sc_doorOfWay hC1 hpc1 hR1 (i := u) (by omega) hgp hu) hX.k0 rfl (Nat.le_of_ble_eq_true rfl) rfl (Nat.le_of_ble_eq_true rfl) (by omega) ?_
              rintro _ _ ⟨rfl, rfl⟩
              have hfin0 : aPlOk (nv dN Z (xo + 14)) mN (nI k) w := by
                refine ⟨hhe, hb9, ?_⟩
                rw [i_le, show (9 : Int32).toInt = 9 from rfl]
                have e := congrArg Int32.toInt hu2
                rw [hw3, nI_toInt (by omega)] at e
                omega
              have hfin : ∀ (b0 : Int32) (F1 F2 : ST), nI (ds.getD u 0) = plA (plQ V (nv dN Z (xo + 14)) dN (nv dN Z (xo + 14) (68 + (nI k).toNatClampNeg)) b0 F1 F2) w := fun b0 F1 F2 => by
                rw [hkc, n2, p3 b0 F1 F2 w, if_neg (show ¬ w = 0 from hb45), if_neg (show ¬ w = 1 from hb63), if_pos (Int32.not_le.mp hw2), hu2, nI_clamp (by omega)]
                exact ((pl_key hW.pl hpcS hO n1 hgp b0 F1 F2).2.2.2.2 u hu).symm
              refine ht_goto (tgt := 89) (D 52 rfl) (by decide) ?_
              refine ht_iret (D 54 rfl) rfl rfl ?_
              first
              | exact ⟨_, hq1 _, fun q => absurd hfin0 q, fun _ => hfin⟩
              | (refine ⟨-1, hq1 _, fun _ => rfl, fun q b0 F1 F2 => ?_⟩
                 rw [hkc, n2, p3 b0 F1 F2 w, if_neg (show ¬ w = 0 from hb45), if_neg (show ¬ w = 1 from hb63), if_neg hw2])
          · skip
            refine ht_iload (D 39 rfl) rfl ?_
            refine ht_iret (D 40 rfl) rfl rfl ?_
            refine ⟨_, hq1 _, fun q => absurd ⟨hhe, by rw [show w = 1 from hb63]; decide⟩ q, fun q b0 F1 F2 => ?_⟩
            rw [hkc, n2, p3 b0 F1 F2 w, if_neg (show ¬ w = 0 from hb45), if_pos (show w = 1 from hb63)]
        · skip
          refine ht_iload (D 28 rfl) rfl ?_
          refine ht_bipush (v := 100) (D 29 rfl) (by decide) ?_
          refine ht_idiv (D 30 rfl) (by decide) ?_
          rw [hWx]
          rw [show enc (some (wt (wd pcs) ds)) = nI (wt (wd pcs) ds) from rfl, show (100 : Int32) = nI 100 from rfl, pk_div (by omega) (by decide) (by decide)]
          refine ht_iret (D 31 rfl) rfl rfl ?_
          refine ⟨_, hq1 _, fun q => absurd ⟨hhe, by rw [show w = 0 from hb45]; decide⟩ q, fun q b0 F1 F2 => ?_⟩
          rw [hkc, n2, p3 b0 F1 F2 w, if_pos (show w = 0 from hb45)]
          congr 1
          omega
      · skip
        have hnone : W n = none := (enc_m (B := 400000) (fun x hx => (hR1 n (by omega)).2 x hx) (by omega)).mp hb39
        refine ht_iconst (v := -1) (D 24 rfl) (by decide) ?_
        refine ht_iret (D 25 rfl) rfl rfl ?_
        exact ⟨-1, hq1 _, fun _ => rfl, fun q b0 F1 F2 => by rw [hkc, n2]; exact (pl_none hW.pl hpcS hO n1 hnone b0 F1 F2 w).symm⟩
    · skip
      refine ht_iconst (v := -1) (D 6 rfl) (by decide) ?_
      refine ht_iret (D 7 rfl) rfl rfl ?_
      first
      | exact ⟨-1, QC_t hbar rfl, fun _ => rfl, fun q => absurd q.1 hnh⟩
      | exact ⟨-1, QC_t hbar rfl, fun _ => rfl, fun q => absurd q.2.1 hb9⟩
end C18
