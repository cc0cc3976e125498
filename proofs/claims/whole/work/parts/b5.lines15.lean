/-! ===== the reference: a law of weather or of ice; all lines ===== -/
section S5
variable {G : GG} {σ : Hp} {m : Nat} {V V2 V0 : VT} {U U2 U0 : UT} {T : ST} {n p b e k c : Nat} {ice : Bool} {s : TD}
theorem DS.w30 (h : DS T n V0 U0 s ice p b e k c V U) (i2 : Bool) {x : Int32} (hx : x = (if i2 then 1 else 0)) : DS T n V0 U0 s i2 p b e k c (up2 V 0 30 x) U := by
  obtain ⟨⟨⟨a1, a2, a3, a4, a5, a6⟩, b1, b2, b3, b4, b5, b6⟩, h2, h3, h4, h5⟩ := h
  exact ⟨⟨⟨a1, (up2_k _ _ (by decide)).trans a2, (up2_k _ _ (by decide)).trans a3, (up2_k _ _ (by decide)).trans a4, a5, fun q => (up2_k _ _ (by decide)).trans (a6 q)⟩, (up2_o _ _ (by decide)).trans b1, (up2_k _ _ (by decide)).trans b2, (up2_s _ _ _ _).trans hx, (up2_k _ _ (by decide)).trans b4, b5, b6⟩, h2.w0 (by decide) _, h3, FR1_t h4 (FR1_w (Or.inl ⟨rfl, by decide⟩) _), h5⟩
theorem DS.nxi {σ' : Hp} (h : DS T n V0 U0 s ice p b e k c V U) (h2 : Nxt σ m V U T n ice e c σ') : ∃ (V2 : VT) (U2 : UT) (b2 e2 k2 : Nat), σ' = sv σ m V2 U2 ∧ DS T n V0 U0 s ice e b2 e2 k2 c V2 U2 := by
  obtain ⟨V2, U2, b2, e2, k2, h3, h4, h5, h6⟩ := h2
  exact ⟨V2, U2, b2, e2, k2, h3, h6, h.2.1.nf h4 h5, h.2.2.1, FR1_t h.2.2.2.1 (FR1_nf h4), UR1_t h.2.2.2.2 (UR1_nu h5)⟩
theorem lnX_n (ice : Bool) : lnX ice = 2 ∨ lnX ice = 3 := by cases ice <;> simp [lnX]
theorem DS.fm {E : EX} {q b3 e3 k3 : Nat} (h : DS T n V0 U0 s ice p b e k c V U) (hn : tdF s ice = none) (hH : HD T n ice q b3 e3 k3 (c + E.1.length) V2 U2) (hf : FQ c (up2 V 18 (lnX ice) (nI c)) V2) (hu : NU U U2) (hcd : CDs (V2 20) c E.1) : DS T n V0 U0 (asF s ice E) ice q b3 e3 k3 (c + E.1.length) (up2 V2 19 (lnX ice) (nI (c + E.1.length))) U2 := by
  have hl := lnX_n ice
  obtain ⟨h1, ⟨⟨a0, a1, a2, a3, a4⟩, a5, a6, a7, a8, a9⟩, h3, h4, h5⟩ := h
  have e2 : ∀ o i, 2 ≤ o → o ≤ 17 → up2 V2 19 (lnX ice) (nI (c + E.1.length)) o i = V o i := fun o i q1 q2 => by
    rw [up2_a _ _ (by omega), hf.1 o (by omega) (by omega) (by omega) (by omega), up2_a _ _ (by omega)]
  have e18 : ∀ i, up2 V2 19 (lnX ice) (nI (c + E.1.length)) 18 i = up2 V 18 (lnX ice) (nI c) 18 i := fun i => by
    rw [up2_a _ _ (by omega), hf.1 18 (by omega) (by omega) (by omega) (by omega)]
  have e19 : ∀ i, i ≠ lnX ice → up2 V2 19 (lnX ice) (nI (c + E.1.length)) 19 i = V 19 i := fun i q => by
    rw [up2_k _ _ q, hf.1 19 (by omega) (by omega) (by omega) (by omega), up2_a _ _ (by omega)]
  have e20 : ∀ i, i < c → up2 V2 19 (lnX ice) (nI (c + E.1.length)) 20 i = V 20 i := fun i q => by
    rw [up2_a _ _ (by omega), hf.2.2.1 i q, up2_a _ _ (by omega)]
  refine ⟨hH.wo (by decide) _ _, ⟨⟨(e2 2 1 (by decide) (by decide)).trans a0, (e2 3 1 (by decide) (by decide)).trans a1, (e2 4 1 (by decide) (by decide)).trans a2, (e2 5 1 (by decide) (by decide)).trans a3, (e2 6 1 (by decide) (by decide)).trans a4⟩, ?_, fun o i ho hi hw => (e2 o _ (by omega) (by omega)).trans (a6 o i ho hi hw), fun g hg => (e2 16 _ (by decide) (by decide)).trans (a7 g hg), ⟨fun i hi => ?_, fun i hi => ?_⟩, fun i2 => ?_⟩, by omega, ?_, UR1_t h5 (UR1_nu hu)⟩
  · rw [up2_a _ _ (by decide), hf.2.1 31 (by decide) (by decide) (by decide) (by decide) (by decide) (by decide), up2_a _ _ (by decide)]; exact a5
  · rw [hu 7 i (by omega)]; exact a8.1 i hi
  · rw [hu 8 i (by omega)]; exact a8.2 i hi
  · by_cases qi : i2 = ice
    · subst qi
      refine ⟨fun z => ?_, fun E2 z => ?_⟩
      · have z2 : (if i2 = i2 then some E else tdF s i2) = none := z
        rw [if_pos rfl] at z2; cases z2
      · have z2 : (if i2 = i2 then some E else tdF s i2) = some E2 := z
        rw [if_pos rfl] at z2
        cases z2
        refine ⟨c, h3, Nat.le_refl _, (e18 _).trans (up2_s _ _ _ _), up2_s _ _ _ _, fun j y hy => ?_⟩
        rw [up2_a _ _ (by decide)]
        exact hcd j y hy
    · have hqi : lnX i2 ≠ lnX ice := by
        revert qi
        cases i2 <;> cases ice <;> decide
      have eF : tdF (asF s ice E) i2 = tdF s i2 := if_neg qi
      rw [eF]
      refine ⟨fun z => ?_, fun E2 z => ?_⟩
      · obtain ⟨x1, x2⟩ := (a9 i2).1 z
        exact ⟨(e18 _).trans ((up2_k _ _ hqi).trans x1), (e19 _ hqi).trans x2⟩
      · obtain ⟨f, x1, x2, x3, x4, x5⟩ := (a9 i2).2 E2 z
        refine ⟨f, x1, by omega, (e18 _).trans ((up2_k _ _ hqi).trans x3), (e19 _ hqi).trans x4, fun j y hy => ?_⟩
        have hj := (List.getElem?_eq_some_iff.mp hy).1
        rw [e20 _ (by omega)]
        exact x5 j y hy
  · exact FR1_t h4 (FR1_t (FR1_w (Or.inr (Or.inr (Or.inr (Or.inl ⟨by decide, by decide, by omega, by omega⟩)))) _) (FR1_t (FR1_fq h3 hf) (FR1_w (Or.inr (Or.inr (Or.inr (Or.inl ⟨by decide, by decide, by omega, by omega⟩)))) _)))
set_option maxRecDepth 100000 in
theorem sr_lawW (hM : MS σ m) (hH : DS T n V0 U0 s ice p b e k c V U) (hV : TV T n s) {res : Rl} (hln : lnF T n s false b e (nEnd T n) res) : Sp G mX10_readsLaw 3 [.ref m, .int 0] (sv σ m V U) (QM σ m T n V0 U0 res) := by
  have D := dat dl_X10_readsLaw
  have hpn := hH.le
  have hle := TK_le hH.tk
  show HT G mX10_readsLaw 0 [some (.ref m), some (.int 0)] [] (sv σ m V U) 3 _
  rcases hln with ⟨hto, hres⟩ | ⟨hno, rs, hR, hrr⟩
  · obtain ⟨E0, hE0⟩ := Option.ne_none_iff_exists'.mp hto
    obtain ⟨f, x1, x2, x3, x4, x5⟩ := (hH.2.1.2.2.2.2.2 false).2 E0 hE0
    have hpos : 0 < E0.1.length := by
      obtain ⟨p9, q9, h9⟩ := hV.2.2.2.2.2.2 false E0 hE0
      exact (h9 _ _ _ (ClR_l T n false) q9 E0 rfl).2
    refine ht_aload_n (D 0 rfl) rfl rfl ?_
    refine gf_X10_65 rfl (D 1 rfl) hM.k0 hM.q19 ?_
    refine ht_iconst (v := 2) (D 2 rfl) (by decide) ?_
    refine ht_iload_n (D 3 rfl) rfl rfl ?_
    refine ht_iadd (D 4 rfl) ?_
    refine hm_ild (o := 19) (n := 2) (by decide) (D 5 rfl) hM.k19 hM.n19 (by decide) (by decide) (by decide) ?_
    refine ht_aload_n (D 6 rfl) rfl rfl ?_
    refine gf_X10_62 rfl (D 7 rfl) hM.k0 hM.q18 ?_
    refine ht_iconst (v := 2) (D 8 rfl) (by decide) ?_
    refine ht_iload_n (D 9 rfl) rfl rfl ?_
    refine ht_iadd (D 10 rfl) ?_
    refine hm_ild (o := 18) (n := 2) (by decide) (D 11 rfl) hM.k18 hM.n18 (by decide) (by decide) (by decide) ?_
    rw [show V 19 2 = nI (f + E0.1.length) from x4, show V 18 2 = nI f from x3]
    refine ht_icmp_le (tgt := 25) (D 12 rfl) (by decide) (fun hb16 => ?_) (fun hb16 => ?_)
    · skip
      exact absurd ((nI_leI (a := f + E0.1.length) (b := f) (by omega) (by omega)).mp hb16) (by omega)
    · skip
      refine ht_aload_n (D 13 rfl) rfl rfl ?_
      refine ht_iconst (v := 3) (D 14 rfl) (by decide) ?_
      refine kVX10_fails (As := [_]) cl_X10_213 (D 15 rfl) (sr_fails hM hH 3) hM.k0 rfl (Nat.le_of_ble_eq_true rfl) rfl (Nat.le_of_ble_eq_true rfl) (by omega) ?_
      rintro _ σ9 ⟨rfl, hdf⟩
      refine ht_iret (D 16 rfl) rfl rfl ?_
      exact Or.inl ⟨_, hres, rfl, hdf⟩
  · obtain ⟨x3, x4⟩ := (hH.2.1.2.2.2.2.2 false).1 hno
    refine ht_aload_n (D 0 rfl) rfl rfl ?_
    refine gf_X10_65 rfl (D 1 rfl) hM.k0 hM.q19 ?_
    refine ht_iconst (v := 2) (D 2 rfl) (by decide) ?_
    refine ht_iload_n (D 3 rfl) rfl rfl ?_
    refine ht_iadd (D 4 rfl) ?_
    refine hm_ild (o := 19) (n := 2) (by decide) (D 5 rfl) hM.k19 hM.n19 (by decide) (by decide) (by decide) ?_
    refine ht_aload_n (D 6 rfl) rfl rfl ?_
    refine gf_X10_62 rfl (D 7 rfl) hM.k0 hM.q18 ?_
    refine ht_iconst (v := 2) (D 8 rfl) (by decide) ?_
    refine ht_iload_n (D 9 rfl) rfl rfl ?_
    refine ht_iadd (D 10 rfl) ?_
    refine hm_ild (o := 18) (n := 2) (by decide) (D 11 rfl) hM.k18 hM.n18 (by decide) (by decide) (by decide) ?_
    rw [show V 19 2 = nI 1000 from x4, show V 18 2 = nI 1000 from x3]
    refine ht_icmp_le (tgt := 25) (D 12 rfl) (by decide) (fun hb16 => ?_) (fun hb16 => ?_)
    · skip
      refine ht_aload_n (D 17 rfl) rfl rfl ?_
      refine ht_iload_n (D 18 rfl) rfl rfl ?_
      refine ht_iconst (v := 1) (D 19 rfl) (by decide) ?_
      refine ht_icmp_ne (tgt := 35) (D 20 rfl) (by decide) (fun hb28 => ?_) (fun hb28 => ?_)
      · skip
        skip
        refine ht_iconst (v := 0) (D 23 rfl) (by decide) ?_
        refine pm_X10_177 hM rfl (D 24 rfl) (by first | exact Or.inl rfl | exact Or.inr rfl | assumption) ?_
        have hH := hH.w30 false (x := 0) rfl
        refine ht_aload_n (D 25 rfl) rfl rfl ?_
        refine kVX10_nextToken (As := []) cl_X10_220 (D 26 rfl) (sm_nxH hM hH.1) hM.k0 rfl (Nat.le_of_ble_eq_true rfl) rfl (Nat.le_of_ble_eq_true rfl) (by omega) ?_
        rintro _ _ ⟨rfl, hnx⟩
        obtain ⟨V, U, b, e, k, rfl, hH⟩ := hH.nxi hnx
        refine ht_aload_n (D 27 rfl) rfl rfl ?_
        refine gf_X10_62 rfl (D 28 rfl) hM.k0 hM.q18 ?_
        refine ht_iconst (v := 2) (D 29 rfl) (by decide) ?_
        refine ht_iload_n (D 30 rfl) rfl rfl ?_
        refine ht_iadd (D 31 rfl) ?_
        refine ht_aload_n (D 32 rfl) rfl rfl ?_
        refine gm_X10_174 hM rfl (D 33 rfl) ?_
        rw [hH.1.2.2.2.2.1]
        refine hm_ist (o := 18) (n := 2) (by decide) (D 34 rfl) hM.k18 hM.n18 (by decide) (by decide) (by decide) ?_
        refine ht_aload_n (D 35 rfl) rfl rfl ?_
        refine kVX10_reads (As := []) cl_X10_270 (D 36 rfl) (sm_reads hM (hH.1.wo (o := 18) (by decide) 2 (nI c)) hR) hM.k0 rfl (Nat.le_of_ble_eq_true rfl) rfl (Nat.le_of_ble_eq_true rfl) (by omega) ?_
        rintro _ _ ⟨V2, U2, rfl, hfq, hnu2, ⟨f, hfz, rfl, hf9⟩ | ⟨q1, E1, b2, e2, k2, b3, e3, k3, hr1, ht2, hs2, rfl, hH2, hcd⟩⟩
        · skip
          have hdf : DF σ m V0 U0 f (sv σ m V2 U2) := ⟨V2, U2, rfl, hf9, FR1_t hH.2.2.2.1 (FR1_t (FR1_w (Or.inr (Or.inr (Or.inr (Or.inl ⟨by decide, by decide, by decide, by decide⟩)))) _) (FR1_fq hH.2.2.1 hfq)), UR1_t hH.2.2.2.2 (UR1_nu hnu2), by rw [hfq.2.1 30 (by decide) (by decide) (by decide) (by decide) (by decide) (by decide), up2_a _ _ (by decide)]; exact hH.b30⟩
          have hrz : res = .inr f := by
            rcases hrr with ⟨f2, z1, z2⟩ | ⟨q2, E2, z1, z2⟩
            · rcases hfz with z3 | ⟨q3, E3, b2, e2, k2, z3, _⟩
              · rw [z1] at z3; rw [z2, Sum.inr.inj z3]
              · rw [z1] at z3; cases z3
            · rcases hfz with z3 | ⟨q3, E3, b2, e2, k2, z3, z4, z5, z6⟩
              · rw [z1] at z3; cases z3
              · rw [z1] at z3
                have z7 := Sum.inl.inj z3
                have z8 : q2 = q3 := congrArg Prod.fst z7
                rw [z2, z8, nEnd_n z4 z5, z6]
          refine ht_if_ne (tgt := 64) (D 37 rfl) (by decide) (fun hb59 => absurd (by decide) hb59) (fun hb59 => ?_)
          refine ht_iconst (v := 0) (D 38 rfl) (by decide) ?_
          refine ht_iret (D 39 rfl) rfl rfl ?_
          exact Or.inl ⟨_, hrz, rfl, hdf⟩
        · skip
          have hrz : res = .inl (asF s false E1, e2) := by
            rcases hrr with ⟨f2, z1, z2⟩ | ⟨q2, E2, z1, z2⟩
            · rw [z1] at hr1; cases hr1
            · rw [z1] at hr1
              have z7 := Sum.inl.inj hr1
              have z8 : q2 = q1 := congrArg Prod.fst z7
              have z9 : E2 = E1 := congrArg Prod.snd z7
              rw [z2, z8, z9, nEnd_y ht2 hs2]
          refine ht_if_ne (tgt := 64) (D 37 rfl) (by decide) (fun hb59 => ?_) (fun hb59 => absurd hb59 (by decide))
          refine ht_aload_n (D 40 rfl) rfl rfl ?_
          refine gf_X10_65 rfl (D 41 rfl) hM.k0 hM.q19 ?_
          refine ht_iconst (v := 2) (D 42 rfl) (by decide) ?_
          refine ht_iload_n (D 43 rfl) rfl rfl ?_
          refine ht_iadd (D 44 rfl) ?_
          refine ht_aload_n (D 45 rfl) rfl rfl ?_
          refine gm_X10_174 hM rfl (D 46 rfl) ?_
          rw [hH2.2.2.2.2.1]
          refine hm_ist (o := 19) (n := 2) (by decide) (D 47 rfl) hM.k19 hM.n19 (by decide) (by decide) (by decide) ?_
          refine ht_iconst (v := 1) (D 48 rfl) (by decide) ?_
          refine ht_iret (D 49 rfl) rfl rfl ?_
          exact Or.inr ⟨_, _, hrz, rfl, _, _, _, _, _, _, _, rfl, hH.fm hno hH2 hfq hnu2 hcd⟩
      · skip
        exact absurd hb28 (by decide)
    · skip
      exact absurd (by decide) hb16
set_option maxRecDepth 100000 in
theorem sr_lawI (hM : MS σ m) (hH : DS T n V0 U0 s ice p b e k c V U) (hV : TV T n s) {res : Rl} (hln : lnF T n s true b e (nEnd T n) res) : Sp G mX10_readsLaw 3 [.ref m, .int 1] (sv σ m V U) (QM σ m T n V0 U0 res) := by
  have D := dat dl_X10_readsLaw
  have hpn := hH.le
  have hle := TK_le hH.tk
  show HT G mX10_readsLaw 0 [some (.ref m), some (.int 1)] [] (sv σ m V U) 3 _
  rcases hln with ⟨hto, hres⟩ | ⟨hno, rs, hR, hrr⟩
  · obtain ⟨E0, hE0⟩ := Option.ne_none_iff_exists'.mp hto
    obtain ⟨f, x1, x2, x3, x4, x5⟩ := (hH.2.1.2.2.2.2.2 true).2 E0 hE0
    have hpos : 0 < E0.1.length := by
      obtain ⟨p9, q9, h9⟩ := hV.2.2.2.2.2.2 true E0 hE0
      exact (h9 _ _ _ (ClR_l T n true) q9 E0 rfl).2
    refine ht_aload_n (D 0 rfl) rfl rfl ?_
    refine gf_X10_65 rfl (D 1 rfl) hM.k0 hM.q19 ?_
    refine ht_iconst (v := 2) (D 2 rfl) (by decide) ?_
    refine ht_iload_n (D 3 rfl) rfl rfl ?_
    refine ht_iadd (D 4 rfl) ?_
    refine hm_ild (o := 19) (n := 3) (by decide) (D 5 rfl) hM.k19 hM.n19 (by decide) (by decide) (by decide) ?_
    refine ht_aload_n (D 6 rfl) rfl rfl ?_
    refine gf_X10_62 rfl (D 7 rfl) hM.k0 hM.q18 ?_
    refine ht_iconst (v := 2) (D 8 rfl) (by decide) ?_
    refine ht_iload_n (D 9 rfl) rfl rfl ?_
    refine ht_iadd (D 10 rfl) ?_
    refine hm_ild (o := 18) (n := 3) (by decide) (D 11 rfl) hM.k18 hM.n18 (by decide) (by decide) (by decide) ?_
    rw [show V 19 3 = nI (f + E0.1.length) from x4, show V 18 3 = nI f from x3]
    refine ht_icmp_le (tgt := 25) (D 12 rfl) (by decide) (fun hb16 => ?_) (fun hb16 => ?_)
    · skip
      exact absurd ((nI_leI (a := f + E0.1.length) (b := f) (by omega) (by omega)).mp hb16) (by omega)
    · skip
      refine ht_aload_n (D 13 rfl) rfl rfl ?_
      refine ht_iconst (v := 3) (D 14 rfl) (by decide) ?_
      refine kVX10_fails (As := [_]) cl_X10_213 (D 15 rfl) (sr_fails hM hH 3) hM.k0 rfl (Nat.le_of_ble_eq_true rfl) rfl (Nat.le_of_ble_eq_true rfl) (by omega) ?_
      rintro _ σ9 ⟨rfl, hdf⟩
      refine ht_iret (D 16 rfl) rfl rfl ?_
      exact Or.inl ⟨_, hres, rfl, hdf⟩
  · obtain ⟨x3, x4⟩ := (hH.2.1.2.2.2.2.2 true).1 hno
    refine ht_aload_n (D 0 rfl) rfl rfl ?_
    refine gf_X10_65 rfl (D 1 rfl) hM.k0 hM.q19 ?_
    refine ht_iconst (v := 2) (D 2 rfl) (by decide) ?_
    refine ht_iload_n (D 3 rfl) rfl rfl ?_
    refine ht_iadd (D 4 rfl) ?_
    refine hm_ild (o := 19) (n := 3) (by decide) (D 5 rfl) hM.k19 hM.n19 (by decide) (by decide) (by decide) ?_
    refine ht_aload_n (D 6 rfl) rfl rfl ?_
    refine gf_X10_62 rfl (D 7 rfl) hM.k0 hM.q18 ?_
    refine ht_iconst (v := 2) (D 8 rfl) (by decide) ?_
    refine ht_iload_n (D 9 rfl) rfl rfl ?_
    refine ht_iadd (D 10 rfl) ?_
    refine hm_ild (o := 18) (n := 3) (by decide) (D 11 rfl) hM.k18 hM.n18 (by decide) (by decide) (by decide) ?_
    rw [show V 19 3 = nI 1000 from x4, show V 18 3 = nI 1000 from x3]
    refine ht_icmp_le (tgt := 25) (D 12 rfl) (by decide) (fun hb16 => ?_) (fun hb16 => ?_)
    · skip
      refine ht_aload_n (D 17 rfl) rfl rfl ?_
      refine ht_iload_n (D 18 rfl) rfl rfl ?_
      refine ht_iconst (v := 1) (D 19 rfl) (by decide) ?_
      refine ht_icmp_ne (tgt := 35) (D 20 rfl) (by decide) (fun hb28 => ?_) (fun hb28 => ?_)
      · skip
        exact absurd (by decide) hb28
      · skip
        skip
        refine ht_iconst (v := 1) (D 21 rfl) (by decide) ?_
        refine ht_goto (tgt := 36) (D 22 rfl) (by decide) ?_
        refine pm_X10_177 hM rfl (D 24 rfl) (by first | exact Or.inl rfl | exact Or.inr rfl | assumption) ?_
        have hH := hH.w30 true (x := 1) rfl
        refine ht_aload_n (D 25 rfl) rfl rfl ?_
        refine kVX10_nextToken (As := []) cl_X10_220 (D 26 rfl) (sm_nxH hM hH.1) hM.k0 rfl (Nat.le_of_ble_eq_true rfl) rfl (Nat.le_of_ble_eq_true rfl) (by omega) ?_
        rintro _ _ ⟨rfl, hnx⟩
        obtain ⟨V, U, b, e, k, rfl, hH⟩ := hH.nxi hnx
        refine ht_aload_n (D 27 rfl) rfl rfl ?_
        refine gf_X10_62 rfl (D 28 rfl) hM.k0 hM.q18 ?_
        refine ht_iconst (v := 2) (D 29 rfl) (by decide) ?_
        refine ht_iload_n (D 30 rfl) rfl rfl ?_
        refine ht_iadd (D 31 rfl) ?_
        refine ht_aload_n (D 32 rfl) rfl rfl ?_
        refine gm_X10_174 hM rfl (D 33 rfl) ?_
        rw [hH.1.2.2.2.2.1]
        refine hm_ist (o := 18) (n := 3) (by decide) (D 34 rfl) hM.k18 hM.n18 (by decide) (by decide) (by decide) ?_
        refine ht_aload_n (D 35 rfl) rfl rfl ?_
        refine kVX10_reads (As := []) cl_X10_270 (D 36 rfl) (sm_reads hM (hH.1.wo (o := 18) (by decide) 3 (nI c)) hR) hM.k0 rfl (Nat.le_of_ble_eq_true rfl) rfl (Nat.le_of_ble_eq_true rfl) (by omega) ?_
        rintro _ _ ⟨V2, U2, rfl, hfq, hnu2, ⟨f, hfz, rfl, hf9⟩ | ⟨q1, E1, b2, e2, k2, b3, e3, k3, hr1, ht2, hs2, rfl, hH2, hcd⟩⟩
        · skip
          have hdf : DF σ m V0 U0 f (sv σ m V2 U2) := ⟨V2, U2, rfl, hf9, FR1_t hH.2.2.2.1 (FR1_t (FR1_w (Or.inr (Or.inr (Or.inr (Or.inl ⟨by decide, by decide, by decide, by decide⟩)))) _) (FR1_fq hH.2.2.1 hfq)), UR1_t hH.2.2.2.2 (UR1_nu hnu2), by rw [hfq.2.1 30 (by decide) (by decide) (by decide) (by decide) (by decide) (by decide), up2_a _ _ (by decide)]; exact hH.b30⟩
          have hrz : res = .inr f := by
            rcases hrr with ⟨f2, z1, z2⟩ | ⟨q2, E2, z1, z2⟩
            · rcases hfz with z3 | ⟨q3, E3, b2, e2, k2, z3, _⟩
              · rw [z1] at z3; rw [z2, Sum.inr.inj z3]
              · rw [z1] at z3; cases z3
            · rcases hfz with z3 | ⟨q3, E3, b2, e2, k2, z3, z4, z5, z6⟩
              · rw [z1] at z3; cases z3
              · rw [z1] at z3
                have z7 := Sum.inl.inj z3
                have z8 : q2 = q3 := congrArg Prod.fst z7
                rw [z2, z8, nEnd_n z4 z5, z6]
          refine ht_if_ne (tgt := 64) (D 37 rfl) (by decide) (fun hb59 => absurd (by decide) hb59) (fun hb59 => ?_)
          refine ht_iconst (v := 0) (D 38 rfl) (by decide) ?_
          refine ht_iret (D 39 rfl) rfl rfl ?_
          exact Or.inl ⟨_, hrz, rfl, hdf⟩
        · skip
          have hrz : res = .inl (asF s true E1, e2) := by
            rcases hrr with ⟨f2, z1, z2⟩ | ⟨q2, E2, z1, z2⟩
            · rw [z1] at hr1; cases hr1
            · rw [z1] at hr1
              have z7 := Sum.inl.inj hr1
              have z8 : q2 = q1 := congrArg Prod.fst z7
              have z9 : E2 = E1 := congrArg Prod.snd z7
              rw [z2, z8, z9, nEnd_y ht2 hs2]
          refine ht_if_ne (tgt := 64) (D 37 rfl) (by decide) (fun hb59 => ?_) (fun hb59 => absurd hb59 (by decide))
          refine ht_aload_n (D 40 rfl) rfl rfl ?_
          refine gf_X10_65 rfl (D 41 rfl) hM.k0 hM.q19 ?_
          refine ht_iconst (v := 2) (D 42 rfl) (by decide) ?_
          refine ht_iload_n (D 43 rfl) rfl rfl ?_
          refine ht_iadd (D 44 rfl) ?_
          refine ht_aload_n (D 45 rfl) rfl rfl ?_
          refine gm_X10_174 hM rfl (D 46 rfl) ?_
          rw [hH2.2.2.2.2.1]
          refine hm_ist (o := 19) (n := 3) (by decide) (D 47 rfl) hM.k19 hM.n19 (by decide) (by decide) (by decide) ?_
          refine ht_iconst (v := 1) (D 48 rfl) (by decide) ?_
          refine ht_iret (D 49 rfl) rfl rfl ?_
          exact Or.inr ⟨_, _, hrz, rfl, _, _, _, _, _, _, _, rfl, hH.fm hno hH2 hfq hnu2 hcd⟩
    · skip
      exact absurd (by decide) hb16
end S5
