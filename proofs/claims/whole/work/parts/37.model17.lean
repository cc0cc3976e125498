/-! ===== the reference: lots, feed ===== -/
noncomputable def ltT (V : VT) (gw : Option GWt) (gi : Option GIt) (dN mN gk : Nat) (S : ST) (h : Nat) (g : Int64) : Nat → ST × Int64
  | 0 => (S, g)
  | t + 1 => (psS V gw gi dN mN gk (h + t) (dV (dG (ltT V gw gi dN mN gk S h g t).2) (V 6 0 + 1)) (ltT V gw gi dN mN gk S h g t).1, dG (ltT V gw gi dN mN gk S h g t).2)
noncomputable def ltC (V : VT) (gw : Option GWt) (gi : Option GIt) (dN mN gk : Nat) (S : ST) (h : Nat) (g : Int64) (q : Int32) : Nat → Int32
  | 0 => q
  | t + 1 => ltC V gw gi dN mN gk S h g q t + (if anL (ltT V gw gi dN mN gk S h g (t + 1)).1 dN = true then 1 else 0)
noncomputable def ltM (V : VT) (gw : Option GWt) (gi : Option GIt) (dN mN gk : Nat) (S : ST) (h n : Nat) (g : Int64) : Nat → Int32 × Int32 × Int64
  | 0 => (0, 0, g)
  | k + 1 => ((ltM V gw gi dN mN gk S h n g k).1 + (nI mN - nI (hN (ltT V gw gi dN mN gk S h (ltM V gw gi dN mN gk S h n g k).2.2 n).1 mN)), ltC V gw gi dN mN gk S h (ltM V gw gi dN mN gk S h n g k).2.2 (ltM V gw gi dN mN gk S h n g k).2.1 n, (ltT V gw gi dN mN gk S h (ltM V gw gi dN mN gk S h n g k).2.2 n).2)
theorem ltT_80 (V : VT) (gw : Option GWt) (gi : Option GIt) (dN mN gk : Nat) {S : ST} {h : Nat} (hh : S 80 = nI h) (g : Int64) (k : Nat) : (ltT V gw gi dN mN gk S h g k).1 80 = nI (h + k) := by
  cases k with
  | zero => exact hh
  | succ k =>
    exact psS_80 V gw gi dN mN gk (h + k) (dV (dG (ltT V gw gi dN mN gk S h g k).2) (V 6 0 + 1)) (ltT V gw gi dN mN gk S h g k).1
theorem ltT_mn {V : VT} {cN dN mN gk : Nat} (hP : PL V cN dN mN gk) (gw : Option GWt) (gi : Option GIt) (h : Nat) {S : ST} (hm : Mn S cN mN) (g : Int64) (k : Nat) : Mn (ltT V gw gi dN mN gk S h g k).1 cN mN := by
  induction k with
  | zero => exact hm
  | succ k ih => exact psS_mn hP gw gi (h + k) _ ih
theorem ltT_hi {V : VT} {cN dN mN gk : Nat} (hP : PL V cN dN mN gk) (gw : Option GWt) (gi : Option GIt) (h : Nat) (S : ST) (g : Int64) (k : Nat) {x : Nat} (hx : 81 ≤ x) : (ltT V gw gi dN mN gk S h g k).1 x = S x := by
  induction k with
  | zero => rfl
  | succ k ih => exact (psS_hi hP gw gi (h + k) _ _ hx).trans ih
section M17
variable {G : GG} {σ : Hp} {m : Nat} {V : VT} {U : UT}
set_option maxRecDepth 100000 in
theorem sm_ltd (hM : MS σ m) {V1 : VT} {dN mm n k t : Nat} {x1 x4 fq lq : Int32} (hd3 : V1 3 0 = nI dN) (hd10 : dN ≤ 10) {Q : Option Value → Hp → Prop} (kq : ∀ l : Option Value, HT G mX10_lots 152 [some (.ref m), some (.int x1), some (.int (nI mm)), some (.int (nI n)), some (.int x4), some (.int (fq)), some (.int (lq)), some (.int (nI k)), some (.int (nI t)), some (.int (if anL (V1 33) dN = true then 1 else 0)), l] [] (sv σ m V1 U) 6 Q) : HT G mX10_lots 113 [some (.ref m), some (.int x1), some (.int (nI mm)), some (.int (nI n)), some (.int x4), some (.int (fq)), some (.int (lq)), some (.int (nI k)), some (.int (nI t)), some (.int 0), some (.int (nI 0))] [] (sv σ m V1 U) 6 Q := by
  have D := dat dl_X10_lots
  have loop : ∀ r j : Nat, j ≤ dN → dN - j = r → HT G mX10_lots 113 [some (.ref m), some (.int x1), some (.int (nI mm)), some (.int (nI n)), some (.int x4), some (.int (fq)), some (.int (lq)), some (.int (nI k)), some (.int (nI t)), some (.int (if anL (V1 33) j = true then 1 else 0)), some (.int (nI j))] [] (sv σ m V1 U) 6 Q := by
    intro r
    induction r using Nat.strongRecOn with
    | _ r ih =>
      intro j hj hr
      refine ht_iload (D 64 rfl) rfl ?_
      refine ht_aload_n (D 65 rfl) rfl rfl ?_
      refine gf_X10_16 rfl (D 66 rfl) hM.k0 hM.q3 ?_
      refine ht_iconst (v := 0) (D 67 rfl) (by decide) ?_
      refine hm_ild (o := 3) (n := 0) (by decide) (D 68 rfl) hM.k3 hM.n3 (by first | rfl | exact nI_add _ _ | assumption) (by omega) (by decide) ?_
      refine ht_icmp_ge (tgt := 152) (D 69 rfl) (by decide) (fun hb121 => ?_) (fun hb121 => ?_)
      · skip
        have hjk : dN = j := by rw [hd3] at hb121; have h9 := (nI_leI (a := dN) (b := j) (by omega) (by omega)).mp hb121; omega
        subst hjk
        exact kq _
      · skip
        have hjk : j < dN := by rw [hd3] at hb121; have h9 := mt (nI_leI (a := dN) (b := j) (by omega) (by omega)).mpr hb121; omega
        refine ht_iload (D 70 rfl) rfl ?_
        refine ht_if_ne (tgt := 139) (D 71 rfl) (by decide) (fun hb126 => ?_) (fun hb126 => ?_)
        · skip
          have ca : anL (V1 33) j = true := by
            by_cases c : anL (V1 33) j = true
            · exact c
            · rw [if_neg c] at hb126
              exact absurd rfl hb126
          have e9 : (1 : Int32) = (if anL (V1 33) (j + 1) = true then 1 else 0) := by rw [if_pos (anL_s.mpr (Or.inl ca))]
          refine ht_iconst (v := 1) (D 77 rfl) (by decide) ?_
          refine ht_goto (tgt := 144) (D 78 rfl) (by decide) ?_
          refine ht_istore (D 80 rfl) (by decide) rfl ?_
          refine ht_iinc (v := nI (j + 1)) (D 81 rfl) rfl (nI_i1 _) (by decide) rfl ?_
          refine ht_goto (tgt := 113) (D 82 rfl) (by decide) ?_
          exact ht_cast (ih (dN - (j + 1)) (by omega) (j + 1) (by omega) rfl) (by simp only [List.set]; rw [← e9]) rfl rfl
        · skip
          have ca : ¬ anL (V1 33) j = true := by
            intro c
            rw [if_pos c] at hb126
            exact absurd hb126 (by decide)
          refine ht_aload_n (D 72 rfl) rfl rfl ?_
          refine gf_X10_108 rfl (D 73 rfl) hM.k0 hM.q33 ?_
          refine ht_iload (D 74 rfl) rfl ?_
          refine hm_ild (o := 33) (n := j) (by decide) (D 75 rfl) hM.k33 hM.n33 (by first | rfl | exact nI_add _ _ | assumption) (by omega) (by decide) ?_
          refine ht_if_ne (tgt := 143) (D 76 rfl) (by decide) (fun hb136 => ?_) (fun hb136 => ?_)
          · skip
            have e9 : (0 : Int32) = (if anL (V1 33) (j + 1) = true then 1 else 0) := by rw [if_neg (fun q => by rcases anL_s.mp q with h9 | h9; exact ca h9; exact hb136 h9)]
            refine ht_iconst (v := 0) (D 79 rfl) (by decide) ?_
            refine ht_istore (D 80 rfl) (by decide) rfl ?_
            refine ht_iinc (v := nI (j + 1)) (D 81 rfl) rfl (nI_i1 _) (by decide) rfl ?_
            refine ht_goto (tgt := 113) (D 82 rfl) (by decide) ?_
            exact ht_cast (ih (dN - (j + 1)) (by omega) (j + 1) (by omega) rfl) (by simp only [List.set]; rw [← e9]) rfl rfl
          · skip
            have e9 : (1 : Int32) = (if anL (V1 33) (j + 1) = true then 1 else 0) := by rw [if_pos (anL_s.mpr (Or.inr hb136))]
            refine ht_iconst (v := 1) (D 77 rfl) (by decide) ?_
            refine ht_goto (tgt := 144) (D 78 rfl) (by decide) ?_
            refine ht_istore (D 80 rfl) (by decide) rfl ?_
            refine ht_iinc (v := nI (j + 1)) (D 81 rfl) rfl (nI_i1 _) (by decide) rfl ?_
            refine ht_goto (tgt := 113) (D 82 rfl) (by decide) ?_
            exact ht_cast (ih (dN - (j + 1)) (by omega) (j + 1) (by omega) rfl) (by simp only [List.set]; rw [← e9]) rfl rfl
  exact loop dN 0 (by omega) (by omega)
set_option maxRecDepth 100000 in
set_option maxHeartbeats 2000000 in
theorem sm_lth (hM : MS σ m) {cN dN mN gk : Nat} (hP : PL V cN dN mN gk) {gw : Option GWt} {gi : Option GIt} (hW : LnW V gw) (hI : LnI V gi) {h : Nat} (hh : V 33 80 = nI h) (h31 : h < 2 ^ 30) (hmn : Mn (V 33) cN mN) {md0 : Nat} (hmd : V 6 0 = nI md0) (hmd2 : md0 ≤ 20) {V0 : VT} (hz0 : Pz V V0) (h330 : V0 33 = V 33) {mm n k : Nat} (hn : n ≤ 120) {x1 x4 fq lq : Int32} {g : Int64} {U0 : UT} (hg0 : U0 0 55 = g) {Q : Option Value → Hp → Prop}
    (kq : ∀ (V1 : VT) (U1 : UT) (l8 l9 l10 : Option Value), Dy V0 V1 → V1 33 = (ltT V gw gi dN mN gk (V 33) h g n).1 → U1 0 55 = (ltT V gw gi dN mN gk (V 33) h g n).2 → HT G mX10_lots 173 [some (.ref m), some (.int x1), some (.int (nI mm)), some (.int (nI n)), some (.int x4), some (.int (fq)), some (.int (ltC V gw gi dN mN gk (V 33) h g lq n)), some (.int (nI k)), l8, l9, l10] [] (sv σ m V1 U1) 6 Q) (l9 l10 : Option Value) : HT G mX10_lots 85 [some (.ref m), some (.int x1), some (.int (nI mm)), some (.int (nI n)), some (.int x4), some (.int (fq)), some (.int (lq)), some (.int (nI k)), some (.int (nI 0)), l9, l10] [] (sv σ m V0 U0) 6 Q := by
  have D := dat dl_X10_lots
  have hd10 : dN ≤ 10 := hP.2.1.2
  have hdz0 : Dz V V0 := hz0.dz
  have hP0 := hP.dz hdz0
  have hW0 := hW.dz hdz0
  have hI0 := hI.dz hdz0
  have hmd0 : V0 6 0 = V 6 0 := by rw [hdz0 6 (by decide) (by decide) (by decide)]
  have hmdk : ¬ (V 6 0 + 1).toInt64 = 0 := by
    rw [hmd, nI_1, nI_l (by omega)]
    intro q
    exact absurd ((lN_eq (a := md0 + 1) (b := 0) (by omega) (by omega)).mp q) (by omega)
  have loop : ∀ (r t : Nat) (V1 : VT) (U1 : UT) (l9 l10 : Option Value), t + r = n → Dy V0 V1 → V1 33 = (ltT V gw gi dN mN gk (V 33) h g t).1 → U1 0 55 = (ltT V gw gi dN mN gk (V 33) h g t).2 → HT G mX10_lots 85 [some (.ref m), some (.int x1), some (.int (nI mm)), some (.int (nI n)), some (.int x4), some (.int (fq)), some (.int (ltC V gw gi dN mN gk (V 33) h g lq t)), some (.int (nI k)), some (.int (nI t)), l9, l10] [] (sv σ m V1 U1) 6 Q := by
    intro r
    induction r using Nat.strongRecOn with
    | _ r ih =>
      intro t V1 U1 l9 l10 ht hdy h33 hg
      refine ht_iload (D 47 rfl) rfl ?_
      refine ht_iload_n (D 48 rfl) rfl rfl ?_
      refine ht_icmp_ge (tgt := 173) (D 49 rfl) (by decide) (fun hb88 => ?_) (fun hb88 => ?_)
      · skip
        have hr0 : r = 0 := by have h9 := (nI_leI (a := n) (b := t) (by omega) (by omega)).mp hb88; omega
        subst hr0
        have htn : t = n := by omega
        subst htn
        exact kq V1 _ _ _ _ hdy h33 hg
      · skip
        obtain ⟨r2, rfl⟩ : ∃ r2, r = r2 + 1 := ⟨r - 1, by have h9 := mt (nI_leI (a := n) (b := t) (by omega) (by omega)).mpr hb88; omega⟩
        refine ht_aload_n (D 50 rfl) rfl rfl ?_
        refine ht_aload_n (D 51 rfl) rfl rfl ?_
        refine ht_aload_n (D 52 rfl) rfl rfl ?_
        refine gf_X10_25 rfl (D 53 rfl) hM.k0 hM.q6 ?_
        refine ht_iconst (v := 0) (D 54 rfl) (by decide) ?_
        refine hm_ild (o := 6) (n := 0) (by decide) (D 55 rfl) hM.k6 hM.n6 (by first | rfl | exact nI_add _ _ | assumption) (by omega) (by decide) ?_
        refine ht_iconst (v := 1) (D 56 rfl) (by decide) ?_
        refine ht_iadd (D 57 rfl) ?_
        rw [hdy 6 (by decide), hmd0]
        refine kVX10_draws (As := [_]) cl_X10_439 (D 58 rfl) (sm_draws hM hmdk) hM.k0 rfl (Nat.le_of_ble_eq_true rfl) rfl (Nat.le_of_ble_eq_true rfl) (by omega) ?_
        rintro rv σ1 ⟨rfl, rfl⟩
        rw [hg]
        refine kVX10_passes (As := [_]) cl_X10_393 (D 59 rfl) (sm_passes hM (hP0.dy hdy) (hW0.dy hdy) (hI0.dy hdy) (h := h + t) (by rw [h33]; exact ltT_80 V gw gi dN mN gk hh g t) (by omega) (by rw [h33]; exact ltT_mn hP gw gi h hmn g t) _) hM.k0 rfl (Nat.le_of_ble_eq_true rfl) rfl (Nat.le_of_ble_eq_true rfl) (by omega) ?_
        rintro rv σ1 ⟨rfl, V2, rfl, hd2, h332⟩
        rw [psS_dz (hdz0.tr hdy.dz), h33] at h332
        refine ht_iconst (v := 0) (D 60 rfl) (by decide) ?_
        refine ht_istore (D 61 rfl) (by decide) rfl ?_
        refine ht_iconst (v := 0) (D 62 rfl) (by decide) ?_
        refine ht_istore (D 63 rfl) (by decide) rfl ?_
        refine sm_ltd hM (V1 := V2) (by rw [(hdy.tr hd2) 3 (by decide)]; exact hP0.2.1.1) hd10 (fun l => ?_)
        refine ht_iload (D 83 rfl) rfl ?_
        refine ht_iload (D 84 rfl) rfl ?_
        refine ht_if_eq (tgt := 163) (D 85 rfl) (by decide) (fun hb156 => ?_) (fun hb156 => ?_)
        · skip
          have e9 : (if anL (V2 33) dN = true then (1 : Int32) else 0) = 0 := hb156
          refine ht_iconst (v := 0) (D 88 rfl) (by decide) ?_
          refine ht_iadd (D 89 rfl) ?_
          refine ht_istore (D 90 rfl) (by decide) rfl ?_
          refine ht_iinc (v := nI (t + 1)) (D 91 rfl) rfl (nI_i1 _) (by decide) rfl ?_
          refine ht_goto (tgt := 85) (D 92 rfl) (by decide) ?_
          exact ht_cast (ih r2 (by omega) (t + 1) V2 _ _ _ (by omega) (hdy.tr hd2) (by rw [h332]; rfl) (by rw [up2_s]; rfl)) (by simp only [List.set]; rw [show ltC V gw gi dN mN gk (V 33) h g lq (t + 1) = ltC V gw gi dN mN gk (V 33) h g lq t + (if anL (V2 33) dN = true then 1 else 0) by rw [h332]; rfl, e9]) rfl rfl
        · skip
          have e9 : (if anL (V2 33) dN = true then (1 : Int32) else 0) = 1 := by
            by_cases c : anL (V2 33) dN = true
            · rw [if_pos c]
            · rw [if_neg c] at hb156
              exact absurd rfl hb156
          refine ht_iconst (v := 1) (D 86 rfl) (by decide) ?_
          refine ht_goto (tgt := 164) (D 87 rfl) (by decide) ?_
          refine ht_iadd (D 89 rfl) ?_
          refine ht_istore (D 90 rfl) (by decide) rfl ?_
          refine ht_iinc (v := nI (t + 1)) (D 91 rfl) rfl (nI_i1 _) (by decide) rfl ?_
          refine ht_goto (tgt := 85) (D 92 rfl) (by decide) ?_
          exact ht_cast (ih r2 (by omega) (t + 1) V2 _ _ _ (by omega) (hdy.tr hd2) (by rw [h332]; rfl) (by rw [up2_s]; rfl)) (by simp only [List.set]; rw [show ltC V gw gi dN mN gk (V 33) h g lq (t + 1) = ltC V gw gi dN mN gk (V 33) h g lq t + (if anL (V2 33) dN = true then 1 else 0) by rw [h332]; rfl, e9]) rfl rfl
  exact loop n 0 V0 U0 l9 l10 (by omega) (Dy.rf _) h330 hg0
def aLotsOk (x y z w : Int32) : Prop := (0 ≤ x ∧ x ≤ 9999) ∧ (1 ≤ y ∧ y ≤ 20) ∧ (1 ≤ z ∧ z ≤ 120) ∧ (0 ≤ w ∧ w ≤ 1)
set_option maxRecDepth 100000 in
set_option maxHeartbeats 2000000 in
theorem sm_ltn (hM : MS σ m) {cN dN mN gk : Nat} (hP : PL V cN dN mN gk) {gw : Option GWt} {gi : Option GIt} (hW : LnW V gw) (hI : LnI V gi) {h : Nat} (hh : V 33 80 = nI h) (h31 : h < 2 ^ 30) (hmn : Mn (V 33) cN mN) {md0 : Nat} (hmd : V 6 0 = nI md0) (hmd2 : md0 ≤ 20) {V9 : VT} (hz9 : Pz V V9) (h349 : ∀ i, i < 96 → V9 34 i = V 33 i) (h339 : V9 33 = V 33) {mm n : Nat} (hmm : mm ≤ 20) (hn : n ≤ 120) {x1 w : Int32} {U9 : UT} (hg9 : U9 0 55 = x1.toInt64) (l8 l9 l10 : Option Value) : HT G mX10_lots 76 [some (.ref m), some (.int x1), some (.int (nI mm)), some (.int (nI n)), some (.int w), some (.int (0)), some (.int (0)), some (.int (nI 0)), l8, l9, l10] [] (sv σ m V9 U9) 6 (QA σ m V (if w = 0 then (ltM V gw gi dN mN gk (V 33) h n x1.toInt64 mm).1 else (ltM V gw gi dN mN gk (V 33) h n x1.toInt64 mm).2.1) (V 33)) := by
  have D := dat dl_X10_lots
  have hm6 : mN ≤ 6 := hP.2.2.1.2
  have loop : ∀ (r k : Nat) (V0 : VT) (U0 : UT) (l8 l9 l10 : Option Value), k + r = mm → Pz V V0 → (∀ i, i < 96 → V0 34 i = V 33 i) → V0 33 = V 33 → U0 0 55 = (ltM V gw gi dN mN gk (V 33) h n x1.toInt64 k).2.2 → HT G mX10_lots 76 [some (.ref m), some (.int x1), some (.int (nI mm)), some (.int (nI n)), some (.int w), some (.int ((ltM V gw gi dN mN gk (V 33) h n x1.toInt64 k).1)), some (.int ((ltM V gw gi dN mN gk (V 33) h n x1.toInt64 k).2.1)), some (.int (nI k)), l8, l9, l10] [] (sv σ m V0 U0) 6 (QA σ m V (if w = 0 then (ltM V gw gi dN mN gk (V 33) h n x1.toInt64 mm).1 else (ltM V gw gi dN mN gk (V 33) h n x1.toInt64 mm).2.1) (V 33)) := by
    intro r
    induction r using Nat.strongRecOn with
    | _ r ih =>
      intro k V0 U0 l8 l9 l10 ht hz h34 h33 hg
      refine ht_iload (D 42 rfl) rfl ?_
      refine ht_iload_n (D 43 rfl) rfl rfl ?_
      refine ht_icmp_ge (tgt := 208) (D 44 rfl) (by decide) (fun hb79 => ?_) (fun hb79 => ?_)
      · skip
        have hr0 : r = 0 := by have h9 := (nI_leI (a := mm) (b := k) (by omega) (by omega)).mp hb79; omega
        subst hr0
        have htn : k = mm := by omega
        subst htn
        refine ht_iload (D 112 rfl) rfl ?_
        refine ht_if_ne (tgt := 218) (D 113 rfl) (by decide) (fun hb210 => ?_) (fun hb210 => ?_)
        · skip
          refine ht_iload (D 116 rfl) rfl ?_
          refine ht_iret (D 117 rfl) rfl rfl ?_
          first | exact ⟨by rw [if_pos (by assumption)], V0, U0, rfl, hz, h33⟩ | exact ⟨by rw [if_neg (by assumption)], V0, U0, rfl, hz, h33⟩
        · skip
          refine ht_iload (D 114 rfl) rfl ?_
          refine ht_goto (tgt := 220) (D 115 rfl) (by decide) ?_
          refine ht_iret (D 117 rfl) rfl rfl ?_
          first | exact ⟨by rw [if_pos (by assumption)], V0, U0, rfl, hz, h33⟩ | exact ⟨by rw [if_neg (by assumption)], V0, U0, rfl, hz, h33⟩
      · skip
        obtain ⟨r2, rfl⟩ : ∃ r2, r = r2 + 1 := ⟨r - 1, by have h9 := mt (nI_leI (a := mm) (b := k) (by omega) (by omega)).mpr hb79; omega⟩
        refine ht_iconst (v := 0) (D 45 rfl) (by decide) ?_
        refine ht_istore (D 46 rfl) (by decide) rfl ?_
        refine sm_lth hM hP hW hI hh h31 hmn hmd hmd2 hz h33 hn hg (fun V1 U1 l8 l9 l10 hd1 h331 hg1 => ?_) _ _
        refine ht_iload (D 93 rfl) rfl ?_
        refine ht_aload_n (D 94 rfl) rfl rfl ?_
        refine gf_X10_19 rfl (D 95 rfl) hM.k0 hM.q4 ?_
        refine ht_iconst (v := 0) (D 96 rfl) (by decide) ?_
        refine hm_ild (o := 4) (n := 0) (by decide) (D 97 rfl) hM.k4 hM.n4 (by first | rfl | exact nI_add _ _ | assumption) (by omega) (by decide) ?_
        rw [hd1 4 (by decide), (hP.dz hz.dz).2.2.1.1]
        refine ht_aload_n (D 98 rfl) rfl rfl ?_
        refine kVX10_held (As := []) cl_X10_422 (D 99 rfl) (sm_held hM (V := V1) (k := mN) (by rw [hd1 4 (by decide)]; exact (hP.dz hz.dz).2.2.1.1) hm6) hM.k0 rfl (Nat.le_of_ble_eq_true rfl) rfl (Nat.le_of_ble_eq_true rfl) (by omega) ?_
        rintro rv σ1 ⟨rfl, rfl⟩
        refine ht_isub (D 100 rfl) ?_
        refine ht_iadd (D 101 rfl) ?_
        refine ht_istore (D 102 rfl) (by decide) rfl ?_
        refine ht_aload_n (D 103 rfl) rfl rfl ?_
        refine gf_X10_111 rfl (D 104 rfl) hM.k0 hM.q34 ?_
        refine ht_iconst (v := 0) (D 105 rfl) (by decide) ?_
        refine ht_aload_n (D 106 rfl) rfl rfl ?_
        refine gf_X10_108 rfl (D 107 rfl) hM.k0 hM.q33 ?_
        refine ht_iconst (v := 0) (D 108 rfl) (by decide) ?_
        refine kSX10_copies (As := [_, _, _, _]) cl_X10_396 (D 109 rfl) (sm_copies_34_33 hM (a := 0) (b := 0) (by decide) (by decide)) rfl (Nat.le_of_ble_eq_true rfl) rfl (Nat.le_of_ble_eq_true rfl) (by omega) ?_
        rintro rv σ1 ⟨rfl, rfl⟩
        refine ht_iinc (v := nI (k + 1)) (D 110 rfl) rfl (nI_i1 _) (by decide) rfl ?_
        refine ht_goto (tgt := 76) (D 111 rfl) (by decide) ?_
        obtain ⟨ra, rb⟩ := rse h34 hz hd1 (fun i hi => by rw [h331]; exact ltT_hi hP gw gi h (V 33) _ _ (by omega))
        exact ht_cast (ih r2 (by omega) (k + 1) (cpR V1 34 0 33 0 96) _ _ _ _ (by omega) rb (fun i hi => by rw [cpR_o _ 34 0 33 0 96 (show (34 : Nat) ≠ 33 by decide), hd1 34 (by decide)]; exact h34 i hi) ra hg1) (by simp only [List.set]; rw [h331]; rfl) rfl rfl
  exact loop mm 0 V9 U9 l8 l9 l10 (by omega) hz9 h349 h339 hg9
set_option maxRecDepth 100000 in
theorem sm_lots (hM : MS σ m) {cN dN mN gk : Nat} (hP : PL V cN dN mN gk) {gw : Option GWt} {gi : Option GIt} (hW : LnW V gw) (hI : LnI V gi) {h : Nat} (hh : V 33 80 = nI h) (h31 : h < 2 ^ 30) (hmn : Mn (V 33) cN mN) {md0 : Nat} (hmd : V 6 0 = nI md0) (hmd2 : md0 ≤ 20) (x1 y z w : Int32) : Sp G mX10_lots 6 [.ref m, .int x1, .int y, .int z, .int w] (sv σ m V U) (fun rv σ' => (¬ aLotsOk x1 y z w ∧ QA σ m V (-1) (V 33) rv σ') ∨ (aLotsOk x1 y z w ∧ QA σ m V (if w = 0 then (ltM V gw gi dN mN gk (V 33) h z.toNatClampNeg x1.toInt64 y.toNatClampNeg).1 else (ltM V gw gi dN mN gk (V 33) h z.toNatClampNeg x1.toInt64 y.toNatClampNeg).2.1) (V 33) rv σ')) := by
  have D := dat dl_X10_lots
  show HT G mX10_lots 0 [some (.ref m), some (.int x1), some (.int y), some (.int z), some (.int w), none, none, none, none, none, none] [] (sv σ m V U) 6 _
  have hPt : PL (tz V) cN dN mN gk := hP.dz (tz_dz V)
  have hd10 : dN ≤ 10 := hP.2.1.2
  have hc8 : cN ≤ 8 := hP.1.2
  have hm6 : mN ≤ 6 := hP.2.2.1.2
  refine ht_aload_n (D 0 rfl) rfl rfl ?_
  refine ht_iconst (v := 0) (D 1 rfl) (by decide) ?_
  refine pm_X10_135 hM rfl (D 2 rfl) ?_
  show HT _ _ _ _ _ (sv σ m (tz V) U) _ _
  refine ht_iload_n (D 3 rfl) rfl rfl ?_
  refine ht_iconst (v := 0) (D 4 rfl) (by decide) ?_
  refine ht_sipush (v := 9999) (D 5 rfl) (by decide) ?_
  refine kSX10_within (As := [_, _, _]) cl_X10_263 (D 6 rfl) (sm_within _ _ _) rfl (Nat.le_of_ble_eq_true rfl) rfl (Nat.le_of_ble_eq_true rfl) (by omega) ?_
  rintro rv σ1 ⟨rfl, rfl⟩
  refine ht_if_eq (tgt := 46) (D 7 rfl) (by decide) (fun hb13 => ?_) (fun hb13 => ?_)
  · skip
    have hng : ¬ aLotsOk x1 y z w := fun q => b01_eq hb13 q.1
    refine ht_iconst (v := -1) (D 23 rfl) (by decide) ?_
    refine ht_iret (D 24 rfl) rfl rfl ?_
    exact Or.inl ⟨hng, QA_t rfl⟩
  · skip
    have hq1 := b01_ne hb13
    refine ht_iload_n (D 8 rfl) rfl rfl ?_
    refine ht_iconst (v := 1) (D 9 rfl) (by decide) ?_
    refine ht_bipush (v := 20) (D 10 rfl) (by decide) ?_
    refine kSX10_within (As := [_, _, _]) cl_X10_263 (D 11 rfl) (sm_within _ _ _) rfl (Nat.le_of_ble_eq_true rfl) rfl (Nat.le_of_ble_eq_true rfl) (by omega) ?_
    rintro rv σ1 ⟨rfl, rfl⟩
    refine ht_if_eq (tgt := 46) (D 12 rfl) (by decide) (fun hb23 => ?_) (fun hb23 => ?_)
    · skip
      have hng : ¬ aLotsOk x1 y z w := fun q => b01_eq hb23 q.2.1
      refine ht_iconst (v := -1) (D 23 rfl) (by decide) ?_
      refine ht_iret (D 24 rfl) rfl rfl ?_
      exact Or.inl ⟨hng, QA_t rfl⟩
    · skip
      have hq2 := b01_ne hb23
      refine ht_iload_n (D 13 rfl) rfl rfl ?_
      refine ht_iconst (v := 1) (D 14 rfl) (by decide) ?_
      refine ht_bipush (v := 120) (D 15 rfl) (by decide) ?_
      refine kSX10_within (As := [_, _, _]) cl_X10_263 (D 16 rfl) (sm_within _ _ _) rfl (Nat.le_of_ble_eq_true rfl) rfl (Nat.le_of_ble_eq_true rfl) (by omega) ?_
      rintro rv σ1 ⟨rfl, rfl⟩
      refine ht_if_eq (tgt := 46) (D 17 rfl) (by decide) (fun hb33 => ?_) (fun hb33 => ?_)
      · skip
        have hng : ¬ aLotsOk x1 y z w := fun q => b01_eq hb33 q.2.2.1
        refine ht_iconst (v := -1) (D 23 rfl) (by decide) ?_
        refine ht_iret (D 24 rfl) rfl rfl ?_
        exact Or.inl ⟨hng, QA_t rfl⟩
      · skip
        have hq3 := b01_ne hb33
        refine ht_iload (D 18 rfl) rfl ?_
        refine ht_iconst (v := 0) (D 19 rfl) (by decide) ?_
        refine ht_iconst (v := 1) (D 20 rfl) (by decide) ?_
        refine kSX10_within (As := [_, _, _]) cl_X10_263 (D 21 rfl) (sm_within _ _ _) rfl (Nat.le_of_ble_eq_true rfl) rfl (Nat.le_of_ble_eq_true rfl) (by omega) ?_
        rintro rv σ1 ⟨rfl, rfl⟩
        refine ht_if_ne (tgt := 48) (D 22 rfl) (by decide) (fun hb43 => ?_) (fun hb43 => ?_)
        · skip
          have hq4 := b01_ne hb43
          obtain ⟨mm, hn1, hn2, rfl⟩ := rngW (lo := 1) 20 (by decide) hq2 (by decide)
          obtain ⟨n, hn3, hn4, rfl⟩ := rngW (lo := 1) 120 (by decide) hq3 (by decide)
          have hmc : (nI mm).toNatClampNeg = mm := nI_clamp (by omega)
          have hnc : (nI n).toNatClampNeg = n := nI_clamp (by omega)
          have hok : aLotsOk x1 (nI mm) (nI n) w := ⟨hq1, hq2, hq3, hq4⟩
          refine ht_aload_n (D 25 rfl) rfl rfl ?_
          refine ht_iload_n (D 26 rfl) rfl rfl ?_
          refine ht_i2l (D 27 rfl) ?_
          refine pm_X10_428 hM rfl (D 28 rfl) ?_
          refine ht_aload_n (D 29 rfl) rfl rfl ?_
          refine gf_X10_108 rfl (D 30 rfl) hM.k0 hM.q33 ?_
          refine ht_iconst (v := 0) (D 31 rfl) (by decide) ?_
          refine ht_aload_n (D 32 rfl) rfl rfl ?_
          refine gf_X10_111 rfl (D 33 rfl) hM.k0 hM.q34 ?_
          refine ht_iconst (v := 0) (D 34 rfl) (by decide) ?_
          refine kSX10_copies (As := [_, _, _, _]) cl_X10_396 (D 35 rfl) (sm_copies_33_34 hM (a := 0) (b := 0) (by decide) (by decide)) rfl (Nat.le_of_ble_eq_true rfl) rfl (Nat.le_of_ble_eq_true rfl) (by omega) ?_
          rintro rv σ1 ⟨rfl, rfl⟩
          refine ht_iconst (v := 0) (D 36 rfl) (by decide) ?_
          refine ht_istore (D 37 rfl) (by decide) rfl ?_
          refine ht_iconst (v := 0) (D 38 rfl) (by decide) ?_
          refine ht_istore (D 39 rfl) (by decide) rfl ?_
          refine ht_iconst (v := 0) (D 40 rfl) (by decide) ?_
          refine ht_istore (D 41 rfl) (by decide) rfl ?_
          have hmain := sm_ltn (G := G) hM hP hW hI hh h31 hmn hmd hmd2 (V9 := cpA (tz V)) (tz_pz V).cpA (fun i hi => by rw [cpA_34 _ hi, tz_o V (show (33 : Nat) ≠ 0 by decide)]) (cpA_33 V) hn1 hn3 (x1 := x1) (w := w) (U9 := up2 U 0 55 x1.toInt64) (up2_s _ _ _ _) none none none
          refine ht_mono hmain (fun rv σ9 hq => Or.inr ⟨hok, ?_⟩)
          rw [hmc, hnc]
          exact hq
        · skip
          have hng : ¬ aLotsOk x1 y z w := fun q => b01_eq hb43 q.2.2.2
          refine ht_iconst (v := -1) (D 23 rfl) (by decide) ?_
          refine ht_iret (D 24 rfl) rfl rfl ?_
          exact Or.inl ⟨hng, QA_t rfl⟩
def byM (w : Int64) (k : Nat) : Int32 := ((w.toUInt64 >>> ((56 - 8 * (nI k &&& 7)).toInt64.toUInt64 &&& Int64.toUInt64 63)).toInt64 &&& 255).toInt32
def wSel (a b c : Int64) (k : Nat) : Int64 := if k < 8 then a else if k < 16 then b else c
abbrev tpOk (n : Nat) (s : Int32) : Prop := n < 1000 ∧ (s = 10 ∨ (32 ≤ s ∧ s ≤ 126))
def tpS (q : ST × Nat) (s : Int32) : ST × Nat := if tpOk q.2 s then (va_up q.1 q.2 s, q.2 + 1) else q
def fdT (a b c : Int64) (q : ST × Nat) : Nat → ST × Nat
  | 0 => q
  | k + 1 => tpS (fdT a b c q k) (byM (wSel a b c k) k)
theorem fdT_le (a b c : Int64) {q : ST × Nat} (h : q.2 ≤ 1000) (k : Nat) : (fdT a b c q k).2 ≤ 1000 := by
  induction k with
  | zero => exact h
  | succ k ih =>
    show (tpS (fdT a b c q k) _).2 ≤ 1000
    unfold tpS
    split
    · rename_i hk
      exact hk.1
    · exact ih
theorem tpS_n {q : ST × Nat} {s : Int32} (h : ¬ tpOk q.2 s) : tpS q s = q := if_neg h
theorem tpS_y {q : ST × Nat} {s : Int32} (h : tpOk q.2 s) : tpS q s = (va_up q.1 q.2 s, q.2 + 1) := if_pos h
set_option maxRecDepth 100000 in
set_option maxHeartbeats 2000000 in
theorem sm_feed (hM : MS σ m) (a b c : Int64) {n : Nat} (hn : V 0 1 = nI n) (hn2 : n ≤ 1000) : Sp G mX10_feed 1 [.ref m, .long a, .long b, .long c] (sv σ m V U) (fun rv σ' => rv = some (.int (nI (fdT a b c (V 1, n) 24).2)) ∧ ∃ V' : VT, σ' = sv σ m V' U ∧ ((∀ o, 2 ≤ o → V' o = V o) ∧ V' 0 30 = V 0 30) ∧ V' 1 = (fdT a b c (V 1, n) 24).1 ∧ V' 0 1 = nI (fdT a b c (V 1, n) 24).2) := by
  have D := dat dl_X10_feed
  have nx : ∀ (V1 : VT) (k : Nat) (l8 l10 : Option Value), k < 24 → ((∀ o, 2 ≤ o → V1 o = V o) ∧ V1 0 30 = V 0 30) → V1 1 = (fdT a b c (V 1, n) k).1 → V1 0 1 = nI (fdT a b c (V 1, n) k).2 → (∀ (V2 : VT) (l8 l10 : Option Value), ((∀ o, 2 ≤ o → V2 o = V o) ∧ V2 0 30 = V 0 30) → V2 1 = (fdT a b c (V 1, n) (k + 1)).1 → V2 0 1 = nI (fdT a b c (V 1, n) (k + 1)).2 → HT G mX10_feed 8 [some (.ref m), some (.long a), none, some (.long b), none, some (.long c), none, some (.int (nI (k + 1))), l8, none, l10] [] (sv σ m V2 U) 1 (fun rv σ' => rv = some (.int (nI (fdT a b c (V 1, n) 24).2)) ∧ ∃ V' : VT, σ' = sv σ m V' U ∧ ((∀ o, 2 ≤ o → V' o = V o) ∧ V' 0 30 = V 0 30) ∧ V' 1 = (fdT a b c (V 1, n) 24).1 ∧ V' 0 1 = nI (fdT a b c (V 1, n) 24).2)) → HT G mX10_feed 39 [some (.ref m), some (.long a), none, some (.long b), none, some (.long c), none, some (.int (nI k)), l8, none, l10] [.long (wSel a b c k)] (sv σ m V1 U) 1 (fun rv σ' => rv = some (.int (nI (fdT a b c (V 1, n) 24).2)) ∧ ∃ V' : VT, σ' = sv σ m V' U ∧ ((∀ o, 2 ≤ o → V' o = V o) ∧ V' 0 30 = V 0 30) ∧ V' 1 = (fdT a b c (V 1, n) 24).1 ∧ V' 0 1 = nI (fdT a b c (V 1, n) 24).2) := by
    intro V1 k l8 l10 hk24 h2 h1 h01 hih
    have hle : (fdT a b c (V 1, n) k).2 ≤ 1000 := fdT_le a b c hn2 k
    have hstep : fdT a b c (V 1, n) (k + 1) = tpS (fdT a b c (V 1, n) k) (byM (wSel a b c k) k) := rfl
    refine ht_lstore (D 19 rfl) (by decide) rfl ?_
    refine ht_lload (D 20 rfl) rfl ?_
    refine ht_bipush (v := 56) (D 21 rfl) (by decide) ?_
    refine ht_bipush (v := 8) (D 22 rfl) (by decide) ?_
    refine ht_iload (D 23 rfl) rfl ?_
    refine ht_bipush (v := 7) (D 24 rfl) (by decide) ?_
    refine ht_iand (D 25 rfl) ?_
    refine ht_imul (D 26 rfl) ?_
    refine ht_isub (D 27 rfl) ?_
    refine ht_lushr (D 28 rfl) ?_
    refine ht_ldc2 kl_X10_139 (D 29 rfl) ?_
    refine ht_land (D 30 rfl) ?_
    refine ht_l2i (D 31 rfl) ?_
    refine ht_istore (D 32 rfl) (by decide) rfl ?_
    show HT G mX10_feed 62 [some (.ref m), some (.long a), none, some (.long b), none, some (.long c), none, some (.int (nI k)), some (.long (wSel a b c k)), none, some (.int (byM (wSel a b c k) k))] [] (sv σ m V1 U) 1 _
    generalize hsq : byM (wSel a b c k) k = s at hstep ⊢
    refine ht_aload_n (D 33 rfl) rfl rfl ?_
    refine gm_X10_141 hM rfl (D 34 rfl) ?_
    rw [h01]
    refine ht_sipush (v := 1000) (D 35 rfl) (by decide) ?_
    refine ht_icmp_ge (tgt := 114) (D 36 rfl) (by decide) (fun hb69 => ?_) (fun hb69 => ?_)
    · skip
      have hno : ¬ tpOk (fdT a b c (V 1, n) k).2 s := fun q => by have q1 := q.1; have h9 := (nI_leI (a := 1000) (b := (fdT a b c (V 1, n) k).2) (by omega) (by omega)).mp hb69; omega
      refine ht_iinc (v := nI (k + 1)) (D 58 rfl) rfl (nI_i1 _) (by decide) rfl ?_
      refine ht_goto (tgt := 8) (D 59 rfl) (by decide) ?_
      first | exact hih V1 _ _ h2 (by rw [h1, hstep, tpS_n hno]) (by rw [h01, hstep, tpS_n hno]) | exact hih _ _ _ ⟨fun o ho => by rw [up2_o _ _ (by omega), up2_o _ _ (by omega)]; exact h2.1 o ho, by rw [up2_k _ _ (by decide), up2_a _ _ (by decide)]; exact h2.2⟩ (by rw [hstep, tpS_y hye, up2_o _ _ (by decide), up2_row, h1]) (by rw [hstep, tpS_y hye, up2_s])
    · skip
      have hlt : (fdT a b c (V 1, n) k).2 < 1000 := by have h9 := mt (nI_leI (a := 1000) (b := (fdT a b c (V 1, n) k).2) (by omega) (by omega)).mpr hb69; omega
      refine ht_iload (D 37 rfl) rfl ?_
      refine ht_bipush (v := 10) (D 38 rfl) (by decide) ?_
      refine ht_icmp_eq (tgt := 93) (D 39 rfl) (by decide) (fun hb76 => ?_) (fun hb76 => ?_)
      · skip
        have hye : tpOk (fdT a b c (V 1, n) k).2 s := ⟨hlt, Or.inl hb76⟩
        refine ht_aload_n (D 46 rfl) rfl rfl ?_
        refine gf_X10_7 rfl (D 47 rfl) hM.k0 hM.q1 ?_
        refine ht_aload_n (D 48 rfl) rfl rfl ?_
        refine gm_X10_141 hM rfl (D 49 rfl) ?_
        rw [h01]
        refine ht_iload (D 50 rfl) rfl ?_
        refine hm_ist (o := 1) (n := (fdT a b c (V 1, n) k).2) (by decide) (D 51 rfl) hM.k1 hM.n1 (by first | rfl | exact nI_add _ _ | assumption) (by omega) (by decide) ?_
        refine ht_aload_n (D 52 rfl) rfl rfl ?_
        refine ht_dup (D 53 rfl) rfl ?_
        refine gm_X10_141 hM rfl (D 54 rfl) ?_
        rw [show up2 V1 1 (fdT a b c (V 1, n) k).2 s 0 1 = V1 0 1 from up2_a _ _ (by decide), h01]
        refine ht_iconst (v := 1) (D 55 rfl) (by decide) ?_
        refine ht_iadd (D 56 rfl) ?_
        rw [show nI (fdT a b c (V 1, n) k).2 + 1 = nI ((fdT a b c (V 1, n) k).2 + 1) from nI_1 _]
        refine pm_X10_141 hM rfl (D 57 rfl) ?_
        refine ht_iinc (v := nI (k + 1)) (D 58 rfl) rfl (nI_i1 _) (by decide) rfl ?_
        refine ht_goto (tgt := 8) (D 59 rfl) (by decide) ?_
        first | exact hih V1 _ _ h2 (by rw [h1, hstep, tpS_n hno]) (by rw [h01, hstep, tpS_n hno]) | exact hih _ _ _ ⟨fun o ho => by rw [up2_o _ _ (by omega), up2_o _ _ (by omega)]; exact h2.1 o ho, by rw [up2_k _ _ (by decide), up2_a _ _ (by decide)]; exact h2.2⟩ (by rw [hstep, tpS_y hye, up2_o _ _ (by decide), up2_row, h1]) (by rw [hstep, tpS_y hye, up2_s])
      · skip
        refine ht_iload (D 40 rfl) rfl ?_
        refine ht_bipush (v := 32) (D 41 rfl) (by decide) ?_
        refine ht_icmp_lt (tgt := 114) (D 42 rfl) (by decide) (fun hb83 => ?_) (fun hb83 => ?_)
        · skip
          have hno : ¬ tpOk (fdT a b c (V 1, n) k).2 s := fun q => by rcases q.2 with q2 | q2; exact hb76 q2; (have q3 := q2.1; simp only [i_lt, i_le] at hb83 q3; omega)
          refine ht_iinc (v := nI (k + 1)) (D 58 rfl) rfl (nI_i1 _) (by decide) rfl ?_
          refine ht_goto (tgt := 8) (D 59 rfl) (by decide) ?_
          first | exact hih V1 _ _ h2 (by rw [h1, hstep, tpS_n hno]) (by rw [h01, hstep, tpS_n hno]) | exact hih _ _ _ ⟨fun o ho => by rw [up2_o _ _ (by omega), up2_o _ _ (by omega)]; exact h2.1 o ho, by rw [up2_k _ _ (by decide), up2_a _ _ (by decide)]; exact h2.2⟩ (by rw [hstep, tpS_y hye, up2_o _ _ (by decide), up2_row, h1]) (by rw [hstep, tpS_y hye, up2_s])
        · skip
          refine ht_iload (D 43 rfl) rfl ?_
          refine ht_bipush (v := 126) (D 44 rfl) (by decide) ?_
          refine ht_icmp_gt (tgt := 114) (D 45 rfl) (by decide) (fun hb90 => ?_) (fun hb90 => ?_)
          · skip
            have hno : ¬ tpOk (fdT a b c (V 1, n) k).2 s := fun q => by rcases q.2 with q2 | q2; exact hb76 q2; (have q3 := q2.2; simp only [i_lt, i_le] at hb90 q3; omega)
            refine ht_iinc (v := nI (k + 1)) (D 58 rfl) rfl (nI_i1 _) (by decide) rfl ?_
            refine ht_goto (tgt := 8) (D 59 rfl) (by decide) ?_
            first | exact hih V1 _ _ h2 (by rw [h1, hstep, tpS_n hno]) (by rw [h01, hstep, tpS_n hno]) | exact hih _ _ _ ⟨fun o ho => by rw [up2_o _ _ (by omega), up2_o _ _ (by omega)]; exact h2.1 o ho, by rw [up2_k _ _ (by decide), up2_a _ _ (by decide)]; exact h2.2⟩ (by rw [hstep, tpS_y hye, up2_o _ _ (by decide), up2_row, h1]) (by rw [hstep, tpS_y hye, up2_s])
          · skip
            have hye : tpOk (fdT a b c (V 1, n) k).2 s := ⟨hlt, Or.inr ⟨by simp only [i_lt, i_le] at hb83 ⊢; omega, by simp only [i_lt, i_le] at hb90 ⊢; omega⟩⟩
            refine ht_aload_n (D 46 rfl) rfl rfl ?_
            refine gf_X10_7 rfl (D 47 rfl) hM.k0 hM.q1 ?_
            refine ht_aload_n (D 48 rfl) rfl rfl ?_
            refine gm_X10_141 hM rfl (D 49 rfl) ?_
            rw [h01]
            refine ht_iload (D 50 rfl) rfl ?_
            refine hm_ist (o := 1) (n := (fdT a b c (V 1, n) k).2) (by decide) (D 51 rfl) hM.k1 hM.n1 (by first | rfl | exact nI_add _ _ | assumption) (by omega) (by decide) ?_
            refine ht_aload_n (D 52 rfl) rfl rfl ?_
            refine ht_dup (D 53 rfl) rfl ?_
            refine gm_X10_141 hM rfl (D 54 rfl) ?_
            rw [show up2 V1 1 (fdT a b c (V 1, n) k).2 s 0 1 = V1 0 1 from up2_a _ _ (by decide), h01]
            refine ht_iconst (v := 1) (D 55 rfl) (by decide) ?_
            refine ht_iadd (D 56 rfl) ?_
            rw [show nI (fdT a b c (V 1, n) k).2 + 1 = nI ((fdT a b c (V 1, n) k).2 + 1) from nI_1 _]
            refine pm_X10_141 hM rfl (D 57 rfl) ?_
            refine ht_iinc (v := nI (k + 1)) (D 58 rfl) rfl (nI_i1 _) (by decide) rfl ?_
            refine ht_goto (tgt := 8) (D 59 rfl) (by decide) ?_
            first | exact hih V1 _ _ h2 (by rw [h1, hstep, tpS_n hno]) (by rw [h01, hstep, tpS_n hno]) | exact hih _ _ _ ⟨fun o ho => by rw [up2_o _ _ (by omega), up2_o _ _ (by omega)]; exact h2.1 o ho, by rw [up2_k _ _ (by decide), up2_a _ _ (by decide)]; exact h2.2⟩ (by rw [hstep, tpS_y hye, up2_o _ _ (by decide), up2_row, h1]) (by rw [hstep, tpS_y hye, up2_s])
  have loop : ∀ (r k : Nat) (V1 : VT) (l8 l10 : Option Value), k ≤ 24 → 24 - k = r → ((∀ o, 2 ≤ o → V1 o = V o) ∧ V1 0 30 = V 0 30) → V1 1 = (fdT a b c (V 1, n) k).1 → V1 0 1 = nI (fdT a b c (V 1, n) k).2 → HT G mX10_feed 8 [some (.ref m), some (.long a), none, some (.long b), none, some (.long c), none, some (.int (nI k)), l8, none, l10] [] (sv σ m V1 U) 1 (fun rv σ' => rv = some (.int (nI (fdT a b c (V 1, n) 24).2)) ∧ ∃ V' : VT, σ' = sv σ m V' U ∧ ((∀ o, 2 ≤ o → V' o = V o) ∧ V' 0 30 = V 0 30) ∧ V' 1 = (fdT a b c (V 1, n) 24).1 ∧ V' 0 1 = nI (fdT a b c (V 1, n) 24).2) := by
    intro r
    induction r using Nat.strongRecOn with
    | _ r ih =>
      intro k V1 l8 l10 hk hr h2 h1 h01
      refine ht_iload (D 5 rfl) rfl ?_
      refine ht_bipush (v := 24) (D 6 rfl) (by decide) ?_
      refine ht_icmp_ge (tgt := 120) (D 7 rfl) (by decide) (fun hb12 => ?_) (fun hb12 => ?_)
      · skip
        have hr0 : 24 = k := by have h9 := (nI_leI (a := 24) (b := k) (by omega) (by omega)).mp hb12; omega
        subst hr0
        refine ht_aload_n (D 60 rfl) rfl rfl ?_
        refine gm_X10_141 hM rfl (D 61 rfl) ?_
        refine ht_iret (D 62 rfl) rfl rfl ?_
        exact ⟨by rw [h01], V1, rfl, h2, h1, h01⟩
      · skip
        have hk24 : k < 24 := by have h9 := mt (nI_leI (a := 24) (b := k) (by omega) (by omega)).mpr hb12; omega
        refine ht_iload (D 8 rfl) rfl ?_
        refine ht_bipush (v := 8) (D 9 rfl) (by decide) ?_
        refine ht_icmp_ge (tgt := 26) (D 10 rfl) (by decide) (fun hb19 => ?_) (fun hb19 => ?_)
        · skip
          have hk8 : ¬ k < 8 := by have h9 := (nI_leI (a := 8) (b := k) (by omega) (by omega)).mp hb19; omega
          refine ht_iload (D 13 rfl) rfl ?_
          refine ht_bipush (v := 16) (D 14 rfl) (by decide) ?_
          refine ht_icmp_ge (tgt := 37) (D 15 rfl) (by decide) (fun hb30 => ?_) (fun hb30 => ?_)
          · skip
            have hk16 : ¬ k < 16 := by have h9 := (nI_leI (a := 16) (b := k) (by omega) (by omega)).mp hb30; omega
            have hsel : wSel a b c k = c := by unfold wSel; rw [if_neg hk8, if_neg hk16]
            refine ht_lload (D 18 rfl) rfl ?_
            have hnx := nx V1 k l8 l10 hk24 h2 h1 h01 (fun V2 g8 g10 q2 q1 q0 => ih (24 - (k + 1)) (by omega) (k + 1) V2 g8 g10 (by omega) rfl q2 q1 q0)
            rw [hsel] at hnx
            exact hnx
          · skip
            have hk16 : k < 16 := by have h9 := mt (nI_leI (a := 16) (b := k) (by omega) (by omega)).mpr hb30; omega
            have hsel : wSel a b c k = b := by unfold wSel; rw [if_neg hk8, if_pos hk16]
            refine ht_lload_n (D 16 rfl) rfl rfl ?_
            refine ht_goto (tgt := 39) (D 17 rfl) (by decide) ?_
            have hnx := nx V1 k l8 l10 hk24 h2 h1 h01 (fun V2 g8 g10 q2 q1 q0 => ih (24 - (k + 1)) (by omega) (k + 1) V2 g8 g10 (by omega) rfl q2 q1 q0)
            rw [hsel] at hnx
            exact hnx
        · skip
          have hk8 : k < 8 := by have h9 := mt (nI_leI (a := 8) (b := k) (by omega) (by omega)).mpr hb19; omega
          have hsel : wSel a b c k = a := if_pos hk8
          refine ht_lload_n (D 11 rfl) rfl rfl ?_
          refine ht_goto (tgt := 39) (D 12 rfl) (by decide) ?_
          have hnx := nx V1 k l8 l10 hk24 h2 h1 h01 (fun V2 g8 g10 q2 q1 q0 => ih (24 - (k + 1)) (by omega) (k + 1) V2 g8 g10 (by omega) rfl q2 q1 q0)
          rw [hsel] at hnx
          exact hnx
  show HT G mX10_feed 0 [some (.ref m), some (.long a), none, some (.long b), none, some (.long c), none, none, none, none, none] [] (sv σ m V U) 1 _
  refine ht_aload_n (D 0 rfl) rfl rfl ?_
  refine ht_iconst (v := 0) (D 1 rfl) (by decide) ?_
  refine pm_X10_135 hM rfl (D 2 rfl) ?_
  show HT _ _ _ _ _ (sv σ m (tz V) U) _ _
  refine ht_iconst (v := 0) (D 3 rfl) (by decide) ?_
  refine ht_istore (D 4 rfl) (by decide) rfl ?_
  exact ht_cast (loop 24 0 (tz V) none none (by omega) (by omega) ⟨fun o ho => tz_o V (by omega), up2_k V 0 (by decide)⟩ (tz_o V (by decide)) (by show up2 V 0 0 0 0 1 = nI n; rw [up2_k V 0 (by decide)]; exact hn)) rfl rfl rfl
end M17
