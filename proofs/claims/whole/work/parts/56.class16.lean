/-! ===== the class: needs ===== -/
section C16
variable {G : GG} {σ : Hp} {Z : VT} {xo b : Nat} {V : VT} {cN dN mN gk : Nat} {gw : Option GWt} {gi : Option GIt}
theorem CW.tr (hC : CW σ Z xo b V cN dN mN gk gw gi) (hTl : zQ σ (xo + 30) 0 = some b) : NW σ Z (xo + 30) b V cN dN mN gk gw gi := by
  obtain ⟨hX, hW, hF⟩ := hC
  exact ⟨hX.tr, hTl, ⟨by rcases hF.1 with c | c <;> omega, fun f hf => Or.inr (by have := hF.2 f hf; omega)⟩, hW.lw⟩
set_option maxRecDepth 100000 in
theorem sc_isFirmWith (hE : NE G) (hC : CW σ Z xo b V cN dN mN gk gw gi) (hbar : Z (xo + 14) 2 = -1) (hTl : zQ σ (xo + 30) 0 = some b) {k n w : Nat} (hk : k < dN) (hn : n ≤ 240) (hw : w ≤ 99) {cold brt : Nat → Int32} (hcb : ∀ i, i < n → Z (xo + 49) i = cold i ∧ Z (xo + 50) i = brt i) {fm : Nat → Int32} (hfm : fm = fmI gi cold brt (stF V (nv dN Z (xo + 14)) k) (nv dN Z (xo + 14) (20 + k)) (nv dN Z (xo + 14) k + nv dN Z (xo + 14) (10 + k) + nI w) (nv dN Z (xo + 14) k)) : Sp G mX9_isFirmWith 4 [.ref xo, .int (nI w), .int (nI k), .int (nI n)] (cv σ Z) (fun rv σ' => (∃ y : Int32, rv = some (.int y) ∧ ((y = 1 ∧ ∀ i, i < n → ¬ fm (i + 1) = 0) ∨ (y = 0 ∧ ∃ i, i < n ∧ fm (i + 1) = 0 ∧ ∀ i2, i2 < i → ¬ fm (i2 + 1) = 0))) ∧ ∃ Z2 : VT, σ' = cv σ Z2 ∧ Fr (Scr σ (xo + 30) b) Z Z2) := by
  have D := dat dl_X9_isFirmWith
  have hX := hC.1
  have hW := hC.2.1
  have h10 := hW.d10
  have h8 := hW.c8
  have h6 := hW.m6
  have h2 := hW.g2
  have hT := hC.tr hTl
  obtain ⟨p, hp1, hp2, hp3⟩ := hW.dc hk
  have hns : ∀ q, xo + 14 ≤ q → (q < xo + 30 ∨ (xo + 46 ≤ q ∧ q < xo + 52)) → ¬ Scr σ (xo + 30) b q := by
    rintro q q1 q2 (c | ⟨f, c1, c2⟩)
    · omega
    · have := hC.2.2.2 f c1; omega
  have loop : ∀ r j : Nat, j ≤ n → n - j = r → (∀ i, i < j → ¬ fm (i + 1) = 0) → ∀ Z1 : VT, Fr (Scr σ (xo + 30) b) Z Z1 → HT G mX9_isFirmWith 40 [some (.ref xo), some (.int (nI w)), some (.int (nI k)), some (.int (nI n)), some (.ref (xo + 14 + 6 + k)), some (.int (nv dN Z (xo + 14) k + nv dN Z (xo + 14) (10 + k) + nI w)), some (.int (fm j)), some (.int (stF V (nv dN Z (xo + 14)) k)), some (.int (nI j))] [] (cv σ Z1) 4 (fun rv σ' => (∃ y : Int32, rv = some (.int y) ∧ ((y = 1 ∧ ∀ i, i < n → ¬ fm (i + 1) = 0) ∨ (y = 0 ∧ ∃ i, i < n ∧ fm (i + 1) = 0 ∧ ∀ i2, i2 < i → ¬ fm (i2 + 1) = 0))) ∧ ∃ Z2 : VT, σ' = cv σ Z2 ∧ Fr (Scr σ (xo + 30) b) Z Z2) := by
    intro r
    induction r using Nat.strongRecOn with
    | _ r ih =>
      intro j hj hr hno Z1 hf1
      have hT1 := hT.keep (hf1.mono (fun _ => Scr.np))
      have hW1 := hW
      refine ht_iload (D 21 rfl) rfl ?_
      refine ht_iload_n (D 22 rfl) rfl rfl ?_
      refine ht_icmp_ge (tgt := 105) (D 23 rfl) (by decide) (fun hb43 => ?_) (fun hb43 => ?_)
      · skip
        have hjk : j = n := by have h3 := (nI_leI (a := n) (b := j) (by omega) (by omega)).mp hb43; omega
        subst hjk
        refine ht_iconst (v := 1) (D 53 rfl) (by decide) ?_
        refine ht_iret (D 54 rfl) rfl rfl ?_
        exact ⟨⟨1, rfl, Or.inl ⟨rfl, hno⟩⟩, Z1, rfl, hf1⟩
      · skip
        have hjk : j < n := by have h3 := mt (nI_leI (a := n) (b := j) (by omega) (by omega)).mpr hb43; omega
        refine ht_aload_n (D 24 rfl) rfl rfl ?_
        refine gf_X9_28 rfl (D 25 rfl) hX.k0 hX.q2 ?_
        refine ht_aload_n (D 26 rfl) rfl rfl ?_
        refine gf_X9_42 rfl (D 27 rfl) hX.k0 hX.q6 ?_
        refine ht_iload (D 28 rfl) rfl ?_
        refine hi_ild (n := j) (D 29 rfl) hX.k6 hX.n6 (by first | rfl | exact nI_add _ _ | assumption) (by omega) (by first | decide | omega) ?_
        refine ht_iload (D 30 rfl) rfl ?_
        refine ht_aload_n (D 31 rfl) rfl rfl ?_
        refine gf_X9_45 rfl (D 32 rfl) hX.k0 hX.q7 ?_
        refine ht_iload (D 33 rfl) rfl ?_
        refine hi_ild (n := j) (D 34 rfl) hX.k7 hX.n7 (by first | rfl | exact nI_add _ _ | assumption) (by omega) (by first | decide | omega) ?_
        refine kVX4_setAround (As := [_, _, _]) cl_X9_247 (D 35 rfl) (sc_setAround hX.tr _ _ _) hX.tr.k0 rfl (Nat.le_of_ble_eq_true rfl) rfl (Nat.le_of_ble_eq_true rfl) (by omega) ?_
        rintro _ _ ⟨rfl, rfl⟩
        generalize hZ2 : up2 (up2 (up2 Z1 (xo + 30 + 5) 3 (Z1 (xo + 49) j)) (xo + 30 + 5) 4 (stF V (nv dN Z (xo + 14)) k)) (xo + 30 + 5) 6 (Z1 (xo + 50) j) = Z2
        have hf2 : Fr (fun q => q = xo + 30 + 5) Z1 Z2 := by rw [← hZ2]; exact fun r hr => by rw [up2_o _ _ hr, up2_o _ _ hr, up2_o _ _ hr]
        have e49 : Z1 (xo + 49) j = cold j := by rw [hf1 _ (hns _ (by omega) (by omega))]; exact (hcb j hjk).1
        have e50 : Z1 (xo + 50) j = brt j := by rw [hf1 _ (hns _ (by omega) (by omega))]; exact (hcb j hjk).2
        have q3 : Z2 (xo + 30 + 5) 3 = cold j := by rw [← hZ2, ← e49]; simp [up2]
        have q4 : Z2 (xo + 30 + 5) 4 = stF V (nv dN Z (xo + 14)) k := by rw [← hZ2]; simp [up2]
        have q6 : Z2 (xo + 30 + 5) 6 = brt j := by rw [← hZ2, ← e50]; simp [up2]
        have hT2 := hT1.keep (hf2.mono (fun q hq => Or.inl ⟨by omega, by omega⟩))
        refine ht_aload_n (D 36 rfl) rfl rfl ?_
        refine gf_X9_28 rfl (D 37 rfl) hX.k0 hX.q2 ?_
        refine ht_aload (D 38 rfl) rfl ?_
        refine ht_iload (D 39 rfl) rfl ?_
        refine kVX3_saltBehind (As := [_]) cl_X9_251 (D 40 rfl) (sc_saltBehind (hX.nt.lk (j := k) (by omega)) (nI j)) (hX.nt.lk (j := k) (by omega)) rfl (Nat.le_of_ble_eq_true rfl) rfl (Nat.le_of_ble_eq_true rfl) (by omega) ?_
        rintro _ _ ⟨rfl, rfl⟩
        rw [show Z2 (xo + 14 + 6 + k) = Z (xo + 14 + 6 + k) from (hf2 _ (by omega)).trans (hf1 _ (hns _ (by omega) (by omega))), ← nv_slt dN Z (xo + 14) (show k < 10 by omega)]
        refine ht_iload (D 41 rfl) rfl ?_
        refine ht_iload (D 42 rfl) rfl ?_
        refine ht_iload (D 43 rfl) rfl ?_
        refine ht_isub (D 44 rfl) ?_
        refine kVX4_iceBehind (As := [_, _, _]) cl_X9_254 (D 45 rfl) (sc_iceBehind hE hT2 q3 q4 q6 _ _ _) hX.tr.k0 rfl (Nat.le_of_ble_eq_true rfl) rfl (Nat.le_of_ble_eq_true rfl) (by omega) ?_
        rintro _ _ ⟨rfl, Z3, rfl, hf3, -⟩
        have hstep : ibV (frF gi (cold j) (stF V (nv dN Z (xo + 14)) k) (imax 0 (nv dN Z (xo + 14) (20 + k) - nI j)) (brt j) (fm j) (nv dN Z (xo + 14) k + nv dN Z (xo + 14) (10 + k) + nI w - fm j)) (fm j) (nv dN Z (xo + 14) k + nv dN Z (xo + 14) (10 + k) + nI w - fm j) = fm (j + 1) := by rw [hfm]; rfl
        rw [hstep]
        have hf13 : Fr (Scr σ (xo + 30) b) Z Z3 := hf1.tr (fun q hq => (hf3 q hq).trans (hf2 q (fun e => hq (Or.inl e))))
        refine ht_istore (D 46 rfl) (by decide) rfl ?_
        refine ht_iload (D 47 rfl) rfl ?_
        refine ht_if_ne (tgt := 99) (D 48 rfl) (by decide) (fun hb94 => ?_) (fun hb94 => ?_)
        · skip
          refine ht_iinc (v := nI (j + 1)) (D 51 rfl) rfl (nI_i1 _) (by decide) rfl ?_
          refine ht_goto (tgt := 40) (D 52 rfl) (by decide) ?_
          exact ht_cast (ih (n - (j + 1)) (by omega) (j + 1) (by omega) rfl (fun i hi => by
              by_cases e : i = j
              · rw [e]; exact hb94
              · exact hno i (by omega)) Z3 hf13) rfl rfl rfl
        · skip
          refine ht_iconst (v := 0) (D 49 rfl) (by decide) ?_
          refine ht_iret (D 50 rfl) rfl rfl ?_
          exact ⟨⟨0, rfl, Or.inr ⟨rfl, j, hjk, hb94, hno⟩⟩, Z3, rfl, hf13⟩
  show HT G mX9_isFirmWith 0 [some (.ref xo), some (.int (nI w)), some (.int (nI k)), some (.int (nI n)), none, none, none, none, none] [] (cv σ Z) 4 _
  refine ht_aload_n (D 0 rfl) rfl rfl ?_
  refine gf_X9_24 rfl (D 1 rfl) hX.k0 hX.q1 ?_
  refine gf_X9_100 rfl (D 2 rfl) hX.nt.k0 hX.nt.q4 ?_
  refine ht_iload_n (D 3 rfl) rfl rfl ?_
  refine ht_ald (n := k) (Or.inl rfl) (D 4 rfl) hX.nt.k4 hX.nt.n4 rfl (by omega) (by decide) (hX.nt.lq (j := k) (by omega)) ?_
  refine ht_astore (D 5 rfl) (by decide) rfl ?_
  refine ht_aload (D 6 rfl) rfl ?_
  refine kVX3_held (As := []) cl_X9_186 (D 7 rfl) (sc_held (hX.nt.lk (j := k) (by omega))) (hX.nt.lk (j := k) (by omega)) rfl (Nat.le_of_ble_eq_true rfl) rfl (Nat.le_of_ble_eq_true rfl) (by omega) ?_
  rintro _ _ ⟨rfl, rfl⟩
  rw [← nv_ice dN Z (xo + 14) (show k < 10 by omega), ← nv_wat dN Z (xo + 14) (show k < 10 by omega)]
  refine ht_iload_n (D 8 rfl) rfl rfl ?_
  refine ht_iadd (D 9 rfl) ?_
  refine ht_istore (D 10 rfl) (by decide) rfl ?_
  refine ht_aload (D 11 rfl) rfl ?_
  refine gi_X9_104 rfl (D 12 rfl) (hX.nt.lk (j := k) (by omega)) ?_
  rw [← nv_ice dN Z (xo + 14) (show k < 10 by omega)]
  refine ht_istore (D 13 rfl) (by decide) rfl ?_
  refine ht_aload_n (D 14 rfl) rfl rfl ?_
  refine gf_X9_24 rfl (D 15 rfl) hX.k0 hX.q1 ?_
  refine ht_iload_n (D 16 rfl) rfl rfl ?_
  refine kVX4_stoveAt (As := [_]) cl_X9_244 (D 17 rfl) (sc_stoveAt hX.nt hW.lq hW.lb (show k < 10 by omega) hp3 (show p < 8 by omega) (hW.dt hk)) hX.nt.k0 rfl (Nat.le_of_ble_eq_true rfl) rfl (Nat.le_of_ble_eq_true rfl) (by omega) ?_
  rintro _ _ ⟨rfl, rfl⟩
  rw [stC_e hW hk dN]
  refine ht_istore (D 18 rfl) (by decide) rfl ?_
  refine ht_iconst (v := 0) (D 19 rfl) (by decide) ?_
  refine ht_istore (D 20 rfl) (by decide) rfl ?_
  exact ht_cast (loop n 0 (by omega) (by omega) (fun i hi => absurd hi (by omega)) Z (Fr.rf _ _)) (by rw [hfm]; rfl) rfl rfl
theorem firm_hl (hX : PX V cN dN mN gk) {S : ST} (hl : LkI S dN) (hm : Mn S cN mN) {k h : Nat} (hk : k < dN) {w : Nat} (hw : w ≤ 99) (hroom : pr S k (nI w) = nI w) {u : Nat} (hu : S (20 + k) = nI u) (hu2 : u < 2 ^ 30) {n : Nat} (hn : n ≤ 240) {fm : Nat → Int32} (hfm : fm = fmI gi (fun i => dgF gw (h + i) 0) (fun i => brF V (psBI V gw gi dN mN gk S h (nI k) i) mN gk (h + i) k) (stF V S k) (S (20 + k)) (S k + S (10 + k) + nI w) (S k)) {y : Int32} (hy : (y = 1 ∧ ∀ i, i < n → ¬ fm (i + 1) = 0) ∨ (y = 0 ∧ ∃ i, i < n ∧ fm (i + 1) = 0 ∧ ∀ i2, i2 < i → ¬ fm (i2 + 1) = 0)) : hlF V gw gi dN mN gk (prS S k (nI w)) h k 0 n = y := by
  have hwi : 0 ≤ nI w ∧ nI w ≤ 99 := ⟨nI_pos' (by omega), nI_le (b := 99) hw (by decide)⟩
  have h10 := hX.1.2.1.2
  have run := needs_run (gw := gw) (gi := gi) (h := h) hX hl hm hk hwi hroom hu hu2 hfm
  have hlA := psI_lk hX gw gi (prS_lk h10 hk hwi hl) (prS_mn (nI w) (by omega) hm) h
  rcases hy with ⟨rfl, hall⟩ | ⟨rfl, i, i1, i2, i3⟩
  · refine hlF_1 n 0 (fun i _ hi => ?_)
    obtain ⟨-, -, -, -, r5⟩ := run i (by omega) (fun j hj => hall j (by omega))
    obtain ⟨p, p1, p2⟩ := (hlA (i + 1)).ice hk
    have hz := hall i (by omega)
    rw [← r5, p2] at hz
    rw [p2]
    exact nI_lt (a := 0) (Nat.pos_of_ne_zero (fun e => hz (by rw [e]; rfl))) (by omega)
  · refine hlF_0 (i := i) ?_ n 0 (Nat.zero_le _) (by omega)
    obtain ⟨-, -, -, -, r5⟩ := run i (by omega) i3
    rw [r5, i2]
    exact Int32.lt_irrefl
set_option maxRecDepth 100000 in
theorem sc_needs (hE : NE G) (hC : CW σ Z xo b V cN dN mN gk gw gi) (hbar : Z (xo + 14) 2 = -1) (hmn : Mn (nv dN Z (xo + 14)) cN mN) (hlk : LkI (nv dN Z (xo + 14)) dN) {h : Nat} (hh : Z (xo + 14) 1 = nI h) (h31 : h < 2 ^ 30) (hsl : ∀ k, k < dN → ∃ u, nv dN Z (xo + 14) (20 + k) = nI u ∧ u < 2 ^ 30) (x w : Int32) : Sp G mX9_needs 7 [.ref xo, .int x, .int w] (cv σ Z) (QC σ xo b dN Z (aNeeds V gw gi dN mN gk h (nv dN Z (xo + 14)) x w) (nv dN Z (xo + 14))) := by
  have D := dat dl_X9_needs
  have hX := hC.1
  have hW := hC.2.1
  have h10 := hW.d10
  have h8 := hW.c8
  have h6 := hW.m6
  have h2 := hW.g2
  have loop : ∀ k n R : Nat, k < dN → n ≤ 240 → R ≤ 99 → 99 - nv dN Z (xo + 14) k - nv dN Z (xo + 14) (10 + k) = nI R → ∀ {u : Nat}, nv dN Z (xo + 14) (20 + k) = nI u → u < 2 ^ 30 → ∀ {F9 F0 : ST}, (∀ i, i < n → F9 i = dgF gw (h + i) 0 ∧ F0 i = brF V (psBI V gw gi dN mN gk (nv dN Z (xo + 14)) h (nI k) i) mN gk (h + i) k) → ∀ r j : Nat, j ≤ R + 1 → R + 1 - j = r → neF V gw gi dN mN gk (nv dN Z (xo + 14)) h k n j (R + 1 - j) = neF V gw gi dN mN gk (nv dN Z (xo + 14)) h k n 0 (R + 1) → ∀ Z1 : VT, Fr (XP σ xo b) Z Z1 → nv dN Z1 (xo + 14) = nv dN Z (xo + 14) → Z1 (xo + 14) 2 = -1 → Z1 (xo + 49) = F9 → Z1 (xo + 50) = F0 → HT G mX9_needs 51 [some (.ref xo), some (.int (nI k)), some (.int (nI n)), some (.int (nI R)), some (.int (nI j))] [] (cv (wQ σ (xo + 30) 0 (some b)) Z1) 7 (QC σ xo b dN Z (neF V gw gi dN mN gk (nv dN Z (xo + 14)) h k n 0 (R + 1)) (nv dN Z (xo + 14))) := by
    intro k n R hk hn hR hrm u hu hu2 F9 F0 hcb r
    induction r using Nat.strongRecOn with
    | _ r ih =>
      intro j hj hr hne Z1 hfx hnn1 hbn1 h49 h50
      have hC1 := (hC.keep (Z2 := Z1) hfx).w0 (v := some b)
      have hTl1 : zQ (wQ σ (xo + 30) 0 (some b)) (xo + 30) 0 = some b := by rw [zQ_wQ, up2_s]
      refine ht_iload (D 27 rfl) rfl ?_
      refine ht_iload_n (D 28 rfl) rfl rfl ?_
      refine ht_icmp_gt (tgt := 77) (D 29 rfl) (by decide) (fun hb54 => ?_) (fun hb54 => ?_)
      · skip
        have hjk : R < j := (nI_ltI (by omega) (by omega)).mp hb54
        refine ht_iconst (v := -1) (D 40 rfl) (by decide) ?_
        refine ht_iret (D 41 rfl) rfl rfl ?_
        exact QC_m (by rw [← hne, show R + 1 - j = 0 by omega]; rfl) hfx hnn1 hbn1
      · skip
        have hjk : ¬ R < j := fun c => hb54 (nI_lt c (by omega))
        have hw99 : j ≤ 99 := by omega
        refine ht_aload_n (D 30 rfl) rfl rfl ?_
        refine ht_iload (D 31 rfl) rfl ?_
        refine ht_iload_n (D 32 rfl) rfl rfl ?_
        refine ht_iload_n (D 33 rfl) rfl rfl ?_
        refine kVX9_isFirmWith (As := [_, _, _]) cl_X9_189 (D 34 rfl) (sc_isFirmWith hE hC1 hbn1 hTl1 hk hn hw99 (cold := (fun i => dgF gw (h + i) 0)) (brt := (fun i => brF V (psBI V gw gi dN mN gk (nv dN Z (xo + 14)) h (nI k) i) mN gk (h + i) k)) (fun i hi => by rw [h49, h50]; exact hcb i hi) rfl) hC1.1.k0 rfl (Nat.le_of_ble_eq_true rfl) rfl (Nat.le_of_ble_eq_true rfl) (by omega) ?_
        rintro _ _ ⟨⟨y, rfl, hy⟩, Z2, rfl, hf2⟩
        rw [hnn1] at hy
        have hroom : pr (nv dN Z (xo + 14)) k (nI j) = nI j := by
          unfold pr
          rw [hrm]
          unfold imin
          rw [if_neg (fun c => absurd ((nI_ltI (by omega) (by omega)).mp c) (by omega))]
        have hhl := firm_hl (gw := gw) (gi := gi) (h := h) hW.px hlk hmn hk hw99 hroom hu hu2 hn rfl hy
        have hfx2 : Fr (XP σ xo b) Z1 Z2 := hf2.mono (fun q hq => hq.elim (fun e => Or.inl ⟨by omega, by omega⟩) (fun ⟨f, c1, c2⟩ => Or.inr ⟨f, isF_w0.mp c1, c2⟩))
        have hk2 : ∀ q, xo + 14 ≤ q → (q < xo + 30 ∨ (xo + 46 ≤ q ∧ q < xo + 52)) → Z2 q = Z1 q := fun q q1 q2 => hf2 q (by
          rintro (c | ⟨f, c1, c2⟩)
          · omega
          · have := hC.2.2.2 f (isF_w0.mp c1); omega)
        have hnn2 : nv dN Z2 (xo + 14) = nv dN Z (xo + 14) := (nv_fr (fun i i1 _ _ => hk2 _ (by omega) (by omega))).trans hnn1
        refine ht_if_eq (tgt := 71) (D 35 rfl) (by decide) (fun hb65 => ?_) (fun hb65 => ?_)
        · skip
          refine ht_iinc (v := nI (j + 1)) (D 38 rfl) rfl (nI_i1 _) (by decide) rfl ?_
          refine ht_goto (tgt := 51) (D 39 rfl) (by decide) ?_
          exact ht_cast (ih (R + 1 - (j + 1)) (by omega) (j + 1) (by omega) rfl (by rw [← hne, show R + 1 - j = R + 1 - (j + 1) + 1 by omega, neF_y (hhl.trans hb65)]) Z2 (hfx.tr hfx2) hnn2 (by rw [hk2 _ (by omega) (by omega)]; exact hbn1) (by rw [hk2 _ (by omega) (by omega)]; exact h49) (by rw [hk2 _ (by omega) (by omega)]; exact h50)) rfl rfl rfl
        · skip
          refine ht_iload (D 36 rfl) rfl ?_
          refine ht_iret (D 37 rfl) rfl rfl ?_
          exact QC_m (by rw [← hne, show R + 1 - j = R + 1 - (j + 1) + 1 by omega, neF_n (fun e => hb65 (hhl.symm.trans e))]) (hfx.tr hfx2) hnn2 (by rw [hk2 _ (by omega) (by omega)]; exact hbn1)
  show HT G mX9_needs 0 [some (.ref xo), some (.int x), some (.int w), none, none] [] (cv σ Z) 7 _
  refine ht_iload_n (D 0 rfl) rfl rfl ?_
  refine ht_aload_n (D 1 rfl) rfl rfl ?_
  refine gf_X9_24 rfl (D 2 rfl) hX.k0 hX.q1 ?_
  refine gf_X9_75 rfl (D 3 rfl) hX.nt.k0 hW.lq ?_
  refine gi_X9_97 rfl (D 4 rfl) hW.lb.k0 ?_
  rw [hW.nd]
  refine kSX9_isBelow (As := [_, _]) cl_X9_79 (D 5 rfl) (sc_isBelow _ _) rfl (Nat.le_of_ble_eq_true rfl) rfl (Nat.le_of_ble_eq_true rfl) (by omega) ?_
  rintro _ _ ⟨rfl, rfl⟩
  refine ht_if_eq (tgt := 24) (D 6 rfl) (by decide) (fun hb14 => ?_) (fun hb14 => ?_)
  · skip
    have q1 := b01_eq hb14
    refine ht_iconst (v := -1) (D 10 rfl) (by decide) ?_
    refine ht_iret (D 11 rfl) rfl rfl ?_
    first
    | exact QC_t hbar (by unfold aNeeds; rw [if_neg (not_and_of_not_left _ q1)])
    | exact QC_t hbar (by unfold aNeeds; rw [if_neg (not_and_of_not_right _ q2)])
  · skip
    have q1 := b01_ne hb14
    obtain ⟨k, hk1, rfl⟩ := rng (by omega) q1
    refine ht_iload_n (D 7 rfl) rfl rfl ?_
    refine kSX9_isAhead (As := [_]) cl_X9_172 (D 8 rfl) (sc_isAhead _) rfl (Nat.le_of_ble_eq_true rfl) rfl (Nat.le_of_ble_eq_true rfl) (by omega) ?_
    rintro _ _ ⟨rfl, rfl⟩
    refine ht_if_ne (tgt := 26) (D 9 rfl) (by decide) (fun hb21 => ?_) (fun hb21 => ?_)
    · skip
      have q2 := b01_ne hb21
      obtain ⟨n, hn1, hn2, rfl⟩ := rngW (lo := 1) 240 (by decide) q2 (by decide)
      obtain ⟨u, hu, hu2⟩ := hsl k hk1
      obtain ⟨p, q, r, l1, l2, l3, -⟩ := hlk k hk1
      have hrm : 99 - nv dN Z (xo + 14) k - nv dN Z (xo + 14) (10 + k) = nI (99 - p - q) := by
        rw [l1, l2]
        apply Int32.toInt_inj.mp
        have z9 : (99 : Int32).toInt = 99 := rfl
        have e1 : (nI p).toInt = p := nI_toInt (by omega)
        have e2 : (nI q).toInt = q := nI_toInt (by omega)
        have e3 : (99 - nI p : Int32).toInt = 99 - p := by rw [xi_sub] <;> rw [e1, z9] <;> omega
        rw [nI_toInt (by omega), xi_sub] <;> rw [e3, e2] <;> omega
      have hsum : (99 : Int32) - (nv dN Z (xo + 14) k + nv dN Z (xo + 14) (10 + k)) = 99 - nv dN Z (xo + 14) k - nv dN Z (xo + 14) (10 + k) := by grind
      refine ht_aload_n (D 12 rfl) rfl rfl ?_
      refine ht_iload_n (D 13 rfl) rfl rfl ?_
      refine ht_iload_n (D 14 rfl) rfl rfl ?_
      refine kVX9_foresee (As := [_, _]) cl_X9_183 (D 15 rfl) (sc_foresee hE hC hbar hmn hlk hh h31 hk1 hn1) hX.k0 rfl (Nat.le_of_ble_eq_true rfl) rfl (Nat.le_of_ble_eq_true rfl) (by omega) ?_
      rintro _ _ ⟨rfl, Z1, rfl, hf1, hn3, ha1, hcb⟩
      have hC1 := (hC.keep (Z2 := Z1) hf1).w0 (v := some b)
      have hX1 := hC1.1
      refine ht_bipush (v := 99) (D 16 rfl) (by decide) ?_
      refine ht_aload_n (D 17 rfl) rfl rfl ?_
      refine gf_X9_24 rfl (D 18 rfl) hX1.k0 hX1.q1 ?_
      refine gf_X9_100 rfl (D 19 rfl) hX1.nt.k0 hX1.nt.q4 ?_
      refine ht_iload_n (D 20 rfl) rfl rfl ?_
      refine ht_ald (n := k) (Or.inl rfl) (D 21 rfl) hX1.nt.k4 hX1.nt.n4 rfl (by omega) (by decide) (hX1.nt.lq (j := k) (by omega)) ?_
      refine kVX3_held (As := []) cl_X9_186 (D 22 rfl) (sc_held (hX1.nt.lk (j := k) (by omega))) (hX1.nt.lk (j := k) (by omega)) rfl (Nat.le_of_ble_eq_true rfl) rfl (Nat.le_of_ble_eq_true rfl) (by omega) ?_
      rintro _ _ ⟨rfl, rfl⟩
      rw [← nv_ice dN Z1 (xo + 14) (show k < 10 by omega), ← nv_wat dN Z1 (xo + 14) (show k < 10 by omega), hn3]
      refine ht_isub (D 23 rfl) ?_
      rw [hsum, hrm]
      refine ht_istore_n (D 24 rfl) rfl (by decide) rfl ?_
      refine ht_iconst (v := 0) (D 25 rfl) (by decide) ?_
      refine ht_istore (D 26 rfl) (by decide) rfl ?_
      have e : aNeeds V gw gi dN mN gk h (nv dN Z (xo + 14)) (nI k) (nI n) = neF V gw gi dN mN gk (nv dN Z (xo + 14)) h k n 0 (99 - p - q + 1) := by unfold aNeeds; rw [if_pos ⟨q1, q2⟩, nI_clamp (by omega), nI_clamp (by omega), hrm, nI_clamp (by omega)]
      rw [e]
      exact ht_cast (loop k n (99 - p - q) hk1 hn1 (by omega) hrm hu hu2 (F9 := Z1 (xo + 49)) (F0 := Z1 (xo + 50)) hcb (99 - p - q + 1) 0 (by omega) (by omega) rfl Z1 hf1 hn3 (by rw [ha1]; exact hbar) rfl rfl) rfl rfl rfl
    · skip
      have q2 := b01_eq hb21
      refine ht_iconst (v := -1) (D 10 rfl) (by decide) ?_
      refine ht_iret (D 11 rfl) rfl rfl ?_
      first
      | exact QC_t hbar (by unfold aNeeds; rw [if_neg (not_and_of_not_left _ q1)])
      | exact QC_t hbar (by unfold aNeeds; rw [if_neg (not_and_of_not_right _ q2)])
end C16
