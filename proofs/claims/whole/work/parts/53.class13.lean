/-! ===== the class: enough ===== -/
theorem anC_e (dN : Nat) (Z : VT) (a : Nat) : ∀ k, k ≤ 10 → anC Z a k = anL (nv dN Z a) k := by
  intro k
  induction k with
  | zero => intro _; rfl
  | succ k ih =>
    intro hk
    simp only [anC, anL]
    rw [ih (by omega), nv_ice dN Z a (show k < 10 by omega)]
theorem prS_lk {S : ST} {dN k : Nat} (hd : dN ≤ 10) (hk : k < dN) {w : Int32} (hw : 0 ≤ w ∧ w ≤ 99) (hl : LkI S dN) : LkI (prS S k w) dN := by
  obtain ⟨p, q, r, h1, h2, h3, h4, h5, h6⟩ := hl k hk
  have e1 : (nI p).toInt = p := nI_toInt (by omega)
  have e2 : (nI q).toInt = q := nI_toInt (by omega)
  have z0 : (0 : Int32).toInt = 0 := rfl
  have z9 : (99 : Int32).toInt = 99 := rfl
  obtain ⟨w1, w2⟩ := hw
  rw [i_le] at w1 w2
  have a1 : (99 - S k : Int32).toInt = 99 - p := by rw [xi_sub] <;> rw [h1, e1, z9] <;> omega
  have a2 : (99 - S k - S (10 + k) : Int32).toInt = 99 - p - q := by rw [xi_sub] <;> rw [a1, h2, e2] <;> omega
  obtain ⟨m, m1, m2⟩ : ∃ m : Nat, pr S k w = nI m ∧ p + q + m ≤ 99 := by
    refine ⟨(pr S k w).toInt.toNat, xi_nat ?_, ?_⟩ <;> (unfold pr; rw [imin_t, a2]; omega)
  intro i hi
  unfold prS
  by_cases c : i = k
  · subst c
    refine ⟨p, q + m, r, ?_, ?_, by omega, ?_, by omega, ?_⟩
    · rw [va_ne _ _ (by omega), va_ne _ _ (by omega)]; exact h1
    · rw [va_ne _ _ (by omega), va_sm, h2, m1, nI_add]
    · rw [va_ne _ _ (by omega), va_ne _ _ (by omega)]; exact h4
    · rw [va_sm, h6, m1, nI_add]; congr 1; omega
  · rw [va_ne _ _ (show i ≠ 40 + k by omega), va_ne _ _ (show i ≠ 10 + k by omega), va_ne _ _ (show 10 + i ≠ 40 + k by omega), va_ne _ _ (show 10 + i ≠ 10 + k by omega), va_ne _ _ (show 30 + i ≠ 40 + k by omega), va_ne _ _ (show 30 + i ≠ 10 + k by omega), va_ne _ _ (show 40 + i ≠ 40 + k by omega), va_ne _ _ (show 40 + i ≠ 10 + k by omega)]
    exact hl i hi
section C13
variable {G : GG} {σ : Hp} {Z : VT} {xo b : Nat} {V : VT} {cN dN mN gk : Nat} {gw : Option GWt} {gi : Option GIt}
theorem enI_0 {S : ST} {h : Nat} {od : Nat → Nat} {w : Int32} {t : Nat} (ha : anL (enS V gw gi dN mN gk S h od w (t + 1)) dN = true) : ∀ n, t < n → enI V gw gi dN mN gk S h od w n = 0 := by
  intro n
  induction n with
  | zero => intro h0; omega
  | succ n ih =>
    intro h0
    show (if anL (enS V gw gi dN mN gk S h od w (n + 1)) dN = true then 0 else enI V gw gi dN mN gk S h od w n) = 0
    by_cases e : t = n
    · rw [← e, if_pos ha]
    · rw [ih (by omega)]; split <;> rfl
theorem enI_1 {S : ST} {h : Nat} {od : Nat → Nat} {w : Int32} : ∀ n, (∀ t, t < n → ¬ anL (enS V gw gi dN mN gk S h od w (t + 1)) dN = true) → enI V gw gi dN mN gk S h od w n = 1 := by
  intro n
  induction n with
  | zero => intro _; rfl
  | succ n ih =>
    intro h0
    show (if anL (enS V gw gi dN mN gk S h od w (n + 1)) dN = true then 0 else enI V gw gi dN mN gk S h od w n) = 1
    rw [if_neg (h0 n (by omega))]
    exact ih (fun t ht => h0 t (by omega))
theorem enS_lk (hX : PX V cN dN mN gk) (gw : Option GWt) (gi : Option GIt) {S : ST} (hl : LkI S dN) (hm : Mn S cN mN) (h : Nat) {od : Nat → Nat} (ho : ∀ i, i < dN → od i < dN) {w : Int32} (hw : 0 ≤ w ∧ w ≤ 99) : ∀ k, LkI (enS V gw gi dN mN gk S h od w k) dN := by
  intro k
  have h10 := hX.1.2.1.2
  induction k with
  | zero => exact hl
  | succ k ih =>
    have hm2 := enS_mn hX.1 gw gi h hm ho w k
    refine psS_lk hX gw gi ?_ ?_ (h + k) 0
    · split
      · rename_i c; exact prS_lk h10 (ho k c) hw ih
      · exact ih
    · split
      · rename_i c; exact prS_mn w (by have := ho k c; omega) hm2
      · exact hm2
set_option maxRecDepth 100000 in
theorem sc_enloop (hE : NE G) (hC : CW σ Z xo b V cN dN mN gk gw gi) (hbar : Z (xo + 14) 2 = -1) (hmn : Mn (nv dN Z (xo + 14)) cN mN) (hlk : LkI (nv dN Z (xo + 14)) dN) {h : Nat} (hh : Z (xo + 14) 1 = nI h) (h31 : h < 2 ^ 30) {w : Int32} (hw : 0 ≤ w ∧ w ≤ 99) {n : Nat} (hn : n ≤ 240) {od : Nat → Nat} {F : ST} (hod : ∀ i, i < dN → od i < dN ∧ F i = nI (od i)) (hLn : zQ (wQ σ (xo + 30) 0 (some b)) (xo + 14) 0 = some b) {Z0 : VT} (hT0 : NW (wQ σ (xo + 30) 0 (some b)) Z0 (xo + 30) b V cN dN mN gk gw gi) : ∀ r j : Nat, j ≤ n → n - j = r → (∀ t, t < j → ¬ anL (enS V gw gi dN mN gk (nv dN Z (xo + 14)) h od w (t + 1)) dN = true) → ∀ Z1 : VT, Fr (XP σ xo b) Z Z1 → Fr (NP (wQ σ (xo + 30) 0 (some b)) (xo + 30) b) Z0 Z1 → nv dN Z1 (xo + 30) = enS V gw gi dN mN gk (nv dN Z (xo + 14)) h od w j → Z1 (xo + 30) 2 = -1 → nv dN Z1 (xo + 14) = nv dN Z (xo + 14) → Z1 (xo + 14) 2 = -1 → Z1 (xo + 48) = F → HT G mX9_enough 41 [some (.ref xo), some (.int w), some (.int (nI n)), some (.int (nI j))] [] (cv (wQ σ (xo + 30) 0 (some b)) Z1) 8 (QC σ xo b dN Z (enI V gw gi dN mN gk (nv dN Z (xo + 14)) h od w n) (nv dN Z (xo + 14))) := by
    have D := dat dl_X9_enough
    have hX := hC.1
    have hW := hC.2.1
    have h10 := hW.d10
    have h8 := hW.c8
    have h6 := hW.m6
    have h2 := hW.g2
    have hX1 : XS (wQ σ (xo + 30) 0 (some b)) xo := hX.w0
    have ho : ∀ i, i < dN → od i < dN := fun i hi => (hod i hi).1
    intro r
    induction r using Nat.strongRecOn with
    | _ r ih =>
      intro j hj hr hno Z1 hfx hft hn1 hb1 hnn hbn hod2
      have hT1 := hT0.keep hft
      have body : j < n → ∀ Z3 : VT, Fr (XP σ xo b) Z Z3 → Fr (NP (wQ σ (xo + 30) 0 (some b)) (xo + 30) b) Z0 Z3 → nv dN Z3 (xo + 30) = (if j < dN then prS (enS V gw gi dN mN gk (nv dN Z (xo + 14)) h od w j) (od j) w else enS V gw gi dN mN gk (nv dN Z (xo + 14)) h od w j) → Z3 (xo + 30) 2 = -1 → nv dN Z3 (xo + 14) = nv dN Z (xo + 14) → Z3 (xo + 14) 2 = -1 → Z3 (xo + 48) = F → HT G mX9_enough 79 [some (.ref xo), some (.int w), some (.int (nI n)), some (.int (nI j))] [] (cv (wQ σ (xo + 30) 0 (some b)) Z3) 8 (QC σ xo b dN Z (enI V gw gi dN mN gk (nv dN Z (xo + 14)) h od w n) (nv dN Z (xo + 14))) := by
        intro hjn Z3 hfx3 hft3 hn3 hb3 hnn3 hbn3 hod3
        have hT3 := hT0.keep hft3
        have hm2 := enS_mn hW.pl gw gi h hmn ho w j
        have hl3 : LkI (if j < dN then prS (enS V gw gi dN mN gk (nv dN Z (xo + 14)) h od w j) (od j) w else enS V gw gi dN mN gk (nv dN Z (xo + 14)) h od w j) dN := by
          split
          · rename_i c; exact prS_lk h10 (ho j c) hw (enS_lk hW.px gw gi hlk hmn h ho hw j)
          · exact enS_lk hW.px gw gi hlk hmn h ho hw j
        have hm3 : Mn (if j < dN then prS (enS V gw gi dN mN gk (nv dN Z (xo + 14)) h od w j) (od j) w else enS V gw gi dN mN gk (nv dN Z (xo + 14)) h od w j) cN mN := by
          split
          · rename_i c; exact prS_mn w (by have := ho j c; omega) hm2
          · exact hm2
        have hh3 : (if j < dN then prS (enS V gw gi dN mN gk (nv dN Z (xo + 14)) h od w j) (od j) w else enS V gw gi dN mN gk (nv dN Z (xo + 14)) h od w j) 80 = nI (h + j) := by
          have e := enS_80 V gw gi dN mN gk (S := nv dN Z (xo + 14)) hh od w j
          split
          · rename_i c; rw [prS_hi _ _ (by have := ho j c; omega) (by omega)]; exact e
          · exact e
        refine ht_aload_n (D 42 rfl) rfl rfl ?_
        refine gf_X9_28 rfl (D 43 rfl) hX1.k0 hX1.q2 ?_
        refine ht_iconst (v := 0) (D 44 rfl) (by decide) ?_
        refine kVX4_passHour (As := [_]) cl_X9_165 (D 45 rfl) (sc_hr hE hT3 hb3 hn3 hl3 hm3 hh3 (by omega) 0) hX1.tr.k0 rfl (Nat.le_of_ble_eq_true rfl) rfl (Nat.le_of_ble_eq_true rfl) (by omega) ?_
        rintro _ _ ⟨rfl, Z4, rfl, hf4, hn4, hb4⟩
        obtain ⟨hfx4, hnn4, hna4⟩ := tr_hour hC hf4
        have hT4 := hT3.keep hf4
        refine ht_aload_n (D 46 rfl) rfl rfl ?_
        refine gf_X9_28 rfl (D 47 rfl) hX1.k0 hX1.q2 ?_
        refine kVX4_someLoose (As := []) cl_X9_198 (D 48 rfl) (sc_someLoose hX1.tr hT4.lq hT4.lb hT4.nd h10) hX1.tr.k0 rfl (Nat.le_of_ble_eq_true rfl) rfl (Nat.le_of_ble_eq_true rfl) (by omega) ?_
        rintro _ _ ⟨rfl, rfl⟩
        refine ht_if_eq (tgt := 99) (D 49 rfl) (by decide) (fun hb94 => ?_) (fun hb94 => ?_)
        · skip
          have hz := b01_eq hb94
          rw [anC_e dN _ _ dN h10, hn4] at hz
          refine ht_iinc (v := nI (j + 1)) (D 52 rfl) rfl (nI_i1 _) (by decide) rfl ?_
          refine ht_goto (tgt := 41) (D 53 rfl) (by decide) ?_
          refine ht_cast (ih (n - (j + 1)) (by omega) (j + 1) (by omega) rfl (fun t ht => ?_) Z4 (hfx3.tr hfx4) (hft3.tr hf4) hn4 hb4 (hnn4.trans hnn3) (by rw [hna4]; exact hbn3) ?_) rfl rfl rfl
          · by_cases e : t = j
            · rw [e]; exact hz
            · exact hno t (by omega)
          · rw [hf4 (xo + 48) ?_]
            · exact hod3
            · rintro (⟨c1, c2⟩ | ⟨f, c1, c2⟩)
              · omega
              · have := hC.2.2.2 f (isF_w0.mp c1); omega
        · skip
          have hz := b01_ne hb94
          rw [anC_e dN _ _ dN h10, hn4] at hz
          refine ht_iconst (v := 0) (D 50 rfl) (by decide) ?_
          refine ht_iret (D 51 rfl) rfl rfl ?_
          exact QC_m (enI_0 hz n hjn).symm (hfx3.tr hfx4) (hnn4.trans hnn3) (by rw [hna4]; exact hbn3)
      refine ht_iload_n (D 22 rfl) rfl rfl ?_
      refine ht_iload_n (D 23 rfl) rfl rfl ?_
      refine ht_icmp_ge (tgt := 105) (D 24 rfl) (by decide) (fun hb43 => ?_) (fun hb43 => ?_)
      · skip
        have hjk : j = n := by have h3 := (nI_leI (a := n) (b := j) (by omega) (by omega)).mp hb43; omega
        subst hjk
        refine ht_iconst (v := 1) (D 54 rfl) (by decide) ?_
        refine ht_iret (D 55 rfl) rfl rfl ?_
        exact QC_m (enI_1 _ hno).symm hfx hnn hbn
      · skip
        have hjk : j < n := by have h3 := mt (nI_leI (a := n) (b := j) (by omega) (by omega)).mpr hb43; omega
        refine ht_iload_n (D 25 rfl) rfl rfl ?_
        refine ht_aload_n (D 26 rfl) rfl rfl ?_
        refine gf_X9_24 rfl (D 27 rfl) hX1.k0 hX1.q1 ?_
        refine gf_X9_75 rfl (D 28 rfl) hX1.nt.k0 hLn ?_
        refine gi_X9_97 rfl (D 29 rfl) hT1.lb.k0 ?_
        refine ht_icmp_ge (tgt := 79) (D 30 rfl) (by decide) (fun hb57 => ?_) (fun hb57 => ?_)
        · skip
          have hjd : ¬ j < dN := by rw [hT1.nd] at hb57; have h3 := (nI_leI (a := dN) (b := j) (by omega) (by omega)).mp hb57; omega
          first
          | (refine ht_cast (body hjk Z1 hfx hft (by rw [if_neg hjd]; exact hn1) hb1 hnn hbn hod2) rfl rfl rfl)
          | (have hoj := (hod j hjd).1
             refine ht_cast (body hjk _ (hfx.up _ (Or.inl ⟨by omega, by omega⟩)) (hft.up _ (Or.inl ⟨by omega, by omega⟩)) ?_ ?_ ?_ ?_ ?_) rfl rfl rfl
             · rw [nv_pour dN Z1 (xo + 30) (by omega) w, hn1, if_pos hjd]
             · rw [up2_o _ _ (by omega)]; exact hb1
             · rw [show nv dN _ (xo + 14) = nv dN Z1 (xo + 14) from nv_fr (fun i i1 _ _ => up2_o _ _ (by omega))]; exact hnn
             · rw [up2_o _ _ (by omega)]; exact hbn
             · rw [up2_o _ _ (by omega)]; exact hod2)
        · skip
          have hjd : j < dN := by rw [hT1.nd] at hb57; have h3 := mt (nI_leI (a := dN) (b := j) (by omega) (by omega)).mpr hb57; omega
          refine ht_aload_n (D 31 rfl) rfl rfl ?_
          refine gf_X9_28 rfl (D 32 rfl) hX1.k0 hX1.q2 ?_
          refine gf_X9_100 rfl (D 33 rfl) hX1.tr.k0 hX1.tr.q4 ?_
          refine ht_aload_n (D 34 rfl) rfl rfl ?_
          refine gf_X9_39 rfl (D 35 rfl) hX1.k0 hX1.q5 ?_
          refine ht_iload_n (D 36 rfl) rfl rfl ?_
          refine hi_ild (n := j) (D 37 rfl) hX1.k5 hX1.n5 (by first | rfl | exact nI_add _ _ | assumption) (by omega) (by first | decide | omega) ?_
          refine ht_ald (n := (od j)) (Or.inl rfl) (D 38 rfl) hX1.tr.k4 hX1.tr.n4 (by rw [hod2]; exact (hod j hjd).2) (by have := (hod j hjd).1; omega) (by decide) (hX1.tr.lq (j := od j) (by have := (hod j hjd).1; omega)) ?_
          refine ht_iload_n (D 39 rfl) rfl rfl ?_
          refine kVX3_takeWater (As := [_]) cl_X9_151 (D 40 rfl) (sc_takeWater (hX1.tr.lk (j := od j) (by have := (hod j hjd).1; omega)) w) (hX1.tr.lk (j := od j) (by have := (hod j hjd).1; omega)) rfl (Nat.le_of_ble_eq_true rfl) rfl (Nat.le_of_ble_eq_true rfl) (by omega) ?_
          rintro _ _ ⟨rfl, rfl⟩
          refine ht_pop (D 41 rfl) rfl ?_
          first
          | (refine ht_cast (body hjk Z1 hfx hft (by rw [if_neg hjd]; exact hn1) hb1 hnn hbn hod2) rfl rfl rfl)
          | (have hoj := (hod j hjd).1
             refine ht_cast (body hjk _ (hfx.up _ (Or.inl ⟨by omega, by omega⟩)) (hft.up _ (Or.inl ⟨by omega, by omega⟩)) ?_ ?_ ?_ ?_ ?_) rfl rfl rfl
             · rw [nv_pour dN Z1 (xo + 30) (by omega) w, hn1, if_pos hjd]
             · rw [up2_o _ _ (by omega)]; exact hb1
             · rw [show nv dN _ (xo + 14) = nv dN Z1 (xo + 14) from nv_fr (fun i i1 _ _ => up2_o _ _ (by omega))]; exact hnn
             · rw [up2_o _ _ (by omega)]; exact hbn
             · rw [up2_o _ _ (by omega)]; exact hod2)
set_option maxRecDepth 100000 in
theorem sc_enough (hE : NE G) (hC : CW σ Z xo b V cN dN mN gk gw gi) (hbar : Z (xo + 14) 2 = -1) (hmn : Mn (nv dN Z (xo + 14)) cN mN) (hlk : LkI (nv dN Z (xo + 14)) dN) {h : Nat} (hh : Z (xo + 14) 1 = nI h) (h31 : h < 2 ^ 30) (w x : Int32) : Sp G mX9_enough 8 [.ref xo, .int w, .int x] (cv σ Z) (fun rv σ' => (¬ aEnOk w x ∧ QC σ xo b dN Z (-1) (nv dN Z (xo + 14)) rv σ') ∨ (aEnOk w x ∧ ∃ od : Nat → Nat, (∀ i, i < dN → od i < dN ∧ rk (soK V gw gi dN mN gk (nv dN Z (xo + 14)) h x.toNatClampNeg) dN (od i) = i) ∧ QC σ xo b dN Z (enI V gw gi dN mN gk (nv dN Z (xo + 14)) h od w x.toNatClampNeg) (nv dN Z (xo + 14)) rv σ')) := by
  have D := dat dl_X9_enough
  show HT G mX9_enough 0 [some (.ref xo), some (.int w), some (.int x), none] [] (cv σ Z) 8 _
  have hX := hC.1
  have hW := hC.2.1
  have h10 := hW.d10
  have h8 := hW.c8
  have h6 := hW.m6
  have h2 := hW.g2
  refine ht_iload_n (D 0 rfl) rfl rfl ?_
  refine ht_iconst (v := 0) (D 1 rfl) (by decide) ?_
  refine ht_bipush (v := 99) (D 2 rfl) (by decide) ?_
  refine kSX9_isWithin (As := [_, _, _]) cl_X9_142 (D 3 rfl) (sc_isWithin _ _ _) rfl (Nat.le_of_ble_eq_true rfl) rfl (Nat.le_of_ble_eq_true rfl) (by omega) ?_
  rintro _ _ ⟨rfl, rfl⟩
  refine ht_if_eq (tgt := 17) (D 4 rfl) (by decide) (fun hb7 => ?_) (fun hb7 => ?_)
  · skip
    have q1 : ¬ (0 ≤ w ∧ w ≤ 99) := b01_eq hb7
    refine ht_iconst (v := -1) (D 8 rfl) (by decide) ?_
    refine ht_iret (D 9 rfl) rfl rfl ?_
    first
    | exact Or.inl ⟨not_and_of_not_left _ q1, QC_t hbar rfl⟩
    | exact Or.inl ⟨not_and_of_not_right _ q2, QC_t hbar rfl⟩
  · skip
    have q1 : 0 ≤ w ∧ w ≤ 99 := b01_ne hb7
    refine ht_iload_n (D 5 rfl) rfl rfl ?_
    refine kSX9_isAhead (As := [_]) cl_X9_172 (D 6 rfl) (sc_isAhead _) rfl (Nat.le_of_ble_eq_true rfl) rfl (Nat.le_of_ble_eq_true rfl) (by omega) ?_
    rintro _ _ ⟨rfl, rfl⟩
    refine ht_if_ne (tgt := 19) (D 7 rfl) (by decide) (fun hb14 => ?_) (fun hb14 => ?_)
    · skip
      have q2 := b01_ne hb14
      obtain ⟨n, hn1, hn2, rfl⟩ := rngW (lo := 1) 240 (by decide) q2 (by decide)
      refine ht_aload_n (D 10 rfl) rfl rfl ?_
      refine ht_iload_n (D 11 rfl) rfl rfl ?_
      refine kVX9_findSoonest (As := [_]) cl_X9_192 (D 12 rfl) (sc_findSoonest hE hC hbar hmn hlk hh h31 hn1) hX.k0 rfl (Nat.le_of_ble_eq_true rfl) rfl (Nat.le_of_ble_eq_true rfl) (by omega) ?_
      rintro _ _ ⟨rfl, Zs, rfl, hfs, hns, has, hss⟩
      have hCs := (hC.keep (Z2 := Zs) (hfs.mono (fun q hq => hq.1))).w0 (v := some b)
      have hX1 := hCs.1
      refine ht_aload_n (D 13 rfl) rfl rfl ?_
      refine kVX9_orderDoors (As := []) cl_X9_195 (D 14 rfl) (sc_orderDoors hCs.1 hCs.2.1.lq hCs.2.1.lb hCs.2.1.nd (by rcases hC.2.2.1 with c | c <;> omega) h10 hss (fun d hd => by rw [soK_sk]; have := skF_le (V := V) (gw := gw) (gi := gi) (dN := dN) (mN := mN) (gk := gk) (S := nv dN Z (xo + 14)) (h := h) (Nat.le_refl (n + 1)) hn1 d; omega)) hX1.k0 rfl (Nat.le_of_ble_eq_true rfl) rfl (Nat.le_of_ble_eq_true rfl) (by omega) ?_
      rintro _ _ ⟨rfl, Z1, rfl, hdo, od, hod⟩
      obtain ⟨hf1, hn3, ha1⟩ := od_tr hfs hns has hdo
      have hC1 := (hC.keep (Z2 := Z1) hf1).w0 (v := some b)
      refine ht_aload_n (D 15 rfl) rfl rfl ?_
      refine gf_X9_28 rfl (D 16 rfl) hX1.k0 hX1.q2 ?_
      refine ht_aload_n (D 17 rfl) rfl rfl ?_
      refine gf_X9_24 rfl (D 18 rfl) hX1.k0 hX1.q1 ?_
      refine kVX4_copyFrom (As := [_]) cl_X9_175 (D 19 rfl) (sc_ncopy hX1.tr hX1.nt hC1.2.1.lq (by omega)) hX1.tr.k0 rfl (Nat.le_of_ble_eq_true rfl) rfl (Nat.le_of_ble_eq_true rfl) (by omega) ?_
      rintro _ _ ⟨rfl, Z0, rfl, hcp⟩
      obtain ⟨hT0, hnt0, hbt0, hnn0, hna0⟩ := tr_start hC1 hcp
      rw [wQ_wQ] at hT0 ⊢
      refine ht_iconst (v := 0) (D 20 rfl) (by decide) ?_
      refine ht_istore_n (D 21 rfl) rfl (by decide) rfl ?_
      refine ht_mono (ht_cast (sc_enloop hE hC hbar hmn hlk hh h31 q1 hn1 (od := od) (F := Z0 (xo + 48)) (fun i hi => ⟨(hod i hi).1, by rw [hcp.1 _ (by omega)]; exact (hod i hi).2.2⟩) hC1.2.1.lq hT0 n 0 (by omega) (by omega) (fun t ht => absurd ht (by omega)) Z0 (hf1.tr hcp.xp) (Fr.rf _ _) (by rw [hnt0, hn3]; rfl) hbt0 (hnn0.trans hn3) (by rw [hna0, ha1]; exact hbar) rfl) rfl rfl rfl) ?_
      intro v s' hq
      refine Or.inr ⟨⟨q1, q2⟩, od, fun i hi => ⟨(hod i hi).1, ?_⟩, ?_⟩
      · rw [nI_clamp (by omega)]; exact (hod i hi).2.1
      · rw [nI_clamp (by omega)]; exact hq
    · skip
      have q2 := b01_eq hb14
      refine ht_iconst (v := -1) (D 8 rfl) (by decide) ?_
      refine ht_iret (D 9 rfl) rfl rfl ?_
      first
      | exact Or.inl ⟨not_and_of_not_left _ q1, QC_t hbar rfl⟩
      | exact Or.inl ⟨not_and_of_not_right _ q2, QC_t hbar rfl⟩
end C13
