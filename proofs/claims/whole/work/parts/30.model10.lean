/-! ===== the reference: holds, needs, soons, soon ===== -/
theorem cpA_dzv (V : VT) : Dz V (cpA V) := fun o h q _ => cpA_o V (show o ≠ 34 from fun e => q (by omega))
/-- a trial leaves all but scratch as it was -/
def Ph (V V' : VT) : Prop := (∀ o, ¬ (23 ≤ o ∧ o ≤ 34) → V' o = V o) ∧ V' 33 = V 33
theorem Ph.dz {V V' : VT} (h : Ph V V') : Dz V V' := fun o _ q _ => h.1 o q
theorem Ph.tr {V V1 V2 : VT} (h1 : Ph V V1) (h2 : Ph V1 V2) : Ph V V2 := ⟨fun o h => (h2.1 o h).trans (h1.1 o h), h2.2.trans h1.2⟩
theorem Ph.pz {V V' : VT} (h : Ph (tz V) V') : Pz V V' := ⟨fun o h1 h2 _ => (h.1 o h2).trans (tz_o V (by omega)), by rw [h.1 0 (by decide)]; exact ⟨up2_k V 0 (by decide), up2_k V 0 (by decide)⟩⟩
theorem rstv {V V1 : VT} (h : Dy (cpA V) V1) (hh : ∀ i, 96 ≤ i → V1 33 i = V 33 i) : Ph V (cpR V1 34 0 33 0 96) := by
  have e34 : V1 34 = cpA V 34 := h 34 (by decide)
  refine ⟨fun o h2 => ?_, ?_⟩
  · rw [cpR_o V1 34 0 33 0 96 (show o ≠ 33 from fun e => h2 (by omega)), h o (fun q => h2 (by omega)), cpA_o V (show o ≠ 34 from fun e => h2 (by omega))]
  · funext i
    show (if 33 = 33 ∧ 0 ≤ i ∧ i < 0 + 96 then V1 34 (0 + (i - 0)) else V1 33 i) = V 33 i
    by_cases c : i < 96
    · rw [if_pos ⟨rfl, by omega, by omega⟩, e34]
      show (if 34 = 34 ∧ 0 ≤ 0 + (i - 0) ∧ 0 + (i - 0) < 0 + 96 then V 33 (0 + (0 + (i - 0) - 0)) else V 34 (0 + (i - 0))) = V 33 i
      rw [if_pos ⟨rfl, by omega, by omega⟩]
      congr 1
      omega
    · rw [if_neg (by omega)]
      exact hh i (by omega)
theorem prS_hi (S : ST) {j x : Nat} (w : Int32) (hj : j < 10) (hx : 50 ≤ x) : prS S j w x = S x := by
  unfold prS va_up
  rw [if_neg (by omega), if_neg (by omega)]
noncomputable def hlF (V : VT) (gw : Option GWt) (gi : Option GIt) (dN mN gk : Nat) (S : ST) (h j t : Nat) : Nat → Int32
  | 0 => 1
  | r + 1 => if 0 < psI V gw gi dN mN gk S h (t + 1) j then hlF V gw gi dN mN gk S h j (t + 1) r else 0
theorem hlF_y {V : VT} {gw : Option GWt} {gi : Option GIt} {dN mN gk : Nat} {S : ST} {h j t r : Nat} (hy : 0 < psI V gw gi dN mN gk S h (t + 1) j) : hlF V gw gi dN mN gk S h j t (r + 1) = hlF V gw gi dN mN gk S h j (t + 1) r := by
  conv => lhs; unfold hlF
  rw [if_pos hy]
theorem hlF_n {V : VT} {gw : Option GWt} {gi : Option GIt} {dN mN gk : Nat} {S : ST} {h j t r : Nat} (hn : ¬ 0 < psI V gw gi dN mN gk S h (t + 1) j) : hlF V gw gi dN mN gk S h j t (r + 1) = 0 := by
  unfold hlF
  rw [if_neg hn]
theorem hlF_01 (V : VT) (gw : Option GWt) (gi : Option GIt) (dN mN gk : Nat) (S : ST) (h j t r : Nat) : hlF V gw gi dN mN gk S h j t r = 0 ∨ hlF V gw gi dN mN gk S h j t r = 1 := by
  induction r generalizing t with
  | zero => exact Or.inr rfl
  | succ r ih =>
    unfold hlF
    split
    · exact ih (t + 1)
    · exact Or.inl rfl
theorem hlF_dz {V V' : VT} (hd : Dz V V') (gw : Option GWt) (gi : Option GIt) (dN mN gk : Nat) (S : ST) (h j t r : Nat) : hlF V' gw gi dN mN gk S h j t r = hlF V gw gi dN mN gk S h j t r := by
  induction r generalizing t with
  | zero => rfl
  | succ r ih =>
    unfold hlF
    rw [psI_dz hd, ih]
section M10
variable {G : GG} {σ : Hp} {m : Nat} {V : VT} {U : UT}
set_option maxRecDepth 100000 in
theorem sm_holds (hM : MS σ m) {cN dN mN gk : Nat} (hP : PL V cN dN mN gk) {gw : Option GWt} {gi : Option GIt} (hW : LnW V gw) (hI : LnI V gi) {h : Nat} (hh : V 33 80 = nI h) (h31 : h < 2 ^ 30) (hmn : Mn (V 33) cN mN) {j : Nat} (hj : j < 10) (w : Int32) {n : Nat} (hn : n ≤ 240) : Sp G mX10_holds 6 [.ref m, .int (nI j), .int w, .int (nI n)] (sv σ m V U) (fun rv σ' => rv = some (.int (hlF V gw gi dN mN gk (prS (V 33) j w) h j 0 n)) ∧ ∃ V' : VT, σ' = sv σ m V' U ∧ Ph V V') := by
  have D := dat dl_X10_holds
  have hm6 : mN ≤ 6 := hP.2.2.1.2
  have hz80 : (prS (V 33) j w) 80 = nI h := by rw [prS_hi _ w hj (by decide)]; exact hh
  have hzm : Mn (prS (V 33) j w) cN mN := by
    intro x hx
    rw [prS_hi _ w hj (by omega)]
    exact hmn x hx
  have ex64 : ∀ (V1 : VT) (t : Nat) (nr t2 : Int32), Dy (cpA V) V1 → V1 33 = psI V gw gi dN mN gk (prS (V 33) j w) h t → nr = hlF V gw gi dN mN gk (prS (V 33) j w) h j 0 n → HT G mX10_holds 64 [some (.ref m), some (.int (nI j)), some (.int w), some (.int (nI n)), some (.int nr), some (.int t2)] [] (sv σ m V1 U) 6 (fun rv σ' => rv = some (.int (hlF V gw gi dN mN gk (prS (V 33) j w) h j 0 n)) ∧ ∃ V' : VT, σ' = sv σ m V' U ∧ Ph V V') := by
    intro V1 t nr t2 hdy h33 hnr
    refine ht_aload_n (D 35 rfl) rfl rfl ?_
    refine gf_X10_111 rfl (D 36 rfl) hM.k0 hM.q34 ?_
    refine ht_iconst (v := 0) (D 37 rfl) (by decide) ?_
    refine ht_aload_n (D 38 rfl) rfl rfl ?_
    refine gf_X10_108 rfl (D 39 rfl) hM.k0 hM.q33 ?_
    refine ht_iconst (v := 0) (D 40 rfl) (by decide) ?_
    refine kSX10_copies (As := [_, _, _, _]) cl_X10_396 (D 41 rfl) (sm_copies_34_33 hM (a := 0) (b := 0) (by decide) (by decide)) rfl (Nat.le_of_ble_eq_true rfl) rfl (Nat.le_of_ble_eq_true rfl) (by omega) ?_
    rintro rv σ1 ⟨rfl, rfl⟩
    refine ht_iload (D 42 rfl) rfl ?_
    refine ht_iret (D 43 rfl) rfl (by rcases hlF_01 V gw gi dN mN gk (prS (V 33) j w) h j 0 n with h9 | h9 <;> (rw [hnr, h9]; rfl)) ?_
    exact ⟨by rw [hnr], _, rfl, rstv hdy (fun i hi => by rw [h33, psI_hi hP gw gi h _ _ (by omega)]; exact prS_hi (V 33) w hj (by omega))⟩
  have z0 : ∀ (V1 : VT) (t : Nat), t ≤ 241 → Dy (cpA V) V1 → V1 33 = psI V gw gi dN mN gk (prS (V 33) j w) h t → 0 = hlF V gw gi dN mN gk (prS (V 33) j w) h j 0 n → HT G mX10_holds 26 [some (.ref m), some (.int (nI j)), some (.int w), some (.int (nI n)), some (.int 0), some (.int (nI t))] [] (sv σ m V1 U) 6 (fun rv σ' => rv = some (.int (hlF V gw gi dN mN gk (prS (V 33) j w) h j 0 n)) ∧ ∃ V' : VT, σ' = sv σ m V' U ∧ Ph V V') := by
    intro V1 t ht hdy h33 hnr
    refine ht_iload (D 16 rfl) rfl ?_
    refine ht_iload_n (D 17 rfl) rfl rfl ?_
    refine ht_icmp_ge (tgt := 64) (D 18 rfl) (by decide) (fun hb29 => ?_) (fun hb29 => ?_)
    · skip
      exact ex64 V1 t _ _ hdy h33 hnr
    · skip
      refine ht_iload (D 19 rfl) rfl ?_
      refine ht_if_eq (tgt := 64) (D 20 rfl) (by decide) (fun hb34 => ?_) (fun hb34 => absurd (by decide) hb34)
      exact ex64 V1 t _ _ hdy h33 hnr
  have loop : ∀ (r t : Nat) (V1 : VT), t + r = n → Dy (cpA V) V1 → V1 33 = psI V gw gi dN mN gk (prS (V 33) j w) h t → hlF V gw gi dN mN gk (prS (V 33) j w) h j t r = hlF V gw gi dN mN gk (prS (V 33) j w) h j 0 n → HT G mX10_holds 26 [some (.ref m), some (.int (nI j)), some (.int w), some (.int (nI n)), some (.int 1), some (.int (nI t))] [] (sv σ m V1 U) 6 (fun rv σ' => rv = some (.int (hlF V gw gi dN mN gk (prS (V 33) j w) h j 0 n)) ∧ ∃ V' : VT, σ' = sv σ m V' U ∧ Ph V V') := by
    intro r
    induction r using Nat.strongRecOn with
    | _ r ih =>
      intro t V1 ht hdy h33 hes
      refine ht_iload (D 16 rfl) rfl ?_
      refine ht_iload_n (D 17 rfl) rfl rfl ?_
      refine ht_icmp_ge (tgt := 64) (D 18 rfl) (by decide) (fun hb29 => ?_) (fun hb29 => ?_)
      · skip
        have hr0 : r = 0 := by have h9 := (nI_leI (a := n) (b := t) (by omega) (by omega)).mp hb29; omega
        subst hr0
        exact ex64 V1 t _ _ hdy h33 (by rw [← hes]; rfl)
      · skip
        obtain ⟨r2, rfl⟩ : ∃ r2, r = r2 + 1 := ⟨r - 1, by have h9 := mt (nI_leI (a := n) (b := t) (by omega) (by omega)).mpr hb29; omega⟩
        refine ht_iload (D 19 rfl) rfl ?_
        refine ht_if_eq (tgt := 64) (D 20 rfl) (by decide) (fun hb34 => absurd hb34 (by decide)) (fun hb34 => ?_)
        refine ht_aload_n (D 21 rfl) rfl rfl ?_
        refine ht_iconst (v := 0) (D 22 rfl) (by decide) ?_
        refine kVX10_passes (As := [_]) cl_X10_393 (D 23 rfl) (sm_passes hM ((hP.dz (cpA_dzv V)).dy hdy) ((hW.dz (cpA_dzv V)).dy hdy) ((hI.dz (cpA_dzv V)).dy hdy) (h := h + t) (by rw [h33]; exact psI_80 V gw gi dN mN gk hz80 t) (by omega) (by rw [h33]; exact psI_mn hP gw gi h hzm t) 0) hM.k0 rfl (Nat.le_of_ble_eq_true rfl) rfl (Nat.le_of_ble_eq_true rfl) (by omega) ?_
        rintro rv σ1 ⟨rfl, V2, rfl, hd2, h332⟩
        rw [h33, psS_dz ((cpA_dzv V).tr hdy.dz)] at h332
        have h333 : V2 33 = psI V gw gi dN mN gk (prS (V 33) j w) h (t + 1) := h332
        have hdy2 := hdy.tr hd2
        refine ht_aload_n (D 24 rfl) rfl rfl ?_
        refine gf_X10_108 rfl (D 25 rfl) hM.k0 hM.q33 ?_
        refine ht_iload_n (D 26 rfl) rfl rfl ?_
        refine hm_ild (o := 33) (n := j) (by decide) (D 27 rfl) hM.k33 hM.n33 (by first | rfl | exact nI_add _ _ | assumption) (by omega) (by decide) ?_
        refine ht_if_le (tgt := 55) (D 28 rfl) (by decide) (fun hb48 => ?_) (fun hb48 => ?_)
        · skip
          rw [h333] at hb48
          refine ht_iconst (v := 0) (D 31 rfl) (by decide) ?_
          refine ht_istore (D 32 rfl) (by decide) rfl ?_
          refine ht_iinc (v := nI (t + 1)) (D 33 rfl) rfl (nI_i1 _) (by decide) rfl ?_
          refine ht_goto (tgt := 26) (D 34 rfl) (by decide) ?_
          exact z0 V2 (t + 1) (by omega) hdy2 h333 (by rw [← hes, hlF_n (by simp only [i_lt, i_le] at hb48 ⊢; omega)])
        · skip
          rw [h333] at hb48
          refine ht_iconst (v := 1) (D 29 rfl) (by decide) ?_
          refine ht_goto (tgt := 56) (D 30 rfl) (by decide) ?_
          refine ht_istore (D 32 rfl) (by decide) rfl ?_
          refine ht_iinc (v := nI (t + 1)) (D 33 rfl) rfl (nI_i1 _) (by decide) rfl ?_
          refine ht_goto (tgt := 26) (D 34 rfl) (by decide) ?_
          exact ih r2 (by omega) (t + 1) V2 (by omega) hdy2 h333 (by rw [← hes, hlF_y (by simp only [i_lt, i_le] at hb48 ⊢; omega)])
  show HT G mX10_holds 0 [some (.ref m), some (.int (nI j)), some (.int w), some (.int (nI n)), none, none] [] (sv σ m V U) 6 _
  refine ht_aload_n (D 0 rfl) rfl rfl ?_
  refine gf_X10_108 rfl (D 1 rfl) hM.k0 hM.q33 ?_
  refine ht_iconst (v := 0) (D 2 rfl) (by decide) ?_
  refine ht_aload_n (D 3 rfl) rfl rfl ?_
  refine gf_X10_111 rfl (D 4 rfl) hM.k0 hM.q34 ?_
  refine ht_iconst (v := 0) (D 5 rfl) (by decide) ?_
  refine kSX10_copies (As := [_, _, _, _]) cl_X10_396 (D 6 rfl) (sm_copies_33_34 hM (a := 0) (b := 0) (by decide) (by decide)) rfl (Nat.le_of_ble_eq_true rfl) rfl (Nat.le_of_ble_eq_true rfl) (by omega) ?_
  rintro rv σ1 ⟨rfl, rfl⟩
  refine ht_aload_n (D 7 rfl) rfl rfl ?_
  refine ht_iload_n (D 8 rfl) rfl rfl ?_
  refine ht_iload_n (D 9 rfl) rfl rfl ?_
  refine kVX10_poursIn (As := [_, _]) cl_X10_355 (D 10 rfl) (sm_poursIn hM (V := cpA V) hj w) hM.k0 rfl (Nat.le_of_ble_eq_true rfl) rfl (Nat.le_of_ble_eq_true rfl) (by omega) ?_
  rintro rv σ1 ⟨rfl, rfl⟩
  rw [cpA_o V (show (33 : Nat) ≠ 34 by decide)]
  refine ht_pop (D 11 rfl) rfl ?_
  refine ht_iconst (v := 1) (D 12 rfl) (by decide) ?_
  refine ht_istore (D 13 rfl) (by decide) rfl ?_
  refine ht_iconst (v := 0) (D 14 rfl) (by decide) ?_
  refine ht_istore (D 15 rfl) (by decide) rfl ?_
  exact ht_cast (loop n 0 (sS (cpA V) (prS (V 33) j w)) (by omega) ((Dy.rf _).sS _) (sS_s _ _) rfl) rfl rfl rfl
def Lk (S : ST) (dN : Nat) : Prop := ∀ j, j < dN → ∃ a b, S j = nI a ∧ S (10 + j) = nI b ∧ a + b ≤ 99
noncomputable def neF (V : VT) (gw : Option GWt) (gi : Option GIt) (dN mN gk : Nat) (S : ST) (h j n w : Nat) : Nat → Int32
  | 0 => -1
  | r + 1 => if hlF V gw gi dN mN gk (prS S j (nI w)) h j 0 n = 0 then neF V gw gi dN mN gk S h j n (w + 1) r else nI w
noncomputable def aNeeds (V : VT) (gw : Option GWt) (gi : Option GIt) (dN mN gk h : Nat) (S : ST) (x w : Int32) : Int32 := if (0 ≤ x ∧ x < nI dN) ∧ (1 ≤ w ∧ w ≤ 240) then neF V gw gi dN mN gk S h x.toNatClampNeg w.toNatClampNeg 0 ((99 - S x.toNatClampNeg - S (10 + x.toNatClampNeg)).toNatClampNeg + 1) else -1
theorem neF_y {V : VT} {gw : Option GWt} {gi : Option GIt} {dN mN gk : Nat} {S : ST} {h j n w r : Nat} (hy : hlF V gw gi dN mN gk (prS S j (nI w)) h j 0 n = 0) : neF V gw gi dN mN gk S h j n w (r + 1) = neF V gw gi dN mN gk S h j n (w + 1) r := by
  conv => lhs; unfold neF
  rw [if_pos hy]
theorem neF_n {V : VT} {gw : Option GWt} {gi : Option GIt} {dN mN gk : Nat} {S : ST} {h j n w r : Nat} (hy : ¬ hlF V gw gi dN mN gk (prS S j (nI w)) h j 0 n = 0) : neF V gw gi dN mN gk S h j n w (r + 1) = nI w := by
  unfold neF
  rw [if_neg hy]
set_option maxRecDepth 100000 in
theorem sm_needs (hM : MS σ m) {cN dN mN gk : Nat} (hP : PL V cN dN mN gk) {gw : Option GWt} {gi : Option GIt} (hW : LnW V gw) (hI : LnI V gi) {h : Nat} (hh : V 33 80 = nI h) (h31 : h < 2 ^ 30) (hmn : Mn (V 33) cN mN) (hlk : Lk (V 33) dN) (x w : Int32) : Sp G mX10_needs 7 [.ref m, .int x, .int w] (sv σ m V U) (QA σ m V (aNeeds V gw gi dN mN gk h (V 33) x w) (V 33)) := by
  have D := dat dl_X10_needs
  show HT G mX10_needs 0 [some (.ref m), some (.int x), some (.int w), none, none] [] (sv σ m V U) 7 _
  have hPt : PL (tz V) cN dN mN gk := hP.dz (tz_dz V)
  have hd10 : dN ≤ 10 := hP.2.1.2
  have hc8 : cN ≤ 8 := hP.1.2
  have hm6 : mN ≤ 6 := hP.2.2.1.2
  refine ht_aload_n (D 0 rfl) rfl rfl ?_
  refine ht_iconst (v := 0) (D 1 rfl) (by decide) ?_
  refine pm_X10_135 hM rfl (D 2 rfl) ?_
  show HT _ _ _ _ _ (sv σ m (tz V) U) _ _
  refine ht_aload_n (D 3 rfl) rfl rfl ?_
  refine ht_iload_n (D 4 rfl) rfl rfl ?_
  refine kVX10_isDoor (As := [_]) cl_X10_337 (D 5 rfl) (sm_isDoor hM x) hM.k0 rfl (Nat.le_of_ble_eq_true rfl) rfl (Nat.le_of_ble_eq_true rfl) (by omega) ?_
  rintro rv σ1 ⟨rfl, rfl⟩
  refine ht_if_eq (tgt := 20) (D 6 rfl) (by decide) (fun hb10 => ?_) (fun hb10 => ?_)
  · skip
    have hno := b01_eq hb10
    rw [hPt.2.1.1] at hno
    have hng : ¬ ((0 ≤ x ∧ x < nI dN) ∧ (1 ≤ w ∧ w ≤ 240)) := fun q => hno q.1
    refine ht_iconst (v := -1) (D 10 rfl) (by decide) ?_
    refine ht_iret (D 11 rfl) rfl rfl ?_
    exact QA_t (by unfold aNeeds; rw [if_neg hng])
  · skip
    have hq10 := b01_ne hb10
    rw [hPt.2.1.1] at hq10
    obtain ⟨j, hj, rfl⟩ := rng (by omega) hq10
    have hjc : (nI j).toNatClampNeg = j := nI_clamp (by omega)
    obtain ⟨a, b, hab1, hab2, hab3⟩ := hlk j hj
    refine ht_iload_n (D 7 rfl) rfl rfl ?_
    refine kSX10_isSome (As := [_]) cl_X10_400 (D 8 rfl) (sm_isSome w) rfl (Nat.le_of_ble_eq_true rfl) rfl (Nat.le_of_ble_eq_true rfl) (by omega) ?_
    rintro rv σ1 ⟨rfl, rfl⟩
    refine ht_if_ne (tgt := 22) (D 9 rfl) (by decide) (fun hb17 => ?_) (fun hb17 => ?_)
    · skip
      have hw9 := b01_ne hb17
      obtain ⟨n, hn1, hn2, rfl⟩ := rngW (lo := 1) 240 (by decide) hw9 (by decide)
      have hnc : (nI n).toNatClampNeg = n := nI_clamp (by omega)
      refine ht_bipush (v := 99) (D 12 rfl) (by decide) ?_
      refine ht_aload_n (D 13 rfl) rfl rfl ?_
      refine gf_X10_108 rfl (D 14 rfl) hM.k0 hM.q33 ?_
      refine ht_iload_n (D 15 rfl) rfl rfl ?_
      refine hm_ild (o := 33) (n := j) (by decide) (D 16 rfl) hM.k33 hM.n33 (by first | rfl | exact nI_add _ _ | assumption) (by omega) (by decide) ?_
      refine ht_isub (D 17 rfl) ?_
      refine ht_aload_n (D 18 rfl) rfl rfl ?_
      refine gf_X10_108 rfl (D 19 rfl) hM.k0 hM.q33 ?_
      refine ht_bipush (v := 10) (D 20 rfl) (by decide) ?_
      refine ht_iload_n (D 21 rfl) rfl rfl ?_
      refine ht_iadd (D 22 rfl) ?_
      refine hm_ild (o := 33) (n := (10 + j)) (by decide) (D 23 rfl) hM.k33 hM.n33 (by first | rfl | exact nI_add _ _ | assumption) (by omega) (by decide) ?_
      refine ht_isub (D 24 rfl) ?_
      rw [tz_o V (show (33 : Nat) ≠ 0 by decide), hab1, hab2, show (99 : Int32) = nI 99 from rfl, pk_sub (show a ≤ 99 by omega), pk_sub (show b ≤ 99 - a by omega)]
      generalize hrm : 99 - a - b = rm
      refine ht_istore_n (D 25 rfl) rfl (by decide) rfl ?_
      refine ht_iconst (v := 0) (D 26 rfl) (by decide) ?_
      refine ht_istore (D 27 rfl) (by decide) rfl ?_
      have loop : ∀ (r t : Nat) (V1 : VT), t + r = rm + 1 → Ph (tz V) V1 → neF V gw gi dN mN gk (V 33) h j n t r = aNeeds V gw gi dN mN gk h (V 33) (nI j) (nI n) → HT G mX10_needs 45 [some (.ref m), some (.int (nI j)), some (.int (nI n)), some (.int (nI rm)), some (.int (nI t))] [] (sv σ m V1 U) 7 (QA σ m V (aNeeds V gw gi dN mN gk h (V 33) (nI j) (nI n)) (V 33)) := by
        intro r
        induction r using Nat.strongRecOn with
        | _ r ih =>
          intro t V1 ht hph hes
          have e33 : V1 33 = V 33 := by rw [hph.2, tz_o V (show (33 : Nat) ≠ 0 by decide)]
          refine ht_iload (D 28 rfl) rfl ?_
          refine ht_iload_n (D 29 rfl) rfl rfl ?_
          refine ht_icmp_gt (tgt := 71) (D 30 rfl) (by decide) (fun hb48 => ?_) (fun hb48 => ?_)
          · skip
            have hr0 : r = 0 := by have h9 := (nI_ltI (a := rm) (b := t) (by omega) (by omega)).mp hb48; omega
            subst hr0
            refine ht_iconst (v := -1) (D 41 rfl) (by decide) ?_
            refine ht_iret (D 42 rfl) rfl rfl ?_
            exact ⟨by rw [← hes]; rfl, V1, U, rfl, hph.pz, e33⟩
          · skip
            obtain ⟨r2, rfl⟩ : ∃ r2, r = r2 + 1 := ⟨r - 1, by have h9 := mt (nI_ltI (a := rm) (b := t) (by omega) (by omega)).mpr hb48; omega⟩
            refine ht_aload_n (D 31 rfl) rfl rfl ?_
            refine ht_iload_n (D 32 rfl) rfl rfl ?_
            refine ht_iload (D 33 rfl) rfl ?_
            refine ht_iload_n (D 34 rfl) rfl rfl ?_
            refine kVX10_holds (As := [_, _, _]) cl_X10_406 (D 35 rfl) (sm_holds hM (hPt.dz hph.dz) ((hW.dz (tz_dz V)).dz hph.dz) ((hI.dz (tz_dz V)).dz hph.dz) (h := h) (by rw [e33]; exact hh) h31 (by rw [e33]; exact hmn) (j := j) (by omega) (nI t) (n := n) hn1) hM.k0 rfl (Nat.le_of_ble_eq_true rfl) rfl (Nat.le_of_ble_eq_true rfl) (by omega) ?_
            rintro rv σ1 ⟨rfl, V2, rfl, hp2⟩
            rw [e33, hlF_dz ((tz_dz V).tr hph.dz)]
            refine ht_if_eq (tgt := 65) (D 36 rfl) (by decide) (fun hb59 => ?_) (fun hb59 => ?_)
            · skip
              refine ht_iinc (v := nI (t + 1)) (D 39 rfl) rfl (nI_i1 _) (by decide) rfl ?_
              refine ht_goto (tgt := 45) (D 40 rfl) (by decide) ?_
              exact ih r2 (by omega) (t + 1) V2 (by omega) (hph.tr hp2) (by rw [← hes, neF_y hb59])
            · skip
              refine ht_iload (D 37 rfl) rfl ?_
              refine ht_iret (D 38 rfl) rfl rfl ?_
              have hph2 := hph.tr hp2
              exact ⟨by rw [← hes, neF_n hb59], V2, U, rfl, hph2.pz, by rw [hph2.2, tz_o V (show (33 : Nat) ≠ 0 by decide)]⟩
      exact ht_cast (loop (rm + 1) 0 (tz V) (by omega) ⟨fun _ _ => rfl, rfl⟩ (by unfold aNeeds; rw [if_pos ⟨hq10, hw9⟩, hjc, hnc, hab1, hab2, show (99 : Int32) = nI 99 from rfl, pk_sub (show a ≤ 99 by omega), pk_sub (show b ≤ 99 - a by omega), hrm, nI_clamp (by omega)])) rfl rfl rfl
    · skip
      have hng : ¬ ((0 ≤ nI j ∧ nI j < nI dN) ∧ (1 ≤ w ∧ w ≤ 240)) := fun q => b01_eq hb17 q.2
      refine ht_iconst (v := -1) (D 10 rfl) (by decide) ?_
      refine ht_iret (D 11 rfl) rfl rfl ?_
      exact QA_t (by unfold aNeeds; rw [if_neg hng])
end M10
