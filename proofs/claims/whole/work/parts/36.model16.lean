/-! ===== the reference: enough, lots ===== -/
/-- some door below k is loose -/
def anL (S : ST) : Nat → Bool
  | 0 => false
  | k + 1 => anL S k || decide (S k = 0)
noncomputable def enS (V : VT) (gw : Option GWt) (gi : Option GIt) (dN mN gk : Nat) (S : ST) (h : Nat) (od : Nat → Nat) (w : Int32) : Nat → ST
  | 0 => S
  | t + 1 => psS V gw gi dN mN gk (h + t) 0 (if t < dN then prS (enS V gw gi dN mN gk S h od w t) (od t) w else enS V gw gi dN mN gk S h od w t)
noncomputable def enI (V : VT) (gw : Option GWt) (gi : Option GIt) (dN mN gk : Nat) (S : ST) (h : Nat) (od : Nat → Nat) (w : Int32) : Nat → Int32
  | 0 => 1
  | t + 1 => if anL (enS V gw gi dN mN gk S h od w (t + 1)) dN = true then 0 else enI V gw gi dN mN gk S h od w t
theorem enS_80 (V : VT) (gw : Option GWt) (gi : Option GIt) (dN mN gk : Nat) {S : ST} {h : Nat} (hh : S 80 = nI h) (od : Nat → Nat) (w : Int32) (k : Nat) : enS V gw gi dN mN gk S h od w k 80 = nI (h + k) := by
  cases k with
  | zero => exact hh
  | succ k => exact psS_80 V gw gi dN mN gk (h + k) 0 _
theorem prS_mn {S : ST} {cN mN j : Nat} (w : Int32) (hj : j < 10) (hm : Mn S cN mN) : Mn (prS S j w) cN mN := by
  intro x hx
  rw [prS_hi S w hj (by omega)]
  exact hm x hx
theorem enS_mn {V : VT} {cN dN mN gk : Nat} (hP : PL V cN dN mN gk) (gw : Option GWt) (gi : Option GIt) (h : Nat) {S : ST} (hm : Mn S cN mN) {od : Nat → Nat} (ho : ∀ i, i < dN → od i < dN) (w : Int32) (k : Nat) : Mn (enS V gw gi dN mN gk S h od w k) cN mN := by
  induction k with
  | zero => exact hm
  | succ k ih =>
    refine psS_mn hP gw gi (h + k) 0 ?_
    split
    · rename_i hk
      exact prS_mn w (by have := ho k hk; have := hP.2.1.2; omega) ih
    · exact ih
theorem enS_hi {V : VT} {cN dN mN gk : Nat} (hP : PL V cN dN mN gk) (gw : Option GWt) (gi : Option GIt) (h : Nat) (S : ST) {od : Nat → Nat} (ho : ∀ i, i < dN → od i < dN) (w : Int32) (k : Nat) {x : Nat} (hx : 81 ≤ x) : enS V gw gi dN mN gk S h od w k x = S x := by
  induction k with
  | zero => rfl
  | succ k ih =>
    refine (psS_hi hP gw gi (h + k) 0 _ hx).trans ?_
    split
    · rename_i hk
      rw [prS_hi _ w (by have := ho k hk; have := hP.2.1.2; omega) (by omega)]
      exact ih
    · exact ih
theorem anL_s {S : ST} {k : Nat} : anL S (k + 1) = true ↔ (anL S k = true ∨ S k = 0) := by
  show (anL S k || decide (S k = 0)) = true ↔ _
  rw [Bool.or_eq_true, decide_eq_true_iff]
section M16
variable {G : GG} {σ : Hp} {m : Nat} {V : VT} {U : UT}
set_option maxRecDepth 100000 in
theorem sm_enl (hM : MS σ m) {V1 : VT} {dN n t : Nat} {w i : Int32} (hd3 : V1 3 0 = nI dN) (hd10 : dN ≤ 10) {Q : Option Value → Hp → Prop} (kq : ∀ l5 : Option Value, HT G mX10_enough 118 [some (.ref m), some (.int w), some (.int (nI n)), some (.int (if anL (V1 33) dN = true then 0 else i)), some (.int (nI t)), l5] [] (sv σ m V1 U) 8 Q) : HT G mX10_enough 85 [some (.ref m), some (.int w), some (.int (nI n)), some (.int (i)), some (.int (nI t)), some (.int (nI 0))] [] (sv σ m V1 U) 8 Q := by
  have D := dat dl_X10_enough
  have loop : ∀ r j : Nat, j ≤ dN → dN - j = r → HT G mX10_enough 85 [some (.ref m), some (.int w), some (.int (nI n)), some (.int (if anL (V1 33) j = true then 0 else i)), some (.int (nI t)), some (.int (nI j))] [] (sv σ m V1 U) 8 Q := by
    intro r
    induction r using Nat.strongRecOn with
    | _ r ih =>
      intro j hj hr
      refine ht_iload (D 49 rfl) rfl ?_
      refine ht_aload_n (D 50 rfl) rfl rfl ?_
      refine gf_X10_16 rfl (D 51 rfl) hM.k0 hM.q3 ?_
      refine ht_iconst (v := 0) (D 52 rfl) (by decide) ?_
      refine hm_ild (o := 3) (n := 0) (by decide) (D 53 rfl) hM.k3 hM.n3 (by first | rfl | exact nI_add _ _ | assumption) (by omega) (by decide) ?_
      refine ht_icmp_ge (tgt := 118) (D 54 rfl) (by decide) (fun hb93 => ?_) (fun hb93 => ?_)
      · skip
        have hjk : dN = j := by rw [hd3] at hb93; have h9 := (nI_leI (a := dN) (b := j) (by omega) (by omega)).mp hb93; omega
        subst hjk
        exact kq _
      · skip
        have hjk : j < dN := by rw [hd3] at hb93; have h9 := mt (nI_leI (a := dN) (b := j) (by omega) (by omega)).mpr hb93; omega
        refine ht_aload_n (D 55 rfl) rfl rfl ?_
        refine gf_X10_108 rfl (D 56 rfl) hM.k0 hM.q33 ?_
        refine ht_iload (D 57 rfl) rfl ?_
        refine hm_ild (o := 33) (n := j) (by decide) (D 58 rfl) hM.k33 hM.n33 (by first | rfl | exact nI_add _ _ | assumption) (by omega) (by decide) ?_
        refine ht_if_ne (tgt := 110) (D 59 rfl) (by decide) (fun hb103 => ?_) (fun hb103 => ?_)
        · skip
          have e9 : (if anL (V1 33) j = true then 0 else i) = (if anL (V1 33) (j + 1) = true then 0 else i) := by
            by_cases c : anL (V1 33) j = true
            · rw [if_pos c, if_pos (anL_s.mpr (Or.inl c))]
            · rw [if_neg c, if_neg (fun q => by rcases anL_s.mp q with h9 | h9; exact c h9; exact hb103 h9)]
          refine ht_iload_n (D 62 rfl) rfl rfl ?_
          refine ht_istore_n (D 63 rfl) rfl (by decide) rfl ?_
          refine ht_iinc (v := nI (j + 1)) (D 64 rfl) rfl (nI_i1 _) (by decide) rfl ?_
          refine ht_goto (tgt := 85) (D 65 rfl) (by decide) ?_
          exact ht_cast (ih (dN - (j + 1)) (by omega) (j + 1) (by omega) rfl) (by simp only [List.set]; rw [← e9]) rfl rfl
        · skip
          have e9 : (0 : Int32) = (if anL (V1 33) (j + 1) = true then 0 else i) := by rw [if_pos (anL_s.mpr (Or.inr hb103))]
          refine ht_iconst (v := 0) (D 60 rfl) (by decide) ?_
          refine ht_goto (tgt := 111) (D 61 rfl) (by decide) ?_
          refine ht_istore_n (D 63 rfl) rfl (by decide) rfl ?_
          refine ht_iinc (v := nI (j + 1)) (D 64 rfl) rfl (nI_i1 _) (by decide) rfl ?_
          refine ht_goto (tgt := 85) (D 65 rfl) (by decide) ?_
          exact ht_cast (ih (dN - (j + 1)) (by omega) (j + 1) (by omega) rfl) (by simp only [List.set]; rw [← e9]) rfl rfl
  exact loop dN 0 (by omega) (by omega)
theorem enI_01 (V : VT) (gw : Option GWt) (gi : Option GIt) (dN mN gk : Nat) (S : ST) (h : Nat) (od : Nat → Nat) (w : Int32) (t : Nat) : enI V gw gi dN mN gk S h od w t = 0 ∨ enI V gw gi dN mN gk S h od w t = 1 := by
  induction t with
  | zero => exact Or.inr rfl
  | succ t ih =>
    unfold enI
    split
    · exact Or.inl rfl
    · exact ih
def Dr (V V' : VT) : Prop := ∀ o, 1 ≤ o → ¬ (23 ≤ o ∧ o ≤ 33) → o ≠ 37 → V' o = V o
theorem rse {V V0 V1 : VT} (h0 : ∀ i, i < 96 → V0 34 i = V 33 i) (hz : Pz V V0) (h : Dy V0 V1) (hh : ∀ i, 96 ≤ i → V1 33 i = V 33 i) : cpR V1 34 0 33 0 96 33 = V 33 ∧ Pz V (cpR V1 34 0 33 0 96) := by
  have e34 : V1 34 = V0 34 := h 34 (by decide)
  refine ⟨?_, fun o h1 h2 h3 => ?_, ?_⟩
  · funext i
    show (if 33 = 33 ∧ 0 ≤ i ∧ i < 0 + 96 then V1 34 (0 + (i - 0)) else V1 33 i) = V 33 i
    by_cases c : i < 96
    · rw [if_pos ⟨rfl, by omega, by omega⟩, e34, h0 _ (by omega)]
      congr 1
      omega
    · rw [if_neg (by omega)]
      exact hh i (by omega)
  · rw [cpR_o V1 34 0 33 0 96 (show o ≠ 33 from fun e => h2 (by omega)), h o (fun q => h2 (by omega))]
    exact hz.1 o h1 h2 h3
  · rw [cpR_o V1 34 0 33 0 96 (show (0 : Nat) ≠ 33 by decide), h 0 (by decide)]
    exact hz.2
theorem cpA_34 (V : VT) {i : Nat} (c : i < 96) : cpA V 34 i = V 33 i := by
  show (if 34 = 34 ∧ 0 ≤ i ∧ i < 0 + 96 then V 33 (0 + (i - 0)) else V 34 i) = _
  rw [if_pos ⟨rfl, by omega, by omega⟩]
  congr 1
  omega
theorem Pz.dz {V V' : VT} (h : Pz V V') : Dz V V' := h.1
theorem Pz.cpA {V V' : VT} (h : Pz V V') : Pz V (cpA V') := ⟨fun o h1 h2 h3 => (cpA_o V' (show o ≠ 34 from fun e => h2 (by omega))).trans (h.1 o h1 h2 h3), by rw [cpA_o V' (by decide)]; exact h.2⟩
set_option maxRecDepth 100000 in
set_option maxHeartbeats 2000000 in
theorem sm_enh (hM : MS σ m) {cN dN mN gk : Nat} (hP : PL V cN dN mN gk) {gw : Option GWt} {gi : Option GIt} (hW : LnW V gw) (hI : LnI V gi) {h : Nat} (hh : V 33 80 = nI h) (h31 : h < 2 ^ 30) (hmn : Mn (V 33) cN mN) {V0 : VT} (hz0 : Pz V V0) (h34 : ∀ i, i < 96 → V0 34 i = V 33 i) (h330 : V0 33 = V 33) {od : Nat → Nat} (hod : ∀ i, i < dN → od i < dN ∧ V0 38 i = nI (od i)) {n : Nat} (hn : n ≤ 240) (w : Int32) (l5 : Option Value) : HT G mX10_enough 47 [some (.ref m), some (.int w), some (.int (nI n)), some (.int (1)), some (.int (nI 0)), l5] [] (sv σ m V0 U) 8 (QA σ m V (enI V gw gi dN mN gk (V 33) h od w n) (V 33)) := by
  have D := dat dl_X10_enough
  have hd10 : dN ≤ 10 := hP.2.1.2
  have hm6 : mN ≤ 6 := hP.2.2.1.2
  have hdz0 : Dz V V0 := hz0.dz
  have hP0 := hP.dz hdz0
  have hW0 := hW.dz hdz0
  have hI0 := hI.dz hdz0
  have hd3 : V0 3 0 = nI dN := hP0.2.1.1
  have nx : ∀ (Va : VT) {t : Nat} {i : Int32} {l5 : Option Value}, Dy V0 Va → Va 33 = (if t < dN then prS (enS V gw gi dN mN gk (V 33) h od w t) (od t) w else enS V gw gi dN mN gk (V 33) h od w t) → (hei : i = enI V gw gi dN mN gk (V 33) h od w t) → (htn : t < n) → (hih : ∀ (V2 : VT) (i2 : Int32) (l5 : Option Value), Dy V0 V2 → V2 33 = enS V gw gi dN mN gk (V 33) h od w (t + 1) → i2 = enI V gw gi dN mN gk (V 33) h od w (t + 1) → HT G mX10_enough 47 [some (.ref m), some (.int w), some (.int (nI n)), some (.int (i2)), some (.int (nI (t + 1))), l5] [] (sv σ m V2 U) 8 (QA σ m V (enI V gw gi dN mN gk (V 33) h od w n) (V 33))) → HT G mX10_enough 77 [some (.ref m), some (.int w), some (.int (nI n)), some (.int (i)), some (.int (nI t)), l5] [] (sv σ m Va U) 8 (QA σ m V (enI V gw gi dN mN gk (V 33) h od w n) (V 33)) := by
    intro Va t i l5 hda hSa hei htn hih
    have hod9 : ∀ i, i < dN → od i < dN := fun i hi => (hod i hi).1
    have h80 : Va 33 80 = nI (h + t) := by
      rw [hSa]
      split
      · rename_i hk
        rw [prS_hi _ w (by have := hod9 t hk; omega) (by decide)]
        exact enS_80 V gw gi dN mN gk hh od w t
      · exact enS_80 V gw gi dN mN gk hh od w t
    have hmn2 : Mn (Va 33) cN mN := by
      rw [hSa]
      split
      · rename_i hk
        exact prS_mn w (by have := hod9 t hk; omega) (enS_mn hP gw gi h hmn hod9 w t)
      · exact enS_mn hP gw gi h hmn hod9 w t
    refine ht_aload_n (D 44 rfl) rfl rfl ?_
    refine ht_iconst (v := 0) (D 45 rfl) (by decide) ?_
    refine kVX10_passes (As := [_]) cl_X10_393 (D 46 rfl) (sm_passes hM (hP0.dy hda) (hW0.dy hda) (hI0.dy hda) (h := h + t) h80 (by omega) hmn2 0) hM.k0 rfl (Nat.le_of_ble_eq_true rfl) rfl (Nat.le_of_ble_eq_true rfl) (by omega) ?_
    rintro rv σ1 ⟨rfl, V2, rfl, hd2, h332⟩
    rw [psS_dz (hdz0.tr hda.dz), hSa] at h332
    refine ht_iconst (v := 0) (D 47 rfl) (by decide) ?_
    refine ht_istore (D 48 rfl) (by decide) rfl ?_
    refine sm_enl hM (V1 := V2) (by rw [(hda.tr hd2) 3 (by decide)]; exact hd3) hd10 (fun l5 => ?_)
    refine ht_iinc (v := nI (t + 1)) (D 66 rfl) rfl (nI_i1 _) (by decide) rfl ?_
    refine ht_goto (tgt := 47) (D 67 rfl) (by decide) ?_
    exact hih V2 _ _ (hda.tr hd2) h332 (by rw [h332, hei]; rfl)
  have loop : ∀ (r t : Nat) (V1 : VT) (i : Int32) (l5 : Option Value), t + r = n → Dy V0 V1 → V1 33 = enS V gw gi dN mN gk (V 33) h od w t → i = enI V gw gi dN mN gk (V 33) h od w t → HT G mX10_enough 47 [some (.ref m), some (.int w), some (.int (nI n)), some (.int (i)), some (.int (nI t)), l5] [] (sv σ m V1 U) 8 (QA σ m V (enI V gw gi dN mN gk (V 33) h od w n) (V 33)) := by
    intro r
    induction r using Nat.strongRecOn with
    | _ r ih =>
      intro t V1 i l5 ht hdy h33 hei
      refine ht_iload (D 27 rfl) rfl ?_
      refine ht_iload_n (D 28 rfl) rfl rfl ?_
      refine ht_icmp_ge (tgt := 124) (D 29 rfl) (by decide) (fun hb50 => ?_) (fun hb50 => ?_)
      · skip
        have hr0 : r = 0 := by have h9 := (nI_leI (a := n) (b := t) (by omega) (by omega)).mp hb50; omega
        subst hr0
        have htn : t = n := by omega
        subst htn
        refine ht_aload_n (D 68 rfl) rfl rfl ?_
        refine gf_X10_111 rfl (D 69 rfl) hM.k0 hM.q34 ?_
        refine ht_iconst (v := 0) (D 70 rfl) (by decide) ?_
        refine ht_aload_n (D 71 rfl) rfl rfl ?_
        refine gf_X10_108 rfl (D 72 rfl) hM.k0 hM.q33 ?_
        refine ht_iconst (v := 0) (D 73 rfl) (by decide) ?_
        refine kSX10_copies (As := [_, _, _, _]) cl_X10_396 (D 74 rfl) (sm_copies_34_33 hM (a := 0) (b := 0) (by decide) (by decide)) rfl (Nat.le_of_ble_eq_true rfl) rfl (Nat.le_of_ble_eq_true rfl) (by omega) ?_
        rintro rv σ1 ⟨rfl, rfl⟩
        refine ht_iload_n (D 75 rfl) rfl rfl ?_
        refine ht_iret (D 76 rfl) rfl rfl ?_
        obtain ⟨r1, r2⟩ := rse h34 hz0 hdy (fun i hi => by rw [h33]; exact enS_hi hP gw gi h (V 33) (fun i hi => (hod i hi).1) w _ (by omega))
        exact ⟨by rw [← hei], _, U, rfl, r2, r1⟩
      · skip
        obtain ⟨r2, rfl⟩ : ∃ r2, r = r2 + 1 := ⟨r - 1, by have h9 := mt (nI_leI (a := n) (b := t) (by omega) (by omega)).mpr hb50; omega⟩
        refine ht_iload (D 30 rfl) rfl ?_
        refine ht_aload_n (D 31 rfl) rfl rfl ?_
        refine gf_X10_16 rfl (D 32 rfl) hM.k0 hM.q3 ?_
        refine ht_iconst (v := 0) (D 33 rfl) (by decide) ?_
        refine hm_ild (o := 3) (n := 0) (by decide) (D 34 rfl) hM.k3 hM.n3 (by first | rfl | exact nI_add _ _ | assumption) (by omega) (by decide) ?_
        refine ht_icmp_ge (tgt := 77) (D 35 rfl) (by decide) (fun hb61 => ?_) (fun hb61 => ?_)
        · skip
          have htd : ¬ t < dN := by rw [hdy 3 (by decide), hd3] at hb61; have h9 := (nI_leI (a := dN) (b := t) (by omega) (by omega)).mp hb61; omega
          have hS9 : V1 33 = (if t < dN then prS (enS V gw gi dN mN gk (V 33) h od w t) (od t) w else enS V gw gi dN mN gk (V 33) h od w t) := by rw [if_neg htd]; exact h33
          first | exact nx V1 hdy hS9 (hei := hei) (htn := by omega) (hih := fun V2 i2 l6 h1 h2 h3 => ih r2 (by omega) (t + 1) V2 i2 l6 (by omega) h1 h2 h3) | exact nx _ hdy9 hS9 (hei := hei) (htn := by omega) (hih := fun V2 i2 l6 h1 h2 h3 => ih r2 (by omega) (t + 1) V2 i2 l6 (by omega) h1 h2 h3)
        · skip
          have htd : t < dN := by rw [hdy 3 (by decide), hd3] at hb61; have h9 := mt (nI_leI (a := dN) (b := t) (by omega) (by omega)).mpr hb61; omega
          have hot := hod t htd
          refine ht_aload_n (D 36 rfl) rfl rfl ?_
          refine ht_aload_n (D 37 rfl) rfl rfl ?_
          refine gf_X10_123 rfl (D 38 rfl) hM.k0 hM.q38 ?_
          refine ht_iload (D 39 rfl) rfl ?_
          refine hm_ild (o := 38) (n := t) (by decide) (D 40 rfl) hM.k38 hM.n38 (by first | rfl | exact nI_add _ _ | assumption) (by omega) (by decide) ?_
          rw [hdy 38 (by decide), hot.2]
          refine ht_iload_n (D 41 rfl) rfl rfl ?_
          refine kVX10_poursIn (As := [_, _]) cl_X10_355 (D 42 rfl) (sm_poursIn hM (j := od t) (by omega) w) hM.k0 rfl (Nat.le_of_ble_eq_true rfl) rfl (Nat.le_of_ble_eq_true rfl) (by omega) ?_
          rintro rv σ1 ⟨rfl, rfl⟩
          have hS9 : sS V1 (prS (V1 33) (od t) w) 33 = (if t < dN then prS (enS V gw gi dN mN gk (V 33) h od w t) (od t) w else enS V gw gi dN mN gk (V 33) h od w t) := by rw [if_pos htd, sS_s, h33]
          have hdy9 := hdy.sS (prS (V1 33) (od t) w)
          refine ht_pop (D 43 rfl) rfl ?_
          first | exact nx V1 hdy hS9 (hei := hei) (htn := by omega) (hih := fun V2 i2 l6 h1 h2 h3 => ih r2 (by omega) (t + 1) V2 i2 l6 (by omega) h1 h2 h3) | exact nx _ hdy9 hS9 (hei := hei) (htn := by omega) (hih := fun V2 i2 l6 h1 h2 h3 => ih r2 (by omega) (t + 1) V2 i2 l6 (by omega) h1 h2 h3)
  exact loop n 0 V0 1 l5 (by omega) (Dy.rf _) h330 rfl
def aEnOk (w x : Int32) : Prop := (0 ≤ w ∧ w ≤ 99) ∧ (1 ≤ x ∧ x ≤ 240)
set_option maxRecDepth 100000 in
theorem sm_enough (hM : MS σ m) {cN dN mN gk : Nat} (hP : PL V cN dN mN gk) {gw : Option GWt} {gi : Option GIt} (hW : LnW V gw) (hI : LnI V gi) {h : Nat} (hh : V 33 80 = nI h) (h31 : h < 2 ^ 30) (hmn : Mn (V 33) cN mN) (w x : Int32) : Sp G mX10_enough 8 [.ref m, .int w, .int x] (sv σ m V U) (fun rv σ' => (¬ aEnOk w x ∧ QA σ m V (-1) (V 33) rv σ') ∨ (aEnOk w x ∧ ∃ od : Nat → Nat, (∀ i, i < dN → od i < dN ∧ rk (soK V gw gi dN mN gk (V 33) h x.toNatClampNeg) dN (od i) = i) ∧ QA σ m V (enI V gw gi dN mN gk (V 33) h od w x.toNatClampNeg) (V 33) rv σ')) := by
  have D := dat dl_X10_enough
  show HT G mX10_enough 0 [some (.ref m), some (.int w), some (.int x), none, none, none] [] (sv σ m V U) 8 _
  have hPt : PL (tz V) cN dN mN gk := hP.dz (tz_dz V)
  have hd10 : dN ≤ 10 := hP.2.1.2
  have hc8 : cN ≤ 8 := hP.1.2
  have hm6 : mN ≤ 6 := hP.2.2.1.2
  refine ht_aload_n (D 0 rfl) rfl rfl ?_
  refine ht_iconst (v := 0) (D 1 rfl) (by decide) ?_
  refine pm_X10_135 hM rfl (D 2 rfl) ?_
  show HT _ _ _ _ _ (sv σ m (tz V) U) _ _
  refine ht_iload_n (D 3 rfl) rfl rfl ?_
  refine ht_iconst (v := 0) (D 4 rfl) (by decide) ?_
  refine ht_bipush (v := 99) (D 5 rfl) (by decide) ?_
  refine kSX10_within (As := [_, _, _]) cl_X10_263 (D 6 rfl) (sm_within _ _ _) rfl (Nat.le_of_ble_eq_true rfl) rfl (Nat.le_of_ble_eq_true rfl) (by omega) ?_
  rintro rv σ1 ⟨rfl, rfl⟩
  refine ht_if_eq (tgt := 22) (D 7 rfl) (by decide) (fun hb12 => ?_) (fun hb12 => ?_)
  · skip
    have hng : ¬ aEnOk w x := fun q => b01_eq hb12 q.1
    refine ht_iconst (v := -1) (D 11 rfl) (by decide) ?_
    refine ht_iret (D 12 rfl) rfl rfl ?_
    exact Or.inl ⟨hng, QA_t rfl⟩
  · skip
    have hw9 := b01_ne hb12
    refine ht_iload_n (D 8 rfl) rfl rfl ?_
    refine kSX10_isSome (As := [_]) cl_X10_400 (D 9 rfl) (sm_isSome x) rfl (Nat.le_of_ble_eq_true rfl) rfl (Nat.le_of_ble_eq_true rfl) (by omega) ?_
    rintro rv σ1 ⟨rfl, rfl⟩
    refine ht_if_ne (tgt := 24) (D 10 rfl) (by decide) (fun hb19 => ?_) (fun hb19 => ?_)
    · skip
      have hx9 := b01_ne hb19
      obtain ⟨n, hn1, hn2, rfl⟩ := rngW (lo := 1) 240 (by decide) hx9 (by decide)
      have hnc : (nI n).toNatClampNeg = n := nI_clamp (by omega)
      have hok : aEnOk w (nI n) := ⟨hw9, hx9⟩
      refine ht_aload_n (D 13 rfl) rfl rfl ?_
      refine ht_iload_n (D 14 rfl) rfl rfl ?_
      refine kVX10_orders (As := [_]) cl_X10_409 (D 15 rfl) (sm_orders hM hPt (hW.dz (tz_dz V)) (hI.dz (tz_dz V)) (h := h) (by rw [tz_o V (show (33 : Nat) ≠ 0 by decide)]; exact hh) h31 (by rw [tz_o V (show (33 : Nat) ≠ 0 by decide)]; exact hmn) (n := n) hn1 rfl) hM.k0 rfl (Nat.le_of_ble_eq_true rfl) rfl (Nat.le_of_ble_eq_true rfl) (by omega) ?_
      rintro rv σ1 ⟨rfl, V2, rfl, hq2, hs2⟩
      rw [soK_dz (tz_dz V), tz_o V (show (33 : Nat) ≠ 0 by decide)] at hs2
      refine ht_aload_n (D 16 rfl) rfl rfl ?_
      refine gf_X10_108 rfl (D 17 rfl) hM.k0 hM.q33 ?_
      refine ht_iconst (v := 0) (D 18 rfl) (by decide) ?_
      refine ht_aload_n (D 19 rfl) rfl rfl ?_
      refine gf_X10_111 rfl (D 20 rfl) hM.k0 hM.q34 ?_
      refine ht_iconst (v := 0) (D 21 rfl) (by decide) ?_
      refine kSX10_copies (As := [_, _, _, _]) cl_X10_396 (D 22 rfl) (sm_copies_33_34 hM (a := 0) (b := 0) (by decide) (by decide)) rfl (Nat.le_of_ble_eq_true rfl) rfl (Nat.le_of_ble_eq_true rfl) (by omega) ?_
      rintro rv σ1 ⟨rfl, rfl⟩
      refine ht_iconst (v := 1) (D 23 rfl) (by decide) ?_
      refine ht_istore_n (D 24 rfl) rfl (by decide) rfl ?_
      refine ht_iconst (v := 0) (D 25 rfl) (by decide) ?_
      refine ht_istore (D 26 rfl) (by decide) rfl ?_
      have hodx : ∀ i, ∃ e, i < dN → e < dN ∧ rk (soK V gw gi dN mN gk (V 33) h n) dN e = i ∧ V2 38 i = nI e := by
        intro i
        by_cases c : i < dN
        · obtain ⟨e, h1, h2, h3⟩ := hs2 i c
          exact ⟨e, fun _ => ⟨h1, h2, h3⟩⟩
        · exact ⟨0, fun q => absurd q c⟩
      obtain ⟨od, hod⟩ := Classical.axiomOfChoice hodx
      have h33 : V2 33 = V 33 := by rw [hq2.2, tz_o V (show (33 : Nat) ≠ 0 by decide)]
      have hmain := sm_enh (G := G) (U := U) hM hP hW hI hh h31 hmn (V0 := cpA V2) hq2.pz.cpA (fun i hi => by rw [cpA_34 V2 hi, h33]) (by rw [cpA_o V2 (by decide), h33]) (od := od) (fun i hi => ⟨(hod i hi).1, by rw [cpA_o V2 (by decide)]; exact (hod i hi).2.2⟩) hn1 w none
      refine ht_mono hmain (fun rv σ9 hq => Or.inr ⟨hok, od, fun i hi => ⟨(hod i hi).1, by rw [hnc]; exact (hod i hi).2.1⟩, by rw [hnc]; exact hq⟩)
    · skip
      have hng : ¬ aEnOk w x := fun q => b01_eq hb19 q.2
      refine ht_iconst (v := -1) (D 11 rfl) (by decide) ?_
      refine ht_iret (D 12 rfl) rfl rfl ?_
      exact Or.inl ⟨hng, QA_t rfl⟩
end M16
