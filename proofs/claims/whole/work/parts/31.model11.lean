/-! ===== the reference: soons, soon, man, degrees, draws ===== -/
noncomputable def so (V : VT) (gw : Option GWt) (gi : Option GIt) (dN mN gk : Nat) (S : ST) (h d : Nat) : Nat → Int32
  | 0 => -1
  | t + 1 => if psI V gw gi dN mN gk S h t d = 0 ∧ so V gw gi dN mN gk S h d t < 0 then nI t else so V gw gi dN mN gk S h d t
theorem so_y {V : VT} {gw : Option GWt} {gi : Option GIt} {dN mN gk : Nat} {S : ST} {h d t : Nat} (hy : psI V gw gi dN mN gk S h t d = 0 ∧ so V gw gi dN mN gk S h d t < 0) : so V gw gi dN mN gk S h d (t + 1) = nI t := by
  unfold so
  rw [if_pos hy]
theorem so_n {V : VT} {gw : Option GWt} {gi : Option GIt} {dN mN gk : Nat} {S : ST} {h d t : Nat} (hn : ¬ (psI V gw gi dN mN gk S h t d = 0 ∧ so V gw gi dN mN gk S h d t < 0)) : so V gw gi dN mN gk S h d (t + 1) = so V gw gi dN mN gk S h d t := by
  conv => lhs; unfold so
  rw [if_neg hn]
/-- a trial that writes soonOf too -/
def Dq (V V' : VT) : Prop := ∀ o, ¬ (23 ≤ o ∧ o ≤ 33) → o ≠ 37 → V' o = V o
theorem Dq.rf (V : VT) : Dq V V := fun _ _ _ => rfl
theorem Dq.tr {V V1 V2 : VT} (h1 : Dq V V1) (h2 : Dq V1 V2) : Dq V V2 := fun o h q => (h2 o h q).trans (h1 o h q)
theorem Dy.dq {V V' : VT} (h : Dy V V') : Dq V V' := fun o q _ => h o q
theorem Dq.up {V V1 : VT} (h : Dq V V1) (k : Nat) (v : Int32) : Dq V (up2 V1 37 k v) := fun o q r => (up2_o V1 v r).trans (h o q r)
theorem Dq.dz {V V' : VT} (h : Dq V V') : Dz V V' := fun o _ q r => h o (fun s => q ⟨s.1, by omega⟩) (fun e => r (by omega))
def Pq (V V' : VT) : Prop := (∀ o, ¬ (23 ≤ o ∧ o ≤ 34) → o ≠ 37 → V' o = V o) ∧ V' 33 = V 33
theorem Pq.dz {V V' : VT} (h : Pq V V') : Dz V V' := fun o _ q r => h.1 o q (fun e => r (by omega))
theorem Pq.pz {V V' : VT} (h : Pq (tz V) V') : Pz V V' := ⟨fun o h1 h2 h3 => (h.1 o h2 (fun e => h3 (by omega))).trans (tz_o V (by omega)), by rw [h.1 0 (by decide) (by decide)]; exact ⟨up2_k V 0 (by decide), up2_k V 0 (by decide)⟩⟩
theorem rstq {V V1 : VT} (h : Dq (cpA V) V1) (hh : ∀ i, 96 ≤ i → V1 33 i = V 33 i) : Pq V (cpR V1 34 0 33 0 96) := by
  have e34 : V1 34 = cpA V 34 := h 34 (by decide) (by decide)
  refine ⟨fun o h2 h4 => ?_, ?_⟩
  · rw [cpR_o V1 34 0 33 0 96 (show o ≠ 33 from fun e => h2 (by omega)), h o (fun q => h2 (by omega)) h4, cpA_o V (show o ≠ 34 from fun e => h2 (by omega))]
  · funext i
    show (if 33 = 33 ∧ 0 ≤ i ∧ i < 0 + 96 then V1 34 (0 + (i - 0)) else V1 33 i) = V 33 i
    by_cases c : i < 96
    · rw [if_pos ⟨rfl, by omega, by omega⟩, e34]
      show (if 34 = 34 ∧ 0 ≤ 0 + (i - 0) ∧ 0 + (i - 0) < 0 + 96 then V 33 (0 + (0 + (i - 0) - 0)) else V 34 (0 + (i - 0))) = V 33 i
      rw [if_pos ⟨rfl, by omega, by omega⟩]
      congr 1
      omega
    · rw [if_neg (by omega)]
      exact hh i (by omega)
section M11
variable {G : GG} {σ : Hp} {m : Nat} {V : VT} {U : UT}
set_option maxRecDepth 100000 in
set_option maxHeartbeats 2000000 in
theorem sm_soons (hM : MS σ m) {cN dN mN gk : Nat} (hP : PL V cN dN mN gk) {gw : Option GWt} {gi : Option GIt} (hW : LnW V gw) (hI : LnI V gi) {h : Nat} (hh : V 33 80 = nI h) (h31 : h < 2 ^ 30) (hmn : Mn (V 33) cN mN) {n : Nat} (hn : n ≤ 240) : Sp G mX10_soons 6 [.ref m, .int (nI n)] (sv σ m V U) (fun rv σ' => rv = none ∧ ∃ V' : VT, σ' = sv σ m V' U ∧ Pq V V' ∧ (∀ d, d < dN → V' 37 d = so V gw gi dN mN gk (V 33) h d (n + 1))) := by
  have D := dat dl_X10_soons
  have hd10 : dN ≤ 10 := hP.2.1.2
  have loop2 : ∀ (r t : Nat) (V1 : VT) (l3 : Option Value), t + r = n + 1 → Dq (cpA V) V1 → V1 33 = psI V gw gi dN mN gk (V 33) h t → (∀ d, d < dN → V1 37 d = so V gw gi dN mN gk (V 33) h d t) → HT G mX10_soons 36 [some (.ref m), some (.int (nI n)), some (.int (nI t)), l3] [] (sv σ m V1 U) 6 (fun rv σ' => rv = none ∧ ∃ V' : VT, σ' = sv σ m V' U ∧ Pq V V' ∧ (∀ d, d < dN → V' 37 d = so V gw gi dN mN gk (V 33) h d (n + 1))) := by
    intro r
    induction r using Nat.strongRecOn with
    | _ r ih2 =>
      intro t V1 l3 ht hdq h33 hso
      refine ht_iload_n (D 21 rfl) rfl rfl ?_
      refine ht_iload_n (D 22 rfl) rfl rfl ?_
      refine ht_icmp_gt (tgt := 95) (D 23 rfl) (by decide) (fun hb38 => ?_) (fun hb38 => ?_)
      · skip
        have hr0 : r = 0 := by have h9 := (nI_ltI (a := n) (b := t) (by omega) (by omega)).mp hb38; omega
        subst hr0
        have htn : t = n + 1 := by omega
        subst htn
        refine ht_aload_n (D 54 rfl) rfl rfl ?_
        refine gf_X10_111 rfl (D 55 rfl) hM.k0 hM.q34 ?_
        refine ht_iconst (v := 0) (D 56 rfl) (by decide) ?_
        refine ht_aload_n (D 57 rfl) rfl rfl ?_
        refine gf_X10_108 rfl (D 58 rfl) hM.k0 hM.q33 ?_
        refine ht_iconst (v := 0) (D 59 rfl) (by decide) ?_
        refine kSX10_copies (As := [_, _, _, _]) cl_X10_396 (D 60 rfl) (sm_copies_34_33 hM (a := 0) (b := 0) (by decide) (by decide)) rfl (Nat.le_of_ble_eq_true rfl) rfl (Nat.le_of_ble_eq_true rfl) (by omega) ?_
        rintro rv σ1 ⟨rfl, rfl⟩
        refine ht_vret (D 61 rfl) rfl ?_
        exact ⟨rfl, _, rfl, rstq hdq (fun i hi => by rw [h33]; exact psI_hi hP gw gi h (V 33) _ (by omega)), fun d hd => by rw [cpR_o _ 34 0 33 0 96 (by decide)]; exact hso d hd⟩
      · skip
        obtain ⟨r2, rfl⟩ : ∃ r2, r = r2 + 1 := ⟨r - 1, by have h9 := mt (nI_ltI (a := n) (b := t) (by omega) (by omega)).mpr hb38; omega⟩
        refine ht_iconst (v := 0) (D 24 rfl) (by decide) ?_
        refine ht_istore_n (D 25 rfl) rfl (by decide) rfl ?_
        have inner : ∀ (q j : Nat) (V1 : VT), j ≤ dN → dN - j = q → Dq (cpA V) V1 → V1 33 = psI V gw gi dN mN gk (V 33) h t → PL V1 cN dN mN gk → (∀ d, d < j → V1 37 d = so V gw gi dN mN gk (V 33) h d (t + 1)) → (∀ d, j ≤ d → d < dN → V1 37 d = so V gw gi dN mN gk (V 33) h d t) → HT G mX10_soons 43 [some (.ref m), some (.int (nI n)), some (.int (nI t)), some (.int (nI j))] [] (sv σ m V1 U) 6 (fun rv σ' => rv = none ∧ ∃ V' : VT, σ' = sv σ m V' U ∧ Pq V V' ∧ (∀ d, d < dN → V' 37 d = so V gw gi dN mN gk (V 33) h d (n + 1))) := by
          intro q
          induction q using Nat.strongRecOn with
          | _ q ih =>
            intro j V1 hj hq hdq h33 hP1 hlo hhi
            refine ht_iload_n (D 26 rfl) rfl rfl ?_
            refine ht_aload_n (D 27 rfl) rfl rfl ?_
            refine gf_X10_16 rfl (D 28 rfl) hM.k0 hM.q3 ?_
            refine ht_iconst (v := 0) (D 29 rfl) (by decide) ?_
            refine hm_ild (o := 3) (n := 0) (by decide) (D 30 rfl) hM.k3 hM.n3 (by first | rfl | exact nI_add _ _ | assumption) (by omega) (by decide) ?_
            refine ht_icmp_ge (tgt := 84) (D 31 rfl) (by decide) (fun hb50 => ?_) (fun hb50 => ?_)
            · skip
              have hjk : dN = j := by rw [hP1.2.1.1] at hb50; have h9 := (nI_leI (a := dN) (b := j) (by omega) (by omega)).mp hb50; omega
              subst hjk
              refine ht_aload_n (D 49 rfl) rfl rfl ?_
              refine ht_iconst (v := 0) (D 50 rfl) (by decide) ?_
              refine kVX10_passes (As := [_]) cl_X10_393 (D 51 rfl) (sm_passes hM hP1 (hW.dz ((cpA_dzv V).tr hdq.dz)) (hI.dz ((cpA_dzv V).tr hdq.dz)) (h := h + t) (by rw [h33]; exact psI_80 V gw gi dN mN gk hh t) (by omega) (by rw [h33]; exact psI_mn hP gw gi h hmn t) 0) hM.k0 rfl (Nat.le_of_ble_eq_true rfl) rfl (Nat.le_of_ble_eq_true rfl) (by omega) ?_
              rintro rv σ1 ⟨rfl, V2, rfl, hd2, h332⟩
              rw [h33, psS_dz ((cpA_dzv V).tr hdq.dz)] at h332
              refine ht_iinc (v := nI (t + 1)) (D 52 rfl) rfl (nI_i1 _) (by decide) rfl ?_
              refine ht_goto (tgt := 36) (D 53 rfl) (by decide) ?_
              exact ih2 r2 (by omega) (t + 1) V2 _ (by omega) (hdq.tr hd2.dq) h332 (fun d hd => by rw [hd2 37 (by decide)]; exact hlo d hd)
            · skip
              have hjk : j < dN := by rw [hP1.2.1.1] at hb50; have h9 := mt (nI_leI (a := dN) (b := j) (by omega) (by omega)).mpr hb50; omega
              refine ht_aload_n (D 32 rfl) rfl rfl ?_
              refine gf_X10_108 rfl (D 33 rfl) hM.k0 hM.q33 ?_
              refine ht_iload_n (D 34 rfl) rfl rfl ?_
              refine hm_ild (o := 33) (n := j) (by decide) (D 35 rfl) hM.k33 hM.n33 (by first | rfl | exact nI_add _ _ | assumption) (by omega) (by decide) ?_
              refine ht_if_ne (tgt := 78) (D 36 rfl) (by decide) (fun hb59 => ?_) (fun hb59 => ?_)
              · skip
                rw [h33] at hb59
                have hn9 : ¬ (psI V gw gi dN mN gk (V 33) h t j = 0 ∧ so V gw gi dN mN gk (V 33) h j t < 0) := fun q => hb59 q.1
                have hlN : ∀ d, d < j + 1 → V1 37 d = so V gw gi dN mN gk (V 33) h d (t + 1) := by
                  intro d hd
                  by_cases e9 : d = j
                  · rw [e9, so_n hn9]
                    exact hhi j (by omega) hjk
                  · exact hlo d (by omega)
                refine ht_iinc (v := nI (j + 1)) (D 47 rfl) rfl (nI_i1 _) (by decide) rfl ?_
                refine ht_goto (tgt := 43) (D 48 rfl) (by decide) ?_
                first | exact ih (dN - (j + 1)) (by omega) (j + 1) V1 (by omega) rfl hdq h33 hP1 hlN (fun d hd hd2 => hhi d (by omega) hd2) | exact ih (dN - (j + 1)) (by omega) (j + 1) _ (by omega) rfl (hdq.up _ _) (by rw [up2_o _ _ (by decide)]; exact h33) (hP1.dz (fun o _ _ r => up2_o _ _ (fun e => r (by omega)))) hlY hhY
              · skip
                rw [h33] at hb59
                refine ht_aload_n (D 37 rfl) rfl rfl ?_
                refine gf_X10_120 rfl (D 38 rfl) hM.k0 hM.q37 ?_
                refine ht_iload_n (D 39 rfl) rfl rfl ?_
                refine hm_ild (o := 37) (n := j) (by decide) (D 40 rfl) hM.k37 hM.n37 (by first | rfl | exact nI_add _ _ | assumption) (by omega) (by decide) ?_
                refine ht_if_ge (tgt := 78) (D 41 rfl) (by decide) (fun hb68 => ?_) (fun hb68 => ?_)
                · skip
                  rw [hhi j (by omega) hjk] at hb68
                  have hn9 : ¬ (psI V gw gi dN mN gk (V 33) h t j = 0 ∧ so V gw gi dN mN gk (V 33) h j t < 0) := fun q => by have q2 := q.2; simp only [i_lt, i_le] at q2 hb68; omega
                  have hlN : ∀ d, d < j + 1 → V1 37 d = so V gw gi dN mN gk (V 33) h d (t + 1) := by
                    intro d hd
                    by_cases e9 : d = j
                    · rw [e9, so_n hn9]
                      exact hhi j (by omega) hjk
                    · exact hlo d (by omega)
                  refine ht_iinc (v := nI (j + 1)) (D 47 rfl) rfl (nI_i1 _) (by decide) rfl ?_
                  refine ht_goto (tgt := 43) (D 48 rfl) (by decide) ?_
                  first | exact ih (dN - (j + 1)) (by omega) (j + 1) V1 (by omega) rfl hdq h33 hP1 hlN (fun d hd hd2 => hhi d (by omega) hd2) | exact ih (dN - (j + 1)) (by omega) (j + 1) _ (by omega) rfl (hdq.up _ _) (by rw [up2_o _ _ (by decide)]; exact h33) (hP1.dz (fun o _ _ r => up2_o _ _ (fun e => r (by omega)))) hlY hhY
                · skip
                  rw [hhi j (by omega) hjk] at hb68
                  have hy9 : psI V gw gi dN mN gk (V 33) h t j = 0 ∧ so V gw gi dN mN gk (V 33) h j t < 0 := ⟨hb59, by simp only [i_lt, i_le] at hb68 ⊢; omega⟩
                  have hlY : ∀ d, d < j + 1 → up2 V1 37 j (nI t) 37 d = so V gw gi dN mN gk (V 33) h d (t + 1) := by
                    intro d hd
                    by_cases e9 : d = j
                    · rw [e9, so_y hy9, up2_s]
                    · rw [up2_k _ _ e9]
                      exact hlo d (by omega)
                  have hhY : ∀ d, j + 1 ≤ d → d < dN → up2 V1 37 j (nI t) 37 d = so V gw gi dN mN gk (V 33) h d t := by
                    intro d hd hd2
                    rw [up2_k _ _ (by omega)]
                    exact hhi d (by omega) hd2
                  refine ht_aload_n (D 42 rfl) rfl rfl ?_
                  refine gf_X10_120 rfl (D 43 rfl) hM.k0 hM.q37 ?_
                  refine ht_iload_n (D 44 rfl) rfl rfl ?_
                  refine ht_iload_n (D 45 rfl) rfl rfl ?_
                  refine hm_ist (o := 37) (n := j) (by decide) (D 46 rfl) hM.k37 hM.n37 (by first | rfl | exact nI_add _ _ | assumption) (by omega) (by decide) ?_
                  refine ht_iinc (v := nI (j + 1)) (D 47 rfl) rfl (nI_i1 _) (by decide) rfl ?_
                  refine ht_goto (tgt := 43) (D 48 rfl) (by decide) ?_
                  first | exact ih (dN - (j + 1)) (by omega) (j + 1) V1 (by omega) rfl hdq h33 hP1 hlN (fun d hd hd2 => hhi d (by omega) hd2) | exact ih (dN - (j + 1)) (by omega) (j + 1) _ (by omega) rfl (hdq.up _ _) (by rw [up2_o _ _ (by decide)]; exact h33) (hP1.dz (fun o _ _ r => up2_o _ _ (fun e => r (by omega)))) hlY hhY
        exact ht_cast (inner dN 0 V1 (by omega) (by omega) hdq h33 (hP.dz ((cpA_dzv V).tr hdq.dz)) (fun d hd => absurd hd (by omega)) (fun d _ hd => hso d hd)) rfl rfl rfl
  have loop1 : ∀ (r j : Nat) (V1 : VT), j ≤ 10 → 10 - j = r → Dq (cpA V) V1 → V1 33 = V 33 → (∀ d, d < j → V1 37 d = -1) → HT G mX10_soons 15 [some (.ref m), some (.int (nI n)), some (.int (nI j)), none] [] (sv σ m V1 U) 6 (fun rv σ' => rv = none ∧ ∃ V' : VT, σ' = sv σ m V' U ∧ Pq V V' ∧ (∀ d, d < dN → V' 37 d = so V gw gi dN mN gk (V 33) h d (n + 1))) := by
    intro r
    induction r using Nat.strongRecOn with
    | _ r ih =>
      intro j V1 hj hr hdq h33 hso
      refine ht_iload_n (D 9 rfl) rfl rfl ?_
      refine ht_bipush (v := 10) (D 10 rfl) (by decide) ?_
      refine ht_icmp_ge (tgt := 34) (D 11 rfl) (by decide) (fun hb18 => ?_) (fun hb18 => ?_)
      · skip
        have hjk : 10 = j := by have h9 := (nI_leI (a := 10) (b := j) (by omega) (by omega)).mp hb18; omega
        subst hjk
        refine ht_iconst (v := 0) (D 19 rfl) (by decide) ?_
        refine ht_istore_n (D 20 rfl) rfl (by decide) rfl ?_
        exact ht_cast (loop2 (n + 1) 0 V1 none (by omega) hdq h33 (fun d hd => hso d (by omega))) rfl rfl rfl
      · skip
        have hjk : j < 10 := by have h9 := mt (nI_leI (a := 10) (b := j) (by omega) (by omega)).mpr hb18; omega
        refine ht_aload_n (D 12 rfl) rfl rfl ?_
        refine gf_X10_120 rfl (D 13 rfl) hM.k0 hM.q37 ?_
        refine ht_iload_n (D 14 rfl) rfl rfl ?_
        refine ht_iconst (v := -1) (D 15 rfl) (by decide) ?_
        refine hm_ist (o := 37) (n := j) (by decide) (D 16 rfl) hM.k37 hM.n37 (by first | rfl | exact nI_add _ _ | assumption) (by omega) (by decide) ?_
        refine ht_iinc (v := nI (j + 1)) (D 17 rfl) rfl (nI_i1 _) (by decide) rfl ?_
        refine ht_goto (tgt := 15) (D 18 rfl) (by decide) ?_
        have hl2 : ∀ d, d < j + 1 → up2 V1 37 j (-1) 37 d = -1 := by
          intro d hd
          by_cases e9 : d = j
          · rw [e9, up2_s]
          · rw [up2_k _ _ e9]
            exact hso d (by omega)
        exact ih (10 - (j + 1)) (by omega) (j + 1) _ (by omega) rfl (hdq.up _ _) (by rw [up2_o _ _ (by decide)]; exact h33) hl2
  show HT G mX10_soons 0 [some (.ref m), some (.int (nI n)), none, none] [] (sv σ m V U) 6 _
  refine ht_aload_n (D 0 rfl) rfl rfl ?_
  refine gf_X10_108 rfl (D 1 rfl) hM.k0 hM.q33 ?_
  refine ht_iconst (v := 0) (D 2 rfl) (by decide) ?_
  refine ht_aload_n (D 3 rfl) rfl rfl ?_
  refine gf_X10_111 rfl (D 4 rfl) hM.k0 hM.q34 ?_
  refine ht_iconst (v := 0) (D 5 rfl) (by decide) ?_
  refine kSX10_copies (As := [_, _, _, _]) cl_X10_396 (D 6 rfl) (sm_copies_33_34 hM (a := 0) (b := 0) (by decide) (by decide)) rfl (Nat.le_of_ble_eq_true rfl) rfl (Nat.le_of_ble_eq_true rfl) (by omega) ?_
  rintro rv σ1 ⟨rfl, rfl⟩
  refine ht_iconst (v := 0) (D 7 rfl) (by decide) ?_
  refine ht_istore_n (D 8 rfl) rfl (by decide) rfl ?_
  exact ht_cast (loop1 10 0 (cpA V) (by omega) (by omega) (Dq.rf _) (cpA_o V (by decide)) (fun d hd => absurd hd (by omega))) rfl rfl rfl
noncomputable def aSoon (V : VT) (gw : Option GWt) (gi : Option GIt) (dN mN gk h : Nat) (S : ST) (x w : Int32) : Int32 := if (0 ≤ x ∧ x < nI dN) ∧ (1 ≤ w ∧ w ≤ 240) then so V gw gi dN mN gk S h x.toNatClampNeg (w.toNatClampNeg + 1) else -1
theorem so_dz {V V' : VT} (hd : Dz V V') (gw : Option GWt) (gi : Option GIt) (dN mN gk : Nat) (S : ST) (h d t : Nat) : so V' gw gi dN mN gk S h d t = so V gw gi dN mN gk S h d t := by
  induction t with
  | zero => rfl
  | succ t ih =>
    unfold so
    rw [psI_dz hd, ih]
set_option maxRecDepth 100000 in
theorem sm_soon (hM : MS σ m) {cN dN mN gk : Nat} (hP : PL V cN dN mN gk) {gw : Option GWt} {gi : Option GIt} (hW : LnW V gw) (hI : LnI V gi) {h : Nat} (hh : V 33 80 = nI h) (h31 : h < 2 ^ 30) (hmn : Mn (V 33) cN mN) (x w : Int32) : Sp G mX10_soon 7 [.ref m, .int x, .int w] (sv σ m V U) (QA σ m V (aSoon V gw gi dN mN gk h (V 33) x w) (V 33)) := by
  have D := dat dl_X10_soon
  show HT G mX10_soon 0 [some (.ref m), some (.int x), some (.int w)] [] (sv σ m V U) 7 _
  have hPt : PL (tz V) cN dN mN gk := hP.dz (tz_dz V)
  have hd10 : dN ≤ 10 := hP.2.1.2
  have hc8 : cN ≤ 8 := hP.1.2
  have hm6 : mN ≤ 6 := hP.2.2.1.2
  refine ht_aload_n (D 0 rfl) rfl rfl ?_
  refine ht_iconst (v := 0) (D 1 rfl) (by decide) ?_
  refine pm_X10_135 hM rfl (D 2 rfl) ?_
  show HT _ _ _ _ _ (sv σ m (tz V) U) _ _
  refine ht_aload_n (D 3 rfl) rfl rfl ?_
  refine ht_iload_n (D 4 rfl) rfl rfl ?_
  refine kVX10_isDoor (As := [_]) cl_X10_337 (D 5 rfl) (sm_isDoor hM x) hM.k0 rfl (Nat.le_of_ble_eq_true rfl) rfl (Nat.le_of_ble_eq_true rfl) (by omega) ?_
  rintro rv σ1 ⟨rfl, rfl⟩
  refine ht_if_eq (tgt := 20) (D 6 rfl) (by decide) (fun hb10 => ?_) (fun hb10 => ?_)
  · skip
    have hno := b01_eq hb10
    rw [hPt.2.1.1] at hno
    have hng : ¬ ((0 ≤ x ∧ x < nI dN) ∧ (1 ≤ w ∧ w ≤ 240)) := fun q => hno q.1
    refine ht_iconst (v := -1) (D 10 rfl) (by decide) ?_
    refine ht_iret (D 11 rfl) rfl rfl ?_
    exact QA_t (by unfold aSoon; rw [if_neg hng])
  · skip
    have hq10 := b01_ne hb10
    rw [hPt.2.1.1] at hq10
    obtain ⟨j, hj, rfl⟩ := rng (by omega) hq10
    have hjc : (nI j).toNatClampNeg = j := nI_clamp (by omega)
    refine ht_iload_n (D 7 rfl) rfl rfl ?_
    refine kSX10_isSome (As := [_]) cl_X10_400 (D 8 rfl) (sm_isSome w) rfl (Nat.le_of_ble_eq_true rfl) rfl (Nat.le_of_ble_eq_true rfl) (by omega) ?_
    rintro rv σ1 ⟨rfl, rfl⟩
    refine ht_if_ne (tgt := 22) (D 9 rfl) (by decide) (fun hb17 => ?_) (fun hb17 => ?_)
    · skip
      have hw9 := b01_ne hb17
      obtain ⟨n, hn1, hn2, rfl⟩ := rngW (lo := 1) 240 (by decide) hw9 (by decide)
      have hnc : (nI n).toNatClampNeg = n := nI_clamp (by omega)
      refine ht_aload_n (D 12 rfl) rfl rfl ?_
      refine ht_iload_n (D 13 rfl) rfl rfl ?_
      refine kVX10_soons (As := [_]) cl_X10_403 (D 14 rfl) (sm_soons hM hPt (hW.dz (tz_dz V)) (hI.dz (tz_dz V)) (h := h) (by rw [tz_o V (show (33 : Nat) ≠ 0 by decide)]; exact hh) h31 (by rw [tz_o V (show (33 : Nat) ≠ 0 by decide)]; exact hmn) (n := n) hn1) hM.k0 rfl (Nat.le_of_ble_eq_true rfl) rfl (Nat.le_of_ble_eq_true rfl) (by omega) ?_
      rintro rv σ1 ⟨rfl, V2, rfl, hq2, hs2⟩
      refine ht_aload_n (D 15 rfl) rfl rfl ?_
      refine gf_X10_120 rfl (D 16 rfl) hM.k0 hM.q37 ?_
      refine ht_iload_n (D 17 rfl) rfl rfl ?_
      refine hm_ild (o := 37) (n := j) (by decide) (D 18 rfl) hM.k37 hM.n37 (by first | rfl | exact nI_add _ _ | assumption) (by omega) (by decide) ?_
      refine ht_iret (D 19 rfl) rfl rfl ?_
      exact ⟨by rw [hs2 j hj, so_dz (tz_dz V), tz_o V (show (33 : Nat) ≠ 0 by decide)]; unfold aSoon; rw [if_pos ⟨hq10, hw9⟩, hjc, hnc], V2, U, rfl, hq2.pz, by rw [hq2.2, tz_o V (show (33 : Nat) ≠ 0 by decide)]⟩
    · skip
      have hng : ¬ ((0 ≤ nI j ∧ nI j < nI dN) ∧ (1 ≤ w ∧ w ≤ 240)) := fun q => b01_eq hb17 q.2
      refine ht_iconst (v := -1) (D 10 rfl) (by decide) ?_
      refine ht_iret (D 11 rfl) rfl rfl ?_
      exact QA_t (by unfold aSoon; rw [if_neg hng])
end M11
