/-! ===== the reference: trials ===== -/
abbrev cpA (V : VT) : VT := cpR V 33 0 34 0 96
theorem cpR_o (V : VT) (o1 a o2 b k : Nat) {o : Nat} (h : o ≠ o2) : cpR V o1 a o2 b k o = V o := by
  funext i
  unfold cpR
  rw [if_neg (fun q => h q.1)]
theorem cpA_dz (V : VT) : Dz V (cpA (tz V)) := fun o h q _ => (cpR_o (tz V) 33 0 34 0 96 (show o ≠ 34 from fun e => q (by omega))).trans (tz_o V (by omega))
theorem cpA_o (V : VT) {o : Nat} (h : o ≠ 34) : cpA V o = V o := cpR_o V 33 0 34 0 96 h
theorem cpA_33 (V : VT) : cpA (tz V) 33 = V 33 := by rw [cpA_o (tz V) (by decide), tz_o V (by decide)]
theorem rst {V V1 : VT} (h : Dy (cpA (tz V)) V1) (hh : ∀ i, 96 ≤ i → V1 33 i = V 33 i) : cpR V1 34 0 33 0 96 33 = V 33 ∧ Pz V (cpR V1 34 0 33 0 96) := by
  have e34 : V1 34 = cpA (tz V) 34 := h 34 (by decide)
  refine ⟨?_, fun o h1 h2 h3 => ?_, ?_⟩
  · funext i
    show (if 33 = 33 ∧ 0 ≤ i ∧ i < 0 + 96 then V1 34 (0 + (i - 0)) else V1 33 i) = V 33 i
    by_cases c : i < 96
    · rw [if_pos ⟨rfl, by omega, by omega⟩, e34]
      show (if 34 = 34 ∧ 0 ≤ 0 + (i - 0) ∧ 0 + (i - 0) < 0 + 96 then tz V 33 (0 + (0 + (i - 0) - 0)) else tz V 34 (0 + (i - 0))) = V 33 i
      rw [if_pos ⟨rfl, by omega, by omega⟩, tz_o V (by decide)]
      congr 1
      omega
    · rw [if_neg (by omega)]
      exact hh i (by omega)
  · rw [cpR_o V1 34 0 33 0 96 (show o ≠ 33 from fun e => h2 (by omega)), h o (fun q => h2 (by omega)), cpA_o (tz V) (show o ≠ 34 from fun e => h2 (by omega)), tz_o V (by omega)]
  · rw [cpR_o V1 34 0 33 0 96 (show (0 : Nat) ≠ 33 by decide), h 0 (by decide), cpA_o (tz V) (show (0 : Nat) ≠ 34 by decide)]
    exact ⟨up2_k V 0 (by decide), up2_k V 0 (by decide)⟩
noncomputable def esF (V : VT) (gw : Option GWt) (gi : Option GIt) (dN mN gk : Nat) (S : ST) (h x t : Nat) : Nat → Int32
  | 0 => -1
  | r + 1 => if psI V gw gi dN mN gk S h t (68 + x) < 0 then nI t else esF V gw gi dN mN gk S h x (t + 1) r
theorem esF_n {V : VT} {gw : Option GWt} {gi : Option GIt} {dN mN gk : Nat} {S : ST} {h x t r : Nat} (hn : ¬ psI V gw gi dN mN gk S h t (68 + x) < 0) : esF V gw gi dN mN gk S h x t (r + 1) = esF V gw gi dN mN gk S h x (t + 1) r := by
  conv => lhs; unfold esF
  rw [if_neg hn]
theorem esF_y {V : VT} {gw : Option GWt} {gi : Option GIt} {dN mN gk : Nat} {S : ST} {h x t r : Nat} (hy : psI V gw gi dN mN gk S h t (68 + x) < 0) : esF V gw gi dN mN gk S h x t (r + 1) = nI t := by
  unfold esF
  rw [if_pos hy]
noncomputable def aEscape (V : VT) (gw : Option GWt) (gi : Option GIt) (dN mN gk h : Nat) (S : ST) (x w : Int32) : Int32 := (Classical.propDecidable (aHeld S mN x ∧ (1 ≤ w ∧ w ≤ 240))).casesOn (fun _ => -1) (fun _ => esF V gw gi dN mN gk S h x.toNatClampNeg 1 w.toNatClampNeg)
theorem aEscape_t {V : VT} {gw : Option GWt} {gi : Option GIt} {dN mN gk h : Nat} {S : ST} {x w : Int32} (hy : aHeld S mN x ∧ (1 ≤ w ∧ w ≤ 240)) : aEscape V gw gi dN mN gk h S x w = esF V gw gi dN mN gk S h x.toNatClampNeg 1 w.toNatClampNeg := by
  unfold aEscape
  cases Classical.propDecidable (aHeld S mN x ∧ (1 ≤ w ∧ w ≤ 240)) with
  | isTrue _ => rfl
  | isFalse hn => exact absurd hy hn
theorem aEscape_f {V : VT} {gw : Option GWt} {gi : Option GIt} {dN mN gk h : Nat} {S : ST} {x w : Int32} (hn : ¬ (aHeld S mN x ∧ (1 ≤ w ∧ w ≤ 240))) : aEscape V gw gi dN mN gk h S x w = -1 := by
  unfold aEscape
  cases Classical.propDecidable (aHeld S mN x ∧ (1 ≤ w ∧ w ≤ 240)) with
  | isTrue hy => exact absurd hy hn
  | isFalse _ => rfl
section M9
variable {G : GG} {σ : Hp} {m : Nat} {V : VT} {U : UT}
set_option maxRecDepth 100000 in
theorem sm_escape (hM : MS σ m) {cN dN mN gk : Nat} (hP : PL V cN dN mN gk) {gw : Option GWt} {gi : Option GIt} (hW : LnW V gw) (hI : LnI V gi) {h : Nat} (hh : V 33 80 = nI h) (h31 : h < 2 ^ 30) (hmn : Mn (V 33) cN mN) (x w : Int32) : Sp G mX10_escape 6 [.ref m, .int x, .int w] (sv σ m V U) (QA σ m V (aEscape V gw gi dN mN gk h (V 33) x w) (V 33)) := by
  have D := dat dl_X10_escape
  show HT G mX10_escape 0 [some (.ref m), some (.int x), some (.int w), none, none] [] (sv σ m V U) 6 _
  have hPt : PL (tz V) cN dN mN gk := hP.dz (tz_dz V)
  have hd10 : dN ≤ 10 := hP.2.1.2
  have hc8 : cN ≤ 8 := hP.1.2
  have hm6 : mN ≤ 6 := hP.2.2.1.2
  refine ht_aload_n (D 0 rfl) rfl rfl ?_
  refine ht_iconst (v := 0) (D 1 rfl) (by decide) ?_
  refine pm_X10_135 hM rfl (D 2 rfl) ?_
  show HT _ _ _ _ _ (sv σ m (tz V) U) _ _
  refine ht_aload_n (D 3 rfl) rfl rfl ?_
  refine ht_iload_n (D 4 rfl) rfl rfl ?_
  refine kVX10_isHeld (As := [_]) cl_X10_358 (D 5 rfl) (sm_isHeld hM hPt (by rw [tz_o V (show (33 : Nat) ≠ 0 by decide)]; exact hmn) x) hM.k0 rfl (Nat.le_of_ble_eq_true rfl) rfl (Nat.le_of_ble_eq_true rfl) (by omega) ?_
  rintro rv σ1 ⟨⟨yh, rfl, hyh⟩, rfl⟩
  rw [tz_o V (show (33 : Nat) ≠ 0 by decide)] at hyh
  refine ht_if_eq (tgt := 20) (D 6 rfl) (by decide) (fun hb10 => ?_) (fun hb10 => ?_)
  · skip
    have hng : ¬ (aHeld (V 33) mN x ∧ (1 ≤ w ∧ w ≤ 240)) := by
      rintro ⟨q, -⟩
      rcases hyh with h9 | h9
      · rw [h9.1] at hb10
        exact absurd hb10 (by decide)
      · exact h9.2 q
    refine ht_iconst (v := -1) (D 10 rfl) (by decide) ?_
    refine ht_iret (D 11 rfl) rfl rfl ?_
    rw [aEscape_f hng]
    exact QA_t rfl
  · skip
    have hy : aHeld (V 33) mN x := by
      rcases hyh with h9 | h9
      · exact h9.2
      · exact absurd h9.1 hb10
    obtain ⟨k, hk, hk2⟩ := rng (by omega) hy.1
    have hkc : x.toNatClampNeg = k := by rw [hk2, nI_clamp (by omega)]
    refine ht_iload_n (D 7 rfl) rfl rfl ?_
    refine kSX10_isSome (As := [_]) cl_X10_400 (D 8 rfl) (sm_isSome w) rfl (Nat.le_of_ble_eq_true rfl) rfl (Nat.le_of_ble_eq_true rfl) (by omega) ?_
    rintro rv σ1 ⟨rfl, rfl⟩
    refine ht_if_ne (tgt := 22) (D 9 rfl) (by decide) (fun hb17 => ?_) (fun hb17 => ?_)
    · skip
      have hw9 := b01_ne hb17
      obtain ⟨n, hn1, hn2, rfl⟩ := rngW (lo := 1) 240 (by decide) hw9 (by decide)
      have hnc : (nI n).toNatClampNeg = n := nI_clamp (by omega)
      refine ht_aload_n (D 12 rfl) rfl rfl ?_
      refine gf_X10_108 rfl (D 13 rfl) hM.k0 hM.q33 ?_
      refine ht_iconst (v := 0) (D 14 rfl) (by decide) ?_
      refine ht_aload_n (D 15 rfl) rfl rfl ?_
      refine gf_X10_111 rfl (D 16 rfl) hM.k0 hM.q34 ?_
      refine ht_iconst (v := 0) (D 17 rfl) (by decide) ?_
      refine kSX10_copies (As := [_, _, _, _]) cl_X10_396 (D 18 rfl) (sm_copies_33_34 hM (a := 0) (b := 0) (by decide) (by decide)) rfl (Nat.le_of_ble_eq_true rfl) rfl (Nat.le_of_ble_eq_true rfl) (by omega) ?_
      rintro rv σ1 ⟨rfl, rfl⟩
      refine ht_iconst (v := -1) (D 19 rfl) (by decide) ?_
      refine ht_istore_n (D 20 rfl) rfl (by decide) rfl ?_
      refine ht_iconst (v := 1) (D 21 rfl) (by decide) ?_
      refine ht_istore (D 22 rfl) (by decide) rfl ?_
      have ex80 : ∀ (V1 : VT) (j : Nat) (nr t : Int32), Dy (cpA (tz V)) V1 → V1 33 = psI V gw gi dN mN gk (V 33) h j → nr = aEscape V gw gi dN mN gk h (V 33) x (nI n) → HT G mX10_escape 80 [some (.ref m), some (.int x), some (.int (nI n)), some (.int nr), some (.int t)] [] (sv σ m V1 U) 6 (QA σ m V (aEscape V gw gi dN mN gk h (V 33) x (nI n)) (V 33)) := by
        intro V1 j nr t hdy h33 hnr
        refine ht_aload_n (D 44 rfl) rfl rfl ?_
        refine gf_X10_111 rfl (D 45 rfl) hM.k0 hM.q34 ?_
        refine ht_iconst (v := 0) (D 46 rfl) (by decide) ?_
        refine ht_aload_n (D 47 rfl) rfl rfl ?_
        refine gf_X10_108 rfl (D 48 rfl) hM.k0 hM.q33 ?_
        refine ht_iconst (v := 0) (D 49 rfl) (by decide) ?_
        refine kSX10_copies (As := [_, _, _, _]) cl_X10_396 (D 50 rfl) (sm_copies_34_33 hM (a := 0) (b := 0) (by decide) (by decide)) rfl (Nat.le_of_ble_eq_true rfl) rfl (Nat.le_of_ble_eq_true rfl) (by omega) ?_
        rintro rv σ1 ⟨rfl, rfl⟩
        refine ht_iload_n (D 51 rfl) rfl rfl ?_
        refine ht_iret (D 52 rfl) rfl rfl ?_
        obtain ⟨r1, r2⟩ := rst hdy (fun i hi => by rw [h33]; exact psI_hi hP gw gi h (V 33) j (by omega))
        exact ⟨by rw [hnr], _, U, rfl, r2, r1⟩
      have fd : ∀ (V1 : VT) (j t0 : Nat), t0 < 1000 → Dy (cpA (tz V)) V1 → V1 33 = psI V gw gi dN mN gk (V 33) h j → nI t0 = aEscape V gw gi dN mN gk h (V 33) x (nI n) → HT G mX10_escape 40 [some (.ref m), some (.int x), some (.int (nI n)), some (.int (nI t0)), some (.int (nI (t0 + 1)))] [] (sv σ m V1 U) 6 (QA σ m V (aEscape V gw gi dN mN gk h (V 33) x (nI n)) (V 33)) := by
        intro V1 j t0 ht0 hdy h33 hnr
        refine ht_iload (D 23 rfl) rfl ?_
        refine ht_iload_n (D 24 rfl) rfl rfl ?_
        refine ht_icmp_gt (tgt := 80) (D 25 rfl) (by decide) (fun hb43 => ?_) (fun hb43 => ?_)
        · skip
          exact ex80 V1 j _ _ hdy h33 hnr
        · skip
          refine ht_iload_n (D 26 rfl) rfl rfl ?_
          refine ht_if_ge (tgt := 80) (D 27 rfl) (by decide) (fun hb47 => ?_) (fun hb47 => ?_)
          · skip
            exact ex80 V1 j _ _ hdy h33 hnr
          · skip
            exact absurd (nI_pos' (show t0 < 2 ^ 31 by omega)) hb47
      have loop : ∀ (r j : Nat) (V1 : VT), j + r = n → Dy (cpA (tz V)) V1 → V1 33 = psI V gw gi dN mN gk (V 33) h j → esF V gw gi dN mN gk (V 33) h k (j + 1) r = aEscape V gw gi dN mN gk h (V 33) x (nI n) → HT G mX10_escape 40 [some (.ref m), some (.int x), some (.int (nI n)), some (.int (-1)), some (.int (nI (j + 1)))] [] (sv σ m V1 U) 6 (QA σ m V (aEscape V gw gi dN mN gk h (V 33) x (nI n)) (V 33)) := by
        intro r
        induction r using Nat.strongRecOn with
        | _ r ih =>
          intro j V1 hj hdy h33 hes
          refine ht_iload (D 23 rfl) rfl ?_
          refine ht_iload_n (D 24 rfl) rfl rfl ?_
          refine ht_icmp_gt (tgt := 80) (D 25 rfl) (by decide) (fun hb43 => ?_) (fun hb43 => ?_)
          · skip
            have hr0 : r = 0 := by have h9 := (nI_ltI (a := n) (b := j + 1) (by omega) (by omega)).mp hb43; omega
            subst hr0
            exact ex80 V1 j _ _ hdy h33 (by rw [← hes]; rfl)
          · skip
            obtain ⟨r2, rfl⟩ : ∃ r2, r = r2 + 1 := ⟨r - 1, by have h9 := mt (nI_ltI (a := n) (b := j + 1) (by omega) (by omega)).mpr hb43; omega⟩
            refine ht_iload_n (D 26 rfl) rfl rfl ?_
            refine ht_if_ge (tgt := 80) (D 27 rfl) (by decide) (fun hb47 => ?_) (fun hb47 => ?_)
            · skip
              exact absurd hb47 (by decide)
            · skip
              refine ht_aload_n (D 28 rfl) rfl rfl ?_
              refine ht_iconst (v := 0) (D 29 rfl) (by decide) ?_
              refine kVX10_passes (As := [_]) cl_X10_393 (D 30 rfl) (sm_passes hM ((hP.dz (cpA_dz V)).dy hdy) ((hW.dz (cpA_dz V)).dy hdy) ((hI.dz (cpA_dz V)).dy hdy) (h := h + j) (by rw [h33]; exact psI_80 V gw gi dN mN gk hh j) (by omega) (by rw [h33]; exact psI_mn hP gw gi h hmn j) 0) hM.k0 rfl (Nat.le_of_ble_eq_true rfl) rfl (Nat.le_of_ble_eq_true rfl) (by omega) ?_
              rintro rv σ1 ⟨rfl, V2, rfl, hd2, h332⟩
              rw [h33, psS_dz ((cpA_dz V).tr hdy.dz)] at h332
              have h333 : V2 33 = psI V gw gi dN mN gk (V 33) h (j + 1) := h332
              have hdy2 := hdy.tr hd2
              refine ht_aload_n (D 31 rfl) rfl rfl ?_
              refine gf_X10_108 rfl (D 32 rfl) hM.k0 hM.q33 ?_
              refine ht_bipush (v := 68) (D 33 rfl) (by decide) ?_
              refine ht_iload_n (D 34 rfl) rfl rfl ?_
              refine ht_iadd (D 35 rfl) ?_
              refine hm_ild (o := 33) (n := 68 + k) (by decide) (D 36 rfl) hM.k33 hM.n33 (by rw [hk2]; exact nI_add 68 k) (by omega) (by decide) ?_
              refine ht_if_ge (tgt := 72) (D 37 rfl) (by decide) (fun hb64 => ?_) (fun hb64 => ?_)
              · skip
                rw [h333] at hb64
                refine ht_iload_n (D 40 rfl) rfl rfl ?_
                refine ht_istore_n (D 41 rfl) rfl (by decide) rfl ?_
                refine ht_iinc (v := nI ((j + 1) + 1)) (D 42 rfl) rfl (nI_i1 _) (by decide) rfl ?_
                refine ht_goto (tgt := 40) (D 43 rfl) (by decide) ?_
                first | exact ih r2 (by omega) (j + 1) V2 (by omega) hdy2 h333 (by rw [← hes, esF_n (by simp only [i_lt, i_le] at hb64 ⊢; omega)]) | exact fd V2 (j + 1) (j + 1) (by omega) hdy2 h333 (by rw [← hes, esF_y (by simp only [i_lt, i_le] at hb64 ⊢; omega)])
              · skip
                rw [h333] at hb64
                refine ht_iload (D 38 rfl) rfl ?_
                refine ht_goto (tgt := 73) (D 39 rfl) (by decide) ?_
                refine ht_istore_n (D 41 rfl) rfl (by decide) rfl ?_
                refine ht_iinc (v := nI ((j + 1) + 1)) (D 42 rfl) rfl (nI_i1 _) (by decide) rfl ?_
                refine ht_goto (tgt := 40) (D 43 rfl) (by decide) ?_
                first | exact ih r2 (by omega) (j + 1) V2 (by omega) hdy2 h333 (by rw [← hes, esF_n (by simp only [i_lt, i_le] at hb64 ⊢; omega)]) | exact fd V2 (j + 1) (j + 1) (by omega) hdy2 h333 (by rw [← hes, esF_y (by simp only [i_lt, i_le] at hb64 ⊢; omega)])
      exact ht_cast (loop n 0 (cpA (tz V)) (by omega) (Dy.rf _) (cpA_33 V) (by rw [aEscape_t ⟨hy, hw9⟩, hkc, hnc])) rfl rfl rfl
    · skip
      have hng : ¬ (aHeld (V 33) mN x ∧ (1 ≤ w ∧ w ≤ 240)) := fun q => b01_eq hb17 q.2
      refine ht_iconst (v := -1) (D 10 rfl) (by decide) ?_
      refine ht_iret (D 11 rfl) rfl rfl ?_
      rw [aEscape_f hng]
      exact QA_t rfl
end M9
