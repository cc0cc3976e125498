/-! ===== the law: man and degrees, their helpers supposed ===== -/
section V2
variable {G : GG} {τ : Hp} {ρ : Nat → Nat} {T : ST} {n xo b k h S9 Ls scr DD : Nat} {s : TD} {xs : Nat → Int32} {l5 l6 : Option Value} {Q : Option Value → Hp → Prop}
/-- a heap that has grown by cells of which nothing is known -/
def gro (τ : Hp) (c g : Nat) : Hp := (zK τ, zN τ, zI τ, zJ τ, zQ τ, zX τ + c, zS τ + g)
theorem gro_cf (τ : Hp) (xo b : Nat) {c g : Nat} (hc : c ≤ 22) (hg : g ≤ 3201) : CFr τ xo b (gro τ c g) := ⟨Nat.le_add_right _ _, Nat.add_le_add_left hc _, Nat.add_le_add_left hg _, fun p hp => ⟨rfl, rfl, fun _ => rfl, fun _ _ => rfl, fun _ => rfl⟩⟩
theorem wJ_cf {τ σ1 : Hp} {xo b : Nat} (h : CFr τ xo b σ1) (a i : Nat) (x : Int64) : CFr τ xo b (wJ σ1 a i x) := h
/-- how a helper of the law ends: with the answer laid in the row, or with a throw caught -/
def QLh (τ : Hp) (xo b dN : Nat) (ok : Prop) (v : Int32) : Option Value → Hp → Prop := fun rv σ' => (ok ∧ rv = some (.int 0) ∧ ∃ σ1, CFr τ xo b σ1 ∧ nv dN (zI σ1) (xo + 14) = nv dN (zI τ) (xo + 14) ∧ zI σ1 (xo + 14) 2 = -1 ∧ σ' = wJ σ1 (xo + 94) 0 v.toInt64) ∨ (¬ ok ∧ rv = some (.int 1) ∧ ∃ c g, c ≤ 22 ∧ g ≤ 3201 ∧ σ' = gro τ c g)
set_option maxRecDepth 100000 in
theorem lw_man (hL : LIc xo S9 k τ ρ b s T n h) (hk : k ≤ 600) (hSc : ∀ U, gE G U → bArr G .int Ls (fun j => .int (xs j)) scr U) (hLs : Ls ≤ 3584) (hk7 : 7 * k + 7 ≤ Ls) (hDD : 46 ≤ DD) (hcall : ∀ (L : List (Option Value)), (∀ v σ', QLh τ xo b (tdC s 1) (aManOk (tdC s 2) (xs (7 * k + 1)) (xs (7 * k + 2))) (aManV (vV τ (xo + 52)) (vV τ (xo + 52) 33) (xs (7 * k + 1)) (xs (7 * k + 2))) v σ' → HT G mL_law 403 L v.toList σ' DD Q) → HT G mL_law 400 L [.ref (xo + 94), .int (xs (7 * k + 2)), .int (xs (7 * k + 1)), .ref xo] τ DD Q) (kk : ∀ (τ2 : Hp) (l5 l6 : Option Value), LI xo S9 (k + 1) τ2 → HT G mL_law 1144 [some (.ref scr), some (.ref xo), some (.ref (xo + 52)), some (.ref (xo + 94)), some (.int (nI (7 * k))), l5, l6] [] τ2 DD Q) : HT G mL_law 386 [some (.ref scr), some (.ref xo), some (.ref (xo + 52)), some (.ref (xo + 94)), some (.int (nI (7 * k))), l5, l6] [] τ DD Q := by
  have D4 := dat dl_L_law_4
  have D5 := dat dl_L_law_5
  have hX := hL.1.1
  have hP := hL.px.1
  have hS := hL.si
  have hhr := hS.2.2.2.2.1
  have h31 : h < 2 ^ 30 := by have := hS.2.2.2.2.2; omega
  refine ht_aload_n (D4 35 rfl) rfl rfl ?_
  refine ht_aload_n (D4 36 rfl) rfl rfl ?_
  refine ht_iload (D4 37 rfl) rfl ?_
  refine ht_iconst (v := 1) (D4 38 rfl) (by decide) ?_
  refine ht_iadd (D4 39 rfl) ?_
  refine ht_ialdB (j := ((7 * k) + 1)) hSc (by first | rfl | exact nI_add _ _) (by omega) (by omega) (D5 0 rfl) ?_
  refine ht_aload_n (D5 1 rfl) rfl rfl ?_
  refine ht_iload (D5 2 rfl) rfl ?_
  refine ht_iconst (v := 2) (D5 3 rfl) (by decide) ?_
  refine ht_iadd (D5 4 rfl) ?_
  refine ht_ialdB (j := ((7 * k) + 2)) hSc (by first | rfl | exact nI_add _ _) (by omega) (by omega) (D5 5 rfl) ?_
  refine ht_aload_n (D5 6 rfl) rfl rfl ?_
  refine hcall _ ?_
  rintro _ _ (⟨hok, rfl, σ1, hc1, hn1, hb1, rfl⟩ | ⟨hok, rfl, c9, g9, hc9, hg9, rfl⟩)
  · skip
    have hcf := wJ_cf hc1 (xo + 94) 0 (aManV (vV τ (xo + 52)) (vV τ (xo + 52) 33) (xs (7 * k + 1)) (xs (7 * k + 2))).toInt64
    have hmid := li_mid hL hcf
    have hM1 := hmid.1
    have hk9 : zK (wJ σ1 (xo + 94) 0 (aManV (vV τ (xo + 52)) (vV τ (xo + 52) 33) (xs (7 * k + 1)) (xs (7 * k + 2))).toInt64) (xo + 52) = 9 := hM1.1
    have hsm := sm_man (G := G) (V := vV τ (xo + 52)) (U := vU (wJ σ1 (xo + 94) 0 (aManV (vV τ (xo + 52)) (vV τ (xo + 52) 33) (xs (7 * k + 1)) (xs (7 * k + 2))).toInt64) (xo + 52)) hM1 hP (xs (7 * k + 1)) (xs (7 * k + 2))
    rw [hmid.2] at hsm
    refine ht_istore (D5 8 rfl) (by decide) rfl ?_
    refine ht_aload_n (D5 9 rfl) rfl rfl ?_
    refine ht_aload_n (D5 10 rfl) rfl rfl ?_
    refine ht_iload (D5 11 rfl) rfl ?_
    refine ht_iconst (v := 1) (D5 12 rfl) (by decide) ?_
    refine ht_iadd (D5 13 rfl) ?_
    refine ht_ialdB (j := ((7 * k) + 1)) hSc (by first | rfl | exact nI_add _ _) (by omega) (by omega) (D5 14 rfl) ?_
    refine ht_aload_n (D5 15 rfl) rfl rfl ?_
    refine ht_iload (D5 16 rfl) rfl ?_
    refine ht_iconst (v := 2) (D5 17 rfl) (by decide) ?_
    refine ht_iadd (D5 18 rfl) ?_
    refine ht_ialdB (j := ((7 * k) + 2)) hSc (by first | rfl | exact nI_add _ _) (by omega) (by omega) (D5 19 rfl) ?_
    refine kVX10_man (As := [_, _]) cl_L_48 (D5 20 rfl) hsm hk9 rfl (Nat.le_of_ble_eq_true rfl) rfl (Nat.le_of_ble_eq_true rfl) (by omega) ?_
    rintro _ _ (⟨hq9, rfl, V9, U9, rfl, hPz, h33, hth⟩ | ⟨hq9, rfl, V9, U9, rfl, hPz, h33, hth⟩)
    · skip
      have hLI := li_fin (U' := U9) hL (hS.up (by omega)) hcf (hn1.trans hL.nv) hb1 hPz h33
      have hkA : zK (sv (wJ σ1 (xo + 94) 0 (aManV (vV τ (xo + 52)) (vV τ (xo + 52) 33) (xs (7 * k + 1)) (xs (7 * k + 2))).toInt64) (xo + 52) V9 U9) (xo + 52) = 9 := hM1.1
      have hko : zK (sv (wJ σ1 (xo + 94) 0 (aManV (vV τ (xo + 52)) (vV τ (xo + 52) 33) (xs (7 * k + 1)) (xs (7 * k + 2))).toInt64) (xo + 52) V9 U9) (xo + 94) = 21 := (hcf.2.2.2 (xo + 94) (by have := hL.1.2.2.2.2.1; omega)).1.trans hL.1.2.2.2.1.1
      have hno : zN (sv (wJ σ1 (xo + 94) 0 (aManV (vV τ (xo + 52)) (vV τ (xo + 52) 33) (xs (7 * k + 1)) (xs (7 * k + 2))).toInt64) (xo + 52) V9 U9) (xo + 94) = 1 := (hcf.2.2.2 (xo + 94) (by have := hL.1.2.2.2.2.1; omega)).2.1.trans hL.1.2.2.2.1.2
      have hjo : zJ (sv (wJ σ1 (xo + 94) 0 (aManV (vV τ (xo + 52)) (vV τ (xo + 52) 33) (xs (7 * k + 1)) (xs (7 * k + 2))).toInt64) (xo + 52) V9 U9) (xo + 94) 0 = (aManV (vV τ (xo + 52)) (vV τ (xo + 52) 33) (xs (7 * k + 1)) (xs (7 * k + 2))).toInt64 := (congrFun (sv_out _ _ V9 U9 (Or.inr (by omega))).2 0).trans (zJ_s _ _ _ _)
      refine ht_istore (D5 21 rfl) (by decide) rfl ?_
      refine ht_aload_n (D5 22 rfl) rfl rfl ?_
      refine kVX10_thrown (As := []) cl_L_49 (D5 23 rfl) (sm_thrown hM1) hkA rfl (Nat.le_of_ble_eq_true rfl) rfl (Nat.le_of_ble_eq_true rfl) (by omega) ?_
      rintro _ _ ⟨rfl, rfl⟩
      rw [hth]
      refine ht_iload (D5 24 rfl) rfl ?_
      refine ht_icmp_eq (tgt := 434) (D5 25 rfl) (by decide) (fun hb429 => ?_) (fun hb429 => ?_)
      · skip
        refine ht_iload (D5 28 rfl) rfl ?_
        refine ht_if_ne (tgt := 451) (D5 29 rfl) (by decide) (fun hb436 => absurd (by decide) hb436) (fun hb436 => ?_)
        refine ht_aload_n (D5 30 rfl) rfl rfl ?_
        refine ht_iconst (v := 0) (D5 31 rfl) (by decide) ?_
        refine ht_lld (n := 0) (D5 32 rfl) hko hno (by first | rfl | exact nI_add _ _ | assumption) (by omega) (by first | decide | omega) ?_
        refine ht_iload (D5 33 rfl) rfl ?_
        refine ht_i2l (D5 34 rfl) ?_
        rw [hjo]
        refine ht_lcmp (D5 35 rfl) ?_
        refine ht_if_eq (tgt := 451) (D5 36 rfl) (by decide) (fun hb446 => ?_) (fun hb446 => ?_)
        · skip
          refine ht_goto (tgt := 1144) (D5 39 rfl) (by decide) ?_
          exact ht_cast (kk _ _ _ hLI) rfl rfl rfl
        · skip
          exact absurd ((lg_cmp_eq _ _).mpr rfl) hb446
      · skip
        exact absurd rfl hb429
    · exact absurd hok hq9
  · skip
    have hcf := gro_cf τ xo b hc9 hg9
    have hmid := li_mid hL hcf
    have hM1 := hmid.1
    have hk9 : zK (gro τ c9 g9) (xo + 52) = 9 := hM1.1
    have hsm := sm_man (G := G) (V := vV τ (xo + 52)) (U := vU (gro τ c9 g9) (xo + 52)) hM1 hP (xs (7 * k + 1)) (xs (7 * k + 2))
    rw [hmid.2] at hsm
    refine ht_istore (D5 8 rfl) (by decide) rfl ?_
    refine ht_aload_n (D5 9 rfl) rfl rfl ?_
    refine ht_aload_n (D5 10 rfl) rfl rfl ?_
    refine ht_iload (D5 11 rfl) rfl ?_
    refine ht_iconst (v := 1) (D5 12 rfl) (by decide) ?_
    refine ht_iadd (D5 13 rfl) ?_
    refine ht_ialdB (j := ((7 * k) + 1)) hSc (by first | rfl | exact nI_add _ _) (by omega) (by omega) (D5 14 rfl) ?_
    refine ht_aload_n (D5 15 rfl) rfl rfl ?_
    refine ht_iload (D5 16 rfl) rfl ?_
    refine ht_iconst (v := 2) (D5 17 rfl) (by decide) ?_
    refine ht_iadd (D5 18 rfl) ?_
    refine ht_ialdB (j := ((7 * k) + 2)) hSc (by first | rfl | exact nI_add _ _) (by omega) (by omega) (D5 19 rfl) ?_
    refine kVX10_man (As := [_, _]) cl_L_48 (D5 20 rfl) hsm hk9 rfl (Nat.le_of_ble_eq_true rfl) rfl (Nat.le_of_ble_eq_true rfl) (by omega) ?_
    rintro _ _ (⟨hq9, rfl, V9, U9, rfl, hPz, h33, hth⟩ | ⟨hq9, rfl, V9, U9, rfl, hPz, h33, hth⟩)
    · exact absurd hq9 hok
    · skip
      have hLI := li_fin (U' := U9) hL (hS.up (by omega)) hcf hL.nv hL.bar hPz h33
      have hkA : zK (sv (gro τ c9 g9) (xo + 52) V9 U9) (xo + 52) = 9 := hM1.1
      have hko : zK (sv (gro τ c9 g9) (xo + 52) V9 U9) (xo + 94) = 21 := (hcf.2.2.2 (xo + 94) (by have := hL.1.2.2.2.2.1; omega)).1.trans hL.1.2.2.2.1.1
      have hno : zN (sv (gro τ c9 g9) (xo + 52) V9 U9) (xo + 94) = 1 := (hcf.2.2.2 (xo + 94) (by have := hL.1.2.2.2.2.1; omega)).2.1.trans hL.1.2.2.2.1.2
      refine ht_istore (D5 21 rfl) (by decide) rfl ?_
      refine ht_aload_n (D5 22 rfl) rfl rfl ?_
      refine kVX10_thrown (As := []) cl_L_49 (D5 23 rfl) (sm_thrown hM1) hkA rfl (Nat.le_of_ble_eq_true rfl) rfl (Nat.le_of_ble_eq_true rfl) (by omega) ?_
      rintro _ _ ⟨rfl, rfl⟩
      rw [hth]
      refine ht_iload (D5 24 rfl) rfl ?_
      refine ht_icmp_eq (tgt := 434) (D5 25 rfl) (by decide) (fun hb429 => ?_) (fun hb429 => ?_)
      · skip
        refine ht_iload (D5 28 rfl) rfl ?_
        refine ht_if_ne (tgt := 451) (D5 29 rfl) (by decide) (fun hb436 => ?_) (fun hb436 => absurd hb436 (by decide))
        refine ht_goto (tgt := 1144) (D5 39 rfl) (by decide) ?_
        exact ht_cast (kk _ _ _ hLI) rfl rfl rfl
      · skip
        exact absurd rfl hb429
set_option maxRecDepth 100000 in
theorem lw_degrees (hL : LIc xo S9 k τ ρ b s T n h) (hk : k ≤ 600) (hSc : ∀ U, gE G U → bArr G .int Ls (fun j => .int (xs j)) scr U) (hLs : Ls ≤ 3584) (hk7 : 7 * k + 7 ≤ Ls) (hDD : 46 ≤ DD) (hcall : ∀ (L : List (Option Value)), (∀ v σ', QLh τ xo b (tdC s 1) (0 ≤ xs (7 * k + 1) ∧ xs (7 * k + 1) ≤ 9999) (dgF (gwO s) (h + (xs (7 * k + 1)).toNatClampNeg) 0) v σ' → HT G mL_law 465 L v.toList σ' DD Q) → HT G mL_law 462 L [.ref (xo + 94), .int (xs (7 * k + 1)), .ref xo] τ DD Q) (kk : ∀ (τ2 : Hp) (l5 l6 : Option Value), LI xo S9 (k + 1) τ2 → HT G mL_law 1144 [some (.ref scr), some (.ref xo), some (.ref (xo + 52)), some (.ref (xo + 94)), some (.int (nI (7 * k))), l5, l6] [] τ2 DD Q) : HT G mL_law 454 [some (.ref scr), some (.ref xo), some (.ref (xo + 52)), some (.ref (xo + 94)), some (.int (nI (7 * k))), l5, l6] [] τ DD Q := by
  have D6 := dat dl_L_law_6
  have hX := hL.1.1
  have hP := hL.px.1
  have hS := hL.si
  have hhr := hS.2.2.2.2.1
  have h31 : h < 2 ^ 30 := by have := hS.2.2.2.2.2; omega
  refine ht_aload_n (D6 0 rfl) rfl rfl ?_
  refine ht_aload_n (D6 1 rfl) rfl rfl ?_
  refine ht_iload (D6 2 rfl) rfl ?_
  refine ht_iconst (v := 1) (D6 3 rfl) (by decide) ?_
  refine ht_iadd (D6 4 rfl) ?_
  refine ht_ialdB (j := ((7 * k) + 1)) hSc (by first | rfl | exact nI_add _ _) (by omega) (by omega) (D6 5 rfl) ?_
  refine ht_aload_n (D6 6 rfl) rfl rfl ?_
  refine hcall _ ?_
  rintro _ _ (⟨hok, rfl, σ1, hc1, hn1, hb1, rfl⟩ | ⟨hok, rfl, c9, g9, hc9, hg9, rfl⟩)
  · skip
    have hcf := wJ_cf hc1 (xo + 94) 0 (dgF (gwO s) (h + (xs (7 * k + 1)).toNatClampNeg) 0).toInt64
    have hmid := li_mid hL hcf
    have hM1 := hmid.1
    have hk9 : zK (wJ σ1 (xo + 94) 0 (dgF (gwO s) (h + (xs (7 * k + 1)).toNatClampNeg) 0).toInt64) (xo + 52) = 9 := hM1.1
    have hsm := sm_degrees (G := G) (V := vV τ (xo + 52)) (U := vU (wJ σ1 (xo + 94) 0 (dgF (gwO s) (h + (xs (7 * k + 1)).toNatClampNeg) 0).toInt64) (xo + 52)) hM1 hL.lnw hhr h31 (xs (7 * k + 1))
    rw [hmid.2] at hsm
    refine ht_istore (D6 8 rfl) (by decide) rfl ?_
    refine ht_aload_n (D6 9 rfl) rfl rfl ?_
    refine ht_aload_n (D6 10 rfl) rfl rfl ?_
    refine ht_iload (D6 11 rfl) rfl ?_
    refine ht_iconst (v := 1) (D6 12 rfl) (by decide) ?_
    refine ht_iadd (D6 13 rfl) ?_
    refine ht_ialdB (j := ((7 * k) + 1)) hSc (by first | rfl | exact nI_add _ _) (by omega) (by omega) (D6 14 rfl) ?_
    refine kVX10_degrees (As := [_]) cl_L_55 (D6 15 rfl) hsm hk9 rfl (Nat.le_of_ble_eq_true rfl) rfl (Nat.le_of_ble_eq_true rfl) (by omega) ?_
    rintro _ _ (⟨hq9, rfl, V9, U9, rfl, hPz, h33, hth⟩ | ⟨hq9, rfl, V9, U9, rfl, hPz, h33, hth⟩)
    · skip
      have hLI := li_fin (U' := U9) hL (hS.up (by omega)) hcf (hn1.trans hL.nv) hb1 hPz h33
      have hkA : zK (sv (wJ σ1 (xo + 94) 0 (dgF (gwO s) (h + (xs (7 * k + 1)).toNatClampNeg) 0).toInt64) (xo + 52) V9 U9) (xo + 52) = 9 := hM1.1
      have hko : zK (sv (wJ σ1 (xo + 94) 0 (dgF (gwO s) (h + (xs (7 * k + 1)).toNatClampNeg) 0).toInt64) (xo + 52) V9 U9) (xo + 94) = 21 := (hcf.2.2.2 (xo + 94) (by have := hL.1.2.2.2.2.1; omega)).1.trans hL.1.2.2.2.1.1
      have hno : zN (sv (wJ σ1 (xo + 94) 0 (dgF (gwO s) (h + (xs (7 * k + 1)).toNatClampNeg) 0).toInt64) (xo + 52) V9 U9) (xo + 94) = 1 := (hcf.2.2.2 (xo + 94) (by have := hL.1.2.2.2.2.1; omega)).2.1.trans hL.1.2.2.2.1.2
      have hjo : zJ (sv (wJ σ1 (xo + 94) 0 (dgF (gwO s) (h + (xs (7 * k + 1)).toNatClampNeg) 0).toInt64) (xo + 52) V9 U9) (xo + 94) 0 = (dgF (gwO s) (h + (xs (7 * k + 1)).toNatClampNeg) 0).toInt64 := (congrFun (sv_out _ _ V9 U9 (Or.inr (by omega))).2 0).trans (zJ_s _ _ _ _)
      refine ht_istore (D6 16 rfl) (by decide) rfl ?_
      refine ht_aload_n (D6 17 rfl) rfl rfl ?_
      refine kVX10_thrown (As := []) cl_L_49 (D6 18 rfl) (sm_thrown hM1) hkA rfl (Nat.le_of_ble_eq_true rfl) rfl (Nat.le_of_ble_eq_true rfl) (by omega) ?_
      rintro _ _ ⟨rfl, rfl⟩
      rw [hth]
      refine ht_iload (D6 19 rfl) rfl ?_
      refine ht_icmp_eq (tgt := 490) (D6 20 rfl) (by decide) (fun hb485 => ?_) (fun hb485 => ?_)
      · skip
        refine ht_iload (D6 23 rfl) rfl ?_
        refine ht_if_ne (tgt := 507) (D6 24 rfl) (by decide) (fun hb492 => absurd (by decide) hb492) (fun hb492 => ?_)
        refine ht_aload_n (D6 25 rfl) rfl rfl ?_
        refine ht_iconst (v := 0) (D6 26 rfl) (by decide) ?_
        refine ht_lld (n := 0) (D6 27 rfl) hko hno (by first | rfl | exact nI_add _ _ | assumption) (by omega) (by first | decide | omega) ?_
        refine ht_iload (D6 28 rfl) rfl ?_
        refine ht_i2l (D6 29 rfl) ?_
        rw [hjo]
        refine ht_lcmp (D6 30 rfl) ?_
        refine ht_if_eq (tgt := 507) (D6 31 rfl) (by decide) (fun hb502 => ?_) (fun hb502 => ?_)
        · skip
          refine ht_goto (tgt := 1144) (D6 34 rfl) (by decide) ?_
          exact ht_cast (kk _ _ _ hLI) rfl rfl rfl
        · skip
          exact absurd ((lg_cmp_eq _ _).mpr rfl) hb502
      · skip
        exact absurd rfl hb485
    · exact absurd hok hq9
  · skip
    have hcf := gro_cf τ xo b hc9 hg9
    have hmid := li_mid hL hcf
    have hM1 := hmid.1
    have hk9 : zK (gro τ c9 g9) (xo + 52) = 9 := hM1.1
    have hsm := sm_degrees (G := G) (V := vV τ (xo + 52)) (U := vU (gro τ c9 g9) (xo + 52)) hM1 hL.lnw hhr h31 (xs (7 * k + 1))
    rw [hmid.2] at hsm
    refine ht_istore (D6 8 rfl) (by decide) rfl ?_
    refine ht_aload_n (D6 9 rfl) rfl rfl ?_
    refine ht_aload_n (D6 10 rfl) rfl rfl ?_
    refine ht_iload (D6 11 rfl) rfl ?_
    refine ht_iconst (v := 1) (D6 12 rfl) (by decide) ?_
    refine ht_iadd (D6 13 rfl) ?_
    refine ht_ialdB (j := ((7 * k) + 1)) hSc (by first | rfl | exact nI_add _ _) (by omega) (by omega) (D6 14 rfl) ?_
    refine kVX10_degrees (As := [_]) cl_L_55 (D6 15 rfl) hsm hk9 rfl (Nat.le_of_ble_eq_true rfl) rfl (Nat.le_of_ble_eq_true rfl) (by omega) ?_
    rintro _ _ (⟨hq9, rfl, V9, U9, rfl, hPz, h33, hth⟩ | ⟨hq9, rfl, V9, U9, rfl, hPz, h33, hth⟩)
    · exact absurd hq9 hok
    · skip
      have hLI := li_fin (U' := U9) hL (hS.up (by omega)) hcf hL.nv hL.bar hPz h33
      have hkA : zK (sv (gro τ c9 g9) (xo + 52) V9 U9) (xo + 52) = 9 := hM1.1
      have hko : zK (sv (gro τ c9 g9) (xo + 52) V9 U9) (xo + 94) = 21 := (hcf.2.2.2 (xo + 94) (by have := hL.1.2.2.2.2.1; omega)).1.trans hL.1.2.2.2.1.1
      have hno : zN (sv (gro τ c9 g9) (xo + 52) V9 U9) (xo + 94) = 1 := (hcf.2.2.2 (xo + 94) (by have := hL.1.2.2.2.2.1; omega)).2.1.trans hL.1.2.2.2.1.2
      refine ht_istore (D6 16 rfl) (by decide) rfl ?_
      refine ht_aload_n (D6 17 rfl) rfl rfl ?_
      refine kVX10_thrown (As := []) cl_L_49 (D6 18 rfl) (sm_thrown hM1) hkA rfl (Nat.le_of_ble_eq_true rfl) rfl (Nat.le_of_ble_eq_true rfl) (by omega) ?_
      rintro _ _ ⟨rfl, rfl⟩
      rw [hth]
      refine ht_iload (D6 19 rfl) rfl ?_
      refine ht_icmp_eq (tgt := 490) (D6 20 rfl) (by decide) (fun hb485 => ?_) (fun hb485 => ?_)
      · skip
        refine ht_iload (D6 23 rfl) rfl ?_
        refine ht_if_ne (tgt := 507) (D6 24 rfl) (by decide) (fun hb492 => ?_) (fun hb492 => absurd hb492 (by decide))
        refine ht_goto (tgt := 1144) (D6 34 rfl) (by decide) ?_
        exact ht_cast (kk _ _ _ hLI) rfl rfl rfl
      · skip
        exact absurd rfl hb485
end V2
