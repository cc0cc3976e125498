/-! ===== the law: one call each ===== -/
abbrev mL_law : MI := (yL_law, cL_law, 7, some .boolean)
section U4
variable {G : GG} {τ : Hp} {ad : Nat → Nat} {aA aS aV : Nat} {ρ : Nat → Nat} {T : ST} {n xo b k h S9 Ls scr DD : Nat} {s : TD} {xs : Nat → Int32} {l5 l6 : Option Value} {Q : Option Value → Hp → Prop}
theorem ht_ialdB {M : MI} {pc : Nat} {L : List (Option Value)} {st : List Value} {σ : Hp} {d : Nat} {n : Nat} {f : Nat → Int32} {t j : Nat} {i : Int32} (hA : ∀ U, gE G U → bArr G .int n (fun j => .int (f j)) t U) (hi : i = nI j) (hj : j < n) (hn : n < 2 ^ 31) (hd : decode M.2.1 pc = .ok (.iaload, 1)) (kk : HT G M (pc + 1) L (.int (f j) :: st) σ d Q) : HT G M pc L (.int i :: .ref t :: st) σ d Q := by
  intro l p e R s m args below meth c H locs ls Z C9 hf hll hw hL hq hz
  obtain ⟨h0, cell, h1, h2, h3, h9, h4, h5⟩ := hA s C9.2.2.2.2.2.2.2.2.1.2.1
  subst hi
  exact W.iald (v := .int (f j)) C9.1 C9.2.1 (by rw [hw.old (by omega)]; exact h1) h2 h3 (fun c => nI_in hj hn (c.imp_right (fun q => Nat.le_trans h9 q))) (by rw [nI_clamp (by omega)]; exact h5 j hj) rfl rfl hd (kk l p e R s m args below meth c H locs ls Z C9 hf hll hw hL hq hz)
set_option maxRecDepth 100000 in
theorem lw_feed (hE : NE G) (hB : BK G ad aA aS aV) (hJ : ∀ i j, i < 22 → j < 22 → ad i = ad j → i = j) (hL : LIc xo S9 k τ ρ b s T n h) (hk : k ≤ 600) (hz1 : zX τ + 22 ≤ gC G) (hz2 : zS τ + 3201 ≤ gS G) (hSc : ∀ U, gE G U → bArr G .int Ls (fun j => .int (xs j)) scr U) (hLs : Ls ≤ 3584) (hk7 : 7 * k + 7 ≤ Ls) (hDD : 46 ≤ DD) (kk : ∀ τ2, LI xo S9 (k + 1) τ2 → HT G mL_law 1144 [some (.ref scr), some (.ref xo), some (.ref (xo + 52)), some (.ref (xo + 94)), some (.int (nI (7 * k))), l5, l6] [] τ2 DD Q) : HT G mL_law 152 [some (.ref scr), some (.ref xo), some (.ref (xo + 52)), some (.ref (xo + 94)), some (.int (nI (7 * k))), l5, l6] [] τ DD Q := by
  have D0 := dat dl_L_law_0
  have D1 := dat dl_L_law_1
  have D2 := dat dl_L_law_2
  have D3 := dat dl_L_law_3
  have hX := hL.1.1
  refine ht_aload_n (D0 25 rfl) rfl rfl ?_
  refine ht_aload_n (D0 26 rfl) rfl rfl ?_
  refine ht_iload (D0 27 rfl) rfl ?_
  refine ht_iconst (v := 1) (D0 28 rfl) (by decide) ?_
  refine ht_iadd (D0 29 rfl) ?_
  refine ht_ialdB (j := ((7 * k) + 1)) hSc (by first | rfl | exact nI_add _ _) (by omega) (by omega) (D0 30 rfl) ?_
  refine ht_i2l (D0 31 rfl) ?_
  refine ht_bipush (v := 32) (D0 32 rfl) (by decide) ?_
  refine ht_lshl (D0 33 rfl) ?_
  refine ht_aload_n (D0 34 rfl) rfl rfl ?_
  refine ht_iload (D0 35 rfl) rfl ?_
  refine ht_iconst (v := 2) (D0 36 rfl) (by decide) ?_
  refine ht_iadd (D0 37 rfl) ?_
  refine ht_ialdB (j := ((7 * k) + 2)) hSc (by first | rfl | exact nI_add _ _) (by omega) (by omega) (D0 38 rfl) ?_
  refine ht_i2l (D0 39 rfl) ?_
  refine ht_ldc2 kl_L_23 (D1 0 rfl) ?_
  refine ht_land (D1 1 rfl) ?_
  refine ht_lor (D1 2 rfl) ?_
  refine ht_aload_n (D1 3 rfl) rfl rfl ?_
  refine ht_iload (D1 4 rfl) rfl ?_
  refine ht_iconst (v := 3) (D1 5 rfl) (by decide) ?_
  refine ht_iadd (D1 6 rfl) ?_
  refine ht_ialdB (j := ((7 * k) + 3)) hSc (by first | rfl | exact nI_add _ _) (by omega) (by omega) (D1 7 rfl) ?_
  refine ht_i2l (D1 8 rfl) ?_
  refine ht_bipush (v := 32) (D1 9 rfl) (by decide) ?_
  refine ht_lshl (D1 10 rfl) ?_
  refine ht_aload_n (D1 11 rfl) rfl rfl ?_
  refine ht_iload (D1 12 rfl) rfl ?_
  refine ht_iconst (v := 4) (D1 13 rfl) (by decide) ?_
  refine ht_iadd (D1 14 rfl) ?_
  refine ht_ialdB (j := ((7 * k) + 4)) hSc (by first | rfl | exact nI_add _ _) (by omega) (by omega) (D1 15 rfl) ?_
  refine ht_i2l (D1 16 rfl) ?_
  refine ht_ldc2 kl_L_23 (D1 17 rfl) ?_
  refine ht_land (D1 18 rfl) ?_
  refine ht_lor (D1 19 rfl) ?_
  refine ht_aload_n (D1 20 rfl) rfl rfl ?_
  refine ht_iload (D1 21 rfl) rfl ?_
  refine ht_iconst (v := 5) (D1 22 rfl) (by decide) ?_
  refine ht_iadd (D1 23 rfl) ?_
  refine ht_ialdB (j := ((7 * k) + 5)) hSc (by first | rfl | exact nI_add _ _) (by omega) (by omega) (D1 24 rfl) ?_
  refine ht_i2l (D1 25 rfl) ?_
  refine ht_bipush (v := 32) (D1 26 rfl) (by decide) ?_
  refine ht_lshl (D1 27 rfl) ?_
  refine ht_aload_n (D1 28 rfl) rfl rfl ?_
  refine ht_iload (D1 29 rfl) rfl ?_
  refine ht_bipush (v := 6) (D1 30 rfl) (by decide) ?_
  refine ht_iadd (D1 31 rfl) ?_
  refine ht_ialdB (j := ((7 * k) + 6)) hSc (by first | rfl | exact nI_add _ _) (by omega) (by omega) (D1 32 rfl) ?_
  refine ht_i2l (D1 33 rfl) ?_
  refine ht_ldc2 kl_L_23 (D1 34 rfl) ?_
  refine ht_land (D1 35 rfl) ?_
  refine ht_lor (D1 36 rfl) ?_
  refine kVX9_feed (As := [_, _, _]) cl_L_25 (D1 37 rfl) (cl_feed hE hL _ _ _) hX.k0 rfl (Nat.le_of_ble_eq_true rfl) rfl (Nat.le_of_ble_eq_true rfl) (by omega) ?_
  rintro _ τ1 ⟨r, ⟨rfl, hk9⟩, hm⟩
  refine ht_aload_n (D1 38 rfl) rfl rfl ?_
  refine ht_aload_n (D1 39 rfl) rfl rfl ?_
  refine ht_iload (D2 0 rfl) rfl ?_
  refine ht_iconst (v := 1) (D2 1 rfl) (by decide) ?_
  refine ht_iadd (D2 2 rfl) ?_
  refine ht_ialdB (j := ((7 * k) + 1)) hSc (by first | rfl | exact nI_add _ _) (by omega) (by omega) (D2 3 rfl) ?_
  refine ht_i2l (D2 4 rfl) ?_
  refine ht_bipush (v := 32) (D2 5 rfl) (by decide) ?_
  refine ht_lshl (D2 6 rfl) ?_
  refine ht_aload_n (D2 7 rfl) rfl rfl ?_
  refine ht_iload (D2 8 rfl) rfl ?_
  refine ht_iconst (v := 2) (D2 9 rfl) (by decide) ?_
  refine ht_iadd (D2 10 rfl) ?_
  refine ht_ialdB (j := ((7 * k) + 2)) hSc (by first | rfl | exact nI_add _ _) (by omega) (by omega) (D2 11 rfl) ?_
  refine ht_i2l (D2 12 rfl) ?_
  refine ht_ldc2 kl_L_23 (D2 13 rfl) ?_
  refine ht_land (D2 14 rfl) ?_
  refine ht_lor (D2 15 rfl) ?_
  refine ht_aload_n (D2 16 rfl) rfl rfl ?_
  refine ht_iload (D2 17 rfl) rfl ?_
  refine ht_iconst (v := 3) (D2 18 rfl) (by decide) ?_
  refine ht_iadd (D2 19 rfl) ?_
  refine ht_ialdB (j := ((7 * k) + 3)) hSc (by first | rfl | exact nI_add _ _) (by omega) (by omega) (D2 20 rfl) ?_
  refine ht_i2l (D2 21 rfl) ?_
  refine ht_bipush (v := 32) (D2 22 rfl) (by decide) ?_
  refine ht_lshl (D2 23 rfl) ?_
  refine ht_aload_n (D2 24 rfl) rfl rfl ?_
  refine ht_iload (D2 25 rfl) rfl ?_
  refine ht_iconst (v := 4) (D2 26 rfl) (by decide) ?_
  refine ht_iadd (D2 27 rfl) ?_
  refine ht_ialdB (j := ((7 * k) + 4)) hSc (by first | rfl | exact nI_add _ _) (by omega) (by omega) (D2 28 rfl) ?_
  refine ht_i2l (D2 29 rfl) ?_
  refine ht_ldc2 kl_L_23 (D2 30 rfl) ?_
  refine ht_land (D2 31 rfl) ?_
  refine ht_lor (D2 32 rfl) ?_
  refine ht_aload_n (D2 33 rfl) rfl rfl ?_
  refine ht_iload (D2 34 rfl) rfl ?_
  refine ht_iconst (v := 5) (D2 35 rfl) (by decide) ?_
  refine ht_iadd (D2 36 rfl) ?_
  refine ht_ialdB (j := ((7 * k) + 5)) hSc (by first | rfl | exact nI_add _ _) (by omega) (by omega) (D2 37 rfl) ?_
  refine ht_i2l (D2 38 rfl) ?_
  refine ht_bipush (v := 32) (D2 39 rfl) (by decide) ?_
  refine ht_lshl (D3 0 rfl) ?_
  refine ht_aload_n (D3 1 rfl) rfl rfl ?_
  refine ht_iload (D3 2 rfl) rfl ?_
  refine ht_bipush (v := 6) (D3 3 rfl) (by decide) ?_
  refine ht_iadd (D3 4 rfl) ?_
  refine ht_ialdB (j := ((7 * k) + 6)) hSc (by first | rfl | exact nI_add _ _) (by omega) (by omega) (D3 5 rfl) ?_
  refine ht_i2l (D3 6 rfl) ?_
  refine ht_ldc2 kl_L_23 (D3 7 rfl) ?_
  refine ht_land (D3 8 rfl) ?_
  refine ht_lor (D3 9 rfl) ?_
  refine kVX10_feed (As := [_, _, _]) cl_L_29 (D3 10 rfl) hm hk9 rfl (Nat.le_of_ble_eq_true rfl) rfl (Nat.le_of_ble_eq_true rfl) (by omega) ?_
  rintro _ τ2 ⟨rfl, hLI⟩
  refine ht_icmp_eq (tgt := 1144) (D3 11 rfl) (by decide) (fun hb294 => ?_) (fun hb294 => ?_)
  · skip
    exact ht_cast (kk _ hLI) rfl rfl rfl
  · skip
    exact absurd rfl hb294
set_option maxRecDepth 100000 in
theorem lw_prison (hE : NE G) (hB : BK G ad aA aS aV) (hJ : ∀ i j, i < 22 → j < 22 → ad i = ad j → i = j) (hL : LIc xo S9 k τ ρ b s T n h) (hk : k ≤ 600) (hz1 : zX τ + 22 ≤ gC G) (hz2 : zS τ + 3201 ≤ gS G) (hSc : ∀ U, gE G U → bArr G .int Ls (fun j => .int (xs j)) scr U) (hLs : Ls ≤ 3584) (hk7 : 7 * k + 7 ≤ Ls) (hDD : 46 ≤ DD) (kk : ∀ τ2, LI xo S9 (k + 1) τ2 → HT G mL_law 1144 [some (.ref scr), some (.ref xo), some (.ref (xo + 52)), some (.ref (xo + 94)), some (.int (nI (7 * k))), l5, l6] [] τ2 DD Q) : HT G mL_law 299 [some (.ref scr), some (.ref xo), some (.ref (xo + 52)), some (.ref (xo + 94)), some (.int (nI (7 * k))), l5, l6] [] τ DD Q := by
  have D3 := dat dl_L_law_3
  have hX := hL.1.1
  refine ht_aload_n (D3 14 rfl) rfl rfl ?_
  refine kVX9_prison (As := []) cl_L_30 (D3 15 rfl) (cl_prison hE hB hJ hL hz1 hz2) hX.k0 rfl (Nat.le_of_ble_eq_true rfl) rfl (Nat.le_of_ble_eq_true rfl) (by omega) ?_
  rintro _ τ1 ⟨r, ⟨rfl, hk9⟩, hm⟩
  refine ht_aload_n (D3 16 rfl) rfl rfl ?_
  refine kVX10_prison (As := []) cl_L_34 (D3 17 rfl) hm hk9 rfl (Nat.le_of_ble_eq_true rfl) rfl (Nat.le_of_ble_eq_true rfl) (by omega) ?_
  rintro _ τ2 ⟨rfl, hLI⟩
  refine ht_icmp_eq (tgt := 1144) (D3 18 rfl) (by decide) (fun hb307 => ?_) (fun hb307 => ?_)
  · skip
    exact ht_cast (kk _ hLI) rfl rfl rfl
  · skip
    exact absurd rfl hb307
set_option maxRecDepth 100000 in
theorem lw_cell (hE : NE G) (hB : BK G ad aA aS aV) (hJ : ∀ i j, i < 22 → j < 22 → ad i = ad j → i = j) (hL : LIc xo S9 k τ ρ b s T n h) (hk : k ≤ 600) (hz1 : zX τ + 22 ≤ gC G) (hz2 : zS τ + 3201 ≤ gS G) (hSc : ∀ U, gE G U → bArr G .int Ls (fun j => .int (xs j)) scr U) (hLs : Ls ≤ 3584) (hk7 : 7 * k + 7 ≤ Ls) (hDD : 46 ≤ DD) (kk : ∀ τ2, LI xo S9 (k + 1) τ2 → HT G mL_law 1144 [some (.ref scr), some (.ref xo), some (.ref (xo + 52)), some (.ref (xo + 94)), some (.int (nI (7 * k))), l5, l6] [] τ2 DD Q) : HT G mL_law 312 [some (.ref scr), some (.ref xo), some (.ref (xo + 52)), some (.ref (xo + 94)), some (.int (nI (7 * k))), l5, l6] [] τ DD Q := by
  have D3 := dat dl_L_law_3
  have D4 := dat dl_L_law_4
  have hX := hL.1.1
  refine ht_aload_n (D3 21 rfl) rfl rfl ?_
  refine ht_aload_n (D3 22 rfl) rfl rfl ?_
  refine ht_iload (D3 23 rfl) rfl ?_
  refine ht_iconst (v := 1) (D3 24 rfl) (by decide) ?_
  refine ht_iadd (D3 25 rfl) ?_
  refine ht_ialdB (j := ((7 * k) + 1)) hSc (by first | rfl | exact nI_add _ _) (by omega) (by omega) (D3 26 rfl) ?_
  refine ht_aload_n (D3 27 rfl) rfl rfl ?_
  refine ht_iload (D3 28 rfl) rfl ?_
  refine ht_iconst (v := 2) (D3 29 rfl) (by decide) ?_
  refine ht_iadd (D3 30 rfl) ?_
  refine ht_ialdB (j := ((7 * k) + 2)) hSc (by first | rfl | exact nI_add _ _) (by omega) (by omega) (D3 31 rfl) ?_
  refine kVX9_cell (As := [_, _]) cl_L_35 (D3 32 rfl) (cl_cell hE hL hk _ _) hX.k0 rfl (Nat.le_of_ble_eq_true rfl) rfl (Nat.le_of_ble_eq_true rfl) (by omega) ?_
  rintro _ τ1 ⟨r, ⟨rfl, hk9⟩, hm⟩
  refine ht_aload_n (D3 33 rfl) rfl rfl ?_
  refine ht_aload_n (D3 34 rfl) rfl rfl ?_
  refine ht_iload (D3 35 rfl) rfl ?_
  refine ht_iconst (v := 1) (D3 36 rfl) (by decide) ?_
  refine ht_iadd (D3 37 rfl) ?_
  refine ht_ialdB (j := ((7 * k) + 1)) hSc (by first | rfl | exact nI_add _ _) (by omega) (by omega) (D3 38 rfl) ?_
  refine ht_aload_n (D3 39 rfl) rfl rfl ?_
  refine ht_iload (D4 0 rfl) rfl ?_
  refine ht_iconst (v := 2) (D4 1 rfl) (by decide) ?_
  refine ht_iadd (D4 2 rfl) ?_
  refine ht_ialdB (j := ((7 * k) + 2)) hSc (by first | rfl | exact nI_add _ _) (by omega) (by omega) (D4 3 rfl) ?_
  refine kVX10_cell (As := [_, _]) cl_L_38 (D4 4 rfl) hm hk9 rfl (Nat.le_of_ble_eq_true rfl) rfl (Nat.le_of_ble_eq_true rfl) (by omega) ?_
  rintro _ τ2 ⟨rfl, hLI⟩
  refine ht_icmp_eq (tgt := 1144) (D4 5 rfl) (by decide) (fun hb344 => ?_) (fun hb344 => ?_)
  · skip
    exact ht_cast (kk _ hLI) rfl rfl rfl
  · skip
    exact absurd rfl hb344
set_option maxRecDepth 100000 in
theorem lw_door (hE : NE G) (hB : BK G ad aA aS aV) (hJ : ∀ i j, i < 22 → j < 22 → ad i = ad j → i = j) (hL : LIc xo S9 k τ ρ b s T n h) (hk : k ≤ 600) (hz1 : zX τ + 22 ≤ gC G) (hz2 : zS τ + 3201 ≤ gS G) (hSc : ∀ U, gE G U → bArr G .int Ls (fun j => .int (xs j)) scr U) (hLs : Ls ≤ 3584) (hk7 : 7 * k + 7 ≤ Ls) (hDD : 46 ≤ DD) (kk : ∀ τ2, LI xo S9 (k + 1) τ2 → HT G mL_law 1144 [some (.ref scr), some (.ref xo), some (.ref (xo + 52)), some (.ref (xo + 94)), some (.int (nI (7 * k))), l5, l6] [] τ2 DD Q) : HT G mL_law 349 [some (.ref scr), some (.ref xo), some (.ref (xo + 52)), some (.ref (xo + 94)), some (.int (nI (7 * k))), l5, l6] [] τ DD Q := by
  have D4 := dat dl_L_law_4
  have hX := hL.1.1
  refine ht_aload_n (D4 8 rfl) rfl rfl ?_
  refine ht_aload_n (D4 9 rfl) rfl rfl ?_
  refine ht_iload (D4 10 rfl) rfl ?_
  refine ht_iconst (v := 1) (D4 11 rfl) (by decide) ?_
  refine ht_iadd (D4 12 rfl) ?_
  refine ht_ialdB (j := ((7 * k) + 1)) hSc (by first | rfl | exact nI_add _ _) (by omega) (by omega) (D4 13 rfl) ?_
  refine ht_aload_n (D4 14 rfl) rfl rfl ?_
  refine ht_iload (D4 15 rfl) rfl ?_
  refine ht_iconst (v := 2) (D4 16 rfl) (by decide) ?_
  refine ht_iadd (D4 17 rfl) ?_
  refine ht_ialdB (j := ((7 * k) + 2)) hSc (by first | rfl | exact nI_add _ _) (by omega) (by omega) (D4 18 rfl) ?_
  refine kVX9_door (As := [_, _]) cl_L_39 (D4 19 rfl) (cl_door hE hL hk _ _) hX.k0 rfl (Nat.le_of_ble_eq_true rfl) rfl (Nat.le_of_ble_eq_true rfl) (by omega) ?_
  rintro _ τ1 ⟨r, ⟨rfl, hk9⟩, hm⟩
  refine ht_aload_n (D4 20 rfl) rfl rfl ?_
  refine ht_aload_n (D4 21 rfl) rfl rfl ?_
  refine ht_iload (D4 22 rfl) rfl ?_
  refine ht_iconst (v := 1) (D4 23 rfl) (by decide) ?_
  refine ht_iadd (D4 24 rfl) ?_
  refine ht_ialdB (j := ((7 * k) + 1)) hSc (by first | rfl | exact nI_add _ _) (by omega) (by omega) (D4 25 rfl) ?_
  refine ht_aload_n (D4 26 rfl) rfl rfl ?_
  refine ht_iload (D4 27 rfl) rfl ?_
  refine ht_iconst (v := 2) (D4 28 rfl) (by decide) ?_
  refine ht_iadd (D4 29 rfl) ?_
  refine ht_ialdB (j := ((7 * k) + 2)) hSc (by first | rfl | exact nI_add _ _) (by omega) (by omega) (D4 30 rfl) ?_
  refine kVX10_door (As := [_, _]) cl_L_42 (D4 31 rfl) hm hk9 rfl (Nat.le_of_ble_eq_true rfl) rfl (Nat.le_of_ble_eq_true rfl) (by omega) ?_
  rintro _ τ2 ⟨rfl, hLI⟩
  refine ht_icmp_eq (tgt := 1144) (D4 32 rfl) (by decide) (fun hb381 => ?_) (fun hb381 => ?_)
  · skip
    exact ht_cast (kk _ hLI) rfl rfl rfl
  · skip
    exact absurd rfl hb381
set_option maxRecDepth 100000 in
theorem lw_pour (hE : NE G) (hB : BK G ad aA aS aV) (hJ : ∀ i j, i < 22 → j < 22 → ad i = ad j → i = j) (hL : LIc xo S9 k τ ρ b s T n h) (hk : k ≤ 600) (hz1 : zX τ + 22 ≤ gC G) (hz2 : zS τ + 3201 ≤ gS G) (hSc : ∀ U, gE G U → bArr G .int Ls (fun j => .int (xs j)) scr U) (hLs : Ls ≤ 3584) (hk7 : 7 * k + 7 ≤ Ls) (hDD : 46 ≤ DD) (kk : ∀ τ2, LI xo S9 (k + 1) τ2 → HT G mL_law 1144 [some (.ref scr), some (.ref xo), some (.ref (xo + 52)), some (.ref (xo + 94)), some (.int (nI (7 * k))), l5, l6] [] τ2 DD Q) : HT G mL_law 510 [some (.ref scr), some (.ref xo), some (.ref (xo + 52)), some (.ref (xo + 94)), some (.int (nI (7 * k))), l5, l6] [] τ DD Q := by
  have D6 := dat dl_L_law_6
  have D7 := dat dl_L_law_7
  have hX := hL.1.1
  refine ht_aload_n (D6 35 rfl) rfl rfl ?_
  refine ht_aload_n (D6 36 rfl) rfl rfl ?_
  refine ht_iload (D6 37 rfl) rfl ?_
  refine ht_iconst (v := 1) (D6 38 rfl) (by decide) ?_
  refine ht_iadd (D6 39 rfl) ?_
  refine ht_ialdB (j := ((7 * k) + 1)) hSc (by first | rfl | exact nI_add _ _) (by omega) (by omega) (D7 0 rfl) ?_
  refine ht_aload_n (D7 1 rfl) rfl rfl ?_
  refine ht_iload (D7 2 rfl) rfl ?_
  refine ht_iconst (v := 2) (D7 3 rfl) (by decide) ?_
  refine ht_iadd (D7 4 rfl) ?_
  refine ht_ialdB (j := ((7 * k) + 2)) hSc (by first | rfl | exact nI_add _ _) (by omega) (by omega) (D7 5 rfl) ?_
  refine kVX9_pour (As := [_, _]) cl_L_56 (D7 6 rfl) (cl_pour hE hL hk _ _) hX.k0 rfl (Nat.le_of_ble_eq_true rfl) rfl (Nat.le_of_ble_eq_true rfl) (by omega) ?_
  rintro _ τ1 ⟨r, ⟨rfl, hk9⟩, hm⟩
  refine ht_aload_n (D7 7 rfl) rfl rfl ?_
  refine ht_aload_n (D7 8 rfl) rfl rfl ?_
  refine ht_iload (D7 9 rfl) rfl ?_
  refine ht_iconst (v := 1) (D7 10 rfl) (by decide) ?_
  refine ht_iadd (D7 11 rfl) ?_
  refine ht_ialdB (j := ((7 * k) + 1)) hSc (by first | rfl | exact nI_add _ _) (by omega) (by omega) (D7 12 rfl) ?_
  refine ht_aload_n (D7 13 rfl) rfl rfl ?_
  refine ht_iload (D7 14 rfl) rfl ?_
  refine ht_iconst (v := 2) (D7 15 rfl) (by decide) ?_
  refine ht_iadd (D7 16 rfl) ?_
  refine ht_ialdB (j := ((7 * k) + 2)) hSc (by first | rfl | exact nI_add _ _) (by omega) (by omega) (D7 17 rfl) ?_
  refine kVX10_pour (As := [_, _]) cl_L_59 (D7 18 rfl) hm hk9 rfl (Nat.le_of_ble_eq_true rfl) rfl (Nat.le_of_ble_eq_true rfl) (by omega) ?_
  rintro _ τ2 ⟨rfl, hLI⟩
  refine ht_icmp_eq (tgt := 1144) (D7 19 rfl) (by decide) (fun hb542 => ?_) (fun hb542 => ?_)
  · skip
    exact ht_cast (kk _ hLI) rfl rfl rfl
  · skip
    exact absurd rfl hb542
set_option maxRecDepth 100000 in
theorem lw_salt (hE : NE G) (hB : BK G ad aA aS aV) (hJ : ∀ i j, i < 22 → j < 22 → ad i = ad j → i = j) (hL : LIc xo S9 k τ ρ b s T n h) (hk : k ≤ 600) (hz1 : zX τ + 22 ≤ gC G) (hz2 : zS τ + 3201 ≤ gS G) (hSc : ∀ U, gE G U → bArr G .int Ls (fun j => .int (xs j)) scr U) (hLs : Ls ≤ 3584) (hk7 : 7 * k + 7 ≤ Ls) (hDD : 46 ≤ DD) (kk : ∀ τ2, LI xo S9 (k + 1) τ2 → HT G mL_law 1144 [some (.ref scr), some (.ref xo), some (.ref (xo + 52)), some (.ref (xo + 94)), some (.int (nI (7 * k))), l5, l6] [] τ2 DD Q) : HT G mL_law 547 [some (.ref scr), some (.ref xo), some (.ref (xo + 52)), some (.ref (xo + 94)), some (.int (nI (7 * k))), l5, l6] [] τ DD Q := by
  have D7 := dat dl_L_law_7
  have D8 := dat dl_L_law_8
  have hX := hL.1.1
  refine ht_aload_n (D7 22 rfl) rfl rfl ?_
  refine ht_aload_n (D7 23 rfl) rfl rfl ?_
  refine ht_iload (D7 24 rfl) rfl ?_
  refine ht_iconst (v := 1) (D7 25 rfl) (by decide) ?_
  refine ht_iadd (D7 26 rfl) ?_
  refine ht_ialdB (j := ((7 * k) + 1)) hSc (by first | rfl | exact nI_add _ _) (by omega) (by omega) (D7 27 rfl) ?_
  refine ht_aload_n (D7 28 rfl) rfl rfl ?_
  refine ht_iload (D7 29 rfl) rfl ?_
  refine ht_iconst (v := 2) (D7 30 rfl) (by decide) ?_
  refine ht_iadd (D7 31 rfl) ?_
  refine ht_ialdB (j := ((7 * k) + 2)) hSc (by first | rfl | exact nI_add _ _) (by omega) (by omega) (D7 32 rfl) ?_
  refine kVX9_salt (As := [_, _]) cl_L_60 (D7 33 rfl) (cl_salt hE hL hk _ _) hX.k0 rfl (Nat.le_of_ble_eq_true rfl) rfl (Nat.le_of_ble_eq_true rfl) (by omega) ?_
  rintro _ τ1 ⟨r, ⟨rfl, hk9⟩, hm⟩
  refine ht_aload_n (D7 34 rfl) rfl rfl ?_
  refine ht_aload_n (D7 35 rfl) rfl rfl ?_
  refine ht_iload (D7 36 rfl) rfl ?_
  refine ht_iconst (v := 1) (D7 37 rfl) (by decide) ?_
  refine ht_iadd (D7 38 rfl) ?_
  refine ht_ialdB (j := ((7 * k) + 1)) hSc (by first | rfl | exact nI_add _ _) (by omega) (by omega) (D7 39 rfl) ?_
  refine ht_aload_n (D8 0 rfl) rfl rfl ?_
  refine ht_iload (D8 1 rfl) rfl ?_
  refine ht_iconst (v := 2) (D8 2 rfl) (by decide) ?_
  refine ht_iadd (D8 3 rfl) ?_
  refine ht_ialdB (j := ((7 * k) + 2)) hSc (by first | rfl | exact nI_add _ _) (by omega) (by omega) (D8 4 rfl) ?_
  refine kVX10_salt (As := [_, _]) cl_L_64 (D8 5 rfl) hm hk9 rfl (Nat.le_of_ble_eq_true rfl) rfl (Nat.le_of_ble_eq_true rfl) (by omega) ?_
  rintro _ τ2 ⟨rfl, hLI⟩
  refine ht_icmp_eq (tgt := 1144) (D8 6 rfl) (by decide) (fun hb579 => ?_) (fun hb579 => ?_)
  · skip
    exact ht_cast (kk _ hLI) rfl rfl rfl
  · skip
    exact absurd rfl hb579
set_option maxRecDepth 100000 in
theorem lw_stove (hE : NE G) (hB : BK G ad aA aS aV) (hJ : ∀ i j, i < 22 → j < 22 → ad i = ad j → i = j) (hL : LIc xo S9 k τ ρ b s T n h) (hk : k ≤ 600) (hz1 : zX τ + 22 ≤ gC G) (hz2 : zS τ + 3201 ≤ gS G) (hSc : ∀ U, gE G U → bArr G .int Ls (fun j => .int (xs j)) scr U) (hLs : Ls ≤ 3584) (hk7 : 7 * k + 7 ≤ Ls) (hDD : 46 ≤ DD) (kk : ∀ τ2, LI xo S9 (k + 1) τ2 → HT G mL_law 1144 [some (.ref scr), some (.ref xo), some (.ref (xo + 52)), some (.ref (xo + 94)), some (.int (nI (7 * k))), l5, l6] [] τ2 DD Q) : HT G mL_law 584 [some (.ref scr), some (.ref xo), some (.ref (xo + 52)), some (.ref (xo + 94)), some (.int (nI (7 * k))), l5, l6] [] τ DD Q := by
  have D8 := dat dl_L_law_8
  have hX := hL.1.1
  refine ht_aload_n (D8 9 rfl) rfl rfl ?_
  refine ht_aload_n (D8 10 rfl) rfl rfl ?_
  refine ht_iload (D8 11 rfl) rfl ?_
  refine ht_iconst (v := 1) (D8 12 rfl) (by decide) ?_
  refine ht_iadd (D8 13 rfl) ?_
  refine ht_ialdB (j := ((7 * k) + 1)) hSc (by first | rfl | exact nI_add _ _) (by omega) (by omega) (D8 14 rfl) ?_
  refine ht_aload_n (D8 15 rfl) rfl rfl ?_
  refine ht_iload (D8 16 rfl) rfl ?_
  refine ht_iconst (v := 2) (D8 17 rfl) (by decide) ?_
  refine ht_iadd (D8 18 rfl) ?_
  refine ht_ialdB (j := ((7 * k) + 2)) hSc (by first | rfl | exact nI_add _ _) (by omega) (by omega) (D8 19 rfl) ?_
  refine kVX9_stove (As := [_, _]) cl_L_65 (D8 20 rfl) (cl_stove hE hL hk _ _) hX.k0 rfl (Nat.le_of_ble_eq_true rfl) rfl (Nat.le_of_ble_eq_true rfl) (by omega) ?_
  rintro _ τ1 ⟨r, ⟨rfl, hk9⟩, hm⟩
  refine ht_aload_n (D8 21 rfl) rfl rfl ?_
  refine ht_aload_n (D8 22 rfl) rfl rfl ?_
  refine ht_iload (D8 23 rfl) rfl ?_
  refine ht_iconst (v := 1) (D8 24 rfl) (by decide) ?_
  refine ht_iadd (D8 25 rfl) ?_
  refine ht_ialdB (j := ((7 * k) + 1)) hSc (by first | rfl | exact nI_add _ _) (by omega) (by omega) (D8 26 rfl) ?_
  refine ht_aload_n (D8 27 rfl) rfl rfl ?_
  refine ht_iload (D8 28 rfl) rfl ?_
  refine ht_iconst (v := 2) (D8 29 rfl) (by decide) ?_
  refine ht_iadd (D8 30 rfl) ?_
  refine ht_ialdB (j := ((7 * k) + 2)) hSc (by first | rfl | exact nI_add _ _) (by omega) (by omega) (D8 31 rfl) ?_
  refine kVX10_stove (As := [_, _]) cl_L_68 (D8 32 rfl) hm hk9 rfl (Nat.le_of_ble_eq_true rfl) rfl (Nat.le_of_ble_eq_true rfl) (by omega) ?_
  rintro _ τ2 ⟨rfl, hLI⟩
  refine ht_icmp_eq (tgt := 1144) (D8 33 rfl) (by decide) (fun hb616 => ?_) (fun hb616 => ?_)
  · skip
    exact ht_cast (kk _ hLI) rfl rfl rfl
  · skip
    exact absurd rfl hb616
set_option maxRecDepth 100000 in
theorem lw_pardon (hE : NE G) (hB : BK G ad aA aS aV) (hJ : ∀ i j, i < 22 → j < 22 → ad i = ad j → i = j) (hL : LIc xo S9 k τ ρ b s T n h) (hk : k ≤ 600) (hz1 : zX τ + 22 ≤ gC G) (hz2 : zS τ + 3201 ≤ gS G) (hSc : ∀ U, gE G U → bArr G .int Ls (fun j => .int (xs j)) scr U) (hLs : Ls ≤ 3584) (hk7 : 7 * k + 7 ≤ Ls) (hDD : 46 ≤ DD) (kk : ∀ τ2, LI xo S9 (k + 1) τ2 → HT G mL_law 1144 [some (.ref scr), some (.ref xo), some (.ref (xo + 52)), some (.ref (xo + 94)), some (.int (nI (7 * k))), l5, l6] [] τ2 DD Q) : HT G mL_law 621 [some (.ref scr), some (.ref xo), some (.ref (xo + 52)), some (.ref (xo + 94)), some (.int (nI (7 * k))), l5, l6] [] τ DD Q := by
  have D8 := dat dl_L_law_8
  have D9 := dat dl_L_law_9
  have hX := hL.1.1
  refine ht_aload_n (D8 36 rfl) rfl rfl ?_
  refine ht_aload_n (D8 37 rfl) rfl rfl ?_
  refine ht_iload (D8 38 rfl) rfl ?_
  refine ht_iconst (v := 1) (D8 39 rfl) (by decide) ?_
  refine ht_iadd (D9 0 rfl) ?_
  refine ht_ialdB (j := ((7 * k) + 1)) hSc (by first | rfl | exact nI_add _ _) (by omega) (by omega) (D9 1 rfl) ?_
  refine kVX9_pardon (As := [_]) cl_L_69 (D9 2 rfl) (cl_pardon hE hL hk _) hX.k0 rfl (Nat.le_of_ble_eq_true rfl) rfl (Nat.le_of_ble_eq_true rfl) (by omega) ?_
  rintro _ τ1 ⟨r, ⟨rfl, hk9⟩, hm⟩
  refine ht_aload_n (D9 3 rfl) rfl rfl ?_
  refine ht_aload_n (D9 4 rfl) rfl rfl ?_
  refine ht_iload (D9 5 rfl) rfl ?_
  refine ht_iconst (v := 1) (D9 6 rfl) (by decide) ?_
  refine ht_iadd (D9 7 rfl) ?_
  refine ht_ialdB (j := ((7 * k) + 1)) hSc (by first | rfl | exact nI_add _ _) (by omega) (by omega) (D9 8 rfl) ?_
  refine kVX10_pardon (As := [_]) cl_L_73 (D9 9 rfl) hm hk9 rfl (Nat.le_of_ble_eq_true rfl) rfl (Nat.le_of_ble_eq_true rfl) (by omega) ?_
  rintro _ τ2 ⟨rfl, hLI⟩
  refine ht_icmp_eq (tgt := 1144) (D9 10 rfl) (by decide) (fun hb641 => ?_) (fun hb641 => ?_)
  · skip
    exact ht_cast (kk _ hLI) rfl rfl rfl
  · skip
    exact absurd rfl hb641
set_option maxRecDepth 100000 in
theorem lw_hours (hE : NE G) (hB : BK G ad aA aS aV) (hJ : ∀ i j, i < 22 → j < 22 → ad i = ad j → i = j) (hL : LIc xo S9 k τ ρ b s T n h) (hk : k ≤ 600) (hz1 : zX τ + 22 ≤ gC G) (hz2 : zS τ + 3201 ≤ gS G) (hSc : ∀ U, gE G U → bArr G .int Ls (fun j => .int (xs j)) scr U) (hLs : Ls ≤ 3584) (hk7 : 7 * k + 7 ≤ Ls) (hDD : 46 ≤ DD) (kk : ∀ τ2, LI xo S9 (k + 1) τ2 → HT G mL_law 1144 [some (.ref scr), some (.ref xo), some (.ref (xo + 52)), some (.ref (xo + 94)), some (.int (nI (7 * k))), l5, l6] [] τ2 DD Q) : HT G mL_law 646 [some (.ref scr), some (.ref xo), some (.ref (xo + 52)), some (.ref (xo + 94)), some (.int (nI (7 * k))), l5, l6] [] τ DD Q := by
  have D9 := dat dl_L_law_9
  have hX := hL.1.1
  refine ht_aload_n (D9 13 rfl) rfl rfl ?_
  refine ht_aload_n (D9 14 rfl) rfl rfl ?_
  refine ht_iload (D9 15 rfl) rfl ?_
  refine ht_iconst (v := 1) (D9 16 rfl) (by decide) ?_
  refine ht_iadd (D9 17 rfl) ?_
  refine ht_ialdB (j := ((7 * k) + 1)) hSc (by first | rfl | exact nI_add _ _) (by omega) (by omega) (D9 18 rfl) ?_
  refine kVX9_hours (As := [_]) cl_L_74 (D9 19 rfl) (cl_hours hE hL hk _) hX.k0 rfl (Nat.le_of_ble_eq_true rfl) rfl (Nat.le_of_ble_eq_true rfl) (by omega) ?_
  rintro _ τ1 ⟨r, ⟨rfl, hk9⟩, hm⟩
  refine ht_aload_n (D9 20 rfl) rfl rfl ?_
  refine ht_aload_n (D9 21 rfl) rfl rfl ?_
  refine ht_iload (D9 22 rfl) rfl ?_
  refine ht_iconst (v := 1) (D9 23 rfl) (by decide) ?_
  refine ht_iadd (D9 24 rfl) ?_
  refine ht_ialdB (j := ((7 * k) + 1)) hSc (by first | rfl | exact nI_add _ _) (by omega) (by omega) (D9 25 rfl) ?_
  refine kVX10_hours (As := [_]) cl_L_77 (D9 26 rfl) hm hk9 rfl (Nat.le_of_ble_eq_true rfl) rfl (Nat.le_of_ble_eq_true rfl) (by omega) ?_
  rintro _ τ2 ⟨rfl, hLI⟩
  refine ht_icmp_eq (tgt := 1144) (D9 27 rfl) (by decide) (fun hb666 => ?_) (fun hb666 => ?_)
  · skip
    exact ht_cast (kk _ hLI) rfl rfl rfl
  · skip
    exact absurd rfl hb666
set_option maxRecDepth 100000 in
theorem lw_soon (hE : NE G) (hB : BK G ad aA aS aV) (hJ : ∀ i j, i < 22 → j < 22 → ad i = ad j → i = j) (hL : LIc xo S9 k τ ρ b s T n h) (hk : k ≤ 600) (hz1 : zX τ + 22 ≤ gC G) (hz2 : zS τ + 3201 ≤ gS G) (hSc : ∀ U, gE G U → bArr G .int Ls (fun j => .int (xs j)) scr U) (hLs : Ls ≤ 3584) (hk7 : 7 * k + 7 ≤ Ls) (hDD : 46 ≤ DD) (kk : ∀ τ2, LI xo S9 (k + 1) τ2 → HT G mL_law 1144 [some (.ref scr), some (.ref xo), some (.ref (xo + 52)), some (.ref (xo + 94)), some (.int (nI (7 * k))), l5, l6] [] τ2 DD Q) : HT G mL_law 671 [some (.ref scr), some (.ref xo), some (.ref (xo + 52)), some (.ref (xo + 94)), some (.int (nI (7 * k))), l5, l6] [] τ DD Q := by
  have D9 := dat dl_L_law_9
  have D10 := dat dl_L_law_10
  have hX := hL.1.1
  refine ht_aload_n (D9 30 rfl) rfl rfl ?_
  refine ht_aload_n (D9 31 rfl) rfl rfl ?_
  refine ht_iload (D9 32 rfl) rfl ?_
  refine ht_iconst (v := 1) (D9 33 rfl) (by decide) ?_
  refine ht_iadd (D9 34 rfl) ?_
  refine ht_ialdB (j := ((7 * k) + 1)) hSc (by first | rfl | exact nI_add _ _) (by omega) (by omega) (D9 35 rfl) ?_
  refine ht_aload_n (D9 36 rfl) rfl rfl ?_
  refine ht_iload (D9 37 rfl) rfl ?_
  refine ht_iconst (v := 2) (D9 38 rfl) (by decide) ?_
  refine ht_iadd (D9 39 rfl) ?_
  refine ht_ialdB (j := ((7 * k) + 2)) hSc (by first | rfl | exact nI_add _ _) (by omega) (by omega) (D10 0 rfl) ?_
  refine kVX9_soon (As := [_, _]) cl_L_78 (D10 1 rfl) (cl_soon hE hL hk _ _) hX.k0 rfl (Nat.le_of_ble_eq_true rfl) rfl (Nat.le_of_ble_eq_true rfl) (by omega) ?_
  rintro _ τ1 ⟨r, ⟨rfl, hk9⟩, hm⟩
  refine ht_aload_n (D10 2 rfl) rfl rfl ?_
  refine ht_aload_n (D10 3 rfl) rfl rfl ?_
  refine ht_iload (D10 4 rfl) rfl ?_
  refine ht_iconst (v := 1) (D10 5 rfl) (by decide) ?_
  refine ht_iadd (D10 6 rfl) ?_
  refine ht_ialdB (j := ((7 * k) + 1)) hSc (by first | rfl | exact nI_add _ _) (by omega) (by omega) (D10 7 rfl) ?_
  refine ht_aload_n (D10 8 rfl) rfl rfl ?_
  refine ht_iload (D10 9 rfl) rfl ?_
  refine ht_iconst (v := 2) (D10 10 rfl) (by decide) ?_
  refine ht_iadd (D10 11 rfl) ?_
  refine ht_ialdB (j := ((7 * k) + 2)) hSc (by first | rfl | exact nI_add _ _) (by omega) (by omega) (D10 12 rfl) ?_
  refine kVX10_soon (As := [_, _]) cl_L_81 (D10 13 rfl) hm hk9 rfl (Nat.le_of_ble_eq_true rfl) rfl (Nat.le_of_ble_eq_true rfl) (by omega) ?_
  rintro _ τ2 ⟨rfl, hLI⟩
  refine ht_icmp_eq (tgt := 1144) (D10 14 rfl) (by decide) (fun hb703 => ?_) (fun hb703 => ?_)
  · skip
    exact ht_cast (kk _ hLI) rfl rfl rfl
  · skip
    exact absurd rfl hb703
set_option maxRecDepth 100000 in
theorem lw_needs (hE : NE G) (hB : BK G ad aA aS aV) (hJ : ∀ i j, i < 22 → j < 22 → ad i = ad j → i = j) (hL : LIc xo S9 k τ ρ b s T n h) (hk : k ≤ 600) (hz1 : zX τ + 22 ≤ gC G) (hz2 : zS τ + 3201 ≤ gS G) (hSc : ∀ U, gE G U → bArr G .int Ls (fun j => .int (xs j)) scr U) (hLs : Ls ≤ 3584) (hk7 : 7 * k + 7 ≤ Ls) (hDD : 46 ≤ DD) (kk : ∀ τ2, LI xo S9 (k + 1) τ2 → HT G mL_law 1144 [some (.ref scr), some (.ref xo), some (.ref (xo + 52)), some (.ref (xo + 94)), some (.int (nI (7 * k))), l5, l6] [] τ2 DD Q) : HT G mL_law 708 [some (.ref scr), some (.ref xo), some (.ref (xo + 52)), some (.ref (xo + 94)), some (.int (nI (7 * k))), l5, l6] [] τ DD Q := by
  have D10 := dat dl_L_law_10
  have D11 := dat dl_L_law_11
  have hX := hL.1.1
  refine ht_aload_n (D10 17 rfl) rfl rfl ?_
  refine ht_aload_n (D10 18 rfl) rfl rfl ?_
  refine ht_iload (D10 19 rfl) rfl ?_
  refine ht_iconst (v := 1) (D10 20 rfl) (by decide) ?_
  refine ht_iadd (D10 21 rfl) ?_
  refine ht_ialdB (j := ((7 * k) + 1)) hSc (by first | rfl | exact nI_add _ _) (by omega) (by omega) (D10 22 rfl) ?_
  refine ht_aload_n (D10 23 rfl) rfl rfl ?_
  refine ht_iload (D10 24 rfl) rfl ?_
  refine ht_iconst (v := 2) (D10 25 rfl) (by decide) ?_
  refine ht_iadd (D10 26 rfl) ?_
  refine ht_ialdB (j := ((7 * k) + 2)) hSc (by first | rfl | exact nI_add _ _) (by omega) (by omega) (D10 27 rfl) ?_
  refine kVX9_needs (As := [_, _]) cl_L_82 (D10 28 rfl) (cl_needs hE hL hk _ _) hX.k0 rfl (Nat.le_of_ble_eq_true rfl) rfl (Nat.le_of_ble_eq_true rfl) (by omega) ?_
  rintro _ τ1 ⟨r, ⟨rfl, hk9⟩, hm⟩
  refine ht_aload_n (D10 29 rfl) rfl rfl ?_
  refine ht_aload_n (D10 30 rfl) rfl rfl ?_
  refine ht_iload (D10 31 rfl) rfl ?_
  refine ht_iconst (v := 1) (D10 32 rfl) (by decide) ?_
  refine ht_iadd (D10 33 rfl) ?_
  refine ht_ialdB (j := ((7 * k) + 1)) hSc (by first | rfl | exact nI_add _ _) (by omega) (by omega) (D10 34 rfl) ?_
  refine ht_aload_n (D10 35 rfl) rfl rfl ?_
  refine ht_iload (D10 36 rfl) rfl ?_
  refine ht_iconst (v := 2) (D10 37 rfl) (by decide) ?_
  refine ht_iadd (D10 38 rfl) ?_
  refine ht_ialdB (j := ((7 * k) + 2)) hSc (by first | rfl | exact nI_add _ _) (by omega) (by omega) (D10 39 rfl) ?_
  refine kVX10_needs (As := [_, _]) cl_L_85 (D11 0 rfl) hm hk9 rfl (Nat.le_of_ble_eq_true rfl) rfl (Nat.le_of_ble_eq_true rfl) (by omega) ?_
  rintro _ τ2 ⟨rfl, hLI⟩
  refine ht_icmp_eq (tgt := 1144) (D11 1 rfl) (by decide) (fun hb740 => ?_) (fun hb740 => ?_)
  · skip
    exact ht_cast (kk _ hLI) rfl rfl rfl
  · skip
    exact absurd rfl hb740
set_option maxRecDepth 100000 in
theorem lw_first (hE : NE G) (hB : BK G ad aA aS aV) (hJ : ∀ i j, i < 22 → j < 22 → ad i = ad j → i = j) (hL : LIc xo S9 k τ ρ b s T n h) (hk : k ≤ 600) (hz1 : zX τ + 22 ≤ gC G) (hz2 : zS τ + 3201 ≤ gS G) (hSc : ∀ U, gE G U → bArr G .int Ls (fun j => .int (xs j)) scr U) (hLs : Ls ≤ 3584) (hk7 : 7 * k + 7 ≤ Ls) (hDD : 46 ≤ DD) (kk : ∀ τ2, LI xo S9 (k + 1) τ2 → HT G mL_law 1144 [some (.ref scr), some (.ref xo), some (.ref (xo + 52)), some (.ref (xo + 94)), some (.int (nI (7 * k))), l5, l6] [] τ2 DD Q) : HT G mL_law 745 [some (.ref scr), some (.ref xo), some (.ref (xo + 52)), some (.ref (xo + 94)), some (.int (nI (7 * k))), l5, l6] [] τ DD Q := by
  have D11 := dat dl_L_law_11
  have hX := hL.1.1
  refine ht_aload_n (D11 4 rfl) rfl rfl ?_
  refine ht_aload_n (D11 5 rfl) rfl rfl ?_
  refine ht_iload (D11 6 rfl) rfl ?_
  refine ht_iconst (v := 1) (D11 7 rfl) (by decide) ?_
  refine ht_iadd (D11 8 rfl) ?_
  refine ht_ialdB (j := ((7 * k) + 1)) hSc (by first | rfl | exact nI_add _ _) (by omega) (by omega) (D11 9 rfl) ?_
  refine ht_aload_n (D11 10 rfl) rfl rfl ?_
  refine ht_iload (D11 11 rfl) rfl ?_
  refine ht_iconst (v := 2) (D11 12 rfl) (by decide) ?_
  refine ht_iadd (D11 13 rfl) ?_
  refine ht_ialdB (j := ((7 * k) + 2)) hSc (by first | rfl | exact nI_add _ _) (by omega) (by omega) (D11 14 rfl) ?_
  refine kVX9_first (As := [_, _]) cl_L_86 (D11 15 rfl) (cl_first hE hL hk _ _) hX.k0 rfl (Nat.le_of_ble_eq_true rfl) rfl (Nat.le_of_ble_eq_true rfl) (by omega) ?_
  rintro _ τ1 ⟨r, ⟨rfl, hk9⟩, hm⟩
  refine ht_aload_n (D11 16 rfl) rfl rfl ?_
  refine ht_aload_n (D11 17 rfl) rfl rfl ?_
  refine ht_iload (D11 18 rfl) rfl ?_
  refine ht_iconst (v := 1) (D11 19 rfl) (by decide) ?_
  refine ht_iadd (D11 20 rfl) ?_
  refine ht_ialdB (j := ((7 * k) + 1)) hSc (by first | rfl | exact nI_add _ _) (by omega) (by omega) (D11 21 rfl) ?_
  refine ht_aload_n (D11 22 rfl) rfl rfl ?_
  refine ht_iload (D11 23 rfl) rfl ?_
  refine ht_iconst (v := 2) (D11 24 rfl) (by decide) ?_
  refine ht_iadd (D11 25 rfl) ?_
  refine ht_ialdB (j := ((7 * k) + 2)) hSc (by first | rfl | exact nI_add _ _) (by omega) (by omega) (D11 26 rfl) ?_
  refine kVX10_first (As := [_, _]) cl_L_89 (D11 27 rfl) hm hk9 rfl (Nat.le_of_ble_eq_true rfl) rfl (Nat.le_of_ble_eq_true rfl) (by omega) ?_
  rintro _ τ2 ⟨rfl, hLI⟩
  refine ht_icmp_eq (tgt := 1144) (D11 28 rfl) (by decide) (fun hb777 => ?_) (fun hb777 => ?_)
  · skip
    exact ht_cast (kk _ hLI) rfl rfl rfl
  · skip
    exact absurd rfl hb777
set_option maxRecDepth 100000 in
theorem lw_enough (hE : NE G) (hB : BK G ad aA aS aV) (hJ : ∀ i j, i < 22 → j < 22 → ad i = ad j → i = j) (hL : LIc xo S9 k τ ρ b s T n h) (hk : k ≤ 600) (hz1 : zX τ + 22 ≤ gC G) (hz2 : zS τ + 3201 ≤ gS G) (hSc : ∀ U, gE G U → bArr G .int Ls (fun j => .int (xs j)) scr U) (hLs : Ls ≤ 3584) (hk7 : 7 * k + 7 ≤ Ls) (hDD : 46 ≤ DD) (kk : ∀ τ2, LI xo S9 (k + 1) τ2 → HT G mL_law 1144 [some (.ref scr), some (.ref xo), some (.ref (xo + 52)), some (.ref (xo + 94)), some (.int (nI (7 * k))), l5, l6] [] τ2 DD Q) : HT G mL_law 782 [some (.ref scr), some (.ref xo), some (.ref (xo + 52)), some (.ref (xo + 94)), some (.int (nI (7 * k))), l5, l6] [] τ DD Q := by
  have D11 := dat dl_L_law_11
  have D12 := dat dl_L_law_12
  have hX := hL.1.1
  refine ht_aload_n (D11 31 rfl) rfl rfl ?_
  refine ht_aload_n (D11 32 rfl) rfl rfl ?_
  refine ht_iload (D11 33 rfl) rfl ?_
  refine ht_iconst (v := 1) (D11 34 rfl) (by decide) ?_
  refine ht_iadd (D11 35 rfl) ?_
  refine ht_ialdB (j := ((7 * k) + 1)) hSc (by first | rfl | exact nI_add _ _) (by omega) (by omega) (D11 36 rfl) ?_
  refine ht_aload_n (D11 37 rfl) rfl rfl ?_
  refine ht_iload (D11 38 rfl) rfl ?_
  refine ht_iconst (v := 2) (D11 39 rfl) (by decide) ?_
  refine ht_iadd (D12 0 rfl) ?_
  refine ht_ialdB (j := ((7 * k) + 2)) hSc (by first | rfl | exact nI_add _ _) (by omega) (by omega) (D12 1 rfl) ?_
  refine kVX9_enough (As := [_, _]) cl_L_90 (D12 2 rfl) (cl_enough hE hL hk _ _) hX.k0 rfl (Nat.le_of_ble_eq_true rfl) rfl (Nat.le_of_ble_eq_true rfl) (by omega) ?_
  rintro _ τ1 ⟨r, ⟨rfl, hk9⟩, hm⟩
  refine ht_aload_n (D12 3 rfl) rfl rfl ?_
  refine ht_aload_n (D12 4 rfl) rfl rfl ?_
  refine ht_iload (D12 5 rfl) rfl ?_
  refine ht_iconst (v := 1) (D12 6 rfl) (by decide) ?_
  refine ht_iadd (D12 7 rfl) ?_
  refine ht_ialdB (j := ((7 * k) + 1)) hSc (by first | rfl | exact nI_add _ _) (by omega) (by omega) (D12 8 rfl) ?_
  refine ht_aload_n (D12 9 rfl) rfl rfl ?_
  refine ht_iload (D12 10 rfl) rfl ?_
  refine ht_iconst (v := 2) (D12 11 rfl) (by decide) ?_
  refine ht_iadd (D12 12 rfl) ?_
  refine ht_ialdB (j := ((7 * k) + 2)) hSc (by first | rfl | exact nI_add _ _) (by omega) (by omega) (D12 13 rfl) ?_
  refine kVX10_enough (As := [_, _]) cl_L_93 (D12 14 rfl) hm hk9 rfl (Nat.le_of_ble_eq_true rfl) rfl (Nat.le_of_ble_eq_true rfl) (by omega) ?_
  rintro _ τ2 ⟨rfl, hLI⟩
  refine ht_icmp_eq (tgt := 1144) (D12 15 rfl) (by decide) (fun hb814 => ?_) (fun hb814 => ?_)
  · skip
    exact ht_cast (kk _ hLI) rfl rfl rfl
  · skip
    exact absurd rfl hb814
set_option maxRecDepth 100000 in
theorem lw_plan (hE : NE G) (hB : BK G ad aA aS aV) (hJ : ∀ i j, i < 22 → j < 22 → ad i = ad j → i = j) (hL : LIc xo S9 k τ ρ b s T n h) (hk : k ≤ 600) (hz1 : zX τ + 22 ≤ gC G) (hz2 : zS τ + 3201 ≤ gS G) (hSc : ∀ U, gE G U → bArr G .int Ls (fun j => .int (xs j)) scr U) (hLs : Ls ≤ 3584) (hk7 : 7 * k + 7 ≤ Ls) (hDD : 46 ≤ DD) (kk : ∀ τ2, LI xo S9 (k + 1) τ2 → HT G mL_law 1144 [some (.ref scr), some (.ref xo), some (.ref (xo + 52)), some (.ref (xo + 94)), some (.int (nI (7 * k))), l5, l6] [] τ2 DD Q) : HT G mL_law 819 [some (.ref scr), some (.ref xo), some (.ref (xo + 52)), some (.ref (xo + 94)), some (.int (nI (7 * k))), l5, l6] [] τ DD Q := by
  have D12 := dat dl_L_law_12
  have D13 := dat dl_L_law_13
  have hX := hL.1.1
  refine ht_aload_n (D12 18 rfl) rfl rfl ?_
  refine ht_aload_n (D12 19 rfl) rfl rfl ?_
  refine ht_iload (D12 20 rfl) rfl ?_
  refine ht_iconst (v := 1) (D12 21 rfl) (by decide) ?_
  refine ht_iadd (D12 22 rfl) ?_
  refine ht_ialdB (j := ((7 * k) + 1)) hSc (by first | rfl | exact nI_add _ _) (by omega) (by omega) (D12 23 rfl) ?_
  refine ht_aload_n (D12 24 rfl) rfl rfl ?_
  refine ht_iload (D12 25 rfl) rfl ?_
  refine ht_iconst (v := 2) (D12 26 rfl) (by decide) ?_
  refine ht_iadd (D12 27 rfl) ?_
  refine ht_ialdB (j := ((7 * k) + 2)) hSc (by first | rfl | exact nI_add _ _) (by omega) (by omega) (D12 28 rfl) ?_
  refine kVX9_plan (As := [_, _]) cl_L_94 (D12 29 rfl) (cl_plan hE hL hk _ _) hX.k0 rfl (Nat.le_of_ble_eq_true rfl) rfl (Nat.le_of_ble_eq_true rfl) (by omega) ?_
  rintro _ τ1 ⟨r, ⟨rfl, hk9⟩, hm⟩
  refine ht_aload_n (D12 30 rfl) rfl rfl ?_
  refine ht_aload_n (D12 31 rfl) rfl rfl ?_
  refine ht_iload (D12 32 rfl) rfl ?_
  refine ht_iconst (v := 1) (D12 33 rfl) (by decide) ?_
  refine ht_iadd (D12 34 rfl) ?_
  refine ht_ialdB (j := ((7 * k) + 1)) hSc (by first | rfl | exact nI_add _ _) (by omega) (by omega) (D12 35 rfl) ?_
  refine ht_aload_n (D12 36 rfl) rfl rfl ?_
  refine ht_iload (D12 37 rfl) rfl ?_
  refine ht_iconst (v := 2) (D12 38 rfl) (by decide) ?_
  refine ht_iadd (D12 39 rfl) ?_
  refine ht_ialdB (j := ((7 * k) + 2)) hSc (by first | rfl | exact nI_add _ _) (by omega) (by omega) (D13 0 rfl) ?_
  refine kVX10_plan (As := [_, _]) cl_L_97 (D13 1 rfl) hm hk9 rfl (Nat.le_of_ble_eq_true rfl) rfl (Nat.le_of_ble_eq_true rfl) (by omega) ?_
  rintro _ τ2 ⟨rfl, hLI⟩
  refine ht_icmp_eq (tgt := 1144) (D13 2 rfl) (by decide) (fun hb851 => ?_) (fun hb851 => ?_)
  · skip
    exact ht_cast (kk _ hLI) rfl rfl rfl
  · skip
    exact absurd rfl hb851
set_option maxRecDepth 100000 in
theorem lw_escape (hE : NE G) (hB : BK G ad aA aS aV) (hJ : ∀ i j, i < 22 → j < 22 → ad i = ad j → i = j) (hL : LIc xo S9 k τ ρ b s T n h) (hk : k ≤ 600) (hz1 : zX τ + 22 ≤ gC G) (hz2 : zS τ + 3201 ≤ gS G) (hSc : ∀ U, gE G U → bArr G .int Ls (fun j => .int (xs j)) scr U) (hLs : Ls ≤ 3584) (hk7 : 7 * k + 7 ≤ Ls) (hDD : 46 ≤ DD) (kk : ∀ τ2, LI xo S9 (k + 1) τ2 → HT G mL_law 1144 [some (.ref scr), some (.ref xo), some (.ref (xo + 52)), some (.ref (xo + 94)), some (.int (nI (7 * k))), l5, l6] [] τ2 DD Q) : HT G mL_law 856 [some (.ref scr), some (.ref xo), some (.ref (xo + 52)), some (.ref (xo + 94)), some (.int (nI (7 * k))), l5, l6] [] τ DD Q := by
  have D13 := dat dl_L_law_13
  have hX := hL.1.1
  refine ht_aload_n (D13 5 rfl) rfl rfl ?_
  refine ht_aload_n (D13 6 rfl) rfl rfl ?_
  refine ht_iload (D13 7 rfl) rfl ?_
  refine ht_iconst (v := 1) (D13 8 rfl) (by decide) ?_
  refine ht_iadd (D13 9 rfl) ?_
  refine ht_ialdB (j := ((7 * k) + 1)) hSc (by first | rfl | exact nI_add _ _) (by omega) (by omega) (D13 10 rfl) ?_
  refine ht_aload_n (D13 11 rfl) rfl rfl ?_
  refine ht_iload (D13 12 rfl) rfl ?_
  refine ht_iconst (v := 2) (D13 13 rfl) (by decide) ?_
  refine ht_iadd (D13 14 rfl) ?_
  refine ht_ialdB (j := ((7 * k) + 2)) hSc (by first | rfl | exact nI_add _ _) (by omega) (by omega) (D13 15 rfl) ?_
  refine kVX9_escape (As := [_, _]) cl_L_98 (D13 16 rfl) (cl_escape hE hL hk _ _) hX.k0 rfl (Nat.le_of_ble_eq_true rfl) rfl (Nat.le_of_ble_eq_true rfl) (by omega) ?_
  rintro _ τ1 ⟨r, ⟨rfl, hk9⟩, hm⟩
  refine ht_aload_n (D13 17 rfl) rfl rfl ?_
  refine ht_aload_n (D13 18 rfl) rfl rfl ?_
  refine ht_iload (D13 19 rfl) rfl ?_
  refine ht_iconst (v := 1) (D13 20 rfl) (by decide) ?_
  refine ht_iadd (D13 21 rfl) ?_
  refine ht_ialdB (j := ((7 * k) + 1)) hSc (by first | rfl | exact nI_add _ _) (by omega) (by omega) (D13 22 rfl) ?_
  refine ht_aload_n (D13 23 rfl) rfl rfl ?_
  refine ht_iload (D13 24 rfl) rfl ?_
  refine ht_iconst (v := 2) (D13 25 rfl) (by decide) ?_
  refine ht_iadd (D13 26 rfl) ?_
  refine ht_ialdB (j := ((7 * k) + 2)) hSc (by first | rfl | exact nI_add _ _) (by omega) (by omega) (D13 27 rfl) ?_
  refine kVX10_escape (As := [_, _]) cl_L_101 (D13 28 rfl) hm hk9 rfl (Nat.le_of_ble_eq_true rfl) rfl (Nat.le_of_ble_eq_true rfl) (by omega) ?_
  rintro _ τ2 ⟨rfl, hLI⟩
  refine ht_icmp_eq (tgt := 1144) (D13 29 rfl) (by decide) (fun hb888 => ?_) (fun hb888 => ?_)
  · skip
    exact ht_cast (kk _ hLI) rfl rfl rfl
  · skip
    exact absurd rfl hb888
set_option maxRecDepth 100000 in
theorem lw_salted (hE : NE G) (hB : BK G ad aA aS aV) (hJ : ∀ i j, i < 22 → j < 22 → ad i = ad j → i = j) (hL : LIc xo S9 k τ ρ b s T n h) (hk : k ≤ 600) (hz1 : zX τ + 22 ≤ gC G) (hz2 : zS τ + 3201 ≤ gS G) (hSc : ∀ U, gE G U → bArr G .int Ls (fun j => .int (xs j)) scr U) (hLs : Ls ≤ 3584) (hk7 : 7 * k + 7 ≤ Ls) (hDD : 46 ≤ DD) (kk : ∀ τ2, LI xo S9 (k + 1) τ2 → HT G mL_law 1144 [some (.ref scr), some (.ref xo), some (.ref (xo + 52)), some (.ref (xo + 94)), some (.int (nI (7 * k))), l5, l6] [] τ2 DD Q) : HT G mL_law 893 [some (.ref scr), some (.ref xo), some (.ref (xo + 52)), some (.ref (xo + 94)), some (.int (nI (7 * k))), l5, l6] [] τ DD Q := by
  have D13 := dat dl_L_law_13
  have D14 := dat dl_L_law_14
  have hX := hL.1.1
  refine ht_aload_n (D13 32 rfl) rfl rfl ?_
  refine ht_aload_n (D13 33 rfl) rfl rfl ?_
  refine ht_iload (D13 34 rfl) rfl ?_
  refine ht_iconst (v := 1) (D13 35 rfl) (by decide) ?_
  refine ht_iadd (D13 36 rfl) ?_
  refine ht_ialdB (j := ((7 * k) + 1)) hSc (by first | rfl | exact nI_add _ _) (by omega) (by omega) (D13 37 rfl) ?_
  refine kVX9_salted (As := [_]) cl_L_102 (D13 38 rfl) (cl_salted hE hL hk _) hX.k0 rfl (Nat.le_of_ble_eq_true rfl) rfl (Nat.le_of_ble_eq_true rfl) (by omega) ?_
  rintro _ τ1 ⟨r, ⟨rfl, hk9⟩, hm⟩
  refine ht_aload_n (D13 39 rfl) rfl rfl ?_
  refine ht_aload_n (D14 0 rfl) rfl rfl ?_
  refine ht_iload (D14 1 rfl) rfl ?_
  refine ht_iconst (v := 1) (D14 2 rfl) (by decide) ?_
  refine ht_iadd (D14 3 rfl) ?_
  refine ht_ialdB (j := ((7 * k) + 1)) hSc (by first | rfl | exact nI_add _ _) (by omega) (by omega) (D14 4 rfl) ?_
  refine kVX10_salted (As := [_]) cl_L_105 (D14 5 rfl) hm hk9 rfl (Nat.le_of_ble_eq_true rfl) rfl (Nat.le_of_ble_eq_true rfl) (by omega) ?_
  rintro _ τ2 ⟨rfl, hLI⟩
  refine ht_icmp_eq (tgt := 1144) (D14 6 rfl) (by decide) (fun hb913 => ?_) (fun hb913 => ?_)
  · skip
    exact ht_cast (kk _ hLI) rfl rfl rfl
  · skip
    exact absurd rfl hb913
set_option maxRecDepth 100000 in
theorem lw_beside (hE : NE G) (hB : BK G ad aA aS aV) (hJ : ∀ i j, i < 22 → j < 22 → ad i = ad j → i = j) (hL : LIc xo S9 k τ ρ b s T n h) (hk : k ≤ 600) (hz1 : zX τ + 22 ≤ gC G) (hz2 : zS τ + 3201 ≤ gS G) (hSc : ∀ U, gE G U → bArr G .int Ls (fun j => .int (xs j)) scr U) (hLs : Ls ≤ 3584) (hk7 : 7 * k + 7 ≤ Ls) (hDD : 46 ≤ DD) (kk : ∀ τ2, LI xo S9 (k + 1) τ2 → HT G mL_law 1144 [some (.ref scr), some (.ref xo), some (.ref (xo + 52)), some (.ref (xo + 94)), some (.int (nI (7 * k))), l5, l6] [] τ2 DD Q) : HT G mL_law 918 [some (.ref scr), some (.ref xo), some (.ref (xo + 52)), some (.ref (xo + 94)), some (.int (nI (7 * k))), l5, l6] [] τ DD Q := by
  have D14 := dat dl_L_law_14
  have hX := hL.1.1
  refine ht_aload_n (D14 9 rfl) rfl rfl ?_
  refine ht_aload_n (D14 10 rfl) rfl rfl ?_
  refine ht_iload (D14 11 rfl) rfl ?_
  refine ht_iconst (v := 1) (D14 12 rfl) (by decide) ?_
  refine ht_iadd (D14 13 rfl) ?_
  refine ht_ialdB (j := ((7 * k) + 1)) hSc (by first | rfl | exact nI_add _ _) (by omega) (by omega) (D14 14 rfl) ?_
  refine kVX9_beside (As := [_]) cl_L_106 (D14 15 rfl) (cl_beside hE hL hk _) hX.k0 rfl (Nat.le_of_ble_eq_true rfl) rfl (Nat.le_of_ble_eq_true rfl) (by omega) ?_
  rintro _ τ1 ⟨r, ⟨rfl, hk9⟩, hm⟩
  refine ht_aload_n (D14 16 rfl) rfl rfl ?_
  refine ht_aload_n (D14 17 rfl) rfl rfl ?_
  refine ht_iload (D14 18 rfl) rfl ?_
  refine ht_iconst (v := 1) (D14 19 rfl) (by decide) ?_
  refine ht_iadd (D14 20 rfl) ?_
  refine ht_ialdB (j := ((7 * k) + 1)) hSc (by first | rfl | exact nI_add _ _) (by omega) (by omega) (D14 21 rfl) ?_
  refine kVX10_beside (As := [_]) cl_L_109 (D14 22 rfl) hm hk9 rfl (Nat.le_of_ble_eq_true rfl) rfl (Nat.le_of_ble_eq_true rfl) (by omega) ?_
  rintro _ τ2 ⟨rfl, hLI⟩
  refine ht_icmp_eq (tgt := 1144) (D14 23 rfl) (by decide) (fun hb938 => ?_) (fun hb938 => ?_)
  · skip
    exact ht_cast (kk _ hLI) rfl rfl rfl
  · skip
    exact absurd rfl hb938
set_option maxRecDepth 100000 in
theorem lw_thaw (hE : NE G) (hB : BK G ad aA aS aV) (hJ : ∀ i j, i < 22 → j < 22 → ad i = ad j → i = j) (hL : LIc xo S9 k τ ρ b s T n h) (hk : k ≤ 600) (hz1 : zX τ + 22 ≤ gC G) (hz2 : zS τ + 3201 ≤ gS G) (hSc : ∀ U, gE G U → bArr G .int Ls (fun j => .int (xs j)) scr U) (hLs : Ls ≤ 3584) (hk7 : 7 * k + 7 ≤ Ls) (hDD : 46 ≤ DD) (kk : ∀ τ2, LI xo S9 (k + 1) τ2 → HT G mL_law 1144 [some (.ref scr), some (.ref xo), some (.ref (xo + 52)), some (.ref (xo + 94)), some (.int (nI (7 * k))), l5, l6] [] τ2 DD Q) : HT G mL_law 943 [some (.ref scr), some (.ref xo), some (.ref (xo + 52)), some (.ref (xo + 94)), some (.int (nI (7 * k))), l5, l6] [] τ DD Q := by
  have D14 := dat dl_L_law_14
  have D15 := dat dl_L_law_15
  have hX := hL.1.1
  refine ht_aload_n (D14 26 rfl) rfl rfl ?_
  refine ht_aload_n (D14 27 rfl) rfl rfl ?_
  refine ht_iload (D14 28 rfl) rfl ?_
  refine ht_iconst (v := 1) (D14 29 rfl) (by decide) ?_
  refine ht_iadd (D14 30 rfl) ?_
  refine ht_ialdB (j := ((7 * k) + 1)) hSc (by first | rfl | exact nI_add _ _) (by omega) (by omega) (D14 31 rfl) ?_
  refine kVX9_thaw (As := [_]) cl_L_110 (D14 32 rfl) (cl_thaw hE hL hk _) hX.k0 rfl (Nat.le_of_ble_eq_true rfl) rfl (Nat.le_of_ble_eq_true rfl) (by omega) ?_
  rintro _ τ1 ⟨r, ⟨rfl, hk9⟩, hm⟩
  refine ht_aload_n (D14 33 rfl) rfl rfl ?_
  refine ht_aload_n (D14 34 rfl) rfl rfl ?_
  refine ht_iload (D14 35 rfl) rfl ?_
  refine ht_iconst (v := 1) (D14 36 rfl) (by decide) ?_
  refine ht_iadd (D14 37 rfl) ?_
  refine ht_ialdB (j := ((7 * k) + 1)) hSc (by first | rfl | exact nI_add _ _) (by omega) (by omega) (D14 38 rfl) ?_
  refine kVX10_thaw (As := [_]) cl_L_113 (D14 39 rfl) hm hk9 rfl (Nat.le_of_ble_eq_true rfl) rfl (Nat.le_of_ble_eq_true rfl) (by omega) ?_
  rintro _ τ2 ⟨rfl, hLI⟩
  refine ht_icmp_eq (tgt := 1144) (D15 0 rfl) (by decide) (fun hb963 => ?_) (fun hb963 => ?_)
  · skip
    exact ht_cast (kk _ hLI) rfl rfl rfl
  · skip
    exact absurd rfl hb963
set_option maxRecDepth 100000 in
theorem lw_amnesty (hE : NE G) (hB : BK G ad aA aS aV) (hJ : ∀ i j, i < 22 → j < 22 → ad i = ad j → i = j) (hL : LIc xo S9 k τ ρ b s T n h) (hk : k ≤ 600) (hz1 : zX τ + 22 ≤ gC G) (hz2 : zS τ + 3201 ≤ gS G) (hSc : ∀ U, gE G U → bArr G .int Ls (fun j => .int (xs j)) scr U) (hLs : Ls ≤ 3584) (hk7 : 7 * k + 7 ≤ Ls) (hDD : 46 ≤ DD) (kk : ∀ τ2, LI xo S9 (k + 1) τ2 → HT G mL_law 1144 [some (.ref scr), some (.ref xo), some (.ref (xo + 52)), some (.ref (xo + 94)), some (.int (nI (7 * k))), l5, l6] [] τ2 DD Q) : HT G mL_law 968 [some (.ref scr), some (.ref xo), some (.ref (xo + 52)), some (.ref (xo + 94)), some (.int (nI (7 * k))), l5, l6] [] τ DD Q := by
  have D15 := dat dl_L_law_15
  have hX := hL.1.1
  refine ht_aload_n (D15 3 rfl) rfl rfl ?_
  refine ht_aload_n (D15 4 rfl) rfl rfl ?_
  refine ht_iload (D15 5 rfl) rfl ?_
  refine ht_iconst (v := 1) (D15 6 rfl) (by decide) ?_
  refine ht_iadd (D15 7 rfl) ?_
  refine ht_ialdB (j := ((7 * k) + 1)) hSc (by first | rfl | exact nI_add _ _) (by omega) (by omega) (D15 8 rfl) ?_
  refine ht_aload_n (D15 9 rfl) rfl rfl ?_
  refine ht_iload (D15 10 rfl) rfl ?_
  refine ht_iconst (v := 2) (D15 11 rfl) (by decide) ?_
  refine ht_iadd (D15 12 rfl) ?_
  refine ht_ialdB (j := ((7 * k) + 2)) hSc (by first | rfl | exact nI_add _ _) (by omega) (by omega) (D15 13 rfl) ?_
  refine kVX9_amnesty (As := [_, _]) cl_L_114 (D15 14 rfl) (cl_amnesty hE hL hk _ _) hX.k0 rfl (Nat.le_of_ble_eq_true rfl) rfl (Nat.le_of_ble_eq_true rfl) (by omega) ?_
  rintro _ τ1 ⟨r, ⟨rfl, hk9⟩, hm⟩
  refine ht_aload_n (D15 15 rfl) rfl rfl ?_
  refine ht_aload_n (D15 16 rfl) rfl rfl ?_
  refine ht_iload (D15 17 rfl) rfl ?_
  refine ht_iconst (v := 1) (D15 18 rfl) (by decide) ?_
  refine ht_iadd (D15 19 rfl) ?_
  refine ht_ialdB (j := ((7 * k) + 1)) hSc (by first | rfl | exact nI_add _ _) (by omega) (by omega) (D15 20 rfl) ?_
  refine ht_aload_n (D15 21 rfl) rfl rfl ?_
  refine ht_iload (D15 22 rfl) rfl ?_
  refine ht_iconst (v := 2) (D15 23 rfl) (by decide) ?_
  refine ht_iadd (D15 24 rfl) ?_
  refine ht_ialdB (j := ((7 * k) + 2)) hSc (by first | rfl | exact nI_add _ _) (by omega) (by omega) (D15 25 rfl) ?_
  refine kVX10_amnesty (As := [_, _]) cl_L_117 (D15 26 rfl) hm hk9 rfl (Nat.le_of_ble_eq_true rfl) rfl (Nat.le_of_ble_eq_true rfl) (by omega) ?_
  rintro _ τ2 ⟨rfl, hLI⟩
  refine ht_icmp_eq (tgt := 1144) (D15 27 rfl) (by decide) (fun hb1000 => ?_) (fun hb1000 => ?_)
  · skip
    exact ht_cast (kk _ hLI) rfl rfl rfl
  · skip
    exact absurd rfl hb1000
set_option maxRecDepth 100000 in
theorem lw_lots (hE : NE G) (hB : BK G ad aA aS aV) (hJ : ∀ i j, i < 22 → j < 22 → ad i = ad j → i = j) (hL : LIc xo S9 k τ ρ b s T n h) (hk : k ≤ 600) (hz1 : zX τ + 22 ≤ gC G) (hz2 : zS τ + 3201 ≤ gS G) (hSc : ∀ U, gE G U → bArr G .int Ls (fun j => .int (xs j)) scr U) (hLs : Ls ≤ 3584) (hk7 : 7 * k + 7 ≤ Ls) (hDD : 46 ≤ DD) (kk : ∀ τ2, LI xo S9 (k + 1) τ2 → HT G mL_law 1144 [some (.ref scr), some (.ref xo), some (.ref (xo + 52)), some (.ref (xo + 94)), some (.int (nI (7 * k))), l5, l6] [] τ2 DD Q) : HT G mL_law 1005 [some (.ref scr), some (.ref xo), some (.ref (xo + 52)), some (.ref (xo + 94)), some (.int (nI (7 * k))), l5, l6] [] τ DD Q := by
  have D15 := dat dl_L_law_15
  have D16 := dat dl_L_law_16
  have hX := hL.1.1
  refine ht_aload_n (D15 30 rfl) rfl rfl ?_
  refine ht_aload_n (D15 31 rfl) rfl rfl ?_
  refine ht_iload (D15 32 rfl) rfl ?_
  refine ht_iconst (v := 1) (D15 33 rfl) (by decide) ?_
  refine ht_iadd (D15 34 rfl) ?_
  refine ht_ialdB (j := ((7 * k) + 1)) hSc (by first | rfl | exact nI_add _ _) (by omega) (by omega) (D15 35 rfl) ?_
  refine ht_aload_n (D15 36 rfl) rfl rfl ?_
  refine ht_iload (D15 37 rfl) rfl ?_
  refine ht_iconst (v := 2) (D15 38 rfl) (by decide) ?_
  refine ht_iadd (D15 39 rfl) ?_
  refine ht_ialdB (j := ((7 * k) + 2)) hSc (by first | rfl | exact nI_add _ _) (by omega) (by omega) (D16 0 rfl) ?_
  refine ht_aload_n (D16 1 rfl) rfl rfl ?_
  refine ht_iload (D16 2 rfl) rfl ?_
  refine ht_iconst (v := 3) (D16 3 rfl) (by decide) ?_
  refine ht_iadd (D16 4 rfl) ?_
  refine ht_ialdB (j := ((7 * k) + 3)) hSc (by first | rfl | exact nI_add _ _) (by omega) (by omega) (D16 5 rfl) ?_
  refine ht_aload_n (D16 6 rfl) rfl rfl ?_
  refine ht_iload (D16 7 rfl) rfl ?_
  refine ht_iconst (v := 4) (D16 8 rfl) (by decide) ?_
  refine ht_iadd (D16 9 rfl) ?_
  refine ht_ialdB (j := ((7 * k) + 4)) hSc (by first | rfl | exact nI_add _ _) (by omega) (by omega) (D16 10 rfl) ?_
  refine kVX9_lots (As := [_, _, _, _]) cl_L_118 (D16 11 rfl) (cl_lots hE hL hk (Nat.le_trans (Nat.add_le_add_left (by decide) _) hz1) (Nat.le_trans (Nat.add_le_add_left (by decide) _) hz2) _ _ _ _) hX.k0 rfl (Nat.le_of_ble_eq_true rfl) rfl (Nat.le_of_ble_eq_true rfl) (by omega) ?_
  rintro _ τ1 ⟨r, ⟨rfl, hk9⟩, hm⟩
  refine ht_aload_n (D16 12 rfl) rfl rfl ?_
  refine ht_aload_n (D16 13 rfl) rfl rfl ?_
  refine ht_iload (D16 14 rfl) rfl ?_
  refine ht_iconst (v := 1) (D16 15 rfl) (by decide) ?_
  refine ht_iadd (D16 16 rfl) ?_
  refine ht_ialdB (j := ((7 * k) + 1)) hSc (by first | rfl | exact nI_add _ _) (by omega) (by omega) (D16 17 rfl) ?_
  refine ht_aload_n (D16 18 rfl) rfl rfl ?_
  refine ht_iload (D16 19 rfl) rfl ?_
  refine ht_iconst (v := 2) (D16 20 rfl) (by decide) ?_
  refine ht_iadd (D16 21 rfl) ?_
  refine ht_ialdB (j := ((7 * k) + 2)) hSc (by first | rfl | exact nI_add _ _) (by omega) (by omega) (D16 22 rfl) ?_
  refine ht_aload_n (D16 23 rfl) rfl rfl ?_
  refine ht_iload (D16 24 rfl) rfl ?_
  refine ht_iconst (v := 3) (D16 25 rfl) (by decide) ?_
  refine ht_iadd (D16 26 rfl) ?_
  refine ht_ialdB (j := ((7 * k) + 3)) hSc (by first | rfl | exact nI_add _ _) (by omega) (by omega) (D16 27 rfl) ?_
  refine ht_aload_n (D16 28 rfl) rfl rfl ?_
  refine ht_iload (D16 29 rfl) rfl ?_
  refine ht_iconst (v := 4) (D16 30 rfl) (by decide) ?_
  refine ht_iadd (D16 31 rfl) ?_
  refine ht_ialdB (j := ((7 * k) + 4)) hSc (by first | rfl | exact nI_add _ _) (by omega) (by omega) (D16 32 rfl) ?_
  refine kVX10_lots (As := [_, _, _, _]) cl_L_122 (D16 33 rfl) hm hk9 rfl (Nat.le_of_ble_eq_true rfl) rfl (Nat.le_of_ble_eq_true rfl) (by omega) ?_
  rintro _ τ2 ⟨rfl, hLI⟩
  refine ht_icmp_eq (tgt := 1144) (D16 34 rfl) (by decide) (fun hb1061 => ?_) (fun hb1061 => ?_)
  · skip
    exact ht_cast (kk _ hLI) rfl rfl rfl
  · skip
    exact absurd rfl hb1061
set_option maxRecDepth 100000 in
theorem lw_mark (hE : NE G) (hB : BK G ad aA aS aV) (hJ : ∀ i j, i < 22 → j < 22 → ad i = ad j → i = j) (hL : LIc xo S9 k τ ρ b s T n h) (hk : k ≤ 600) (hz1 : zX τ + 22 ≤ gC G) (hz2 : zS τ + 3201 ≤ gS G) (hSc : ∀ U, gE G U → bArr G .int Ls (fun j => .int (xs j)) scr U) (hLs : Ls ≤ 3584) (hk7 : 7 * k + 7 ≤ Ls) (hDD : 46 ≤ DD) (kk : ∀ τ2, LI xo S9 (k + 1) τ2 → HT G mL_law 1144 [some (.ref scr), some (.ref xo), some (.ref (xo + 52)), some (.ref (xo + 94)), some (.int (nI (7 * k))), l5, l6] [] τ2 DD Q) : HT G mL_law 1066 [some (.ref scr), some (.ref xo), some (.ref (xo + 52)), some (.ref (xo + 94)), some (.int (nI (7 * k))), l5, l6] [] τ DD Q := by
  have D16 := dat dl_L_law_16
  have D17 := dat dl_L_law_17
  have hX := hL.1.1
  refine ht_aload_n (D16 37 rfl) rfl rfl ?_
  refine ht_aload_n (D16 38 rfl) rfl rfl ?_
  refine ht_iload (D16 39 rfl) rfl ?_
  refine ht_iconst (v := 1) (D17 0 rfl) (by decide) ?_
  refine ht_iadd (D17 1 rfl) ?_
  refine ht_ialdB (j := ((7 * k) + 1)) hSc (by first | rfl | exact nI_add _ _) (by omega) (by omega) (D17 2 rfl) ?_
  refine ht_aload_n (D17 3 rfl) rfl rfl ?_
  refine ht_iload (D17 4 rfl) rfl ?_
  refine ht_iconst (v := 2) (D17 5 rfl) (by decide) ?_
  refine ht_iadd (D17 6 rfl) ?_
  refine ht_ialdB (j := ((7 * k) + 2)) hSc (by first | rfl | exact nI_add _ _) (by omega) (by omega) (D17 7 rfl) ?_
  refine ht_if_eq (tgt := 1086) (D17 8 rfl) (by decide) (fun hb1079 => ?_) (fun hb1079 => ?_)
  · skip
    refine ht_iconst (v := 0) (D17 11 rfl) (by decide) ?_
    refine kVX9_mark (As := [_, _]) cl_L_123 (D17 12 rfl) (cl_mark hE hL (Nat.le_trans (Nat.add_le_add_left (by decide) _) hz1) (Nat.le_trans (Nat.add_le_add_left (by decide) _) hz2) _ _) hX.k0 rfl (Nat.le_of_ble_eq_true rfl) rfl (Nat.le_of_ble_eq_true rfl) (by omega) ?_
    rintro _ τ1 ⟨r, ⟨rfl, hk9⟩, hm⟩
    refine ht_aload_n (D17 13 rfl) rfl rfl ?_
    refine ht_aload_n (D17 14 rfl) rfl rfl ?_
    refine ht_iload (D17 15 rfl) rfl ?_
    refine ht_iconst (v := 1) (D17 16 rfl) (by decide) ?_
    refine ht_iadd (D17 17 rfl) ?_
    refine ht_ialdB (j := ((7 * k) + 1)) hSc (by first | rfl | exact nI_add _ _) (by omega) (by omega) (D17 18 rfl) ?_
    refine ht_aload_n (D17 19 rfl) rfl rfl ?_
    refine ht_iload (D17 20 rfl) rfl ?_
    refine ht_iconst (v := 2) (D17 21 rfl) (by decide) ?_
    refine ht_iadd (D17 22 rfl) ?_
    refine ht_ialdB (j := ((7 * k) + 2)) hSc (by first | rfl | exact nI_add _ _) (by omega) (by omega) (D17 23 rfl) ?_
    refine ht_if_eq (tgt := 1110) (D17 24 rfl) (by decide) (fun hb1103 => ?_) (fun hb1103 => ?_)
    · skip
      refine ht_iconst (v := 0) (D17 27 rfl) (by decide) ?_
      refine kVX10_mark (As := [_, _]) cl_L_127 (D17 28 rfl) hm hk9 rfl (Nat.le_of_ble_eq_true rfl) rfl (Nat.le_of_ble_eq_true rfl) (by omega) ?_
      rintro _ τ2 ⟨rfl, hLI⟩
      refine ht_icmp_eq (tgt := 1144) (D17 29 rfl) (by decide) (fun hb1114 => ?_) (fun hb1114 => ?_)
      · skip
        exact ht_cast (kk _ hLI) rfl rfl rfl
      · skip
        exact absurd rfl hb1114
    · skip
      exact absurd hb1079 hb1103
  · skip
    refine ht_iconst (v := 1) (D17 9 rfl) (by decide) ?_
    refine ht_goto (tgt := 1087) (D17 10 rfl) (by decide) ?_
    refine kVX9_mark (As := [_, _]) cl_L_123 (D17 12 rfl) (cl_mark hE hL (Nat.le_trans (Nat.add_le_add_left (by decide) _) hz1) (Nat.le_trans (Nat.add_le_add_left (by decide) _) hz2) _ _) hX.k0 rfl (Nat.le_of_ble_eq_true rfl) rfl (Nat.le_of_ble_eq_true rfl) (by omega) ?_
    rintro _ τ1 ⟨r, ⟨rfl, hk9⟩, hm⟩
    refine ht_aload_n (D17 13 rfl) rfl rfl ?_
    refine ht_aload_n (D17 14 rfl) rfl rfl ?_
    refine ht_iload (D17 15 rfl) rfl ?_
    refine ht_iconst (v := 1) (D17 16 rfl) (by decide) ?_
    refine ht_iadd (D17 17 rfl) ?_
    refine ht_ialdB (j := ((7 * k) + 1)) hSc (by first | rfl | exact nI_add _ _) (by omega) (by omega) (D17 18 rfl) ?_
    refine ht_aload_n (D17 19 rfl) rfl rfl ?_
    refine ht_iload (D17 20 rfl) rfl ?_
    refine ht_iconst (v := 2) (D17 21 rfl) (by decide) ?_
    refine ht_iadd (D17 22 rfl) ?_
    refine ht_ialdB (j := ((7 * k) + 2)) hSc (by first | rfl | exact nI_add _ _) (by omega) (by omega) (D17 23 rfl) ?_
    refine ht_if_eq (tgt := 1110) (D17 24 rfl) (by decide) (fun hb1103 => ?_) (fun hb1103 => ?_)
    · skip
      exact absurd hb1103 hb1079
    · skip
      refine ht_iconst (v := 1) (D17 25 rfl) (by decide) ?_
      refine ht_goto (tgt := 1111) (D17 26 rfl) (by decide) ?_
      refine kVX10_mark (As := [_, _]) cl_L_127 (D17 28 rfl) hm hk9 rfl (Nat.le_of_ble_eq_true rfl) rfl (Nat.le_of_ble_eq_true rfl) (by omega) ?_
      rintro _ τ2 ⟨rfl, hLI⟩
      refine ht_icmp_eq (tgt := 1144) (D17 29 rfl) (by decide) (fun hb1114 => ?_) (fun hb1114 => ?_)
      · skip
        exact ht_cast (kk _ hLI) rfl rfl rfl
      · skip
        exact absurd rfl hb1114
set_option maxRecDepth 100000 in
theorem lw_count (hE : NE G) (hB : BK G ad aA aS aV) (hJ : ∀ i j, i < 22 → j < 22 → ad i = ad j → i = j) (hL : LIc xo S9 k τ ρ b s T n h) (hk : k ≤ 600) (hz1 : zX τ + 22 ≤ gC G) (hz2 : zS τ + 3201 ≤ gS G) (hSc : ∀ U, gE G U → bArr G .int Ls (fun j => .int (xs j)) scr U) (hLs : Ls ≤ 3584) (hk7 : 7 * k + 7 ≤ Ls) (hDD : 46 ≤ DD) (kk : ∀ τ2, LI xo S9 (k + 1) τ2 → HT G mL_law 1144 [some (.ref scr), some (.ref xo), some (.ref (xo + 52)), some (.ref (xo + 94)), some (.int (nI (7 * k))), l5, l6] [] τ2 DD Q) : HT G mL_law 1119 [some (.ref scr), some (.ref xo), some (.ref (xo + 52)), some (.ref (xo + 94)), some (.int (nI (7 * k))), l5, l6] [] τ DD Q := by
  have D17 := dat dl_L_law_17
  have D18 := dat dl_L_law_18
  have hX := hL.1.1
  refine ht_aload_n (D17 32 rfl) rfl rfl ?_
  refine ht_aload_n (D17 33 rfl) rfl rfl ?_
  refine ht_iload (D17 34 rfl) rfl ?_
  refine ht_iconst (v := 1) (D17 35 rfl) (by decide) ?_
  refine ht_iadd (D17 36 rfl) ?_
  refine ht_ialdB (j := ((7 * k) + 1)) hSc (by first | rfl | exact nI_add _ _) (by omega) (by omega) (D17 37 rfl) ?_
  refine kVX9_count (As := [_]) cl_L_128 (D17 38 rfl) (cl_count hE hL hk _) hX.k0 rfl (Nat.le_of_ble_eq_true rfl) rfl (Nat.le_of_ble_eq_true rfl) (by omega) ?_
  rintro _ τ1 ⟨r, ⟨rfl, hk9⟩, hm⟩
  refine ht_aload_n (D17 39 rfl) rfl rfl ?_
  refine ht_aload_n (D18 0 rfl) rfl rfl ?_
  refine ht_iload (D18 1 rfl) rfl ?_
  refine ht_iconst (v := 1) (D18 2 rfl) (by decide) ?_
  refine ht_iadd (D18 3 rfl) ?_
  refine ht_ialdB (j := ((7 * k) + 1)) hSc (by first | rfl | exact nI_add _ _) (by omega) (by omega) (D18 4 rfl) ?_
  refine kVX10_count (As := [_]) cl_L_131 (D18 5 rfl) hm hk9 rfl (Nat.le_of_ble_eq_true rfl) rfl (Nat.le_of_ble_eq_true rfl) (by omega) ?_
  rintro _ τ2 ⟨rfl, hLI⟩
  refine ht_icmp_eq (tgt := 1144) (D18 6 rfl) (by decide) (fun hb1139 => ?_) (fun hb1139 => ?_)
  · skip
    exact ht_cast (kk _ hLI) rfl rfl rfl
  · skip
    exact absurd rfl hb1139
end U4
