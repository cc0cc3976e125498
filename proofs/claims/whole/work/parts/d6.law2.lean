/-! ===== the law from its first instruction ===== -/
section U6
variable {G : GG} {ad : Nat → Nat} {aA aS aV : Nat} {σ : Hp} {xo Ls scr DD : Nat} {xs : Nat → Int32}
set_option maxRecDepth 100000 in
theorem lw_all (hE : NE G) (hB : BK G ad aA aS aV) (hJ : ∀ i j, i < 22 → j < 22 → ad i = ad j → i = j) (hSc : ∀ U, gE G U → bArr G .int Ls (fun j => .int (xs j)) scr U) (hLs : Ls ≤ 3584) (hDD : 46 ≤ DD) (hx : zX σ = xo) (hgC : xo + 95 + 22 * 513 ≤ gC G) (hgS : ∀ k, k ≤ 512 → zS σ + 10107 + 3201 * k + 3201 ≤ gS G) (hman : ∀ (k : Nat) (τ : Hp) (l5 l6 : Option Value), LI xo (zS σ + 10107) k τ → k ≤ 511 → 7 * k + 7 ≤ Ls → (∀ (τ2 : Hp) (l5 l6 : Option Value), LI xo (zS σ + 10107) (k + 1) τ2 → HT G mL_law 1144 [some (.ref scr), some (.ref xo), some (.ref (xo + 52)), some (.ref (xo + 94)), some (.int (nI (7 * k))), l5, l6] [] τ2 DD (fun rv _ => rv = some (.int 1))) → HT G mL_law 386 [some (.ref scr), some (.ref xo), some (.ref (xo + 52)), some (.ref (xo + 94)), some (.int (nI (7 * k))), l5, l6] [] τ DD (fun rv _ => rv = some (.int 1))) (hdegrees : ∀ (k : Nat) (τ : Hp) (l5 l6 : Option Value), LI xo (zS σ + 10107) k τ → k ≤ 511 → 7 * k + 7 ≤ Ls → (∀ (τ2 : Hp) (l5 l6 : Option Value), LI xo (zS σ + 10107) (k + 1) τ2 → HT G mL_law 1144 [some (.ref scr), some (.ref xo), some (.ref (xo + 52)), some (.ref (xo + 94)), some (.int (nI (7 * k))), l5, l6] [] τ2 DD (fun rv _ => rv = some (.int 1))) → HT G mL_law 454 [some (.ref scr), some (.ref xo), some (.ref (xo + 52)), some (.ref (xo + 94)), some (.int (nI (7 * k))), l5, l6] [] τ DD (fun rv _ => rv = some (.int 1))) : Sp G mL_law DD [.ref scr] σ (fun rv _ => rv = some (.int 1)) := by
  have D0 := dat dl_L_law_0
  have x1 := stA_x hx
  have x2 := stB_x hx
  have x3 := stT_x hx
  have hg0 := hgS 0 (by decide)
  show HT G mL_law 0 [some (.ref scr), none, none, none, none, none, none] [] σ DD _
  refine ht_new (ci := 8) (by decide) kk_L_8 ki_X9 kn_X9 (D0 0 rfl) (by omega) (by show zS σ + 9 ≤ gS G; omega) ?_
  rw [show (cT 8).2.2 = 9 from rfl, hx]
  refine ht_dup (D0 1 rfl) rfl ?_
  refine kIX9_init (As := []) cl_L_19 (D0 2 rfl) (sc_xinit (σ := nw σ 8 0 9) (xo := xo) hE (by rw [zK_nw, hx]; exact va_sm _ _ _) x1.1 (by rw [x1.1]; omega) (by show zS σ + 9 + 1807 ≤ gS G; omega)) rfl (Nat.le_of_ble_eq_true rfl) rfl (Nat.le_of_ble_eq_true rfl) (by omega) ?_
  rintro _ _ ⟨rfl, rfl⟩
  refine ht_astore_n (D0 3 rfl) rfl (by decide) rfl ?_
  refine ht_new (ci := 9) (by decide) kk_L_20 ki_X10 kn_X10 (D0 4 rfl) (by show zX (stA σ xo) + 1 ≤ gC G; omega) (by show zS (stA σ xo) + 57 ≤ gS G; omega) ?_
  show HT G mL_law 11 _ (.ref (zX (stA σ xo)) :: _) (nw (stA σ xo) 9 0 57) DD _
  rw [x1.2.1]
  refine ht_dup (D0 5 rfl) rfl ?_
  refine kIX10_init (As := []) cl_L_22 (D0 6 rfl) (sc_minit (σ := nw (stA σ xo) 9 0 57) (b := xo + 52) (by rw [zK_nw, x1.2.1]; exact va_sm _ _ _) (by rw [zX_nw, x1.2.1]; omega) (by rw [zX_nw, x1.2.1]; omega) (by rw [zS_nw, x1.2.2]; omega)) rfl (Nat.le_of_ble_eq_true rfl) rfl (Nat.le_of_ble_eq_true rfl) (by omega) ?_
  rintro _ _ ⟨rfl, rfl⟩
  refine ht_astore_n (D0 7 rfl) rfl (by decide) rfl ?_
  show HT G mL_law 16 _ _ (stB σ xo) DD _
  refine ht_iconst (v := 1) (D0 8 rfl) (by decide) ?_
  refine ht_newa (atype := .long) (k := 21) (N := 1) (by decide) (by decide) rfl ka_long (D0 9 rfl) (by decide) (by decide) (by decide) (by omega) (by omega) ?_
  show HT G mL_law 19 _ (.ref (zX (stB σ xo)) :: _) (stT σ xo) DD _
  rw [x2.1]
  refine ht_astore_n (D0 10 rfl) rfl (by decide) rfl ?_
  refine ht_iconst (v := 0) (D0 11 rfl) (by decide) ?_
  refine ht_istore (D0 12 rfl) (by decide) rfl ?_
  exact ht_cast (lw_loop hE hB hJ hSc hLs hDD hgC hgS hman hdegrees 512 0 (by omega) rfl (stT σ xo) none none (LI_start hx)) rfl rfl rfl
end U6
