/-! ===== the law: its loop ===== -/
section U5
variable {G : GG} {ad : Nat → Nat} {aA aS aV : Nat} {xo S9 Ls scr DD : Nat} {xs : Nat → Int32}
theorem LI.up {k : Nat} {τ : Hp} (h : LI xo S9 k τ) : LI xo S9 (k + 1) τ := by
  obtain ⟨ρ, b, s, T, n, h, ⟨hX, hM, hR30, hOut, hx1, hx2, hx3⟩, h2, h3, ⟨hnv, hbar, hSI⟩, hTp, h30, hMk, hMu⟩ := h
  refine ⟨ρ, b, s, T, n, h, ⟨hX, hM, hR30, hOut, hx1, by omega, zS_up (Nat.le_add_right _ _) hx3⟩, h2, h3, ⟨hnv, hbar, hSI.up (by omega)⟩, hTp, h30, fun x hx => ?_, hMu⟩
  rcases hMk x hx with z | ⟨z1, a, b9, s9, T9, n9, h9, y1, y2, y3, y4, y5, y6, y7, y8⟩
  · exact Or.inl z
  · exact Or.inr ⟨z1, a, b9, s9, T9, n9, h9, y1, y2, y3, y4, y5, y6, y7, y8.up (by omega)⟩
theorem nI_7 (k : Nat) : nI (7 * k) + Int32.ofInt 7 = nI (7 * (k + 1)) := by
  rw [show Int32.ofInt 7 = nI 7 from by decide, nI_add]
  exact congrArg nI (by omega)
theorem lw_go {k : Nat} (hLs : Ls ≤ 3584) (hk : k ≤ 512) (h : ¬ nI Ls - 7 < nI (7 * k)) : 7 * k + 7 ≤ Ls := by
  by_cases q : 7 ≤ Ls
  · rw [show (7 : Int32) = nI 7 from rfl, nI_subb q] at h
    have h2 := mt (nI_ltI (a := Ls - 7) (b := 7 * k) (by omega) (by omega)).mpr h
    omega
  · exfalso
    apply h
    have key : ∀ L, L < 7 → nI L - 7 < 0 := by decide
    have h1 := key Ls (by omega)
    have h2 : (0 : Int32) ≤ nI (7 * k) := (nI_leI (a := 0) (b := 7 * k) (by omega) (by omega)).mpr (Nat.zero_le _)
    simp only [i_lt, i_le] at h1 h2 ⊢
    omega
set_option maxRecDepth 100000 in
theorem lw_loop (hE : NE G) (hB : BK G ad aA aS aV) (hJ : ∀ i j, i < 22 → j < 22 → ad i = ad j → i = j) (hSc : ∀ U, gE G U → bArr G .int Ls (fun j => .int (xs j)) scr U) (hLs : Ls ≤ 3584) (hDD : 46 ≤ DD) (hgC : xo + 95 + 22 * 513 ≤ gC G) (hgS : ∀ k, k ≤ 512 → S9 + 3201 * k + 3201 ≤ gS G) (hman : ∀ (k : Nat) (τ : Hp) (l5 l6 : Option Value), LI xo S9 k τ → k ≤ 511 → 7 * k + 7 ≤ Ls → (∀ (τ2 : Hp) (l5 l6 : Option Value), LI xo S9 (k + 1) τ2 → HT G mL_law 1144 [some (.ref scr), some (.ref xo), some (.ref (xo + 52)), some (.ref (xo + 94)), some (.int (nI (7 * k))), l5, l6] [] τ2 DD (fun rv _ => rv = some (.int 1))) → HT G mL_law 386 [some (.ref scr), some (.ref xo), some (.ref (xo + 52)), some (.ref (xo + 94)), some (.int (nI (7 * k))), l5, l6] [] τ DD (fun rv _ => rv = some (.int 1))) (hdegrees : ∀ (k : Nat) (τ : Hp) (l5 l6 : Option Value), LI xo S9 k τ → k ≤ 511 → 7 * k + 7 ≤ Ls → (∀ (τ2 : Hp) (l5 l6 : Option Value), LI xo S9 (k + 1) τ2 → HT G mL_law 1144 [some (.ref scr), some (.ref xo), some (.ref (xo + 52)), some (.ref (xo + 94)), some (.int (nI (7 * k))), l5, l6] [] τ2 DD (fun rv _ => rv = some (.int 1))) → HT G mL_law 454 [some (.ref scr), some (.ref xo), some (.ref (xo + 52)), some (.ref (xo + 94)), some (.int (nI (7 * k))), l5, l6] [] τ DD (fun rv _ => rv = some (.int 1))) : ∀ r k : Nat, k ≤ 512 → 512 - k = r → ∀ (τ : Hp) (l5 l6 : Option Value), LI xo S9 k τ → HT G mL_law 23 [some (.ref scr), some (.ref xo), some (.ref (xo + 52)), some (.ref (xo + 94)), some (.int (nI (7 * k))), l5, l6] [] τ DD (fun rv _ => rv = some (.int 1)) := by
  have D0 := dat dl_L_law_0
  have D18 := dat dl_L_law_18
  intro r
  induction r using Nat.strongRecOn with
  | _ r ih =>
    intro k hk hr τ l5 l6 hLk
    obtain ⟨ρ, b, s, T, n, h, hL⟩ := hLk
    have hLk : LI xo S9 k τ := ⟨ρ, b, s, T, n, h, hL⟩
    have hz1 : zX τ + 22 ≤ gC G := by have := hL.1.2.2.2.2.2.1; omega
    have hz2 : zS τ + 3201 ≤ gS G := Nat.le_trans (Nat.add_le_add_right hL.1.2.2.2.2.2.2 3201) (hgS k hk)
    have hX := hL.1.1
    refine ht_iload (D0 13 rfl) rfl ?_
    refine ht_aload_n (D0 14 rfl) rfl rfl ?_
    refine ht_lenB hSc (D0 15 rfl) ?_
    refine ht_bipush (v := 7) (D0 16 rfl) (by decide) ?_
    refine ht_isub (D0 17 rfl) ?_
    refine ht_icmp_gt (tgt := 1150) (D0 18 rfl) (by decide) (fun hb30 => ?_) (fun hb30 => ?_)
    · skip
      refine ht_iconst (v := 1) (D18 11 rfl) (by decide) ?_
      refine ht_iret (D18 12 rfl) rfl rfl ?_
      exact rfl
    · skip
      have hk7 : 7 * k + 7 ≤ Ls := lw_go hLs hk hb30
      have hk1 : k ≤ 511 := by omega
      have kk : ∀ (τ2 : Hp) (l5 l6 : Option Value), LI xo S9 (k + 1) τ2 → HT G mL_law 1144 [some (.ref scr), some (.ref xo), some (.ref (xo + 52)), some (.ref (xo + 94)), some (.int (nI (7 * k))), l5, l6] [] τ2 DD (fun rv _ => rv = some (.int 1)) := by
        intro τ2 l5 l6 hLI
        refine ht_iinc (v := nI (7 * (k + 1))) (D18 9 rfl) rfl (nI_7 k) (by decide) rfl ?_
        refine ht_goto (tgt := 23) (D18 10 rfl) (by decide) ?_
        exact ht_cast (ih (512 - (k + 1)) (by omega) (k + 1) (by omega) rfl _ _ _ hLI) rfl rfl rfl
      refine ht_aload_n (D0 19 rfl) rfl rfl ?_
      refine ht_iload (D0 20 rfl) rfl ?_
      refine ht_ialdB (j := (7 * k)) hSc (by first | rfl | exact nI_add _ _) (by omega) (by omega) (D0 21 rfl) ?_
      refine ht_bipush (v := 31) (D0 22 rfl) (by decide) ?_
      refine ht_iand (D0 23 rfl) ?_
      by_cases hs40_0 : (xs (7 * k) &&& 31) = 0
      · skip
        refine ht_tableIn (off := 112) (tgt := 152) (D0 24 rfl) (by rw [hs40_0]; decide) (by rw [hs40_0]; decide) (by rw [hs40_0]; rfl) (by decide) ?_
        exact ht_cast (lw_feed hE hB hJ hL (by omega) hz1 hz2 hSc hLs hk7 hDD (fun τ2 h2 => kk τ2 l5 l6 h2)) rfl rfl rfl
      · skip
        by_cases hs40_1 : (xs (7 * k) &&& 31) = 1
        · skip
          refine ht_tableIn (off := 259) (tgt := 299) (D0 24 rfl) (by rw [hs40_1]; decide) (by rw [hs40_1]; decide) (by rw [hs40_1]; rfl) (by decide) ?_
          exact ht_cast (lw_prison hE hB hJ hL (by omega) hz1 hz2 hSc hLs hk7 hDD (fun τ2 h2 => kk τ2 l5 l6 h2)) rfl rfl rfl
        · skip
          by_cases hs40_2 : (xs (7 * k) &&& 31) = 2
          · skip
            refine ht_tableIn (off := 272) (tgt := 312) (D0 24 rfl) (by rw [hs40_2]; decide) (by rw [hs40_2]; decide) (by rw [hs40_2]; rfl) (by decide) ?_
            exact ht_cast (lw_cell hE hB hJ hL (by omega) hz1 hz2 hSc hLs hk7 hDD (fun τ2 h2 => kk τ2 l5 l6 h2)) rfl rfl rfl
          · skip
            by_cases hs40_3 : (xs (7 * k) &&& 31) = 3
            · skip
              refine ht_tableIn (off := 309) (tgt := 349) (D0 24 rfl) (by rw [hs40_3]; decide) (by rw [hs40_3]; decide) (by rw [hs40_3]; rfl) (by decide) ?_
              exact ht_cast (lw_door hE hB hJ hL (by omega) hz1 hz2 hSc hLs hk7 hDD (fun τ2 h2 => kk τ2 l5 l6 h2)) rfl rfl rfl
            · skip
              by_cases hs40_4 : (xs (7 * k) &&& 31) = 4
              · skip
                refine ht_tableIn (off := 346) (tgt := 386) (D0 24 rfl) (by rw [hs40_4]; decide) (by rw [hs40_4]; decide) (by rw [hs40_4]; rfl) (by decide) ?_
                exact ht_cast (hman k τ l5 l6 hLk hk1 hk7 kk) rfl rfl rfl
              · skip
                by_cases hs40_5 : (xs (7 * k) &&& 31) = 5
                · skip
                  refine ht_tableIn (off := 414) (tgt := 454) (D0 24 rfl) (by rw [hs40_5]; decide) (by rw [hs40_5]; decide) (by rw [hs40_5]; rfl) (by decide) ?_
                  exact ht_cast (hdegrees k τ l5 l6 hLk hk1 hk7 kk) rfl rfl rfl
                · skip
                  by_cases hs40_6 : (xs (7 * k) &&& 31) = 6
                  · skip
                    refine ht_tableIn (off := 470) (tgt := 510) (D0 24 rfl) (by rw [hs40_6]; decide) (by rw [hs40_6]; decide) (by rw [hs40_6]; rfl) (by decide) ?_
                    exact ht_cast (lw_pour hE hB hJ hL (by omega) hz1 hz2 hSc hLs hk7 hDD (fun τ2 h2 => kk τ2 l5 l6 h2)) rfl rfl rfl
                  · skip
                    by_cases hs40_7 : (xs (7 * k) &&& 31) = 7
                    · skip
                      refine ht_tableIn (off := 507) (tgt := 547) (D0 24 rfl) (by rw [hs40_7]; decide) (by rw [hs40_7]; decide) (by rw [hs40_7]; rfl) (by decide) ?_
                      exact ht_cast (lw_salt hE hB hJ hL (by omega) hz1 hz2 hSc hLs hk7 hDD (fun τ2 h2 => kk τ2 l5 l6 h2)) rfl rfl rfl
                    · skip
                      by_cases hs40_8 : (xs (7 * k) &&& 31) = 8
                      · skip
                        refine ht_tableIn (off := 544) (tgt := 584) (D0 24 rfl) (by rw [hs40_8]; decide) (by rw [hs40_8]; decide) (by rw [hs40_8]; rfl) (by decide) ?_
                        exact ht_cast (lw_stove hE hB hJ hL (by omega) hz1 hz2 hSc hLs hk7 hDD (fun τ2 h2 => kk τ2 l5 l6 h2)) rfl rfl rfl
                      · skip
                        by_cases hs40_9 : (xs (7 * k) &&& 31) = 9
                        · skip
                          refine ht_tableIn (off := 581) (tgt := 621) (D0 24 rfl) (by rw [hs40_9]; decide) (by rw [hs40_9]; decide) (by rw [hs40_9]; rfl) (by decide) ?_
                          exact ht_cast (lw_pardon hE hB hJ hL (by omega) hz1 hz2 hSc hLs hk7 hDD (fun τ2 h2 => kk τ2 l5 l6 h2)) rfl rfl rfl
                        · skip
                          by_cases hs40_10 : (xs (7 * k) &&& 31) = 10
                          · skip
                            refine ht_tableIn (off := 606) (tgt := 646) (D0 24 rfl) (by rw [hs40_10]; decide) (by rw [hs40_10]; decide) (by rw [hs40_10]; rfl) (by decide) ?_
                            exact ht_cast (lw_hours hE hB hJ hL (by omega) hz1 hz2 hSc hLs hk7 hDD (fun τ2 h2 => kk τ2 l5 l6 h2)) rfl rfl rfl
                          · skip
                            by_cases hs40_11 : (xs (7 * k) &&& 31) = 11
                            · skip
                              refine ht_tableIn (off := 631) (tgt := 671) (D0 24 rfl) (by rw [hs40_11]; decide) (by rw [hs40_11]; decide) (by rw [hs40_11]; rfl) (by decide) ?_
                              exact ht_cast (lw_soon hE hB hJ hL (by omega) hz1 hz2 hSc hLs hk7 hDD (fun τ2 h2 => kk τ2 l5 l6 h2)) rfl rfl rfl
                            · skip
                              by_cases hs40_12 : (xs (7 * k) &&& 31) = 12
                              · skip
                                refine ht_tableIn (off := 668) (tgt := 708) (D0 24 rfl) (by rw [hs40_12]; decide) (by rw [hs40_12]; decide) (by rw [hs40_12]; rfl) (by decide) ?_
                                exact ht_cast (lw_needs hE hB hJ hL (by omega) hz1 hz2 hSc hLs hk7 hDD (fun τ2 h2 => kk τ2 l5 l6 h2)) rfl rfl rfl
                              · skip
                                by_cases hs40_13 : (xs (7 * k) &&& 31) = 13
                                · skip
                                  refine ht_tableIn (off := 705) (tgt := 745) (D0 24 rfl) (by rw [hs40_13]; decide) (by rw [hs40_13]; decide) (by rw [hs40_13]; rfl) (by decide) ?_
                                  exact ht_cast (lw_first hE hB hJ hL (by omega) hz1 hz2 hSc hLs hk7 hDD (fun τ2 h2 => kk τ2 l5 l6 h2)) rfl rfl rfl
                                · skip
                                  by_cases hs40_14 : (xs (7 * k) &&& 31) = 14
                                  · skip
                                    refine ht_tableIn (off := 742) (tgt := 782) (D0 24 rfl) (by rw [hs40_14]; decide) (by rw [hs40_14]; decide) (by rw [hs40_14]; rfl) (by decide) ?_
                                    exact ht_cast (lw_enough hE hB hJ hL (by omega) hz1 hz2 hSc hLs hk7 hDD (fun τ2 h2 => kk τ2 l5 l6 h2)) rfl rfl rfl
                                  · skip
                                    by_cases hs40_15 : (xs (7 * k) &&& 31) = 15
                                    · skip
                                      refine ht_tableIn (off := 779) (tgt := 819) (D0 24 rfl) (by rw [hs40_15]; decide) (by rw [hs40_15]; decide) (by rw [hs40_15]; rfl) (by decide) ?_
                                      exact ht_cast (lw_plan hE hB hJ hL (by omega) hz1 hz2 hSc hLs hk7 hDD (fun τ2 h2 => kk τ2 l5 l6 h2)) rfl rfl rfl
                                    · skip
                                      by_cases hs40_16 : (xs (7 * k) &&& 31) = 16
                                      · skip
                                        refine ht_tableIn (off := 816) (tgt := 856) (D0 24 rfl) (by rw [hs40_16]; decide) (by rw [hs40_16]; decide) (by rw [hs40_16]; rfl) (by decide) ?_
                                        exact ht_cast (lw_escape hE hB hJ hL (by omega) hz1 hz2 hSc hLs hk7 hDD (fun τ2 h2 => kk τ2 l5 l6 h2)) rfl rfl rfl
                                      · skip
                                        by_cases hs40_17 : (xs (7 * k) &&& 31) = 17
                                        · skip
                                          refine ht_tableIn (off := 853) (tgt := 893) (D0 24 rfl) (by rw [hs40_17]; decide) (by rw [hs40_17]; decide) (by rw [hs40_17]; rfl) (by decide) ?_
                                          exact ht_cast (lw_salted hE hB hJ hL (by omega) hz1 hz2 hSc hLs hk7 hDD (fun τ2 h2 => kk τ2 l5 l6 h2)) rfl rfl rfl
                                        · skip
                                          by_cases hs40_18 : (xs (7 * k) &&& 31) = 18
                                          · skip
                                            refine ht_tableIn (off := 878) (tgt := 918) (D0 24 rfl) (by rw [hs40_18]; decide) (by rw [hs40_18]; decide) (by rw [hs40_18]; rfl) (by decide) ?_
                                            exact ht_cast (lw_beside hE hB hJ hL (by omega) hz1 hz2 hSc hLs hk7 hDD (fun τ2 h2 => kk τ2 l5 l6 h2)) rfl rfl rfl
                                          · skip
                                            by_cases hs40_19 : (xs (7 * k) &&& 31) = 19
                                            · skip
                                              refine ht_tableIn (off := 903) (tgt := 943) (D0 24 rfl) (by rw [hs40_19]; decide) (by rw [hs40_19]; decide) (by rw [hs40_19]; rfl) (by decide) ?_
                                              exact ht_cast (lw_thaw hE hB hJ hL (by omega) hz1 hz2 hSc hLs hk7 hDD (fun τ2 h2 => kk τ2 l5 l6 h2)) rfl rfl rfl
                                            · skip
                                              by_cases hs40_20 : (xs (7 * k) &&& 31) = 20
                                              · skip
                                                refine ht_tableIn (off := 928) (tgt := 968) (D0 24 rfl) (by rw [hs40_20]; decide) (by rw [hs40_20]; decide) (by rw [hs40_20]; rfl) (by decide) ?_
                                                exact ht_cast (lw_amnesty hE hB hJ hL (by omega) hz1 hz2 hSc hLs hk7 hDD (fun τ2 h2 => kk τ2 l5 l6 h2)) rfl rfl rfl
                                              · skip
                                                by_cases hs40_21 : (xs (7 * k) &&& 31) = 21
                                                · skip
                                                  refine ht_tableIn (off := 965) (tgt := 1005) (D0 24 rfl) (by rw [hs40_21]; decide) (by rw [hs40_21]; decide) (by rw [hs40_21]; rfl) (by decide) ?_
                                                  exact ht_cast (lw_lots hE hB hJ hL (by omega) hz1 hz2 hSc hLs hk7 hDD (fun τ2 h2 => kk τ2 l5 l6 h2)) rfl rfl rfl
                                                · skip
                                                  by_cases hs40_22 : (xs (7 * k) &&& 31) = 22
                                                  · skip
                                                    refine ht_tableIn (off := 1026) (tgt := 1066) (D0 24 rfl) (by rw [hs40_22]; decide) (by rw [hs40_22]; decide) (by rw [hs40_22]; rfl) (by decide) ?_
                                                    exact ht_cast (lw_mark hE hB hJ hL (by omega) hz1 hz2 hSc hLs hk7 hDD (fun τ2 h2 => kk τ2 l5 l6 h2)) rfl rfl rfl
                                                  · skip
                                                    by_cases hs40_23 : (xs (7 * k) &&& 31) = 23
                                                    · skip
                                                      refine ht_tableIn (off := 1079) (tgt := 1119) (D0 24 rfl) (by rw [hs40_23]; decide) (by rw [hs40_23]; decide) (by rw [hs40_23]; rfl) (by decide) ?_
                                                      exact ht_cast (lw_count hE hB hJ hL (by omega) hz1 hz2 hSc hLs hk7 hDD (fun τ2 h2 => kk τ2 l5 l6 h2)) rfl rfl rfl
                                                    · skip
                                                      refine ht_tableOut (tgt := 1144) (D0 24 rfl) (tb_out (lo := 0) (n := 24) (fun k hk => ?_)) (by decide) ?_
                                                      · (have hk9 : k = 0 ∨ k = 1 ∨ k = 2 ∨ k = 3 ∨ k = 4 ∨ k = 5 ∨ k = 6 ∨ k = 7 ∨ k = 8 ∨ k = 9 ∨ k = 10 ∨ k = 11 ∨ k = 12 ∨ k = 13 ∨ k = 14 ∨ k = 15 ∨ k = 16 ∨ k = 17 ∨ k = 18 ∨ k = 19 ∨ k = 20 ∨ k = 21 ∨ k = 22 ∨ k = 23 := by omega)
                                                        rcases hk9 with rfl | rfl | rfl | rfl | rfl | rfl | rfl | rfl | rfl | rfl | rfl | rfl | rfl | rfl | rfl | rfl | rfl | rfl | rfl | rfl | rfl | rfl | rfl | rfl <;> assumption
                                                      exact ht_cast (kk τ l5 l6 hLk.up) rfl rfl rfl
end U5
