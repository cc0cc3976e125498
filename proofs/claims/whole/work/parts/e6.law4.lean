/-! ===== the helpers of the law that catch; the law wholly ===== -/
abbrev mL_man : MI := (yL_man, cL_man, 5, some .int)
abbrev mL_degrees : MI := (yL_degrees, cL_degrees, 4, some .int)
abbrev hhM : List (Nat × Nat × Nat × Nat) := [(0, 10, 13, 13)]
abbrev hhD : List (Nat × Nat × Nat × Nat) := [(0, 9, 12, 13)]
theorem cw_L_man : Cond.codeWith mL_man.1 mL_man.2.1 mL_man.2.2.1 mL_man.2.2.2 hhM ∈ WS := (ws_t4 (List.mem_of_getElem? (i := 188) rfl) rfl)
theorem st_L_man : Cond.static mL_man.1 ∈ WS := (ws_t4 (List.mem_of_getElem? (i := 187) rfl) rfl)
theorem cw_L_deg : Cond.codeWith mL_degrees.1 mL_degrees.2.1 mL_degrees.2.2.1 mL_degrees.2.2.2 hhD ∈ WS := (ws_t5 (List.mem_of_getElem? (i := 22) rfl) rfl)
theorem st_L_deg : Cond.static mL_degrees.1 ∈ WS := (ws_t5 (List.mem_of_getElem? (i := 21) rfl) rfl)
theorem ck_L_13 : Cond.classLink RL 13 nsE ∈ WS := (ws_t4 (List.mem_of_getElem? (i := 189) rfl) rfl)
theorem in_RL : Cond.initialized RL ∈ WS := (ws_t1 (List.mem_of_getElem? (i := 0) rfl) rfl)
section V6
variable {G : GG} {τ σ : Hp} {ad : Nat → Nat} {aA aS aV : Nat} {ρ : Nat → Nat} {T : ST} {n xo b k h S9 Ls scr DD : Nat} {s : TD} {xs : Nat → Int32} {Q : Option Value → Hp → Prop}
theorem cf_self (τ : Hp) (xo b : Nat) : CFr τ xo b τ := ⟨Nat.le_refl _, Nat.le_add_right _ _, Nat.le_add_right _ _, fun p hp => ⟨rfl, rfl, fun _ => rfl, fun _ _ => rfl, fun _ => rfl⟩⟩
theorem cf_scr {Z2 : VT} (hf : Fr (Scr τ (xo + 14) b) (zI τ) Z2) : CFr τ xo b (cv τ Z2) := ⟨Nat.le_refl _, Nat.le_add_right _ _, Nat.le_add_right _ _, fun p hp => ⟨rfl, rfl, fun _ => rfl, fun _ _ => rfl, fun hx => hf p (by
    rintro (c | c)
    · exact hx (Or.inl (by omega))
    · exact hx (Or.inr c))⟩⟩
set_option maxRecDepth 100000 in
theorem lh_man (hTX : TX G) (hL : LIc xo S9 k τ ρ b s T n h) (hz1 : zX τ + 22 ≤ gC G) (hz2 : zS τ + 3201 ≤ gS G) (x w : Int32) : HTH G mL_man hhM 0 (entL [.ref xo, .int x, .int w, .ref (xo + 94)] 5) [] τ 9 (QLh τ xo b (tdC s 1) (aManOk (tdC s 2) x w) (aManV (vV τ (xo + 52)) (vV τ (xo + 52) 33) x w)) := by
  have D := dat dl_L_man
  have D9 := dat dl_X9_man
  have hX := hL.1.1
  have hLn := hL.2.1.1.2.1
  have hLw := hL.2.1.2.1.1.1
  have hm2 := hL.2.1.2.1.2.1.1.2.2.1
  have hko := hL.1.2.2.2.1.1
  have hno := hL.1.2.2.2.1.2
  show HTH G mL_man hhM 0 [some (.ref xo), some (.int x), some (.int w), some (.ref (xo + 94)), none] [] τ 9 _
  refine th_aload_n (D 0 rfl) rfl rfl ?_
  refine th_iconst (v := 0) (D 1 rfl) (by decide) ?_
  refine th_aload_n (D 2 rfl) rfl rfl ?_
  refine th_iload_n (D 3 rfl) rfl rfl ?_
  refine th_iload_n (D 4 rfl) rfl rfl ?_
  by_cases hok : aManOk (tdC s 2) x w
  · refine th_callVX (M' := mX9_man) (As := [.int x, .int w]) (rest := [.int 0, .ref (xo + 94)]) (ci := 8) (d' := 8) (P := False) mvX9_man cl_L_7 ivX9_man seX9_man npX9_man rfl (by decide) rfl hX.k0 (D 5 rfl) rfl (Nat.le_of_ble_eq_true rfl) (by omega) (fun l => metX_ok l (by decide +kernel) (Nat.le_of_ble_eq_true rfl) (by decide) (sa_man (G := gTo G τ) hL hok)) hz1 hz2 rfl (by decide) (by decide) ck_L_13 hTX ?_ (fun _ _ _ h => h.elim)
    rintro _ τ ⟨rfl, rfl⟩
    refine ht_i2l (D 6 rfl) ?_
    refine ht_lst (n := 0) (D 7 rfl) hko hno rfl (by decide) (by decide) ?_
    refine ht_goto (tgt := 17) (D 8 rfl) (by decide) ?_
    refine ht_iconst (v := 0) (D 12 rfl) (by decide) ?_
    refine ht_iret (D 13 rfl) rfl rfl ?_
    exact Or.inl ⟨hok, rfl, _, cf_self _ _ _, rfl, hL.bar, rfl⟩
  · have kx : ∀ (q c g : Nat), True → c ≤ 22 → g ≤ 3201 → HT G mL_man 13 [some (.ref xo), some (.int x), some (.int w), some (.ref (xo + 94)), none] [.ref q] (gro τ c g) 9 (QLh τ xo b (tdC s 1) (aManOk (tdC s 2) x w) (aManV (vV τ (xo + 52)) (vV τ (xo + 52) 33) x w)) := by
      intro q c g _ hc hg
      refine ht_astore (D 9 rfl) (by decide) rfl ?_
      refine ht_iconst (v := 1) (D 10 rfl) (by decide) ?_
      refine ht_iret (D 11 rfl) rfl rfl ?_
      exact Or.inr ⟨hok, rfl, c, g, hc, hg, rfl⟩
    have hmt : ∀ l : LL, vx_Met l.1 mX9_man.1 (Cond.code mX9_man.1 mX9_man.2.1 mX9_man.2.2.1 mX9_man.2.2.2 :: WS) (mRm (gTo G τ) τ 8) (mPc (gTo G τ) (.ref xo :: [.int x, .int w]) τ) (mQc (gTo G τ) (fun _ _ => False)) (XCt (gTo G τ) τ True) (gC (gTo G τ) - zX τ) (gS (gTo G τ) - zS τ) (fun q => gB (gTo G τ) ≤ q) := by
      intro l
      by_cases h1 : 0 ≤ x ∧ x < nI (tdC s 2)
      · have h2 : ¬ (0 ≤ w ∧ w ≤ 2) := fun c => hok ⟨h1, c⟩
        exact metX_th (G := gTo G τ) (M := mX9_man) (tp := 89) (is := 140) (tx := "nothing such of a man") l (by decide +kernel) (Nat.le_of_ble_eq_true rfl) (by decide) (by decide) (tt_man2 hX hLn hLw.k0 hm2 h1 h2) hTX (fun U hU => (hTX U hU).2.2.2.1) trivial rfl (D9 33 rfl) (D9 34 rfl) (D9 35 rfl) (D9 36 rfl) (D9 37 rfl) (by show zX τ + 1 ≤ zX τ + 22; omega) (by show zS τ + 6 ≤ zS τ + 3201; omega)
      · exact metX_th (G := gTo G τ) (M := mX9_man) (tp := 17) (is := 126) (tx := "no such man") l (by decide +kernel) (Nat.le_of_ble_eq_true rfl) (by decide) (by decide) (tt_man1 hX hLn hLw.k0 hm2 h1) hTX (fun U hU => (hTX U hU).2.2.1) trivial rfl (D9 7 rfl) (D9 8 rfl) (D9 9 rfl) (D9 10 rfl) (D9 11 rfl) (by show zX τ + 1 ≤ zX τ + 22; omega) (by show zS τ + 6 ≤ zS τ + 3201; omega)
    exact th_callVX (M' := mX9_man) (As := [.int x, .int w]) (rest := [.int 0, .ref (xo + 94)]) (ci := 8) (d' := 8) (P := True) mvX9_man cl_L_7 ivX9_man seX9_man npX9_man rfl (by decide) rfl hX.k0 (D 5 rfl) rfl (Nat.le_of_ble_eq_true rfl) (by omega) hmt hz1 hz2 rfl (by decide) (by decide) ck_L_13 hTX (fun _ _ h => h.elim) kx
set_option maxRecDepth 100000 in
theorem lh_deg (hE : NE G) (hTX : TX G) (hL : LIc xo S9 k τ ρ b s T n h) (hk : k ≤ 600) (hz1 : zX τ + 22 ≤ gC G) (hz2 : zS τ + 3201 ≤ gS G) (w : Int32) : HTH G mL_degrees hhD 0 (entL [.ref xo, .int w, .ref (xo + 94)] 4) [] τ 9 (QLh τ xo b (tdC s 1) (0 ≤ w ∧ w ≤ 9999) (dgF (gwO s) (h + w.toNatClampNeg) 0)) := by
  have D := dat dl_L_degrees
  have D9 := dat dl_X9_degrees
  have hX := hL.1.1
  have hko := hL.1.2.2.2.1.1
  have hno := hL.1.2.2.2.1.2
  show HTH G mL_degrees hhD 0 [some (.ref xo), some (.int w), some (.ref (xo + 94)), none] [] τ 9 _
  refine th_aload_n (D 0 rfl) rfl rfl ?_
  refine th_iconst (v := 0) (D 1 rfl) (by decide) ?_
  refine th_aload_n (D 2 rfl) rfl rfl ?_
  refine th_iload_n (D 3 rfl) rfl rfl ?_
  by_cases hok : 0 ≤ w ∧ w ≤ 9999
  · refine th_callVX (M' := mX9_degrees) (As := [.int w]) (rest := [.int 0, .ref (xo + 94)]) (ci := 8) (d' := 8) (P := False) mvX9_degrees cl_L_15 ivX9_degrees seX9_degrees npX9_degrees rfl (by decide) rfl hX.k0 (D 4 rfl) rfl (Nat.le_of_ble_eq_true rfl) (by omega) (fun l => metX_ok l (by decide +kernel) (Nat.le_of_ble_eq_true rfl) (by decide) (sa_deg (G := gTo G τ) hE hL hk hok)) hz1 hz2 rfl (by decide) (by decide) ck_L_13 hTX ?_ (fun _ _ _ h => h.elim)
    rintro _ _ ⟨rfl, Z2, rfl, hf2⟩
    refine ht_i2l (D 5 rfl) ?_
    refine ht_lst (n := 0) (D 6 rfl) hko hno rfl (by decide) (by decide) ?_
    refine ht_goto (tgt := 15) (D 7 rfl) (by decide) ?_
    refine ht_iconst (v := 0) (D 11 rfl) (by decide) ?_
    refine ht_iret (D 12 rfl) rfl rfl ?_
    exact Or.inl ⟨hok, rfl, _, cf_scr hf2, nv_scr hL.cw.2.1 hf2, (congrFun (scr_a hL.cw.2.1 hf2) 2).trans hL.bar, rfl⟩
  · have kx : ∀ (q c g : Nat), True → c ≤ 22 → g ≤ 3201 → HT G mL_degrees 12 [some (.ref xo), some (.int w), some (.ref (xo + 94)), none] [.ref q] (gro τ c g) 9 (QLh τ xo b (tdC s 1) (0 ≤ w ∧ w ≤ 9999) (dgF (gwO s) (h + w.toNatClampNeg) 0)) := by
      intro q c g _ hc hg
      refine ht_astore_n (D 8 rfl) rfl (by decide) rfl ?_
      refine ht_iconst (v := 1) (D 9 rfl) (by decide) ?_
      refine ht_iret (D 10 rfl) rfl rfl ?_
      exact Or.inr ⟨hok, rfl, c, g, hc, hg, rfl⟩
    exact th_callVX (M' := mX9_degrees) (As := [.int w]) (rest := [.int 0, .ref (xo + 94)]) (ci := 8) (d' := 8) (P := True) (Qc := fun _ _ => False) mvX9_degrees cl_L_15 ivX9_degrees seX9_degrees npX9_degrees rfl (by decide) rfl hX.k0 (D 4 rfl) rfl (Nat.le_of_ble_eq_true rfl) (by omega) (fun l => metX_th (G := gTo G τ) (M := mX9_degrees) (tp := 11) (is := 146) (tx := "no such hours") l (by decide +kernel) (Nat.le_of_ble_eq_true rfl) (by decide) (by decide) (tt_deg hok) hTX (fun U hU => (hTX U hU).2.2.2.2.1) trivial rfl (D9 5 rfl) (D9 6 rfl) (D9 7 rfl) (D9 8 rfl) (D9 9 rfl) (by show zX τ + 1 ≤ zX τ + 22; omega) (by show zS τ + 6 ≤ zS τ + 3201; omega)) hz1 hz2 rfl (by decide) (by decide) ck_L_13 hTX (fun _ _ h => h.elim) kx
/-- THE LAW answers 1 -/
theorem lw_true (hE : NE G) (hB : BK G ad aA aS aV) (hTX : TX G) (hJ : ∀ i j, i < 22 → j < 22 → ad i = ad j → i = j) (hSc : ∀ U, gE G U → bArr G .int Ls (fun j => .int (xs j)) scr U) (hLs : Ls ≤ 3584) (hDD : 46 ≤ DD) (hx : zX σ = xo) (hgC : xo + 95 + 22 * 513 ≤ gC G) (hgS : ∀ k, k ≤ 512 → zS σ + 10107 + 3201 * k + 3201 ≤ gS G) : Sp G mL_law DD [.ref scr] σ (fun rv _ => rv = some (.int 1)) := by
  have D5 := dat dl_L_law_5
  have D6 := dat dl_L_law_6
  have room : ∀ (k : Nat) (τ : Hp), LI xo (zS σ + 10107) k τ → k ≤ 511 → zX τ + 22 ≤ gC G ∧ zS τ + 3201 ≤ gS G := by
    rintro k τ ⟨ρ, b, s, T, n, h, hL⟩ hk
    exact ⟨by have := hL.1.2.2.2.2.2.1; omega, Nat.le_trans (Nat.add_le_add_right hL.1.2.2.2.2.2.2 3201) (hgS k (by omega))⟩
  refine lw_all hE hB hJ hSc hLs hDD hx hgC hgS ?_ ?_
  · intro k τ l5 l6 hLI hk hk7 kk
    obtain ⟨hz1, hz2⟩ := room k τ hLI hk
    obtain ⟨ρ, b, s, T, n, h, hL⟩ := hLI
    refine lw_man hL (by omega) hSc hLs hk7 hDD (fun L kq => ?_) kk
    refine ht_callSH (M' := mL_man) (hh := hhM) (As := [.ref xo, .int (xs (7 * k + 1)), .int (xs (7 * k + 2)), .ref (xo + 94)]) (rest := []) (n := 4) (d' := 9) cw_L_man in_RL (by decide +kernel) ⟨by decide +kernel, by decide +kernel⟩ (by decide) cl_L_43 st_L_man (by decide +kernel) rfl (D5 7 rfl) (Nat.le_of_ble_eq_true rfl) rfl (by decide) (by omega) (lh_man hTX hL hz1 hz2 _ _) ?_
    intro v σ' hQ
    rw [List.append_nil]
    exact kq v σ' hQ
  · intro k τ l5 l6 hLI hk hk7 kk
    obtain ⟨hz1, hz2⟩ := room k τ hLI hk
    obtain ⟨ρ, b, s, T, n, h, hL⟩ := hLI
    refine lw_degrees hL (by omega) hSc hLs hk7 hDD (fun L kq => ?_) kk
    refine ht_callSH (M' := mL_degrees) (hh := hhD) (As := [.ref xo, .int (xs (7 * k + 1)), .ref (xo + 94)]) (rest := []) (n := 3) (d' := 9) cw_L_deg in_RL (by decide +kernel) ⟨by decide +kernel, by decide +kernel⟩ (by decide) cl_L_52 st_L_deg (by decide +kernel) rfl (D6 7 rfl) (Nat.le_of_ble_eq_true rfl) rfl (by decide) (by omega) (lh_deg hE hTX hL (by omega) hz1 hz2 _) ?_
    intro v σ' hQ
    rw [List.append_nil]
    exact kq v σ' hQ
end V6
