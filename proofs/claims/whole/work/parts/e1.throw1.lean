/-! ===== man, degrees: answers, and the way to a throw ===== -/
section E1
variable {G : GG} {τ : Hp} {xo b mN : Nat}
set_option maxRecDepth 100000 in
theorem tt_man1 (hX : XS τ xo) (hLn : zQ τ (xo + 14) 0 = some b) (hBk : zK τ b = 2) (hm2 : zI τ b 2 = nI mN) {x w : Int32} (hno : ¬ (0 ≤ x ∧ x < nI mN)) : HTT G mX9_man 0 [some (.ref xo), some (.int x), some (.int w)] [] τ 1 (17, τ) := by
  have D := dat dl_X9_man
  refine tt_iload_n (D 0 rfl) rfl rfl ?_
  refine tt_aload_n (D 1 rfl) rfl rfl ?_
  refine tt_getQ (ci := 8) (k := 1) (by decide) (by decide) fl_X9_24 (D 2 rfl) hX.k0 rfl hX.q1 ?_
  refine tt_getQ (ci := 4) (k := 0) (by decide) (by decide) fl_X9_75 (D 3 rfl) hX.nt.k0 rfl hLn ?_
  refine tt_getI (ci := 2) (k := 2) (by decide) (by decide) fl_X9_121 (D 4 rfl) hBk rfl ?_
  rw [hm2]
  refine tt_callS (As := [_, _]) mvX9_isBelow cl_X9_79 stX9_isBelow npX9_isBelow rfl (D 5 rfl) (Nat.le_of_ble_eq_true rfl) rfl (Nat.le_of_ble_eq_true rfl) (by omega) (sc_isBelow x (nI mN)) ?_
  rintro _ _ ⟨rfl, rfl⟩
  refine tt_if_ne (tgt := 27) (D 6 rfl) (by decide) (fun hb => absurd (b01_ne hb) hno) (fun _ => ?_)
  exact tt_here
set_option maxRecDepth 100000 in
theorem tt_man2 (hX : XS τ xo) (hLn : zQ τ (xo + 14) 0 = some b) (hBk : zK τ b = 2) (hm2 : zI τ b 2 = nI mN) {x w : Int32} (hok : 0 ≤ x ∧ x < nI mN) (hno : ¬ (0 ≤ w ∧ w ≤ 2)) : HTT G mX9_man 0 [some (.ref xo), some (.int x), some (.int w)] [] τ 1 (89, τ) := by
  have D := dat dl_X9_man
  refine tt_iload_n (D 0 rfl) rfl rfl ?_
  refine tt_aload_n (D 1 rfl) rfl rfl ?_
  refine tt_getQ (ci := 8) (k := 1) (by decide) (by decide) fl_X9_24 (D 2 rfl) hX.k0 rfl hX.q1 ?_
  refine tt_getQ (ci := 4) (k := 0) (by decide) (by decide) fl_X9_75 (D 3 rfl) hX.nt.k0 rfl hLn ?_
  refine tt_getI (ci := 2) (k := 2) (by decide) (by decide) fl_X9_121 (D 4 rfl) hBk rfl ?_
  rw [hm2]
  refine tt_callS (As := [_, _]) mvX9_isBelow cl_X9_79 stX9_isBelow npX9_isBelow rfl (D 5 rfl) (Nat.le_of_ble_eq_true rfl) rfl (Nat.le_of_ble_eq_true rfl) (by omega) (sc_isBelow x (nI mN)) ?_
  rintro _ _ ⟨rfl, rfl⟩
  refine tt_if_ne (tgt := 27) (D 6 rfl) (by decide) (fun _ => ?_) (fun hb => absurd hok (b01_eq hb))
  refine tt_iload_n (D 12 rfl) rfl rfl ?_
  refine tt_tableOut (tgt := 89) (D 13 rfl) (tb_out (lo := 0) (n := 3) (fun q hq => ?_)) (by decide) ?_
  · have h3 : q = 0 ∨ q = 1 ∨ q = 2 := by omega
    rcases h3 with rfl | rfl | rfl
    · exact fun z => hno (by rw [z]; decide)
    · exact fun z => hno (by rw [z]; decide)
    · exact fun z => hno (by rw [z]; decide)
  exact tt_here
set_option maxRecDepth 100000 in
theorem tt_deg {w : Int32} (hno : ¬ (0 ≤ w ∧ w ≤ 9999)) : HTT G mX9_degrees 0 [some (.ref xo), some (.int w)] [] τ 1 (11, τ) := by
  have D := dat dl_X9_degrees
  refine tt_iload_n (D 0 rfl) rfl rfl ?_
  refine tt_iconst (v := 0) (D 1 rfl) (by decide) ?_
  refine tt_sipush (v := 9999) (D 2 rfl) (by decide) ?_
  refine tt_callS (As := [_, _, _]) mvX9_isWithin cl_X9_142 stX9_isWithin npX9_isWithin rfl (D 3 rfl) (Nat.le_of_ble_eq_true rfl) rfl (Nat.le_of_ble_eq_true rfl) (by omega) (sc_isWithin w 0 9999) ?_
  rintro _ _ ⟨rfl, rfl⟩
  refine tt_if_ne (tgt := 21) (D 4 rfl) (by decide) (fun hb => absurd (b01_ne hb) hno) (fun _ => ?_)
  exact tt_here
end E1
