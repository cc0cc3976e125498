/-! ===== what holds at the start ===== -/
section U2
variable {σ : Hp} {xo : Nat}
/-- the object alone -/
def stA (σ : Hp) (xo : Nat) : Hp := xs5 (nw σ 8 0 9) xo
/-- with the reference and the row for answers -/
def stB (σ : Hp) (xo : Nat) : Hp := iaL (nw (stA σ xo) 9 0 57) (xo + 52) mdL
def stT (σ : Hp) (xo : Nat) : Hp := nw (stB σ xo) 21 1 1
theorem stA_x (hx : zX σ = xo) : zX (nw σ 8 0 9) = xo + 1 ∧ zX (stA σ xo) = xo + 52 ∧ zS (stA σ xo) = zS σ + 1816 := by
  have h1 : zX (nw σ 8 0 9) = xo + 1 := by rw [zX_nw, hx]
  have h2 := xs5_x (σ := nw σ 8 0 9) h1
  have h3 : zS (nw σ 8 0 9) = zS σ + 9 := rfl
  unfold stA
  rw [h2.1, h2.2, h3]
  exact ⟨h1, rfl, by omega⟩
theorem stB_x (hx : zX σ = xo) : zX (stB σ xo) = xo + 94 ∧ zS (stB σ xo) = zS σ + 10106 := by
  have h1 := stA_x hx
  have h2 := iaL_x (xo + 52) mdL (nw (stA σ xo) 9 0 57)
  have e1 : mdL.length = 41 := rfl
  have e2 : sumL mdL = 8233 := rfl
  unfold stB
  rw [h2.1, h2.2, e1, e2, zX_nw, zS_nw, h1.2.1, h1.2.2]
  exact ⟨by omega, by omega⟩
theorem stT_x (hx : zX σ = xo) : zX (stT σ xo) = xo + 95 ∧ zS (stT σ xo) = zS σ + 10107 := by
  have h1 := stB_x hx
  unfold stT
  rw [zX_nw, zS_nw, h1.1, h1.2]
  exact ⟨by omega, by omega⟩
theorem stT_g (hx : zX σ = xo) : Gw (stA σ xo) (stT σ xo) (xo + 52) := ((Gw.nw (stA σ xo) (xo + 52) 9 0 57).tr (iaL_gw (xo + 52) mdL _)).tr (Gw.nw _ (xo + 52) 21 1 1)
theorem stX (hx : zX σ = xo) : XS (stA σ xo) xo ∧ (LwS (stA σ xo) (xo + 3) ∧ zQ (stA σ xo) (xo + 3) 5 = none ∧ zQ (stA σ xo) (xo + 3) 6 = none) ∧ zQ (stA σ xo) (xo + 14) 0 = some (xo + 3) ∧ (∀ p, xo + 3 ≤ p → p < xo + 14 → zI (stA σ xo) p = fun _ => 0) ∧ (zI (stA σ xo) (xo + 1) = (fun _ => 0) ∧ zI (stA σ xo) (xo + 2) = fun _ => 0) ∧ ((∀ p, xo + 14 < p → p < xo + 30 → zI (stA σ xo) p = fun _ => 0) ∧ ∀ i, zI (stA σ xo) (xo + 14) i = if i = 2 then -1 else 0) ∧ zQ (stA σ xo) (xo + 46) = fun _ => none := by
  have hA0 : zX (nw σ 8 0 9) = xo + 1 := (stA_x hx).1
  have hK0 : zK (nw σ 8 0 9) xo = 8 := by rw [zK_nw, hx]; exact va_sm _ _ _
  unfold stA
  generalize hA : nw σ 8 0 9 = A at *
  have x1 := xs1_x hA0
  have x2 := xs2_x hA0
  have x3 := xs3_x hA0
  have x4 := xs4_x hA0
  have x5 := xs5_x hA0
  have g5 : Gw (xs4 A xo) (xs5 A xo) xo := xs5_g
  have g45 := g5
  have g35 := (xs4_g hA0).tr g45
  have g25 := (xs3_g hA0).tr g35
  have g15 := (xs2_g hA0).tr g25
  -- the tape
  have t0 := iaL_at (xo + 1) tpL (nw A 6 0 2) (by rw [zX_nw, hA0]; omega) rfl 0 _ rfl
  rw [zX_nw, hA0] at t0
  have tg := (iaL_gw (xo + 1) tpL (nw A 6 0 2)).2.2 (xo + 1) (by rw [zX_nw, hA0]; omega)
  have tx : zX (iaL (nw A 6 0 2) (xo + 1) tpL) = xo + 3 := x1.1
  have w1 := Gw.wQ (iaL (nw A 6 0 2) (xo + 1) tpL) xo 0 (some (xo + 1))
  have w15 : Gw (iaL (nw A 6 0 2) (xo + 1) tpL) (xs5 A xo) xo := w1.tr g15
  have p1 := w15.2.2 (xo + 1) (by omega)
  have p2 := w15.2.2 (xo + 2) (by omega)
  have tk1 : zK (nw A 6 0 2) (xo + 1) = 6 := by rw [zK_nw, hA0]; exact va_sm _ _ _
  have ti1 : zI (nw A 6 0 2) (xo + 1) = fun _ => 0 := by rw [zI_nw, hA0]; exact va_sm _ _ _
  -- the law
  have l0 : LwS (xs2 A xo) (xo + 3) := lw_made (σ := nw (xs1 A xo) 2 0 17) (b := xo + 3) (by rw [zK_nw, x1.1]; exact va_sm _ _ _) (by rw [zX_nw, x1.1])
  have lq : ∀ i, i = 5 ∨ i = 6 → zQ (xs2 A xo) (xo + 3) i = none := fun i hi => by
    unfold xs2
    rw [iaL_o (xo + 3) lwL (nw (xs1 A xo) 2 0 17) i (by rw [zX_nw, x1.1]; omega) (by rcases hi with rfl | rfl <;> decide), zQ_nw, x1.1, va_sm]
  have li : ∀ p, xo + 3 ≤ p → p < xo + 14 → zI (xs2 A xo) p = fun _ => 0 := fun p h1 h2 => by
    by_cases q : p = xo + 3
    · rw [q]
      unfold xs2
      rw [((iaL_gw (xo + 3) lwL (nw (xs1 A xo) 2 0 17)).2.2 (xo + 3) (by rw [zX_nw, x1.1]; omega)).2.2.1, zI_nw, x1.1]
      exact va_sm _ _ _
    · have hk : p - (xo + 4) < lwL.length := by show p - (xo + 4) < 10; omega
      have h9 := (iaL_at (xo + 3) lwL (nw (xs1 A xo) 2 0 17) (by rw [zX_nw, x1.1]; omega) rfl (p - (xo + 4)) _ (List.getElem?_eq_getElem hk)).2.2.2.1
      rw [zX_nw, x1.1, show xo + 3 + 1 + (p - (xo + 4)) = p by omega] at h9
      exact h9
  have pl := fun {p : Nat} (hp : p < xo + 14) => g25.2.2 p (by rw [x2.1]; exact hp)
  -- the nights
  have hx3 : zX (nw (xs2 A xo) 4 0 8) = xo + 14 + 1 := by rw [zX_nw, x2.1]
  have hx4 : zX (nw (xs3 A xo) 4 0 8) = xo + 30 + 1 := by rw [zX_nw, x3.1]
  have k3 : zK (nw (xs2 A xo) 4 0 8) (xo + 14) = 4 := by rw [zK_nw, x2.1]; exact va_sm _ _ _
  have k4 : zK (nw (xs3 A xo) 4 0 8) (xo + 30) = 4 := by rw [zK_nw, x3.1]; exact va_sm _ _ _
  have n3 := nt_made (b := xo + 3) k3 hx3
  have n4 := nt_made (b := xo + 3) k4 hx4
  have z3 := nt_hi (σ := nw (xs2 A xo) 4 0 8) (a := xo + 14) (b := xo + 3) hx3 (by rw [zI_nw, x2.1]; exact va_sm _ _ _) (by show va_up (zJ (xs2 A xo)) (zX (xs2 A xo)) (fun _ => 0) (xo + 14) = _; rw [x2.1]; exact va_sm _ _ _)
  have y3 := nt_x (σ := nw (xs2 A xo) 4 0 8) (a := xo + 14) (b := xo + 3) hx3
  have y4 := nt_x (σ := nw (xs3 A xo) 4 0 8) (a := xo + 30) (b := xo + 3) hx4
  have w3 : Gw (ntF (nw (xs2 A xo) 4 0 8) (xo + 14) (xo + 3)) (xs5 A xo) xo := (Gw.wQ _ xo 1 (some (xo + 14))).tr g35
  have w4 : Gw (ntF (nw (xs3 A xo) 4 0 8) (xo + 30) (xo + 3)) (xs5 A xo) xo := (Gw.wQ _ xo 2 (some (xo + 30))).tr g45
  have N3 : NtS (xs5 A xo) (xo + 14) := n3.1.loc (fun p h1 h2 => by
    have q := w3.2.2 p (by rw [y3.1]; omega)
    exact ⟨q.1, q.2.1, q.2.2.2.2 (by omega)⟩)
  have N4 : NtS (xs5 A xo) (xo + 30) := n4.1.loc (fun p h1 h2 => by
    have q := w4.2.2 p (by rw [y4.1]; omega)
    exact ⟨q.1, q.2.1, q.2.2.2.2 (by omega)⟩)
  -- the arrays
  have ar : ∀ i (hi : i < 6), zQ (xs5 A xo) xo (arL[i]'hi).1 = some (xo + 46 + i) ∧ zK (xs5 A xo) (xo + 46 + i) = (arL[i]'hi).2.1 ∧ zN (xs5 A xo) (xo + 46 + i) = (arL[i]'hi).2.2 ∧ zQ (xs5 A xo) (xo + 46 + i) = fun _ => none := fun i hi => by
    have h9 := iaL_at xo arL (xs4 A xo) (by rw [x4.1]; omega) rfl i _ (List.getElem?_eq_getElem (show i < arL.length from hi))
    rw [x4.1] at h9
    exact ⟨h9.1, h9.2.1, h9.2.2.1, h9.2.2.2.2.2⟩
  -- its own fields
  have q5 : ∀ i, i < 3 → zQ (xs5 A xo) xo i = zQ (xs4 A xo) xo i := fun i hi => iaL_o xo arL (xs4 A xo) i (by rw [x4.1]; omega) (by
    have h3 : i = 0 ∨ i = 1 ∨ i = 2 := by omega
    rcases h3 with rfl | rfl | rfl <;> decide)
  have q4 : ∀ i, i ≠ 2 → zQ (xs4 A xo) xo i = zQ (xs3 A xo) xo i := fun i hi => by
    unfold xs4
    rw [zQ_k _ _ hi, (nt_lo (b := xo + 3) hx4 (show xo < xo + 30 by omega)).2.2.2.2, zQ_nw, va_ne _ _ (by rw [x3.1]; omega)]
  have q3 : ∀ i, i ≠ 1 → zQ (xs3 A xo) xo i = zQ (xs2 A xo) xo i := fun i hi => by
    unfold xs3
    rw [zQ_k _ _ hi, (nt_lo (b := xo + 3) hx3 (show xo < xo + 14 by omega)).2.2.2.2, zQ_nw, va_ne _ _ (by rw [x2.1]; omega)]
  have q2 : zQ (xs2 A xo) xo = zQ (xs1 A xo) xo := by
    unfold xs2
    rw [((iaL_gw (xo + 3) lwL (nw (xs1 A xo) 2 0 17)).2.2 xo (by rw [zX_nw, x1.1]; omega)).2.2.2.2 (by omega), zQ_nw, va_ne _ _ (by rw [x1.1]; omega)]
  have f0 : zQ (xs5 A xo) xo 0 = some (xo + 1) := by rw [q5 0 (by decide), q4 0 (by decide), q3 0 (by decide), q2]; exact zQ_s _ _ _ _
  have f1 : zQ (xs5 A xo) xo 1 = some (xo + 14) := by rw [q5 1 (by decide), q4 1 (by decide)]; exact zQ_s _ _ _ _
  have f2 : zQ (xs5 A xo) xo 2 = some (xo + 30) := by rw [q5 2 (by decide)]; exact zQ_s _ _ _ _
  have a0 := ar 0 (by decide)
  have a1 := ar 1 (by decide)
  have a2 := ar 2 (by decide)
  have a3 := ar 3 (by decide)
  have a4 := ar 4 (by decide)
  have a5 := ar 5 (by decide)
  refine ⟨⟨(xs_k (i := 0) hK0 hA0).2.2.2.2, ⟨f0, p1.1.trans (tg.1.trans tk1), ?_, p2.1.trans t0.2.1, p2.2.1.trans t0.2.2.1⟩, ⟨f1, N3⟩, ⟨f2, N4⟩, ⟨a0.1, a0.2.1, a0.2.2.1⟩, ⟨a1.1, a1.2.1, a1.2.2.1⟩, ⟨a2.1, a2.2.1, a2.2.2.1⟩, ⟨a3.1, a3.2.1, a3.2.2.1⟩, ⟨a4.1, a4.2.1, a4.2.2.1⟩, ⟨a5.1, a5.2.1, a5.2.2.1⟩⟩, ⟨l0.loc (fun p h1 h2 => ⟨(pl (by omega)).1, (pl (by omega)).2.1, (pl (by omega)).2.2.2.2 (by omega)⟩), ?_, ?_⟩, ?_, fun p h1 h2 => ?_, ⟨?_, ?_⟩, ⟨fun p h1 h2 => ?_, fun i => ?_⟩, a0.2.2.2⟩
  · rw [p1.2.2.2.2 (by omega)]; exact t0.1
  · rw [(pl (by omega)).2.2.2.2 (by omega)]; exact lq 5 (Or.inl rfl)
  · rw [(pl (by omega)).2.2.2.2 (by omega)]; exact lq 6 (Or.inr rfl)
  · rw [(w3.2.2 (xo + 14) (by rw [y3.1]; omega)).2.2.2.2 (by omega)]; exact n3.2
  · rw [(pl h2).2.2.1]; exact li p h1 h2
  · rw [p1.2.2.1, tg.2.2.1]; exact ti1
  · rw [p2.2.2.1]; exact t0.2.2.2.1
  · rw [(w3.2.2 p (by rw [y3.1]; omega)).2.2.1]; exact z3.1 p h1 (by omega)
  · rw [(w3.2.2 (xo + 14) (by rw [y3.1]; omega)).2.2.1]; exact z3.2.2 i
end U2
