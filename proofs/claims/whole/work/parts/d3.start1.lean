/-! ===== the invariant holds at the start ===== -/
section U3
variable {σ : Hp} {xo : Nat}
theorem mdL_at : ∀ i (hi : i < mdL.length), mdL[i]'hi = (mF (i + 1), mKd (i + 1), mLn (i + 1)) := by decide
theorem stM (hx : zX σ = xo) : MS (stT σ xo) (xo + 52) ∧ (∀ o, o < 42 → zI (stT σ xo) (xo + 52 + o) = fun _ => 0) := by
  have x1 := stA_x hx
  have x2 := stB_x hx
  have hx9 : zX (nw (stA σ xo) 9 0 57) = xo + 53 := by rw [zX_nw, x1.2.1]
  have gB := Gw.nw (stB σ xo) 0 21 1 1
  have g0 := iaL_gw (xo + 52) mdL (nw (stA σ xo) 9 0 57)
  have at0 : ∀ i (hi : i < 41), zQ (stB σ xo) (xo + 52) (mF (i + 1)) = some (xo + 53 + i) ∧ zK (stB σ xo) (xo + 53 + i) = mKd (i + 1) ∧ zN (stB σ xo) (xo + 53 + i) = mLn (i + 1) ∧ zI (stB σ xo) (xo + 53 + i) = fun _ => 0 := fun i hi => by
    have hi2 : i < mdL.length := hi
    have h9 := iaL_at (xo + 52) mdL (nw (stA σ xo) 9 0 57) (by rw [hx9]; omega) rfl i _ (List.getElem?_eq_getElem hi2)
    rw [hx9, mdL_at i hi2] at h9
    exact ⟨h9.1, h9.2.1, h9.2.2.1, h9.2.2.2.1⟩
  have b0 := g0.2.2 (xo + 52) (by rw [hx9]; omega)
  have k0 : zK (stB σ xo) (xo + 52) = 9 := b0.1.trans (by rw [zK_nw, x1.2.1]; exact va_sm _ _ _)
  have i0 : zI (stB σ xo) (xo + 52) = fun _ => 0 := b0.2.2.1.trans (by rw [zI_nw, x1.2.1]; exact va_sm _ _ _)
  have lo : ∀ p, p < xo + 94 → zK (stT σ xo) p = zK (stB σ xo) p ∧ zN (stT σ xo) p = zN (stB σ xo) p ∧ zI (stT σ xo) p = zI (stB σ xo) p := fun p hp => by
    have q := gB.2.2 p (by rw [x2.1]; exact hp)
    exact ⟨q.1, q.2.1, q.2.2.1⟩
  have qo : zQ (stT σ xo) (xo + 52) = zQ (stB σ xo) (xo + 52) := by
    unfold stT
    rw [zQ_nw, va_ne _ _ (by rw [x2.1]; omega)]
  refine ⟨⟨(lo _ (by omega)).1.trans k0, fun q h1 h2 => ?_⟩, fun q hq => ?_⟩
  · have h9 := at0 (q - 1) (by omega)
    rw [show xo + 53 + (q - 1) = xo + 52 + q by omega, show q - 1 + 1 = q by omega] at h9
    rw [qo, (lo _ (by omega)).1, (lo _ (by omega)).2.1]
    exact ⟨h9.1, h9.2.1, h9.2.2.1⟩
  · rw [(lo _ (by omega)).2.2]
    by_cases z : q = 0
    · rw [z]; exact i0
    · have h9 := (at0 (q - 1) (by omega)).2.2.2
      rw [show xo + 53 + (q - 1) = xo + 52 + q by omega] at h9
      exact h9
def rho0 (xo p : Nat) : Nat := if xo + 3 ≤ p ∧ p < xo + 14 then xo + 3 else if xo + 14 ≤ p ∧ p < xo + 30 then xo + 14 else xo + 30
theorem nv_zero {Z : VT} {a dN : Nat} (h1 : ∀ p, a < p → p < a + 16 → Z p = fun _ => 0) (h2 : Z a 1 = 0) (hd : dN = 0) : nv dN Z a = fun _ => 0 := by
  subst hd
  have z : ∀ p i, a < p → p < a + 16 → Z p i = 0 := fun p i q1 q2 => by rw [h1 p q1 q2]
  funext i
  unfold nv
  by_cases q1 : i < 10
  · rw [if_pos q1, z _ _ (by omega) (by omega)]
  rw [if_neg q1]
  by_cases q2 : i < 20
  · rw [if_pos q2, z _ _ (by omega) (by omega)]
  rw [if_neg q2]
  by_cases q3 : i < 30
  · rw [if_pos q3, z _ _ (by omega) (by omega)]
  rw [if_neg q3]
  by_cases q4 : i < 40
  · rw [if_pos q4, z _ _ (by omega) (by omega)]
  rw [if_neg q4]
  by_cases q5 : i < 50
  · rw [if_pos q5, z _ _ (by omega) (by omega), z _ _ (by omega) (by omega), z _ _ (by omega) (by omega)]; rfl
  rw [if_neg q5]
  by_cases q6 : i < 60
  · rw [if_pos q6, if_neg (by omega)]
  rw [if_neg q6]
  by_cases q7 : i < 68
  · rw [if_pos q7, z _ _ (by omega) (by omega)]
  rw [if_neg q7]
  by_cases q8 : i < 74
  · rw [if_pos q8, z _ _ (by omega) (by omega)]
  rw [if_neg q8]
  by_cases q9 : i < 80
  · rw [if_pos q9, z _ _ (by omega) (by omega)]
  rw [if_neg q9]
  by_cases q10 : i = 80
  · rw [if_pos q10, h2]
  · rw [if_neg q10]
theorem LI_start (hx : zX σ = xo) : LI xo (zS σ + 10107) 0 (stT σ xo) := by
  obtain ⟨hX, ⟨hLw, l5, l6⟩, hq14, hz3, ⟨hz1, hz2⟩, ⟨hzn, hz14⟩, h46⟩ := stX hx
  obtain ⟨hM, hMz⟩ := stM hx
  have x1 := stA_x hx
  have x3 := stT_x hx
  have g := stT_g hx
  have lo : ∀ p, p < xo + 52 → zK (stT σ xo) p = zK (stA σ xo) p ∧ zN (stT σ xo) p = zN (stA σ xo) p ∧ zI (stT σ xo) p = zI (stA σ xo) p ∧ zQ (stT σ xo) p = zQ (stA σ xo) p := fun p hp => by
    have q := g.2.2 p (by rw [x1.2.1]; exact hp)
    exact ⟨q.1, q.2.1, q.2.2.1, q.2.2.2.2 (by omega)⟩
  have hVz : vV (stT σ xo) (xo + 52) = fun _ _ => 0 := by
    funext q i
    show (if q < 42 then zI (stT σ xo) (xo + 52 + q) i else 0) = 0
    by_cases z : q < 42
    · rw [if_pos z, hMz q z]
    · rw [if_neg z]
  have hOut := nw_N (stB σ xo) 21 1 1
  rw [(stB_x hx).1] at hOut
  have hnv0 : nv (tdC tdZ 1) (zI (stT σ xo)) (xo + 14) = fun _ => 0 := nv_zero (fun p h1 h2 => by rw [(lo p (by omega)).2.2.1]; exact hzn p h1 (by omega)) (by rw [(lo _ (by omega)).2.2.1, hz14]; rfl) rfl
  have zl : ∀ j, j < 11 → zI (stT σ xo) (xo + 3 + j) = fun _ => 0 := fun j hj => by rw [(lo _ (by omega)).2.2.1]; exact hz3 _ (by omega) (by omega)
  have zl0 : zI (stT σ xo) (xo + 3) = fun _ => 0 := zl 0 (by decide)
  have ql : zQ (stT σ xo) (xo + 3) = zQ (stA σ xo) (xo + 3) := (lo _ (by omega)).2.2.2
  refine ⟨rho0 xo, xo + 3, tdZ, fun _ => 0, 0, 0, ?_⟩
  unfold LIc
  rw [hVz]
  refine ⟨⟨hX.loc (fun p h1 h2 => ⟨(lo p h2).1, (lo p h2).2.1, (lo p h2).2.2.2⟩), hM, fun i hi => ?_, hOut, by omega, by omega, by rw [x3.2]; exact Nat.le_refl _⟩, ⟨⟨hX.nt.loc (fun p h1 h2 => ⟨(lo p (by omega)).1, (lo p (by omega)).2.1, (lo p (by omega)).2.2.2⟩), ?_, fun i hi => ?_⟩, ⟨⟨hLw.loc (fun p h1 h2 => ⟨(lo p (by omega)).1, (lo p (by omega)).2.1, (lo p (by omega)).2.2.2⟩), fun i hi => ?_, Or.inl rfl, by omega⟩, ⟨⟨?_, ?_, ?_, ?_, ?_⟩, fun j hj => absurd hj (Nat.not_lt_zero _), fun j hj => absurd hj (Nat.not_lt_zero _), fun j hj => absurd hj (Nat.not_lt_zero _), fun j hj => absurd hj (Nat.not_lt_zero _)⟩, ?_, ?_, fun f hf => ?_⟩, TV_z _ _⟩, ⟨⟨⟨rfl, rfl, rfl, rfl, rfl⟩, fun j hj => absurd hj (Nat.not_lt_zero _), fun j hj => absurd hj (Nat.not_lt_zero _), fun j hj => absurd hj (Nat.not_lt_zero _), fun ice => ⟨fun _ => rfl, fun E q => by cases q⟩⟩, ⟨fun _ => 0, fun c hc => absurd hc (Nat.not_lt_zero _)⟩⟩, ⟨hnv0, ?_, ⟨fun x hx => absurd hx (Nat.not_lt_zero _), fun x hx => absurd hx (Nat.not_lt_zero _), fun x hx => absurd hx (Nat.not_lt_zero _), fun x hx => absurd hx (Nat.not_lt_zero _), rfl, Nat.le_refl _⟩⟩, ⟨0, by decide, ?_, rfl, ?_, fun i hi => absurd hi (Nat.not_lt_zero _)⟩, Or.inl rfl, fun x hx => Or.inl ⟨rfl, ?_⟩, fun x y a hx hy h1 h2 => ?_⟩
  · unfold rho0; rw [if_neg (by omega), if_neg (by omega)]
  · rw [(lo _ (by omega)).2.2.2]; exact hq14
  · unfold rho0; rw [if_neg (by omega), if_pos (by omega)]
  · unfold rho0; rw [if_pos (by omega)]
  · rw [zl0]; rfl
  · rw [zl0]; rfl
  · rw [zl0]; rfl
  · rw [zl0]; rfl
  · rw [zl0]; rfl
  · show zQ (stT σ xo) (xo + 3) 5 = none
    rw [ql]; exact l5
  · show zQ (stT σ xo) (xo + 3) 6 = none
    rw [ql]; exact l6
  · rcases hf with q | q
    · rw [ql, l5] at q; cases q
    · rw [ql, l6] at q; cases q
  · rw [(lo _ (by omega)).2.2.1, hz14]; rfl
  · rw [(lo _ (by omega)).2.2.1, hz1]; rfl
  · rw [(lo _ (by omega)).2.2.1, hz2]
  · rw [(lo _ (by omega)).2.2.2, h46]
  · rw [(lo _ (by omega)).2.2.2, h46] at h1; cases h1
end U3
