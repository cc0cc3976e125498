/-! ===== the calls: feed, prison ===== -/
section T7
variable {G : GG} {τ τ1 τ2 : Hp} {ad : Nat → Nat} {aA aS aV : Nat} {ρ : Nat → Nat} {T : ST} {n xo b k h S9 : Nat} {s : TD} {S : ST} {V V2 : VT}
theorem fdT_ok (p q r : Int64) {x : ST × Nat} (hx : ∀ i, i < x.2 → okS (x.1 i)) : ∀ j i, i < (fdT p q r x j).2 → okS ((fdT p q r x j).1 i) := by
  intro j
  induction j with
  | zero => exact hx
  | succ j ih =>
    intro i hi
    have e : fdT p q r x (j + 1) = tpS (fdT p q r x j) (byM (wSel p q r j) j) := rfl
    rw [e] at hi ⊢
    by_cases hk : tpOk (fdT p q r x j).2 (byM (wSel p q r j) j)
    · rw [tpS_y hk] at hi ⊢
      by_cases qi : i = (fdT p q r x j).2
      · rw [qi]
        show okS (va_up _ _ _ _)
        rw [va_up_s]
        exact hk.2
      · show okS (va_up _ _ _ _)
        rw [va_up_k _ _ qi]
        have hi2 : i < (fdT p q r x j).2 + 1 := hi
        exact ih i (by omega)
    · rw [tpS_n hk] at hi ⊢
      exact ih i hi
/-- the places of row y -/
def rowAt (y o i : Nat) : Prop := (2 ≤ o ∧ o ≤ 6 ∧ i = y) ∨ (9 ≤ o ∧ o ≤ 17 ∧ mrw o * y ≤ i ∧ i < mrw o * y + mrw o) ∨ (18 ≤ o ∧ o ≤ 19 ∧ 2 * y ≤ i ∧ i < 2 * y + 2) ∨ (o = 20 ∧ 1000 * y ≤ i ∧ i < 1000 * y + 1000)
theorem ixF_2 (ice : Bool) : ixF ice < 2 := by cases ice <;> decide
theorem RowP.mv {y : Nat} (hR : RowP V y s) (hV : TV T n s) (e : ∀ o i, rowAt y o i → V2 o i = V o i) : RowP V2 y s := by
  obtain ⟨⟨a0, a1, a2, a3, a4⟩, k10, k15, k16, kf⟩ := hR
  obtain ⟨⟨c0, c1, c2, c3, c4⟩, hm, h9, h10, h13, h16, hF⟩ := hV
  have e1 : ∀ o, 2 ≤ o → o ≤ 6 → V2 o y = V o y := fun o h1 h2 => e o y (Or.inl ⟨h1, h2, rfl⟩)
  have e9 : ∀ o i, 9 ≤ o → o ≤ 17 → i < mrw o → V2 o (mrw o * y + i) = V o (mrw o * y + i) := fun o i h1 h2 h3 => e o _ (Or.inr (Or.inl ⟨h1, h2, by omega, by omega⟩))
  have e18 : ∀ o i, 18 ≤ o → o ≤ 19 → i < 2 → V2 o (2 * y + i) = V o (2 * y + i) := fun o i h1 h2 h3 => e o _ (Or.inr (Or.inr (Or.inl ⟨h1, h2, by omega, by omega⟩)))
  have e20 : ∀ i, i < 1000 → V2 20 (1000 * y + i) = V 20 (1000 * y + i) := fun i h1 => e 20 _ (Or.inr (Or.inr (Or.inr ⟨rfl, by omega, by omega⟩)))
  refine ⟨⟨(e1 2 (by decide) (by decide)).trans a0, (e1 3 (by decide) (by decide)).trans a1, (e1 4 (by decide) (by decide)).trans a2, (e1 5 (by decide) (by decide)).trans a3, (e1 6 (by decide) (by decide)).trans a4⟩, fun j hj => ⟨(e9 10 j (by decide) (by decide) (show j < 10 by omega)).trans (k10 j hj).1, (e9 11 j (by decide) (by decide) (show j < 10 by omega)).trans (k10 j hj).2⟩, fun j hj => (e9 15 j (by decide) (by decide) (show j < 6 by omega)).trans (k15 j hj), fun g hg => ⟨(e9 16 g (by decide) (by decide) (show g < 2 by omega)).trans (k16 g hg).1, fun i hi => ?_⟩, fun ice => ⟨fun q => ?_, fun E q => ?_⟩⟩
  · obtain ⟨l, q1, q2, q3, _⟩ := h16 g hg
    have hi2 := hi
    rw [q1, nI_clamp (by omega)] at hi2
    exact (e9 17 (8 * g + i) (by decide) (by decide) (show 8 * g + i < 16 by omega)).trans ((k16 g hg).2 i hi)
  · rw [e18 19 _ (by decide) (by decide) (ixF_2 ice), e18 18 _ (by decide) (by decide) (ixF_2 ice)]; exact (kf ice).1 q
  · obtain ⟨f, x1, x2, x3, x4⟩ := (kf ice).2 E q
    refine ⟨f, x1, (e18 18 _ (by decide) (by decide) (ixF_2 ice)).trans x2, (e18 19 _ (by decide) (by decide) (ixF_2 ice)).trans x3, fun i x hx => ?_⟩
    have hi := (List.getElem?_eq_some_iff.mp hx).1
    rw [Nat.add_assoc, e20 _ (by omega), ← Nat.add_assoc]
    exact x4 i x hx
theorem rowAt_n {y o i : Nat} (hy : y = 0 ∨ 2 ≤ y) (h : rowAt y o i) : ¬ chg o i := by
  intro q
  rcases h with ⟨h1, h2, h3⟩ | ⟨h1, h2, h3, h4⟩ | ⟨h1, h2, h3, h4⟩ | ⟨h1, h3, h4⟩
  · unfold chg at q
    omega
  · have hm := mrw_p (o := o)
    have h5 : mrw o ≤ i ∧ i < 2 * mrw o := by unfold chg at q; omega
    rcases hy with rfl | hy
    · rw [Nat.mul_zero] at h4; omega
    · have h6 : mrw o * 2 ≤ mrw o * y := Nat.mul_le_mul_left _ hy
      omega
  · unfold chg at q; omega
  · unfold chg at q; omega
theorem rowAt_z {y o i : Nat} (hy : 2 ≤ y) (h : rowAt y o i) : ¬ chz o i := by
  intro q
  rcases h with ⟨h1, h2, h3⟩ | ⟨h1, h2, h3, h4⟩ | ⟨h1, h2, h3, h4⟩ | ⟨h1, h3, h4⟩
  · unfold chz at q; omega
  · have hm := mrw_p (o := o)
    have h5 : i < mrw o := by unfold chz at q; omega
    have h6 : mrw o * 2 ≤ mrw o * y := Nat.mul_le_mul_left _ hy
    omega
  · unfold chz at q; omega
  · unfold chz at q; omega
theorem wyN_pt {dN : Nat} (F : ST) (e : ∀ j, j < dN → V2 10 j = V 10 j ∧ V2 11 j = V 11 j) : ∀ k, wyN V2 dN F k = wyN V dN F k := by
  have k1 : ∀ n F d, d < dN → wyd V2 n F d = wyd V n F d := by
    intro n F d hd
    unfold wyd
    rw [(e d hd).1, (e d hd).2]
  have k2 : ∀ n F d, d ≤ dN → wyD V2 n F d = wyD V n F d := by
    intro n F d
    induction d with
    | zero => exact fun _ => rfl
    | succ d ih =>
      intro hd
      show wyd V2 n (wyD V2 n F d) d = wyd V n (wyD V n F d) d
      rw [ih (by omega), k1 _ _ _ (by omega)]
  intro k
  induction k with
  | zero => rfl
  | succ k ih =>
    show wyD V2 (k + 1) (wyN V2 dN F k) dN = wyD V (k + 1) (wyN V dN F k) dN
    rw [ih, k2 _ _ _ (Nat.le_refl _)]
theorem PT.row (h : PT s V) (hF : LnF s V) (hV : TV T n s) : RowP V 0 s := by
  obtain ⟨b0, k9, k10, k13, k16⟩ := h
  refine ⟨b0, fun j hj => ?_, fun j hj => ?_, fun g hg => ?_, fun ice => ?_⟩
  · rw [Nat.mul_zero, Nat.zero_add]; exact ⟨(k10 j hj).1, (k10 j hj).2.1⟩
  · rw [Nat.mul_zero, Nat.zero_add]; exact (k13 j hj).2.2
  · simp only [Nat.mul_zero, Nat.zero_add]; exact k16 g hg
  · have h1 := hF ice (ixF ice) rfl
    simp only [Nat.mul_zero, Nat.zero_add]
    exact ⟨fun q => ((h1.1 q).2.trans (h1.1 q).1.symm), h1.2⟩
theorem S0_SI (hV : TV T n s) (k : Nat) : SI (S0s s) s k 0 := by
  obtain ⟨⟨c0, c1, c2, c3, c4⟩, hm, h9, h10, h13, h16, hF⟩ := hV
  have z : ∀ i, 10 ≤ i → i < 30 → S0s s i = 0 := fun i h1 h2 => by unfold S0s; rw [if_neg (by omega), if_pos h2]
  have z4 : ∀ i, 40 ≤ i → i < 60 → S0s s i = 0 := fun i h1 h2 => by unfold S0s; rw [if_neg (by omega), if_neg (by omega), if_neg (by omega), if_pos h2]
  refine ⟨fun x hx => Or.inr ?_, fun j hj => ?_, fun x hx => ?_, fun j hj => ⟨0, Nat.zero_le _, z _ (by omega) (by omega)⟩, ?_, Nat.zero_le _⟩
  · obtain ⟨a, a1, a2⟩ := (h13.1 x hx).2.1
    refine ⟨a, a1, ?_⟩
    unfold S0s
    rw [if_neg (by omega), if_neg (by omega), if_neg (by omega), if_neg (by omega), if_neg (by omega), if_pos (by omega), show 68 + x - 68 = x by omega]
    exact a2
  · obtain ⟨a, a1, a2⟩ := (h10 j hj).2.2.2.2
    refine ⟨a, 0, a, ?_, z _ (by omega) (by omega), by omega, ?_, by omega, ?_⟩
    · unfold S0s; rw [if_pos (by omega)]; exact a2
    · unfold S0s; rw [if_neg (by omega), if_neg (by omega), if_pos (by omega), show 30 + j - 30 = j by omega]; exact a2
    · rw [z4 _ (by omega) (by omega), show a + 0 - a = 0 by omega]; rfl
  · obtain ⟨a, a1, a2⟩ := (h13.1 x hx).2.2.1
    refine ⟨a, a1, ?_⟩
    unfold S0s
    rw [if_neg (by omega), if_neg (by omega), if_neg (by omega), if_neg (by omega), if_neg (by omega), if_neg (by omega), if_pos (by omega), show 74 + x - 74 = x by omega]
    exact a2
  · unfold S0s
    rw [if_neg (by omega), if_neg (by omega), if_neg (by omega), if_neg (by omega), if_neg (by omega), if_neg (by omega), if_neg (by omega)]; rfl
set_option maxRecDepth 10000 in
theorem cl_feed (hE : NE G) (hL : LIc xo S9 k τ ρ b s T n h) (x y z : Int64) : Sp G mX9_feed 2 [.ref xo, .long x, .long y, .long z] τ (fun rv τ1 => ∃ r, (rv = some (.int r) ∧ zK τ1 (xo + 52) = 9) ∧ Sp G mX10_feed 1 [.ref (xo + 52), .long x, .long y, .long z] τ1 (fun rv τ2 => rv = some (.int r) ∧ LI xo S9 (k + 1) τ2)) := by
  obtain ⟨⟨hX, hM, hR30, hOut, hx1, hx2, hx3⟩, ⟨hN, hLX, hV⟩, ⟨hRow, h36⟩, ⟨hnv, hbar, hSI⟩, ⟨n0, g1, g2, g3, g4, g5⟩, h30, hMk, hMu⟩ := hL
  refine ht_mono (sc_feed (G := G) (σ := τ) (Z := zI τ) hE hX x y z g2 g1) ?_
  rintro rv σ' ⟨hrv, Z2, rfl, f1, f2, f3⟩
  refine ⟨_, ⟨hrv, hM.1⟩, ?_⟩
  have hM1 : MS (cv τ Z2) (xo + 52) := hM
  have hV1 : vV (cv τ Z2) (xo + 52) = vV τ (xo + 52) := vV_cg (fun q hq => f1 _ (by omega) (by omega))
  have hs1 := sv_id (cv τ Z2) (xo + 52)
  rw [hV1] at hs1
  have hr1 := sm_feed (G := G) (V := vV τ (xo + 52)) (U := vU (cv τ Z2) (xo + 52)) hM1 x y z g3 g1
  rw [hs1, g4] at hr1
  refine ht_mono hr1 ?_
  rintro rv2 σ2 ⟨hrv2, V', rfl, ⟨v1, v30⟩, v2, v3⟩
  refine ⟨hrv2, ρ, b, s, T, n, h, ?_⟩
  have hV' : vV (sv (cv τ Z2) (xo + 52) V' (vU (cv τ Z2) (xo + 52))) (xo + 52) = V' := vV_sv (fun q hq => (v1 q (by omega)).trans (vV_hi τ (xo + 52) hq))
  have io : ∀ p, p < xo + 52 ∨ xo + 94 ≤ p → zI (sv (cv τ Z2) (xo + 52) V' (vU (cv τ Z2) (xo + 52))) p = Z2 p := fun p hp => (sv_out _ _ V' _ (by omega)).1
  have eX : FrX τ ρ ρ xo (sv (cv τ Z2) (xo + 52) V' (vU (cv τ Z2) (xo + 52))) := by
    refine ⟨Nat.le_refl _, fun p hp hp2 => ⟨rfl, rfl, rfl, Or.inl rfl, ?_⟩⟩
    by_cases q : p < xo + 3
    · exact Or.inr (Or.inl q)
    · refine Or.inl ?_
      rw [io p (by omega)]
      exact f1 p (by omega) (by omega)
  unfold LIc
  rw [hV']
  refine ⟨⟨hX, hM, hR30, hOut, hx1, ?_, zS_up (Nat.le_add_right _ _) hx3⟩, ⟨hN, hLX.fr eX, hV⟩, ⟨hRow.cg (fun q q1 q2 => v1 q (by omega)), ?_⟩, ⟨?_, ?_, ?_⟩, ⟨(fdT x y z (zI τ (xo + 2), n0) 24).2, fdT_le x y z g1 24, ?_, v3, ?_, ?_⟩, ?_, fun i hi => ?_, hMu⟩
  · show zX τ ≤ xo + 95 + 22 * (k + 1)
    omega
  · obtain ⟨F, hF36⟩ := h36
    exact ⟨F, fun c hc => by rw [v1 36 (by decide)]; exact hF36 c hc⟩
  · rw [v1 33 (by decide), ← hnv]
    exact nv_fr (fun i hi _ _ => (io _ (by omega)).trans (f1 _ (by omega) (by omega)))
  · rw [io _ (by omega), f1 _ (by omega) (by omega)]; exact hbar
  · rw [v1 33 (by decide)]; exact hSI.up (by omega)
  · rw [io _ (by omega)]; exact f3
  · rw [io _ (by omega), f2]; exact v2
  · rw [io _ (by omega), f2]; exact fdT_ok x y z g5 24
  · rw [v30]; exact h30
  · refine (hMk i hi).fr (by omega) eX rfl (fun a ha p q1 q2 => ⟨?_, rfl⟩) (by rw [v1 41 (by decide)]) (fun i _ => by rw [v1 35 (by decide)]) (fun s2 T9 n9 _ hs2 => hs2.cg (fun q q1 q2 => v1 q (by omega)))
    rcases hMk i hi with ⟨_, z2⟩ | ⟨_, a2, b2, s2, T2, n2, h2, y1, y2, y3, _⟩
    · rw [z2] at ha; cases ha
    · rw [y1] at ha
      cases ha
      rw [io p (by omega)]
      exact f1 p (by omega) (by omega)
end T7
