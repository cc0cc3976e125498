/-! ===== each line keeps what holds of the told ===== -/
section R1
variable {T : ST} {n : Nat} {s : TD}
theorem TV_mild (h : TV T n s) {v : Nat} (hv : v ≤ 20) : TV T n (asR (asC s 4 1) 6 0 (nI v)) := by
  obtain ⟨⟨a0, a1, a2, a3, a4⟩, hm, h9, h10, h13, h16, hF⟩ := h
  refine ⟨⟨a0, a1, a2, a3, Nat.le_refl 1⟩, ⟨⟨v, hv, up2_s (tdR s) 6 0 (nI v)⟩, hm.2⟩, ⟨fun i hi => ⟨Or.inr (h9.1 i hi).1, (h9.1 i hi).2⟩, h9.2⟩, fun j hj => ⟨⟨Or.inr (h10 j hj).1.1, Or.inr (h10 j hj).1.2.1, Or.inr (h10 j hj).1.2.2⟩, (h10 j hj).2⟩, ⟨fun j hj => ⟨⟨Or.inr (h13.1 j hj).1.1, Or.inr (h13.1 j hj).1.2.1, Or.inr (h13.1 j hj).1.2.2⟩, (h13.1 j hj).2⟩, h13.2⟩, fun g hg => ?_, hF⟩
  obtain ⟨l, q1, q2, q3, q4⟩ := h16 g hg
  exact ⟨l, q1, q2, q3, fun i hi => ⟨Or.inr (q4 i hi).1, (q4 i hi).2⟩⟩
theorem TV_cell (h : TV T n s) {v : Nat} {w : Int64} (hv : v ≤ 9) (hc : tdC s 0 < 8) : TV T n (asC (asR (asN s 0 (tdC s 0) w) 9 (tdC s 0) (nI v)) 0 (tdC s 0 + 1)) := by
  obtain ⟨⟨a0, a1, a2, a3, a4⟩, hm, h9, h10, h13, h16, hF⟩ := h
  have up : ∀ {P : Nat → Prop}, (∃ a, a < tdC s 0 ∧ P a) → ∃ a, a < tdC s 0 + 1 ∧ P a := fun ⟨a, q1, q2⟩ => ⟨a, by omega, q2⟩
  refine ⟨⟨hc, a1, a2, a3, a4⟩, hm, ⟨fun i hi => ?_, fun i hi => ?_⟩, fun j hj => ?_, ⟨fun j hj => ?_, h13.2⟩, fun g hg => ?_, hF⟩
  · have hi2 : i < tdC s 0 + 1 := hi
    by_cases q : i = tdC s 0
    · rw [q]; exact ⟨Or.inl ⟨rfl, rfl⟩, v, hv, up2_s _ _ _ _⟩
    · obtain ⟨q1, x, q2, q3⟩ := h9.1 i (by omega)
      exact ⟨Or.inr q1, x, q2, (up2_k _ _ q).trans q3⟩
  · have hi2 : tdC s 0 + 1 ≤ i := hi
    exact (up2_k _ _ (by omega)).trans (h9.2 i (by omega))
  · obtain ⟨⟨x1, x2, x3⟩, x4, x5, x6⟩ := h10 j hj
    exact ⟨⟨Or.inr x1, Or.inr x2, Or.inr x3⟩, up x4, x5.imp id (fun q => up q), x6⟩
  · obtain ⟨⟨x1, x2, x3⟩, x4, x5⟩ := h13.1 j hj
    exact ⟨⟨Or.inr x1, Or.inr x2, Or.inr x3⟩, up x4, x5⟩
  · obtain ⟨l, q1, q2, q3, q4⟩ := h16 g hg
    exact ⟨l, q1, q2, q3, fun i hi => ⟨Or.inr (q4 i hi).1, up (q4 i hi).2⟩⟩
theorem TV_door (h : TV T n s) {v j : Nat} {y : Int32} (hv : v ≤ 99) (hd : tdC s 1 < 10) (hj : j < tdC s 0) (hy : y = -1 ∨ ∃ a, a < tdC s 0 ∧ y = nI a) (hne : ¬ nI j = y) : TV T n (asC (asR (asR (asR s 10 (tdC s 1) (nI j)) 11 (tdC s 1) y) 12 (tdC s 1) (nI v)) 1 (tdC s 1 + 1)) := by
  obtain ⟨⟨a0, a1, a2, a3, a4⟩, hm, h9, h10, h13, h16, hF⟩ := h
  have w3 : ∀ {o i : Nat}, tdW s o i → tdW (asC (asR (asR (asR s 10 (tdC s 1) (nI j)) 11 (tdC s 1) y) 12 (tdC s 1) (nI v)) 1 (tdC s 1 + 1)) o i := fun q => Or.inr (Or.inr (Or.inr q))
  refine ⟨⟨a0, hd, a2, a3, a4⟩, ⟨hm.1, fun i hi => ?_⟩, ⟨fun i hi => ⟨w3 (h9.1 i hi).1, (h9.1 i hi).2⟩, h9.2⟩, fun i hi => ?_, ⟨fun i hi => ?_, h13.2⟩, fun g hg => ?_, hF⟩
  · have hi2 : tdC s 1 + 1 ≤ i := hi
    exact (up2_k (tdR (asR (asR s 10 (tdC s 1) (nI j)) 11 (tdC s 1) y)) _ (by omega)).trans (hm.2 i (by omega))
  · have hi2 : i < tdC s 1 + 1 := hi
    by_cases q : i = tdC s 1
    · rw [q]
      have e10 : tdR (asC (asR (asR (asR s 10 (tdC s 1) (nI j)) 11 (tdC s 1) y) 12 (tdC s 1) (nI v)) 1 (tdC s 1 + 1)) 10 (tdC s 1) = nI j := up2_s (tdR s) _ _ _
      have e11 : tdR (asC (asR (asR (asR s 10 (tdC s 1) (nI j)) 11 (tdC s 1) y) 12 (tdC s 1) (nI v)) 1 (tdC s 1 + 1)) 11 (tdC s 1) = y := up2_s (tdR (asR s 10 (tdC s 1) (nI j))) _ _ _
      exact ⟨⟨Or.inr (Or.inr (Or.inl ⟨rfl, rfl⟩)), Or.inr (Or.inl ⟨rfl, rfl⟩), Or.inl ⟨rfl, rfl⟩⟩, ⟨j, hj, e10⟩, by rw [e11]; exact hy, by rw [e10, e11]; exact hne, v, hv, up2_s _ _ _ _⟩
    · obtain ⟨⟨x1, x2, x3⟩, x4, x5, x6, x7⟩ := h10 i (by omega)
      have e10 : tdR (asC (asR (asR (asR s 10 (tdC s 1) (nI j)) 11 (tdC s 1) y) 12 (tdC s 1) (nI v)) 1 (tdC s 1 + 1)) 10 i = tdR s 10 i := up2_k (tdR s) _ q
      have e11 : tdR (asC (asR (asR (asR s 10 (tdC s 1) (nI j)) 11 (tdC s 1) y) 12 (tdC s 1) (nI v)) 1 (tdC s 1 + 1)) 11 i = tdR s 11 i := up2_k (tdR (asR s 10 (tdC s 1) (nI j))) _ q
      have e12 : tdR (asC (asR (asR (asR s 10 (tdC s 1) (nI j)) 11 (tdC s 1) y) 12 (tdC s 1) (nI v)) 1 (tdC s 1 + 1)) 12 i = tdR s 12 i := up2_k (tdR (asR (asR s 10 (tdC s 1) (nI j)) 11 (tdC s 1) y)) _ q
      rw [e10, e11, e12]
      exact ⟨⟨w3 x1, w3 x2, w3 x3⟩, x4, x5, x6, x7⟩
  · obtain ⟨⟨x1, x2, x3⟩, x4⟩ := h13.1 i hi
    exact ⟨⟨w3 x1, w3 x2, w3 x3⟩, x4⟩
  · obtain ⟨l, q1, q2, q3, q4⟩ := h16 g hg
    exact ⟨l, q1, q2, q3, fun i hi => ⟨w3 (q4 i hi).1, (q4 i hi).2⟩⟩
theorem TV_man (h : TV T n s) {v u j : Nat} {w : Int64} (hv : v ≤ 9) (hu : u ≤ 99) (hd : tdC s 2 < 6) (hj : j < tdC s 0) : TV T n (asC (asR (asR (asR (asN s 1 (tdC s 2) w) 13 (tdC s 2) (nI j)) 14 (tdC s 2) (nI v)) 15 (tdC s 2) (nI u)) 2 (tdC s 2 + 1)) := by
  obtain ⟨⟨a0, a1, a2, a3, a4⟩, hm, h9, h10, h13, h16, hF⟩ := h
  have w3 : ∀ {o i : Nat}, tdW s o i → tdW (asC (asR (asR (asR (asN s 1 (tdC s 2) w) 13 (tdC s 2) (nI j)) 14 (tdC s 2) (nI v)) 15 (tdC s 2) (nI u)) 2 (tdC s 2 + 1)) o i := fun q => Or.inr (Or.inr (Or.inr q))
  have e13 : ∀ i, i ≠ tdC s 2 → tdR (asC (asR (asR (asR (asN s 1 (tdC s 2) w) 13 (tdC s 2) (nI j)) 14 (tdC s 2) (nI v)) 15 (tdC s 2) (nI u)) 2 (tdC s 2 + 1)) 13 i = tdR s 13 i := fun i q => up2_k (tdR s) _ q
  have e14 : ∀ i, i ≠ tdC s 2 → tdR (asC (asR (asR (asR (asN s 1 (tdC s 2) w) 13 (tdC s 2) (nI j)) 14 (tdC s 2) (nI v)) 15 (tdC s 2) (nI u)) 2 (tdC s 2 + 1)) 14 i = tdR s 14 i := fun i q => up2_k (tdR (asR (asN s 1 (tdC s 2) w) 13 (tdC s 2) (nI j))) _ q
  have e15 : ∀ i, i ≠ tdC s 2 → tdR (asC (asR (asR (asR (asN s 1 (tdC s 2) w) 13 (tdC s 2) (nI j)) 14 (tdC s 2) (nI v)) 15 (tdC s 2) (nI u)) 2 (tdC s 2 + 1)) 15 i = tdR s 15 i := fun i q => up2_k (tdR (asR (asR (asN s 1 (tdC s 2) w) 13 (tdC s 2) (nI j)) 14 (tdC s 2) (nI v))) _ q
  refine ⟨⟨a0, a1, hd, a3, a4⟩, hm, ⟨fun i hi => ⟨w3 (h9.1 i hi).1, (h9.1 i hi).2⟩, h9.2⟩, fun i hi => ?_, ⟨fun i hi => ?_, fun i hi => ?_⟩, fun g hg => ?_, hF⟩
  · obtain ⟨⟨x1, x2, x3⟩, x4⟩ := h10 i hi
    exact ⟨⟨w3 x1, w3 x2, w3 x3⟩, x4⟩
  · have hi2 : i < tdC s 2 + 1 := hi
    by_cases q : i = tdC s 2
    · rw [q]
      exact ⟨⟨Or.inr (Or.inr (Or.inl ⟨rfl, rfl⟩)), Or.inr (Or.inl ⟨rfl, rfl⟩), Or.inl ⟨rfl, rfl⟩⟩, ⟨j, hj, up2_s (tdR s) _ _ _⟩, ⟨v, hv, up2_s (tdR (asR (asN s 1 (tdC s 2) w) 13 (tdC s 2) (nI j))) _ _ _⟩, u, hu, up2_s _ _ _ _⟩
    · obtain ⟨⟨x1, x2, x3⟩, x4, x5, x6⟩ := h13.1 i (by omega)
      rw [e13 i q, e14 i q, e15 i q]
      exact ⟨⟨w3 x1, w3 x2, w3 x3⟩, x4, x5, x6⟩
  · have hi2 : tdC s 2 + 1 ≤ i := hi
    rw [e13 i (by omega), e14 i (by omega)]
    exact h13.2 i (by omega)
  · obtain ⟨l, q1, q2, q3, q4⟩ := h16 g hg
    exact ⟨l, q1, q2, q3, fun i hi => ⟨w3 (q4 i hi).1, (q4 i hi).2⟩⟩
/-- while a guard's round is told -/
def RdI (s : TD) (g len : Nat) (x : TD) : Prop := tdC x = tdC s ∧ tdN x = tdN s ∧ tdF x = tdF s ∧ (∀ o, o ≠ 17 → tdR x o = tdR s o) ∧ (∀ o i, tdW s o i → tdW x o i) ∧ (∀ i, i < 8 * g → tdR x 17 i = tdR s 17 i) ∧ ∀ i, i < len → tdW x 17 (8 * g + i) ∧ ∃ a, a < tdC s 0 ∧ tdR x 17 (8 * g + i) = nI a
theorem RdI_0 (s : TD) (g : Nat) : RdI s g 0 s := ⟨rfl, rfl, rfl, fun _ _ => rfl, fun _ _ q => q, fun _ _ => rfl, fun i hi => absurd hi (by omega)⟩
theorem RdI_s {g len j : Nat} {x : TD} (h : RdI s g len x) (hj : j < tdC s 0) : RdI s g (len + 1) (asR x 17 (8 * g + len) (nI j)) := by
  obtain ⟨h1, h2, h3, h4, h5, h6, h7⟩ := h
  refine ⟨h1, h2, h3, fun o q => ?_, fun o i q => Or.inr (h5 o i q), fun i hi => ?_, fun i hi => ?_⟩
  · exact (up2_o _ _ q).trans (h4 o q)
  · exact (up2_k _ _ (by omega)).trans (h6 i hi)
  · by_cases q : i = len
    · rw [q]; exact ⟨Or.inl ⟨rfl, rfl⟩, j, hj, up2_s _ _ _ _⟩
    · obtain ⟨x1, a, x2, x3⟩ := h7 i (by omega)
      exact ⟨Or.inr x1, a, x2, (up2_k _ _ (by omega)).trans x3⟩
theorem TV_guard (h : TV T n s) {len : Nat} {x : TD} (hx : RdI s (tdC s 3) len x) (hg : tdC s 3 < 2) (hl : 0 < len) (hl8 : len ≤ 8) : TV T n (asC (asR x 16 (tdC s 3) (nI len)) 3 (tdC s 3 + 1)) := by
  obtain ⟨⟨a0, a1, a2, a3, a4⟩, hm, h9, h10, h13, h16, hF⟩ := h
  obtain ⟨xC, xR, xN, xF, xW⟩ := x
  obtain ⟨h1, h2, h3, h4, h5, h6, h7⟩ := hx
  have c1 : xC = tdC s := h1
  have c3 : xF = tdF s := h3
  subst c1
  subst c3
  have er : ∀ o i, o ≠ 17 → o ≠ 16 → tdR (asC (asR (tdC s, xR, xN, tdF s, xW) 16 (tdC s 3) (nI len)) 3 (tdC s 3 + 1)) o i = tdR s o i := fun o i q1 q2 => (up2_a _ _ q2).trans (congrFun (h4 o q1) i)
  have e17 : ∀ i, tdR (asC (asR (tdC s, xR, xN, tdF s, xW) 16 (tdC s 3) (nI len)) 3 (tdC s 3 + 1)) 17 i = xR 17 i := fun i => up2_a (a := 16) (k := tdC s 3) xR (nI len) (b := 17) (j := i) (by decide)
  have w3 : ∀ {o i : Nat}, tdW s o i → tdW (asC (asR (tdC s, xR, xN, tdF s, xW) 16 (tdC s 3) (nI len)) 3 (tdC s 3 + 1)) o i := fun q => Or.inr (h5 _ _ q)
  refine ⟨⟨a0, a1, a2, hg, a4⟩, ?_, ⟨fun i hi => ?_, fun i hi => ?_⟩, fun i hi => ?_, ⟨fun i hi => ?_, fun i hi => ?_⟩, fun g hg2 => ?_, hF⟩
  · refine ⟨by rw [er 6 0 (by decide) (by decide)]; exact hm.1, fun i hi => ?_⟩
    rw [er 12 i (by decide) (by decide)]; exact hm.2 i hi
  · rw [er 9 i (by decide) (by decide)]; exact ⟨w3 (h9.1 i hi).1, (h9.1 i hi).2⟩
  · rw [er 9 i (by decide) (by decide)]; exact h9.2 i hi
  · obtain ⟨⟨x1, x2, x3⟩, x4⟩ := h10 i hi
    rw [er 10 i (by decide) (by decide), er 11 i (by decide) (by decide), er 12 i (by decide) (by decide)]
    exact ⟨⟨w3 x1, w3 x2, w3 x3⟩, x4⟩
  · obtain ⟨⟨x1, x2, x3⟩, x4⟩ := h13.1 i hi
    rw [er 13 i (by decide) (by decide), er 14 i (by decide) (by decide), er 15 i (by decide) (by decide)]
    exact ⟨⟨w3 x1, w3 x2, w3 x3⟩, x4⟩
  · rw [er 13 i (by decide) (by decide), er 14 i (by decide) (by decide)]; exact h13.2 i hi
  · have hg3 : g < tdC s 3 + 1 := hg2
    by_cases q : g = tdC s 3
    · rw [q]
      refine ⟨len, up2_s _ _ _ _, hl, hl8, fun i hi => ?_⟩
      rw [e17]
      exact ⟨Or.inr (h7 i hi).1, (h7 i hi).2⟩
    · obtain ⟨l, q1, q2, q3, q4⟩ := h16 g (by omega)
      refine ⟨l, ?_, q2, q3, fun i hi => ?_⟩
      · exact ((up2_k _ _ q).trans (congrFun (h4 16 (by decide)) g)).trans q1
      · rw [e17, show xR 17 (8 * g + i) = tdR s 17 (8 * g + i) from h6 _ (by omega)]
        exact ⟨w3 (q4 i hi).1, (q4 i hi).2⟩
theorem TV_F (h : TV T n s) {ice : Bool} {E : EX} {p q : Nat} (hE : RLv T n ice 0 0 p (.inl (q, E))) : TV T n (asF s ice E) := by
  obtain ⟨a, hm, h9, h10, h13, h16, hF⟩ := h
  refine ⟨a, hm, h9, h10, h13, h16, fun i2 E2 h2 => ?_⟩
  by_cases q2 : i2 = ice
  · have h3 : (if i2 = ice then some E else tdF s i2) = some E2 := h2
    rw [if_pos q2] at h3
    cases h3
    rw [q2]
    exact ⟨p, q, hE⟩
  · have h3 : (if i2 = ice then some E else tdF s i2) = some E2 := h2
    rw [if_neg q2] at h3
    exact hF i2 E2 h3
end R1
