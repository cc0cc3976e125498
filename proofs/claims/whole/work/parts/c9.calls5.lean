/-! ===== the calls: mark ===== -/
section T9
variable {G : GG} {τ τ1 τ2 : Hp} {ρ : Nat → Nat} {T : ST} {n xo b k h S9 : Nat} {s : TD} {S : ST} {V V2 : VT}
theorem nI_row {p q f : Nat} : nI (1000 * p + f) + 1000 * (nI q - nI p) = nI (1000 * q + f) := by
  have e1 : nI (1000 * p + f) = 1000 * nI p + nI f := by rw [← nI_add]; exact congrArg (· + nI f) (Int32.ofNat_mul 1000 p)
  have e2 : nI (1000 * q + f) = 1000 * nI q + nI f := by rw [← nI_add]; exact congrArg (· + nI f) (Int32.ofNat_mul 1000 q)
  have e3 : (1000 : Int32) * (nI q - nI p) = 1000 * nI q - 1000 * nI p := Int32.mul_sub
  rw [e1, e2, e3, Int32.sub_eq_add_neg, Int32.add_comm (1000 * nI p), Int32.add_assoc, Int32.add_comm (1000 * nI q), ← Int32.add_assoc (1000 * nI p), Int32.add_right_neg, Int32.zero_add, Int32.add_comm]
theorem RowP.ly {p q : Nat} (hR : RowP V p s) (hV : TV T n s) (hpq : p ≠ q) : RowP (lyF V p q) q s := by
  obtain ⟨⟨a0, a1, a2, a3, a4⟩, k10, k15, k16, kf⟩ := hR
  obtain ⟨⟨c0, c1, c2, c3, c4⟩, hm, h9, h10, h13, h16, hF⟩ := hV
  have r1 : ∀ o, 2 ≤ o ∧ o ≤ 6 → lyF V p q o q = V o p := fun o ho => by
    have h1 := lyF_in V p q (o := o) (i := 0) (by rw [rwl_1 ho]; decide)
    rw [rwl_1 ho, Nat.one_mul, Nat.one_mul, Nat.add_zero, Nat.add_zero] at h1
    exact h1
  have r9 : ∀ o i, 9 ≤ o ∧ o ≤ 17 → i < mrw o → lyF V p q o (mrw o * q + i) = V o (mrw o * p + i) := fun o i ho hi => by
    have h1 := lyF_in V p q (o := o) (i := i) (by rw [rwl_m ho]; exact hi)
    rw [rwl_m ho] at h1
    exact h1
  have r20 : ∀ i, i < 1000 → lyF V p q 20 (1000 * q + i) = V 20 (1000 * p + i) := fun i hi => lyF_in V p q (o := 20) (i := i) hi
  have r18 : ∀ o k, o = 18 ∨ o = 19 → k < 2 → lyF V p q o (2 * q + k) = V o (2 * p + k) + 1000 * (nI q - nI p) := fun o k ho hk => lyF_ln V hpq ho hk
  refine ⟨⟨(r1 2 (by decide)).trans a0, (r1 3 (by decide)).trans a1, (r1 4 (by decide)).trans a2, (r1 5 (by decide)).trans a3, (r1 6 (by decide)).trans a4⟩, fun j hj => ⟨(r9 10 j (by decide) (show j < 10 by omega)).trans (k10 j hj).1, (r9 11 j (by decide) (show j < 10 by omega)).trans (k10 j hj).2⟩, fun j hj => (r9 15 j (by decide) (show j < 6 by omega)).trans (k15 j hj), fun g hg => ⟨(r9 16 g (by decide) (show g < 2 by omega)).trans (k16 g hg).1, fun i hi => ?_⟩, fun ice => ⟨fun z => ?_, fun E z => ?_⟩⟩
  · obtain ⟨l, q1, q2, q3, _⟩ := h16 g hg
    have hi2 := hi
    rw [q1, nI_clamp (by omega)] at hi2
    exact (r9 17 (8 * g + i) (by decide) (show 8 * g + i < 16 by omega)).trans ((k16 g hg).2 i hi)
  · rw [r18 19 _ (Or.inr rfl) (ixF_2 ice), r18 18 _ (Or.inl rfl) (ixF_2 ice), (kf ice).1 z]
  · obtain ⟨f, x1, x2, x3, x4⟩ := (kf ice).2 E z
    refine ⟨f, x1, ?_, ?_, fun i x hx => ?_⟩
    · rw [r18 18 _ (Or.inl rfl) (ixF_2 ice), x2, nI_row]
    · rw [r18 19 _ (Or.inr rfl) (ixF_2 ice), x3, Nat.add_assoc, nI_row, ← Nat.add_assoc]
    · have hi := (List.getElem?_eq_some_iff.mp hx).1
      rw [Nat.add_assoc, r20 _ (by omega), ← Nat.add_assoc]
      exact x4 i x hx
/-- what lays leaves alone -/
theorem lyF_n {p q o i : Nat} (h : ¬ rowAt q o i) : lyF V p q o i = V o i := by
  by_cases h18 : o = 18 ∨ o = 19
  · exact lyF_lno V h18 ⟨fun z => h (by unfold rowAt; omega), fun z => h (by unfold rowAt; omega)⟩
  · refine lyF_out V p q (fun z => h18 (Or.inl z)) (fun z => h18 (Or.inr z)) ?_
    by_cases q1 : 2 ≤ o ∧ o ≤ 6
    · rw [rwl_1 q1]
      have : i ≠ q := fun z => h (Or.inl ⟨q1.1, q1.2, z⟩)
      omega
    · by_cases q2 : 9 ≤ o ∧ o ≤ 17
      · rw [rwl_m q2]
        have : ¬ (mrw o * q ≤ i ∧ i < mrw o * q + mrw o) := fun z => h (Or.inr (Or.inl ⟨q2.1, q2.2, z.1, z.2⟩))
        omega
      · by_cases q3 : o = 20
        · subst q3
          show i < 1000 * q ∨ 1000 * q + 1000 ≤ i
          have : ¬ (1000 * q ≤ i ∧ i < 1000 * q + 1000) := fun z => h (Or.inr (Or.inr (Or.inr ⟨rfl, z.1, z.2⟩)))
          omega
        · have : rwl o = 0 := by
            unfold rwl
            split <;> first | rfl | omega
          rw [this]
          omega
theorem rowAt_ne {x y o i : Nat} (h : rowAt x o i) (hne : x ≠ y) : ¬ rowAt y o i := by
  intro h2
  rcases h with ⟨h1, h3, h4⟩ | ⟨h1, h3, h4, h5⟩ | ⟨h1, h3, h4, h5⟩ | ⟨h1, h4, h5⟩
  · unfold rowAt at h2; omega
  · have h6 : mrw o * y ≤ i ∧ i < mrw o * y + mrw o := by unfold rowAt at h2; omega
    rcases Nat.lt_or_gt_of_ne hne with z | z
    · have h7 : mrw o * (x + 1) ≤ mrw o * y := Nat.mul_le_mul_left _ z
      rw [Nat.mul_succ] at h7
      omega
    · have h7 : mrw o * (y + 1) ≤ mrw o * x := Nat.mul_le_mul_left _ z
      rw [Nat.mul_succ] at h7
      omega
  · unfold rowAt at h2; omega
  · unfold rowAt at h2; omega
theorem rowAt_r {y o i : Nat} (h : rowAt y o i) : 2 ≤ o ∧ o ≤ 20 := by unfold rowAt at h; omega
theorem mkI_o (V : VT) (x : Nat) {o : Nat} (h : o ≠ 0) (h41 : o ≠ 41) : mkI V x o = V o := (up2_o _ _ h41).trans (up2_o _ _ h)
theorem mkI_0 (V : VT) (x : Nat) {i : Nat} (h : i ≠ 0) : mkI V x 0 i = V 0 i := (up2_a _ _ (by decide)).trans (up2_k _ _ h)
theorem mkI_41 (V : VT) (x i : Nat) : mkI V x 41 i = (if i = x then 1 else V 41 i) := by
  unfold mkI
  by_cases q : i = x
  · rw [if_pos q, q, up2_s]
  · rw [if_neg q, up2_k _ _ q]
    exact up2_a _ _ (by decide)
theorem row_hi {o i y : Nat} (h : o < 2 ∨ 20 < o) : ¬ rowAt y o i := by unfold rowAt; omega
/-- what mark back leaves in the view -/
theorem mkB_v (V : VT) (x : Nat) : (∀ o i, ¬ rowAt 0 o i → o ≠ 0 → o ≠ 41 → o ≠ 33 → mkB V x o i = V o i) ∧ (∀ i, i ≠ 0 → mkB V x 0 i = V 0 i) ∧ (∀ i, mkB V x 41 i = (if i = x then 1 else V 41 i)) ∧ ∀ i, mkB V x 33 i = (if i < 96 then V 35 (96 * x + i) else V 33 i) := by
  have c : ∀ o i, o ≠ 33 → mkB V x o i = lyF (mkI V x) (2 + x) 0 o i := fun o i h => congrFun (cpR_o _ 35 (96 * x) 33 0 96 h) i
  refine ⟨fun o i h1 h2 h3 h4 => ?_, fun i hi => ?_, fun i => ?_, fun i => ?_⟩
  · rw [c o i h4, lyF_n h1, mkI_o V x h2 h3]
  · rw [c 0 i (by decide), lyF_n (row_hi (by decide)), mkI_0 V x hi]
  · rw [c 41 i (by decide), lyF_n (row_hi (by decide)), mkI_41]
  · show (if 33 = 33 ∧ 0 ≤ i ∧ i < 0 + 96 then lyF (mkI V x) (2 + x) 0 35 (96 * x + (i - 0)) else lyF (mkI V x) (2 + x) 0 33 i) = _
    by_cases q : i < 96
    · rw [if_pos ⟨rfl, by omega, by omega⟩, if_pos q, lyF_n (row_hi (by decide)), mkI_o V x (by decide) (by decide), Nat.sub_zero]
    · rw [if_neg (by omega), if_neg q, lyF_n (row_hi (by decide)), mkI_o V x (by decide) (by decide)]
/-- what mark forth leaves in the view -/
theorem mkL_v (V : VT) (x : Nat) : (∀ o i, ¬ rowAt (2 + x) o i → o ≠ 0 → o ≠ 41 → o ≠ 35 → mkL V x o i = V o i) ∧ (∀ i, i ≠ 0 → mkL V x 0 i = V 0 i) ∧ (∀ i, mkL V x 41 i = (if i = x then 1 else V 41 i)) ∧ ∀ i, mkL V x 35 i = (if 96 * x ≤ i ∧ i < 96 * x + 96 then V 33 (i - 96 * x) else V 35 i) := by
  have c : ∀ o i, o ≠ 35 → mkL V x o i = lyF (mkI V x) 0 (2 + x) o i := fun o i h => congrFun (cpR_o _ 33 0 35 (96 * x) 96 h) i
  refine ⟨fun o i h1 h2 h3 h4 => ?_, fun i hi => ?_, fun i => ?_, fun i => ?_⟩
  · rw [c o i h4, lyF_n h1, mkI_o V x h2 h3]
  · rw [c 0 i (by decide), lyF_n (row_hi (by decide)), mkI_0 V x hi]
  · rw [c 41 i (by decide), lyF_n (row_hi (by decide)), mkI_41]
  · show (if 35 = 35 ∧ 96 * x ≤ i ∧ i < 96 * x + 96 then lyF (mkI V x) 0 (2 + x) 33 (0 + (i - 96 * x)) else lyF (mkI V x) 0 (2 + x) 35 i) = _
    by_cases q : 96 * x ≤ i ∧ i < 96 * x + 96
    · rw [if_pos ⟨rfl, q⟩, if_pos q, lyF_n (row_hi (by decide)), mkI_o V x (by decide) (by decide), Nat.zero_add]
    · rw [if_neg (fun z => q z.2), if_neg q, lyF_n (row_hi (by decide)), mkI_o V x (by decide) (by decide)]
theorem RowP.mkB {x : Nat} (hR : RowP V (2 + x) s) (hV : TV T n s) : RowP (mkB V x) 0 s := by
  have h1 : RowP (mkI V x) (2 + x) s := hR.cg (fun o q1 q2 => mkI_o V x (by omega) (by omega))
  have h2 := h1.ly hV (q := 0) (by omega)
  exact h2.cg (fun o q1 q2 => cpR_o _ 35 (96 * x) 33 0 96 (by omega))
theorem RowP.mkL {x : Nat} (hR : RowP V 0 s) (hV : TV T n s) : RowP (mkL V x) (2 + x) s := by
  have h1 : RowP (mkI V x) 0 s := hR.cg (fun o q1 q2 => mkI_o V x (by omega) (by omega))
  have h2 := h1.ly hV (q := 2 + x) (by omega)
  exact h2.cg (fun o q1 q2 => cpR_o _ 33 0 35 (96 * x) 96 (by omega))
end T9
