/-! ===== the reference: a prison that was told ===== -/
section S7
variable {V V2 V0 : VT} {U : UT} {T : ST} {n c : Nat} {s : TD}
/-- the first rows are what was told -/
def PT (s : TD) (V : VT) : Prop := (V 2 0 = nI (tdC s 0) ∧ V 3 0 = nI (tdC s 1) ∧ V 4 0 = nI (tdC s 2) ∧ V 5 0 = nI (tdC s 3) ∧ V 6 0 = tdR s 6 0) ∧ (∀ i, i < tdC s 0 → V 9 i = tdR s 9 i) ∧ (∀ j, j < tdC s 1 → V 10 j = tdR s 10 j ∧ V 11 j = tdR s 11 j ∧ V 12 j = tdR s 12 j) ∧ (∀ j, j < tdC s 2 → V 13 j = tdR s 13 j ∧ V 14 j = tdR s 14 j ∧ V 15 j = tdR s 15 j) ∧ ∀ g, g < tdC s 3 → V 16 g = tdR s 16 g ∧ ∀ i, i < (tdR s 16 g).toNatClampNeg → V 17 (8 * g + i) = tdR s 17 (8 * g + i)
theorem PT.cg (h : PT s V) (e : ∀ o, 2 ≤ o → o ≤ 17 → V2 o = V o) : PT s V2 := by
  unfold PT
  rw [e 2 (by decide) (by decide), e 3 (by decide) (by decide), e 4 (by decide) (by decide), e 5 (by decide) (by decide), e 6 (by decide) (by decide), e 9 (by decide) (by decide), e 10 (by decide) (by decide), e 11 (by decide) (by decide), e 12 (by decide) (by decide), e 13 (by decide) (by decide), e 14 (by decide) (by decide), e 15 (by decide) (by decide), e 16 (by decide) (by decide), e 17 (by decide) (by decide)]
  exact h
theorem PT.pl (h : PT s V) (hV : TV T n s) : PL V (tdC s 0) (tdC s 1) (tdC s 2) (tdC s 3) := by
  obtain ⟨⟨a0, a1, a2, a3, a4⟩, hm, h9, h10, h13, h16, hF⟩ := hV
  obtain ⟨⟨b0, b1, b2, b3, b4⟩, k9, k10, k13, k16⟩ := h
  refine ⟨⟨b0, a0⟩, ⟨b1, a1⟩, ⟨b2, a2⟩, ⟨b3, a3⟩, fun g hg => ?_, fun j hj => ?_, fun j hj => ?_⟩
  · obtain ⟨l, q1, q2, q3, _⟩ := h16 g hg
    exact ⟨l, (k16 g hg).1.trans q1, q2, q3⟩
  · rw [(k10 j hj).1]; exact (h10 j hj).2.1
  · rw [(k10 j hj).2.1]; exact (h10 j hj).2.2.1
theorem rwl_m {o : Nat} (h : 9 ≤ o ∧ o ≤ 17) : rwl o = mrw o := by
  have key : ∀ o, o < 18 → 9 ≤ o → rwl o = mrw o := by decide
  exact key o (by omega) h.1
theorem rwl_1 {o : Nat} (h : 2 ≤ o ∧ o ≤ 6) : rwl o = 1 := by
  have key : ∀ o, o < 7 → 2 ≤ o → rwl o = 1 := by decide
  exact key o (by omega) h.1
/-- told, then laid into the first rows -/
theorem PT_ly (h : RR s c V U) (hV : TV T n s) : PT s (lyF V 1 0) := by
  obtain ⟨⟨a0, a1, a2, a3, a4⟩, a5, a6, a7, a8, a9⟩ := h
  obtain ⟨⟨c0, c1, c2, c3, c4⟩, hm, h9, h10, h13, h16, hF⟩ := hV
  have r1 : ∀ o, 2 ≤ o ∧ o ≤ 6 → lyF V 1 0 o 0 = V o 1 := fun o ho => by
    have h1 := lyF_in V 1 0 (o := o) (i := 0) (by rw [rwl_1 ho]; decide)
    rw [rwl_1 ho] at h1
    exact h1
  have r9 : ∀ o i, 9 ≤ o ∧ o ≤ 17 → i < mrw o → lyF V 1 0 o i = V o (mrw o + i) := fun o i ho hi => by
    have h1 := lyF_in V 1 0 (o := o) (i := i) (by rw [rwl_m ho]; exact hi)
    rw [rwl_m ho, Nat.mul_zero, Nat.zero_add, Nat.mul_one] at h1
    exact h1
  have rt : ∀ o i, 9 ≤ o ∧ o ≤ 17 ∧ o ≠ 16 → i < mrw o → tdW s o i → lyF V 1 0 o i = tdR s o i := fun o i ho hi hw => (r9 o i ⟨ho.1, ho.2.1⟩ hi).trans (a6 o i ho hi hw)
  refine ⟨⟨(r1 2 (by decide)).trans a0, (r1 3 (by decide)).trans a1, (r1 4 (by decide)).trans a2, (r1 5 (by decide)).trans a3, (r1 6 (by decide)).trans a4⟩, fun i hi => ?_, fun j hj => ?_, fun j hj => ?_, fun g hg => ?_⟩
  · exact rt 9 i (by decide) (show i < 8 by omega) (h9.1 i hi).1
  · have hw := (h10 j hj).1
    exact ⟨rt 10 j (by decide) (show j < 10 by omega) hw.1, rt 11 j (by decide) (show j < 10 by omega) hw.2.1, rt 12 j (by decide) (show j < 10 by omega) hw.2.2⟩
  · have hw := (h13.1 j hj).1
    exact ⟨rt 13 j (by decide) (show j < 6 by omega) hw.1, rt 14 j (by decide) (show j < 6 by omega) hw.2.1, rt 15 j (by decide) (show j < 6 by omega) hw.2.2⟩
  · obtain ⟨l, q1, q2, q3, q4⟩ := h16 g hg
    refine ⟨(r9 16 g (by decide) (show g < 2 by omega)).trans (a7 g hg), fun i hi => ?_⟩
    rw [q1, nI_clamp (by omega)] at hi
    exact rt 17 (8 * g + i) (by decide) (show 8 * g + i < 16 by omega) (q4 i hi).1
def gwO (s : TD) : Option GWt := (tdF s false).map gW
def giO (s : TD) : Option GIt := (tdF s true).map gI
theorem nI_1000 {f : Nat} (h : 1000 ≤ f) : nI f + 1000 * (nI 0 - nI 1) = nI (f - 1000) := by
  obtain ⟨k, rfl⟩ := Nat.exists_eq_add_of_le h
  rw [show (1000 : Int32) * (nI 0 - nI 1) = -nI 1000 from by decide, ← nI_add, Nat.add_sub_cancel_left, Int32.add_comm (nI 1000), Int32.add_assoc, Int32.add_right_neg, Int32.add_zero]
theorem ly20 (V : VT) {i : Nat} (hi : i < 1000) : lyF V 1 0 20 i = V 20 (1000 + i) := by
  have h1 := lyF_in V 1 0 (o := 20) (i := i) hi
  rw [show rwl 20 = 1000 from rfl, Nat.mul_zero, Nat.zero_add, Nat.mul_one] at h1
  exact h1
theorem ly_ln (h : RR s c V U) (hc : c ≤ 2000) (ice : Bool) : ∀ k, k = (if ice then 1 else 0) → (tdF s ice = none → lyF V 1 0 18 k = nI 0 ∧ lyF V 1 0 19 k = nI 0) ∧ ∀ E, tdF s ice = some E → ∃ f, f + E.1.length ≤ 1000 ∧ lyF V 1 0 18 k = nI f ∧ lyF V 1 0 19 k = nI (f + E.1.length) ∧ CDs (lyF V 1 0 20) f E.1 := by
  intro k hk
  have hk2 : k < 2 := by rw [hk]; split <;> decide
  have hx : 2 * 1 + k = lnX ice := by rw [hk]; cases ice <;> rfl
  have e18 := lyF_ln V (p := 1) (q := 0) (by decide) (o := 18) (k := k) (Or.inl rfl) hk2
  have e19 := lyF_ln V (p := 1) (q := 0) (by decide) (o := 19) (k := k) (Or.inr rfl) hk2
  rw [hx, Nat.mul_zero, Nat.zero_add] at e18 e19
  refine ⟨fun q => ?_, fun E q => ?_⟩
  · obtain ⟨x1, x2⟩ := (h.2.2.2.2.2 ice).1 q
    rw [e18, e19, x1, x2]
    exact ⟨nI_1000 (by decide), nI_1000 (by decide)⟩
  · obtain ⟨f, x1, x2, x3, x4, x5⟩ := (h.2.2.2.2.2 ice).2 E q
    refine ⟨f - 1000, by omega, ?_, ?_, fun i x hx2 => ?_⟩
    · rw [e18, x3, nI_1000 x1]
    · rw [e19, x4, nI_1000 (by omega)]
      exact congrArg nI (by omega)
    · have hi := (List.getElem?_eq_some_iff.mp hx2).1
      rw [ly20 V (by omega), ← x5 i x hx2]
      exact congrArg (V 20) (by omega)
theorem LnW_ly (h : RR s c V U) (hc : c ≤ 2000) (hV : TV T n s) : LnW (lyF V 1 0) (gwO s) := by
  have hl := ly_ln h hc false 0 rfl
  unfold gwO
  cases hE : tdF s false with
  | none =>
    obtain ⟨x1, x2⟩ := hl.1 hE
    exact x2.trans x1.symm
  | some E =>
    obtain ⟨f, x1, x2, x3, x4⟩ := hl.2 E hE
    obtain ⟨p, q, hR⟩ := hV.2.2.2.2.2.2 false E hE
    exact ⟨f, E.1.length, x2, x3, (hR _ _ _ (ClR_l T n false) q E rfl).2, by omega, FW_W hR x4⟩
theorem LnI_ly (h : RR s c V U) (hc : c ≤ 2000) (hV : TV T n s) : LnI (lyF V 1 0) (giO s) := by
  have hl := ly_ln h hc true 1 rfl
  unfold giO
  cases hE : tdF s true with
  | none =>
    obtain ⟨x1, x2⟩ := hl.1 hE
    exact x2.trans x1.symm
  | some E =>
    obtain ⟨f, x1, x2, x3, x4⟩ := hl.2 E hE
    obtain ⟨p, q, hR⟩ := hV.2.2.2.2.2.2 true E hE
    exact ⟨f, E.1.length, x2, x3, (hR _ _ _ (ClR_l T n true) q E rfl).2, by omega, FW_I hR x4⟩
/-- the state at the first hour -/
def S0s (s : TD) : ST := fun i => if i < 10 then tdR s 12 i else if i < 30 then 0 else if i < 40 then tdR s 12 (i - 30) else if i < 60 then 0 else if i < 68 then tdR s 9 (i - 60) else if i < 74 then tdR s 13 (i - 68) else if i < 80 then tdR s 14 (i - 74) else 0
theorem S0_e (hV : TV T n s) {S : ST} (h1 : ∀ i, i < tdC s 1 → S i = tdR s 12 i ∧ S (30 + i) = tdR s 12 i) (h2 : ∀ i, i < tdC s 0 → S (60 + i) = tdR s 9 i) (h3 : ∀ i, i < tdC s 2 → S (68 + i) = tdR s 13 i ∧ S (74 + i) = tdR s 14 i) (h4 : ∀ i, ¬ i < tdC s 1 → ¬ (30 ≤ i ∧ i < 30 + tdC s 1) → ¬ (60 ≤ i ∧ i < 60 + tdC s 0) → ¬ (68 ≤ i ∧ i < 68 + tdC s 2) → ¬ (74 ≤ i ∧ i < 74 + tdC s 2) → S i = 0) : S = S0s s := by
  obtain ⟨⟨c0, c1, c2, c3, c4⟩, hm, h9, h10, h13, h16, hF⟩ := hV
  funext i
  unfold S0s
  by_cases q1 : i < 10
  · rw [if_pos q1]
    by_cases z : i < tdC s 1
    · exact (h1 i z).1
    · rw [h4 i z (by omega) (by omega) (by omega) (by omega), hm.2 i (by omega)]
  rw [if_neg q1]
  by_cases q2 : i < 30
  · rw [if_pos q2, h4 i (by omega) (by omega) (by omega) (by omega) (by omega)]
  rw [if_neg q2]
  by_cases q3 : i < 40
  · rw [if_pos q3]
    by_cases z : i - 30 < tdC s 1
    · have h5 := (h1 (i - 30) z).2
      rw [show 30 + (i - 30) = i by omega] at h5
      exact h5
    · rw [h4 i (by omega) (by omega) (by omega) (by omega) (by omega), hm.2 (i - 30) (by omega)]
  rw [if_neg q3]
  by_cases q4 : i < 60
  · rw [if_pos q4, h4 i (by omega) (by omega) (by omega) (by omega) (by omega)]
  rw [if_neg q4]
  by_cases q5 : i < 68
  · rw [if_pos q5]
    by_cases z : i - 60 < tdC s 0
    · have h5 := h2 (i - 60) z
      rw [show 60 + (i - 60) = i by omega] at h5
      exact h5
    · rw [h4 i (by omega) (by omega) (by omega) (by omega) (by omega), h9.2 (i - 60) (by omega)]
  rw [if_neg q5]
  by_cases q6 : i < 74
  · rw [if_pos q6]
    by_cases z : i - 68 < tdC s 2
    · have h5 := (h3 (i - 68) z).1
      rw [show 68 + (i - 68) = i by omega] at h5
      exact h5
    · rw [h4 i (by omega) (by omega) (by omega) (by omega) (by omega), (h13.2 (i - 68) (by omega)).1]
  rw [if_neg q6]
  by_cases q7 : i < 80
  · rw [if_pos q7]
    by_cases z : i - 74 < tdC s 2
    · have h5 := (h3 (i - 74) z).2
      rw [show 74 + (i - 74) = i by omega] at h5
      exact h5
    · rw [h4 i (by omega) (by omega) (by omega) (by omega) (by omega), (h13.2 (i - 74) (by omega)).2]
  rw [if_neg q7, h4 i (by omega) (by omega) (by omega) (by omega) (by omega)]
end S7
