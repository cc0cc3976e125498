/-! ===== the reference: writing what is told ===== -/
section S1
variable {G : GG} {σ : Hp} {m : Nat} {V V2 V0 : VT} {U U2 U0 : UT} {T : ST} {n p b e k c : Nat} {ice : Bool} {s : TD}
theorem HD.cg (h : HD T n ice p b e k c V U) (h0 : ∀ i, i ≠ 31 → i ≠ 44 → V2 0 i = V 0 i) (h1 : V2 1 = V 1) (hu : U2 0 7 = U 0 7) : HD T n ice p b e k c V2 U2 := by
  obtain ⟨⟨a1, a2, a3, a4, a5, a6⟩, b1, b2, b3, b4, b5, b6⟩ := h
  exact ⟨⟨a1, (h0 5 (by decide) (by decide)).trans a2, (h0 4 (by decide) (by decide)).trans a3, (h0 6 (by decide) (by decide)).trans a4, fun q => hu.trans (a5 q), fun q => (h0 8 (by decide) (by decide)).trans (a6 q)⟩, h1.trans b1, (h0 3 (by decide) (by decide)).trans b2, (h0 30 (by decide) (by decide)).trans b3, (h0 29 (by decide) (by decide)).trans b4, b5, b6⟩
theorem HD.wo (h : HD T n ice p b e k c V U) {o : Nat} (ho : 2 ≤ o) (i : Nat) (x : Int32) : HD T n ice p b e k c (up2 V o i x) U := h.cg (fun j _ _ => up2_a _ _ (by omega)) (up2_o _ _ (by omega)) rfl
theorem mrw_p {o : Nat} : 2 ≤ mrw o := by unfold mrw; (repeat' split) <;> decide
/-- a place of a row -/
theorem DS.wR (h : DS T n V0 U0 s ice p b e k c V U) {o i q : Nat} (hq : mrw o + i = q) (ho : 9 ≤ o ∧ o ≤ 17 ∧ o ≠ 16) (hi : i < mrw o) (x : Int32) : DS T n V0 U0 (asR s o i x) ice p b e k c (up2 V o q x) U := by
  subst hq
  obtain ⟨h1, ⟨⟨a0, a1, a2, a3, a4⟩, a5, a6, a7, a8, a9⟩, h3, h4, h5⟩ := h
  have lo : ∀ o2 j, o2 ≠ o → up2 V o (mrw o + i) x o2 j = V o2 j := fun o2 j q => up2_a _ _ q
  refine ⟨h1.wo (by omega) _ _, ⟨⟨(lo 2 1 (by omega)).trans a0, (lo 3 1 (by omega)).trans a1, (lo 4 1 (by omega)).trans a2, (lo 5 1 (by omega)).trans a3, (lo 6 1 (by omega)).trans (a4.trans (up2_a _ _ (by omega)).symm)⟩, (lo 0 31 (by omega)).trans a5, fun o2 j hj1 hj2 hw => ?_, fun g hg => ?_, a8, fun ice => ⟨fun q => ?_, fun E q => ?_⟩⟩, h3, FR1_t h4 (FR1_w (Or.inr (Or.inr (Or.inl ⟨ho.1, ho.2.1, by omega, by omega⟩))) x), h5⟩
  · show up2 V o (mrw o + i) x o2 (mrw o2 + j) = up2 (tdR s) o i x o2 j
    by_cases qo : o2 = o
    · subst qo
      by_cases qj : j = i
      · rw [qj, up2_s, up2_s]
      · rw [up2_k _ _ (by omega), up2_k _ _ qj]
        rcases hw with z | z
        · exact absurd z.2 qj
        · exact a6 o2 j hj1 hj2 z
    · rw [up2_a _ _ qo, up2_a _ _ qo]
      rcases hw with z | z
      · exact absurd z.1 qo
      · exact a6 o2 j hj1 hj2 z
  · exact (lo 16 _ (by omega)).trans ((a7 g hg).trans (up2_a _ _ (by omega)).symm)
  · exact ⟨(lo 18 _ (by omega)).trans ((a9 ice).1 q).1, (lo 19 _ (by omega)).trans ((a9 ice).1 q).2⟩
  · obtain ⟨f, x1, x2, x3, x4, x5⟩ := (a9 ice).2 E q
    refine ⟨f, x1, x2, (lo 18 _ (by omega)).trans x3, (lo 19 _ (by omega)).trans x4, fun j y hy => ?_⟩
    rw [lo 20 _ (by omega)]
    exact x5 j y hy
theorem DS.m4 (h : DS T n V0 U0 s ice p b e k c V U) : DS T n V0 U0 (asC s 4 1) ice p b e k c (up2 V 0 31 1) U := by
  obtain ⟨h1, ⟨⟨a0, a1, a2, a3, a4⟩, a5, a6, a7, a8, a9⟩, h3, h4, h5⟩ := h
  refine ⟨h1.cg (fun j q _ => up2_k _ _ q) (up2_o _ _ (by decide)) rfl, ⟨⟨(up2_a _ _ (by decide)).trans a0, (up2_a _ _ (by decide)).trans a1, (up2_a _ _ (by decide)).trans a2, (up2_a _ _ (by decide)).trans a3, (up2_a _ _ (by decide)).trans a4⟩, up2_s _ _ _ _, fun o i ho hi hw => (up2_a _ _ (by omega)).trans (a6 o i ho hi hw), fun g hg => (up2_a _ _ (by decide)).trans (a7 g hg), a8, fun ice => ⟨fun q => ?_, fun E q => ?_⟩⟩, h3, FR1_t h4 (FR1_w (Or.inl ⟨rfl, by decide⟩) 1), h5⟩
  · exact ⟨(up2_a _ _ (by decide)).trans ((a9 ice).1 q).1, (up2_a _ _ (by decide)).trans ((a9 ice).1 q).2⟩
  · obtain ⟨f, x1, x2, x3, x4, x5⟩ := (a9 ice).2 E q
    refine ⟨f, x1, x2, (up2_a _ _ (by decide)).trans x3, (up2_a _ _ (by decide)).trans x4, fun j y hy => ?_⟩
    rw [up2_a _ _ (by decide)]
    exact x5 j y hy
theorem DS.m6 (h : DS T n V0 U0 s ice p b e k c V U) (x : Int32) : DS T n V0 U0 (asR s 6 0 x) ice p b e k c (up2 V 6 1 x) U := by
  obtain ⟨h1, ⟨⟨a0, a1, a2, a3, a4⟩, a5, a6, a7, a8, a9⟩, h3, h4, h5⟩ := h
  refine ⟨h1.wo (by decide) _ _, ⟨⟨(up2_a _ _ (by decide)).trans a0, (up2_a _ _ (by decide)).trans a1, (up2_a _ _ (by decide)).trans a2, (up2_a _ _ (by decide)).trans a3, (up2_s _ _ _ _).trans (up2_s (tdR s) 6 0 x).symm⟩, (up2_a _ _ (by decide)).trans a5, fun o i ho hi hw => ?_, fun g hg => (up2_a _ _ (by decide)).trans ((a7 g hg).trans (up2_a (a := 6) (k := 0) (tdR s) x (b := 16) (j := g) (by decide)).symm), a8, fun ice => ⟨fun q => ?_, fun E q => ?_⟩⟩, h3, FR1_t h4 (FR1_w (Or.inr (Or.inl ⟨by decide, by decide, rfl⟩)) x), h5⟩
  · rcases hw with z | z
    · omega
    · exact (up2_a _ _ (by omega)).trans ((a6 o i ho hi z).trans (up2_a (a := 6) (k := 0) (tdR s) x (b := o) (j := i) (by omega)).symm)
  · exact ⟨(up2_a _ _ (by decide)).trans ((a9 ice).1 q).1, (up2_a _ _ (by decide)).trans ((a9 ice).1 q).2⟩
  · obtain ⟨f, x1, x2, x3, x4, x5⟩ := (a9 ice).2 E q
    refine ⟨f, x1, x2, (up2_a _ _ (by decide)).trans x3, (up2_a _ _ (by decide)).trans x4, fun j y hy => ?_⟩
    rw [up2_a _ _ (by decide)]
    exact x5 j y hy
/-- a count; with cells and men their names -/
theorem DS.wC (h : DS T n V0 U0 s ice p b e k c V U) {i : Nat} (hi : i < 3) (h0 : i = 0 → Wq (U 7 (tdC s 0)) (tdN s 0 (tdC s 0))) (h2 : i = 2 → Wq (U 8 (tdC s 2)) (tdN s 1 (tdC s 2))) : DS T n V0 U0 (asC s i (tdC s i + 1)) ice p b e k c (up2 V (2 + i) 1 (nI (tdC s i + 1))) U := by
  obtain ⟨h1, ⟨⟨a0, a1, a2, a3, a4⟩, a5, a6, a7, a8, a9⟩, h3, h4, h5⟩ := h
  have key : ∀ j, j < 4 → V (2 + j) 1 = nI (tdC s j) → up2 V (2 + i) 1 (nI (tdC s i + 1)) (2 + j) 1 = nI (tdC (asC s i (tdC s i + 1)) j) := by
    intro j hj q
    show up2 V (2 + i) 1 (nI (tdC s i + 1)) (2 + j) 1 = nI (if j = i then tdC s i + 1 else s.1 j)
    by_cases qj : j = i
    · rw [qj, up2_s, if_pos rfl]
    · rw [up2_a _ _ (by omega), if_neg qj]; exact q
  have eC : ∀ j, j ≠ i → tdC (asC s i (tdC s i + 1)) j = tdC s j := fun j q => if_neg q
  have eI : tdC (asC s i (tdC s i + 1)) i = tdC s i + 1 := if_pos rfl
  refine ⟨h1.wo (by omega) _ _, ⟨⟨key 0 (by decide) a0, key 1 (by decide) a1, key 2 (by decide) a2, key 3 (by decide) a3, (up2_a _ _ (by omega)).trans a4⟩, ?_, fun o j ho hj hw => (up2_a _ _ (by omega)).trans (a6 o j ho hj hw), fun g hg => ?_, ⟨fun j hj => ?_, fun j hj => ?_⟩, fun ice => ⟨fun q => ?_, fun E q => ?_⟩⟩, h3, FR1_t h4 (FR1_w (Or.inr (Or.inl ⟨by omega, by omega, rfl⟩)) _), h5⟩
  · rw [eC 4 (by omega)]; exact (up2_a _ _ (by omega)).trans a5
  · rw [eC 3 (by omega)] at hg; exact (up2_a _ _ (by omega)).trans (a7 g hg)
  · by_cases q : i = 0
    · subst q
      rw [eI] at hj
      by_cases qj : j = tdC s 0
      · rw [qj]; exact h0 rfl
      · exact a8.1 j (by omega)
    · rw [eC 0 (by omega)] at hj; exact a8.1 j hj
  · by_cases q : i = 2
    · subst q
      rw [eI] at hj
      by_cases qj : j = tdC s 2
      · rw [qj]; exact h2 rfl
      · exact a8.2 j (by omega)
    · rw [eC 2 (by omega)] at hj; exact a8.2 j hj
  · exact ⟨(up2_a _ _ (by omega)).trans ((a9 ice).1 q).1, (up2_a _ _ (by omega)).trans ((a9 ice).1 q).2⟩
  · obtain ⟨f, x1, x2, x3, x4, x5⟩ := (a9 ice).2 E q
    refine ⟨f, x1, x2, (up2_a _ _ (by omega)).trans x3, (up2_a _ _ (by omega)).trans x4, fun j y hy => ?_⟩
    rw [up2_a _ _ (by omega)]
    exact x5 j y hy
theorem DS.w16 (h : DS T n V0 U0 s ice p b e k c V U) (hg2 : tdC s 3 < 2) (x : Int32) : DS T n V0 U0 s ice p b e k c (up2 V 16 (2 + tdC s 3) x) U := by
  obtain ⟨h1, ⟨⟨a0, a1, a2, a3, a4⟩, a5, a6, a7, a8, a9⟩, h3, h4, h5⟩ := h
  refine ⟨h1.wo (by decide) _ _, ⟨⟨(up2_a _ _ (by decide)).trans a0, (up2_a _ _ (by decide)).trans a1, (up2_a _ _ (by decide)).trans a2, (up2_a _ _ (by decide)).trans a3, (up2_a _ _ (by decide)).trans a4⟩, (up2_a _ _ (by decide)).trans a5, fun o i ho hi hw => (up2_a _ _ ho.2.2).trans (a6 o i ho hi hw), fun g hg => (up2_k _ _ (by omega)).trans (a7 g hg), a8, fun ice => ⟨fun q => ?_, fun E q => ?_⟩⟩, h3, FR1_t h4 (FR1_w (Or.inr (Or.inr (Or.inl ⟨by decide, by decide, show 2 ≤ 2 + tdC s 3 by omega, show 2 + tdC s 3 < 2 * 2 by omega⟩))) x), h5⟩
  · exact ⟨(up2_a _ _ (by decide)).trans ((a9 ice).1 q).1, (up2_a _ _ (by decide)).trans ((a9 ice).1 q).2⟩
  · obtain ⟨f, x1, x2, x3, x4, x5⟩ := (a9 ice).2 E q
    refine ⟨f, x1, x2, (up2_a _ _ (by decide)).trans x3, (up2_a _ _ (by decide)).trans x4, fun j y hy => ?_⟩
    rw [up2_a _ _ (by decide)]
    exact x5 j y hy
/-- a guard is told, his round's length lies there -/
theorem DS.wG (h : DS T n V0 U0 s ice p b e k c V U) {x : Int32} (hx : V 16 (2 + tdC s 3) = x) : DS T n V0 U0 (asC (asR s 16 (tdC s 3) x) 3 (tdC s 3 + 1)) ice p b e k c (up2 V 5 1 (nI (tdC s 3 + 1))) U := by
  obtain ⟨h1, ⟨⟨a0, a1, a2, a3, a4⟩, a5, a6, a7, a8, a9⟩, h3, h4, h5⟩ := h
  have eR : ∀ o i, o ≠ 16 → tdR (asC (asR s 16 (tdC s 3) x) 3 (tdC s 3 + 1)) o i = tdR s o i := fun o i q => up2_a (a := 16) (k := tdC s 3) (tdR s) x q
  refine ⟨h1.wo (by decide) _ _, ⟨⟨(up2_a _ _ (by decide)).trans a0, (up2_a _ _ (by decide)).trans a1, (up2_a _ _ (by decide)).trans a2, up2_s _ _ _ _, (up2_a _ _ (by decide)).trans (a4.trans (eR 6 0 (by decide)).symm)⟩, (up2_a _ _ (by decide)).trans a5, fun o i ho hi hw => ?_, fun g hg => ?_, a8, fun ice => ⟨fun q => ?_, fun E q => ?_⟩⟩, h3, FR1_t h4 (FR1_w (Or.inr (Or.inl ⟨by decide, by decide, rfl⟩)) _), h5⟩
  · rw [eR o i ho.2.2]
    rcases hw with z | z
    · exact absurd z.1 ho.2.2
    · exact (up2_a _ _ (by omega)).trans (a6 o i ho hi z)
  · have hg2 : g < tdC s 3 + 1 := hg
    show up2 V 5 1 (nI (tdC s 3 + 1)) 16 (2 + g) = up2 (tdR s) 16 (tdC s 3) x 16 g
    rw [up2_a _ _ (by decide)]
    by_cases q : g = tdC s 3
    · rw [q, up2_s]; exact hx
    · rw [up2_k _ _ q]; exact a7 g (by omega)
  · exact ⟨(up2_a _ _ (by decide)).trans ((a9 ice).1 q).1, (up2_a _ _ (by decide)).trans ((a9 ice).1 q).2⟩
  · obtain ⟨f, x1, x2, x3, x4, x5⟩ := (a9 ice).2 E q
    refine ⟨f, x1, x2, (up2_a _ _ (by decide)).trans x3, (up2_a _ _ (by decide)).trans x4, fun j y hy => ?_⟩
    rw [up2_a _ _ (by decide)]
    exact x5 j y hy
/-- a name -/
theorem DS.wN0 (h : DS T n V0 U0 s ice p b e k c V U) (x w : Int64) : DS T n V0 U0 (asN s 0 (tdC s 0) w) ice p b e k c V (up2 U 7 (tdC s 0) x) := by
  obtain ⟨h1, ⟨h20, a5, a6, a7, a8, a9⟩, h3, h4, h5⟩ := h
  refine ⟨h1.cg (fun _ _ _ => rfl) rfl (up2_a _ _ (by decide)), ⟨h20, a5, a6, a7, ⟨fun j hj => ?_, fun j hj => ?_⟩, a9⟩, h3, h4, fun o i q1 q2 q3 => (up2_a _ _ q2).trans (h5 o i q1 q2 q3)⟩
  · have hj2 : j < tdC s 0 := hj
    show Wq (up2 U 7 (tdC s 0) x 7 j) (up2 (tdN s) 0 (tdC s 0) w 0 j)
    rw [up2_k _ _ (by omega), up2_k _ _ (by omega)]; exact a8.1 j hj
  · show Wq (up2 U 7 (tdC s 0) x 8 j) (up2 (tdN s) 0 (tdC s 0) w 1 j)
    rw [up2_a _ _ (by decide), up2_a _ _ (by decide)]; exact a8.2 j hj
theorem DS.wN1 (h : DS T n V0 U0 s ice p b e k c V U) (x w : Int64) : DS T n V0 U0 (asN s 1 (tdC s 2) w) ice p b e k c V (up2 U 8 (tdC s 2) x) := by
  obtain ⟨h1, ⟨h20, a5, a6, a7, a8, a9⟩, h3, h4, h5⟩ := h
  refine ⟨h1.cg (fun _ _ _ => rfl) rfl (up2_a _ _ (by decide)), ⟨h20, a5, a6, a7, ⟨fun j hj => ?_, fun j hj => ?_⟩, a9⟩, h3, h4, fun o i q1 q2 q3 => (up2_a _ _ q3).trans (h5 o i q1 q2 q3)⟩
  · show Wq (up2 U 8 (tdC s 2) x 7 j) (up2 (tdN s) 1 (tdC s 2) w 0 j)
    rw [up2_a _ _ (by decide), up2_a _ _ (by decide)]; exact a8.1 j hj
  · have hj2 : j < tdC s 2 := hj
    show Wq (up2 U 8 (tdC s 2) x 8 j) (up2 (tdN s) 1 (tdC s 2) w 1 j)
    rw [up2_k _ _ (by omega), up2_k _ _ (by omega)]; exact a8.2 j hj
/-- how a line ends on the reference -/
def QM (σ : Hp) (m : Nat) (T : ST) (n : Nat) (V0 : VT) (U0 : UT) (res : Rl) : Option Value → Hp → Prop := fun rv σ' => (∃ f, res = .inr f ∧ rv = some (.int 0) ∧ DF σ m V0 U0 f σ') ∨ ∃ s2 q, res = .inl (s2, q) ∧ rv = some (.int 1) ∧ DE σ m T n V0 U0 s2 q σ'
end S1
