/-! ===== the reference's search finds the least way, of equal ones the first ===== -/
def bq (q : TQ) : Option Nat := if q.1 < 0 then none else some (100 * q.1.toNatClampNeg + q.2.1.toNatClampNeg)
def OkQ (q : TQ) : Prop := q.1 = -1 ∨ ∃ s l, q.1 = nI s ∧ q.2.1 = nI l ∧ s ≤ 1000 ∧ l ≤ 8
theorem bq_n {q : TQ} (h : q.1 = -1) : bq q = none := by unfold bq; rw [h]; rfl
theorem bq_s {q : TQ} {s l : Nat} (h1 : q.1 = nI s) (h2 : q.2.1 = nI l) (h3 : s ≤ 1000) (h4 : l ≤ 8) : bq q = some (100 * s + l) := by
  unfold bq
  rw [h1, h2, if_neg (nI_pos (by omega)), nI_clamp (by omega), nI_clamp (by omega)]
theorem trK_e {q : TQ} {s l sl k : Nat} (h1 : q.1 = nI s) (h2 : q.2.1 = nI l) (h3 : s ≤ 1000) (h4 : l ≤ 8) (h5 : sl ≤ 1000) (h6 : k ≤ 8) : trK q (nI sl) k ↔ 100 * sl + k < 100 * s + l := by
  unfold trK
  rw [h1, h2, nI_ltI (by omega) (by omega), nI_eq (by omega) (by omega), nI_leI (by omega) (by omega)]
  constructor
  · rintro (h | ⟨h, h'⟩)
    · exact absurd h (nI_pos (by omega))
    · by_cases e : sl = s
      · have : ¬ l ≤ k := fun c => h' ⟨e, c⟩
        omega
      · omega
  · intro h
    right
    refine ⟨by omega, fun c => ?_⟩
    omega
def unO (cN f k : Nat) (seen c : Int32) : Prop := (c < 0 ∧ k ≤ 8 ∧ 1 ≤ f) ∨ (∃ cc, cc < cN ∧ c = nI cc ∧ k + unS seen ≤ 7 ∧ unS seen + 2 ≤ f)
section Tries
variable {V : VT} {cN dN mN gk : Nat} {S : ST} {pc : Nat → Nat} {W : WT}
abbrev sc (pc : Nat → Nat) (d : Nat) : Nat := (pc d + 4) / 5
abbrev wd (pc : Nat → Nat) (d : Nat) : Nat := 100 * sc pc d + 1
theorem sc_i {j : Nat} (hS : S j = nI (pc j)) (hb : pc j ≤ 99) : (S j + 4) / 5 = nI (sc pc j) := by
  rw [hS, show (4 : Int32) = nI 4 from rfl, nI_add, show (5 : Int32) = nI 5 from rfl, pk_div (by omega) (by decide) (by decide)]
/-- the call of a door -/
theorem child (hP : PL V cN dN mN gk) {f k j cc : Nat} {seen : Int32} (hc : cc < cN) (h1 : k + unS seen ≤ 7) (h2 : unS seen + 2 ≤ f + 1) (hj : j < dN) (hn : ¬ trN V j (nI cc) seen) : unO cN f (k + 1) (tSn V j (nI cc) seen) (ld V j (nI cc)) ∧ Pl cN (ld V j (nI cc)) := by
  have h8 := hP.1.2
  rcases ld_cases hP hj (nI cc) with e | e | ⟨t, t1, t2⟩
  · exact absurd (Or.inl e) hn
  · exact ⟨Or.inl ⟨by rw [e]; decide, by omega, by omega⟩, Or.inl e⟩
  · have hs : ¬ sb seen (nI t) := fun c => hn (Or.inr ⟨by rw [t2]; exact nI_pos' (by omega), by rw [t2]; exact c⟩)
    have hu := un_step (x := seen) (c := t) (by omega) hs
    refine ⟨Or.inr ⟨t, t1, t2, ?_, ?_⟩, Or.inr ⟨t, t1, t2⟩⟩ <;>
    · unfold tSn
      rw [t2, if_neg (nI_pos (by omega))]
      omega
/-- the search's best is never better than what the least weight allows; where that is no better than the best, it stays -/
theorem tr_ac (hP : PL V cN dN mN gk) (hS : ∀ d, d < dN → S d = nI (pc d) ∧ pc d ≤ 99) (hO : Opt V cN dN (wd pc) W) : ∀ (f : Nat) (c seen : Int32) (k sl : Nat) (q : TQ), unO cN f k seen c → Pl cN c → sl ≤ 20 * k → OkQ q →
    OkQ (trC V S dN f c seen k (nI sl) q) ∧ (∀ i, i < k → (trC V S dN f c seen k (nI sl) q).2.2.2 i = q.2.2.2 i) ∧ ∀ T, (∀ x, wo W c = some x → T ≤ 100 * sl + k + x) →
      ((∀ β, bq q = some β → T ≤ β) → ∀ β, bq (trC V S dN f c seen k (nI sl) q) = some β → T ≤ β) ∧
      ((∃ β, bq q = some β ∧ β ≤ T) → (trC V S dN f c seen k (nI sl) q).1 = q.1 ∧ (trC V S dN f c seen k (nI sl) q).2.1 = q.2.1 ∧ (trC V S dN f c seen k (nI sl) q).2.2.1 = q.2.2.1) := by
  intro f
  have h8 := hP.1.2
  induction f with
  | zero =>
    intro c seen k sl q hu
    rcases hu with ⟨-, -, h⟩ | ⟨cc, -, -, -, h⟩ <;> omega
  | succ f ih =>
    intro c seen k sl q hu hpl hsl hq
    by_cases hc : c < 0
    · have hk : k ≤ 8 := by
        rcases hu with ⟨-, h, -⟩ | ⟨cc, h1, h2, -⟩
        · exact h
        · exact absurd hc (by rw [h2]; exact nI_pos (by omega))
      have hcm : c = -1 := by
        rcases hpl with e | ⟨n, n1, n2⟩
        · exact e
        · exact absurd hc (by rw [n2]; exact nI_pos (by omega))
      have e : trC V S dN (f + 1) c seen k (nI sl) q = trL q (nI sl) k := by
        show (if c < 0 then trL q (nI sl) k else _) = _
        rw [if_pos hc]
      rw [e]
      by_cases hK : trK q (nI sl) k
      · rw [trL_y hK]
        have hb : bq (nI sl, nI k, (fun i => if i < k then q.2.2.2 i else q.2.2.1 i), q.2.2.2) = some (100 * sl + k) := bq_s rfl rfl (by omega) hk
        refine ⟨Or.inr ⟨sl, k, rfl, rfl, by omega, hk⟩, fun i hi => rfl, fun T hT => ⟨fun _ β hβ => ?_, fun ⟨β, β1, β2⟩ => ?_⟩⟩
        · rw [hb] at hβ
          cases hβ
          exact hT 0 (by rw [hcm, wo_o])
        · exfalso
          have t0 := hT 0 (by rw [hcm, wo_o])
          rcases hq with hq | ⟨s, l, q1, q2, q3, q4⟩
          · rw [bq_n hq] at β1; cases β1
          · rw [bq_s q1 q2 q3 q4] at β1
            cases β1
            have := (trK_e q1 q2 q3 q4 (by omega) hk).mp hK
            omega
      · rw [trL_n hK]
        exact ⟨hq, fun i hi => rfl, fun T hT => ⟨fun h => h, fun _ => ⟨rfl, rfl, rfl⟩⟩⟩
    · have hcell : ∃ cc, cc < cN ∧ c = nI cc ∧ k + unS seen ≤ 7 ∧ unS seen + 2 ≤ f + 1 := by
        rcases hu with ⟨h, -⟩ | h
        · exact absurd h hc
        · exact h
      obtain ⟨cc, c1, c2, c3, c4⟩ := hcell
      have e : trC V S dN (f + 1) c seen k (nI sl) q = trD V S c seen k (nI sl) (trC V S dN f) q dN := by
        show (if c < 0 then trL q (nI sl) k else _) = _
        rw [if_neg hc]
      rw [e]
      subst c2
      have key : ∀ j, j ≤ dN → OkQ (trD V S (nI cc) seen k (nI sl) (trC V S dN f) q j) ∧ (∀ i, i < k → (trD V S (nI cc) seen k (nI sl) (trC V S dN f) q j).2.2.2 i = q.2.2.2 i) ∧ ∀ T, (∀ x, wo W (nI cc) = some x → T ≤ 100 * sl + k + x) →
          ((∀ β, bq q = some β → T ≤ β) → ∀ β, bq (trD V S (nI cc) seen k (nI sl) (trC V S dN f) q j) = some β → T ≤ β) ∧
          ((∃ β, bq q = some β ∧ β ≤ T) → (trD V S (nI cc) seen k (nI sl) (trC V S dN f) q j).1 = q.1 ∧ (trD V S (nI cc) seen k (nI sl) (trC V S dN f) q j).2.1 = q.2.1 ∧ (trD V S (nI cc) seen k (nI sl) (trC V S dN f) q j).2.2.1 = q.2.2.1) := by
        intro j
        induction j with
        | zero => intro _; exact ⟨hq, fun i hi => rfl, fun T hT => ⟨fun h => h, fun _ => ⟨rfl, rfl, rfl⟩⟩⟩
        | succ j ihj =>
          intro hj
          obtain ⟨i1, i2, i3⟩ := ihj (by omega)
          show OkQ (trE V S (nI cc) seen k (nI sl) (trC V S dN f) j (trD V S (nI cc) seen k (nI sl) (trC V S dN f) q j)) ∧ (∀ i, i < k → (trE V S (nI cc) seen k (nI sl) (trC V S dN f) j (trD V S (nI cc) seen k (nI sl) (trC V S dN f) q j)).2.2.2 i = q.2.2.2 i) ∧ ∀ T, (∀ x, wo W (nI cc) = some x → T ≤ 100 * sl + k + x) →
            ((∀ β, bq q = some β → T ≤ β) → ∀ β, bq (trE V S (nI cc) seen k (nI sl) (trC V S dN f) j (trD V S (nI cc) seen k (nI sl) (trC V S dN f) q j)) = some β → T ≤ β) ∧
            ((∃ β, bq q = some β ∧ β ≤ T) → (trE V S (nI cc) seen k (nI sl) (trC V S dN f) j (trD V S (nI cc) seen k (nI sl) (trC V S dN f) q j)).1 = q.1 ∧ (trE V S (nI cc) seen k (nI sl) (trC V S dN f) j (trD V S (nI cc) seen k (nI sl) (trC V S dN f) q j)).2.1 = q.2.1 ∧ (trE V S (nI cc) seen k (nI sl) (trC V S dN f) j (trD V S (nI cc) seen k (nI sl) (trC V S dN f) q j)).2.2.1 = q.2.2.1)
          generalize trD V S (nI cc) seen k (nI sl) (trC V S dN f) q j = q1 at i1 i2 i3 ⊢
          by_cases hn : trN V j (nI cc) seen
          · rw [trE_y hn]; exact ⟨i1, i2, i3⟩
          · have hjd : j < dN := by omega
            obtain ⟨u1, u2⟩ := child hP c1 c3 c4 hjd hn
            have hsc : sc pc j ≤ 20 := by have := (hS j hjd).2; unfold sc; omega
            rw [trE_n hn, sc_i (hS j hjd).1 (hS j hjd).2, nI_add]
            obtain ⟨a1, a2, a3⟩ := ih (ld V j (nI cc)) (tSn V j (nI cc) seen) (k + 1) (sl + sc pc j) (q1.1, q1.2.1, q1.2.2.1, va_up q1.2.2.2 k (nI j)) u1 u2 (by omega) i1
            refine ⟨a1, fun i hi => ?_, fun T hT => ?_⟩
            · rw [a2 i (by omega), ← i2 i hi]
              exact va_ne _ _ (by omega)
            · have hT2 : ∀ x, wo W (ld V j (nI cc)) = some x → T ≤ 100 * (sl + sc pc j) + (k + 1) + x := by
                intro y hy
                obtain ⟨x, x1, x2⟩ := hO.1 cc c1 j hjd (fun z => hn (Or.inl z)) y hy
                have := hT x (by rw [wo_c _ (by omega)]; exact x1)
                have x3 : x ≤ 100 * sc pc j + 1 + y := x2
                omega
              obtain ⟨b1, b2⟩ := a3 T hT2
              obtain ⟨d1, d2⟩ := i3 T hT
              refine ⟨fun h => b1 (d1 h), fun h => ?_⟩
              obtain ⟨e1, e2, e3⟩ := d2 h
              have hbq : bq (q1.1, q1.2.1, q1.2.2.1, va_up q1.2.2.2 k (nI j)) = bq q := by
                unfold bq
                show (if q1.1 < 0 then none else some (100 * q1.1.toNatClampNeg + q1.2.1.toNatClampNeg)) = _
                rw [e1, e2]
              obtain ⟨g1, g2, g3⟩ := b2 (by rw [hbq]; exact h)
              exact ⟨g1.trans e1, g2.trans e2, g3.trans e3⟩
      exact key dN (Nat.le_refl _)
/-- the door that the class takes first -/
def gdP (V : VT) (w : Nat → Nat) (W : WT) (c : Int32) (d : Nat) : Prop := ¬ ld V d c = -2 ∧ ∃ y, wo W (ld V d c) = some y ∧ wo W c = some (w d + y)
def GP (V : VT) (cN dN : Nat) (w : Nat → Nat) (W : WT) : List Nat → Int32 → Prop
  | [], c => c = -1
  | d :: ds, c => (∃ n, n < cN ∧ c = nI n) ∧ (d < dN ∧ gdP V w W c d ∧ ∀ e, e < d → ¬ gdP V w W c e) ∧ GP V cN dN w W ds (ld V d c)
theorem least {P : Nat → Prop} : ∀ n, P n → ∃ d, d ≤ n ∧ P d ∧ ∀ e, e < d → ¬ P e := by
  intro n
  induction n using Nat.strongRecOn with
  | _ n ih =>
    intro hn
    by_cases h : ∃ e, e < n ∧ P e
    · obtain ⟨e, e1, e2⟩ := h
      obtain ⟨d, d1, d2, d3⟩ := ih e e1 e2
      exact ⟨d, by omega, d2, d3⟩
    · exact ⟨n, Nat.le_refl _, hn, fun e he c => h ⟨e, he, c⟩⟩
theorem gp_ex (hP : PL V cN dN mN gk) {w : Nat → Nat} (hw : ∀ d, 1 ≤ w d) (hO : Opt V cN dN w W) : ∀ (x : Nat) (c : Int32), Pl cN c → wo W c = some x → ∃ ds, GP V cN dN w W ds c ∧ wt w ds = x := by
  intro x
  have h8 := hP.1.2
  induction x using Nat.strongRecOn with
  | _ x ih =>
    intro c hc hx
    rcases hc with rfl | ⟨n, n1, rfl⟩
    · rw [wo_o] at hx
      cases hx
      exact ⟨[], rfl, rfl⟩
    · have hx2 := hx
      rw [wo_c _ (by omega)] at hx2
      obtain ⟨d0, d1, d2, y0, y1, y2⟩ := hO.2 n n1 x hx2
      obtain ⟨d, e1, ⟨e2, y, e3, e4⟩, e5⟩ := least (P := gdP V w W (nI n)) d0 ⟨d2, y0, y1, by rw [hx, y2]⟩
      rw [hx] at e4
      have e6 : x = w d + y := Option.some.inj e4
      have hpl : Pl cN (ld V d (nI n)) := by
        rcases ld_cases hP (show d < dN by omega) (nI n) with q | q | q
        · exact absurd q e2
        · exact Or.inl q
        · exact Or.inr q
      obtain ⟨ds, g1, g2⟩ := ih y (by have := hw d; omega) _ hpl e3
      exact ⟨d :: ds, ⟨⟨n, n1, rfl⟩, ⟨by omega, ⟨e2, y, e3, by rw [hx, e6]⟩, e5⟩, g1⟩, by show w d + wt w ds = x; omega⟩
def cs (pc : Nat → Nat) : List Nat → Nat
  | [] => 0
  | d :: ds => sc pc d + cs pc ds
theorem wt_cs (pc : Nat → Nat) : ∀ ds, wt (wd pc) ds = 100 * cs pc ds + ds.length := by
  intro ds
  induction ds with
  | nil => rfl
  | cons d ds ih =>
    show 100 * sc pc d + 1 + wt (wd pc) ds = 100 * (sc pc d + cs pc ds) + (ds.length + 1)
    omega
theorem gp_wo {w : Nat → Nat} (h8 : cN ≤ 8) : ∀ (ds : List Nat) (c : Int32), GP V cN dN w W ds c → wo W c = some (wt w ds) := by
  intro ds
  induction ds with
  | nil => intro c h; rw [show c = -1 from h, wo_o]; rfl
  | cons d ds ih =>
    intro c h
    obtain ⟨h1, ⟨h2, ⟨h3, y, h4, h5⟩, h6⟩, h7⟩ := h
    have q := ih _ h7
    rw [q] at h4
    cases h4
    exact h5
theorem tr_b (hP : PL V cN dN mN gk) (hS : ∀ d, d < dN → S d = nI (pc d) ∧ pc d ≤ 99) (hO : Opt V cN dN (wd pc) W) : ∀ (ds : List Nat) (f : Nat) (c seen : Int32) (k sl : Nat) (q : TQ), unO cN f k seen c → Pl cN c → sl ≤ 20 * k → OkQ q → GP V cN dN (wd pc) W ds c → (∀ m, m < cN → sb seen (nI m) → ∀ y, W m = some y → wt (wd pc) ds ≤ y) → (∀ β, bq q = some β → 100 * sl + k + wt (wd pc) ds < β) →
    (trC V S dN f c seen k (nI sl) q).1 = nI (sl + cs pc ds) ∧ (trC V S dN f c seen k (nI sl) q).2.1 = nI (k + ds.length) ∧ k + ds.length ≤ 8 ∧ sl + cs pc ds ≤ 20 * (k + ds.length) ∧ (∀ i, i < k → (trC V S dN f c seen k (nI sl) q).2.2.1 i = q.2.2.2 i) ∧ ∀ i, i < ds.length → (trC V S dN f c seen k (nI sl) q).2.2.1 (k + i) = nI (ds.getD i 0) := by
  intro ds
  have h8 := hP.1.2
  induction ds with
  | nil =>
    intro f c seen k sl q hu hpl hsl hq hg hseen hβ
    have hc : c = -1 := hg
    subst hc
    have hf : ∃ f2, f = f2 + 1 ∧ k ≤ 8 := by
      rcases hu with ⟨-, h1, h2⟩ | ⟨cc, c1, c2, -⟩
      · exact ⟨f - 1, by omega, h1⟩
      · exact absurd c2.symm (nI_ge0 (by omega))
    obtain ⟨f2, rfl, hk⟩ := hf
    have e : trC V S dN (f2 + 1) (-1) seen k (nI sl) q = trL q (nI sl) k := by
      show (if (-1 : Int32) < 0 then trL q (nI sl) k else _) = _
      rw [if_pos (by decide)]
    have hK : trK q (nI sl) k := by
      rcases hq with hq | ⟨s, l, q1, q2, q3, q4⟩
      · exact Or.inl (by rw [hq]; decide)
      · have := hβ _ (bq_s q1 q2 q3 q4)
        refine (trK_e q1 q2 q3 q4 (by omega) hk).mpr ?_
        have z : wt (wd pc) [] = 0 := rfl
        omega
    rw [e, trL_y hK]
    refine ⟨rfl, rfl, hk, ?_, fun i hi => if_pos hi, fun i hi => absurd hi (by simp)⟩
    show sl + 0 ≤ 20 * (k + 0)
    omega
  | cons d ds ih =>
    intro f c seen k sl q hu hpl hsl hq hg hseen hβ
    have hwo := gp_wo h8 (d :: ds) c hg
    obtain ⟨⟨n, n1, n2⟩, ⟨g2, ⟨g3, y, g4, g5⟩, g6⟩, g7⟩ := hg
    subst n2
    have hwo2 := gp_wo h8 ds _ g7
    rw [hwo2] at g4
    cases g4
    have hcell : k + unS seen ≤ 7 ∧ ∃ f2, f = f2 + 1 ∧ unS seen + 2 ≤ f2 + 1 := by
      rcases hu with ⟨h, -⟩ | ⟨cc, -, -, h1, h2⟩
      · exact absurd h (nI_pos (by omega))
      · exact ⟨h1, f - 1, by omega, by omega⟩
    obtain ⟨c3, f2, rfl, c4⟩ := hcell
    have e : trC V S dN (f2 + 1) (nI n) seen k (nI sl) q = trD V S (nI n) seen k (nI sl) (trC V S dN f2) q dN := by
      show (if nI n < 0 then trL q (nI sl) k else _) = _
      rw [if_neg (nI_pos (by omega))]
    rw [e]
    have hX : wt (wd pc) (d :: ds) = 100 * sc pc d + 1 + wt (wd pc) ds := rfl
    -- the doors ahead
    have pre : ∀ j, j ≤ d → OkQ (trD V S (nI n) seen k (nI sl) (trC V S dN f2) q j) ∧ (∀ i, i < k → (trD V S (nI n) seen k (nI sl) (trC V S dN f2) q j).2.2.2 i = q.2.2.2 i) ∧ ∀ β, bq (trD V S (nI n) seen k (nI sl) (trC V S dN f2) q j) = some β → 100 * sl + k + wt (wd pc) (d :: ds) < β := by
      intro j
      induction j with
      | zero => intro _; exact ⟨hq, fun i hi => rfl, hβ⟩
      | succ j ihj =>
        intro hj
        obtain ⟨i1, i2, i3⟩ := ihj (by omega)
        show OkQ (trE V S (nI n) seen k (nI sl) (trC V S dN f2) j (trD V S (nI n) seen k (nI sl) (trC V S dN f2) q j)) ∧ (∀ i, i < k → (trE V S (nI n) seen k (nI sl) (trC V S dN f2) j (trD V S (nI n) seen k (nI sl) (trC V S dN f2) q j)).2.2.2 i = q.2.2.2 i) ∧ ∀ β, bq (trE V S (nI n) seen k (nI sl) (trC V S dN f2) j (trD V S (nI n) seen k (nI sl) (trC V S dN f2) q j)) = some β → 100 * sl + k + wt (wd pc) (d :: ds) < β
        generalize trD V S (nI n) seen k (nI sl) (trC V S dN f2) q j = q1 at i1 i2 i3 ⊢
        by_cases hn : trN V j (nI n) seen
        · rw [trE_y hn]; exact ⟨i1, i2, i3⟩
        · have hjd : j < dN := by omega
          obtain ⟨u1, u2⟩ := child hP n1 c3 c4 hjd hn
          have hsc : sc pc j ≤ 20 := by have := (hS j hjd).2; unfold sc; omega
          rw [trE_n hn, sc_i (hS j hjd).1 (hS j hjd).2, nI_add]
          obtain ⟨a1, a2, a3⟩ := tr_ac hP hS hO f2 (ld V j (nI n)) (tSn V j (nI n) seen) (k + 1) (sl + sc pc j) (q1.1, q1.2.1, q1.2.2.1, va_up q1.2.2.2 k (nI j)) u1 u2 (by omega) i1
          refine ⟨a1, fun i hi => ?_, ?_⟩
          · rw [a2 i (by omega), ← i2 i hi]
            exact va_ne _ _ (by omega)
          · refine (a3 (100 * sl + k + wt (wd pc) (d :: ds) + 1) ?_).1 i3
            intro z hz
            obtain ⟨x, x1, x2⟩ := hO.1 n n1 j hjd (fun r => hn (Or.inl r)) z hz
            rw [wo_c _ (by omega), x1] at hwo
            have x3 : x = wt (wd pc) (d :: ds) := Option.some.inj hwo
            have x4 : x ≤ 100 * sc pc j + 1 + z := x2
            have x5 : x ≠ 100 * sc pc j + 1 + z := fun r => g6 j (by omega) ⟨fun r => hn (Or.inl r), z, hz, by rw [wo_c _ (by omega), x1, r]⟩
            omega
    obtain ⟨p1, p2, p3⟩ := pre d (Nat.le_refl _)
    -- the door itself
    have hseen2 : ¬ trN V d (nI n) seen := by
      rintro (r | ⟨r1, r2⟩)
      · exact g3 r
      · rcases ld_cases hP g2 (nI n) with q1 | q1 | ⟨t, t1, t2⟩
        · exact g3 q1
        · rw [q1] at r1; exact absurd r1 (by decide)
        · rw [t2] at r2 hwo2
          rw [wo_c _ (by omega)] at hwo2
          have := hseen t t1 r2 _ hwo2
          omega
    obtain ⟨u1, u2⟩ := child hP n1 c3 c4 g2 hseen2
    have hsc : sc pc d ≤ 20 := by have := (hS d g2).2; unfold sc; omega
    have mid : ∀ q1 : TQ, q1 = trD V S (nI n) seen k (nI sl) (trC V S dN f2) q d → (trE V S (nI n) seen k (nI sl) (trC V S dN f2) d q1).1 = nI (sl + cs pc (d :: ds)) ∧ (trE V S (nI n) seen k (nI sl) (trC V S dN f2) d q1).2.1 = nI (k + (d :: ds).length) ∧ k + (d :: ds).length ≤ 8 ∧ sl + cs pc (d :: ds) ≤ 20 * (k + (d :: ds).length) ∧ (∀ i, i < k → (trE V S (nI n) seen k (nI sl) (trC V S dN f2) d q1).2.2.1 i = q.2.2.2 i) ∧ ∀ i, i < (d :: ds).length → (trE V S (nI n) seen k (nI sl) (trC V S dN f2) d q1).2.2.1 (k + i) = nI ((d :: ds).getD i 0) := by
      intro q1 hq1
      rw [← hq1] at p1 p2 p3
      rw [trE_n hseen2, sc_i (hS d g2).1 (hS d g2).2, nI_add]
      obtain ⟨r1, r2, r3, r4, r5, r6⟩ := ih f2 (ld V d (nI n)) (tSn V d (nI n) seen) (k + 1) (sl + sc pc d) (q1.1, q1.2.1, q1.2.2.1, va_up q1.2.2.2 k (nI d)) u1 u2 (by omega) p1 g7 (by
          intro m hm hsb z hz
          have old : sb seen (nI m) → wt (wd pc) ds ≤ z := fun h => by
            have := hseen m hm h z hz
            omega
          unfold tSn at hsb
          by_cases hneg : ld V d (nI n) < 0
          · rw [if_pos hneg] at hsb
            exact old hsb
          · rw [if_neg hneg] at hsb
            rcases u2 with q2 | ⟨t, t1, t2⟩
            · rw [q2] at hneg; exact absurd (by decide) hneg
            · rw [t2] at hsb hwo2
              rcases (sb_or seen (c := t) (e := m) (by omega) (by omega)).mp hsb with h | h
              · rw [wo_c _ (by omega)] at hwo2
                rw [h, hwo2] at hz
                cases hz
                exact Nat.le_refl _
              · exact old h) (by
          intro β hb
          have := p3 β hb
          omega)
      have hlen : (d :: ds).length = ds.length + 1 := rfl
      have hcs : cs pc (d :: ds) = sc pc d + cs pc ds := rfl
      rw [hlen, hcs]
      refine ⟨by rw [r1, Nat.add_assoc], by rw [r2]; congr 1; omega, by omega, by omega, fun i hi => ?_, fun i hi => ?_⟩
      · rw [r5 i (by omega), ← p2 i hi]
        exact va_ne _ _ (by omega)
      · cases i with
        | zero =>
          exact (r5 k (by omega)).trans (va_sm _ _ _)
        | succ i =>
          have z := r6 i (by omega)
          rw [show k + (i + 1) = k + 1 + i by omega, z]
          rfl
    -- the doors behind
    have post : ∀ j, d < j → j ≤ dN → (trD V S (nI n) seen k (nI sl) (trC V S dN f2) q j).1 = nI (sl + cs pc (d :: ds)) ∧ (trD V S (nI n) seen k (nI sl) (trC V S dN f2) q j).2.1 = nI (k + (d :: ds).length) ∧ k + (d :: ds).length ≤ 8 ∧ sl + cs pc (d :: ds) ≤ 20 * (k + (d :: ds).length) ∧ (∀ i, i < k → (trD V S (nI n) seen k (nI sl) (trC V S dN f2) q j).2.2.1 i = q.2.2.2 i) ∧ ∀ i, i < (d :: ds).length → (trD V S (nI n) seen k (nI sl) (trC V S dN f2) q j).2.2.1 (k + i) = nI ((d :: ds).getD i 0) := by
      intro j
      induction j with
      | zero => intro h; omega
      | succ j ihj =>
        intro h1 h2
        by_cases ejd : j = d
        · rw [ejd]
          exact mid _ rfl
        · obtain ⟨m1, m2, m3, m4, m5, m6⟩ := ihj (by omega) (by omega)
          show (trE V S (nI n) seen k (nI sl) (trC V S dN f2) j (trD V S (nI n) seen k (nI sl) (trC V S dN f2) q j)).1 = _ ∧ (trE V S (nI n) seen k (nI sl) (trC V S dN f2) j (trD V S (nI n) seen k (nI sl) (trC V S dN f2) q j)).2.1 = _ ∧ _ ∧ _ ∧ (∀ i, i < k → (trE V S (nI n) seen k (nI sl) (trC V S dN f2) j (trD V S (nI n) seen k (nI sl) (trC V S dN f2) q j)).2.2.1 i = _) ∧ ∀ i, i < (d :: ds).length → (trE V S (nI n) seen k (nI sl) (trC V S dN f2) j (trD V S (nI n) seen k (nI sl) (trC V S dN f2) q j)).2.2.1 (k + i) = _
          generalize trD V S (nI n) seen k (nI sl) (trC V S dN f2) q j = q1 at m1 m2 m5 m6 ⊢
          by_cases hn : trN V j (nI n) seen
          · rw [trE_y hn]; exact ⟨m1, m2, m3, m4, m5, m6⟩
          · have hjd : j < dN := by omega
            obtain ⟨v1, v2⟩ := child hP n1 c3 c4 hjd hn
            have hsc2 : sc pc j ≤ 20 := by have := (hS j hjd).2; unfold sc; omega
            rw [trE_n hn, sc_i (hS j hjd).1 (hS j hjd).2, nI_add]
            have hb1 : bq (q1.1, q1.2.1, q1.2.2.1, va_up q1.2.2.2 k (nI j)) = some (100 * (sl + cs pc (d :: ds)) + (k + (d :: ds).length)) := bq_s m1 m2 (by omega) m3
            obtain ⟨-, -, a3⟩ := tr_ac hP hS hO f2 (ld V j (nI n)) (tSn V j (nI n) seen) (k + 1) (sl + sc pc j) (q1.1, q1.2.1, q1.2.2.1, va_up q1.2.2.2 k (nI j)) v1 v2 (by omega) (Or.inr ⟨_, _, m1, m2, by omega, m3⟩)
            obtain ⟨z1, z2, z3⟩ := (a3 (100 * sl + k + wt (wd pc) (d :: ds)) (by
              intro z hz
              obtain ⟨x, x1, x2⟩ := hO.1 n n1 j hjd (fun r => hn (Or.inl r)) z hz
              rw [wo_c _ (by omega), x1] at hwo
              have x3 : x = wt (wd pc) (d :: ds) := Option.some.inj hwo
              have x4 : x ≤ 100 * sc pc j + 1 + z := x2
              omega)).2 ⟨_, hb1, by rw [wt_cs]; omega⟩
            refine ⟨z1.trans m1, z2.trans m2, m3, m4, fun i hi => ?_, fun i hi => ?_⟩
            · rw [z3]; exact m5 i hi
            · rw [z3]; exact m6 i hi
    exact post dN (by omega) (Nat.le_refl _)
end Tries
