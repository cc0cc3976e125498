/-! ===== how a formula is read; the reference reads it so ===== -/
/-- what was read: its codes, its steps, its value by the facts -/
abbrev EX : Type := List Int32 × List Int32 × (ST → Int32)
abbrev Rs : Type := (Nat × EX) ⊕ Int32
def opS (op : Nat) : Int32 := if op = 26 then 3 else if op = 27 then 4 else if op = 24 then 5 else if op = 25 then 6 else if op = 20 then 7 else if op = 21 then 8 else 9
def opV (op : Nat) (x y : Int32) : Int32 := if op = 26 then (if x ≠ 0 ∧ y ≠ 0 then 1 else 0) else if op = 27 then (if x ≠ 0 ∨ y ≠ 0 then 1 else 0) else if op = 24 then (if x < y then 1 else 0) else if op = 25 then (if x = y then 1 else 0) else if op = 20 then x + y else if op = 21 then x - y else x * y
def bnE (op : Nat) (A B : EX) : EX := (A.1 ++ (nI op :: B.1), A.2.1 ++ B.2.1 ++ [opS op], fun w => opV op (A.2.2 w) (B.2.2 w))
def ngE (A : EX) : EX := (30 :: A.1, A.2.1 ++ [2], fun w => if A.2.2 w = 0 then 1 else 0)
def paE (A : EX) : EX := (28 :: (A.1 ++ [29]), A.2.1, A.2.2)
def ngR (r : Rs) : Rs := match r with
  | .inl x => .inl (x.1, ngE x.2)
  | .inr f => .inr f
/-- the operators by their levels -/
def OP (T : ST) (b e k l op : Nat) : Prop := (l = 0 ∧ op = 26 ∧ isW T b e k 15) ∨ (l = 0 ∧ op = 27 ∧ isW T b e k 16) ∨ (l = 1 ∧ op = 24 ∧ isS T b k 60) ∨ (l = 1 ∧ op = 25 ∧ isS T b k 61) ∨ (l = 2 ∧ op = 20 ∧ isS T b k 43) ∨ (l = 2 ∧ op = 21 ∧ isS T b k 45) ∨ (l = 3 ∧ op = 22 ∧ isS T b k 42)
def LFx (T : ST) (b e k : Nat) (ice : Bool) (E : EX) : Prop := (k = 2 ∧ E = ([100 + dgA T b (e - b)], [dgA T b (e - b) * 16 + 0], fun _ => dgA T b (e - b))) ∨ ∃ f, 1 ≤ f ∧ f ≤ fcN ice ∧ isW T b e k (fcW ice f) ∧ E = ([nI f], [wFc.getD (fcW ice f) 0 * 16 + 1], fun w => w f)
def ClR (T : ST) (n : Nat) (ice : Bool) (P0 : Nat → Nat → Rs → Prop) (PL : Nat → Nat → Nat → Rs → Prop) (PO : Nat → Nat → Bool → Nat → EX → Rs → Prop) : Prop :=
  (∀ d p b e k, TK T n p b e k → ¬ PSt T b e k ice → P0 d p (.inr (1 + 16 * nI b))) ∧
  (∀ d p b e k, TK T n p b e k → PSt T b e k ice → d = 5 → P0 d p (.inr (5 + 16 * nI b))) ∧
  (∀ d p b e k E, TK T n p b e k → LFx T b e k ice E → d < 5 → P0 d p (.inl (e, E))) ∧
  (∀ d p b e k r, TK T n p b e k → isW T b e k 14 → d < 5 → P0 (d + 1) e r → P0 d p (ngR r)) ∧
  (∀ d p b e k f, TK T n p b e k → isS T b k 40 → d < 5 → PL 0 (d + 1) e (.inr f) → P0 d p (.inr f)) ∧
  (∀ d p b e k q E b2 e2 k2, TK T n p b e k → isS T b k 40 → d < 5 → PL 0 (d + 1) e (.inl (q, E)) → TK T n q b2 e2 k2 → isS T b2 k2 41 → P0 d p (.inl (e2, paE E))) ∧
  (∀ d p b e k q E b2 e2 k2, TK T n p b e k → isS T b k 40 → d < 5 → PL 0 (d + 1) e (.inl (q, E)) → TK T n q b2 e2 k2 → ¬ isS T b2 k2 41 → P0 d p (.inr (1 + 16 * nI b2))) ∧
  (∀ d p r, P0 d p r → PL 4 d p r) ∧
  (∀ l d p f, l < 4 → PL (l + 1) d p (.inr f) → PL l d p (.inr f)) ∧
  (∀ l d p q E r, l < 4 → PL (l + 1) d p (.inl (q, E)) → PO l d false q E r → PL l d p r) ∧
  (∀ l d u p E b e k, l < 4 → TK T n p b e k → (u = true ∧ l = 1) ∨ (∀ op, ¬ OP T b e k l op) → PO l d u p E (.inl (p, E))) ∧
  (∀ l d u p E b e k op f, l < 4 → TK T n p b e k → OP T b e k l op → ¬ (u = true ∧ l = 1) → PL (l + 1) d e (.inr f) → PO l d u p E (.inr f)) ∧
  (∀ l d u p E b e k op q E2 r, l < 4 → TK T n p b e k → OP T b e k l op → ¬ (u = true ∧ l = 1) → PL (l + 1) d e (.inl (q, E2)) → PO l d true q (bnE op E E2) r → PO l d u p E r)
def RPt (T : ST) (n : Nat) (ice : Bool) (d p : Nat) (r : Rs) : Prop := ∀ P0 PL PO, ClR T n ice P0 PL PO → P0 d p r
def RLv (T : ST) (n : Nat) (ice : Bool) (l d p : Nat) (r : Rs) : Prop := ∀ P0 PL PO, ClR T n ice P0 PL PO → PL l d p r
def ROp (T : ST) (n : Nat) (ice : Bool) (l d : Nat) (u : Bool) (p : Nat) (E : EX) (r : Rs) : Prop := ∀ P0 PL PO, ClR T n ice P0 PL PO → PO l d u p E r
/-- the rules hold of what is read by them -/
theorem ClR_self (T : ST) (n : Nat) (ice : Bool) : ClR T n ice (RPt T n ice) (RLv T n ice) (ROp T n ice) := by
  refine ⟨?_, ?_, ?_, ?_, ?_, ?_, ?_, ?_, ?_, ?_, ?_, ?_, ?_⟩
  · exact fun d p b e k h1 h2 P0 PL PO C => C.1 d p b e k h1 h2
  · exact fun d p b e k h1 h2 h3 P0 PL PO C => C.2.1 d p b e k h1 h2 h3
  · exact fun d p b e k E h1 h2 h3 P0 PL PO C => C.2.2.1 d p b e k E h1 h2 h3
  · exact fun d p b e k r h1 h2 h3 h4 P0 PL PO C => C.2.2.2.1 d p b e k r h1 h2 h3 (h4 P0 PL PO C)
  · exact fun d p b e k f h1 h2 h3 h4 P0 PL PO C => C.2.2.2.2.1 d p b e k f h1 h2 h3 (h4 P0 PL PO C)
  · exact fun d p b e k q E b2 e2 k2 h1 h2 h3 h4 h5 h6 P0 PL PO C => C.2.2.2.2.2.1 d p b e k q E b2 e2 k2 h1 h2 h3 (h4 P0 PL PO C) h5 h6
  · exact fun d p b e k q E b2 e2 k2 h1 h2 h3 h4 h5 h6 P0 PL PO C => C.2.2.2.2.2.2.1 d p b e k q E b2 e2 k2 h1 h2 h3 (h4 P0 PL PO C) h5 h6
  · exact fun d p r h1 P0 PL PO C => C.2.2.2.2.2.2.2.1 d p r (h1 P0 PL PO C)
  · exact fun l d p f h1 h2 P0 PL PO C => C.2.2.2.2.2.2.2.2.1 l d p f h1 (h2 P0 PL PO C)
  · exact fun l d p q E r h1 h2 h3 P0 PL PO C => C.2.2.2.2.2.2.2.2.2.1 l d p q E r h1 (h2 P0 PL PO C) (h3 P0 PL PO C)
  · exact fun l d u p E b e k h1 h2 h3 P0 PL PO C => C.2.2.2.2.2.2.2.2.2.2.1 l d u p E b e k h1 h2 h3
  · exact fun l d u p E b e k op f h1 h2 h3 h4 h5 P0 PL PO C => C.2.2.2.2.2.2.2.2.2.2.2.1 l d u p E b e k op f h1 h2 h3 h4 (h5 P0 PL PO C)
  · exact fun l d u p E b e k op q E2 r h1 h2 h3 h4 h5 h6 P0 PL PO C => C.2.2.2.2.2.2.2.2.2.2.2.2 l d u p E b e k op q E2 r h1 h2 h3 h4 (h5 P0 PL PO C) (h6 P0 PL PO C)
theorem OP_u {T : ST} {b e k l op l2 op2 : Nat} (h : OP T b e k l op) (h2 : OP T b e k l2 op2) : l = l2 ∧ op = op2 := by
  have nw : ¬ wB 15 = wB 16 := by decide
  have x1 : ¬ (60 : Int32) = 61 := by decide
  have x2 : ¬ (60 : Int32) = 43 := by decide
  have x3 : ¬ (60 : Int32) = 45 := by decide
  have x4 : ¬ (60 : Int32) = 42 := by decide
  have x5 : ¬ (61 : Int32) = 43 := by decide
  have x6 : ¬ (61 : Int32) = 45 := by decide
  have x7 : ¬ (61 : Int32) = 42 := by decide
  have x8 : ¬ (43 : Int32) = 45 := by decide
  have x9 : ¬ (43 : Int32) = 42 := by decide
  have x0 : ¬ (45 : Int32) = 42 := by decide
  unfold OP at h h2
  rcases h with ⟨a, a2, a3, a4⟩ | ⟨a, a2, a3, a4⟩ | ⟨a, a2, a3, a4⟩ | ⟨a, a2, a3, a4⟩ | ⟨a, a2, a3, a4⟩ | ⟨a, a2, a3, a4⟩ | ⟨a, a2, a3, a4⟩ <;> rcases h2 with ⟨c, c2, c3, c4⟩ | ⟨c, c2, c3, c4⟩ | ⟨c, c2, c3, c4⟩ | ⟨c, c2, c3, c4⟩ | ⟨c, c2, c3, c4⟩ | ⟨c, c2, c3, c4⟩ | ⟨c, c2, c3, c4⟩ <;> first | (exact ⟨by omega, by omega⟩) | (exfalso; omega) | (exfalso; rw [a4] at c4; first | exact nw c4 | exact nw c4.symm | exact x1 c4 | exact x1 c4.symm | exact x2 c4 | exact x2 c4.symm | exact x3 c4 | exact x3 c4.symm | exact x4 c4 | exact x4 c4.symm | exact x5 c4 | exact x5 c4.symm | exact x6 c4 | exact x6 c4.symm | exact x7 c4 | exact x7 c4.symm | exact x8 c4 | exact x8 c4.symm | exact x9 c4 | exact x9 c4.symm | exact x0 c4 | exact x0 c4.symm)
theorem OP_sg {T : ST} {b e k l op : Nat} (h : OP T b e k l op) : ¬ isS T b k 41 ∧ ¬ isS T b k 59 ∧ k ≠ 0 := by
  unfold OP at h
  refine ⟨?_, ?_, ?_⟩
  · rintro ⟨q, r⟩
    rcases h with ⟨a, a2, a3, a4⟩ | ⟨a, a2, a3, a4⟩ | ⟨a, a2, a3, a4⟩ | ⟨a, a2, a3, a4⟩ | ⟨a, a2, a3, a4⟩ | ⟨a, a2, a3, a4⟩ | ⟨a, a2, a3, a4⟩ <;> first | omega | (rw [a4] at r; exact absurd r (by decide))
  · rintro ⟨q, r⟩
    rcases h with ⟨a, a2, a3, a4⟩ | ⟨a, a2, a3, a4⟩ | ⟨a, a2, a3, a4⟩ | ⟨a, a2, a3, a4⟩ | ⟨a, a2, a3, a4⟩ | ⟨a, a2, a3, a4⟩ | ⟨a, a2, a3, a4⟩ <;> first | omega | (rw [a4] at r; exact absurd r (by decide))
  · rcases h with ⟨a, a2, a3, a4⟩ | ⟨a, a2, a3, a4⟩ | ⟨a, a2, a3, a4⟩ | ⟨a, a2, a3, a4⟩ | ⟨a, a2, a3, a4⟩ | ⟨a, a2, a3, a4⟩ | ⟨a, a2, a3, a4⟩ <;> omega
theorem OP_l {T : ST} {b e k l op : Nat} (h : OP T b e k l op) : l ≤ 3 := by
  unfold OP at h
  omega
theorem LFx_c {T : ST} {b e k : Nat} {ice : Bool} {E : EX} (h : LFx T b e k ice E) : ∃ x, LFc T b e k ice x ∧ E.1 = [x] := by
  rcases h with ⟨q, rfl⟩ | ⟨f, h1, h2, h3, rfl⟩
  · exact ⟨_, Or.inl ⟨q, rfl⟩, rfl⟩
  · exact ⟨_, Or.inr ⟨f, h1, h2, h3, rfl⟩, rfl⟩
theorem wB_inj {i j : Nat} (hi : i < 22) (hj : j < 22) (h : wB i = wB j) : i = j := by
  have key : ∀ i, i < 22 → ∀ j, j < 22 → wB i = wB j → i = j := by decide
  exact key i hi j hj h
theorem fcW_lt {ice : Bool} {f : Nat} (h2 : f ≤ fcN ice) : f ≤ 6 ∧ fcW ice f < 22 := by
  have key : ∀ (ice : Bool) (f : Nat), f < 7 → f ≤ fcN ice → f ≤ 6 ∧ fcW ice f < 22 := by decide
  exact key ice f (by cases ice <;> (simp [fcN] at h2; omega)) h2
theorem fcW_inj {ice : Bool} {f g : Nat} (h2 : f ≤ fcN ice) (g2 : g ≤ fcN ice) (f1 : 1 ≤ f) (g1 : 1 ≤ g) (h : fcW ice f = fcW ice g) : f = g := by
  have key : ∀ (ice : Bool) (f : Nat), f < 7 → ∀ g, g < 7 → (1 ≤ f ∧ 1 ≤ g ∧ f ≤ fcN ice ∧ g ≤ fcN ice ∧ fcW ice f = fcW ice g) → f = g := by decide
  exact key ice f (by have := (fcW_lt h2).1; omega) g (by have := (fcW_lt g2).1; omega) ⟨f1, g1, h2, g2, h⟩
theorem LFc_u {T : ST} {b e k : Nat} {ice : Bool} {x y : Int32} (h : LFc T b e k ice x) (h2 : LFc T b e k ice y) : x = y := by
  rcases h with ⟨q, rfl⟩ | ⟨f, f1, f2, f3, rfl⟩ <;> rcases h2 with ⟨q2, rfl⟩ | ⟨g, g1, g2, g3, rfl⟩
  · rfl
  · have := g3.1; omega
  · have := f3.1; omega
  · rw [fcW_inj f2 g2 f1 g1 (wB_inj (fcW_lt f2).2 (fcW_lt g2).2 (f3.2.symm.trans g3.2))]
theorem LFc_no {T : ST} {b e k : Nat} {ice : Bool} {x : Int32} (h : LFc T b e k ice x) : ¬ isW T b e k 14 ∧ ¬ isS T b k 40 := by
  rcases h with ⟨q, rfl⟩ | ⟨f, f1, f2, f3, rfl⟩
  · exact ⟨fun r => by have := r.1; omega, fun r => by have := r.1; omega⟩
  · exact ⟨fun r => fc_no f1 f2 (f3.2.symm.trans r.2), fun r => by have := r.1; have := f3.1; omega⟩
/-- codes lie from c on -/
def CDs (W : ST) (c : Nat) (l : List Int32) : Prop := ∀ i x, l[i]? = some x → W (c + i) = x
theorem CDs_app {W : ST} {c : Nat} {a b : List Int32} (h : CDs W c a) (h2 : CDs W (c + a.length) b) : CDs W c (a ++ b) := by
  intro i x hx
  by_cases q : i < a.length
  · rw [List.getElem?_append_left q] at hx
    exact h i x hx
  · rw [List.getElem?_append_right (by omega)] at hx
    have := h2 (i - a.length) x hx
    rw [show c + a.length + (i - a.length) = c + i by omega] at this
    exact this
theorem CDs_one {W : ST} {c : Nat} {x : Int32} (h : W c = x) : CDs W c [x] := by
  intro i y hy
  cases i with
  | zero =>
    rw [Nat.add_zero, h]
    exact Option.some.inj hy
  | succ i => cases hy
theorem CDs_cg {W W2 : ST} {c : Nat} {a : List Int32} (h : CDs W c a) (h2 : ∀ i, i < c + a.length → W2 i = W i) : CDs W2 c a := by
  intro i x hx
  have hi : i < a.length := by
    rcases Nat.lt_or_ge i a.length with q | q
    · exact q
    · rw [List.getElem?_eq_none q] at hx; cases hx
  rw [h2 (c + i) (by omega)]
  exact h i x hx
