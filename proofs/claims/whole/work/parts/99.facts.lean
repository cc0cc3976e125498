/-! ===== a value depends on its facts alone ===== -/
def Dp (ice : Bool) (E : EX) : Prop := ∀ w v : ST, (∀ f, 1 ≤ f → f ≤ fcN ice → w f = v f) → E.2.2 w = E.2.2 v
def D0m (ice : Bool) (d p : Nat) (r : Rs) : Prop := ∀ q E, r = .inl (q, E) → Dp ice E
def DLm (ice : Bool) (l d p : Nat) (r : Rs) : Prop := ∀ q E, r = .inl (q, E) → Dp ice E
def DOm (ice : Bool) (l d : Nat) (u : Bool) (p : Nat) (E0 : EX) (r : Rs) : Prop := Dp ice E0 → ∀ q E, r = .inl (q, E) → Dp ice E
theorem ClR_d (T : ST) (n : Nat) (ice : Bool) : ClR T n ice (D0m ice) (DLm ice) (DOm ice) := by
  refine ⟨?_, ?_, ?_, ?_, ?_, ?_, ?_, ?_, ?_, ?_, ?_, ?_, ?_⟩
  · intro d p b e k hT hns q E hr
    cases hr
  · intro d p b e k hT hns h5 q E hr
    cases hr
  · intro d p b e k E hT hlf hd5 q E2 hr w v hwv
    cases hr
    rcases hlf with ⟨_, rfl⟩ | ⟨f, h1, h2, _, rfl⟩
    · rfl
    · exact hwv f h1 h2
  · intro d p b e k r hT hW hd5 ih q E hr w v hwv
    cases r with
    | inr f => cases hr
    | inl x =>
      cases hr
      show (if x.2.2.2 w = 0 then (1 : Int32) else 0) = (if x.2.2.2 v = 0 then 1 else 0)
      rw [ih x.1 x.2 rfl w v hwv]
  · intro d p b e k f hT hW hd5 ih q E hr
    cases hr
  · intro d p b e k q E b2 e2 k2 hT hW hd5 ih hT2 hS2 q2 E2 hr
    cases hr
    exact ih q E rfl
  · intro d p b e k q E b2 e2 k2 hT hW hd5 ih hT2 hS2 q2 E2 hr
    cases hr
  · exact fun d p r ih => ih
  · intro l d p f hl ih q E hr
    cases hr
  · intro l d p q E r hl ih1 ih2
    exact ih2 (ih1 q E rfl)
  · intro l d u p E b e k hl hT hst hD q E2 hr
    cases hr
    exact hD
  · intro l d u p E b e k op f hl hT hop hu ih hD q E2 hr
    cases hr
  · intro l d u p E b e k op q E2 r hl hT hop hu ih1 ih2 hD
    refine ih2 (fun w v hwv => ?_)
    show opV op (E.2.2 w) (E2.2.2 w) = opV op (E.2.2 v) (E2.2.2 v)
    rw [hD w v hwv, ih1 q E2 rfl w v hwv]
/-- a read formula's value, weather: by three facts; ice: by six -/
def gW (E : EX) : GWt := fun x y z => E.2.2 (fun f => if f = 1 then x else if f = 2 then y else z)
def gI (E : EX) : GIt := fun a b c d e g => E.2.2 (fun f => if f = 1 then a else if f = 2 then b else if f = 3 then c else if f = 4 then d else if f = 5 then e else g)
theorem gW_e {E : EX} (h : Dp false E) (v : ST) : E.2.2 v = gW E (v 1) (v 2) (v 3) := by
  refine h _ _ (fun f h1 h2 => ?_)
  have h3 : f ≤ 3 := h2
  have h4 : f = 1 ∨ f = 2 ∨ f = 3 := by omega
  rcases h4 with rfl | rfl | rfl <;> rfl
theorem gI_e {E : EX} (h : Dp true E) (v : ST) : E.2.2 v = gI E (v 1) (v 2) (v 3) (v 4) (v 5) (v 6) := by
  refine h _ _ (fun f h1 h2 => ?_)
  have h3 : f ≤ 6 := h2
  have h4 : f = 1 ∨ f = 2 ∨ f = 3 ∨ f = 4 ∨ f = 5 ∨ f = 6 := by omega
  rcases h4 with rfl | rfl | rfl | rfl | rfl | rfl <;> rfl
theorem FW_W {T : ST} {n p q : Nat} {E : EX} (h : RLv T n false 0 0 p (.inl (q, E))) {cs : ST} {f : Nat} (hc : CDs cs f E.1) : FW cs f E.1.length (fun v => gW E (v 1) (v 2) (v 3)) := by
  have e : (fun v : ST => gW E (v 1) (v 2) (v 3)) = E.2.2 := funext (fun v => (gW_e (h _ _ _ (ClR_d T n false) q E rfl) v).symm)
  rw [e]
  exact FW_of h hc
theorem FW_I {T : ST} {n p q : Nat} {E : EX} (h : RLv T n true 0 0 p (.inl (q, E))) {cs : ST} {f : Nat} (hc : CDs cs f E.1) : FW cs f E.1.length (fun v => gI E (v 1) (v 2) (v 3) (v 4) (v 5) (v 6)) := by
  have e : (fun v : ST => gI E (v 1) (v 2) (v 3) (v 4) (v 5) (v 6)) = E.2.2 := funext (fun v => (gI_e (h _ _ _ (ClR_d T n true) q E rfl) v).symm)
  rw [e]
  exact FW_of h hc
theorem vb_W {T : ST} {n p q : Nat} {E : EX} (h : RLv T n false 0 0 p (.inl (q, E))) {st : ST} (hc : CDs st 0 E.2.1) (F K : ST) : (vbL F st (K, 0) E.2.1.length).1 0 = gW E (F 0) (F 1) (F 2) := (vb_of h hc F K).trans (gW_e (h _ _ _ (ClR_d T n false) q E rfl) _)
theorem vb_I {T : ST} {n p q : Nat} {E : EX} (h : RLv T n true 0 0 p (.inl (q, E))) {st : ST} (hc : CDs st 0 E.2.1) (F K : ST) : (vbL F st (K, 0) E.2.1.length).1 0 = gI E (F 3) (F 4) (F 5) (F 6) (F 7) (F 8) := (vb_of h hc F K).trans (gI_e (h _ _ _ (ClR_d T n true) q E rfl) _)
