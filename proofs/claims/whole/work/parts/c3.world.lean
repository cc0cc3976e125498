/-! ===== both sides: the world by what was told ===== -/
section T3
variable {τ τ2 : Hp} {V V2 : VT} {U : UT} {ρ : Nat → Nat} {T : ST} {n m xo a b : Nat} {s : TD}
/-- the reference's view of a heap -/
def vV (τ : Hp) (m : Nat) : VT := fun o i => if o < 42 then zI τ (m + o) i else 0
def vU (τ : Hp) (m : Nat) : UT := fun o i => if o < 42 then zJ τ (m + o) i else 0
theorem sv_id (τ : Hp) (m : Nat) : sv τ m (vV τ m) (vU τ m) = τ := by
  have e1 : (fun a i => if m ≤ a ∧ a < m + 42 then vV τ m (a - m) i else zI τ a i) = zI τ := by
    funext a i
    split
    · rename_i h
      show (if a - m < 42 then zI τ (m + (a - m)) i else 0) = zI τ a i
      rw [if_pos (by omega), show m + (a - m) = a by omega]
    · rfl
  have e2 : (fun a i => if m ≤ a ∧ a < m + 42 then vU τ m (a - m) i else zJ τ a i) = zJ τ := by
    funext a i
    split
    · rename_i h
      show (if a - m < 42 then zJ τ (m + (a - m)) i else 0) = zJ τ a i
      rw [if_pos (by omega), show m + (a - m) = a by omega]
    · rfl
  show (zK τ, zN τ, (fun a i => if m ≤ a ∧ a < m + 42 then vV τ m (a - m) i else zI τ a i), (fun a i => if m ≤ a ∧ a < m + 42 then vU τ m (a - m) i else zJ τ a i), zQ τ, zX τ, zS τ) = τ
  rw [e1, e2]
  rfl
theorem vV_sv (h : ∀ o, 42 ≤ o → V o = fun _ => 0) : vV (sv τ m V U) m = V := by
  funext o i
  show (if o < 42 then (if m ≤ m + o ∧ m + o < m + 42 then V (m + o - m) i else zI τ (m + o) i) else 0) = V o i
  by_cases q : o < 42
  · rw [if_pos q, if_pos ⟨by omega, by omega⟩, show m + o - m = o by omega]
  · rw [if_neg q, h o (by omega)]
theorem vV_cg (h : ∀ o, o < 42 → zI τ2 (m + o) = zI τ (m + o)) : vV τ2 m = vV τ m := by
  funext o i
  show (if o < 42 then zI τ2 (m + o) i else 0) = (if o < 42 then zI τ (m + o) i else 0)
  by_cases q : o < 42
  · rw [if_pos q, if_pos q, h o q]
  · rw [if_neg q, if_neg q]
theorem vV_hi (τ : Hp) (m : Nat) {o : Nat} (h : 42 ≤ o) : vV τ m o = fun _ => 0 := by
  funext i
  exact if_neg (by omega)
theorem sv_out (τ : Hp) (m : Nat) (V : VT) (U : UT) {a : Nat} (h : a < m ∨ m + 42 ≤ a) : zI (sv τ m V U) a = zI τ a ∧ zJ (sv τ m V U) a = zJ τ a := by
  constructor
  · funext i; exact if_neg (by omega)
  · funext i; exact if_neg (by omega)
/-- a block of the heap -/
def RGn (ρ : Nat → Nat) (a l : Nat) : Prop := ∀ i, i < l → ρ (a + i) = a
theorem RGn.ap {la lb : Nat} (h1 : RGn ρ a la) (h2 : RGn ρ b lb) (hne : a ≠ b) (ha : 0 < la) (hb : 0 < lb) : a + la ≤ b ∨ b + lb ≤ a := by
  rcases Nat.lt_or_ge b (a + la) with q1 | q1
  · rcases Nat.lt_or_ge a (b + lb) with q2 | q2
    · exfalso
      rcases Nat.le_total a b with q | q
      · have e1 := h1 (b - a) (by omega)
        have e2 := h2 0 hb
        rw [show a + (b - a) = b by omega] at e1
        exact hne (e1.symm.trans e2)
      · have e1 := h2 (a - b) (by omega)
        have e2 := h1 0 ha
        rw [show b + (a - b) = a by omega] at e1
        exact hne (e2.symm.trans e1)
    · exact Or.inr q2
  · exact Or.inl q1
def ixF (ice : Bool) : Nat := if ice then 1 else 0
/-- the reference's row y is what was told -/
def RowP (V : VT) (y : Nat) (s : TD) : Prop := (V 2 y = nI (tdC s 0) ∧ V 3 y = nI (tdC s 1) ∧ V 4 y = nI (tdC s 2) ∧ V 5 y = nI (tdC s 3) ∧ V 6 y = tdR s 6 0) ∧ (∀ j, j < tdC s 1 → V 10 (10 * y + j) = tdR s 10 j ∧ V 11 (10 * y + j) = tdR s 11 j) ∧ (∀ j, j < tdC s 2 → V 15 (6 * y + j) = tdR s 15 j) ∧ (∀ g, g < tdC s 3 → V 16 (2 * y + g) = tdR s 16 g ∧ ∀ i, i < (tdR s 16 g).toNatClampNeg → V 17 (16 * y + (8 * g + i)) = tdR s 17 (8 * g + i)) ∧ ∀ ice, (tdF s ice = none → V 19 (2 * y + ixF ice) = V 18 (2 * y + ixF ice)) ∧ ∀ E, tdF s ice = some E → ∃ f, f + E.1.length ≤ 1000 ∧ V 18 (2 * y + ixF ice) = nI (1000 * y + f) ∧ V 19 (2 * y + ixF ice) = nI (1000 * y + f + E.1.length) ∧ CDs (V 20) (1000 * y + f) E.1
theorem RowP.cg {y : Nat} (h : RowP V y s) (e : ∀ o, 2 ≤ o → o ≤ 20 → V2 o = V o) : RowP V2 y s := by
  unfold RowP
  rw [e 2 (by decide) (by decide), e 3 (by decide) (by decide), e 4 (by decide) (by decide), e 5 (by decide) (by decide), e 6 (by decide) (by decide), e 10 (by decide) (by decide), e 11 (by decide) (by decide), e 15 (by decide) (by decide), e 16 (by decide) (by decide), e 17 (by decide) (by decide), e 18 (by decide) (by decide), e 19 (by decide) (by decide), e 20 (by decide) (by decide)]
  exact h
/-- the class's law is what was told -/
def LRs (τ : Hp) (b : Nat) (s : TD) : Prop := (zI τ b 0 = nI (tdC s 0) ∧ zI τ b 1 = nI (tdC s 1) ∧ zI τ b 2 = nI (tdC s 2) ∧ zI τ b 3 = nI (tdC s 3) ∧ zI τ b 4 = tdR s 6 0) ∧ (∀ j, j < tdC s 1 → zI τ (b + 3) j = tdR s 10 j ∧ zI τ (b + 4) j = tdR s 11 j) ∧ (∀ j, j < tdC s 2 → zI τ (b + 8) j = tdR s 15 j) ∧ (∀ g, g < tdC s 3 → zI τ (b + 10) g = tdR s 16 g ∧ ∀ i, i < (tdR s 16 g).toNatClampNeg → zI τ (b + 9) (8 * g + i) = tdR s 17 (8 * g + i)) ∧ ∀ c, c < tdC s 0 → zI τ (b + 2) c = enc (rdN (tdV s) w1 (tdC s 1) (fun _ => none) (tdC s 0) c)
/-- the ways out, as the reference keeps them -/
def Far36 (V : VT) (s : TD) : Prop := ∃ F : ST, ∀ c, c < tdC s 0 → V 36 c = wyN (tdV s) (tdC s 1) F 8 c
theorem tdV_ne (hV : TV T n s) : ∀ j, j < tdC s 1 → ¬ tdV s 10 j = tdV s 11 j := fun j hj => (hV.2.2.2.1 j hj).2.2.2.1
theorem RowP.pl (h : RowP V 0 s) (hV : TV T n s) : PL V (tdC s 0) (tdC s 1) (tdC s 2) (tdC s 3) := by
  obtain ⟨⟨a0, a1, a2, a3, a4⟩, hm, h9, h10, h13, h16, hF⟩ := hV
  obtain ⟨⟨b0, b1, b2, b3, b4⟩, k10, k15, k16, kf⟩ := h
  refine ⟨⟨b0, a0⟩, ⟨b1, a1⟩, ⟨b2, a2⟩, ⟨b3, a3⟩, fun g hg => ?_, fun j hj => ?_, fun j hj => ?_⟩
  · obtain ⟨l, q1, q2, q3, _⟩ := h16 g hg
    have h1 := (k16 g hg).1
    rw [Nat.mul_zero, Nat.zero_add] at h1
    exact ⟨l, h1.trans q1, q2, q3⟩
  · have h1 := (k10 j hj).1
    rw [Nat.mul_zero, Nat.zero_add] at h1
    rw [h1]; exact (h10 j hj).2.1
  · have h1 := (k10 j hj).2
    rw [Nat.mul_zero, Nat.zero_add] at h1
    rw [h1]; exact (h10 j hj).2.2.1
theorem RowP.px (h : RowP V 0 s) (hV : TV T n s) (h36 : Far36 V s) : PX V (tdC s 0) (tdC s 1) (tdC s 2) (tdC s 3) := by
  have hPL := h.pl hV
  have hne := tdV_ne hV
  have hP := hV.pl
  obtain ⟨F, h36⟩ := h36
  obtain ⟨⟨a0, a1, a2, a3, a4⟩, hm, h9, h10, h13, h16, hF⟩ := hV
  obtain ⟨⟨b0, b1, b2, b3, b4⟩, k10, k15, k16, kf⟩ := h
  simp only [Nat.mul_zero, Nat.zero_add] at k10 k16
  refine ⟨hPL, fun g hg i hi => ?_, fun j hj => ?_, fun c hc => ?_, fun j hj hb => ?_, ?_⟩
  · obtain ⟨l, q1, q2, q3, q4⟩ := h16 g hg
    have h1 := k16 g hg
    rw [h1.1] at hi
    rw [h1.2 i hi]
    rw [q1, nI_clamp (by omega)] at hi
    obtain ⟨_, x, x1, x2⟩ := q4 i hi
    rw [x2]
    exact (nI_leI (a := 0) (b := x) (by omega) (by omega)).mpr (Nat.zero_le _)
  · rw [(k10 j hj).1, (k10 j hj).2]; exact (h10 j hj).2.2.2.1
  · rw [h36 c hc]
    rcases far_e hP hne F hc with ⟨_, q⟩ | ⟨x, q1, q2, _, q3⟩
    · exact ⟨0, by decide, q⟩
    · exact ⟨x, q2, q3⟩
  · rw [(k10 j hj).2] at hb
    rw [(k10 j hj).1]
    have h1 := far_1 hP hne F hj hb
    obtain ⟨x, x1, x2⟩ := (h10 j hj).2.1
    have hcl : (tdR s 10 j).toNatClampNeg < tdC s 0 := by rw [x2, nI_clamp (by omega)]; exact x1
    rw [h36 _ hcl]
    exact h1
  · obtain ⟨md, q1, q2⟩ := hm.1
    exact ⟨md, q1, b4.trans q2⟩
theorem LRs.lr (h : LRs τ b s) (hR : RowP V 0 s) (hV : TV T n s) (h36 : Far36 V s) : LR (zI τ) b V (tdC s 0) (tdC s 1) (tdC s 2) (tdC s 3) := by
  have hne := tdV_ne hV
  have hP := hV.pl
  obtain ⟨F, h36⟩ := h36
  obtain ⟨⟨b0, b1, b2, b3, b4⟩, k10, k15, k16, kf⟩ := hR
  obtain ⟨⟨c0, c1, c2, c3, c4⟩, d10, d15, d16, df⟩ := h
  simp only [Nat.mul_zero, Nat.zero_add] at k10 k15 k16
  refine ⟨⟨c0.trans b0.symm, c1.trans b1.symm, c2.trans b2.symm, c3.trans b3.symm, c4.trans b4.symm⟩, fun j hj => ⟨(d10 j hj).1.trans (k10 j hj).1.symm, (d10 j hj).2.trans (k10 j hj).2.symm⟩, fun j hj => (d15 j hj).trans (k15 j hj).symm, fun g hg => ⟨(d16 g hg).1.trans (k16 g hg).1.symm, fun i hi => ?_⟩, fun c hc => ?_⟩
  · rw [(k16 g hg).1] at hi
    exact ((d16 g hg).2 i hi).trans ((k16 g hg).2 i hi).symm
  · have h1 := df c hc
    rw [h1, h36 c hc]
    rcases far_e hP hne F hc with ⟨q1, q⟩ | ⟨x, q1, q2, q4, q3⟩
    · rw [q, q1]; rfl
    · rw [q3, q4, if_neg (fun z => by have h9 := (nI_eq (a := x) (b := 0) (by omega) (by omega)).mp z; omega)]; rfl
theorem RowP.lnw (h : RowP V 0 s) (hV : TV T n s) : LnW V (gwO s) := by
  have hl := h.2.2.2.2 false
  unfold gwO
  cases hE : tdF s false with
  | none => exact hl.1 hE
  | some E =>
    obtain ⟨f, x1, x2, x3, x4⟩ := hl.2 E hE
    obtain ⟨p, q, hR⟩ := hV.2.2.2.2.2.2 false E hE
    simp only [Nat.mul_zero, Nat.zero_add] at x2 x3 x4
    exact ⟨f, E.1.length, x2, x3, (hR _ _ _ (ClR_l T n false) q E rfl).2, by omega, FW_W hR x4⟩
theorem RowP.lni (h : RowP V 0 s) (hV : TV T n s) : LnI V (giO s) := by
  have hl := h.2.2.2.2 true
  unfold giO
  cases hE : tdF s true with
  | none => exact hl.1 hE
  | some E =>
    obtain ⟨f, x1, x2, x3, x4⟩ := hl.2 E hE
    obtain ⟨p, q, hR⟩ := hV.2.2.2.2.2.2 true E hE
    simp only [Nat.mul_zero, Nat.zero_add] at x2 x3 x4
    exact ⟨f, E.1.length, x2, x3, (hR _ _ _ (ClR_l T n true) q E rfl).2, by omega, FW_I hR x4⟩
/-- a law that stands in the heap -/
def LX (τ : Hp) (ρ : Nat → Nat) (xo b : Nat) (s : TD) : Prop := (LwS τ b ∧ RGn ρ b 11 ∧ (b = xo + 3 ∨ xo + 95 ≤ b) ∧ b + 11 ≤ zX τ) ∧ LRs τ b s ∧ FmW τ (zI τ) b (gwO s) ∧ FmI τ (zI τ) b (giO s) ∧ ∀ f, isF τ b f → RGn ρ f 3 ∧ zK τ f = 1 ∧ xo + 95 ≤ f ∧ f + 3 ≤ zX τ
/-- a night that stands in the heap -/
def NX (τ : Hp) (ρ : Nat → Nat) (a b : Nat) : Prop := NtS τ a ∧ zQ τ a 0 = some b ∧ RGn ρ a 16
theorem LX.apl (h : LX τ ρ xo b s) : ApL τ b := by
  intro f hf
  have h1 := h.2.2.2.2 f hf
  have hk : zK τ b = 2 := h.1.1.1
  refine ⟨h1.1.ap h.1.2.1 (fun q => by rw [q] at h1; rw [h1.2.1] at hk; cases hk) (by decide) (by decide), fun f2 hf2 => ?_⟩
  by_cases q : f2 = f
  · exact Or.inl q
  · exact Or.inr ((h.2.2.2.2 f2 hf2).1.ap h1.1 q (by decide) (by decide))
theorem NX.apn (hN : NX τ ρ a b) (h : LX τ ρ xo b s) : ApN τ a b := by
  have hk : zK τ b = 2 := h.1.1.1
  have ha : zK τ a = 4 := hN.1.k0
  refine ⟨hN.2.2.ap h.1.2.1 (fun q => by rw [q, hk] at ha; cases ha) (by decide) (by decide), fun f hf => ?_⟩
  have h1 := h.2.2.2.2 f hf
  exact h1.1.ap hN.2.2 (fun q => by rw [← q, h1.2.1] at ha; cases ha) (by decide) (by decide)
theorem NX.nw (hN : NX τ ρ a b) (h : LX τ ρ xo b s) (hR : RowP V 0 s) (hV : TV T n s) (h36 : Far36 V s) : NW τ (zI τ) a b V (tdC s 0) (tdC s 1) (tdC s 2) (tdC s 3) (gwO s) (giO s) := ⟨hN.1, hN.2.1, hN.apn h, h.1.1, h.2.1.lr hR hV h36, h.2.2.1, h.2.2.2.1, h.apl, hR.px hV h36⟩
theorem NX.cw (hX : XS τ xo) (hN : NX τ ρ (xo + 14) b) (h : LX τ ρ xo b s) (hR : RowP V 0 s) (hV : TV T n s) (h36 : Far36 V s) : CW τ (zI τ) xo b V (tdC s 0) (tdC s 1) (tdC s 2) (tdC s 3) (gwO s) (giO s) := ⟨hX, hN.nw h hR hV h36, ⟨by have := h.1.2.2.1; omega, fun f hf => by have := (h.2.2.2.2 f hf).2.2.1; omega⟩⟩
/-- what may change while a law stands: nights and formulas' stacks -/
def FrX (τ : Hp) (ρ ρ2 : Nat → Nat) (xo : Nat) (τ2 : Hp) : Prop := zX τ ≤ zX τ2 ∧ ∀ p, (p < xo + 14 ∨ xo + 95 ≤ p) → p < zX τ → ρ2 p = ρ p ∧ zK τ2 p = zK τ p ∧ zN τ2 p = zN τ p ∧ (zQ τ2 p = zQ τ p ∨ zK τ p = 4) ∧ (zI τ2 p = zI τ p ∨ p < xo + 3 ∨ (zK τ (ρ p) = 1 ∧ p = ρ p + 1) ∨ zK τ (ρ p) = 4)
theorem LX.fr {ρ2 : Nat → Nat} (h : LX τ ρ xo b s) (e : FrX τ ρ ρ2 xo τ2) : LX τ2 ρ2 xo b s := by
  obtain ⟨⟨h1, h2, h3, h4⟩, hL, hW, hI, hf⟩ := h
  have hk : zK τ b = 2 := h1.1
  have ib : ∀ j, j < 11 → zI τ2 (b + j) = zI τ (b + j) := fun j hj => by
    obtain ⟨_, _, _, _, q⟩ := e.2 (b + j) (by omega) (by omega)
    rw [h2 j hj, hk] at q
    rcases q with q | q | q | q
    · exact q
    · omega
    · cases q.1
    · cases q
  have kb : ∀ j, j < 11 → ρ2 (b + j) = ρ (b + j) ∧ zK τ2 (b + j) = zK τ (b + j) ∧ zN τ2 (b + j) = zN τ (b + j) := fun j hj => by
    obtain ⟨q1, q2, q3, _, _⟩ := e.2 (b + j) (by omega) (by omega)
    exact ⟨q1, q2, q3⟩
  have qb : zQ τ2 b = zQ τ b := by
    obtain ⟨_, _, _, q, _⟩ := e.2 b (by omega) (by omega)
    rcases q with q | q
    · exact q
    · rw [hk] at q; cases q
  have hi : ∀ f, isF τ2 b f ↔ isF τ b f := fun f => by unfold isF; rw [qb]
  have f1 : ∀ f, isF τ b f → ∀ j, j < 3 → (ρ2 (f + j) = f ∧ zK τ2 (f + j) = zK τ (f + j) ∧ zN τ2 (f + j) = zN τ (f + j)) ∧ (j ≠ 1 → zI τ2 (f + j) = zI τ (f + j)) := fun f hf2 j hj => by
    obtain ⟨g1, g2, g3, g4⟩ := hf f hf2
    obtain ⟨q1, q2, q3, q4, q5⟩ := e.2 (f + j) (by omega) (by omega)
    refine ⟨⟨q1.trans (g1 j hj), q2, q3⟩, fun hne => ?_⟩
    rw [g1 j hj, g2] at q5
    rcases q5 with q | q | q | q
    · exact q
    · omega
    · omega
    · cases q
  have f2 : ∀ f k, isF τ b f → FmS τ f k → FmS τ2 f k := fun f k hf2 hs => by
    obtain ⟨y1, y2, y3, y4, y5, y6, y7, y8⟩ := hs
    obtain ⟨g1, g2, g3, g4⟩ := hf f hf2
    have qf : zQ τ2 f = zQ τ f := by
      obtain ⟨_, _, _, q, _⟩ := e.2 f (by omega) (by omega)
      rcases q with q | q
      · exact q
      · rw [y1] at q; cases q
    have e0 := f1 f hf2 0 (by decide)
    have e1 := f1 f hf2 1 (by decide)
    have e2 := f1 f hf2 2 (by decide)
    exact ⟨e0.1.2.1.trans y1, by rw [qf]; exact y2, by rw [qf]; exact y3, e1.1.2.1.trans y4, e1.1.2.2.trans y5, e2.1.2.1.trans y6, e2.1.2.2.trans y7, y8⟩
  refine ⟨⟨⟨(kb 0 (by decide)).2.1.trans hk, fun q q1 q2 => ?_⟩, fun j hj => (kb j hj).1.trans (h2 j hj), h3, by have := e.1; omega⟩, ?_, ?_, ?_, fun f hf2 => ?_⟩
  · rw [qb, (kb q (by omega)).2.1, (kb q (by omega)).2.2]; exact h1.2 q q1 q2
  · unfold LRs
    have ib0 : zI τ2 b = zI τ b := ib 0 (by decide)
    rw [ib0, ib 2 (by decide), ib 3 (by decide), ib 4 (by decide), ib 8 (by decide), ib 9 (by decide), ib 10 (by decide)]
    exact hL
  · unfold FmW at hW ⊢
    cases hg : gwO s with
    | none => rw [hg] at hW; exact (congrFun qb 5).trans hW
    | some g =>
      rw [hg] at hW
      obtain ⟨f, k, x1, x2, x3⟩ := hW
      refine ⟨f, k, (congrFun qb 5).trans x1, f2 f k (Or.inl x1) x2, ?_⟩
      rw [(f1 f (Or.inl x1) 2 (by decide)).2 (by decide)]
      exact x3
  · unfold FmI at hI ⊢
    cases hg : giO s with
    | none => rw [hg] at hI; exact (congrFun qb 6).trans hI
    | some g =>
      rw [hg] at hI
      obtain ⟨f, k, x1, x2, x3⟩ := hI
      refine ⟨f, k, (congrFun qb 6).trans x1, f2 f k (Or.inr x1) x2, ?_⟩
      rw [(f1 f (Or.inr x1) 2 (by decide)).2 (by decide)]
      exact x3
  · have hf3 := (hi f).mp hf2
    obtain ⟨g1, g2, g3, g4⟩ := hf f hf3
    exact ⟨fun j hj => (f1 f hf3 j hj).1.1, (f1 f hf3 0 (by decide)).1.2.1.trans g2, g3, by have := e.1; omega⟩
end T3
