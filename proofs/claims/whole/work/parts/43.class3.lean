/-! ===== the class: a night in its law; degrees, frost ===== -/
def LR (Z : VT) (b : Nat) (V : VT) (cN dN mN gk : Nat) : Prop := (Z b 0 = V 2 0 ∧ Z b 1 = V 3 0 ∧ Z b 2 = V 4 0 ∧ Z b 3 = V 5 0 ∧ Z b 4 = V 6 0) ∧ (∀ j, j < dN → Z (b + 3) j = V 10 j ∧ Z (b + 4) j = V 11 j) ∧ (∀ x, x < mN → Z (b + 8) x = V 15 x) ∧ (∀ g, g < gk → Z (b + 10) g = V 16 g ∧ ∀ i, i < (V 16 g).toNatClampNeg → Z (b + 9) (8 * g + i) = V 17 (8 * g + i)) ∧ ∀ c, c < cN → Z (b + 2) c = (if V 36 c = 0 then -1 else V 36 c)
def PX (V : VT) (cN dN mN gk : Nat) : Prop := PL V cN dN mN gk ∧ (∀ g, g < gk → ∀ i, i < (V 16 g).toNatClampNeg → 0 ≤ V 17 (8 * g + i)) ∧ (∀ j, j < dN → ¬ V 10 j = V 11 j) ∧ (∀ c, c < cN → ∃ k, k ≤ 8 ∧ V 36 c = nI k) ∧ (∀ j, j < dN → V 11 j = -1 → V 36 (V 10 j).toNatClampNeg = 1) ∧ ∃ md, md ≤ 20 ∧ V 6 0 = nI md
def FmW (σ : Hp) (Z : VT) (b : Nat) (gw : Option GWt) : Prop := match gw with
  | none => zQ σ b 5 = none
  | some g => ∃ f n, zQ σ b 5 = some f ∧ FmS σ f n ∧ ∀ F K : ST, (vbL F (Z (f + 2)) (K, 0) n).1 0 = g (F 0) (F 1) (F 2)
def FmI (σ : Hp) (Z : VT) (b : Nat) (gi : Option GIt) : Prop := match gi with
  | none => zQ σ b 6 = none
  | some g => ∃ f n, zQ σ b 6 = some f ∧ FmS σ f n ∧ ∀ F K : ST, (vbL F (Z (f + 2)) (K, 0) n).1 0 = g (F 3) (F 4) (F 5) (F 6) (F 7) (F 8)
def isF (σ : Hp) (b f : Nat) : Prop := zQ σ b 5 = some f ∨ zQ σ b 6 = some f
def ApL (σ : Hp) (b : Nat) : Prop := ∀ f, isF σ b f → (f + 3 ≤ b ∨ b + 11 ≤ f) ∧ ∀ f2, isF σ b f2 → f2 = f ∨ f2 + 3 ≤ f ∨ f + 3 ≤ f2
def ApN (σ : Hp) (a b : Nat) : Prop := (a + 16 ≤ b ∨ b + 11 ≤ a) ∧ ∀ f, isF σ b f → f + 3 ≤ a ∨ a + 16 ≤ f
/-- a law that stands, with its formulas -/
def LW (σ : Hp) (Z : VT) (b : Nat) (V : VT) (cN dN mN gk : Nat) (gw : Option GWt) (gi : Option GIt) : Prop := LwS σ b ∧ LR Z b V cN dN mN gk ∧ FmW σ Z b gw ∧ FmI σ Z b gi ∧ ApL σ b ∧ PX V cN dN mN gk
/-- a night in it -/
def NW (σ : Hp) (Z : VT) (a b : Nat) (V : VT) (cN dN mN gk : Nat) (gw : Option GWt) (gi : Option GIt) : Prop := NtS σ a ∧ zQ σ a 0 = some b ∧ ApN σ a b ∧ LW σ Z b V cN dN mN gk gw gi
def Scr (σ : Hp) (a b q : Nat) : Prop := q = a + 5 ∨ ∃ f, isF σ b f ∧ q = f + 1
def NP (σ : Hp) (a b q : Nat) : Prop := (a ≤ q ∧ q < a + 16) ∨ ∃ f, isF σ b f ∧ q = f + 1
section C3p
variable {σ : Hp} {Z Z2 : VT} {a b : Nat} {V : VT} {cN dN mN gk : Nat} {gw : Option GWt} {gi : Option GIt}
theorem Scr.np {q : Nat} (h : Scr σ a b q) : NP σ a b q := h.elim (fun e => Or.inl ⟨by omega, by omega⟩) Or.inr
/-- what a law needs: nothing of it is written -/
theorem LW.keep (h : LW σ Z b V cN dN mN gk gw gi) (hk : ∀ q, b ≤ q → q < b + 11 → Z2 q = Z q) (hf : ∀ f, isF σ b f → Z2 (f + 2) = Z (f + 2)) : LW σ Z2 b V cN dN mN gk gw gi := by
  obtain ⟨h1, ⟨r1, r2, r3, r4, r5⟩, h3, h4, h5, h6⟩ := h
  refine ⟨h1, ⟨?_, ?_, ?_, ?_, ?_⟩, ?_, ?_, h5, h6⟩
  · rw [hk b (by omega) (by omega)]; exact r1
  · rw [hk (b + 3) (by omega) (by omega), hk (b + 4) (by omega) (by omega)]; exact r2
  · rw [hk (b + 8) (by omega) (by omega)]; exact r3
  · rw [hk (b + 9) (by omega) (by omega), hk (b + 10) (by omega) (by omega)]; exact r4
  · rw [hk (b + 2) (by omega) (by omega)]; exact r5
  · cases gw with
    | none => exact h3
    | some g =>
      obtain ⟨f, n, q1, q2, q3⟩ := h3
      exact ⟨f, n, q1, q2, by rw [hf f (Or.inl q1)]; exact q3⟩
  · cases gi with
    | none => exact h4
    | some g =>
      obtain ⟨f, n, q1, q2, q3⟩ := h4
      exact ⟨f, n, q1, q2, by rw [hf f (Or.inr q1)]; exact q3⟩
theorem NW.keep (h : NW σ Z a b V cN dN mN gk gw gi) (hk : Fr (NP σ a b) Z Z2) : NW σ Z2 a b V cN dN mN gk gw gi := by
  obtain ⟨h1, h2, h3, h4⟩ := h
  have hA := h4.2.2.2.2.1
  refine ⟨h1, h2, h3, h4.keep (fun q q1 q2 => hk q ?_) (fun f hf => hk _ ?_)⟩
  · rintro (⟨c1, c2⟩ | ⟨f, c1, c2⟩)
    · rcases h3.1 with c | c <;> omega
    · rcases (hA f c1).1 with c | c <;> omega
  · rintro (⟨c1, c2⟩ | ⟨f2, c1, c2⟩)
    · rcases h3.2 f hf with c | c <;> omega
    · rcases (hA f hf).2 f2 c1 with c | c | c <;> omega
theorem NW.nt (h : NW σ Z a b V cN dN mN gk gw gi) : NtS σ a := h.1
theorem NW.lq (h : NW σ Z a b V cN dN mN gk gw gi) : zQ σ a 0 = some b := h.2.1
theorem NW.ap (h : NW σ Z a b V cN dN mN gk gw gi) : ApN σ a b := h.2.2.1
theorem NW.lw (h : NW σ Z a b V cN dN mN gk gw gi) : LW σ Z b V cN dN mN gk gw gi := h.2.2.2
theorem NW.lb (h : NW σ Z a b V cN dN mN gk gw gi) : LwS σ b := h.2.2.2.1
theorem NW.lr (h : NW σ Z a b V cN dN mN gk gw gi) : LR Z b V cN dN mN gk := h.2.2.2.2.1
theorem NW.px (h : NW σ Z a b V cN dN mN gk gw gi) : PX V cN dN mN gk := h.2.2.2.2.2.2.2.2
theorem NW.pl (h : NW σ Z a b V cN dN mN gk gw gi) : PL V cN dN mN gk := h.px.1
theorem NW.nd (h : NW σ Z a b V cN dN mN gk gw gi) : Z b 1 = nI dN := h.lr.1.2.1.trans h.pl.2.1.1
theorem NW.nm (h : NW σ Z a b V cN dN mN gk gw gi) : Z b 2 = nI mN := h.lr.1.2.2.1.trans h.pl.2.2.1.1
theorem NW.ng (h : NW σ Z a b V cN dN mN gk gw gi) : Z b 3 = nI gk := h.lr.1.2.2.2.1.trans h.pl.2.2.2.1.1
theorem NW.nc (h : NW σ Z a b V cN dN mN gk gw gi) : Z b 0 = nI cN := h.lr.1.1.trans h.pl.1.1
theorem NW.d10 (h : NW σ Z a b V cN dN mN gk gw gi) : dN ≤ 10 := h.pl.2.1.2
theorem NW.m6 (h : NW σ Z a b V cN dN mN gk gw gi) : mN ≤ 6 := h.pl.2.2.1.2
theorem NW.g2 (h : NW σ Z a b V cN dN mN gk gw gi) : gk ≤ 2 := h.pl.2.2.2.1.2
theorem NW.c8 (h : NW σ Z a b V cN dN mN gk gw gi) : cN ≤ 8 := h.pl.1.2
theorem NW.rr (h : NW σ Z a b V cN dN mN gk gw gi) : ∀ g, g < gk → ∃ r, Z (b + 10) g = nI r ∧ 0 < r ∧ r ≤ 8 := fun g hg => by
  rw [(h.lr.2.2.2.1 g hg).1]
  exact h.pl.2.2.2.2.1 g hg
theorem NW.dc (h : NW σ Z a b V cN dN mN gk gw gi) {j : Nat} (hj : j < dN) : ∃ p, p < cN ∧ V 10 j = nI p ∧ Z (b + 3) j = nI p := by
  obtain ⟨p, h1, h2⟩ := h.pl.2.2.2.2.2.1 j hj
  exact ⟨p, h1, h2, (h.lr.2.1 j hj).1.trans h2⟩
theorem NW.dt (h : NW σ Z a b V cN dN mN gk gw gi) {j : Nat} (hj : j < dN) : Z (b + 4) j = -1 ∨ ∃ e, e < 8 ∧ Z (b + 4) j = nI e := by
  rw [(h.lr.2.1 j hj).2]
  rcases h.pl.2.2.2.2.2.2 j hj with c | ⟨e, c1, c2⟩
  · exact Or.inl c
  · exact Or.inr ⟨e, Nat.lt_of_lt_of_le c1 h.c8, c2⟩
/-! the guards -/
theorem gPc_e (h : NW σ Z a b V cN dN mN gk gw gi) {g : Nat} (hg : g < gk) (hr : Nat) : gPc Z b g hr = gPos V g hr ∧ 0 ≤ gPos V g hr := by
  obtain ⟨r, h1, h2, h3⟩ := h.pl.2.2.2.2.1 g hg
  have h4 := h.lr.2.2.2.1 g hg
  have h5 : (V 16 g).toNatClampNeg = r := by rw [h1, nI_clamp (by omega)]
  have h6 := Nat.mod_lt hr h2
  unfold gPc gPos
  rw [h4.1, h5]
  rw [h5] at h4
  refine ⟨h4.2 _ h6, h.px.2.1 g hg _ (by rw [h5]; exact h6)⟩
theorem gNc_e (h : NW σ Z a b V cN dN mN gk gw gi) (c : Int32) (hr : Nat) : ∀ k, k ≤ gk → gNc Z b c hr k = gN V c hr k := by
  intro k
  induction k with
  | zero => intro _; rfl
  | succ k ih =>
    intro hk
    have h1 := gPc_e h (g := k) (by omega) hr
    simp only [gNc, gN]
    rw [ih (by omega), h1.1]
    by_cases e : gPos V k hr = c
    · rw [if_pos e, if_pos ⟨by rw [← e]; exact h1.2, e⟩]
    · rw [if_neg e, if_neg (fun q => e q.2)]
end C3p
theorem imax_t (x y : Int32) : (imax x y).toInt = max x.toInt y.toInt := by
  unfold imax
  split <;> (simp only [i_lt] at *; omega)
theorem imin_t (x y : Int32) : (imin x y).toInt = min x.toInt y.toInt := by
  unfold imin
  split <;> (simp only [i_lt] at *; omega)
theorem clp_40 (x : Int32) : imax (-40) (imin 40 x) = clp x 40 := by
  apply Int32.toInt_inj.mp
  rw [imax_t, imin_t]
  have l1 : (-40 : Int32).toInt = -40 := rfl
  have l2 : (40 : Int32).toInt = 40 := rfl
  unfold clp
  (repeat' split) <;> (simp only [i_lt] at *; omega)
theorem clp_20 (x : Int32) : imax (-20) (imin 20 x) = clp x 20 := by
  apply Int32.toInt_inj.mp
  rw [imax_t, imin_t]
  have l1 : (-20 : Int32).toInt = -20 := rfl
  have l2 : (20 : Int32).toInt = 20 := rfl
  unfold clp
  (repeat' split) <;> (simp only [i_lt] at *; omega)
section C3
variable {G : GG} {σ : Hp} {Z : VT} {a b : Nat} {V : VT} {cN dN mN gk : Nat} {gw : Option GWt} {gi : Option GIt}
set_option maxRecDepth 100000 in
theorem sc_degreesBehind (hE : NE G) (hW : NW σ Z a b V cN dN mN gk gw gi) {h : Nat} (hh : Z a 1 = nI h) {x : Nat} (hx : h + x < 2 ^ 31) (md : Int32) : Sp G mX4_degreesBehind 3 [.ref a, .int (nI x), .int md] (cv σ Z) (fun rv σ' => rv = some (.int (dgF gw (h + x) md)) ∧ ∃ Z2 : VT, σ' = cv σ Z2 ∧ Fr (Scr σ a b) Z Z2) := by
  have D := dat dl_X4_degreesBehind
  show HT G mX4_degreesBehind 0 [some (.ref a), some (.int (nI x)), some (.int md)] [] (cv σ Z) 3 _
  cases gw with
  | none =>
    have h5 : zQ σ b 5 = none := hW.lw.2.2.1
    refine ht_aload_n (D 0 rfl) rfl rfl ?_
    refine gf_X4_31 rfl (D 1 rfl) hW.nt.k0 hW.lq ?_
    refine gn_X4_81 rfl (D 2 rfl) hW.lb.k0 h5 ?_
    refine ht_ifnonnullN (D 3 rfl) ?_
    refine ht_bipush (v := -10) (D 4 rfl) (by decide) ?_
    refine ht_iret (D 5 rfl) rfl rfl ?_
    exact ⟨rfl, Z, rfl, Fr.rf _ _⟩
  | some g =>
    obtain ⟨f, n, h5, hF, hg⟩ := hW.lw.2.2.1
    refine ht_aload_n (D 0 rfl) rfl rfl ?_
    refine gf_X4_31 rfl (D 1 rfl) hW.nt.k0 hW.lq ?_
    refine gf_X4_81 rfl (D 2 rfl) hW.lb.k0 h5 ?_
    refine ht_ifnonnull (tgt := 13) (D 3 rfl) (by decide) ?_
    refine ht_aload_n (D 6 rfl) rfl rfl ?_
    refine gf_X4_27 rfl (D 7 rfl) hW.nt.k0 hW.nt.q5 ?_
    refine ht_iconst (v := 0) (D 8 rfl) (by decide) ?_
    refine ht_aload_n (D 9 rfl) rfl rfl ?_
    refine gi_X4_39 rfl (D 10 rfl) hW.nt.k0 ?_
    refine ht_iload_n (D 11 rfl) rfl rfl ?_
    refine ht_iadd (D 12 rfl) ?_
    refine ht_bipush (v := 24) (D 13 rfl) (by decide) ?_
    rw [hh, nI_add]
    refine ht_irem (D 14 rfl) (by decide) ?_
    rw [show (24 : Int32) = nI 24 from rfl, pk_rem (by omega) (by decide) (by decide)]
    refine hi_ist (n := 0) (D 15 rfl) hW.nt.k5 hW.nt.n5 rfl (by omega) (by first | decide | omega) ?_
    refine ht_aload_n (D 16 rfl) rfl rfl ?_
    refine gf_X4_27 rfl (D 17 rfl) hW.nt.k0 hW.nt.q5 ?_
    refine ht_iconst (v := 1) (D 18 rfl) (by decide) ?_
    refine ht_aload_n (D 19 rfl) rfl rfl ?_
    refine gi_X4_39 rfl (D 20 rfl) hW.nt.k0 ?_
    refine ht_iload_n (D 21 rfl) rfl rfl ?_
    refine ht_iadd (D 22 rfl) ?_
    refine ht_bipush (v := 24) (D 23 rfl) (by decide) ?_
    rw [show up2 Z (a + 5) 0 (nI ((h + x) % 24)) a 1 = Z a 1 from congrFun (up2_o _ _ (by omega)) 1, hh, nI_add]
    refine ht_idiv (D 24 rfl) (by decide) ?_
    rw [show (24 : Int32) = nI 24 from rfl, pk_div (by omega) (by decide) (by decide)]
    refine hi_ist (n := 1) (D 25 rfl) hW.nt.k5 hW.nt.n5 rfl (by omega) (by first | decide | omega) ?_
    refine ht_aload_n (D 26 rfl) rfl rfl ?_
    refine gf_X4_27 rfl (D 27 rfl) hW.nt.k0 hW.nt.q5 ?_
    refine ht_iconst (v := 2) (D 28 rfl) (by decide) ?_
    refine ht_iload_n (D 29 rfl) rfl rfl ?_
    refine hi_ist (n := 2) (D 30 rfl) hW.nt.k5 hW.nt.n5 rfl (by omega) (by first | decide | omega) ?_
    refine ht_bipush (v := 40) (D 31 rfl) (by decide) ?_
    refine ht_aload_n (D 32 rfl) rfl rfl ?_
    refine gf_X4_31 rfl (D 33 rfl) hW.nt.k0 hW.lq ?_
    refine gf_X4_81 rfl (D 34 rfl) hW.lb.k0 h5 ?_
    refine ht_aload_n (D 35 rfl) rfl rfl ?_
    refine gf_X4_27 rfl (D 36 rfl) hW.nt.k0 hW.nt.q5 ?_
    refine kVX1_valueBy (As := [_]) cl_X4_85 (D 37 rfl) (sc_valueBy hE hF hW.nt.k5 hW.nt.n5 (by rcases hW.ap.2 f (Or.inl h5) with c | c <;> omega)) hF.k0 rfl (Nat.le_of_ble_eq_true rfl) rfl (Nat.le_of_ble_eq_true rfl) (by omega) ?_
    rintro _ _ ⟨rfl, Z2, rfl, hZ2⟩
    refine kSX4_atMost (As := [_, _]) cl_X4_91 (D 38 rfl) (sc_atMost 40 _) rfl (Nat.le_of_ble_eq_true rfl) rfl (Nat.le_of_ble_eq_true rfl) (by omega) ?_
    rintro _ _ ⟨rfl, rfl⟩
    refine ht_iret (D 39 rfl) rfl rfl ?_
    refine ⟨?_, Z2, rfl, fun q hq => (hZ2 q (fun e => hq (Or.inr ⟨f, Or.inl h5, e⟩))).trans ?_⟩
    · rw [clp_40]
      show some (Value.int (clp _ 40)) = some (Value.int (clp (g (nI ((h + x) % 24)) (nI ((h + x) / 24)) md) 40))
      have hst : ∀ y1 y2 y3 : Int32, up2 (up2 (up2 Z (a + 5) 0 y1) (a + 5) 1 y2) (a + 5) 2 y3 (f + 2) = Z (f + 2) := fun y1 y2 y3 => by
        have hne : f + 2 ≠ a + 5 := by rcases hW.ap.2 f (Or.inl h5) with c | c <;> omega
        rw [up2_o _ _ hne, up2_o _ _ hne, up2_o _ _ hne]
      rw [hst, hg]
      simp [up2]
    · have hne : q ≠ a + 5 := fun e => hq (Or.inl e)
      rw [up2_o _ _ hne, up2_o _ _ hne, up2_o _ _ hne]
set_option maxRecDepth 100000 in
theorem sc_setAround (hN : NtS σ a) (x y z : Int32) : Sp G mX4_setAround 0 [.ref a, .int x, .int y, .int z] (cv σ Z) (fun rv σ' => rv = none ∧ σ' = cv σ (up2 (up2 (up2 Z (a + 5) 3 x) (a + 5) 4 y) (a + 5) 6 z)) := by
  have D := dat dl_X4_setAround
  show HT G mX4_setAround 0 [some (.ref a), some (.int x), some (.int y), some (.int z)] [] (cv σ Z) 0 _
  refine ht_aload_n (D 0 rfl) rfl rfl ?_
  refine gf_X4_27 rfl (D 1 rfl) hN.k0 hN.q5 ?_
  refine ht_iconst (v := 3) (D 2 rfl) (by decide) ?_
  refine ht_iload_n (D 3 rfl) rfl rfl ?_
  refine hi_ist (n := 3) (D 4 rfl) hN.k5 hN.n5 rfl (by omega) (by first | decide | omega) ?_
  refine ht_aload_n (D 5 rfl) rfl rfl ?_
  refine gf_X4_27 rfl (D 6 rfl) hN.k0 hN.q5 ?_
  refine ht_iconst (v := 4) (D 7 rfl) (by decide) ?_
  refine ht_iload_n (D 8 rfl) rfl rfl ?_
  refine hi_ist (n := 4) (D 9 rfl) hN.k5 hN.n5 rfl (by omega) (by first | decide | omega) ?_
  refine ht_aload_n (D 10 rfl) rfl rfl ?_
  refine gf_X4_27 rfl (D 11 rfl) hN.k0 hN.q5 ?_
  refine ht_bipush (v := 6) (D 12 rfl) (by decide) ?_
  refine ht_iload_n (D 13 rfl) rfl rfl ?_
  refine hi_ist (n := 6) (D 14 rfl) hN.k5 hN.n5 rfl (by omega) (by first | decide | omega) ?_
  refine ht_vret (D 15 rfl) rfl ?_
  exact ⟨rfl, rfl⟩
theorem bcV_t : ∀ b0 b1 b2 b3 b4 b5 : Bool, let x : Int32 := (if b0 then 1 else 0) ||| (if b1 then 2 else 0) ||| (if b2 then 4 else 0) ||| (if b3 then 8 else 0) ||| (if b4 then 16 else 0) ||| (if b5 then 32 else 0); bcV x = bC x 6 ∧ bC x 6 = (if b0 then 1 else 0) + (if b1 then 1 else 0) + (if b2 then 1 else 0) + (if b3 then 1 else 0) + (if b4 then 1 else 0) + (if b5 then 1 else 0) := by decide +kernel
/-- the men of whom p is so, as bits -/
def pkB (p : Nat → Bool) : Nat → Int32
  | 0 => 0
  | k + 1 => pkB p k ||| (if p k then 1 <<< (nI k &&& 31) else 0)
theorem pkB_6 (p : Nat → Bool) : pkB p 6 = (if p 0 then 1 else 0) ||| (if p 1 then 2 else 0) ||| (if p 2 then 4 else 0) ||| (if p 3 then 8 else 0) ||| (if p 4 then 16 else 0) ||| (if p 5 then 32 else 0) := by
  simp only [pkB]
  rw [show (1 : Int32) <<< (nI 0 &&& 31) = 1 by decide, show (1 : Int32) <<< (nI 1 &&& 31) = 2 by decide, show (1 : Int32) <<< (nI 2 &&& 31) = 4 by decide, show (1 : Int32) <<< (nI 3 &&& 31) = 8 by decide, show (1 : Int32) <<< (nI 4 &&& 31) = 16 by decide, show (1 : Int32) <<< (nI 5 &&& 31) = 32 by decide, Int32.zero_or]
theorem pkB_lim (p : Nat → Bool) {k : Nat} : ∀ n, k ≤ n → (∀ i, k ≤ i → p i = false) → pkB p n = pkB p k := by
  intro n
  induction n with
  | zero => intro h _; rw [show k = 0 by omega]
  | succ n ih =>
    intro h hp
    by_cases e : k = n + 1
    · rw [e]
    · show pkB p n ||| (if p n then 1 <<< (nI n &&& 31) else 0) = _
      rw [hp n (by omega), ih (by omega) hp]
      simp
theorem pkB_cg {p q : Nat → Bool} {k : Nat} (h : ∀ i, i < k → p i = q i) : pkB p k = pkB q k := by
  induction k with
  | zero => rfl
  | succ k ih => simp only [pkB]; rw [ih (fun i hi => h i (by omega)), h k (by omega)]
theorem pkB_cut (p : Nat → Bool) {k : Nat} (hk : k ≤ 6) : pkB p k = pkB (fun i => p i && decide (i < k)) 6 := by
  rw [pkB_lim (fun i => p i && decide (i < k)) 6 hk (fun i hi => by simp; omega)]
  exact pkB_cg (fun i hi => by simp [hi])
theorem pkB_bc (p : Nat → Bool) {k : Nat} (hk : k ≤ 6) : bcV (pkB p k) = bC (pkB p k) 6 := by
  rw [pkB_cut p hk, pkB_6]
  exact (bcV_t _ _ _ _ _ _).1
theorem pkB_or {p q : Nat → Bool} {k : Nat} (hk : k ≤ 6) (hpq : ∀ i, i < k → p i = true → q i = false) : bC (pkB (fun i => p i || q i) k) 6 = bC (pkB p k) 6 + bC (pkB q k) 6 := by
  rw [pkB_cut _ hk, pkB_cut p hk, pkB_cut q hk, pkB_6, pkB_6, pkB_6, (bcV_t _ _ _ _ _ _).2, (bcV_t _ _ _ _ _ _).2, (bcV_t _ _ _ _ _ _).2]
  have key : ∀ i, (if ((p i || q i) && decide (i < k)) = true then (1 : Int32) else 0) = (if (p i && decide (i < k)) = true then 1 else 0) + (if (q i && decide (i < k)) = true then 1 else 0) := by
    intro i
    by_cases c : i < k
    · have h1 := hpq i c
      cases hp : p i <;> cases hq : q i <;> simp_all
    · simp [c]
  rw [key 0, key 1, key 2, key 3, key 4, key 5]
  grind
theorem mIn_pk (S : ST) (c : Int32) : ∀ k, mIn S c k = pkB (fun i => decide (0 ≤ c ∧ S (68 + i) = c)) k := by
  intro k
  induction k with
  | zero => rfl
  | succ k ih => simp only [mIn, pkB]; rw [ih]; simp only [decide_eq_true_eq]
theorem mI2_pk (S : ST) (c e : Int32) : ∀ k, mI2 S c e k = pkB (fun i => decide ((S i = c ∨ S i = e) ∧ ¬ S i = -1)) k := by
  intro k
  induction k with
  | zero => rfl
  | succ k ih => simp only [mI2, pkB]; rw [ih]; simp only [decide_eq_true_eq]
theorem nI_ge0 {k : Nat} (h : k < 2 ^ 31) : ¬ nI k = -1 := fun e => by
  have h1 := congrArg Int32.toInt e
  rw [nI_toInt h] at h1
  have h2 : (-1 : Int32).toInt = -1 := rfl
  omega
theorem mI2_bc (S : ST) {c e : Int32} (hc : 0 ≤ c) (he : e = -1 ∨ 0 ≤ e) (hce : ¬ c = e) {k : Nat} (hk : k ≤ 6) : bcV (mI2 (fun i => S (68 + i)) c e k) = bC (mIn S c k) 6 + bC (mIn S e k) 6 := by
  have hn : ∀ x : Int32, 0 ≤ x → ¬ x = -1 := fun x h e => by rw [e] at h; exact absurd h (by decide)
  rw [mI2_pk, pkB_bc _ hk, mIn_pk, mIn_pk, ← pkB_or hk (fun i hi h => ?_)]
  · congr 1
    refine pkB_cg (fun i hi => ?_)
    rw [← Bool.decide_or]
    apply decide_eq_decide.mpr
    constructor
    · rintro ⟨h1 | h1, h2⟩
      · exact Or.inl ⟨hc, h1⟩
      · rcases he with h3 | h3
        · exact absurd (h1.trans h3) h2
        · exact Or.inr ⟨h3, h1⟩
    · rintro (⟨h1, h2⟩ | ⟨h1, h2⟩)
      · exact ⟨Or.inl h2, by rw [h2]; exact hn _ h1⟩
      · exact ⟨Or.inr h2, by rw [h2]; exact hn _ h1⟩
  · have h1 := of_decide_eq_true h
    exact decide_eq_false (fun h2 => hce (h1.2.symm.trans h2.2))
theorem mIn_ext {S T : ST} (c : Int32) {k : Nat} (h : ∀ i, i < k → S (68 + i) = T (68 + i)) : mIn S c k = mIn T c k := by
  induction k with
  | zero => rfl
  | succ k ih => simp only [mIn]; rw [ih (fun i hi => h i (by omega)), h k (by omega)]
theorem mI2_ext {S T : ST} (c e : Int32) {k : Nat} (h : ∀ i, i < k → S i = T i) : mI2 S c e k = mI2 T c e k := by
  induction k with
  | zero => rfl
  | succ k ih => simp only [mI2]; rw [ih (fun i hi => h i (by omega)), h k (by omega)]
theorem brC_e (hW : NW σ Z a b V cN dN mN gk gw gi) {j : Nat} (hj : j < dN) (h dn : Nat) : some (Value.int (bcV (mI2 (Z (a + 2)) (Z (b + 3) j) (Z (b + 4) j) mN) + nI (gNc Z b (Z (b + 3) j) h gk) + nI (gNc Z b (Z (b + 4) j) h gk))) = some (.int (brF V (nv dn Z a) mN gk h j)) := by
  obtain ⟨p, h1, h2, h3⟩ := hW.dc hj
  have h6 := hW.m6
  have hp : 0 ≤ V 10 j := by rw [h2]; exact nI_pos' (by have := hW.c8; omega)
  rw [gNc_e hW _ _ _ (Nat.le_refl _), gNc_e hW _ _ _ (Nat.le_refl _), (hW.lr.2.1 j hj).1, (hW.lr.2.1 j hj).2, mI2_ext (S := Z (a + 2)) (T := fun i => nv dn Z a (68 + i)) _ _ (fun i hi => (nv_man dn Z a (show i < 6 by omega)).symm), mI2_bc (nv dn Z a) hp ?_ (hW.px.2.2.1 j hj) h6]
  · rfl
  · rcases hW.pl.2.2.2.2.2.2 j hj with c | ⟨e, c1, c2⟩
    · exact Or.inl c
    · right
      rw [c2]
      exact nI_pos' (by have := hW.c8; omega)
set_option maxRecDepth 100000 in
theorem sc_breathAt (hW : NW σ Z a b V cN dN mN gk gw gi) {h : Nat} (hh : Z a 1 = nI h) (h31 : h < 2 ^ 31) {j : Nat} (hj : j < dN) (dn : Nat) : Sp G mX4_breathAt 3 [.ref a, .int (nI j)] (cv σ Z) (fun rv σ' => rv = some (.int (brF V (nv dn Z a) mN gk h j)) ∧ σ' = cv σ Z) := by
  have D := dat dl_X4_breathAt
  show HT G mX4_breathAt 0 [some (.ref a), some (.int (nI j)), none, none] [] (cv σ Z) 3 _
  have hd10 := hW.d10
  refine ht_aload_n (D 0 rfl) rfl rfl ?_
  refine gf_X4_31 rfl (D 1 rfl) hW.nt.k0 hW.lq ?_
  refine gf_X4_100 rfl (D 2 rfl) hW.lb.k0 hW.lb.q3 ?_
  refine ht_iload_n (D 3 rfl) rfl rfl ?_
  refine hi_ild (n := j) (D 4 rfl) hW.lb.k3 hW.lb.n3 (by first | rfl | exact nI_add _ _ | assumption) (by omega) (by first | decide | omega) ?_
  refine ht_istore_n (D 5 rfl) rfl (by decide) rfl ?_
  refine ht_aload_n (D 6 rfl) rfl rfl ?_
  refine gf_X4_31 rfl (D 7 rfl) hW.nt.k0 hW.lq ?_
  refine gf_X4_103 rfl (D 8 rfl) hW.lb.k0 hW.lb.q4 ?_
  refine ht_iload_n (D 9 rfl) rfl rfl ?_
  refine hi_ild (n := j) (D 10 rfl) hW.lb.k4 hW.lb.n4 (by first | rfl | exact nI_add _ _ | assumption) (by omega) (by first | decide | omega) ?_
  refine ht_istore_n (D 11 rfl) rfl (by decide) rfl ?_
  refine ht_aload_n (D 12 rfl) rfl rfl ?_
  refine ht_iload_n (D 13 rfl) rfl rfl ?_
  refine ht_iload_n (D 14 rfl) rfl rfl ?_
  refine kVX4_menIn (As := [_, _]) cl_X4_106 (D 15 rfl) (sc_menIn hW.nt hW.lq hW.lb hW.nm hW.m6 _ _) hW.nt.k0 rfl (Nat.le_of_ble_eq_true rfl) rfl (Nat.le_of_ble_eq_true rfl) (by omega) ?_
  rintro _ _ ⟨rfl, rfl⟩
  refine kSJ6_bitCount_0f7a4 (As := [_]) cl_X4_129 (D 16 rfl) (sc_bitCount _) rfl (Nat.le_of_ble_eq_true rfl) rfl (Nat.le_of_ble_eq_true rfl) (by omega) ?_
  rintro _ _ ⟨rfl, rfl⟩
  refine ht_aload_n (D 17 rfl) rfl rfl ?_
  refine ht_iload_n (D 18 rfl) rfl rfl ?_
  refine kVX4_guardsIn (As := [_]) cl_X4_134 (D 19 rfl) (sc_guardsIn hW.nt hW.lq hW.lb hW.ng hW.g2 hW.rr hh h31 _) hW.nt.k0 rfl (Nat.le_of_ble_eq_true rfl) rfl (Nat.le_of_ble_eq_true rfl) (by omega) ?_
  rintro _ _ ⟨rfl, rfl⟩
  refine ht_iadd (D 20 rfl) ?_
  refine ht_aload_n (D 21 rfl) rfl rfl ?_
  refine ht_iload_n (D 22 rfl) rfl rfl ?_
  refine kVX4_guardsIn (As := [_]) cl_X4_134 (D 23 rfl) (sc_guardsIn hW.nt hW.lq hW.lb hW.ng hW.g2 hW.rr hh h31 _) hW.nt.k0 rfl (Nat.le_of_ble_eq_true rfl) rfl (Nat.le_of_ble_eq_true rfl) (by omega) ?_
  rintro _ _ ⟨rfl, rfl⟩
  refine ht_iadd (D 24 rfl) ?_
  refine ht_iret (D 25 rfl) rfl rfl ?_
  exact ⟨brC_e hW hj h _, rfl⟩
end C3
