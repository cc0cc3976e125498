/-! ===== the calls: first, enough, plan, lots ===== -/
section T6
variable {G : GG} {τ τ1 τ2 : Hp} {ρ : Nat → Nat} {T : ST} {n xo b k h S9 : Nat} {s : TD} {S : ST}
theorem enS_od (V : VT) (gw : Option GWt) (gi : Option GIt) (dN mN gk : Nat) (S : ST) (h : Nat) {od od2 : Nat → Nat} (e : ∀ i, i < dN → od2 i = od i) (w : Int32) : ∀ t, enS V gw gi dN mN gk S h od2 w t = enS V gw gi dN mN gk S h od w t := by
  intro t
  induction t with
  | zero => rfl
  | succ t ih =>
    show psS V gw gi dN mN gk (h + t) 0 (if t < dN then prS (enS V gw gi dN mN gk S h od2 w t) (od2 t) w else enS V gw gi dN mN gk S h od2 w t) = psS V gw gi dN mN gk (h + t) 0 (if t < dN then prS (enS V gw gi dN mN gk S h od w t) (od t) w else enS V gw gi dN mN gk S h od w t)
    rw [ih]
    by_cases q : t < dN
    · rw [if_pos q, if_pos q, e t q]
    · rw [if_neg q, if_neg q]
theorem enI_od (V : VT) (gw : Option GWt) (gi : Option GIt) (dN mN gk : Nat) (S : ST) (h : Nat) {od od2 : Nat → Nat} (e : ∀ i, i < dN → od2 i = od i) (w : Int32) : ∀ t, enI V gw gi dN mN gk S h od2 w t = enI V gw gi dN mN gk S h od w t := by
  intro t
  induction t with
  | zero => rfl
  | succ t ih =>
    show (if anL (enS V gw gi dN mN gk S h od2 w (t + 1)) dN = true then 0 else enI V gw gi dN mN gk S h od2 w t) = (if anL (enS V gw gi dN mN gk S h od w (t + 1)) dN = true then 0 else enI V gw gi dN mN gk S h od w t)
    rw [ih, enS_od V gw gi dN mN gk S h e w]
theorem cl_first (hE : NE G) (hL : LIc xo S9 k τ ρ b s T n h) (hk : k ≤ 600) (x w : Int32) : Sp G mX9_first 8 [.ref xo, .int x, .int w] τ (fun rv τ1 => ∃ r, (rv = some (.int r) ∧ zK τ1 (xo + 52) = 9) ∧ Sp G mX10_first 8 [.ref (xo + 52), .int x, .int w] τ1 (fun rv τ2 => rv = some (.int r) ∧ LI xo S9 (k + 1) τ2)) := by
  have hC := hL.cw
  have hP := hL.px.1
  have hnv := hL.nv
  have hbar := hL.bar
  have hS := hL.si
  have hmn : Mn (nv (tdC s 1) (zI τ) (xo + 14)) (tdC s 0) (tdC s 2) := by rw [hnv]; exact hS.1
  have hlk : LkI (nv (tdC s 1) (zI τ) (xo + 14)) (tdC s 1) := by rw [hnv]; exact hS.2.1
  have hhc := hL.hr
  have hhr := hS.2.2.2.2.1
  have h31 : h < 2 ^ 30 := by have := hS.2.2.2.2.2; omega
  have hc := sc_first (G := G) hE hC hbar hmn hlk hhc h31 x w
  rw [hnv] at hc
  refine li_gen hL (hS.up (by omega)) (ht_mono hc ?_)
  rintro rv σ' (⟨q1, q2⟩ | ⟨q1, d, d1, d2, q2⟩)
  · refine ⟨_, q2, fun σ1 hM1 => ht_mono (sm_first hM1 hP hL.lnw hL.lni hhr h31 hS.1 x w) ?_⟩
    rintro rv2 σ2 (⟨y1, y2⟩ | ⟨y1, y2⟩)
    · exact y2
    · exact absurd y1 q1
  · refine ⟨_, q2, fun σ1 hM1 => ht_mono (sm_first hM1 hP hL.lnw hL.lni hhr h31 hS.1 x w) ?_⟩
    rintro rv2 σ2 (⟨y1, y2⟩ | ⟨y1, d3, d4, d5, y2⟩)
    · exact absurd q1 y1
    · rw [rk_inj d4 d1 (d5.trans d2.symm)] at y2
      exact y2
theorem cl_enough (hE : NE G) (hL : LIc xo S9 k τ ρ b s T n h) (hk : k ≤ 600) (x w : Int32) : Sp G mX9_enough 8 [.ref xo, .int x, .int w] τ (fun rv τ1 => ∃ r, (rv = some (.int r) ∧ zK τ1 (xo + 52) = 9) ∧ Sp G mX10_enough 8 [.ref (xo + 52), .int x, .int w] τ1 (fun rv τ2 => rv = some (.int r) ∧ LI xo S9 (k + 1) τ2)) := by
  have hC := hL.cw
  have hP := hL.px.1
  have hnv := hL.nv
  have hbar := hL.bar
  have hS := hL.si
  have hmn : Mn (nv (tdC s 1) (zI τ) (xo + 14)) (tdC s 0) (tdC s 2) := by rw [hnv]; exact hS.1
  have hlk : LkI (nv (tdC s 1) (zI τ) (xo + 14)) (tdC s 1) := by rw [hnv]; exact hS.2.1
  have hhc := hL.hr
  have hhr := hS.2.2.2.2.1
  have h31 : h < 2 ^ 30 := by have := hS.2.2.2.2.2; omega
  have hc := sc_enough (G := G) hE hC hbar hmn hlk hhc h31 x w
  rw [hnv] at hc
  refine li_gen hL (hS.up (by omega)) (ht_mono hc ?_)
  rintro rv σ' (⟨q1, q2⟩ | ⟨q1, od, d1, q2⟩)
  · refine ⟨_, q2, fun σ1 hM1 => ht_mono (sm_enough hM1 hP hL.lnw hL.lni hhr h31 hS.1 x w) ?_⟩
    rintro rv2 σ2 (⟨y1, y2⟩ | ⟨y1, y2⟩)
    · exact y2
    · exact absurd y1 q1
  · refine ⟨_, q2, fun σ1 hM1 => ht_mono (sm_enough hM1 hP hL.lnw hL.lni hhr h31 hS.1 x w) ?_⟩
    rintro rv2 σ2 (⟨y1, y2⟩ | ⟨y1, od2, d3, y2⟩)
    · exact absurd q1 y1
    · have e : ∀ i, i < tdC s 1 → od2 i = od i := fun i hi => rk_inj (d3 i hi).1 (d1 i hi).1 ((d3 i hi).2.trans (d1 i hi).2.symm)
      rw [enI_od _ _ _ _ _ _ _ _ e] at y2
      exact y2
theorem cl_plan (hE : NE G) (hL : LIc xo S9 k τ ρ b s T n h) (hk : k ≤ 600) (x w : Int32) : Sp G mX9_plan 3 [.ref xo, .int x, .int w] τ (fun rv τ1 => ∃ r, (rv = some (.int r) ∧ zK τ1 (xo + 52) = 9) ∧ Sp G mX10_plan 10 [.ref (xo + 52), .int x, .int w] τ1 (fun rv τ2 => rv = some (.int r) ∧ LI xo S9 (k + 1) τ2)) := by
  have hC := hL.cw
  have hP := hL.px.1
  have hnv := hL.nv
  have hbar := hL.bar
  have hS := hL.si
  have hmn : Mn (nv (tdC s 1) (zI τ) (xo + 14)) (tdC s 0) (tdC s 2) := by rw [hnv]; exact hS.1
  have hlk : LkI (nv (tdC s 1) (zI τ) (xo + 14)) (tdC s 1) := by rw [hnv]; exact hS.2.1
  have hhc := hL.hr
  have hhr := hS.2.2.2.2.1
  have h31 : h < 2 ^ 30 := by have := hS.2.2.2.2.2; omega
  have hc := sc_plan (G := G) hE hC hbar hmn hlk x w
  rw [hnv] at hc
  refine li_gen hL (hS.up (by omega)) (ht_mono hc ?_)
  rintro rv σ' ⟨r, q1, q2, q3⟩
  refine ⟨_, q1, fun σ1 hM1 => ht_mono (sm_plan hM1 hP hS.1 x w) ?_⟩
  rintro rv2 σ2 (⟨y1, y2⟩ | ⟨y1, y2⟩)
  · rw [q2 y1]; exact y2
  · rw [q3 y1 (vV τ (xo + 52) 0 52) (vV τ (xo + 52) 39) (vV τ (xo + 52) 40)]; exact y2
/-- what a class's call may change -/
def CFr (τ : Hp) (xo b : Nat) (σ' : Hp) : Prop := zX τ ≤ zX σ' ∧ zX σ' ≤ zX τ + 22 ∧ zS σ' ≤ zS τ + 3201 ∧ ∀ p, p < zX τ → zK σ' p = zK τ p ∧ zN σ' p = zN τ p ∧ (p ≠ xo + 30 → zQ σ' p = zQ τ p) ∧ (∀ i, i ≠ 0 → zQ σ' p i = zQ τ p i) ∧ (¬ XP τ xo b p → zI σ' p = zI τ p)
theorem NtS.cf {a : Nat} (h : NtS τ a) (e : ∀ p, a ≤ p → p < a + 16 → zK τ2 p = zK τ p ∧ zN τ2 p = zN τ p ∧ (p ≠ a → zQ τ2 p = zQ τ p) ∧ (∀ i, i ≠ 0 → zQ τ2 p i = zQ τ p i)) : NtS τ2 a := by
  refine ⟨(e a (by omega) (by omega)).1.trans h.1, fun q h1 h2 => ?_, fun j hj => ?_⟩
  · rw [(e a (by omega) (by omega)).2.2.2 (2 + q) (by omega), (e (a + q) (by omega) (by omega)).1, (e (a + q) (by omega) (by omega)).2.1]
    exact h.2.1 q h1 h2
  · rw [(e (a + 4) (by omega) (by omega)).2.2.1 (by omega), (e (a + 6 + j) (by omega) (by omega)).1]
    exact h.2.2 j hj
theorem XS.cf (h : XS τ xo) (e : ∀ p, xo ≤ p → p < xo + 52 → zK τ2 p = zK τ p ∧ zN τ2 p = zN τ p ∧ (p ≠ xo + 30 → zQ τ2 p = zQ τ p) ∧ (∀ i, i ≠ 0 → zQ τ2 p i = zQ τ p i)) : XS τ2 xo := by
  have k : ∀ j, j < 52 → zK τ2 (xo + j) = zK τ (xo + j) := fun j hj => (e _ (by omega) (by omega)).1
  have m : ∀ j, j < 52 → zN τ2 (xo + j) = zN τ (xo + j) := fun j hj => (e _ (by omega) (by omega)).2.1
  have q : ∀ j, j < 52 → j ≠ 30 → zQ τ2 (xo + j) = zQ τ (xo + j) := fun j hj hne => (e _ (by omega) (by omega)).2.2.1 (by omega)
  have k0 : zK τ2 xo = zK τ xo := k 0 (by decide)
  have q0 : zQ τ2 xo = zQ τ xo := q 0 (by decide) (by decide)
  have t1 : NtS τ2 (xo + 14) := h.nt.loc (fun p h1 h2 => ⟨(e p (by omega) (by omega)).1, (e p (by omega) (by omega)).2.1, (e p (by omega) (by omega)).2.2.1 (by omega)⟩)
  have t2 : NtS τ2 (xo + 30) := h.tr.cf (fun p h1 h2 => ⟨(e p (by omega) (by omega)).1, (e p (by omega) (by omega)).2.1, fun z => (e p (by omega) (by omega)).2.2.1 z, (e p (by omega) (by omega)).2.2.2⟩)
  unfold XS
  rw [k0, q0, k 1 (by decide), q 1 (by decide) (by decide), k 2 (by decide), m 2 (by decide), k 46 (by decide), m 46 (by decide), k 47 (by decide), m 47 (by decide), k 48 (by decide), m 48 (by decide), k 49 (by decide), m 49 (by decide), k 50 (by decide), m 50 (by decide), k 51 (by decide), m 51 (by decide)]
  exact ⟨h.1, h.2.1, ⟨h.q1, t1⟩, ⟨h.q2, t2⟩, h.2.2.2.2⟩
theorem zS_up {a b c d : Nat} (h1 : a ≤ b + 3201) (h2 : b ≤ c + 3201 * d) : a ≤ c + 3201 * (d + 1) := by
  rw [Nat.mul_succ, ← Nat.add_assoc]
  exact Nat.le_trans h1 (Nat.add_le_add_right h2 3201)
theorem li_fin (hL : LIc xo S9 k τ ρ b s T n h) {S' : ST} {h' : Nat} (hS : SI S' s (k + 1) h') {σ' : Hp} (hcf : CFr τ xo b σ') (hnv2 : nv (tdC s 1) (zI σ') (xo + 14) = S') (hbar2 : zI σ' (xo + 14) 2 = -1) {V' : VT} {U' : UT} (hPz : Pz (vV τ (xo + 52)) V') (h33 : V' 33 = S') : LI xo S9 (k + 1) (sv σ' (xo + 52) V' U') := by
  obtain ⟨⟨hX, hM, hR30, hOut, hx1, hx2, hx3⟩, ⟨hN, hLX, hV⟩, ⟨hRow, h36⟩, ⟨hnv, hbar, hSI⟩, hTp, h30, hMk, hMu⟩ := hL
  obtain ⟨c1, c2, c3, c4⟩ := hcf
  have hF := hLX.2.2.2.2
  have zf : ∀ p, p < zX τ → ¬ (xo + 14 ≤ p ∧ p < xo + 52) → (∀ f, isF τ b f → p ≠ f + 1) → zI σ' p = zI τ p := fun p hp q1 q2 => (c4 p hp).2.2.2.2 (fun z => by
    rcases z with z | ⟨f, z1, z2⟩
    · exact q1 z
    · exact q2 f z1 z2)
  have qf : ∀ p, p < zX τ → p ≠ xo + 30 → zQ σ' p = zQ τ p := fun p hp q => (c4 p hp).2.2.1 q
  refine ⟨ρ, b, s, T, n, h', ?_⟩
  have hV' : vV (sv σ' (xo + 52) V' U') (xo + 52) = V' := vV_sv (Pz_hi hPz (fun q hq => vV_hi τ (xo + 52) hq))
  have io : ∀ p, p < xo + 52 ∨ xo + 94 ≤ p → zI (sv σ' (xo + 52) V' U') p = zI σ' p := fun p hp => (sv_out _ _ V' U' (by omega)).1
  have eX : FrX τ ρ ρ xo (sv σ' (xo + 52) V' U') := by
    refine ⟨c1, fun p hp hp2 => ⟨rfl, (c4 p hp2).1, (c4 p hp2).2.1, Or.inl (qf p hp2 (by omega)), ?_⟩⟩
    by_cases q : ∃ f, isF τ b f ∧ p = f + 1
    · obtain ⟨f, q1, q2⟩ := q
      refine Or.inr (Or.inr (Or.inl ?_))
      have h1 := (hF f q1).1 1 (by decide)
      rw [← q2] at h1
      rw [h1]
      exact ⟨(hF f q1).2.1, q2⟩
    · refine Or.inl ?_
      rw [io p (by omega)]
      exact zf p hp2 (by omega) (fun f hf e => q ⟨f, hf, e⟩)
  have hpz := hPz.1
  unfold LIc
  rw [hV']
  refine ⟨⟨hX.cf (fun p q1 q2 => ⟨(c4 p (by omega)).1, (c4 p (by omega)).2.1, (c4 p (by omega)).2.2.1, (c4 p (by omega)).2.2.2.1⟩), hM.loc (fun p q1 q2 => ⟨(c4 p (by omega)).1, (c4 p (by omega)).2.1, qf p (by omega) (by omega)⟩), hR30, ⟨(c4 (xo + 94) (by omega)).1.trans hOut.1, (c4 (xo + 94) (by omega)).2.1.trans hOut.2⟩, ?_, ?_, ?_⟩, ⟨⟨hN.1.loc (fun p q1 q2 => ⟨(c4 p (by omega)).1, (c4 p (by omega)).2.1, qf p (by omega) (by omega)⟩), ?_, hN.2.2⟩, hLX.fr eX, hV⟩, ⟨hRow.cg (fun q q1 q2 => hpz q (by omega) (by omega) (by omega)), ?_⟩, ⟨?_, ?_, ?_⟩, ?_, ?_, fun x hx => ?_, ?_⟩
  · show xo + 95 ≤ zX σ'
    omega
  · show zX σ' ≤ xo + 95 + 22 * (k + 1)
    omega
  · exact zS_up c3 hx3
  · show zQ σ' (xo + 14) 0 = some b
    rw [qf _ (by omega) (by omega)]; exact hN.2.1
  · obtain ⟨F, hF36⟩ := h36
    exact ⟨F, fun c hc => by rw [hpz 36 (by decide) (by decide) (by decide)]; exact hF36 c hc⟩
  · rw [h33, ← hnv2]
    exact nv_fr (fun i hi _ _ => io _ (by omega))
  · rw [io _ (by omega)]; exact hbar2
  · rw [h33]; exact hS
  · obtain ⟨n0, g1, g2, g3, g4, g5⟩ := hTp
    have z1 : zI σ' (xo + 1) = zI τ (xo + 1) := zf _ (by omega) (by omega) (fun f hf e => by have := (hF f hf).2.2.1; omega)
    have z2 : zI σ' (xo + 2) = zI τ (xo + 2) := zf _ (by omega) (by omega) (fun f hf e => by have := (hF f hf).2.2.1; omega)
    refine ⟨n0, g1, ?_, hPz.2.1.trans g3, ?_, ?_⟩
    · rw [io _ (by omega), z1]; exact g2
    · rw [io _ (by omega), z2, hpz 1 (by decide) (by decide) (by decide)]; exact g4
    · rw [io _ (by omega), z2]; exact g5
  · rw [hPz.2.2]; exact h30
  · refine (hMk x hx).fr (by omega) eX (congrFun (qf _ (by omega) (by omega)) x) (fun a ha p q1 q2 => ?_) (by rw [hpz 41 (by decide) (by decide) (by decide)]) (fun i _ => by rw [hpz 35 (by decide) (by decide) (by decide)]) (fun s2 T9 n9 _ hs2 => hs2.cg (fun q q1 q2 => hpz q (by omega) (by omega) (by omega)))
    rcases hMk x hx with ⟨_, z⟩ | ⟨_, a2, b2, s2, T2, n2, h2, y1, y2, y3, _⟩
    · rw [z] at ha; cases ha
    · rw [y1] at ha
      cases ha
      refine ⟨?_, qf p (by omega) (by omega)⟩
      rw [io p (by omega)]
      refine zf p (by omega) (by omega) (fun f hf e => ?_)
      have h1 := (hF f hf).1 1 (by decide)
      have h3 := y2.2.2 (p - a) (by omega)
      rw [show a + (p - a) = p by omega, e, h1] at h3
      have h4 := (hF f hf).2.1
      rw [h3, y2.1.k0] at h4
      cases h4
  · intro x y a hx hy h1 h2
    have e46 := qf (xo + 46) (by omega) (by omega)
    have h1b : zQ σ' (xo + 46) x = some a := h1
    have h2b : zQ σ' (xo + 46) y = some a := h2
    rw [e46] at h1b h2b
    exact hMu x y a hx hy h1b h2b
theorem li_end {mr : MI} {dr : Nat} {A2 : List Value} (hL : LIc xo S9 k τ ρ b s T n h) {S' : ST} {h' : Nat} (hS : SI S' s (k + 1) h') {σ' : Hp} {r : Int32} (hcf : CFr τ xo b σ') (hnv2 : nv (tdC s 1) (zI σ') (xo + 14) = S') (hbar2 : zI σ' (xo + 14) 2 = -1) (hr : ∀ σ1, MS σ1 (xo + 52) → Sp G mr dr A2 (sv σ1 (xo + 52) (vV τ (xo + 52)) (vU σ1 (xo + 52))) (QA σ1 (xo + 52) (vV τ (xo + 52)) r S')) : Sp G mr dr A2 σ' (fun rv τ2 => rv = some (.int r) ∧ LI xo S9 (k + 1) τ2) := by
  have hL0 := hL
  obtain ⟨⟨hX, hM, hR30, hOut, hx1, hx2, hx3⟩, ⟨hN, hLX, hV⟩, ⟨hRow, h36⟩, ⟨hnv, hbar, hSI⟩, hTp, h30, hMk, hMu⟩ := hL
  obtain ⟨c1, c2, c3, c4⟩ := hcf
  have hF := hLX.2.2.2.2
  have zf : ∀ p, p < zX τ → ¬ (xo + 14 ≤ p ∧ p < xo + 52) → (∀ f, isF τ b f → p ≠ f + 1) → zI σ' p = zI τ p := fun p hp q1 q2 => (c4 p hp).2.2.2.2 (fun z => by
    rcases z with z | ⟨f, z1, z2⟩
    · exact q1 z
    · exact q2 f z1 z2)
  have qf : ∀ p, p < zX τ → p ≠ xo + 30 → zQ σ' p = zQ τ p := fun p hp q => (c4 p hp).2.2.1 q
  have hM1 : MS σ' (xo + 52) := hM.loc (fun p q1 q2 => ⟨(c4 p (by omega)).1, (c4 p (by omega)).2.1, qf p (by omega) (by omega)⟩)
  have hV1 : vV σ' (xo + 52) = vV τ (xo + 52) := vV_cg (fun q hq => zf _ (by omega) (by omega) (fun f hf e => by have := (hF f hf).2.2.1; omega))
  have hs1 := sv_id σ' (xo + 52)
  rw [hV1] at hs1
  have hr1 := hr _ hM1
  rw [hs1] at hr1
  refine ht_mono hr1 ?_
  rintro rv2 σ2 ⟨hrv2, V', U', rfl, hPz, h33⟩
  exact ⟨hrv2, li_fin hL0 hS ⟨c1, c2, c3, c4⟩ hnv2 hbar2 hPz h33⟩
/-- the class's heap just behind its call, as the reference sees it -/
theorem li_mid (hL : LIc xo S9 k τ ρ b s T n h) {σ' : Hp} (hcf : CFr τ xo b σ') : MS σ' (xo + 52) ∧ sv σ' (xo + 52) (vV τ (xo + 52)) (vU σ' (xo + 52)) = σ' := by
  obtain ⟨⟨hX, hM, hR30, hOut, hx1, hx2, hx3⟩, ⟨hN, hLX, hV⟩, ⟨hRow, h36⟩, ⟨hnv, hbar, hSI⟩, hTp, h30, hMk, hMu⟩ := hL
  obtain ⟨c1, c2, c3, c4⟩ := hcf
  have hF := hLX.2.2.2.2
  have zf : ∀ p, p < zX τ → ¬ (xo + 14 ≤ p ∧ p < xo + 52) → (∀ f, isF τ b f → p ≠ f + 1) → zI σ' p = zI τ p := fun p hp q1 q2 => (c4 p hp).2.2.2.2 (fun z => by
    rcases z with z | ⟨f, z1, z2⟩
    · exact q1 z
    · exact q2 f z1 z2)
  have qf : ∀ p, p < zX τ → p ≠ xo + 30 → zQ σ' p = zQ τ p := fun p hp q => (c4 p hp).2.2.1 q
  have hM1 : MS σ' (xo + 52) := hM.loc (fun p q1 q2 => ⟨(c4 p (by omega)).1, (c4 p (by omega)).2.1, qf p (by omega) (by omega)⟩)
  have hV1 : vV σ' (xo + 52) = vV τ (xo + 52) := vV_cg (fun q hq => zf _ (by omega) (by omega) (fun f hf e => by have := (hF f hf).2.2.1; omega))
  have hs1 := sv_id σ' (xo + 52)
  rw [hV1] at hs1
  exact ⟨hM1, hs1⟩
theorem li_gen2 {mc mr : MI} {dc dr : Nat} {A1 A2 : List Value} (hL : LIc xo S9 k τ ρ b s T n h) {S' : ST} {h' : Nat} (hS : SI S' s (k + 1) h')
    (hc : Sp G mc dc A1 τ (fun rv σ' => ∃ r, rv = some (.int r) ∧ CFr τ xo b σ' ∧ nv (tdC s 1) (zI σ') (xo + 14) = S' ∧ zI σ' (xo + 14) 2 = -1 ∧ ∀ σ1, MS σ1 (xo + 52) → Sp G mr dr A2 (sv σ1 (xo + 52) (vV τ (xo + 52)) (vU σ1 (xo + 52))) (QA σ1 (xo + 52) (vV τ (xo + 52)) r S'))) :
    Sp G mc dc A1 τ (fun rv τ1 => ∃ r, (rv = some (.int r) ∧ zK τ1 (xo + 52) = 9) ∧ Sp G mr dr A2 τ1 (fun rv τ2 => rv = some (.int r) ∧ LI xo S9 (k + 1) τ2)) := by
  refine ht_mono hc ?_
  rintro rv σ' ⟨r, hrv, hcf, hnv2, hbar2, hr⟩
  exact ⟨r, ⟨hrv, (hcf.2.2.2 (xo + 52) (by have := hL.1.2.2.2.2.1; omega)).1.trans hL.1.2.1.1⟩, li_end hL hS hcf hnv2 hbar2 hr⟩
theorem QC_cf {r : Int32} {rv : Option Value} {σ' : Hp} {dN : Nat} (h : QC τ xo b dN (zI τ) r S rv σ') : rv = some (.int r) ∧ CFr τ xo b σ' ∧ nv dN (zI σ') (xo + 14) = S ∧ zI σ' (xo + 14) 2 = -1 := by
  obtain ⟨h1, t, Z2, rfl, h2, h3, h4⟩ := h
  refine ⟨h1, ⟨Nat.le_refl _, Nat.le_add_right _ _, Nat.le_add_right _ _, fun p hp => ⟨rfl, rfl, fun q => zQ_a _ _ q, fun i hi => zQ_k _ _ hi, fun q => h2 p q⟩⟩, h3, h4⟩
theorem cl_lots (hE : NE G) (hL : LIc xo S9 k τ ρ b s T n h) (hk : k ≤ 600) (hr1 : zX τ + 1 ≤ gC G) (hr2 : zS τ + 1 ≤ gS G) (x1 y z w : Int32) : Sp G mX9_lots 6 [.ref xo, .int x1, .int y, .int z, .int w] τ (fun rv τ1 => ∃ r, (rv = some (.int r) ∧ zK τ1 (xo + 52) = 9) ∧ Sp G mX10_lots 6 [.ref (xo + 52), .int x1, .int y, .int z, .int w] τ1 (fun rv τ2 => rv = some (.int r) ∧ LI xo S9 (k + 1) τ2)) := by
  have hC := hL.cw
  have hP := hL.px.1
  have hnv := hL.nv
  have hbar := hL.bar
  have hS := hL.si
  have hmn : Mn (nv (tdC s 1) (zI τ) (xo + 14)) (tdC s 0) (tdC s 2) := by rw [hnv]; exact hS.1
  have hlk : LkI (nv (tdC s 1) (zI τ) (xo + 14)) (tdC s 1) := by rw [hnv]; exact hS.2.1
  have hhc := hL.hr
  have hhr := hS.2.2.2.2.1
  have h31 : h < 2 ^ 30 := by have := hS.2.2.2.2.2; omega
  obtain ⟨md, md1, md2⟩ := hL.px.2.2.2.2.2
  have hxz := hL.1.2.2.2.2.1
  have hc := sc_lots (G := G) hE hC hbar hmn hlk hhc h31 md2 md1 hr1 hr2 x1 y z w
  rw [hnv] at hc
  refine li_gen2 hL (hS.up (by omega)) (ht_mono hc ?_)
  rintro rv σ' (⟨q1, q2⟩ | ⟨q1, q2, g, t, Z2, rfl, q3, q4, q5⟩)
  · obtain ⟨e1, e2, e3, e4⟩ := QC_cf q2
    refine ⟨_, e1, e2, e3, e4, fun σ1 hM1 => ht_mono (sm_lots hM1 hP hL.lnw hL.lni hhr h31 hS.1 md2 md1 x1 y z w) ?_⟩
    rintro rv2 σ2 (⟨y1, y2⟩ | ⟨y1, y2⟩)
    · exact y2
    · exact absurd y1 q1
  · refine ⟨_, q2, ⟨?_, ?_, ?_, fun p hp => ⟨?_, ?_, fun hne => ?_, fun i hi => ?_, fun hne => ?_⟩⟩, q4, q5, fun σ1 hM1 => ht_mono (sm_lots hM1 hP hL.lnw hL.lni hhr h31 hS.1 md2 md1 x1 y z w) ?_⟩
    · show zX τ ≤ zX τ + 1
      omega
    · show zX τ + 1 ≤ zX τ + 22
      omega
    · show zS τ + 1 ≤ zS τ + 3201
      omega
    · exact vaU _ _ (by omega)
    · exact vaU _ _ (by omega)
    · exact (zQ_a _ _ hne).trans (vaU _ _ (by omega))
    · exact (zQ_k _ _ hi).trans (congrFun (vaU _ _ (by omega)) i)
    · exact (q3 p hne).trans (vaU _ _ (by omega))
    · rintro rv2 σ2 (⟨y1, y2⟩ | ⟨y1, y2⟩)
      · exact absurd q1 y1
      · exact y2
end T6
