/-! ===== what holds between two calls ===== -/
section T4
variable {G : GG} {τ τ1 τ2 : Hp} {V V2 : VT} {U : UT} {ρ : Nat → Nat} {T : ST} {n m xo a b k h S9 : Nat} {s : TD}
/-- the state of a night, within its bounds -/
def SI (S : ST) (s : TD) (k h : Nat) : Prop := Mn S (tdC s 0) (tdC s 2) ∧ LkI S (tdC s 1) ∧ (∀ x, x < tdC s 2 → ∃ u, u ≤ 9 ∧ S (74 + x) = nI u) ∧ (∀ j, j < tdC s 1 → ∃ u, u ≤ k ∧ S (20 + j) = nI u) ∧ S 80 = nI h ∧ h ≤ 1000 * k
theorem SI.up {S : ST} {k2 : Nat} (hS : SI S s k h) (hk : k ≤ k2) : SI S s k2 h := ⟨hS.1, hS.2.1, hS.2.2.1, fun j hj => by
  obtain ⟨u, h1, h2⟩ := hS.2.2.2.1 j hj
  exact ⟨u, by omega, h2⟩, hS.2.2.2.2.1, by have := hS.2.2.2.2.2; omega⟩
def MkP (τ : Hp) (ρ : Nat → Nat) (xo : Nat) (V : VT) (k x : Nat) : Prop := (V 41 x = 0 ∧ zQ τ (xo + 46) x = none) ∨ (V 41 x = 1 ∧ ∃ (a b : Nat) (s : TD) (T : ST) (n h : Nat), zQ τ (xo + 46) x = some a ∧ NX τ ρ a b ∧ (xo + 95 ≤ a ∧ a + 16 ≤ zX τ) ∧ LX τ ρ xo b s ∧ TV T n s ∧ RowP V (2 + x) s ∧ nv (tdC s 1) (zI τ) a = (fun i => if i < 96 then V 35 (96 * x + i) else 0) ∧ SI (nv (tdC s 1) (zI τ) a) s k h)
def TpP (τ : Hp) (xo : Nat) (V : VT) : Prop := ∃ n0, n0 ≤ 1000 ∧ zI τ (xo + 1) 1 = nI n0 ∧ V 0 1 = nI n0 ∧ V 1 = zI τ (xo + 2) ∧ ∀ i, i < n0 → okS (zI τ (xo + 2) i)
/-- the shape of the heap -/
def HpP (τ : Hp) (ρ : Nat → Nat) (xo S9 k : Nat) : Prop := XS τ xo ∧ MS τ (xo + 52) ∧ RGn ρ (xo + 30) 16 ∧ (zK τ (xo + 94) = 21 ∧ zN τ (xo + 94) = 1) ∧ xo + 95 ≤ zX τ ∧ zX τ ≤ xo + 95 + 22 * k ∧ zS τ ≤ S9 + 3201 * k
/-- the marks are nights of their own -/
def MkU (τ : Hp) (xo : Nat) : Prop := ∀ x y a, x < 4 → y < 4 → zQ τ (xo + 46) x = some a → zQ τ (xo + 46) y = some a → x = y
/-- what holds between two calls -/
def LIc (xo S9 k : Nat) (τ : Hp) (ρ : Nat → Nat) (b : Nat) (s : TD) (T : ST) (n h : Nat) : Prop := HpP τ ρ xo S9 k ∧ (NX τ ρ (xo + 14) b ∧ LX τ ρ xo b s ∧ TV T n s) ∧ (RowP (vV τ (xo + 52)) 0 s ∧ Far36 (vV τ (xo + 52)) s) ∧ (nv (tdC s 1) (zI τ) (xo + 14) = vV τ (xo + 52) 33 ∧ zI τ (xo + 14) 2 = -1 ∧ SI (vV τ (xo + 52) 33) s k h) ∧ TpP τ xo (vV τ (xo + 52)) ∧ (vV τ (xo + 52) 0 30 = 0 ∨ vV τ (xo + 52) 0 30 = 1) ∧ (∀ x, x < 4 → MkP τ ρ xo (vV τ (xo + 52)) k x) ∧ MkU τ xo
def LI (xo S9 k : Nat) (τ : Hp) : Prop := ∃ (ρ : Nat → Nat) (b : Nat) (s : TD) (T : ST) (n h : Nat), LIc xo S9 k τ ρ b s T n h
theorem MS.loc (hM : MS τ m) (e : ∀ p, m ≤ p → p < m + 42 → zK τ2 p = zK τ p ∧ zN τ2 p = zN τ p ∧ zQ τ2 p = zQ τ p) : MS τ2 m := by
  refine ⟨(e m (by omega) (by omega)).1.trans hM.1, fun q h1 h2 => ?_⟩
  rw [(e m (by omega) (by omega)).2.2, (e (m + q) (by omega) (by omega)).1, (e (m + q) (by omega) (by omega)).2.1]
  exact hM.2 q h1 h2
/-- a mark lasts -/
theorem MkP.fr {ρ2 : Nat → Nat} {k2 x : Nat} (hP : MkP τ ρ xo V k x) (hk : k ≤ k2) (e : FrX τ ρ ρ2 xo τ2) (e46 : zQ τ2 (xo + 46) x = zQ τ (xo + 46) x) (en : ∀ a, zQ τ (xo + 46) x = some a → ∀ p, a ≤ p → p < a + 16 → zI τ2 p = zI τ p ∧ zQ τ2 p = zQ τ p) (e41 : V2 41 x = V 41 x) (e35 : ∀ i, i < 96 → V2 35 (96 * x + i) = V 35 (96 * x + i)) (er : ∀ (s : TD) (T : ST) (n : Nat), TV T n s → RowP V (2 + x) s → RowP V2 (2 + x) s) : MkP τ2 ρ2 xo V2 k2 x := by
  rcases hP with ⟨h1, h2⟩ | ⟨h1, a, b, s, T, n, h, h2, h3, h4, h5, h6, h7, h8, h9⟩
  · exact Or.inl ⟨e41.trans h1, e46.trans h2⟩
  · have ei : ∀ p, a ≤ p → p < a + 16 → zI τ2 p = zI τ p := fun p q1 q2 => (en a h2 p q1 q2).1
    have hnv : nv (tdC s 1) (zI τ2) a = nv (tdC s 1) (zI τ) a := nv_fr (fun i hi _ _ => ei _ (by omega) (by omega))
    refine Or.inr ⟨e41.trans h1, a, b, s, T, n, h, e46.trans h2, ⟨h3.1.loc (fun p q1 q2 => ?_), ?_, fun i hi => ?_⟩, ⟨h4.1, by have := e.1; omega⟩, h5.fr e, h6, er s T n h6 h7, ?_, ?_⟩
    · have q := e.2 p (by omega) (by omega)
      exact ⟨q.2.1, q.2.2.1, (en a h2 p q1 q2).2⟩
    · rw [(en a h2 a (by omega) (by omega)).2]; exact h3.2.1
    · exact (e.2 (a + i) (by omega) (by omega)).1.trans (h3.2.2 i hi)
    · rw [hnv, h8]
      funext i
      by_cases q : i < 96
      · rw [if_pos q, if_pos q, e35 i q]
      · rw [if_neg q, if_neg q]
    · rw [hnv]; exact h9.up hk
theorem Pz_hi {V V' : VT} (hz : Pz V V') (h : ∀ o, 42 ≤ o → V o = fun _ => 0) : ∀ o, 42 ≤ o → V' o = fun _ => 0 := fun o ho => (hz.1 o (by omega) (by omega) (by omega)).trans (h o ho)
/-- a class's call that answers r and leaves the state S', and a reference's call that does the same -/
theorem li_gen {mc mr : MI} {dc dr : Nat} {A1 A2 : List Value} (hL : LIc xo S9 k τ ρ b s T n h) {S' : ST} {h' : Nat} (hS : SI S' s (k + 1) h')
    (hc : Sp G mc dc A1 τ (fun rv σ' => ∃ r, QC τ xo b (tdC s 1) (zI τ) r S' rv σ' ∧ ∀ σ1, MS σ1 (xo + 52) → Sp G mr dr A2 (sv σ1 (xo + 52) (vV τ (xo + 52)) (vU σ1 (xo + 52))) (QA σ1 (xo + 52) (vV τ (xo + 52)) r S'))) :
    Sp G mc dc A1 τ (fun rv τ1 => ∃ r, (rv = some (.int r) ∧ zK τ1 (xo + 52) = 9) ∧ Sp G mr dr A2 τ1 (fun rv τ2 => rv = some (.int r) ∧ LI xo S9 (k + 1) τ2)) := by
  obtain ⟨⟨hX, hM, hR30, hOut, hx1, hx2, hx3⟩, ⟨hN, hLX, hV⟩, ⟨hRow, h36⟩, ⟨hnv, hbar, hSI⟩, hTp, h30, hMk, hMu⟩ := hL
  refine ht_mono hc ?_
  rintro rv σ' ⟨r, ⟨hrv, t, Z2, rfl, hfr, hnv2, hbar2⟩, hr⟩
  refine ⟨r, ⟨hrv, hM.1⟩, ?_⟩
  have hF := hLX.2.2.2.2
  have zf : ∀ p, ¬ (xo + 14 ≤ p ∧ p < xo + 52) → (∀ f, isF τ b f → p ≠ f + 1) → Z2 p = zI τ p := fun p q1 q2 => hfr p (fun z => by
    rcases z with z | ⟨f, z1, z2⟩
    · exact q1 z
    · exact q2 f z1 z2)
  have hM1 : MS (cv (wQ τ (xo + 30) 0 t) Z2) (xo + 52) := hM.loc (fun p q1 q2 => ⟨rfl, rfl, zQ_a _ _ (by omega)⟩)
  have hV1 : vV (cv (wQ τ (xo + 30) 0 t) Z2) (xo + 52) = vV τ (xo + 52) := vV_cg (fun q hq => zf _ (by omega) (fun f hf e => by have := (hF f hf).2.2.1; omega))
  have hs1 := sv_id (cv (wQ τ (xo + 30) 0 t) Z2) (xo + 52)
  rw [hV1] at hs1
  have hr1 := hr _ hM1
  rw [hs1] at hr1
  refine ht_mono hr1 ?_
  rintro rv2 σ2 ⟨hrv2, V', U', rfl, hPz, h33⟩
  refine ⟨hrv2, ρ, b, s, T, n, h', ?_⟩
  have hV' : vV (sv (cv (wQ τ (xo + 30) 0 t) Z2) (xo + 52) V' U') (xo + 52) = V' := vV_sv (Pz_hi hPz (fun q hq => vV_hi τ (xo + 52) hq))
  have io : ∀ p, p < xo + 52 ∨ xo + 94 ≤ p → zI (sv (cv (wQ τ (xo + 30) 0 t) Z2) (xo + 52) V' U') p = Z2 p := fun p hp => (sv_out _ _ V' U' (by omega)).1
  have eX : FrX τ ρ ρ xo (sv (cv (wQ τ (xo + 30) 0 t) Z2) (xo + 52) V' U') := by
    refine ⟨Nat.le_refl _, fun p hp hp2 => ⟨rfl, rfl, rfl, Or.inl (zQ_a _ _ (by omega)), ?_⟩⟩
    by_cases q : ∃ f, isF τ b f ∧ p = f + 1
    · obtain ⟨f, q1, q2⟩ := q
      refine Or.inr (Or.inr (Or.inl ?_))
      have h1 := (hF f q1).1 1 (by decide)
      rw [← q2] at h1
      rw [h1]
      exact ⟨(hF f q1).2.1, q2⟩
    · refine Or.inl ?_
      rw [io p (by omega)]
      exact zf p (by omega) (fun f hf e => q ⟨f, hf, e⟩)
  have hne14 : ∀ p, xo ≤ p → p < xo + 52 → p ≠ xo + 30 → zQ (sv (cv (wQ τ (xo + 30) 0 t) Z2) (xo + 52) V' U') p = zQ τ p := fun p _ _ q => zQ_a _ _ q
  have hpz := hPz.1
  unfold LIc
  rw [hV']
  refine ⟨⟨hX.w0, hM.loc (fun p q1 q2 => ⟨rfl, rfl, zQ_a _ _ (by omega)⟩), hR30, hOut, hx1, ?_, ?_⟩, ⟨⟨hN.1.loc (fun p q1 q2 => ⟨rfl, rfl, hne14 p (by omega) (by omega) (by omega)⟩), ?_, hN.2.2⟩, hLX.fr eX, hV⟩, ⟨hRow.cg (fun q q1 q2 => hpz q (by omega) (by omega) (by omega)), ?_⟩, ⟨?_, ?_, ?_⟩, ?_, ?_, fun x hx => ?_, ?_⟩
  · show zX τ ≤ xo + 95 + 22 * (k + 1)
    omega
  · show zS τ ≤ S9 + 3201 * (k + 1)
    omega
  · rw [hne14 _ (by omega) (by omega) (by omega)]; exact hN.2.1
  · obtain ⟨F, hF36⟩ := h36
    exact ⟨F, fun c hc => by rw [hpz 36 (by decide) (by decide) (by decide)]; exact hF36 c hc⟩
  · rw [h33, ← hnv2]
    exact nv_fr (fun i hi _ _ => io _ (by omega))
  · rw [io _ (by omega)]; exact hbar2
  · rw [h33]; exact hS
  · obtain ⟨n0, g1, g2, g3, g4, g5⟩ := hTp
    have z1 : Z2 (xo + 1) = zI τ (xo + 1) := zf _ (by omega) (fun f hf e => by have := (hF f hf).2.2.1; omega)
    have z2 : Z2 (xo + 2) = zI τ (xo + 2) := zf _ (by omega) (fun f hf e => by have := (hF f hf).2.2.1; omega)
    refine ⟨n0, g1, ?_, hPz.2.1.trans g3, ?_, ?_⟩
    · rw [io _ (by omega), z1]; exact g2
    · rw [io _ (by omega), z2, hpz 1 (by decide) (by decide) (by decide)]; exact g4
    · rw [io _ (by omega), z2]; exact g5
  · rw [hPz.2.2]; exact h30
  · refine (hMk x hx).fr (by omega) eX (congrFun (hne14 _ (by omega) (by omega) (by omega)) x) (fun a ha p q1 q2 => ?_) (by rw [hpz 41 (by decide) (by decide) (by decide)]) (fun i _ => by rw [hpz 35 (by decide) (by decide) (by decide)]) (fun s2 T9 n9 _ hs2 => hs2.cg (fun q q1 q2 => hpz q (by omega) (by omega) (by omega)))
    rcases hMk x hx with ⟨_, z⟩ | ⟨_, a2, b2, s2, T2, n2, h2, y1, y2, y3, _⟩
    · rw [z] at ha; cases ha
    · rw [y1] at ha
      cases ha
      refine ⟨?_, zQ_a _ _ (by omega)⟩
      rw [io p (by omega)]
      refine zf p (by omega) (fun f hf e => ?_)
      have h1 := (hF f hf).1 1 (by decide)
      have h3 := y2.2.2 (p - a) (by omega)
      rw [show a + (p - a) = p by omega, e, h1] at h3
      have h4 := (hF f hf).2.1
      rw [h3, y2.1.k0] at h4
      cases h4
  · intro x y a hx hy h1 h2
    have e46 := hne14 (xo + 46) (by omega) (by omega) (by omega)
    rw [e46] at h1 h2
    exact hMu x y a hx hy h1 h2
end T4
