/-! ===== the calls: prison ===== -/
section T8
variable {G : GG} {τ τ1 τ2 : Hp} {ad : Nat → Nat} {aA aS aV : Nat} {ρ : Nat → Nat} {T : ST} {n xo b k h S9 : Nat} {s : TD} {S : ST} {V V2 : VT}
def rhoF (x y : Option Nat) (p : Nat) : Nat := if x.getD 0 ≤ p ∧ p < x.getD 0 + 3 then x.getD 0 else y.getD 0
/-- the blocks once a prison was read -/
def rhoP (ρ : Nat → Nat) (r : Nat) (x y : Option Nat) (p : Nat) : Nat := if p < r then ρ p else if p < r + 12 then r + 1 else rhoF x y p
theorem FmW_k {σ : Hp} {Z : VT} {g : Option GWt} {f : Nat} (h : FmW σ Z b g) (hf : zQ σ b 5 = some f) : zK σ f = 1 := by
  unfold FmW at h
  cases g with
  | none => rw [h] at hf; cases hf
  | some g =>
    obtain ⟨f2, n2, h1, h2, _⟩ := h
    rw [h1] at hf
    cases hf
    exact h2.1
theorem FmI_k {σ : Hp} {Z : VT} {g : Option GIt} {f : Nat} (h : FmI σ Z b g) (hf : zQ σ b 6 = some f) : zK σ f = 1 := by
  unfold FmI at h
  cases g with
  | none => rw [h] at hf; cases hf
  | some g =>
    obtain ⟨f2, n2, h1, h2, _⟩ := h
    rw [h1] at hf
    cases hf
    exact h2.1
theorem LTd.lx {r : Nat} {σ' : Hp} (h : LTd s r σ') (h8 : tdC s 0 ≤ 8) (hr : xo + 95 ≤ r) (hx : r + 16 ≤ zX σ') : LX σ' (rhoP ρ r (zQ σ' (r + 1) 5) (zQ σ' (r + 1) 6)) xo (r + 1) s := by
  obtain ⟨h1, h2, ⟨r10, r11, r15, r17, r16⟩, hw, fW, fI, hf, hap⟩ := h
  refine ⟨⟨h1, fun i hi => ?_, Or.inr (by omega), by omega⟩, ⟨h2, fun j hj => ⟨congrFun r10 j, congrFun r11 j⟩, fun j hj => congrFun r15 j, fun g hg => ⟨congrFun r16 g, fun i _ => congrFun r17 _⟩, fun c hc => (hw c (by omega)).1⟩, fW, fI, fun f hf2 => ?_⟩
  · unfold rhoP
    rw [if_neg (by omega), if_pos (by omega)]
  · have hb := hf f hf2
    refine ⟨fun i hi => ?_, ?_, by omega, hb.2⟩
    · unfold rhoP
      rw [if_neg (by omega), if_neg (by omega)]
      unfold rhoF
      rcases hf2 with q | q
      · rw [q]
        exact if_pos ⟨by show f ≤ f + i; omega, by show f + i < f + 3; omega⟩
      · rw [q]
        cases hq : zQ σ' (r + 1) 5 with
        | none => exact if_neg (by show ¬ (0 ≤ f + i ∧ f + i < 0 + 3); omega)
        | some fw =>
          have h9 := hap fw f hq q
          exact if_neg (by show ¬ (fw ≤ f + i ∧ f + i < fw + 3); omega)
    · rcases hf2 with q | q
      · exact FmW_k fW q
      · exact FmI_k fI q
theorem ice_of {x : Int32} (h : x = 0 ∨ x = 1) : ∃ ice : Bool, x = (if ice then 1 else 0) := by
  rcases h with h | h
  · exact ⟨false, h⟩
  · exact ⟨true, h⟩
theorem rowAt_0 {y o i : Nat} (h : rowAt y o i) : o ≠ 0 := by
  unfold rowAt at h
  omega
set_option maxRecDepth 10000 in
theorem cl_prison (hE : NE G) (hB : BK G ad aA aS aV) (hJ : ∀ i j, i < 22 → j < 22 → ad i = ad j → i = j) (hL : LIc xo S9 k τ ρ b s T n h) (hc : zX τ + 22 ≤ gC G) (hs : zS τ + 3201 ≤ gS G) : Sp G mX9_prison 45 [.ref xo] τ (fun rv τ1 => ∃ r, (rv = some (.int r) ∧ zK τ1 (xo + 52) = 9) ∧ Sp G mX10_prison 5 [.ref (xo + 52)] τ1 (fun rv τ2 => rv = some (.int r) ∧ LI xo S9 (k + 1) τ2)) := by
  obtain ⟨⟨hX, hM, hR30, hOut, hx1, hx2, hx3⟩, ⟨hN, hLX, hV⟩, ⟨hRow, h36⟩, ⟨hnv, hbar, hSI⟩, ⟨n0, g1, g2, g3, g4, g5⟩, h30, hMk, hMu⟩ := hL
  refine ht_mono (sk_prison (G := G) (σ := τ) (Z := zI τ) (T := zI τ (xo + 2)) (n := n0) hE hB hJ hX (by omega) rfl g5 g1 g2 hc hs) ?_
  rintro rv σ' ⟨res, hCh, ⟨pb, px1, px2, ps⟩, hcase⟩
  have ei : ∀ p, p < zX τ → ¬ (xo + 14 ≤ p ∧ p < xo + 30) → p ≠ xo + 1 → zI σ' p = zI τ p := fun p hp h1 h2 => ((pb p hp).2.2.2.2 h1).trans (up2_o _ _ h2)
  have hM1 : MS σ' (xo + 52) := hM.loc (fun p q1 q2 => ⟨(pb p (by omega)).1, (pb p (by omega)).2.1, (pb p (by omega)).2.2.2.1 (by omega)⟩)
  have hV1 : vV σ' (xo + 52) = vV τ (xo + 52) := vV_cg (fun q hq => ei _ (by omega) (by omega) (by omega))
  have hs1 := sv_id σ' (xo + 52)
  rw [hV1] at hs1
  obtain ⟨ice, hice⟩ := ice_of h30
  have h96 : ∀ i, 96 ≤ i → vV τ (xo + 52) 33 i = 0 := fun i hi => by rw [← hnv]; exact nv_hi _ _ _ (by omega)
  have hr1 := sr_prison (G := G) (σ := σ') (V := vV τ (xo + 52)) (U := vU σ' (xo + 52)) (T := zI τ (xo + 2)) (n := n0) hM1 g4 g3 g1 hice h96 hCh
  rw [hs1] at hr1
  have hl1 : zI σ' (xo + 1) 1 = 0 := by rw [(pb _ (by omega)).2.2.2.2 (by omega)]; exact up2_s _ _ _ _
  have hsg : zI σ' (xo + 2) = zI τ (xo + 2) := ei _ (by omega) (by omega) (by omega)
  rcases hcase with ⟨f, rfl, hrv, q14, z14⟩ | ⟨s2, q2, rfl, hrv, ⟨qa, qb⟩, hnv2, hbar2, hLT⟩
  · refine ⟨f, ⟨hrv, hM1.1⟩, ht_mono hr1 ?_⟩
    rintro rv2 σ2 ⟨V', U', rfl, hu, hb30, ⟨f2, e, hrv2, hfr⟩ | ⟨s3, q3, e, _⟩⟩
    rotate_left
    · cases e
    cases e
    refine ⟨hrv2, ρ, b, s, T, n, h, ?_⟩
    have e2 : ∀ o i, ¬ chg o i → o ≠ 0 → V' o i = vV τ (xo + 52) o i := fun o i h1 h2 => (hfr o i h1).trans ((up2_a _ _ h2).trans (up2_a _ _ h2))
    have e3 : ∀ o, 23 ≤ o → V' o = vV τ (xo + 52) o := fun o h1 => funext (fun i => e2 o i (by unfold chg; omega) (by omega))
    have hV' : vV (sv σ' (xo + 52) V' U') (xo + 52) = V' := vV_sv (fun q hq => (e3 q (by omega)).trans (vV_hi τ (xo + 52) hq))
    have io : ∀ p, p < xo + 52 ∨ xo + 94 ≤ p → zI (sv σ' (xo + 52) V' U') p = zI σ' p := fun p hp => (sv_out _ _ V' _ (by omega)).1
    have eX : FrX τ ρ ρ xo (sv σ' (xo + 52) V' U') := by
      refine ⟨by show zX τ ≤ zX σ'; omega, fun p hp hp2 => ⟨rfl, (pb p hp2).1, (pb p hp2).2.1, Or.inl ((pb p hp2).2.2.2.1 (by omega)), ?_⟩⟩
      by_cases q : p < xo + 3
      · exact Or.inr (Or.inl q)
      · exact Or.inl ((io p (by omega)).trans (ei p hp2 (by omega) (by omega)))
    have qq : ∀ p, p < zX τ → zQ σ' p = zQ τ p := fun p hp => by
      by_cases q : p = xo + 14
      · rw [q]; exact q14
      · exact (pb p hp).2.2.2.1 q
    have zz : ∀ p, p < zX τ → p ≠ xo + 1 → zI σ' p = zI τ p := fun p hp h1 => by
      by_cases q : xo + 14 ≤ p ∧ p < xo + 30
      · exact z14 p q.1 q.2
      · exact ei p hp q h1
    unfold LIc
    rw [hV']
    refine ⟨⟨hX.loc (fun p h1 h2 => ⟨(pb p (by omega)).1, (pb p (by omega)).2.1, qq p (by omega)⟩), hM.loc (fun p h1 h2 => ⟨(pb p (by omega)).1, (pb p (by omega)).2.1, qq p (by omega)⟩), hR30, ⟨(pb _ (by omega)).1.trans hOut.1, (pb _ (by omega)).2.1.trans hOut.2⟩, ?_, ?_, zS_up ps hx3⟩, ⟨⟨hN.1.loc (fun p h1 h2 => ⟨(pb p (by omega)).1, (pb p (by omega)).2.1, qq p (by omega)⟩), ?_, hN.2.2⟩, hLX.fr eX, hV⟩, ⟨hRow.mv hV (fun o i hr => e2 o i (rowAt_n (Or.inl rfl) hr) (rowAt_0 hr)), ?_⟩, ⟨?_, ?_, ?_⟩, ⟨0, by decide, ?_, ?_, ?_, fun i hi => absurd hi (Nat.not_lt_zero _)⟩, hb30, fun x hx => ?_, fun x y a hx hy h1 h2 => hMu x y a hx hy ((congrFun (qq (xo + 46) (by omega)) x).symm.trans h1) ((congrFun (qq (xo + 46) (by omega)) y).symm.trans h2)⟩
    · show xo + 95 ≤ zX σ'
      omega
    · show zX σ' ≤ xo + 95 + 22 * (k + 1)
      omega
    · show zQ σ' (xo + 14) 0 = some b
      rw [q14]; exact hN.2.1
    · obtain ⟨F, hF36⟩ := h36
      exact ⟨F, fun c hc => by rw [e3 36 (by decide)]; exact hF36 c hc⟩
    · rw [e3 33 (by decide), ← hnv]
      exact nv_fr (fun i hi _ _ => (io _ (by omega)).trans (zz _ (by omega) (by omega)))
    · rw [io _ (by omega), zz _ (by omega) (by omega)]; exact hbar
    · rw [e3 33 (by decide)]; exact hSI.up (by omega)
    · rw [io _ (by omega)]; exact hl1
    · rw [hfr 0 1 (by unfold chg; omega)]; exact up2_s _ _ _ _
    · rw [io _ (by omega), hsg, ← g4]
      funext i
      exact e2 1 i (by unfold chg; omega) (by decide)
    · refine (hMk x hx).fr (by omega) eX (congrFun (qq _ (by omega)) x) (fun a ha p q1 q3 => ?_) (by rw [e3 41 (by decide)]) (fun i _ => by rw [e3 35 (by decide)]) (fun s3 T9 n9 hv9 hs3 => hs3.mv hv9 (fun o i hr => e2 o i (rowAt_n (Or.inr (by omega)) hr) (rowAt_0 hr)))
      rcases hMk x hx with ⟨_, z⟩ | ⟨_, a2, b2, s4, T2, n2, h2, y1, y2, y3, _⟩
      · rw [z] at ha; cases ha
      · rw [y1] at ha
        cases ha
        exact ⟨(io p (by omega)).trans (zz p (by omega) (by omega)), qq p (by omega)⟩
  · have hV2 := Chn_v hCh s2 q2 rfl
    refine ⟨0, ⟨hrv, hM1.1⟩, ht_mono hr1 ?_⟩
    rintro rv2 σ2 ⟨V', U', rfl, hu, hb30, ⟨f2, e, _⟩ | ⟨s3, q3, e, hrv2, hPT, hLF, h33, ⟨F, h36b⟩, hfr⟩⟩
    · cases e
    have e9 : s2 = s3 := congrArg Prod.fst (Sum.inl.inj e)
    subst e9
    refine ⟨hrv2, rhoP ρ (zX τ) (zQ σ' (zX τ + 1) 5) (zQ σ' (zX τ + 1) 6), zX τ + 1, s2, zI τ (xo + 2), n0, 0, ?_⟩
    have e2 : ∀ o i, ¬ chg o i → ¬ chz o i → o ≠ 0 → V' o i = vV τ (xo + 52) o i := fun o i h1 h3 h2 => (hfr o i h1 h3).trans ((up2_a _ _ h2).trans (up2_a _ _ h2))
    have e3 : ∀ o, 34 ≤ o → o ≠ 36 → V' o = vV τ (xo + 52) o := fun o h1 h2 => funext (fun i => e2 o i (by unfold chg; omega) (by unfold chz; omega) (by omega))
    have hV' : vV (sv σ' (xo + 52) V' U') (xo + 52) = V' := vV_sv (fun q hq => (e3 q (by omega) (by omega)).trans (vV_hi τ (xo + 52) hq))
    have io : ∀ p, p < xo + 52 ∨ xo + 94 ≤ p → zI (sv σ' (xo + 52) V' U') p = zI σ' p := fun p hp => (sv_out _ _ V' _ (by omega)).1
    have hrho : ∀ p, p < zX τ → rhoP ρ (zX τ) (zQ σ' (zX τ + 1) 5) (zQ σ' (zX τ + 1) 6) p = ρ p := fun p hp => if_pos hp
    have eX : FrX τ ρ (rhoP ρ (zX τ) (zQ σ' (zX τ + 1) 5) (zQ σ' (zX τ + 1) 6)) xo (sv σ' (xo + 52) V' U') := by
      refine ⟨by show zX τ ≤ zX σ'; omega, fun p hp hp2 => ⟨hrho p hp2, (pb p hp2).1, (pb p hp2).2.1, Or.inl ((pb p hp2).2.2.2.1 (by omega)), ?_⟩⟩
      by_cases q : p < xo + 3
      · exact Or.inr (Or.inl q)
      · exact Or.inl ((io p (by omega)).trans (ei p hp2 (by omega) (by omega)))
    have eY : FrX σ' (rhoP ρ (zX τ) (zQ σ' (zX τ + 1) 5) (zQ σ' (zX τ + 1) 6)) (rhoP ρ (zX τ) (zQ σ' (zX τ + 1) 5) (zQ σ' (zX τ + 1) 6)) xo (sv σ' (xo + 52) V' U') := ⟨Nat.le_refl _, fun p hp hp2 => ⟨rfl, rfl, rfl, Or.inl rfl, Or.inl (io p (by omega))⟩⟩
    have hLX2 := (hLT.lx (ρ := ρ) (xo := xo) hV2.1.1 hx1 px1).fr eY
    have q14 : ∀ p, p < zX τ → p ≠ xo + 14 → zQ σ' p = zQ τ p := fun p hp q => (pb p hp).2.2.2.1 q
    have q14i : ∀ p, p < zX τ → ∀ i, i ≠ 0 → zQ σ' p i = zQ τ p i := fun p hp i hi => by
      by_cases q : p = xo + 14
      · rw [q]; exact qb i hi
      · rw [q14 p hp q]
    have hN14 : NtS (sv σ' (xo + 52) V' U') (xo + 14) := hN.1.cf (fun p h1 h2 => ⟨(pb p (by omega)).1, (pb p (by omega)).2.1, fun z => q14 p (by omega) z, q14i p (by omega)⟩)
    have hX2 : XS (sv σ' (xo + 52) V' U') xo := by
      have t2 : NtS (sv σ' (xo + 52) V' U') (xo + 30) := hX.tr.loc (fun p h1 h2 => ⟨(pb p (by omega)).1, (pb p (by omega)).2.1, q14 p (by omega) (by omega)⟩)
      have kk : ∀ j, j < 52 → zK (sv σ' (xo + 52) V' U') (xo + j) = zK τ (xo + j) := fun j hj => (pb _ (by omega)).1
      have mm : ∀ j, j < 52 → zN (sv σ' (xo + 52) V' U') (xo + j) = zN τ (xo + j) := fun j hj => (pb _ (by omega)).2.1
      have qq : ∀ j, j < 14 → zQ (sv σ' (xo + 52) V' U') (xo + j) = zQ τ (xo + j) := fun j hj => q14 _ (by omega) (by omega)
      have k0 : zK (sv σ' (xo + 52) V' U') xo = zK τ xo := kk 0 (by decide)
      have q0 : zQ (sv σ' (xo + 52) V' U') xo = zQ τ xo := qq 0 (by decide)
      unfold XS
      rw [k0, q0, kk 1 (by decide), qq 1 (by decide), kk 2 (by decide), mm 2 (by decide), kk 46 (by decide), mm 46 (by decide), kk 47 (by decide), mm 47 (by decide), kk 48 (by decide), mm 48 (by decide), kk 49 (by decide), mm 49 (by decide), kk 50 (by decide), mm 50 (by decide), kk 51 (by decide), mm 51 (by decide)]
      exact ⟨hX.1, hX.2.1, ⟨hX.q1, hN14⟩, ⟨hX.q2, t2⟩, hX.2.2.2.2⟩
    unfold LIc
    rw [hV']
    refine ⟨⟨hX2, hM.loc (fun p h1 h2 => ⟨(pb p (by omega)).1, (pb p (by omega)).2.1, q14 p (by omega) (by omega)⟩), fun i hi => (hrho _ (by omega)).trans (hR30 i hi), ⟨(pb _ (by omega)).1.trans hOut.1, (pb _ (by omega)).2.1.trans hOut.2⟩, ?_, ?_, zS_up ps hx3⟩, ⟨⟨hN14, qa, fun i hi => (hrho _ (by omega)).trans (hN.2.2 i hi)⟩, hLX2, hV2⟩, ⟨hPT.row hLF hV2, ?_⟩, ⟨?_, ?_, ?_⟩, ⟨0, by decide, ?_, ?_, ?_, fun i hi => absurd hi (Nat.not_lt_zero _)⟩, hb30, fun x hx => ?_, fun x y a hx hy h1 h2 => hMu x y a hx hy ((congrFun (q14 (xo + 46) (by omega) (by omega)) x).symm.trans h1) ((congrFun (q14 (xo + 46) (by omega) (by omega)) y).symm.trans h2)⟩
    · show xo + 95 ≤ zX σ'
      omega
    · show zX σ' ≤ xo + 95 + 22 * (k + 1)
      omega
    · refine ⟨F, fun c hc => ?_⟩
      rw [h36b]
      exact congrFun (wyN_pt (V2 := V') (V := tdV s2) F (fun j hj => ⟨(hPT.2.2.1 j hj).1, (hPT.2.2.1 j hj).2.1⟩) 8) c
    · rw [h33, ← hnv2]
      exact nv_fr (fun i hi _ _ => io _ (by omega))
    · rw [io _ (by omega)]; exact hbar2.trans hbar
    · rw [h33]; exact S0_SI hV2 (k + 1)
    · rw [io _ (by omega)]; exact hl1
    · rw [hfr 0 1 (by unfold chg; omega) (by unfold chz; omega)]; exact up2_s _ _ _ _
    · rw [io _ (by omega), hsg, ← g4]
      funext i
      exact e2 1 i (by unfold chg; omega) (by unfold chz; omega) (by decide)
    · refine (hMk x hx).fr (by omega) eX (congrFun (q14 _ (by omega) (by omega)) x) (fun a ha p q1 q3 => ?_) (by rw [e3 41 (by decide) (by decide)]) (fun i _ => by rw [e3 35 (by decide) (by decide)]) (fun s3 T9 n9 hv9 hs3 => hs3.mv hv9 (fun o i hr => e2 o i (rowAt_n (Or.inr (by omega)) hr) (rowAt_z (by omega) hr) (rowAt_0 hr)))
      rcases hMk x hx with ⟨_, z⟩ | ⟨_, a2, b2, s4, T2, n2, h2, y1, y2, y3, _⟩
      · rw [z] at ha; cases ha
      · rw [y1] at ha
        cases ha
        exact ⟨(io p (by omega)).trans (ei p (by omega) (by omega) (by omega)), q14 p (by omega) (by omega)⟩
end T8
