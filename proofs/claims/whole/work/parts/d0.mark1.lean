/-! ===== the call mark, both sides ===== -/
section U0
variable {G : GG} {τ τ1 τ2 : Hp} {ρ : Nat → Nat} {T : ST} {n xo b k h S9 : Nat} {s : TD} {S : ST} {V V2 : VT}
theorem mkOk {j : Nat} {y : Int32} (hj : j < 4) (h : y = 0 ∨ V 41 j = 1) : aMarkOk V (nI j) y := by
  refine ⟨⟨(nI_leI (a := 0) (b := j) (by omega) (by omega)).mpr (Nat.zero_le _), (nI_leI (a := j) (b := 3) (by omega) (by omega)).mpr (by omega)⟩, fun z => ?_⟩
  rcases h with h | h
  · exact z.1 h
  · have h2 := z.2
    rw [nI_clamp (by omega), h] at h2
    exact absurd h2 (by decide)
set_option maxRecDepth 10000 in
theorem mk_back (hL : LIc xo S9 k τ ρ b s T n h) {j a b2 : Nat} {y : Int32} (hj : j < 4) (hy : ¬ y = 0) (hmj : zQ τ (xo + 46) j = some a) (hb2 : zQ τ a 0 = some b2) {Z2 : VT} (hcp : CpN (zI τ) Z2 (xo + 14) a 10) : Sp G mX10_mark 2 [.ref (xo + 52), .int (nI j), .int y] (cv (wQ τ (xo + 14) 0 (some b2)) Z2) (fun rv τ2 => rv = some (.int 1) ∧ LI xo S9 (k + 1) τ2) := by
  obtain ⟨⟨hX, hM, hR30, hOut, hx1, hx2, hx3⟩, ⟨hN, hLX, hV⟩, ⟨hRow, h36⟩, ⟨hnv, hbar, hSI⟩, ⟨n0, g1, g2, g3, g4, g5⟩, h30, hMk, hMu⟩ := hL
  have h96 : ∀ i, 96 ≤ i → vV τ (xo + 52) 33 i = 0 := fun i hi => by rw [← hnv]; exact nv_hi _ _ _ (by omega)
  rcases hMk j hj with ⟨_, z⟩ | ⟨v41, a9, b9, s9, T9, n9, h9, y1, y2, y3, y4, y5, y6, y7, y8⟩
  · rw [z] at hmj; cases hmj
  have ea : a9 = a := Option.some.inj (y1.symm.trans hmj)
  subst ea
  have eb : b9 = b2 := Option.some.inj (y2.2.1.symm.trans hb2)
  subst eb
  have fr : ∀ p, ¬ (xo + 14 ≤ p ∧ p < xo + 30) → Z2 p = zI τ p := fun p hp => hcp.1 p (by omega)
  have hM1 : MS (cv (wQ τ (xo + 14) 0 (some b9)) Z2) (xo + 52) := hM.loc (fun p q1 q2 => ⟨rfl, rfl, zQ_a _ _ (by omega)⟩)
  have hV1 : vV (cv (wQ τ (xo + 14) 0 (some b9)) Z2) (xo + 52) = vV τ (xo + 52) := vV_cg (fun q hq => fr _ (by omega))
  have hs1 := sv_id (cv (wQ τ (xo + 14) 0 (some b9)) Z2) (xo + 52)
  rw [hV1] at hs1
  have hRB := y6.mkB y5
  have hr1 := sm_mark (G := G) (V := vV τ (xo + 52)) (U := vU (cv (wQ τ (xo + 14) 0 (some b9)) Z2) (xo + 52)) hM1 (nI j) y (cN := tdC s9 0) (dN := tdC s9 1) (mN := tdC s9 2) (gk := tdC s9 3) (fun _ _ => by rw [nI_clamp (by omega)]; exact hRB.pl y5)
  rw [hs1, nI_clamp (by omega)] at hr1
  refine ht_mono hr1 ?_
  rintro rv2 σ2 (⟨q1, _⟩ | ⟨_, _, hrv2, V', rfl, hdo, h36b⟩ | ⟨_, q2, _⟩)
  · exact absurd (mkOk hj (Or.inr v41)) q1
  rotate_left
  · exact absurd q2 hy
  refine ⟨hrv2, ρ, b9, s9, T9, n9, h9, ?_⟩
  have mb := mkB_v (vV τ (xo + 52)) j
  have e2 : ∀ o i, ¬ rowAt 0 o i → o ≠ 0 → o ≠ 41 → o ≠ 33 → o ≠ 36 → V' o i = vV τ (xo + 52) o i := fun o i h1 h2 h3 h4 h5 => (congrFun (hdo o h5) i).trans (mb.1 o i h1 h2 h3 h4)
  have e41 : ∀ i, V' 41 i = (if i = j then 1 else vV τ (xo + 52) 41 i) := fun i => (congrFun (hdo 41 (by decide)) i).trans (mb.2.2.1 i)
  have e33 : V' 33 = fun i => if i < 96 then vV τ (xo + 52) 35 (96 * j + i) else 0 := by
    rw [hdo 33 (by decide)]
    funext i
    rw [mb.2.2.2 i]
    by_cases q : i < 96
    · rw [if_pos q, if_pos q]
    · rw [if_neg q, if_neg q]; exact h96 i (by omega)
  have hV' : vV (sv (cv (wQ τ (xo + 14) 0 (some b9)) Z2) (xo + 52) V' (vU (cv (wQ τ (xo + 14) 0 (some b9)) Z2) (xo + 52))) (xo + 52) = V' := vV_sv (fun q hq => funext (fun i => (e2 q i (row_hi (by omega)) (by omega) (by omega) (by omega) (by omega)).trans (congrFun (vV_hi τ (xo + 52) hq) i)))
  have io : ∀ p, p < xo + 52 ∨ xo + 94 ≤ p → zI (sv (cv (wQ τ (xo + 14) 0 (some b9)) Z2) (xo + 52) V' (vU (cv (wQ τ (xo + 14) 0 (some b9)) Z2) (xo + 52))) p = Z2 p := fun p hp => (sv_out _ _ V' _ (by omega)).1
  have eX : FrX τ ρ ρ xo (sv (cv (wQ τ (xo + 14) 0 (some b9)) Z2) (xo + 52) V' (vU (cv (wQ τ (xo + 14) 0 (some b9)) Z2) (xo + 52))) := ⟨Nat.le_refl _, fun p hp hp2 => ⟨rfl, rfl, rfl, Or.inl (zQ_a _ _ (by omega)), Or.inl ((io p (by omega)).trans (fr p (by omega)))⟩⟩
  have hN14 : NtS (sv (cv (wQ τ (xo + 14) 0 (some b9)) Z2) (xo + 52) V' (vU (cv (wQ τ (xo + 14) 0 (some b9)) Z2) (xo + 52))) (xo + 14) := hN.1.cf (fun p h1 h2 => ⟨rfl, rfl, fun z => zQ_a _ _ z, fun i hi => zQ_k _ _ hi⟩)
  have hX2 : XS (sv (cv (wQ τ (xo + 14) 0 (some b9)) Z2) (xo + 52) V' (vU (cv (wQ τ (xo + 14) 0 (some b9)) Z2) (xo + 52))) xo := by
    have t2 : NtS (sv (cv (wQ τ (xo + 14) 0 (some b9)) Z2) (xo + 52) V' (vU (cv (wQ τ (xo + 14) 0 (some b9)) Z2) (xo + 52))) (xo + 30) := hX.tr.loc (fun p h1 h2 => ⟨rfl, rfl, zQ_a _ _ (by omega)⟩)
    have q0 : zQ (sv (cv (wQ τ (xo + 14) 0 (some b9)) Z2) (xo + 52) V' (vU (cv (wQ τ (xo + 14) 0 (some b9)) Z2) (xo + 52))) xo = zQ τ xo := zQ_a _ _ (by omega)
    have q1 : zQ (sv (cv (wQ τ (xo + 14) 0 (some b9)) Z2) (xo + 52) V' (vU (cv (wQ τ (xo + 14) 0 (some b9)) Z2) (xo + 52))) (xo + 1) = zQ τ (xo + 1) := zQ_a _ _ (by omega)
    unfold XS
    rw [q0, q1]
    exact ⟨hX.1, hX.2.1, ⟨hX.q1, hN14⟩, ⟨hX.q2, t2⟩, hX.2.2.2.2⟩
  have q46 : zQ (sv (cv (wQ τ (xo + 14) 0 (some b9)) Z2) (xo + 52) V' (vU (cv (wQ τ (xo + 14) 0 (some b9)) Z2) (xo + 52))) (xo + 46) = zQ τ (xo + 46) := zQ_a _ _ (by omega)
  have hnv3 : nv (tdC s9 1) (zI (sv (cv (wQ τ (xo + 14) 0 (some b9)) Z2) (xo + 52) V' (vU (cv (wQ τ (xo + 14) 0 (some b9)) Z2) (xo + 52)))) (xo + 14) = nv (tdC s9 1) (zI τ) a9 := (nv_fr (fun i hi _ _ => io _ (by omega))).trans (nv_copy hcp _)
  unfold LIc
  rw [hV']
  refine ⟨⟨hX2, hM.loc (fun p h1 h2 => ⟨rfl, rfl, zQ_a _ _ (by omega)⟩), hR30, hOut, hx1, ?_, zS_up (Nat.le_add_right _ _) hx3⟩, ⟨⟨hN14, zQ_s _ _ _ _, hN.2.2⟩, y4.fr eX, y5⟩, ⟨hRB.cg (fun o h1 h2 => hdo o (by omega)), ?_⟩, ⟨?_, ?_, ?_⟩, ⟨n0, g1, ?_, ?_, ?_, ?_⟩, ?_, fun x hx => ?_, ?_⟩
  · show zX τ ≤ xo + 95 + 22 * (k + 1)
    omega
  · refine ⟨mkB (vV τ (xo + 52)) j 36, fun c hc => ?_⟩
    rw [h36b]
    refine congrFun (wyN_pt (V2 := mkB (vV τ (xo + 52)) j) (V := tdV s9) _ (fun d hd => ?_) 8) c
    have h1 := hRB.2.1 d hd
    rw [Nat.mul_zero, Nat.zero_add] at h1
    exact h1
  · rw [hnv3, y7, e33]
  · rw [io _ (by omega)]; exact hcp.2.2.1
  · rw [e33, ← y7]; exact y8.up (by omega)
  · rw [io _ (by omega), fr _ (by omega)]; exact g2
  · rw [hdo 0 (by decide), mb.2.1 1 (by decide)]; exact g3
  · rw [io _ (by omega), fr _ (by omega), ← g4]
    funext i
    exact e2 1 i (row_hi (by decide)) (by decide) (by decide) (by decide) (by decide)
  · rw [io _ (by omega), fr _ (by omega)]; exact g5
  · rw [hdo 0 (by decide), mb.2.1 30 (by decide)]; exact h30
  · refine (hMk x hx).fr (by omega) eX (congrFun q46 x) (fun a2 ha p q1 q3 => ?_) ?_ (fun i hi => e2 35 _ (row_hi (by decide)) (by decide) (by decide) (by decide) (by decide)) (fun s3 T8 n8 hv8 hs3 => hs3.mv hv8 (fun o i hr => e2 o i (rowAt_ne hr (by omega)) (rowAt_0 hr) (by have := rowAt_r hr; omega) (by have := rowAt_r hr; omega) (by have := rowAt_r hr; omega)))
    · rcases hMk x hx with ⟨_, z⟩ | ⟨_, a3, b3, s4, T2, n2, h2, z1, z2, z3, _⟩
      · rw [z] at ha; cases ha
      · rw [z1] at ha
        cases ha
        exact ⟨(io p (by omega)).trans (fr p (by omega)), zQ_a _ _ (by omega)⟩
    · rw [e41]
      by_cases q : x = j
      · rw [if_pos q, q]; exact v41.symm
      · rw [if_neg q]
  · intro x y2 a2 hx hy2 h1 h2
    rw [q46] at h1 h2
    exact hMu x y2 a2 hx hy2 h1 h2
set_option maxRecDepth 10000 in
theorem mk_forth (hL : LIc xo S9 k τ ρ b s T n h) {j a : Nat} (hj : j < 4) {ρ2 : Nat → Nat} {σ' : Hp} (hX2 : XS σ' xo) (hM2 : MS σ' (xo + 52)) (hlo : ∀ p, p < zX τ → ¬ (a ≤ p ∧ p < a + 16) → zK σ' p = zK τ p ∧ zN σ' p = zN τ p ∧ zI σ' p = zI τ p ∧ (p ≠ xo + 46 → zQ σ' p = zQ τ p)) (hρ : ∀ p, p < zX τ → ρ2 p = ρ p) (eX : FrX τ ρ ρ2 xo σ') (hq46 : ∀ i, i ≠ j → zQ σ' (xo + 46) i = zQ τ (xo + 46) i) (hqj : zQ σ' (xo + 46) j = some a) (hNa : NX σ' ρ2 a b) (ha : xo + 95 ≤ a ∧ a + 16 ≤ zX σ') (hnva : nv (tdC s 1) (zI σ') a = nv (tdC s 1) (zI τ) (xo + 14)) (hap : ∀ i, i < 4 → i ≠ j → ∀ a2, zQ τ (xo + 46) i = some a2 → a2 + 16 ≤ a ∨ a + 16 ≤ a2) (hz : zX σ' ≤ zX τ + 22 ∧ zS σ' ≤ zS τ + 3201) : Sp G mX10_mark 2 [.ref (xo + 52), .int (nI j), .int 0] σ' (fun rv τ2 => rv = some (.int 1) ∧ LI xo S9 (k + 1) τ2) := by
  obtain ⟨⟨hX, hM, hR30, hOut, hx1, hx2, hx3⟩, ⟨hN, hLX, hV⟩, ⟨hRow, h36⟩, ⟨hnv, hbar, hSI⟩, ⟨n0, g1, g2, g3, g4, g5⟩, h30, hMk, hMu⟩ := hL
  have h96 : ∀ i, 96 ≤ i → vV τ (xo + 52) 33 i = 0 := fun i hi => by rw [← hnv]; exact nv_hi _ _ _ (by omega)
  have hV1 : vV σ' (xo + 52) = vV τ (xo + 52) := vV_cg (fun q hq => (hlo _ (by omega) (by omega)).2.2.1)
  have hs1 := sv_id σ' (xo + 52)
  rw [hV1] at hs1
  have hr1 := sm_mark (G := G) (V := vV τ (xo + 52)) (U := vU σ' (xo + 52)) hM2 (nI j) 0 (cN := 0) (dN := 0) (mN := 0) (gk := 0) (fun _ z => absurd rfl z)
  rw [hs1, nI_clamp (by omega)] at hr1
  refine ht_mono hr1 ?_
  rintro rv2 σ2 (⟨q1, _⟩ | ⟨_, q2, _⟩ | ⟨_, _, hrv2, rfl⟩)
  · exact absurd (mkOk hj (Or.inl rfl)) q1
  · exact absurd rfl q2
  refine ⟨hrv2, ρ2, b, s, T, n, h, ?_⟩
  have mb := mkL_v (vV τ (xo + 52)) j
  have e2 : ∀ o i, ¬ rowAt (2 + j) o i → o ≠ 0 → o ≠ 41 → o ≠ 35 → mkL (vV τ (xo + 52)) j o i = vV τ (xo + 52) o i := mb.1
  have e3 : ∀ o, 21 ≤ o → o ≠ 41 → o ≠ 35 → mkL (vV τ (xo + 52)) j o = vV τ (xo + 52) o := fun o h1 h2 h3 => funext (fun i => e2 o i (row_hi (by omega)) (by omega) h2 h3)
  generalize hVm : mkL (vV τ (xo + 52)) j = V' at *
  have hRL : RowP V' (2 + j) s := by rw [← hVm]; exact hRow.mkL hV
  have hV' : vV (sv σ' (xo + 52) V' (vU σ' (xo + 52))) (xo + 52) = V' := vV_sv (fun q hq => (e3 q (by omega) (by omega) (by omega)).trans (vV_hi τ (xo + 52) hq))
  have io : ∀ p, p < xo + 52 ∨ xo + 94 ≤ p → zI (sv σ' (xo + 52) V' (vU σ' (xo + 52))) p = zI σ' p := fun p hp => (sv_out _ _ V' _ (by omega)).1
  have eX2 : FrX τ ρ ρ2 xo (sv σ' (xo + 52) V' (vU σ' (xo + 52))) := by
    refine ⟨eX.1, fun p hp hp2 => ?_⟩
    obtain ⟨q1, q2, q3, q4, q5⟩ := eX.2 p hp hp2
    refine ⟨q1, q2, q3, q4, ?_⟩
    rw [io p (by omega)]
    exact q5
  have hNt : NtS (sv σ' (xo + 52) V' (vU σ' (xo + 52))) (xo + 14) := hX2.nt
  unfold LIc
  rw [hV']
  refine ⟨⟨hX2, hM2, fun i hi => (hρ _ (by omega)).trans (hR30 i hi), ⟨(hlo (xo + 94) (by omega) (by omega)).1.trans hOut.1, (hlo (xo + 94) (by omega) (by omega)).2.1.trans hOut.2⟩, ?_, ?_, zS_up hz.2 hx3⟩, ⟨⟨hNt, ?_, fun i hi => (hρ _ (by omega)).trans (hN.2.2 i hi)⟩, hLX.fr eX2, hV⟩, ⟨hRow.mv hV (fun o i hr => e2 o i (rowAt_ne hr (by omega)) (rowAt_0 hr) (by have := rowAt_r hr; omega) (by have := rowAt_r hr; omega)), ?_⟩, ⟨?_, ?_, ?_⟩, ⟨n0, g1, ?_, ?_, ?_, ?_⟩, ?_, fun x hx => ?_, ?_⟩
  · show xo + 95 ≤ zX σ'
    omega
  · show zX σ' ≤ xo + 95 + 22 * (k + 1)
    omega
  · show zQ σ' (xo + 14) 0 = some b
    rw [(hlo (xo + 14) (by omega) (by omega)).2.2.2 (by omega)]; exact hN.2.1
  · obtain ⟨F, hF36⟩ := h36
    exact ⟨F, fun c hc => by rw [e3 36 (by decide) (by decide) (by decide)]; exact hF36 c hc⟩
  · rw [e3 33 (by decide) (by decide) (by decide), ← hnv]
    exact nv_fr (fun i hi _ _ => (io _ (by omega)).trans (hlo _ (by omega) (by omega)).2.2.1)
  · rw [io _ (by omega), (hlo _ (by omega) (by omega)).2.2.1]; exact hbar
  · rw [e3 33 (by decide) (by decide) (by decide)]; exact hSI.up (by omega)
  · rw [io _ (by omega), (hlo _ (by omega) (by omega)).2.2.1]; exact g2
  · rw [mb.2.1 1 (by decide)]; exact g3
  · rw [io _ (by omega), (hlo _ (by omega) (by omega)).2.2.1, ← g4]
    funext i
    exact e2 1 i (row_hi (by decide)) (by decide) (by decide) (by decide)
  · rw [io _ (by omega), (hlo _ (by omega) (by omega)).2.2.1]; exact g5
  · rw [mb.2.1 30 (by decide)]; exact h30
  · by_cases q : x = j
    · subst q
      have hnv3 : nv (tdC s 1) (zI (sv σ' (xo + 52) V' (vU σ' (xo + 52)))) a = vV τ (xo + 52) 33 := ((nv_fr (fun i hi _ _ => io _ (by omega))).trans hnva).trans hnv
      refine Or.inr ⟨(mb.2.2.1 x).trans (if_pos rfl), a, b, s, T, n, h, hqj, hNa, ha, hLX.fr eX2, hV, hRL, ?_, ?_⟩
      · rw [hnv3]
        funext i
        by_cases q : i < 96
        · rw [if_pos q, mb.2.2.2, if_pos ⟨by omega, by omega⟩, show 96 * x + i - 96 * x = i by omega]
        · rw [if_neg q]; exact h96 i (by omega)
      · rw [hnv3]; exact hSI.up (by omega)
    · refine (hMk x hx).fr (by omega) eX2 (hq46 x q) (fun a2 ha2 p q1 q3 => ?_) ?_ (fun i hi => ?_) (fun s3 T8 n8 hv8 hs3 => hs3.mv hv8 (fun o i hr => e2 o i (rowAt_ne hr (by omega)) (rowAt_0 hr) (by have := rowAt_r hr; omega) (by have := rowAt_r hr; omega)))
      · have hq := hap x hx q a2 ha2
        rcases hMk x hx with ⟨_, z⟩ | ⟨_, a3, b3, s4, T2, n2, h2, z1, z2, z3, _⟩
        · rw [z] at ha2; cases ha2
        · rw [z1] at ha2
          cases ha2
          exact ⟨(io p (by omega)).trans (hlo p (by omega) (by omega)).2.2.1, (hlo p (by omega) (by omega)).2.2.2 (by omega)⟩
      · exact (mb.2.2.1 x).trans (if_neg q)
      · rw [mb.2.2.2, if_neg (by omega)]
  · intro x y2 a2 hx hy2 h1 h2
    have k1 : ∀ z, z < 4 → zQ σ' (xo + 46) z = some a2 → (z = j ∧ a2 = a) ∨ (z ≠ j ∧ zQ τ (xo + 46) z = some a2) := fun z hz h3 => by
      by_cases q : z = j
      · refine Or.inl ⟨q, ?_⟩
        rw [q, hqj] at h3
        exact (Option.some.inj h3).symm
      · refine Or.inr ⟨q, ?_⟩
        rw [← hq46 z q]; exact h3
    rcases k1 x hx h1 with ⟨z1, z2⟩ | ⟨z1, z2⟩
    · rcases k1 y2 hy2 h2 with ⟨z3, z4⟩ | ⟨z3, z4⟩
      · rw [z1, z3]
      · have h9 := hap y2 hy2 z3 a2 z4
        omega
    · rcases k1 y2 hy2 h2 with ⟨z3, z4⟩ | ⟨z3, z4⟩
      · have h9 := hap x hx z1 a2 z2
        omega
      · exact hMu x y2 a2 hx hy2 z2 z4
end U0
