/-! ===== the call mark, whole ===== -/
section U1
variable {G : GG} {τ : Hp} {ρ : Nat → Nat} {T : ST} {n xo b k h S9 : Nat} {s : TD}
theorem le3_4 {x : Int32} (h : x ≤ 3) : x < 4 := by
  simp only [i_lt, i_le] at h ⊢
  have e1 : (3 : Int32).toInt = 3 := by decide
  have e2 : (4 : Int32).toInt = 4 := by decide
  rw [e1] at h
  rw [e2]
  omega
theorem CFr.rf (τ : Hp) (xo b : Nat) : CFr τ xo b τ := ⟨Nat.le_refl _, Nat.le_add_right _ _, Nat.le_add_right _ _, fun p hp => ⟨rfl, rfl, fun _ => rfl, fun _ _ => rfl, fun _ => rfl⟩⟩
theorem mkH_46 (τ : Hp) (Z : VT) (xo j b : Nat) : zQ (mkH τ Z xo j b) (xo + 46) j = some (zX τ) := by
  unfold mkH
  exact zQ_s _ _ _ _
set_option maxRecDepth 10000 in
theorem mk_none (hL : LIc xo S9 k τ ρ b s T n h) {j : Nat} (hj : j < 4) (hmk : ∀ j, j < 4 → ∀ a, zQ τ (xo + 46) j = some a → NX τ ρ a ((zQ τ a 0).getD 0) ∧ xo + 95 ≤ a ∧ a + 16 ≤ zX τ) {H : Hp} (lo : ∀ {p : Nat}, p < zX τ → zK H p = zK τ p ∧ zN H p = zN τ p ∧ zI H p = zI τ p ∧ zJ H p = zJ τ p ∧ (p ≠ xo + 46 → zQ H p = zQ τ p) ∧ ∀ i, i ≠ j → zQ H p i = zQ τ p i) (hn : NtS H (zX τ) ∧ zX H = zX τ + 16 ∧ zS H = zS τ + 97) (hx46 : zQ H (xo + 46) j = some (zX τ)) {Z2 : VT} (hcp : CpN (zI H) Z2 (zX τ) (xo + 14) 10) : Sp G mX10_mark 2 [.ref (xo + 52), .int (nI j), .int 0] (cv (wQ H (zX τ) 0 (some b)) Z2) (fun rv τ2 => rv = some (.int 1) ∧ LI xo S9 (k + 1) τ2) := by
  have hL0 := hL
  obtain ⟨⟨hX, hM, hR30, hOut, hx1, hx2, hx3⟩, ⟨hN, hLX, hV⟩, ⟨hRow, h36⟩, ⟨hnv, hbar, hSI⟩, hTp, h30, hMk, hMu⟩ := hL
  have fr : ∀ p, p < zX τ → Z2 p = zI τ p := fun p hp => (hcp.1 p (by omega)).trans (lo hp).2.2.1
  have qa : ∀ p, p ≠ zX τ → zQ (wQ H (zX τ) 0 (some b)) p = zQ H p := fun p hp => zQ_a _ _ hp
  have e3 : ∀ p, p < zX τ → p ≠ xo + 46 → zK H p = zK τ p ∧ zN H p = zN τ p ∧ zQ (wQ H (zX τ) 0 (some b)) p = zQ τ p := fun p h1 h2 => ⟨(lo h1).1, (lo h1).2.1, (qa p (by omega)).trans ((lo h1).2.2.2.2.1 h2)⟩
  have hX3 : XS (cv (wQ H (zX τ) 0 (some b)) Z2) xo := hX.m46 (fun p h1 h2 h3 => e3 p (by omega) h3) ⟨(lo (by omega)).1, (lo (by omega)).2.1⟩
  have hM3 : MS (cv (wQ H (zX τ) 0 (some b)) Z2) (xo + 52) := hM.loc (fun p h1 h2 => e3 p (by omega) (by omega))
  refine mk_forth hL0 (a := zX τ) (ρ2 := fun p => if p < zX τ then ρ p else zX τ) hj hX3 hM3 (fun p hp hne => ⟨(lo hp).1, (lo hp).2.1, fr p hp, fun h4 => (e3 p hp h4).2.2⟩) (fun p hp => if_pos hp) ⟨by show zX τ ≤ zX H; omega, fun p hp hp2 => ⟨if_pos hp2, (lo hp2).1, (lo hp2).2.1, Or.inl (e3 p hp2 (by omega)).2.2, Or.inl (fr p hp2)⟩⟩ (fun i hi => ?_) ?_ ⟨?_, zQ_s _ _ _ _, fun i hi => if_neg (by omega)⟩ ⟨hx1, by show zX τ + 16 ≤ zX H; omega⟩ ?_ (fun i hi hne a2 ha3 => Or.inl (hmk i hi a2 ha3).2.2) ⟨by show zX H ≤ zX τ + 22; omega, by show zS H ≤ zS τ + 3201; omega⟩
  · exact (congrFun (qa _ (by omega)) i).trans ((lo (by omega)).2.2.2.2.2 i hi)
  · exact (congrFun (qa _ (by omega)) j).trans hx46
  · exact hn.1.cf (fun p h1 h2 => ⟨rfl, rfl, fun z => zQ_a _ _ z, fun i hi => zQ_k _ _ hi⟩)
  · exact (nv_copy hcp _).trans (nv_fr (fun i hi _ _ => (lo (by omega)).2.2.1))
set_option maxRecDepth 10000 in
theorem cl_mark (hE : NE G) (hL : LIc xo S9 k τ ρ b s T n h) (hr1 : zX τ + 16 ≤ gC G) (hr2 : zS τ + 97 ≤ gS G) (x y : Int32) : Sp G mX9_mark 3 [.ref xo, .int x, .int y] τ (fun rv τ1 => ∃ r, (rv = some (.int r) ∧ zK τ1 (xo + 52) = 9) ∧ Sp G mX10_mark 2 [.ref (xo + 52), .int x, .int y] τ1 (fun rv τ2 => rv = some (.int r) ∧ LI xo S9 (k + 1) τ2)) := by
  have hL0 := hL
  obtain ⟨⟨hX, hM, hR30, hOut, hx1, hx2, hx3⟩, ⟨hN, hLX, hV⟩, ⟨hRow, h36⟩, ⟨hnv, hbar, hSI⟩, hTp, h30, hMk, hMu⟩ := hL
  have hmk : ∀ j, j < 4 → ∀ a, zQ τ (xo + 46) j = some a → NX τ ρ a ((zQ τ a 0).getD 0) ∧ xo + 95 ≤ a ∧ a + 16 ≤ zX τ := fun j hj a ha => by
    rcases hMk j hj with ⟨_, z⟩ | ⟨_, a9, b9, s9, T9, n9, h9, y1, y2, y3, _⟩
    · rw [z] at ha; cases ha
    · have ea : a9 = a := Option.some.inj (y1.symm.trans ha)
      subst ea
      rw [y2.2.1]
      exact ⟨y2, y3.1, y3.2⟩
  refine ht_mono (sc_mark (G := G) (σ := τ) (Z := zI τ) hE hX hN.2.1 (by omega) (fun j hj a ha => ⟨(hmk j hj a ha).1.1, ⟨_, (hmk j hj a ha).1.2.1⟩, Or.inr (by have := (hmk j hj a ha).2.1; omega)⟩) hr1 hr2 x y) ?_
  rintro rv σ' (⟨q1, hrv, rfl⟩ | ⟨j, hj, rfl, hq⟩)
  · refine ⟨0, ⟨hrv, hM.1⟩, li_end hL0 (hSI.up (by omega)) (CFr.rf τ xo b) hnv hbar (fun σ1 hM1 => ht_mono (sm_mark hM1 x y (cN := 0) (dN := 0) (mN := 0) (gk := 0) (fun z _ => absurd ⟨z.1.1, le3_4 z.1.2⟩ q1)) ?_)⟩
    rintro rv2 σ2 (⟨_, q2⟩ | ⟨z, _⟩ | ⟨z, _⟩)
    · exact q2
    · exact absurd ⟨z.1.1, le3_4 z.1.2⟩ q1
    · exact absurd ⟨z.1.1, le3_4 z.1.2⟩ q1
  rcases hq with ⟨hy, hmj, hrv, rfl⟩ | ⟨hy, a, b2, hmj, hb2, hrv, Z2, rfl, hcp⟩ | ⟨hy, a, hmj, hrv, Z2, rfl, hcp⟩ | ⟨hy, hmj, hrv, Z2, rfl, hcp⟩
  · have v41 : vV τ (xo + 52) 41 j = 0 := by
      rcases hMk j hj with ⟨z, _⟩ | ⟨_, a9, b9, s9, T9, n9, h9, y1, _⟩
      · exact z
      · rw [y1] at hmj; cases hmj
    have hno : ¬ aMarkOk (vV τ (xo + 52)) (nI j) y := fun z => z.2 ⟨hy, by rw [nI_clamp (by omega)]; exact v41⟩
    refine ⟨0, ⟨hrv, hM.1⟩, li_end hL0 (hSI.up (by omega)) (CFr.rf τ xo b) hnv hbar (fun σ1 hM1 => ht_mono (sm_mark hM1 (nI j) y (cN := 0) (dN := 0) (mN := 0) (gk := 0) (fun z _ => absurd z hno)) ?_)⟩
    rintro rv2 σ2 (⟨_, q2⟩ | ⟨z, _⟩ | ⟨z, _⟩)
    · exact q2
    · exact absurd z hno
    · exact absurd z hno
  · exact ⟨1, ⟨hrv, hM.1⟩, mk_back hL0 hj hy hmj hb2 hcp⟩
  · subst hy
    obtain ⟨hNa, ha1, ha2⟩ := hmk j hj a hmj
    have fr : ∀ p, ¬ (a ≤ p ∧ p < a + 16) → Z2 p = zI τ p := fun p hp => hcp.1 p hp
    refine ⟨1, ⟨hrv, hM.1⟩, mk_forth hL0 (a := a) (ρ2 := ρ) hj (hX.loc (fun p h1 h2 => ⟨rfl, rfl, zQ_a _ _ (by omega)⟩)) (hM.loc (fun p h1 h2 => ⟨rfl, rfl, zQ_a _ _ (by omega)⟩)) (fun p hp hne => ⟨rfl, rfl, fr p hne, fun _ => zQ_a _ _ (by omega)⟩) (fun _ _ => rfl) ⟨Nat.le_refl _, fun p hp hp2 => ⟨rfl, rfl, rfl, ?_, ?_⟩⟩ (fun i _ => congrFun (zQ_a _ _ (by omega)) i) ((congrFun (zQ_a _ _ (by omega)) j).trans hmj) ⟨hNa.1.cf (fun p h1 h2 => ⟨rfl, rfl, fun z => zQ_a _ _ z, fun i hi => zQ_k _ _ hi⟩), zQ_s _ _ _ _, hNa.2.2⟩ ⟨ha1, ha2⟩ (nv_copy hcp _) (fun i hi hne a2 ha3 => ?_) ⟨Nat.le_add_right _ _, Nat.le_add_right _ _⟩⟩
    · by_cases q : p = a
      · exact Or.inr (by rw [q]; exact hNa.1.k0)
      · exact Or.inl (zQ_a _ _ q)
    · by_cases q : a ≤ p ∧ p < a + 16
      · refine Or.inr (Or.inr (Or.inr ?_))
        have h1 := hNa.2.2 (p - a) (by omega)
        rw [show a + (p - a) = p by omega] at h1
        rw [h1]; exact hNa.1.k0
      · exact Or.inl (fr p q)
    · have h2 := (hmk i hi a2 ha3).1
      exact h2.2.2.ap hNa.2.2 (fun z => hne (hMu i j a2 hi hj ha3 (by rw [z]; exact hmj))) (by decide) (by decide)
  · subst hy
    exact ⟨1, ⟨hrv, (mkH_lo τ (zI τ) xo j b (by omega)).1.trans hM.1⟩, mk_none hL0 hj hmk (mkH_lo τ (zI τ) xo j b) (mkH_n τ (zI τ) xo j b (by omega)) (mkH_46 τ (zI τ) xo j b) hcp⟩
end U1
