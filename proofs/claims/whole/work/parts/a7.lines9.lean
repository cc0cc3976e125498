/-! ===== the class: a law of weather or of ice ===== -/
section R7
variable {G : GG} {σ σ0 σ1 σ2 : Hp} {ad : Nat → Nat} {aA aS aV r sA n p b e k S1 : Nat} {T : ST} {s : TD}
/-- the heap with a formula told -/
def fmT (σ : Hp) (r c j : Nat) : Hp := wQ (fmH (nw σ 1 0 2) (zX σ) (r + 15) c) (r + 1) j (some (zX σ))
theorem vaU {α : Type} (f : Nat → α) {a q : Nat} (v : α) (h : q ≠ a) : va_up f a v q = f q := by simp [va_up, h]
theorem vaS {α : Type} (f : Nat → α) (a : Nat) (v : α) : va_up f a v a = v := by simp [va_up]
theorem fmT_K (σ : Hp) (r c j : Nat) : zK (fmT σ r c j) = va_up (va_up (va_up (zK σ) (zX σ) 1) (zX σ + 1) 20) (zX σ + 1 + 1) 20 := rfl
theorem fmT_N (σ : Hp) (r c j : Nat) : zN (fmT σ r c j) = va_up (va_up (va_up (zN σ) (zX σ) 0) (zX σ + 1) 32) (zX σ + 1 + 1) c := rfl
theorem fmT_J (σ : Hp) (r c j : Nat) : zJ (fmT σ r c j) = va_up (va_up (va_up (zJ σ) (zX σ) (fun _ => 0)) (zX σ + 1) (fun _ => 0)) (zX σ + 1 + 1) (fun _ => 0) := rfl
theorem fmT_X (σ : Hp) (r c j : Nat) : zX (fmT σ r c j) = zX σ + 3 ∧ zS (fmT σ r c j) = zS σ + 2 + 32 + c := ⟨rfl, rfl⟩
theorem fmT_lo (σ : Hp) (r c j : Nat) {a : Nat} (ha : a < zX σ) : zK (fmT σ r c j) a = zK σ a ∧ zN (fmT σ r c j) a = zN σ a ∧ zI (fmT σ r c j) a = zI σ a ∧ zJ (fmT σ r c j) a = zJ σ a ∧ (a ≠ r + 1 → zQ (fmT σ r c j) a = zQ σ a) ∧ (∀ i, i ≠ j → zQ (fmT σ r c j) a i = zQ σ a i) := by
  have hq : ∀ i, zQ (fmH (nw σ 1 0 2) (zX σ) (r + 15) c) a i = zQ σ a i := by
    intro i
    show up2 (va_up (up2 (va_up (va_up (zQ σ) (zX σ) (fun _ => none)) (zX σ + 1) (fun _ => none)) (zX σ) 1 (some (zX σ + 1))) (zX σ + 1 + 1) (fun _ => none)) (zX σ) 0 (some (zX σ + 1 + 1)) a i = zQ σ a i
    rw [up2_a _ _ (by omega), vaU _ _ (by omega), up2_a _ _ (by omega), vaU _ _ (by omega), vaU _ _ (by omega)]
  refine ⟨?_, ?_, ?_, ?_, fun q => ?_, fun i q => ?_⟩
  · rw [fmT_K, vaU _ _ (by omega), vaU _ _ (by omega), vaU _ _ (by omega)]
  · rw [fmT_N, vaU _ _ (by omega), vaU _ _ (by omega), vaU _ _ (by omega)]
  · show va_up (va_up (va_up (va_up (zI σ) (zX σ) (fun _ => 0)) (zX σ + 1) (fun _ => 0)) (zX σ + 1 + 1) (fun _ => 0)) (zX σ + 1 + 1) _ a = zI σ a
    rw [vaU _ _ (by omega), vaU _ _ (by omega), vaU _ _ (by omega), vaU _ _ (by omega)]
  · rw [fmT_J, vaU _ _ (by omega), vaU _ _ (by omega), vaU _ _ (by omega)]
  · funext i
    exact (up2_a _ _ q).trans (hq i)
  · exact (up2_k _ _ q).trans (hq i)
theorem fmT_f (σ : Hp) (r c j : Nat) (hr : r + 16 ≤ zX σ) (hc : c ≤ 1000) : FmS (fmT σ r c j) (zX σ) c ∧ ∀ i, i < c → zI (fmT σ r c j) (zX σ + 2) i = zI σ (r + 15) i := by
  have hq : ∀ i, zQ (fmT σ r c j) (zX σ) i = up2 (va_up (up2 (va_up (va_up (zQ σ) (zX σ) (fun _ => none)) (zX σ + 1) (fun _ => none)) (zX σ) 1 (some (zX σ + 1))) (zX σ + 1 + 1) (fun _ => none)) (zX σ) 0 (some (zX σ + 1 + 1)) (zX σ) i := fun i => up2_a _ _ (by omega)
  refine ⟨⟨?_, ?_, ?_, ?_, ?_, ?_, ?_, hc⟩, fun i hi => ?_⟩
  · rw [fmT_K, vaU _ _ (by omega), vaU _ _ (by omega), vaS]
  · rw [hq, up2_s]
  · rw [hq, up2_k _ _ (by decide), vaU _ _ (by omega), up2_s]
  · rw [fmT_K, vaU _ _ (by omega), vaS]
  · rw [fmT_N, vaU _ _ (by omega), vaS]
  · rw [fmT_K]; exact vaS _ _ _
  · rw [fmT_N]; exact vaS _ _ _
  · show va_up (va_up (va_up (va_up (zI σ) (zX σ) (fun _ => 0)) (zX σ + 1) (fun _ => 0)) (zX σ + 1 + 1) (fun _ => 0)) (zX σ + 1 + 1) (va_cpy (va_up (va_up (zI σ) (zX σ) (fun _ => 0)) (zX σ + 1) (fun _ => 0) (r + 15)) _ 0 0 c) (zX σ + 1 + 1) i = zI σ (r + 15) i
    rw [vaS, cpy_i hi, vaU _ _ (by omega), vaU _ _ (by omega)]
theorem nFs_F (ice : Bool) (E : EX) (h : tdF s ice = none) : nFs (asF s ice E) = nFs s + 1 ∧ nFs s ≤ 1 := by
  unfold nFs
  cases ice
  · have e1 : tdF (asF s false E) false = some E := rfl
    have e2 : tdF (asF s false E) true = tdF s true := rfl
    rw [e1, e2, h]
    cases tdF s true <;> simp
  · have e1 : tdF (asF s true E) false = tdF s false := rfl
    have e2 : tdF (asF s true E) true = some E := rfl
    rw [e1, e2, h]
    cases tdF s false <;> simp
theorem fxI_n (ice : Bool) : fxI ice = 5 ∨ fxI ice = 6 := by cases ice <;> simp [fxI]
theorem LwS.fm (h : LwS σ (r + 1)) (hr : r + 16 ≤ zX σ) (c j : Nat) (hj : j = 5 ∨ j = 6) : LwS (fmT σ r c j) (r + 1) := by
  refine ⟨(fmT_lo σ r c j (by omega)).1.trans h.1, fun q h1 h2 => ?_⟩
  have ho := h.2 q h1 h2
  exact ⟨((fmT_lo σ r c j (a := r + 1) (by omega)).2.2.2.2.2 (6 + q) (by omega)).trans ho.1, (fmT_lo σ r c j (by omega)).1.trans ho.2.1, (fmT_lo σ r c j (by omega)).2.1.trans ho.2.2⟩
theorem FmS.fm {f m : Nat} (h : FmS σ f m) (hf : f + 3 ≤ zX σ) (c j : Nat) (hr : r + 16 ≤ f) : FmS (fmT σ r c j) f m := by
  obtain ⟨y1, y2, y3, y4, y5, y6, y7, y8⟩ := h
  have l0 := fmT_lo σ r c j (a := f) (by omega)
  have l1 := fmT_lo σ r c j (a := f + 1) (by omega)
  have l2 := fmT_lo σ r c j (a := f + 2) (by omega)
  exact ⟨l0.1.trans y1, by rw [l0.2.2.2.2.1 (by omega)]; exact y2, by rw [l0.2.2.2.2.1 (by omega)]; exact y3, l1.1.trans y4, l1.2.1.trans y5, l2.1.trans y6, l2.2.1.trans y7, y8⟩
theorem CS.fm (h : CS ad T n σ0 S1 s p b e k r sA σ) (hs : sA < r) {ice : Bool} {E : EX} (hn : tdF s ice = none) (h15 : CDs (zI σ (r + 15)) 0 E.2.1) (hl : E.2.1.length ≤ 1000) : CS ad T n σ0 S1 (asF s ice E) p b e k r sA (fmT σ r E.2.1.length (fxI ice)) := by
  have hnf := nFs_F (s := s) ice E hn
  obtain ⟨⟨⟨h1, h2, h3, h4, h5, h6, h7, h8⟩, hs1, ⟨a1, a2, a3, a4, a5, a6, a7, a8, a9⟩, ho⟩, ⟨hc, hm, hR, hN, hF⟩, hb⟩ := h
  have hX : r + 16 ≤ zX σ := by rw [hb.2.1]; omega
  have hj := fxI_n ice
  have lo := fun {a : Nat} (ha : a < zX σ) => fmT_lo σ r E.2.1.length (fxI ice) ha
  have ff := fmT_f σ r E.2.1.length (fxI ice) hX hl
  have l0 := lo (a := r) (by omega)
  have l1 := lo (a := r + 1) (by omega)
  have l14 := lo (a := r + 14) (by omega)
  have q0 := l0.2.2.2.2.1 (by omega)
  have q14 := l14.2.2.2.2.1 (by omega)
  refine ⟨⟨⟨l0.1.trans h1, ?_, ?_, ⟨(lo (by omega)).1.trans h4.1, (lo (by omega)).2.1.trans h4.2⟩, ⟨(lo (by omega)).1.trans h5.1, (lo (by omega)).2.1.trans h5.2⟩, ⟨(lo (by omega)).1.trans h6.1, (lo (by omega)).2.1.trans h6.2⟩, h7.fm hX _ _ hj, h8⟩, ?_, ?_, ho⟩, ⟨?_, ?_, fun q hq => ?_, ?_, ?_, ?_⟩, fun a ha => ?_, ?_, ?_⟩
  · rw [q0]; exact h2
  · exact ⟨l14.1.trans h3.1, by rw [q14]; exact h3.2.1, (lo (by omega)).1.trans h3.2.2.1, (lo (by omega)).2.1.trans h3.2.2.2.1, by rw [l14.2.2.1]; exact h3.l, h3.2.2.2.2.2.1, h3.2.2.2.2.2.2⟩
  · rw [(lo (by omega)).2.2.1]; exact hs1
  · refine ⟨a1, ?_, ?_, ?_, ?_, ?_, ?_, ?_, ?_⟩
    · rw [l14.2.2.1]; exact a2
    · rw [l14.2.2.1]; exact a3
    · rw [l14.2.2.1]; exact a4
    · rw [l14.2.2.2.1]; exact a5
    · rw [l14.2.2.1]; exact a6
    · rw [l14.2.2.1]; exact a7
    · rw [q14]; exact a8
    · rw [q14]; exact a9
  · rw [l1.2.2.1]; exact hc
  · rw [l0.2.2.1]; exact hm
  · have := lwB_r hq
    rw [(lo (by omega)).2.2.1]; exact hR q hq
  · rw [(lo (a := r + 12) (by omega)).2.2.2.1, (lo (a := r + 13) (by omega)).2.2.2.1]; exact hN
  · intro i2
    by_cases qi : i2 = ice
    · subst qi
      refine ⟨fun z => ?_, fun E2 z => ?_⟩
      · have z2 : (if i2 = i2 then some E else tdF s i2) = none := z
        rw [if_pos rfl] at z2; cases z2
      · have z2 : (if i2 = i2 then some E else tdF s i2) = some E2 := z
        rw [if_pos rfl] at z2
        cases z2
        refine ⟨zX σ, up2_s _ _ _ _, ff.1, fun i x hx => ?_, hX, Nat.le_refl _⟩
        rw [Nat.zero_add, ff.2 i (List.getElem?_eq_some_iff.mp hx).1, ← h15 i x hx, Nat.zero_add]
    · have hqi : fxI i2 ≠ fxI ice := by
        revert qi
        cases i2 <;> cases ice <;> decide
      have eF : tdF (asF s ice E) i2 = tdF s i2 := if_neg qi
      rw [eF, l1.2.2.2.2.2 _ hqi]
      refine ⟨(hF.1 i2).1, fun E2 z => ?_⟩
      obtain ⟨f, x1, x2, x3, x4, x5⟩ := (hF.1 i2).2 E2 z
      refine ⟨f, x1, x2.fm x5 _ _ x4, ?_, x4, ?_⟩
      · rw [(lo (by omega)).2.2.1]; exact x3
      · rw [(fmT_X σ r _ _).1]; omega
  · intro f f2 z1 z2
    have old : ∀ i2, i2 ≠ ice → ∀ f, zQ (fmT σ r E.2.1.length (fxI ice)) (r + 1) (fxI i2) = some f → f + 3 ≤ zX σ := by
      intro i2 qi f z
      have hqi : fxI i2 ≠ fxI ice := by
        revert qi
        cases i2 <;> cases ice <;> decide
      rw [l1.2.2.2.2.2 _ hqi] at z
      cases hh : tdF s i2 with
      | none => rw [(hF.1 i2).1 hh] at z; cases z
      | some E2 =>
        obtain ⟨f3, x1, x2, x3, x4, x5⟩ := (hF.1 i2).2 E2 hh
        rw [x1] at z
        cases z
        exact x5
    have new : zQ (fmT σ r E.2.1.length (fxI ice)) (r + 1) (fxI ice) = some (zX σ) := up2_s _ _ _ _
    cases ice
    · have e1 : f = zX σ := Option.some.inj (z1.symm.trans new)
      have h3 := old true (by decide) f2 z2
      omega
    · have e1 : f2 = zX σ := Option.some.inj (z2.symm.trans new)
      have h3 := old false (by decide) f z1
      omega
  · have l := lo (a := a) (by omega)
    rw [l.1, l.2.1, l.2.2.1, l.2.2.2.1, l.2.2.2.2.1 (by omega)]
    exact hb.1 a ha
  · rw [(fmT_X σ r _ _).1, hb.2.1, hnf.1]; omega
  · rw [(fmT_X σ r _ _).2, hnf.1]
    have := hb.2.2
    omega
end R7
