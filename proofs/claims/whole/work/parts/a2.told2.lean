/-! ===== the class: its reader and what was told ===== -/
section R2
variable {G : GG} {σ σ0 σ1 σ2 : Hp} {ad : Nat → Nat} {aA aS aV r sA n p b e k S1 : Nat} {T : ST} {s : TD}
/-- the law's array for a row -/
def lwB (o : Nat) : Nat := match o with
  | 9 => 1
  | 10 => 3
  | 11 => 4
  | 12 => 5
  | 13 => 6
  | 14 => 7
  | 15 => 8
  | 16 => 10
  | 17 => 9
  | _ => 0
theorem lwB_i {o o2 : Nat} (h : 9 ≤ o ∧ o ≤ 17) (h2 : 9 ≤ o2 ∧ o2 ≤ 17) (hne : o ≠ o2) : lwB o ≠ lwB o2 := by
  have key : ∀ o, o < 18 → ∀ o2, o2 < 18 → (9 ≤ o ∧ 9 ≤ o2 ∧ o ≠ o2) → lwB o ≠ lwB o2 := by decide
  exact key o (by omega) o2 (by omega) ⟨h.1, h2.1, hne⟩
theorem lwB_r {o : Nat} (h : 9 ≤ o ∧ o ≤ 17) : 1 ≤ lwB o ∧ lwB o ≤ 10 := by
  have key : ∀ o, o < 18 → 9 ≤ o → 1 ≤ lwB o ∧ lwB o ≤ 10 := by decide
  exact key o (by omega) h.1
def fxI (ice : Bool) : Nat := if ice then 6 else 5
/-- the formulas told -/
def FP (s : TD) (r : Nat) (σ : Hp) : Prop := (∀ ice, (tdF s ice = none → zQ σ (r + 1) (fxI ice) = none) ∧ ∀ E, tdF s ice = some E → ∃ f, zQ σ (r + 1) (fxI ice) = some f ∧ FmS σ f E.2.1.length ∧ CDs (zI σ (f + 2)) 0 E.2.1 ∧ r + 16 ≤ f ∧ f + 3 ≤ zX σ) ∧ ∀ f f2, zQ σ (r + 1) 5 = some f → zQ σ (r + 1) 6 = some f2 → f + 3 ≤ f2 ∨ f2 + 3 ≤ f
/-- the law that the reader lays is what was told -/
def LT (s : TD) (r : Nat) (σ : Hp) : Prop := (zI σ (r + 1) 0 = nI (tdC s 0) ∧ zI σ (r + 1) 1 = nI (tdC s 1) ∧ zI σ (r + 1) 2 = nI (tdC s 2) ∧ zI σ (r + 1) 3 = nI (tdC s 3) ∧ zI σ (r + 1) 4 = tdR s 6 0) ∧ zI σ r 8 = nI (tdC s 4) ∧ (∀ o, 9 ≤ o ∧ o ≤ 17 → zI σ (r + 1 + lwB o) = tdR s o) ∧ (zJ σ (r + 12) = tdN s 0 ∧ zJ σ (r + 13) = tdN s 1) ∧ FP s r σ
def nFs (s : TD) : Nat := (if (tdF s false).isSome then 1 else 0) + (if (tdF s true).isSome then 1 else 0)
/-- all below the reader is as it was, and the heap has grown by the formulas alone -/
def FB (σ0 : Hp) (S1 : Nat) (s : TD) (r : Nat) (σ : Hp) : Prop := (∀ a, a < r → zK σ a = zK σ0 a ∧ zN σ a = zN σ0 a ∧ zI σ a = zI σ0 a ∧ zJ σ a = zJ σ0 a ∧ zQ σ a = zQ σ0 a) ∧ zX σ = r + 16 + 3 * nFs s ∧ zS σ ≤ S1 + 1034 * nFs s
def LF (r : Nat) (σ σ1 : Hp) : Prop := (zK σ1 = zK σ ∧ zN σ1 = zN σ ∧ zX σ1 = zX σ ∧ zS σ1 = zS σ) ∧ (∀ a, a ≠ r → a ≠ r + 14 → a ≠ r + 15 → zI σ1 a = zI σ a) ∧ (∀ a, a ≠ r + 14 → zJ σ1 a = zJ σ a ∧ zQ σ1 a = zQ σ a) ∧ zI σ1 r 8 = zI σ r 8
theorem LF_q (h : QF r σ σ1) : LF r σ σ1 := ⟨h.1, h.2.1, h.2.2.1, h.2.2.2.2.2 8 (by decide) (by decide)⟩
theorem LF_r (r : Nat) (σ : Hp) {k : Nat} (hk : k ≠ 8) (x : Int32) : LF r σ (wI σ r k x) := ⟨⟨rfl, rfl, rfl, rfl⟩, fun a q _ _ => zI_a σ x q, fun _ _ => ⟨rfl, rfl⟩, zI_k σ x (Ne.symm hk)⟩
theorem LF_t (h : LF r σ σ1) (h2 : LF r σ1 σ2) : LF r σ σ2 := ⟨⟨h2.1.1.trans h.1.1, h2.1.2.1.trans h.1.2.1, h2.1.2.2.1.trans h.1.2.2.1, h2.1.2.2.2.trans h.1.2.2.2⟩, fun a q1 q2 q3 => (h2.2.1 a q1 q2 q3).trans (h.2.1 a q1 q2 q3), fun a q => ⟨(h2.2.2.1 a q).1.trans (h.2.2.1 a q).1, (h2.2.2.1 a q).2.trans (h.2.2.1 a q).2⟩, h2.2.2.2.trans h.2.2.2⟩
theorem FP.lf (h : FP s r σ) (f : LF r σ σ1) : FP s r σ1 := by
  obtain ⟨⟨k1, k2, k3, k4⟩, i1, j1, r1⟩ := f
  have q1 : zQ σ1 (r + 1) = zQ σ (r + 1) := (j1 _ (by omega)).2
  refine ⟨fun ice => ⟨fun q => by rw [q1]; exact (h.1 ice).1 q, fun E q => ?_⟩, fun f f2 => by rw [q1]; exact h.2 f f2⟩
  obtain ⟨x, x1, x2, x3, x4, x5⟩ := (h.1 ice).2 E q
  refine ⟨x, by rw [q1]; exact x1, ?_, by rw [i1 _ (by omega) (by omega) (by omega)]; exact x3, x4, by rw [k3]; exact x5⟩
  obtain ⟨y1, y2, y3, y4, y5, y6, y7, y8⟩ := x2
  exact ⟨by rw [k1]; exact y1, by rw [(j1 x (by omega)).2]; exact y2, by rw [(j1 x (by omega)).2]; exact y3, by rw [k1]; exact y4, by rw [k2]; exact y5, by rw [k1]; exact y6, by rw [k2]; exact y7, y8⟩
theorem LT.lf (h : LT s r σ) (f : LF r σ σ1) : LT s r σ1 := by
  obtain ⟨hc, h8, hR, hN, hF⟩ := h
  have hF1 := hF.lf f
  obtain ⟨⟨k1, k2, k3, k4⟩, i1, j1, r1⟩ := f
  refine ⟨?_, r1.trans h8, fun o ho => ?_, ⟨by rw [(j1 (r + 12) (by omega)).1]; exact hN.1, by rw [(j1 (r + 13) (by omega)).1]; exact hN.2⟩, hF1⟩
  · rw [i1 (r + 1) (by omega) (by omega) (by omega)]; exact hc
  · have := lwB_r ho
    rw [i1 (r + 1 + lwB o) (by omega) (by omega) (by omega)]; exact hR o ho
theorem FB.lf (h : FB σ0 S1 s r σ) (f : LF r σ σ1) : FB σ0 S1 s r σ1 := by
  obtain ⟨⟨k1, k2, k3, k4⟩, i1, j1, r1⟩ := f
  refine ⟨fun a ha => ?_, by rw [k3]; exact h.2.1, by rw [k4]; exact h.2.2⟩
  rw [k1, k2, i1 a (by omega) (by omega) (by omega), (j1 a (by omega)).1, (j1 a (by omega)).2]
  exact h.1 a ha
/-- the reader stands at a token, and has laid what was told -/
def CS (ad : Nat → Nat) (T : ST) (n : Nat) (σ0 : Hp) (S1 : Nat) (s : TD) (p b e k r sA : Nat) (σ : Hp) : Prop := CL ad T n p b e k r sA σ ∧ LT s r σ ∧ FB σ0 S1 s r σ
def CE (ad : Nat → Nat) (T : ST) (n : Nat) (σ0 : Hp) (S1 : Nat) (s : TD) (p r sA : Nat) (σ : Hp) : Prop := ∃ b e k, CS ad T n σ0 S1 s p b e k r sA σ
abbrev okA (a : Int32) : Prop := a = 1 ∨ a = 2 ∨ a = 3 ∨ a = 4 ∨ a = 5
/-- a fault's number -/
def okF (f : Int32) : Prop := ∃ (a : Int32) (c : Nat), okA a ∧ c ≤ 1000 ∧ f = a + 16 * nI c
theorem okF_0 {f : Int32} (h : okF f) : ¬ f = 0 := by
  obtain ⟨a, c, ha, hc, rfl⟩ := h
  have e : (16 : Int32) * nI c = nI (16 * c) := (Int32.ofNat_mul 16 c).symm
  have key : ∀ x : Nat, 1 ≤ x → x ≤ 5 → ¬ nI x + nI (16 * c) = 0 := by
    intro x h1 h2 q
    rw [nI_add] at q
    have h3 := (nI_eq (a := x + 16 * c) (b := 0) (by omega) (by omega)).mp q
    omega
  rw [e]
  rcases ha with rfl | rfl | rfl | rfl | rfl
  · exact key 1 (by decide) (by decide)
  · exact key 2 (by decide) (by decide)
  · exact key 3 (by decide) (by decide)
  · exact key 4 (by decide) (by decide)
  · exact key 5 (by decide) (by decide)
def FT (σ0 : Hp) (S1 : Nat) (s : TD) (r : Nat) (f : Int32) (σ : Hp) : Prop := zI σ r 10 = f ∧ FB σ0 S1 s r σ ∧ okF f ∧ zK σ r = 5
theorem RS.lw (h : RS σ r sA n) : LwS σ (r + 1) := h.2.2.2.2.2.2.1
theorem CL_wI (h : CL ad T n p b e k r sA σ) {a : Nat} (ha : a ≠ r + 14) (hs : a ≠ sA) (j : Nat) (x : Int32) : CL ad T n p b e k r sA (wI σ a j x) := by
  obtain ⟨⟨h1, h2, h3, h4, h5, h6, h7, h8⟩, hs1, ⟨a1, a2, a3, a4, a5, a6, a7, a8, a9⟩, ho⟩ := h
  have et : zI (wI σ a j x) (r + 14) = zI σ (r + 14) := zI_a σ x (Ne.symm ha)
  refine ⟨⟨h1, h2, ⟨h3.1, h3.2.1, h3.2.2.1, h3.2.2.2.1, by rw [et]; exact h3.l, h3.2.2.2.2.2.1, h3.2.2.2.2.2.2⟩, h4, h5, h6, h7, h8⟩, by rw [zI_a σ x (Ne.symm hs)]; exact hs1, ⟨a1, by rw [et]; exact a2, by rw [et]; exact a3, by rw [et]; exact a4, a5, fun q => by rw [et]; exact a6 q, fun q => by rw [et]; exact a7 q, a8, a9⟩, ho⟩
theorem CL_wJ (h : CL ad T n p b e k r sA σ) {a : Nat} (ha : a ≠ r + 14) (j : Nat) (x : Int64) : CL ad T n p b e k r sA (wJ σ a j x) := by
  obtain ⟨⟨h1, h2, h3, h4, h5, h6, h7, h8⟩, hs1, ⟨a1, a2, a3, a4, a5, a6, a7, a8, a9⟩, ho⟩ := h
  refine ⟨⟨h1, h2, h3, h4, h5, h6, h7, h8⟩, hs1, ⟨a1, a2, a3, a4, fun q => by rw [zJ_a σ x (Ne.symm ha)]; exact a5 q, a6, a7, a8, a9⟩, ho⟩
theorem CS.nx (h : CS ad T n σ0 S1 s p b e k r sA σ) (h2 : CNx ad T n e r sA σ σ2) : CE ad T n σ0 S1 s e r sA σ2 := by
  obtain ⟨hf, b2, e2, k2, hc⟩ := h2
  have f := LF_q (QF_tf hf)
  exact ⟨b2, e2, k2, hc, h.2.1.lf f, h.2.2.lf f⟩
theorem CS.rI (h : CS ad T n σ0 S1 s p b e k r sA σ) {j : Nat} (hj : j ≠ 8) (x : Int32) : CS ad T n σ0 S1 s p b e k r sA (wI σ r j x) := ⟨CL_rI h.1 j x, h.2.1.lf (LF_r r σ hj x), h.2.2.lf (LF_r r σ hj x)⟩
theorem CS.le (h : CS ad T n σ0 S1 s p b e k r sA σ) : p ≤ b ∧ b ≤ e ∧ e ≤ n := ⟨(TK_le h.1.2.2.1.1).1, (TK_le h.1.2.2.1.1).2.1, (TK_le h.1.2.2.1.1).2.2.1⟩
theorem CS.tk (h : CS ad T n σ0 S1 s p b e k r sA σ) : TK T n p b e k := h.1.2.2.1.1
theorem CS.n0 (h : CS ad T n σ0 S1 s p b e k r sA σ) : n ≤ 1000 := h.1.1.ts.2.2.2.2.2.1
theorem CS.ft (h : CS ad T n σ0 S1 s p b e k r sA σ) {x : Int32} (hx : okA x) : FT σ0 S1 s r (x + 16 * nI b) (wI σ r 10 (x + 16 * nI b)) := ⟨zI_s σ r 10 _, h.2.2.lf (LF_r r σ (by decide) _), ⟨x, b, hx, by have h1 := h.le; have h2 := h.n0; omega, rfl⟩, h.1.1.rk⟩
theorem CS.sq (h : CS ad T n σ0 S1 s p b e k r sA σ) : sA < r ∨ r + 16 ≤ sA := h.1.1.2.2.2.2.2.2.2
theorem FP.wI (h : FP s r σ) {a : Nat} (ha : a < r + 16) (j : Nat) (x : Int32) : FP s r (wI σ a j x) := by
  refine ⟨fun ice => ⟨(h.1 ice).1, fun E q => ?_⟩, h.2⟩
  obtain ⟨f, x1, x2, x3, x4, x5⟩ := (h.1 ice).2 E q
  exact ⟨f, x1, x2, by rw [zI_a σ x (by omega)]; exact x3, x4, x5⟩
theorem FB.wI (h : FB σ0 S1 s r σ) {a : Nat} (ha : r ≤ a) (j : Nat) (x : Int32) : FB σ0 S1 s r (wI σ a j x) := by
  refine ⟨fun q hq => ?_, h.2⟩
  rw [zI_a σ x (by omega)]
  exact h.1 q hq
/-- a row's place is told -/
theorem CS.wR (h : CS ad T n σ0 S1 s p b e k r sA σ) {o q : Nat} (hq : lwB o = q) (ho : 9 ≤ o ∧ o ≤ 17) (i : Nat) (x : Int32) : CS ad T n σ0 S1 (asR s o i x) p b e k r sA (wI σ (r + 1 + q) i x) := by
  subst hq
  have hr := lwB_r ho
  have hs := h.sq
  obtain ⟨hcl, ⟨hc, h8, hR, hN, hF⟩, hb⟩ := h
  refine ⟨CL_wI hcl (by omega) (by omega) i x, ⟨?_, ?_, fun o2 ho2 => ?_, hN, hF.wI (by omega) i x⟩, hb.wI (by omega) i x⟩
  · rw [zI_a σ x (by omega)]
    exact ⟨hc.1, hc.2.1, hc.2.2.1, hc.2.2.2.1, hc.2.2.2.2.trans (up2_a _ _ (by omega)).symm⟩
  · rw [zI_a σ x (by omega)]; exact h8
  · by_cases q : o2 = o
    · subst q
      funext j
      show up2 (zI σ) (r + 1 + lwB o2) i x (r + 1 + lwB o2) j = up2 (tdR s) o2 i x o2 j
      by_cases qj : j = i
      · rw [qj, up2_s, up2_s]
      · rw [up2_k _ _ qj, up2_k _ _ qj, hR o2 ho2]
    · have hne := lwB_i ho2 ho q
      rw [zI_a σ x (by omega), hR o2 ho2]
      exact (up2_o _ _ q).symm
/-- a count is told -/
theorem CS.wC (h : CS ad T n σ0 S1 s p b e k r sA σ) {i : Nat} (hi : i < 4) (x : Nat) : CS ad T n σ0 S1 (asC s i x) p b e k r sA (wI σ (r + 1) i (nI x)) := by
  have hs := h.sq
  obtain ⟨hcl, ⟨hc, h8, hR, hN, hF⟩, hb⟩ := h
  refine ⟨CL_wI hcl (by omega) (by omega) i _, ⟨?_, ?_, fun o2 ho2 => ?_, hN, hF.wI (by omega) i _⟩, hb.wI (by omega) i _⟩
  · have key : ∀ j, j < 4 → zI σ (r + 1) j = nI (tdC s j) → zI (wI σ (r + 1) i (nI x)) (r + 1) j = nI (tdC (asC s i x) j) := by
      intro j hj q
      show up2 (zI σ) (r + 1) i (nI x) (r + 1) j = nI (if j = i then x else s.1 j)
      by_cases qj : j = i
      · rw [qj, up2_s, if_pos rfl]
      · rw [up2_k _ _ qj, if_neg qj]; exact q
    exact ⟨key 0 (by decide) hc.1, key 1 (by decide) hc.2.1, key 2 (by decide) hc.2.2.1, key 3 (by decide) hc.2.2.2.1, (zI_k σ (nI x) (by omega)).trans hc.2.2.2.2⟩
  · rw [zI_a σ _ (by omega)]
    refine h8.trans (congrArg nI ?_)
    exact (if_neg (by omega)).symm
  · have := lwB_r ho2
    rw [zI_a σ _ (by omega)]; exact hR o2 ho2
/-- the mild hours are told -/
theorem CS.wM (h : CS ad T n σ0 S1 s p b e k r sA σ) (x : Int32) : CS ad T n σ0 S1 (asR (asC s 4 1) 6 0 x) p b e k r sA (wI (wI σ r 8 1) (r + 1) 4 x) := by
  have hs := h.sq
  obtain ⟨hcl, ⟨hc, h8, hR, hN, hF⟩, hb⟩ := h
  refine ⟨CL_wI (CL_rI hcl 8 1) (by omega) (by omega) 4 x, ⟨?_, ?_, fun o2 ho2 => ?_, hN, (hF.wI (a := r) (by omega) 8 1).wI (by omega) 4 x⟩, (hb.wI (a := r) (by omega) 8 1).wI (by omega) 4 x⟩
  · have key : ∀ j, j < 4 → zI (wI (wI σ r 8 1) (r + 1) 4 x) (r + 1) j = zI σ (r + 1) j := by
      intro j hj
      rw [zI_k _ x (by omega), zI_a _ _ (by omega)]
    rw [key 0 (by decide), key 1 (by decide), key 2 (by decide), key 3 (by decide)]
    exact ⟨hc.1, hc.2.1, hc.2.2.1, hc.2.2.2.1, (zI_s _ _ _ _).trans (up2_s (tdR s) 6 0 x).symm⟩
  · rw [zI_a _ x (by omega), zI_s]; rfl
  · have := lwB_r ho2
    rw [zI_a _ x (by omega), zI_a _ _ (by omega), hR o2 ho2]
    exact (up2_o _ _ (by omega)).symm
/-- a name is told -/
theorem CS.wN (h : CS ad T n σ0 S1 s p b e k r sA σ) {o : Nat} (ho : o < 2) (i : Nat) (x : Int64) : CS ad T n σ0 S1 (asN s o i x) p b e k r sA (wJ σ (r + 12 + o) i x) := by
  obtain ⟨hcl, ⟨hc, h8, hR, hN, hF⟩, hb⟩ := h
  have key : ∀ q, q < 2 → zJ σ (r + 12 + q) = tdN s q → zJ (wJ σ (r + 12 + o) i x) (r + 12 + q) = tdN (asN s o i x) q := by
    intro q hq hz
    by_cases qo : q = o
    · subst qo
      funext j
      show up2 (zJ σ) (r + 12 + q) i x (r + 12 + q) j = up2 (tdN s) q i x q j
      by_cases qj : j = i
      · rw [qj, up2_s, up2_s]
      · rw [up2_k _ _ qj, up2_k _ _ qj, hz]
    · rw [zJ_a σ x (by omega), hz]
      exact (up2_o _ _ qo).symm
  refine ⟨CL_wJ hcl (by omega) i x, ⟨hc, h8, hR, ⟨key 0 (by decide) hN.1, key 1 (by decide) hN.2⟩, hF⟩, fun a ha => ?_, hb.2⟩
  rw [zJ_a σ x (by omega)]
  exact hb.1 a ha
theorem CS.nm (h : CS ad T n σ0 S1 s p b e k r sA σ) (hk : k = 1) : zJ σ (r + 14) 7 = pkD T b (e - b) := h.1.2.2.1.2.2.2.2.1 hk
end R2
