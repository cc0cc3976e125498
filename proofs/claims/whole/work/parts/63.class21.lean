/-! ===== heaps that grow; the class: lots ===== -/
def Ext (σ σ2 : Hp) : Prop := ∀ a, zK σ a < 26 → zK σ2 a = zK σ a ∧ zN σ2 a = zN σ a ∧ zQ σ2 a = zQ σ a
def Fsh (σ : Hp) : Prop := ∀ a, zK σ a < 26 → a < zX σ
theorem ht_fresh {G : GG} {M : MI} {pc : Nat} {L : List (Option Value)} {st : List Value} {σ : Hp} {d : Nat} {Q : Option Value → Hp → Prop} (k : Fsh σ → HT G M pc L st σ d Q) : HT G M pc L st σ d Q :=
  fun l p e R s m args below meth c H locs ls Z C hf hl hw hL hq hz => k (fun a h => (hw.2.2.2.2.2.2.1 a h).2) l p e R s m args below meth c H locs ls Z C hf hl hw hL hq hz
theorem Ext.rf (σ : Hp) : Ext σ σ := fun _ _ => ⟨rfl, rfl, rfl⟩
theorem Ext.tr {σ σ1 σ2 : Hp} (h1 : Ext σ σ1) (h2 : Ext σ1 σ2) : Ext σ σ2 := fun a ha => by
  obtain ⟨a1, a2, a3⟩ := h1 a ha
  obtain ⟨b1, b2, b3⟩ := h2 a (by rw [a1]; exact ha)
  exact ⟨b1.trans a1, b2.trans a2, b3.trans a3⟩
theorem Ext.nw {σ : Hp} (hf : Fsh σ) (k len sl : Nat) : Ext σ (nw σ k len sl) := fun a ha => by
  have hne : a ≠ zX σ := fun e => by have := hf a ha; omega
  refine ⟨?_, ?_, ?_⟩
  · rw [zK_nw]; exact va_ne _ _ hne
  · rw [zN_nw]; exact va_ne _ _ hne
  · rw [zQ_nw]; exact va_fo _ _ hne
section ExtR
variable {σ σ2 : Hp} {Z : VT} {xo a b f n : Nat} {V : VT} {cN dN mN gk : Nat} {gw : Option GWt} {gi : Option GIt}
theorem NtS.ext (h : NtS σ a) (e : Ext σ σ2) : NtS σ2 a := by
  refine ⟨?_, fun o o1 o5 => ?_, fun j hj => ?_⟩
  · rw [(e a (by rw [h.k0]; decide)).1]; exact h.k0
  · obtain ⟨q1, q2, q3⟩ := h.2.1 o o1 o5
    have hk : zK σ (a + o) < 26 := by rw [q2]; split <;> decide
    rw [(e a (by rw [h.k0]; decide)).2.2, (e _ hk).1, (e _ hk).2.1]
    exact ⟨q1, q2, q3⟩
  · obtain ⟨q1, q2⟩ := h.2.2 j hj
    rw [(e (a + 4) (by rw [h.k4]; decide)).2.2, (e _ (by rw [q2]; decide)).1]
    exact ⟨q1, q2⟩
theorem LwS.ext (h : LwS σ b) (e : Ext σ σ2) : LwS σ2 b := by
  refine ⟨?_, fun o o1 o5 => ?_⟩
  · rw [(e b (by rw [h.k0]; decide)).1]; exact h.k0
  · obtain ⟨q1, q2, q3⟩ := h.2 o o1 o5
    have hk : zK σ (b + o) < 26 := by rw [q2]; decide
    rw [(e b (by rw [h.k0]; decide)).2.2, (e _ hk).1, (e _ hk).2.1]
    exact ⟨q1, q2, q3⟩
theorem FmS.ext (h : FmS σ f n) (e : Ext σ σ2) : FmS σ2 f n := by
  have k0 : zK σ f < 26 := by rw [h.k0]; decide
  have k1 : zK σ (f + 1) < 26 := by rw [h.k1]; decide
  have k2 : zK σ (f + 2) < 26 := by rw [h.k2]; decide
  refine ⟨?_, ?_, ?_, ?_, ?_, ?_, ?_, h.le⟩
  · rw [(e f k0).1]; exact h.k0
  · rw [(e f k0).2.2]; exact h.q0
  · rw [(e f k0).2.2]; exact h.q1
  · rw [(e _ k1).1]; exact h.k1
  · rw [(e _ k1).2.1]; exact h.n1
  · rw [(e _ k2).1]; exact h.k2
  · rw [(e _ k2).2.1]; exact h.n2
theorem isF_ext (h : LwS σ b) (e : Ext σ σ2) : isF σ2 b f ↔ isF σ b f := by
  unfold isF
  rw [(e b (by rw [h.k0]; decide)).2.2]
theorem LW.ext (h : LW σ Z b V cN dN mN gk gw gi) (e : Ext σ σ2) : LW σ2 Z b V cN dN mN gk gw gi := by
  obtain ⟨h1, h2, h3, h4, h5, h6⟩ := h
  have eb := (e b (by rw [h1.k0]; decide)).2.2
  refine ⟨h1.ext e, h2, ?_, ?_, ?_, h6⟩
  · cases gw with
    | none => show zQ σ2 b 5 = none; rw [eb]; exact h3
    | some g =>
      obtain ⟨f, n, q1, q2, q3⟩ := h3
      exact ⟨f, n, by rw [eb]; exact q1, q2.ext e, q3⟩
  · cases gi with
    | none => show zQ σ2 b 6 = none; rw [eb]; exact h4
    | some g =>
      obtain ⟨f, n, q1, q2, q3⟩ := h4
      exact ⟨f, n, by rw [eb]; exact q1, q2.ext e, q3⟩
  · intro f hf
    rw [isF_ext h1 e] at hf
    exact ⟨(h5 f hf).1, fun f2 hf2 => (h5 f hf).2 f2 ((isF_ext h1 e).mp hf2)⟩
theorem NW.ext (h : NW σ Z a b V cN dN mN gk gw gi) (e : Ext σ σ2) : NW σ2 Z a b V cN dN mN gk gw gi := by
  obtain ⟨h1, h2, h3, h4⟩ := h
  refine ⟨h1.ext e, ?_, ⟨h3.1, fun f hf => h3.2 f ((isF_ext h4.1 e).mp hf)⟩, h4.ext e⟩
  rw [(e a (by rw [h1.k0]; decide)).2.2]; exact h2
theorem XS.ext (h : XS σ xo) (e : Ext σ σ2) : XS σ2 xo := by
  have e0 := (e xo (by rw [h.k0]; decide))
  have et := (e (xo + 1) (by rw [h.kt]; decide))
  have es := (e (xo + 2) (by rw [h.ks]; decide))
  have e3 := (e (xo + 46) (by rw [h.k3]; decide))
  have e4 := (e (xo + 47) (by rw [h.k4]; decide))
  have e5 := (e (xo + 48) (by rw [h.k5]; decide))
  have e6 := (e (xo + 49) (by rw [h.k6]; decide))
  have e7 := (e (xo + 50) (by rw [h.k7]; decide))
  have e8 := (e (xo + 51) (by rw [h.k8]; decide))
  refine ⟨?_, ⟨?_, ?_, ?_, ?_, ?_⟩, ⟨?_, h.nt.ext e⟩, ⟨?_, h.tr.ext e⟩, ⟨?_, ?_, ?_⟩, ⟨?_, ?_, ?_⟩, ⟨?_, ?_, ?_⟩, ⟨?_, ?_, ?_⟩, ⟨?_, ?_, ?_⟩, ?_, ?_, ?_⟩
  · rw [e0.1]; exact h.k0
  · rw [e0.2.2]; exact h.qt
  · rw [et.1]; exact h.kt
  · rw [et.2.2]; exact h.qs
  · rw [es.1]; exact h.ks
  · rw [es.2.1]; exact h.ns
  · rw [e0.2.2]; exact h.q1
  · rw [e0.2.2]; exact h.q2
  · rw [e0.2.2]; exact h.q3
  · rw [e3.1]; exact h.k3
  · rw [e3.2.1]; exact h.n3
  · rw [e0.2.2]; exact h.q4
  · rw [e4.1]; exact h.k4
  · rw [e4.2.1]; exact h.n4
  · rw [e0.2.2]; exact h.q5
  · rw [e5.1]; exact h.k5
  · rw [e5.2.1]; exact h.n5
  · rw [e0.2.2]; exact h.q6
  · rw [e6.1]; exact h.k6
  · rw [e6.2.1]; exact h.n6
  · rw [e0.2.2]; exact h.q7
  · rw [e7.1]; exact h.k7
  · rw [e7.2.1]; exact h.n7
  · rw [e0.2.2]; exact h.q8
  · rw [e8.1]; exact h.k8
  · rw [e8.2.1]; exact h.n8
theorem CW.ext (h : CW σ Z xo b V cN dN mN gk gw gi) (e : Ext σ σ2) : CW σ2 Z xo b V cN dN mN gk gw gi :=
  ⟨h.1.ext e, h.2.1.ext e, h.2.2.1, fun f hf => h.2.2.2 f ((isF_ext h.2.1.lb e).mp hf)⟩
/-- what no allocation touches -/
theorem LW.rows (h : LW σ Z b V cN dN mN gk gw gi) (hf : Fsh σ) {r : Nat} (hr : zX σ ≤ r) (F : ST) : LW σ (va_up Z r F) b V cN dN mN gk gw gi := by
  refine h.keep (fun q q1 q2 => va_fo _ _ ?_) (fun f hf2 => va_fo _ _ ?_)
  · intro e
    by_cases c : q = b
    · have := hf b (by rw [h.1.k0]; decide); omega
    · have := hf (b + (q - b)) (by rw [(h.1.2 (q - b) (by omega) (by omega)).2.1]; decide)
      omega
  · intro e
    have key : zK σ (f + 2) < 26 := by
      rcases hf2 with hf2 | hf2
      · cases gw with
        | none => have h3 : zQ σ b 5 = none := h.2.2.1; rw [h3] at hf2; cases hf2
        | some g =>
          obtain ⟨f3, n, q1, q2, -⟩ := h.2.2.1
          rw [q1] at hf2
          cases hf2
          rw [q2.k2]; decide
      · cases gi with
        | none => have h3 : zQ σ b 6 = none := h.2.2.2.1; rw [h3] at hf2; cases hf2
        | some g =>
          obtain ⟨f3, n, q1, q2, -⟩ := h.2.2.2.1
          rw [q1] at hf2
          cases hf2
          rw [q2.k2]; decide
    have := hf _ key
    omega
theorem CW.rows (h : CW σ Z xo b V cN dN mN gk gw gi) (hf : Fsh σ) {r : Nat} (hr : zX σ ≤ r) (F : ST) : CW σ (va_up Z r F) xo b V cN dN mN gk gw gi :=
  ⟨h.1, ⟨h.2.1.1, h.2.1.2.1, h.2.1.2.2.1, h.2.1.lw.rows hf hr F⟩, h.2.2⟩
theorem XS.lt (h : XS σ xo) (hf : Fsh σ) : xo + 52 ≤ zX σ := by
  have := hf (xo + 51) (by rw [h.k8]; decide)
  omega
theorem isF_lt (h : LW σ Z b V cN dN mN gk gw gi) (hf : Fsh σ) (h2 : isF σ b f) : f + 3 ≤ zX σ := by
  have key : zK σ (f + 2) < 26 := by
    rcases h2 with hf2 | hf2
    · cases gw with
      | none => have h3 : zQ σ b 5 = none := h.2.2.1; rw [h3] at hf2; cases hf2
      | some g =>
        obtain ⟨f3, n, q1, q2, -⟩ := h.2.2.1
        rw [q1] at hf2
        cases hf2
        rw [q2.k2]; decide
    · cases gi with
      | none => have h3 : zQ σ b 6 = none := h.2.2.2.1; rw [h3] at hf2; cases hf2
      | some g =>
        obtain ⟨f3, n, q1, q2, -⟩ := h.2.2.2.1
        rw [q1] at hf2
        cases hf2
        rw [q2.k2]; decide
  have := hf _ key
  omega
end ExtR
def sgL (σ : Hp) (xo : Nat) (g : Int64) (t : Option Nat) : Hp := wQ (wJ (nw σ 0 0 1) (zX σ) 0 g) (xo + 30) 0 t
theorem sgL_J (σ : Hp) (xo : Nat) (g g2 : Int64) (t : Option Nat) : wJ (sgL σ xo g t) (zX σ) 0 g2 = sgL σ xo g2 t := by
  have e : up2 (up2 (zJ (nw σ 0 0 1)) (zX σ) 0 g) (zX σ) 0 g2 = up2 (zJ (nw σ 0 0 1)) (zX σ) 0 g2 := by
    funext p q
    unfold up2
    split <;> rfl
  show (zK (nw σ 0 0 1), zN (nw σ 0 0 1), zI (nw σ 0 0 1), up2 (up2 (zJ (nw σ 0 0 1)) (zX σ) 0 g) (zX σ) 0 g2, up2 (zQ (nw σ 0 0 1)) (xo + 30) 0 t, zX (nw σ 0 0 1), zS (nw σ 0 0 1)) = _
  rw [e]
  rfl
theorem sgL_Q (σ : Hp) (xo : Nat) (g : Int64) (t t2 : Option Nat) : wQ (sgL σ xo g t) (xo + 30) 0 t2 = sgL σ xo g t2 := wQ_wQ _ _ _ _
theorem sgL_g (σ : Hp) (xo : Nat) (g : Int64) (t : Option Nat) : zJ (sgL σ xo g t) (zX σ) 0 = g := up2_s _ _ _ _
theorem sgL_K (σ : Hp) (xo : Nat) (g : Int64) (t : Option Nat) : zK (sgL σ xo g t) (zX σ) = 0 := va_sm _ _ _
section C21
variable {G : GG} {σ : Hp} {Z : VT} {xo b : Nat} {V : VT} {cN dN mN gk : Nat} {gw : Option GWt} {gi : Option GIt}
theorem CW.sgL (hC : CW σ Z xo b V cN dN mN gk gw gi) (hf : Fsh σ) (g : Int64) (t : Option Nat) : CW (sgL σ xo g t) Z xo b V cN dN mN gk gw gi :=
  CW.w0 (hC.ext ((Ext.nw hf 0 0 1).tr (fun a ha => ⟨rfl, rfl, rfl⟩)))
set_option maxRecDepth 100000 in
theorem sc_dinit {q : Nat} (hK : zK σ q = 0) (x : Int32) : Sp G mX0_init 1 [.ref q, .int x] (cv σ Z) (fun rv σ' => rv = none ∧ σ' = cv (wJ σ q 0 x.toInt64) Z) := by
  have D := dat dl_X0_init
  show HT G mX0_init 0 [some (.ref q), some (.int x)] [] (cv σ Z) 1 _
  refine ht_aload_n (D 0 rfl) rfl rfl ?_
  refine ht_objInit cl_X0_1 ob_inst ob_code (D 1 rfl) (by decide) (by omega) ?_
  refine ht_aload_n (D 2 rfl) rfl rfl ?_
  refine ht_iload_n (D 3 rfl) rfl rfl ?_
  refine ht_i2l (D 4 rfl) ?_
  refine pf_X0_7 rfl (D 5 rfl) hK ?_
  refine ht_vret (D 6 rfl) rfl ?_
  exact ⟨rfl, rfl⟩
set_option maxRecDepth 100000 in
theorem sc_draw {q : Nat} (hK : zK σ q = 0) {g : Int64} (hg : zJ σ q 0 = g) {k : Int32} (hkp : ¬ k ≤ 0) (hk0 : ¬ k.toInt64 = 0) : Sp G mX0_drawBelow 0 [.ref q, .int k] (cv σ Z) (fun rv σ' => rv = some (.int (dV (dG g) k)) ∧ σ' = cv (wJ σ q 0 (dG g)) Z) := by
  have D := dat dl_X0_drawBelow
  show HT G mX0_drawBelow 0 [some (.ref q), some (.int k)] [] (cv σ Z) 0 _
  refine ht_aload_n (D 0 rfl) rfl rfl ?_
  refine ht_aload_n (D 1 rfl) rfl rfl ?_
  refine gf_X0_7 rfl (D 2 rfl) hK ?_
  rw [show zJ (cv σ Z) q 0 = g from hg]
  refine ht_ldc2 kl_X0_13 (D 3 rfl) ?_
  refine ht_lmul (D 4 rfl) ?_
  refine ht_ldc2 kl_X0_15 (D 5 rfl) ?_
  refine ht_ladd (D 6 rfl) ?_
  refine ht_ldc2 kl_X0_17 (D 7 rfl) ?_
  refine ht_lrem (D 8 rfl) (by decide) ?_
  refine ht_topl (fun g2 hg2 => ?_)
  have hg3 : g2 = dG g := hg2
  clear hg2
  subst hg3
  refine pf_X0_7 rfl (D 9 rfl) hK ?_
  show HT G mX0_drawBelow 20 _ _ (cv (wJ σ q 0 (dG g)) Z) 0 _
  refine ht_iload_n (D 10 rfl) rfl rfl ?_
  refine ht_if_le (tgt := 39) (D 11 rfl) (by decide) (fun hb21 => ?_) (fun hb21 => ?_)
  · skip
    exact absurd hb21 hkp
  · skip
    refine ht_aload_n (D 12 rfl) rfl rfl ?_
    refine gf_X0_7 rfl (D 13 rfl) hK ?_
    rw [show zJ (cv (wJ σ q 0 (dG g)) Z) q 0 = dG g from up2_s _ _ _ _]
    refine ht_ldc2 kl_X0_19 (D 14 rfl) ?_
    refine ht_ldiv (D 15 rfl) (by decide) ?_
    refine ht_iload_n (D 16 rfl) rfl rfl ?_
    refine ht_i2l (D 17 rfl) ?_
    refine ht_lrem (D 18 rfl) hk0 ?_
    refine ht_l2i (D 19 rfl) ?_
    refine ht_goto (tgt := 40) (D 20 rfl) (by decide) ?_
    refine ht_iret (D 22 rfl) rfl rfl ?_
    exact ⟨rfl, rfl⟩
theorem XP_sg {q : Nat} {hC : CW σ Z xo b V cN dN mN gk gw gi} {hf : Fsh σ} {g : Int64} {t : Option Nat} : XP (sgL σ xo g t) xo b q ↔ XP σ xo b q := by
  have e : ∀ f, isF (_root_.Jvm.Pilot.@@N@@.sgL σ xo g t) b f ↔ isF σ b f := fun f => isF_w0.trans (isF_ext hC.2.1.lb ((Ext.nw hf 0 0 1).tr (fun a ha => ⟨rfl, rfl, rfl⟩)))
  unfold XP
  constructor
  · rintro (c | ⟨f, c1, c2⟩)
    · exact Or.inl c
    · exact Or.inr ⟨f, (e f).mp c1, c2⟩
  · rintro (c | ⟨f, c1, c2⟩)
    · exact Or.inl c
    · exact Or.inr ⟨f, (e f).mpr c1, c2⟩
theorem tr_sg {σ : Hp} {Z : VT} (hC : CW σ Z xo b V cN dN mN gk gw gi) {Z1 Z2 : VT} (hf : Fr (NP σ (xo + 30) b) Z1 Z2) : Fr (XP σ xo b) Z1 Z2 ∧ nv dN Z2 (xo + 14) = nv dN Z1 (xo + 14) ∧ Z2 (xo + 14) = Z1 (xo + 14) := by
  have key : ∀ i, i < 16 → Z2 (xo + 14 + i) = Z1 (xo + 14 + i) := fun i hi => hf _ (by
    rintro (⟨c1, c2⟩ | ⟨f, c1, c2⟩)
    · omega
    · have := hC.2.2.2 f c1; omega)
  exact ⟨hf.mono (fun q hq => hq.xt), nv_fr (fun i i1 _ _ => key i i1), key 0 (by omega)⟩
theorem ltT_lk (hX : PX V cN dN mN gk) (gw : Option GWt) (gi : Option GIt) {S : ST} (hl : LkI S dN) (hm : Mn S cN mN) (h : Nat) (g : Int64) : ∀ k, LkI (ltT V gw gi dN mN gk S h g k).1 dN := by
  intro k
  induction k with
  | zero => exact hl
  | succ k ih => exact psS_lk hX gw gi ih (ltT_mn hX.1 gw gi h hm g k) (h + k) _
set_option maxRecDepth 100000 in
theorem sc_ltin (hE : NE G) (hC : CW σ Z xo b V cN dN mN gk gw gi) (hbar : Z (xo + 14) 2 = -1) (hmn : Mn (nv dN Z (xo + 14)) cN mN) (hlk : LkI (nv dN Z (xo + 14)) dN) {h : Nat} (hh : Z (xo + 14) 1 = nI h) (h31 : h < 2 ^ 30) {md0 : Nat} (hmd : V 6 0 = nI md0) (hmd9 : md0 ≤ 20) (hf : Fsh σ) {mm n k : Nat} (hn : n ≤ 120) {x1 w fq lq : Int32} {g : Int64} {Q : Option Value → Hp → Prop}
    (kq : ∀ (Z2 : VT) (l9 : Option Value), Fr (XP σ xo b) (va_up Z (zX σ) (fun _ => 0)) Z2 → nv dN Z2 (xo + 30) = (ltT V gw gi dN mN gk (nv dN Z (xo + 14)) h g n).1 → Z2 (xo + 30) 2 = -1 → nv dN Z2 (xo + 14) = nv dN Z (xo + 14) → Z2 (xo + 14) 2 = -1 → HT G mX9_lots 140 [some (.ref xo), some (.int x1), some (.int (nI mm)), some (.int (nI n)), some (.int w), some (.ref (zX σ)), some (.int (fq)), some (.int (ltC V gw gi dN mN gk (nv dN Z (xo + 14)) h g lq n)), some (.int (nI k)), l9] [] (cv (sgL σ xo (ltT V gw gi dN mN gk (nv dN Z (xo + 14)) h g n).2 (some b)) Z2) 6 Q) :
    ∀ r t : Nat, t ≤ n → n - t = r → ∀ Z1 : VT, Fr (XP σ xo b) (va_up Z (zX σ) (fun _ => 0)) Z1 → nv dN Z1 (xo + 30) = (ltT V gw gi dN mN gk (nv dN Z (xo + 14)) h g t).1 → Z1 (xo + 30) 2 = -1 → nv dN Z1 (xo + 14) = nv dN Z (xo + 14) → Z1 (xo + 14) 2 = -1 → HT G mX9_lots 84 [some (.ref xo), some (.int x1), some (.int (nI mm)), some (.int (nI n)), some (.int w), some (.ref (zX σ)), some (.int (fq)), some (.int (ltC V gw gi dN mN gk (nv dN Z (xo + 14)) h g lq t)), some (.int (nI k)), some (.int (nI t))] [] (cv (sgL σ xo (ltT V gw gi dN mN gk (nv dN Z (xo + 14)) h g t).2 (some b)) Z1) 6 Q := by
    have D := dat dl_X9_lots
    have hX := hC.1
    have hW := hC.2.1
    have h10 := hW.d10
    have h8 := hW.c8
    have h6 := hW.m6
    have h2 := hW.g2
    have hC0 := hC.rows hf (Nat.le_refl _) (fun _ => 0)
    have hmd1 : ¬ V 6 0 + 1 ≤ 0 := by rw [hmd, nI_1]; exact nI_nle (by omega) (by omega)
    have hmd2 : ¬ (V 6 0 + 1).toInt64 = 0 := by
      rw [hmd, nI_1, nI_l (by omega)]
      intro e
      have := congrArg Int64.toInt e
      rw [lN_toInt (by omega)] at this
      have z : (0 : Int64).toInt = 0 := rfl
      omega
    intro r
    induction r using Nat.strongRecOn with
    | _ r ih =>
      intro t ht hr Z1 hfx hn1 hb1 hnn hbn
      have XP_sg : ∀ {q : Nat} {g : Int64} {t : Option Nat}, XP (sgL σ xo g t) xo b q ↔ XP σ xo b q := fun {q g t} => _root_.Jvm.Pilot.@@N@@.XP_sg (hC := hC) (hf := hf)
      have hC1 := (hC0.sgL hf (ltT V gw gi dN mN gk (nv dN Z (xo + 14)) h g t).2 (some b)).keep (Z2 := Z1) (fun q hq => hfx q (fun c => hq (XP_sg.mpr c)))
      have hX1 := hC1.1
      have hTl : zQ (sgL σ xo (ltT V gw gi dN mN gk (nv dN Z (xo + 14)) h g t).2 (some b)) (xo + 30) 0 = some b := up2_s _ _ _ _
      have hTl2 : zQ (sgL σ xo (dG (ltT V gw gi dN mN gk (nv dN Z (xo + 14)) h g t).2) (some b)) (xo + 30) 0 = some b := up2_s _ _ _ _
      have hT1 := hC1.tr hTl
      have hlT := ltT_lk hW.px gw gi hlk hmn h g t
      refine ht_iload (D 45 rfl) rfl ?_
      refine ht_iload_n (D 46 rfl) rfl rfl ?_
      refine ht_icmp_ge (tgt := 140) (D 47 rfl) (by decide) (fun hb87 => ?_) (fun hb87 => ?_)
      · skip
        have htk : t = n := by have h3 := (nI_leI (a := n) (b := t) (by omega) (by omega)).mp hb87; omega
        subst htk
        exact kq Z1 _ hfx hn1 hb1 hnn hbn
      · skip
        have htk : t < n := by have h3 := mt (nI_leI (a := n) (b := t) (by omega) (by omega)).mpr hb87; omega
        refine ht_aload_n (D 48 rfl) rfl rfl ?_
        refine gf_X9_28 rfl (D 49 rfl) hX1.k0 hX1.q2 ?_
        refine ht_aload (D 50 rfl) rfl ?_
        refine ht_aload_n (D 51 rfl) rfl rfl ?_
        refine gf_X9_24 rfl (D 52 rfl) hX1.k0 hX1.q1 ?_
        refine gf_X9_75 rfl (D 53 rfl) hX1.nt.k0 hC1.2.1.lq ?_
        refine gi_X9_220 rfl (D 54 rfl) hC1.2.1.lb.k0 ?_
        rw [hC1.2.1.lr.1.2.2.2.2]
        refine ht_iconst (v := 1) (D 55 rfl) (by decide) ?_
        refine ht_iadd (D 56 rfl) ?_
        refine kVX0_drawBelow (As := [_]) cl_X9_223 (D 57 rfl) (sc_draw (sgL_K σ xo (ltT V gw gi dN mN gk (nv dN Z (xo + 14)) h g t).2 (some b)) (sgL_g σ xo (ltT V gw gi dN mN gk (nv dN Z (xo + 14)) h g t).2 (some b)) hmd1 hmd2) (sgL_K σ xo (ltT V gw gi dN mN gk (nv dN Z (xo + 14)) h g t).2 (some b)) rfl (Nat.le_of_ble_eq_true rfl) rfl (Nat.le_of_ble_eq_true rfl) (by omega) ?_
        rintro _ _ ⟨rfl, rfl⟩
        rw [sgL_J]
        have hC2 := (hC0.sgL hf (dG (ltT V gw gi dN mN gk (nv dN Z (xo + 14)) h g t).2) (some b)).keep (Z2 := Z1) (fun q hq => hfx q (fun c => hq (XP_sg.mpr c)))
        have hT2 := hC2.tr hTl2
        have hX2 := hC2.1
        refine kVX4_passHour (As := [_]) cl_X9_165 (D 58 rfl) (sc_hr hE hT2 hb1 hn1 hlT (ltT_mn hW.pl gw gi h hmn g t) (ltT_80 V gw gi dN mN gk (S := nv dN Z (xo + 14)) hh g t) (by omega) _) hX2.tr.k0 rfl (Nat.le_of_ble_eq_true rfl) rfl (Nat.le_of_ble_eq_true rfl) (by omega) ?_
        rintro _ _ ⟨rfl, Z2, rfl, hf2, hn2, hb2⟩
        have hT3 := hT2.keep hf2
        obtain ⟨hfx2, hnn2, hna2⟩ := tr_sg hC2 hf2
        refine ht_iload (D 59 rfl) rfl ?_
        refine ht_aload_n (D 60 rfl) rfl rfl ?_
        refine gf_X9_28 rfl (D 61 rfl) hX2.k0 hX2.q2 ?_
        refine kVX4_someLoose (As := []) cl_X9_198 (D 62 rfl) (sc_someLoose hX2.tr hT3.lq hT3.lb hT3.nd h10) hX2.tr.k0 rfl (Nat.le_of_ble_eq_true rfl) rfl (Nat.le_of_ble_eq_true rfl) (by omega) ?_
        rintro _ _ ⟨rfl, rfl⟩
        rw [anC_e dN _ _ dN h10, hn2]
        refine ht_if_eq (tgt := 130) (D 63 rfl) (by decide) (fun hb123 => ?_) (fun hb123 => ?_)
        · skip
          have hz : ¬ anL (ltT V gw gi dN mN gk (nv dN Z (xo + 14)) h g (t + 1)).1 dN = true := b01_eq hb123
          refine ht_iconst (v := 0) (D 66 rfl) (by decide) ?_
          refine ht_iadd (D 67 rfl) ?_
          refine ht_istore (D 68 rfl) (by decide) rfl ?_
          refine ht_iinc (v := nI (t + 1)) (D 69 rfl) rfl (nI_i1 _) (by decide) rfl ?_
          refine ht_goto (tgt := 84) (D 70 rfl) (by decide) ?_
          refine ht_cast (ih (n - (t + 1)) (by omega) (t + 1) (by omega) rfl Z2 (fun q hq => (hfx2 q (fun c => hq (XP_sg.mp c))).trans (hfx q hq)) hn2 hb2 (hnn2.trans hnn) (by rw [hna2]; exact hbn)) ?_ rfl rfl
          simp only [List.set, ltC]
          first
          | rw [if_pos hz]
          | rw [if_neg hz]
        · skip
          have hz : anL (ltT V gw gi dN mN gk (nv dN Z (xo + 14)) h g (t + 1)).1 dN = true := b01_ne hb123
          refine ht_iconst (v := 1) (D 64 rfl) (by decide) ?_
          refine ht_goto (tgt := 131) (D 65 rfl) (by decide) ?_
          refine ht_iadd (D 67 rfl) ?_
          refine ht_istore (D 68 rfl) (by decide) rfl ?_
          refine ht_iinc (v := nI (t + 1)) (D 69 rfl) rfl (nI_i1 _) (by decide) rfl ?_
          refine ht_goto (tgt := 84) (D 70 rfl) (by decide) ?_
          refine ht_cast (ih (n - (t + 1)) (by omega) (t + 1) (by omega) rfl Z2 (fun q hq => (hfx2 q (fun c => hq (XP_sg.mp c))).trans (hfx q hq)) hn2 hb2 (hnn2.trans hnn) (by rw [hna2]; exact hbn)) ?_ rfl rfl
          simp only [List.set, ltC]
          first
          | rw [if_pos hz]
          | rw [if_neg hz]
set_option maxRecDepth 100000 in
theorem sc_ltout (hE : NE G) (hC : CW σ Z xo b V cN dN mN gk gw gi) (hbar : Z (xo + 14) 2 = -1) (hmn : Mn (nv dN Z (xo + 14)) cN mN) (hlk : LkI (nv dN Z (xo + 14)) dN) {h : Nat} (hh : Z (xo + 14) 1 = nI h) (h31 : h < 2 ^ 30) {md0 : Nat} (hmd : V 6 0 = nI md0) (hmd9 : md0 ≤ 20) (hf : Fsh σ) {mm n : Nat} (hmm : mm ≤ 20) (hn : n ≤ 120) {x1 w : Int32} : ∀ r k : Nat, k ≤ mm → mm - k = r → ∀ (Z1 : VT) (l9 : Option Value) (t : Option Nat), Fr (XP σ xo b) (va_up Z (zX σ) (fun _ => 0)) Z1 → nv dN Z1 (xo + 14) = nv dN Z (xo + 14) → Z1 (xo + 14) 2 = -1 → HT G mX9_lots 64 [some (.ref xo), some (.int x1), some (.int (nI mm)), some (.int (nI n)), some (.int w), some (.ref (zX σ)), some (.int ((ltM V gw gi dN mN gk (nv dN Z (xo + 14)) h n x1.toInt64 k).1)), some (.int ((ltM V gw gi dN mN gk (nv dN Z (xo + 14)) h n x1.toInt64 k).2.1)), some (.int (nI k)), l9] [] (cv (sgL σ xo (ltM V gw gi dN mN gk (nv dN Z (xo + 14)) h n x1.toInt64 k).2.2 t) Z1) 6 (fun rv σ' => rv = some (.int (if w = 0 then (ltM V gw gi dN mN gk (nv dN Z (xo + 14)) h n x1.toInt64 mm).1 else (ltM V gw gi dN mN gk (nv dN Z (xo + 14)) h n x1.toInt64 mm).2.1)) ∧ ∃ (g : Int64) (t : Option Nat) (Z2 : VT), σ' = cv (sgL σ xo g t) Z2 ∧ Fr (XP σ xo b) (va_up Z (zX σ) (fun _ => 0)) Z2 ∧ nv dN Z2 (xo + 14) = nv dN Z (xo + 14) ∧ Z2 (xo + 14) 2 = -1) := by
    have D := dat dl_X9_lots
    have hX := hC.1
    have hW := hC.2.1
    have h10 := hW.d10
    have h8 := hW.c8
    have h6 := hW.m6
    have h2 := hW.g2
    have hC0 := hC.rows hf (Nat.le_refl _) (fun _ => 0)
    intro r
    induction r using Nat.strongRecOn with
    | _ r ih =>
      intro k hk hr Z1 l9 t hfx hnn hbn
      have XP_sg : ∀ {q : Nat} {g : Int64} {t : Option Nat}, XP (sgL σ xo g t) xo b q ↔ XP σ xo b q := fun {q g t} => _root_.Jvm.Pilot.@@N@@.XP_sg (hC := hC) (hf := hf)
      have hC1 := (hC0.sgL hf (ltM V gw gi dN mN gk (nv dN Z (xo + 14)) h n x1.toInt64 k).2.2 t).keep (Z2 := Z1) (fun q hq => hfx q (fun c => hq (XP_sg.mpr c)))
      have hX1 := hC1.1
      refine ht_iload (D 35 rfl) rfl ?_
      refine ht_iload_n (D 36 rfl) rfl rfl ?_
      refine ht_icmp_ge (tgt := 169) (D 37 rfl) (by decide) (fun hb67 => ?_) (fun hb67 => ?_)
      · skip
        have hkk : k = mm := by have h3 := (nI_leI (a := mm) (b := k) (by omega) (by omega)).mp hb67; omega
        subst hkk
        refine ht_iload (D 84 rfl) rfl ?_
        refine ht_if_ne (tgt := 179) (D 85 rfl) (by decide) (fun hb171 => ?_) (fun hb171 => ?_)
        · skip
          refine ht_iload (D 88 rfl) rfl ?_
          refine ht_iret (D 89 rfl) rfl rfl ?_
          first
          | exact ⟨by rw [if_pos hb171], _, _, Z1, rfl, hfx, hnn, hbn⟩
          | exact ⟨by rw [if_neg hb171], _, _, Z1, rfl, hfx, hnn, hbn⟩
        · skip
          refine ht_iload (D 86 rfl) rfl ?_
          refine ht_goto (tgt := 181) (D 87 rfl) (by decide) ?_
          refine ht_iret (D 89 rfl) rfl rfl ?_
          first
          | exact ⟨by rw [if_pos hb171], _, _, Z1, rfl, hfx, hnn, hbn⟩
          | exact ⟨by rw [if_neg hb171], _, _, Z1, rfl, hfx, hnn, hbn⟩
      · skip
        have hkk : k < mm := by have h3 := mt (nI_leI (a := mm) (b := k) (by omega) (by omega)).mpr hb67; omega
        refine ht_aload_n (D 38 rfl) rfl rfl ?_
        refine gf_X9_28 rfl (D 39 rfl) hX1.k0 hX1.q2 ?_
        refine ht_aload_n (D 40 rfl) rfl rfl ?_
        refine gf_X9_24 rfl (D 41 rfl) hX1.k0 hX1.q1 ?_
        refine kVX4_copyFrom (As := [_]) cl_X9_175 (D 42 rfl) (sc_ncopy hX1.tr hX1.nt hC1.2.1.lq (by omega)) hX1.tr.k0 rfl (Nat.le_of_ble_eq_true rfl) rfl (Nat.le_of_ble_eq_true rfl) (by omega) ?_
        rintro _ _ ⟨rfl, Z2, rfl, hcp⟩
        obtain ⟨hT0, hnt0, hbt0, hnn0, hna0⟩ := tr_start hC1 hcp
        rw [sgL_Q]
        refine ht_iconst (v := 0) (D 43 rfl) (by decide) ?_
        refine ht_istore (D 44 rfl) (by decide) rfl ?_
        refine ht_cast (sc_ltin hE hC hbar hmn hlk hh h31 hmd hmd9 hf (g := (ltM V gw gi dN mN gk (nv dN Z (xo + 14)) h n x1.toInt64 k).2.2) (lq := (ltM V gw gi dN mN gk (nv dN Z (xo + 14)) h n x1.toInt64 k).2.1) hn ?_ n 0 (by omega) (by omega) Z2 (hfx.tr (fun q hq => hcp.1 q (fun c => hq (Or.inl ⟨by omega, by omega⟩)))) (by rw [hnt0, hnn]; rfl) hbt0 (hnn0.trans hnn) (by rw [hna0]; exact hbn)) rfl rfl rfl
        intro Z3 l9 hfx3 hn3 hb3 hnn3 hbn3
        have hCo := (hC0.sgL hf (ltT V gw gi dN mN gk (nv dN Z (xo + 14)) h (ltM V gw gi dN mN gk (nv dN Z (xo + 14)) h n x1.toInt64 k).2.2 n).2 (some b)).keep (Z2 := Z3) (fun q hq => hfx3 q (fun c => hq (XP_sg.mpr c)))
        have hXo := hCo.1
        have hTo := hCo.tr (show zQ (sgL σ xo (ltT V gw gi dN mN gk (nv dN Z (xo + 14)) h (ltM V gw gi dN mN gk (nv dN Z (xo + 14)) h n x1.toInt64 k).2.2 n).2 (some b)) (xo + 30) 0 = some b from up2_s _ _ _ _)
        refine ht_iload (D 71 rfl) rfl ?_
        refine ht_aload_n (D 72 rfl) rfl rfl ?_
        refine gf_X9_24 rfl (D 73 rfl) hXo.k0 hXo.q1 ?_
        refine gf_X9_75 rfl (D 74 rfl) hXo.nt.k0 hCo.2.1.lq ?_
        refine gi_X9_121 rfl (D 75 rfl) hCo.2.1.lb.k0 ?_
        rw [hCo.2.1.nm]
        refine ht_aload_n (D 76 rfl) rfl rfl ?_
        refine gf_X9_28 rfl (D 77 rfl) hXo.k0 hXo.q2 ?_
        refine kVX4_menHeld (As := []) cl_X9_213 (D 78 rfl) (sc_menHeld hXo.tr hTo.lq hTo.lb hTo.nm h6) hXo.tr.k0 rfl (Nat.le_of_ble_eq_true rfl) rfl (Nat.le_of_ble_eq_true rfl) (by omega) ?_
        rintro _ _ ⟨rfl, rfl⟩
        rw [hNc_e (T := nv dN Z3 (xo + 30)) (n := mN) (fun i hi => (nv_man _ _ _ (show i < 6 by omega)).symm) (by rw [hn3]; exact ltT_mn hW.pl gw gi h hmn _ n) h8 mN (Nat.le_refl _), hn3]
        refine ht_isub (D 79 rfl) ?_
        refine ht_iadd (D 80 rfl) ?_
        refine ht_istore (D 81 rfl) (by decide) rfl ?_
        refine ht_iinc (v := nI (k + 1)) (D 82 rfl) rfl (nI_i1 _) (by decide) rfl ?_
        refine ht_goto (tgt := 64) (D 83 rfl) (by decide) ?_
        exact ht_cast (ih (mm - (k + 1)) (by omega) (k + 1) (by omega) rfl Z3 l9 (some b) hfx3 hnn3 hbn3) rfl rfl rfl
theorem lo_a {p q r s : Prop} (h : ¬ p) : ¬ (p ∧ q ∧ r ∧ s) := fun z => h z.1
theorem lo_b {p q r s : Prop} (h : ¬ q) : ¬ (p ∧ q ∧ r ∧ s) := fun z => h z.2.1
theorem lo_c {p q r s : Prop} (h : ¬ r) : ¬ (p ∧ q ∧ r ∧ s) := fun z => h z.2.2.1
theorem lo_d {p q r s : Prop} (h : ¬ s) : ¬ (p ∧ q ∧ r ∧ s) := fun z => h z.2.2.2
set_option maxRecDepth 100000 in
theorem sc_lots (hE : NE G) (hC : CW σ Z xo b V cN dN mN gk gw gi) (hbar : Z (xo + 14) 2 = -1) (hmn : Mn (nv dN Z (xo + 14)) cN mN) (hlk : LkI (nv dN Z (xo + 14)) dN) {h : Nat} (hh : Z (xo + 14) 1 = nI h) (h31 : h < 2 ^ 30) {md0 : Nat} (hmd : V 6 0 = nI md0) (hmd9 : md0 ≤ 20) (hr1 : zX σ + 1 ≤ gC G) (hr2 : zS σ + 1 ≤ gS G) (x1 y z w : Int32) : Sp G mX9_lots 6 [.ref xo, .int x1, .int y, .int z, .int w] (cv σ Z) (fun rv σ' => (¬ aLotsOk x1 y z w ∧ QC σ xo b dN Z (-1) (nv dN Z (xo + 14)) rv σ') ∨ (aLotsOk x1 y z w ∧ (fun rv σ' => rv = some (.int (if w = 0 then (ltM V gw gi dN mN gk (nv dN Z (xo + 14)) h z.toNatClampNeg x1.toInt64 y.toNatClampNeg).1 else (ltM V gw gi dN mN gk (nv dN Z (xo + 14)) h z.toNatClampNeg x1.toInt64 y.toNatClampNeg).2.1)) ∧ ∃ (g : Int64) (t : Option Nat) (Z2 : VT), σ' = cv (sgL σ xo g t) Z2 ∧ Fr (XP σ xo b) (va_up Z (zX σ) (fun _ => 0)) Z2 ∧ nv dN Z2 (xo + 14) = nv dN Z (xo + 14) ∧ Z2 (xo + 14) 2 = -1) rv σ')) := by
  have D := dat dl_X9_lots
  show HT G mX9_lots 0 [some (.ref xo), some (.int x1), some (.int y), some (.int z), some (.int w), none, none, none, none, none] [] (cv σ Z) 6 _
  have hX := hC.1
  have hW := hC.2.1
  have h10 := hW.d10
  have h8 := hW.c8
  have h6 := hW.m6
  have h2 := hW.g2
  refine ht_iload_n (D 0 rfl) rfl rfl ?_
  refine ht_iconst (v := 0) (D 1 rfl) (by decide) ?_
  refine ht_sipush (v := 9999) (D 2 rfl) (by decide) ?_
  refine kSX9_isWithin (As := [_, _, _]) cl_X9_142 (D 3 rfl) (sc_isWithin _ _ _) rfl (Nat.le_of_ble_eq_true rfl) rfl (Nat.le_of_ble_eq_true rfl) (by omega) ?_
  rintro _ _ ⟨rfl, rfl⟩
  refine ht_if_eq (tgt := 21) (D 4 rfl) (by decide) (fun hb8 => ?_) (fun hb8 => ?_)
  · skip
    have q1 : ¬ (0 ≤ x1 ∧ x1 ≤ 9999) := b01_eq hb8
    refine ht_iconst (v := -1) (D 10 rfl) (by decide) ?_
    refine ht_iret (D 11 rfl) rfl rfl ?_
    first
    | exact Or.inl ⟨lo_a q1, QC_t hbar rfl⟩
    | exact Or.inl ⟨lo_b q2, QC_t hbar rfl⟩
  · skip
    have q1 : 0 ≤ x1 ∧ x1 ≤ 9999 := b01_ne hb8
    refine ht_iload_n (D 5 rfl) rfl rfl ?_
    refine ht_iconst (v := 1) (D 6 rfl) (by decide) ?_
    refine ht_bipush (v := 20) (D 7 rfl) (by decide) ?_
    refine kSX9_isWithin (As := [_, _, _]) cl_X9_142 (D 8 rfl) (sc_isWithin _ _ _) rfl (Nat.le_of_ble_eq_true rfl) rfl (Nat.le_of_ble_eq_true rfl) (by omega) ?_
    rintro _ _ ⟨rfl, rfl⟩
    refine ht_if_ne (tgt := 23) (D 9 rfl) (by decide) (fun hb18 => ?_) (fun hb18 => ?_)
    · skip
      have q2 := b01_ne hb18
      obtain ⟨mm, hm1, hm2, rfl⟩ := rngW (lo := 1) 20 (by decide) q2 (by decide)
      refine ht_iload_n (D 12 rfl) rfl rfl ?_
      refine ht_iconst (v := 1) (D 13 rfl) (by decide) ?_
      refine ht_bipush (v := 120) (D 14 rfl) (by decide) ?_
      refine kSX9_isWithin (As := [_, _, _]) cl_X9_142 (D 15 rfl) (sc_isWithin _ _ _) rfl (Nat.le_of_ble_eq_true rfl) rfl (Nat.le_of_ble_eq_true rfl) (by omega) ?_
      rintro _ _ ⟨rfl, rfl⟩
      refine ht_if_eq (tgt := 43) (D 16 rfl) (by decide) (fun hb30 => ?_) (fun hb30 => ?_)
      · skip
        have q3 := b01_eq hb30
        refine ht_iconst (v := -1) (D 22 rfl) (by decide) ?_
        refine ht_iret (D 23 rfl) rfl rfl ?_
        first
        | exact Or.inl ⟨lo_c q3, QC_t hbar rfl⟩
        | exact Or.inl ⟨lo_d q4, QC_t hbar rfl⟩
      · skip
        have q3 := b01_ne hb30
        obtain ⟨n, hn1, hn2, rfl⟩ := rngW (lo := 1) 120 (by decide) q3 (by decide)
        refine ht_iload (D 17 rfl) rfl ?_
        refine ht_iconst (v := 0) (D 18 rfl) (by decide) ?_
        refine ht_iconst (v := 1) (D 19 rfl) (by decide) ?_
        refine kSX9_isWithin (As := [_, _, _]) cl_X9_142 (D 20 rfl) (sc_isWithin _ _ _) rfl (Nat.le_of_ble_eq_true rfl) rfl (Nat.le_of_ble_eq_true rfl) (by omega) ?_
        rintro _ _ ⟨rfl, rfl⟩
        refine ht_if_ne (tgt := 45) (D 21 rfl) (by decide) (fun hb40 => ?_) (fun hb40 => ?_)
        · skip
          have q4 : 0 ≤ w ∧ w ≤ 1 := b01_ne hb40
          refine ht_fresh (fun hfr => ?_)
          have hf : Fsh σ := hfr
          refine ht_new (ci := 0) (by decide) kk_X9_216 ki_X0 kn_X0 (D 24 rfl) hr1 hr2 ?_
          show HT G mX9_lots 48 _ _ (cv (nw σ 0 0 1) (va_up Z (zX σ) (fun _ => 0))) 6 _
          refine ht_dup (D 25 rfl) rfl ?_
          refine ht_iload_n (D 26 rfl) rfl rfl ?_
          refine kIX0_init (As := [_]) cl_X9_218 (D 27 rfl) (sc_dinit (show zK (nw σ 0 0 1) (zX σ) = 0 from va_sm _ _ _) x1) rfl (Nat.le_of_ble_eq_true rfl) rfl (Nat.le_of_ble_eq_true rfl) (by omega) ?_
          rintro _ _ ⟨rfl, rfl⟩
          refine ht_astore (D 28 rfl) (by decide) rfl ?_
          refine ht_iconst (v := 0) (D 29 rfl) (by decide) ?_
          refine ht_istore (D 30 rfl) (by decide) rfl ?_
          refine ht_iconst (v := 0) (D 31 rfl) (by decide) ?_
          refine ht_istore (D 32 rfl) (by decide) rfl ?_
          refine ht_iconst (v := 0) (D 33 rfl) (by decide) ?_
          refine ht_istore (D 34 rfl) (by decide) rfl ?_
          refine ht_mono (ht_cast (sc_ltout hE hC hbar hmn hlk hh h31 hmd hmd9 hf hm1 hn1 mm 0 (by omega) (by omega) (va_up Z (zX σ) (fun _ => 0)) none (zQ (nw σ 0 0 1) (xo + 30) 0) (Fr.rf _ _) (nv_fr (fun i i1 _ _ => va_fo _ _ (by have := hX.lt hf; omega))) (by rw [va_fo _ _ (by have := hX.lt hf; omega)]; exact hbar)) rfl rfl ?_) ?_
          · show cv (wJ (nw σ 0 0 1) (zX σ) 0 x1.toInt64) _ = cv (wQ (wJ (nw σ 0 0 1) (zX σ) 0 x1.toInt64) (xo + 30) 0 (zQ (wJ (nw σ 0 0 1) (zX σ) 0 x1.toInt64) (xo + 30) 0)) _
            rw [wQ_id]
          · intro v s' hq
            refine Or.inr ⟨⟨q1, q2, q3, q4⟩, ?_⟩
            rw [nI_clamp (by omega), nI_clamp (by omega)]
            exact hq
        · skip
          have q4 : ¬ (0 ≤ w ∧ w ≤ 1) := b01_eq hb40
          refine ht_iconst (v := -1) (D 22 rfl) (by decide) ?_
          refine ht_iret (D 23 rfl) rfl rfl ?_
          first
          | exact Or.inl ⟨lo_c q3, QC_t hbar rfl⟩
          | exact Or.inl ⟨lo_d q4, QC_t hbar rfl⟩
    · skip
      have q2 := b01_eq hb18
      refine ht_iconst (v := -1) (D 10 rfl) (by decide) ?_
      refine ht_iret (D 11 rfl) rfl rfl ?_
      first
      | exact Or.inl ⟨lo_a q1, QC_t hbar rfl⟩
      | exact Or.inl ⟨lo_b q2, QC_t hbar rfl⟩
end C21
