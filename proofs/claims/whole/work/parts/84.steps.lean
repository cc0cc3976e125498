/-! ===== steps that were read have the value ===== -/
def fSh (ice : Bool) (f : Nat) : Nat := if ice then f + 2 else f - 1
theorem fc_sh {ice : Bool} {f : Nat} (h1 : 1 ≤ f) (h2 : f ≤ fcN ice) : wFc.getD (fcW ice f) 0 = nI (fSh ice f) ∧ fSh ice f < 9 := by
  have key : ∀ (ice : Bool) (f : Nat), f < 7 → (1 ≤ f ∧ f ≤ fcN ice) → wFc.getD (fcW ice f) 0 = nI (fSh ice f) ∧ fSh ice f < 9 := by decide
  exact key ice f (by have := (fcW_lt h2).1; omega) ⟨h1, h2⟩
theorem st_dec {v w : Nat} (hv : v < 10000) (hw : w < 16) : (nI v * 16 + nI w) / 16 = nI v ∧ (nI v * 16 + nI w) - (nI v * 16 + nI w) / 16 * 16 = nI w := by
  have e1 : nI v * 16 + nI w = nI (v * 16 + w) := by
    show Int32.ofNat v * Int32.ofNat 16 + nI w = _
    rw [← Int32.ofNat_mul]
    exact nI_add _ _
  have e2 : nI (v * 16 + w) / 16 = nI v := by
    rw [i_eq, Int32.toInt_div]
    rw [nI_toInt (by omega), nI_toInt (by omega), show (16 : Int32).toInt = 16 from rfl]
    rw [Int.tdiv_eq_ediv_of_nonneg (by omega)]
    have : ((v * 16 + w : Nat) : Int) / 16 = v := by omega
    rw [this]
    exact Int.bmod_eq_of_le (by omega) (by omega)
  refine ⟨by rw [e1]; exact e2, ?_⟩
  rw [e1, e2]
  have e3 : nI v * 16 = nI (v * 16) := by
    show Int32.ofNat v * Int32.ofNat 16 = _
    rw [← Int32.ofNat_mul]
    rfl
  rw [e3, nI_subb (by omega), show v * 16 + w - v * 16 = w by omega]
theorem vb_num (F : ST) {K : ST} {t v : Nat} (hv : v < 10000) (ht : t < 32) : vbS F (K, t) (nI v * 16 + 0) = (va_up K t (nI v), t + 1) := by
  have h := st_dec hv (w := 0) (by decide)
  unfold vbS
  rw [show nI v * 16 + 0 = nI v * 16 + nI 0 from rfl, h.2, h.1]
  have c1 : nI 0 = (0 : Int32) ∨ nI 0 = (1 : Int32) := Or.inl rfl
  have c2 : nI 0 = (0 : Int32) := rfl
  have c3 : (K, t).snd < 32 := ht
  rw [if_pos c1, if_pos c3, if_pos c2]
theorem vb_fct (F : ST) {K : ST} {t v : Nat} (hv : v < 9) (ht : t < 32) : vbS F (K, t) (nI v * 16 + 1) = (va_up K t (F v), t + 1) := by
  have h := st_dec (v := v) (w := 1) (by omega) (by decide)
  unfold vbS
  rw [show nI v * 16 + 1 = nI v * 16 + nI 1 from rfl, h.2, h.1]
  have c1 : nI 1 = (0 : Int32) ∨ nI 1 = (1 : Int32) := Or.inr rfl
  have c2 : ¬ nI 1 = (0 : Int32) := by decide
  have c3 : (K, t).snd < 32 := ht
  rw [if_pos c1, if_pos c3, if_neg c2]
  unfold fcO
  rw [if_pos (show 0 ≤ nI v ∧ nI v < 9 from ⟨nI_pos' (by omega), nI_lt (a := v) (b := 9) (by omega) (by omega)⟩), nI_clamp (by omega)]
theorem vb_not (F : ST) {K : ST} {t : Nat} : vbS F (K, t + 1) 2 = (va_up K t (if K t = 0 then 1 else 0), t + 1) := by
  show (if (2 : Int32) - 2 / 16 * 16 = 0 ∨ (2 : Int32) - 2 / 16 * 16 = 1 then _ else _) = _
  rw [if_neg (by decide), if_pos (by decide), if_pos (by show 0 < t + 1; omega)]
  rfl
theorem vb_op (F : ST) {K : ST} {t op : Nat} (h : op = 26 ∨ op = 27 ∨ op = 24 ∨ op = 25 ∨ op = 20 ∨ op = 21 ∨ op = 22) : vbS F (K, t + 2) (opS op) = (va_up K t (opV op (K t) (K (t + 1))), t + 1) := by
  have e1 : ∀ s : Int32, s - s / 16 * 16 = s → ¬ s = 0 → ¬ s = 1 → ¬ s = 2 → vbS F (K, t + 2) s = (va_up K t (jn s (K t) (K (t + 1))), t + 1) := by
    intro s h1 h2 h3 h4
    unfold vbS
    rw [h1, if_neg (fun q => q.elim h2 h3), if_neg h4, if_pos (by show 1 < t + 2; omega)]
    rfl
  rcases h with rfl | rfl | rfl | rfl | rfl | rfl | rfl
  · rw [e1 _ (by decide) (by decide) (by decide) (by decide)]; rfl
  · rw [e1 _ (by decide) (by decide) (by decide) (by decide)]; rfl
  · rw [e1 _ (by decide) (by decide) (by decide) (by decide)]; rfl
  · rw [e1 _ (by decide) (by decide) (by decide) (by decide)]; rfl
  · rw [e1 _ (by decide) (by decide) (by decide) (by decide)]; rfl
  · rw [e1 _ (by decide) (by decide) (by decide) (by decide)]; rfl
  · rw [e1 _ (by decide) (by decide) (by decide) (by decide)]; rfl
def vbF (F : ST) (q : ST × Nat) (l : List Int32) : ST × Nat := l.foldl (vbS F) q
theorem vbF_app (F : ST) (q : ST × Nat) (a b : List Int32) : vbF F q (a ++ b) = vbF F (vbF F q a) b := List.foldl_append
theorem vbF_one (F : ST) (q : ST × Nat) (x : Int32) : vbF F q [x] = vbS F q x := rfl
theorem vbL_F (F : ST) {st : ST} {l : List Int32} (h : CDs st 0 l) (q : ST × Nat) : vbL F st q l.length = vbF F q l := by
  have key : ∀ n, n ≤ l.length → vbL F st q n = vbF F q (l.take n) := by
    intro n
    induction n with
    | zero => intro _; rfl
    | succ n ih =>
      intro hn
      have hx : l[n]? = some l[n] := List.getElem?_eq_getElem (by omega)
      have h1 := h n _ hx
      rw [Nat.zero_add] at h1
      rw [List.take_succ, vbF_app, ← ih (by omega), hx]
      show vbS F (vbL F st q n) (st n) = vbF F (vbL F st q n) [l[n]]
      rw [h1]
      rfl
  rw [key l.length (Nat.le_refl _), List.take_length]
def S0m (T : ST) (n : Nat) (ice : Bool) (d p : Nat) (r : Rs) : Prop := ∀ q E, r = .inl (q, E) → d ≤ 5 → ∀ (F K : ST) (t : Nat), t ≤ 4 * d + 4 → ∃ K2, vbF F (K, t) E.2.1 = (K2, t + 1) ∧ K2 t = E.2.2 (fun f => F (fSh ice f)) ∧ ∀ i, i < t → K2 i = K i
def SLm (T : ST) (n : Nat) (ice : Bool) (l d p : Nat) (r : Rs) : Prop := ∀ q E, r = .inl (q, E) → d ≤ 5 → ∀ (F K : ST) (t : Nat), t ≤ 4 * d + l → ∃ K2, vbF F (K, t) E.2.1 = (K2, t + 1) ∧ K2 t = E.2.2 (fun f => F (fSh ice f)) ∧ ∀ i, i < t → K2 i = K i
def SOm (T : ST) (n : Nat) (ice : Bool) (l d : Nat) (u : Bool) (p : Nat) (E0 : EX) (r : Rs) : Prop := ∀ q E, r = .inl (q, E) → ∃ ext, E.2.1 = E0.2.1 ++ ext ∧ (d ≤ 5 → ∀ (F K : ST) (t : Nat), t ≤ 4 * d + l → K t = E0.2.2 (fun f => F (fSh ice f)) → ∃ K2, vbF F (K, t + 1) ext = (K2, t + 1) ∧ K2 t = E.2.2 (fun f => F (fSh ice f)) ∧ ∀ i, i < t → K2 i = K i)
theorem OP_o {T : ST} {b e k l op : Nat} (h : OP T b e k l op) : op = 26 ∨ op = 27 ∨ op = 24 ∨ op = 25 ∨ op = 20 ∨ op = 21 ∨ op = 22 := by
  unfold OP at h
  omega
theorem TK_dg {T : ST} {n p b e : Nat} (hT : TK T n p b e 2) : ∃ v : Nat, v < 10000 ∧ dgA T b (e - b) = nI v ∧ dgB T b (e - b) = nI v := by
  rcases hT.2 with ⟨_, _, z⟩ | ⟨_, _, _, z⟩ | ⟨_, _, _, hr, z⟩ | ⟨_, _, _, _, z⟩
  · omega
  · omega
  · have h4 : e - b ≤ 4 := by omega
    obtain ⟨h6, v, hv, h5⟩ := dg_t (T := T) (b := b) h4 (fun i q1 q2 => hr.2.2.1 i q1 (by omega))
    exact ⟨v, Nat.lt_of_lt_of_le hv (Nat.pow_le_pow_right (n := 10) (by decide) h4), h5, h6.trans h5⟩
  · omega
theorem ClR_s (T : ST) (n : Nat) (ice : Bool) : ClR T n ice (S0m T n ice) (SLm T n ice) (SOm T n ice) := by
  refine ⟨?_, ?_, ?_, ?_, ?_, ?_, ?_, ?_, ?_, ?_, ?_, ?_, ?_⟩
  · intro d p b e k hT hns q E hr
    cases hr
  · intro d p b e k hT hns h5 q E hr
    cases hr
  · intro d p b e k E hT hlf hd5 q E2 hr hd F K t ht
    cases hr
    rcases hlf with ⟨rfl, rfl⟩ | ⟨f, h1, h2, _, rfl⟩
    · obtain ⟨v, hv, hdv, _⟩ := TK_dg hT
      refine ⟨va_up K t (nI v), ?_, ?_, fun i hi => va_up_k _ _ (by omega)⟩
      · show vbS F (K, t) (dgA T b (e - b) * 16 + 0) = _
        rw [hdv]
        exact vb_num F hv (by omega)
      · rw [va_up_s]
        exact hdv.symm
    · have hs := fc_sh h1 h2
      refine ⟨va_up K t (F (fSh ice f)), ?_, ?_, fun i hi => va_up_k _ _ (by omega)⟩
      · show vbS F (K, t) (wFc.getD (fcW ice f) 0 * 16 + 1) = _
        rw [hs.1]
        exact vb_fct F hs.2 (by omega)
      · rw [va_up_s]
  · intro d p b e k r hT hW hd5 ih q E hr hd F K t ht
    cases r with
    | inr f => cases hr
    | inl x =>
      cases hr
      obtain ⟨K2, h1, h2, h3⟩ := ih x.1 x.2 rfl (by omega) F K t (by omega)
      refine ⟨va_up K2 t (if K2 t = 0 then 1 else 0), ?_, ?_, fun i hi => by rw [va_up_k _ _ (by omega), h3 i hi]⟩
      · show vbF F (K, t) (x.2.2.1 ++ [2]) = _
        rw [vbF_app, h1, vbF_one, vb_not]
      · rw [va_up_s, h2]
        rfl
  · intro d p b e k f hT hW hd5 ih q E hr
    cases hr
  · intro d p b e k q E b2 e2 k2 hT hW hd5 ih hT2 hS2 q2 E2 hr hd F K t ht
    cases hr
    exact ih q E rfl (by omega) F K t (by omega)
  · intro d p b e k q E b2 e2 k2 hT hW hd5 ih hT2 hS2 q2 E2 hr
    cases hr
  · intro d p r ih q E hr hd F K t ht
    exact ih q E hr hd F K t ht
  · intro l d p f hl ih q E hr
    cases hr
  · intro l d p q E r hl ih1 ih2 q2 E2 hr hd F K t ht
    obtain ⟨ext, hE, h2⟩ := ih2 q2 E2 hr
    obtain ⟨K1, g1, g2, g3⟩ := ih1 q E rfl hd F K t (by omega)
    obtain ⟨K2, f1, f2, f3⟩ := h2 hd F K1 t (by omega) g2
    exact ⟨K2, by rw [hE, vbF_app, g1]; exact f1, f2, fun i hi => (f3 i hi).trans (g3 i hi)⟩
  · intro l d u p E b e k hl hT hst q E2 hr
    cases hr
    exact ⟨[], (List.append_nil _).symm, fun _ F K t _ hK => ⟨K, rfl, hK, fun _ _ => rfl⟩⟩
  · intro l d u p E b e k op f hl hT hop hu ih q E2 hr
    cases hr
  · intro l d u p E b e k op q E2 r hl hT hop hu ih1 ih2 q3 E3 hr
    obtain ⟨ext, hE, h2⟩ := ih2 q3 E3 hr
    refine ⟨E2.2.1 ++ ([opS op] ++ ext), by rw [hE]; show E.2.1 ++ E2.2.1 ++ [opS op] ++ ext = _; rw [List.append_assoc, List.append_assoc], fun hd F K t ht hK => ?_⟩
    obtain ⟨K1, g1, g2, g3⟩ := ih1 q E2 rfl hd F K (t + 1) (by omega)
    obtain ⟨K2, f1, f2, f3⟩ := h2 hd F (va_up K1 t (opV op (K1 t) (K1 (t + 1)))) t ht (by rw [va_up_s, g3 t (by omega), hK, g2]; rfl)
    refine ⟨K2, ?_, f2, fun i hi => by rw [f3 i hi, va_up_k _ _ (by omega), g3 i (by omega)]⟩
    rw [vbF_app, g1, vbF_app, vbF_one, vb_op F (OP_o hop)]
    exact f1
/-- steps that were read stand for their value -/
theorem vb_of {T : ST} {n : Nat} {ice : Bool} {p q : Nat} {E : EX} (h : RLv T n ice 0 0 p (.inl (q, E))) {st : ST} (hc : CDs st 0 E.2.1) (F K : ST) : (vbL F st (K, 0) E.2.1.length).1 0 = E.2.2 (fun f => F (fSh ice f)) := by
  obtain ⟨K2, h1, h2, _⟩ := h _ _ _ (ClR_s T n ice) q E rfl (by omega) F K 0 (by omega)
  rw [vbL_F F hc, h1]
  exact h2
