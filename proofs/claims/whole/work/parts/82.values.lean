/-! ===== codes that were read have the value ===== -/
def cur (V : VT) (d : Nat) : Int32 := if V 28 d = 21 then V 27 d - V 29 d else V 27 d + V 29 d
theorem sm27 (V : VT) (d : Nat) : smF V d 27 d = cur V d := by
  unfold smF
  rw [up2_a _ _ (by decide), up2_s]
  rfl
theorem sm30 (V : VT) (d : Nat) : smF V d 30 d = 0 := by
  unfold smF
  rw [up2_s]
theorem smo (V : VT) (d : Nat) {q i : Nat} (h1 : q ≠ 27) (h2 : q ≠ 30) : smF V d q i = V q i := by
  unfold smF
  rw [up2_a _ _ h2, up2_a _ _ h1]
theorem smi (V : VT) (d : Nat) {q i : Nat} (h : i ≠ d) : smF V d q i = V q i := by
  unfold smF
  rw [up2_k _ _ h, up2_k _ _ h]
def t2v (V : VT) (d : Nat) : Int32 := if V 26 d = 25 then (if V 25 d = cur V d then 1 else 0) else if V 26 d = 24 then (if V 25 d < cur V d then 1 else 0) else cur V d
theorem tv2_sm (V : VT) (d : Nat) : tv2 (smF V d) d = t2v V d := by
  unfold tv2 tv1 t2v
  rw [sm27, smo V d (by decide) (by decide), smo V d (by decide) (by decide)]
def t4v (V : VT) (d : Nat) : Int32 := if V 24 d = 27 then (if V 23 d ≠ 0 ∨ t2v V d ≠ 0 then 1 else 0) else if V 24 d = 26 then (if V 23 d ≠ 0 ∧ t2v V d ≠ 0 then 1 else 0) else t2v V d
theorem tv4_sm (V : VT) (d : Nat) : tv4 (smF V d) d = t4v V d := by
  unfold tv4 tv3 t4v
  rw [tv2_sm, smo V d (by decide) (by decide), smo V d (by decide) (by decide)]
  by_cases c : V 24 d = 27
  · have c2 : ¬ V 24 d = 26 := by rw [c]; decide
    rw [if_pos c, if_pos c, if_neg c2]
  · rw [if_neg c, if_neg c]
theorem tso (V : VT) (d : Nat) {q i : Nat} (h1 : q ≠ 27) (h2 : q ≠ 30) (h3 : q ≠ 23) (h4 : q ≠ 26) (h5 : q ≠ 28) : tsF V d q i = V q i := by
  unfold tsF
  rw [up2_a _ _ h5, up2_a _ _ h1, up2_a _ _ h4, up2_a _ _ h3, smo V d h1 h2]
theorem tsi (V : VT) (d : Nat) {q i : Nat} (h : i ≠ d) : tsF V d q i = V q i := by
  unfold tsF
  rw [up2_k _ _ h, up2_k _ _ h, up2_k _ _ h, up2_k _ _ h, smi V d h]
theorem ts23 (V : VT) (d : Nat) : tsF V d 23 d = t4v V d := by
  unfold tsF
  rw [up2_a _ _ (by decide), up2_a _ _ (by decide), up2_a _ _ (by decide), up2_s, tv4_sm]
theorem ts26 (V : VT) (d : Nat) : tsF V d 26 d = 0 := by
  unfold tsF
  rw [up2_a _ _ (by decide), up2_a _ _ (by decide), up2_s]
theorem ts27 (V : VT) (d : Nat) : tsF V d 27 d = 0 := by
  unfold tsF
  rw [up2_a _ _ (by decide), up2_s]
theorem ts28 (V : VT) (d : Nat) : tsF V d 28 d = 20 := by
  unfold tsF
  rw [up2_s]
theorem ts30 (V : VT) (d : Nat) : tsF V d 30 d = 0 := by
  unfold tsF
  rw [up2_a _ _ (by decide), up2_a _ _ (by decide), up2_a _ _ (by decide), up2_a _ _ (by decide), sm30]
theorem opi (V : VT) (d : Nat) {q i : Nat} (h : i ≠ d) : opF V d q i = V q i := by
  unfold opF
  rw [up2_k _ _ h, up2_k _ _ h, up2_k _ _ h, up2_k _ _ h, up2_k _ _ h]
theorem op24 (V : VT) (d : Nat) : opF V d 24 d = 0 := by
  unfold opF
  rw [up2_a _ _ (by decide), up2_a _ _ (by decide), up2_a _ _ (by decide), up2_a _ _ (by decide), up2_s]
theorem op26 (V : VT) (d : Nat) : opF V d 26 d = 0 := by
  unfold opF
  rw [up2_a _ _ (by decide), up2_a _ _ (by decide), up2_a _ _ (by decide), up2_s]
theorem op27 (V : VT) (d : Nat) : opF V d 27 d = 0 := by
  unfold opF
  rw [up2_a _ _ (by decide), up2_a _ _ (by decide), up2_s]
theorem op28 (V : VT) (d : Nat) : opF V d 28 d = 20 := by
  unfold opF
  rw [up2_a _ _ (by decide), up2_s]
theorem op30 (V : VT) (d : Nat) : opF V d 30 d = 0 := by
  unfold opF
  rw [up2_s]
theorem op31 (V : VT) (d : Nat) (i : Nat) : opF V d 31 i = V 31 i := by
  unfold opF
  rw [up2_a _ _ (by decide), up2_a _ _ (by decide), up2_a _ _ (by decide), up2_a _ _ (by decide), up2_a _ _ (by decide)]
def Sx (l : Nat) (V : VT) (d : Nat) : Prop := (l ≤ 3 → V 30 d = 0) ∧ (l ≤ 2 → V 27 d = 0 ∧ V 28 d = 20) ∧ (l ≤ 1 → V 26 d = 0) ∧ (l = 0 → V 24 d = 0)
def Cvx (l : Nat) (V : VT) (d : Nat) (v : Int32) : Prop := (l = 3 → V 29 d = v) ∧ (l = 2 → cur V d = v) ∧ (l = 1 → t2v V d = v) ∧ (l = 0 → t4v V d = v)
def Kx (l : Nat) (V V2 : VT) (d : Nat) : Prop := Kp V V2 ∧ (∀ o i, i < d → V2 o i = V o i) ∧ V2 31 d = V 31 d ∧ (1 ≤ l → V2 23 d = V 23 d ∧ V2 24 d = V 24 d) ∧ (2 ≤ l → V2 25 d = V 25 d ∧ V2 26 d = V 26 d) ∧ (3 ≤ l → V2 27 d = V 27 d ∧ V2 28 d = V 28 d) ∧ (4 ≤ l → V2 30 d = V 30 d)
theorem Kx_t {l l2 : Nat} {V V1 V2 : VT} {d : Nat} (hl : l ≤ l2) (h : Kx l2 V V1 d) (h2 : Kx l V1 V2 d) : Kx l V V2 d := ⟨h.1.tr h2.1, fun o i q => (h2.2.1 o i q).trans (h.2.1 o i q), h2.2.2.1.trans h.2.2.1, fun q => ⟨(h2.2.2.2.1 q).1.trans (h.2.2.2.1 (by omega)).1, (h2.2.2.2.1 q).2.trans (h.2.2.2.1 (by omega)).2⟩, fun q => ⟨(h2.2.2.2.2.1 q).1.trans (h.2.2.2.2.1 (by omega)).1, (h2.2.2.2.2.1 q).2.trans (h.2.2.2.2.1 (by omega)).2⟩, fun q => ⟨(h2.2.2.2.2.2.1 q).1.trans (h.2.2.2.2.2.1 (by omega)).1, (h2.2.2.2.2.2.1 q).2.trans (h.2.2.2.2.2.1 (by omega)).2⟩, fun q => (h2.2.2.2.2.2.2 q).trans (h.2.2.2.2.2.2 (by omega))⟩
theorem Kx_w {l l2 : Nat} {V V1 : VT} {d : Nat} (hl : l ≤ l2) (h : Kx l2 V V1 d) : Kx l V V1 d := ⟨h.1, h.2.1, h.2.2.1, fun q => h.2.2.2.1 (by omega), fun q => h.2.2.2.2.1 (by omega), fun q => h.2.2.2.2.2.1 (by omega), fun q => h.2.2.2.2.2.2 (by omega)⟩
theorem evL_one {V : VT} {d k n : Nat} {x : Int32} {q : VT × Nat} (h : V 20 k = x) (h2 : stE V d x = some q) : evL V d k (n + 1) = evL q.1 q.2 (k + 1) n := by
  show (match stE V d (V 20 k) with | none => none | some q => evL q.1 q.2 (k + 1) n) = _
  rw [h, h2]
theorem evL_app : ∀ {a b k d : Nat} {V V2 : VT} {d2 : Nat}, evL V d k a = some (V2, d2) → evL V d k (a + b) = evL V2 d2 (k + a) b
  | 0, b, k, d, V, V2, d2, h => by
    have h1 : some (V, d) = some (V2, d2) := h
    cases h1
    rw [Nat.zero_add, Nat.add_zero]
  | a + 1, b, k, d, V, V2, d2, h => by
    cases e : stE V d (V 20 k) with
    | none =>
      have h1 : evL V d k (a + 1) = none := by
        show (match stE V d (V 20 k) with | none => none | some q => evL q.1 q.2 (k + 1) a) = _
        rw [e]
      rw [h1] at h
      cases h
    | some q =>
      rw [evL_one rfl e] at h
      rw [show a + 1 + b = (a + b) + 1 by omega, evL_one rfl e, evL_app h, show k + 1 + a = k + (a + 1) by omega]
theorem CDs_hd {W : ST} {c : Nat} {x : Int32} {a : List Int32} (h : CDs W c (x :: a)) : W c = x ∧ CDs W (c + 1) a :=
  ⟨h 0 x rfl, fun i y hy => by rw [show c + 1 + i = c + (i + 1) by omega]; exact h (i + 1) y hy⟩
theorem CDs_sp {W : ST} {c : Nat} {a b : List Int32} (h : CDs W c (a ++ b)) : CDs W c a ∧ CDs W (c + a.length) b := by
  constructor
  · intro i x hx
    have hi : i < a.length := by
      rcases Nat.lt_or_ge i a.length with q | q
      · exact q
      · rw [List.getElem?_eq_none q] at hx; cases hx
    exact h i x (by rw [List.getElem?_append_left hi]; exact hx)
  · intro i x hx
    rw [Nat.add_assoc]
    exact h (a.length + i) x (by rw [List.getElem?_append_right (by omega), show a.length + i - a.length = i by omega]; exact hx)
/-- no not is open here -/
def nB (V : VT) (d : Nat) : Prop := d = 0 ∨ ¬ V 31 d = 1
theorem popN_b {V : VT} {d : Nat} (h : nB V d) (v : Int32) : popN V d v = (d, v) := by
  cases d with
  | zero => rfl
  | succ d =>
    rcases h with q | q
    · omega
    · unfold popN
      rw [if_neg q]
def E0m (T : ST) (n : Nat) (ice : Bool) (d p : Nat) (r : Rs) : Prop := ∀ q E, r = .inl (q, E) → ∀ (V : VT) (k : Nat), CDs (V 20) k E.1 → d ≤ 5 → ∃ V2 : VT, evL V d k E.1.length = some (ppF V2 d (E.2.2 (V 32))) ∧ Kp V V2 ∧ ∀ o i, i ≤ d → V2 o i = V o i
def ELm (T : ST) (n : Nat) (ice : Bool) (l d p : Nat) (r : Rs) : Prop := ∀ q E, r = .inl (q, E) → ∀ (V : VT) (k : Nat), CDs (V 20) k E.1 → d ≤ 5 → nB V d → Sx l V d → ∃ V2 : VT, evL V d k E.1.length = some (V2, d) ∧ Kx l V V2 d ∧ Cvx l V2 d (E.2.2 (V 32)) ∧ (l = 4 → V2 29 d = (if V 30 d = 0 then E.2.2 (V 32) else V 29 d * E.2.2 (V 32)))
def EOm (T : ST) (n : Nat) (ice : Bool) (l d : Nat) (u : Bool) (p : Nat) (E0 : EX) (r : Rs) : Prop := ∀ q E, r = .inl (q, E) → ∃ ext, E.1 = E0.1 ++ ext ∧ ∀ (V : VT) (k : Nat), CDs (V 20) k ext → d ≤ 5 → nB V d → (l = 1 → u = false → V 26 d = 0) → Cvx l V d (E0.2.2 (V 32)) → ∃ V2 : VT, evL V d k ext.length = some (V2, d) ∧ Kx l V V2 d ∧ Cvx l V2 d (E.2.2 (V 32))
theorem stE_op {V : VT} {d op : Nat} (h : op = 20 ∨ op = 21) : stE V d (nI op) = some (up2 (smF V d) 28 d (nI op), d) := by
  rcases h with rfl | rfl <;> rfl
theorem stE_ti {V : VT} {d : Nat} : stE V d (nI 22) = some (up2 V 30 d (nI 22), d) := rfl
theorem stE_cm {V : VT} {d op : Nat} (h : op = 24 ∨ op = 25) : stE V d (nI op) = some (up2 (up2 (up2 (up2 (smF V d) 25 d (smF V d 27 d)) 26 d (nI op)) 27 d 0) 28 d 20, d) := by
  rcases h with rfl | rfl <;> rfl
theorem stE_ao {V : VT} {d op : Nat} (h : op = 26 ∨ op = 27) : stE V d (nI op) = some (up2 (tsF V d) 24 d (nI op), d) := by
  rcases h with rfl | rfl <;> rfl
theorem stE_no {V : VT} {d : Nat} (h : d < 6) : stE V d 30 = some (opF (up2 V 31 (d + 1) 1) (d + 1), d + 1) := by
  show (if d < 6 then _ else _) = _
  rw [if_pos h]
  rfl
theorem stE_pa {V : VT} {d : Nat} (h : d < 6) : stE V d 28 = some (opF (up2 V 31 (d + 1) 0) (d + 1), d + 1) := by
  show (if d < 6 then _ else _) = _
  rw [if_pos h]
  rfl
theorem stE_cl {V : VT} {d : Nat} : stE V (d + 1) 29 = some (ppF (tsF V (d + 1)) d (tsF V (d + 1) 23 (d + 1))) := rfl
theorem stE_lf {V : VT} {d : Nat} {T : ST} {n p b e k : Nat} {ice : Bool} {E : EX} (hT : TK T n p b e k) (h : LFx T b e k ice E) : ∃ x, E.1 = [x] ∧ stE V d x = some (ppF V d (E.2.2 (V 32))) := by
  rcases h with ⟨q, rfl⟩ | ⟨f, h1, h2, _, rfl⟩
  · refine ⟨_, rfl, ?_⟩
    have hdg : ∃ v : Nat, v < 10000 ∧ dgA T b (e - b) = nI v := by
      rcases hT.2 with ⟨_, _, z⟩ | ⟨_, _, _, z⟩ | ⟨_, _, _, hr, z⟩ | ⟨_, _, _, _, z⟩
      · omega
      · omega
      · have h4 : e - b ≤ 4 := by omega
        obtain ⟨_, v, hv, h5⟩ := dg_t (T := T) (b := b) h4 (fun i q1 q2 => hr.2.2.1 i q1 (by omega))
        exact ⟨v, Nat.lt_of_lt_of_le hv (Nat.pow_le_pow_right (n := 10) (by decide) h4), h5⟩
      · omega
    obtain ⟨v, hv, hdv⟩ := hdg
    show stE V d (100 + dgA T b (e - b)) = some (ppF V d (dgA T b (e - b)))
    rw [hdv]
    have e1 : (100 : Int32) + nI v = nI (100 + v) := nI_add 100 v
    have e2 : nI (100 + v) - 100 = nI v := by
      rw [← e1, Int32.add_comm]
      exact Int32.add_sub_cancel _ _
    have ne : ∀ j : Nat, j < 100 → ¬ nI (100 + v) = nI j := fun j hj q => by
      have := (nI_eq (by omega) (by omega)).mp q
      omega
    rw [e1]
    unfold stE
    rw [if_neg (fun q => q.elim (ne 28 (by decide)) (ne 30 (by decide))), if_neg (fun q => q.elim (ne 20 (by decide)) (ne 21 (by decide))), if_neg (show ¬ nI (100 + v) = 22 from ne 22 (by decide)), if_neg (fun q => q.elim (ne 24 (by decide)) (ne 25 (by decide))), if_neg (fun q => q.elim (ne 26 (by decide)) (ne 27 (by decide))), if_neg (show ¬ nI (100 + v) = 29 from ne 29 (by decide)), if_pos (show (100 : Int32) ≤ nI (100 + v) from nI_le (a := 100) (by omega) (by omega)), e2]
  · refine ⟨_, rfl, ?_⟩
    have hf := (fcW_lt h2).1
    have hc : f = 1 ∨ f = 2 ∨ f = 3 ∨ f = 4 ∨ f = 5 ∨ f = 6 := by omega
    rcases hc with rfl | rfl | rfl | rfl | rfl | rfl <;> rfl
