/-! ===== needs: an hour ahead with the door barred is the hour with it firm ===== -/
def psBI (V : VT) (gw : Option GWt) (gi : Option GIt) (dN mN gk : Nat) (S : ST) (h : Nat) (bar : Int32) : Nat → ST
  | 0 => S
  | k + 1 => psB V gw gi dN mN gk (h + k) 0 bar (psBI V gw gi dN mN gk S h bar k)
def fmI (gi : Option GIt) (cold brt : Nat → Int32) (stv slt held ic : Int32) : Nat → Int32
  | 0 => ic
  | i + 1 => ibV (frF gi (cold i) stv (imax 0 (slt - nI i)) (brt i) (fmI gi cold brt stv slt held ic i) (held - fmI gi cold brt stv slt held ic i)) (fmI gi cold brt stv slt held ic i) (held - fmI gi cold brt stv slt held ic i)
def Rk (k : Nat) (A B : ST) : Prop := ∀ i, i ≠ k → i ≠ 10 + k → i ≠ 30 + k → i ≠ 40 + k → A i = B i
theorem mIn_cg {S T : ST} (c : Int32) {k : Nat} (h : ∀ i, 68 ≤ i → i < 74 → S i = T i) (hk : k ≤ 6) : mIn S c k = mIn T c k := mIn_ext c (fun i hi => h _ (by omega) (by omega))
section N14
variable {V : VT} {cN dN mN gk : Nat} {gw : Option GWt} {gi : Option GIt} {A B : ST} {k h : Nat} {dg : Int32}
theorem brF_R (h6 : mN ≤ 6) (hr : ∀ i, 60 ≤ i → A i = B i) (j : Nat) : brF V A mN gk h j = brF V B mN gk h j := by
  unfold brF
  rw [mIn_cg (S := A) (T := B) _ (fun i h1 h2 => hr i (by omega)) h6, mIn_cg (S := A) (T := B) _ (fun i h1 h2 => hr i (by omega)) h6]
theorem stF_R (hr : ∀ i, 60 ≤ i → A i = B i) (j : Nat) : stF V A j = stF V B j := by
  unfold stF
  rw [hr _ (by omega), hr (60 + (V 11 j).toNatClampNeg) (by omega)]
theorem Rk.hi (hk : k < 10) (hr : Rk k A B) : ∀ i, 60 ≤ i → A i = B i := fun i hi => hr i (by omega) (by omega) (by omega) (by omega)
theorem fdS_R (h6 : mN ≤ 6) (hk : k < 10) (hr : Rk k A B) {j : Nat} (hj : j < 10) : Rk k (fdS V gi dg mN gk h A j) (fdS V gi dg mN gk h B j) := by
  obtain ⟨a1, a2, a3, a4, a5, a6⟩ := fdS_ix V gi dg mN gk h A hj
  obtain ⟨b1, b2, b3, b4, b5, b6⟩ := fdS_ix V gi dg mN gk h B hj
  have e1 := brF_R (V := V) (mN := mN) (gk := gk) (h := h) h6 (hr.hi hk) j
  have e2 := stF_R (V := V) (hr.hi hk) j
  intro i i1 i2 i3 i4
  by_cases c : j = k
  · subst c
    by_cases c3 : i = 20 + j
    · rw [c3, a3, b3, hr (20 + j) (by omega) (by omega) (by omega) (by omega)]
    · rw [a6 i i1 i2 c3 i3 i4, b6 i i1 i2 c3 i3 i4]; exact hr i i1 i2 i3 i4
  · have d1 : A j = B j := hr j (by omega) (by omega) (by omega) (by omega)
    have d2 : A (10 + j) = B (10 + j) := hr _ (by omega) (by omega) (by omega) (by omega)
    have d3 : A (20 + j) = B (20 + j) := hr _ (by omega) (by omega) (by omega) (by omega)
    have d4 : A (30 + j) = B (30 + j) := hr _ (by omega) (by omega) (by omega) (by omega)
    have d5 : A (40 + j) = B (40 + j) := hr _ (by omega) (by omega) (by omega) (by omega)
    have t1 : ∀ v, tn A j (10 + j) v = tn B j (10 + j) v := fun v => by unfold tn; rw [d1, d2]
    have t2 : ∀ v, tn A (30 + j) (40 + j) v = tn B (30 + j) (40 + j) v := fun v => by unfold tn; rw [d4, d5]
    by_cases c1 : i = j
    · rw [c1, a1, b1, d1, d2, d3, e1, e2, t1]
    · by_cases c2 : i = 10 + j
      · rw [c2, a2, b2, d1, d2, d3, e1, e2, t1]
      · by_cases c3 : i = 20 + j
        · rw [c3, a3, b3, d3]
        · by_cases c4 : i = 30 + j
          · rw [c4, a4, b4, d4, d5, e1, e2, t2]
          · by_cases c5 : i = 40 + j
            · rw [c5, a5, b5, d4, d5, e1, e2, t2]
            · rw [a6 i c1 c2 c3 c4 c5, b6 i c1 c2 c3 c4 c5]; exact hr i i1 i2 i3 i4
theorem frS_R (h6 : mN ≤ 6) (hk : k < 10) (hr : Rk k A B) : ∀ m, m ≤ 10 → Rk k (frS V gi dg mN gk h A m) (frS V gi dg mN gk h B m) := by
  intro m
  induction m with
  | zero => intro _; exact hr
  | succ m ih => intro hm; exact fdS_R h6 hk (ih (by omega)) (by omega)
theorem frS_out {i : Nat} : ∀ m, m ≤ 10 → (∀ j, j < m → i ≠ j ∧ i ≠ 10 + j ∧ i ≠ 20 + j ∧ i ≠ 30 + j ∧ i ≠ 40 + j) → frS V gi dg mN gk h A m i = A i := by
  intro m
  induction m with
  | zero => intro _ _; rfl
  | succ m ih =>
    intro hm hi
    obtain ⟨q1, q2, q3, q4, q5⟩ := hi m (by omega)
    show fdS V gi dg mN gk h (frS V gi dg mN gk h A m) m i = A i
    rw [(fdS_ix V gi dg mN gk h _ (show m < 10 by omega)).2.2.2.2.2 i q1 q2 q3 q4 q5]
    exact ih (by omega) (fun j hj => hi j (by omega))
theorem frS_up {i : Nat} (hk : k < 10) (hi : i = k ∨ i = 10 + k ∨ i = 20 + k) : ∀ m, m ≤ 10 → k < m → frS V gi dg mN gk h A m i = fdS V gi dg mN gk h (frS V gi dg mN gk h A k) k i := by
  intro m
  induction m with
  | zero => intro _ h0; omega
  | succ m ih =>
    intro hm h0
    by_cases e : k = m
    · rw [← e]; rfl
    · show fdS V gi dg mN gk h (frS V gi dg mN gk h A m) m i = _
      rw [(fdS_ix V gi dg mN gk h _ (show m < 10 by omega)).2.2.2.2.2 i (by omega) (by omega) (by omega) (by omega) (by omega)]
      exact ih (by omega) (by omega)
/-- the door's own ice behind the frost -/
theorem frS_k (h6 : mN ≤ 6) (h10 : dN ≤ 10) (hk : k < dN) (i1 : 0 ≤ (A k).toInt) (i2 : 0 ≤ (A (10 + k)).toInt) :
    frS V gi dg mN gk h A dN k = ibV (frF gi dg (stF V A k) (A (20 + k)) (brF V A mN gk h k) (A k) (A (10 + k))) (A k) (A (10 + k)) ∧
    frS V gi dg mN gk h A dN (10 + k) = A k + A (10 + k) - frS V gi dg mN gk h A dN k ∧
    frS V gi dg mN gk h A dN (20 + k) = imax 0 (A (20 + k) - 1) := by
  have hlo : ∀ i, i = k ∨ i = 10 + k ∨ i = 20 + k → frS V gi dg mN gk h A k i = A i := fun i hi => frS_out k (by omega) (fun j hj => by omega)
  have e1 := brF_R (V := V) (mN := mN) (gk := gk) (h := h) (A := frS V gi dg mN gk h A k) (B := A) h6 (fun i hi => frS_hi _ _ _ _ _ _ _ (by omega) (by omega)) k
  have e2 := stF_R (V := V) (A := frS V gi dg mN gk h A k) (B := A) (fun i hi => frS_hi _ _ _ _ _ _ _ (by omega) (by omega)) k
  obtain ⟨a1, a2, a3, -⟩ := fdS_ix V gi dg mN gk h (frS V gi dg mN gk h A k) (show k < 10 by omega)
  have u1 := frS_up (V := V) (gi := gi) (dg := dg) (mN := mN) (gk := gk) (h := h) (A := A) (i := k) (show k < 10 by omega) (Or.inl rfl) dN h10 hk
  have u2 := frS_up (V := V) (gi := gi) (dg := dg) (mN := mN) (gk := gk) (h := h) (A := A) (i := 10 + k) (show k < 10 by omega) (Or.inr (Or.inl rfl)) dN h10 hk
  have u3 := frS_up (V := V) (gi := gi) (dg := dg) (mN := mN) (gk := gk) (h := h) (A := A) (i := 20 + k) (show k < 10 by omega) (Or.inr (Or.inr rfl)) dN h10 hk
  have t1 : ∀ v, tn (frS V gi dg mN gk h A k) k (10 + k) v = tn A k (10 + k) v := fun v => by unfold tn; rw [hlo k (by omega), hlo (10 + k) (by omega)]
  rw [e1, e2, hlo k (by omega), hlo (10 + k) (by omega), hlo (20 + k) (by omega), t1] at a1
  rw [e1, e2, hlo k (by omega), hlo (10 + k) (by omega), hlo (20 + k) (by omega), t1] at a2
  rw [hlo (20 + k) (by omega)] at a3
  rw [u1, u2, u3, a1, a2, a3]
  refine ⟨?_, by grind, rfl⟩
  rw [ib_tn i1 i2]
  rfl
theorem glV_R (h10 : dN ≤ 10) (hk : k < 10) (hr : Rk k A B) (hz : ¬ A k = 0) (c : Int32) : ∀ d, d ≤ dN → glV V A gk h (-1) c d = glV V B gk h (nI k) c d := by
  intro d
  induction d with
  | zero => intro _; rfl
  | succ d ih =>
    intro hd
    have i2 := ih (by omega)
    have key : okV V A gk h (-1) d c (glV V A gk h (-1) c d) ↔ okV V B gk h (nI k) d c (glV V B gk h (nI k) c d) := by
      rw [i2]
      by_cases e : d = k
      · subst e
        exact ⟨fun q => absurd q.2.2.1 hz, fun q => absurd rfl q.2.1⟩
      · have e2 : A d = B d := hr d e (by omega) (by omega) (by omega)
        have e3 : ¬ nI d = nI k := fun q => e ((nI_eq (by omega) (by omega)).mp q)
        have e4 : ¬ nI d = -1 := nI_ge0 (by omega)
        exact ⟨fun q => ⟨q.1, e3, e2.symm.trans q.2.2.1, q.2.2.2⟩, fun q => ⟨q.1, e4, e2.trans q.2.2.1, q.2.2.2⟩⟩
    unfold glV
    by_cases e : okV V A gk h (-1) d c (glV V A gk h (-1) c d)
    · rw [if_pos e, if_pos (key.mp e)]
    · rw [if_neg e, if_neg (fun q => e (key.mpr q)), i2]
theorem wkB_R (h10 : dN ≤ 10) (hk : k < 10) (hr : Rk k A B) (hz : ¬ A k = 0) {x : Nat} (hx : x < 6) : Rk k (wkB V gk h dN (-1) A x) (wkB V gk h dN (nI k) B x) := by
  have e : A (68 + x) = B (68 + x) := hr.hi hk _ (by omega)
  unfold wkB
  rw [e, glV_R h10 hk hr hz _ dN (Nat.le_refl _)]
  split
  · exact hr
  · intro i i1 i2 i3 i4
    by_cases c : i = 68 + x
    · rw [c, va_sm, va_sm]
    · rw [va_ne _ _ c, va_ne _ _ c]; exact hr i i1 i2 i3 i4
theorem wkM_R (h10 : dN ≤ 10) (hk : k < 10) (hr : Rk k A B) (hz : ¬ A k = 0) : ∀ m, m ≤ 6 → Rk k (wkM V gk h dN (-1) A m) (wkM V gk h dN (nI k) B m) := by
  intro m
  induction m with
  | zero => intro _; exact hr
  | succ m ih =>
    intro hm
    exact wkB_R h10 hk (ih (by omega)) (by rw [wkM_o _ _ _ _ _ _ _ (Or.inl (by omega))]; exact hz) (by omega)
theorem psB_R (h6 : mN ≤ 6) (h10 : dN ≤ 10) (hk : k < 10) (hr : Rk k A B) (md : Int32) (hz : ¬ frS V gi (dgF gw h md) mN gk h A dN k = 0) : Rk k (psB V gw gi dN mN gk h md (-1) A) (psB V gw gi dN mN gk h md (nI k) B) := by
  have q := wkM_R (V := V) (gk := gk) (h := h) h10 hk (frS_R (V := V) (gi := gi) (dg := dgF gw h md) (gk := gk) (h := h) h6 hk hr dN h10) hz mN h6
  intro i i1 i2 i3 i4
  unfold psB
  by_cases c : i = 80
  · rw [c, va_sm, va_sm]
  · rw [va_ne _ _ c, va_ne _ _ c]; exact q i i1 i2 i3 i4
theorem psB_lo (V : VT) (gw : Option GWt) (gi : Option GIt) (dN mN gk h : Nat) (md bar : Int32) (S : ST) {i : Nat} (hi : i < 68) : psB V gw gi dN mN gk h md bar S i = frS V gi (dgF gw h md) mN gk h S dN i := by
  unfold psB
  rw [va_ne _ _ (by omega), wkM_o _ _ _ _ _ _ _ (Or.inl hi)]
theorem psBI_80 {S : ST} (hh : S 80 = nI h) (bar : Int32) (t : Nat) : psBI V gw gi dN mN gk S h bar t 80 = nI (h + t) := by
  cases t with
  | zero => exact hh
  | succ t => exact psB_80 _ _ _ _ _ _ _ _ _ _
theorem psBI_lk (hX : PX V cN dN mN gk) {S : ST} (hl : LkI S dN) (bar : Int32) : ∀ t, LkI (psBI V gw gi dN mN gk S h bar t) dN := by
  intro t
  induction t with
  | zero => exact hl
  | succ t ih => exact psB_lk hX gw gi ih _ _ _
theorem psBI_mn (hX : PX V cN dN mN gk) {S : ST} (hm : Mn S cN mN) (bar : Int32) : ∀ t, Mn (psBI V gw gi dN mN gk S h bar t) cN mN := by
  intro t
  induction t with
  | zero => exact hm
  | succ t ih => exact psB_mn hX gw gi ih _ _ _
theorem psB_stv (V : VT) (gw : Option GWt) (gi : Option GIt) {dN : Nat} (h10 : dN ≤ 10) (mN gk h : Nat) (md bar : Int32) (S : ST) {i : Nat} (h1 : 60 ≤ i) (hi : i < 68) : psB V gw gi dN mN gk h md bar S i = S i := by
  rw [psB_lo V gw gi dN mN gk h md bar S hi, frS_hi _ _ _ _ _ _ _ h10 (by omega)]
theorem psBI_stv (h10 : dN ≤ 10) (S : ST) (bar : Int32) {i : Nat} (h1 : 60 ≤ i) (hi : i < 68) : ∀ t, psBI V gw gi dN mN gk S h bar t i = S i := by
  intro t
  induction t with
  | zero => rfl
  | succ t ih =>
    show psB V gw gi dN mN gk (h + t) 0 bar (psBI V gw gi dN mN gk S h bar t) i = S i
    rw [psB_stv V gw gi h10 mN gk _ 0 bar _ h1 hi, ih]
theorem stF_cg {V : VT} {S T : ST} {j : Nat} {cN : Nat} (h8 : cN ≤ 8) (ha : ∃ p, p < cN ∧ V 10 j = nI p) (hb : V 11 j = -1 ∨ ∃ e, e < cN ∧ V 11 j = nI e) (h : ∀ i, 60 ≤ i → i < 68 → S i = T i) : stF V S j = stF V T j := by
  obtain ⟨p, p1, p2⟩ := ha
  unfold stF
  rw [p2, nI_clamp (by omega), h (60 + p) (by omega) (by omega)]
  rcases hb with e | ⟨e, e1, e2⟩
  · rw [e]; rfl
  · rw [e2, nI_clamp (by omega), h (60 + e) (by omega) (by omega)]
theorem imax_sub {u t : Nat} (hu : u < 2 ^ 30) (ht : t < 2 ^ 30) : imax 0 (nI u - nI t) = nI (u - t) := by
  apply Int32.toInt_inj.mp
  have e1 : (nI u).toInt = u := nI_toInt (by omega)
  have e2 : (nI t).toInt = t := nI_toInt (by omega)
  rw [imax_t, xi_sub (by rw [e1, e2]; omega) (by rw [e1, e2]; omega), e1, e2, nI_toInt (by omega), show (0 : Int32).toInt = 0 from rfl]
  omega
end N14
section N14b
variable {V : VT} {cN dN mN gk : Nat} {gw : Option GWt} {gi : Option GIt} {k h : Nat}
/-- the hours with so much water poured, beside those foreseen -/
theorem needs_run (hX : PX V cN dN mN gk) {S : ST} (hl : LkI S dN) (hm : Mn S cN mN) (hk : k < dN) {w : Int32} (hw : 0 ≤ w ∧ w ≤ 99) (hroom : pr S k w = w) {u : Nat} (hu : S (20 + k) = nI u) (hu2 : u < 2 ^ 30)
    {fm : Nat → Int32} (hfm : fm = fmI gi (fun i => dgF gw (h + i) 0) (fun i => brF V (psBI V gw gi dN mN gk S h (nI k) i) mN gk (h + i) k) (stF V S k) (S (20 + k)) (S k + S (10 + k) + w) (S k)) :
    ∀ t, t < 2 ^ 20 → (∀ i, i < t → ¬ fm (i + 1) = 0) → Rk k (psI V gw gi dN mN gk (prS S k w) h t) (psBI V gw gi dN mN gk S h (nI k) t) ∧ psI V gw gi dN mN gk (prS S k w) h t k = fm t ∧ psI V gw gi dN mN gk (prS S k w) h t (10 + k) = S k + S (10 + k) + w - fm t ∧ psI V gw gi dN mN gk (prS S k w) h t (20 + k) = nI (u - t) ∧ psI V gw gi dN mN gk (prS S k w) h (t + 1) k = fm (t + 1) := by
  have h10 := hX.1.2.1.2
  have h6 := hX.1.2.2.1.2
  have h8 := hX.1.1.2
  have hk10 : k < 10 := by omega
  have hl0 := prS_lk h10 hk hw hl
  have hm0 : Mn (prS S k w) cN mN := prS_mn w hk10 hm
  have hlA : ∀ t, LkI (psI V gw gi dN mN gk (prS S k w) h t) dN := psI_lk hX gw gi hl0 hm0 h
  have hmA : ∀ t, Mn (psI V gw gi dN mN gk (prS S k w) h t) cN mN := psI_mn hX.1 gw gi h hm0
  have step : ∀ t, psI V gw gi dN mN gk (prS S k w) h (t + 1) = psB V gw gi dN mN gk (h + t) 0 (-1) (psI V gw gi dN mN gk (prS S k w) h t) := fun t => (psB_e hX gw gi (hlA t) (hmA t) (h + t) 0).symm
  have nn : ∀ t, 0 ≤ (psI V gw gi dN mN gk (prS S k w) h t k).toInt ∧ 0 ≤ (psI V gw gi dN mN gk (prS S k w) h t (10 + k)).toInt := fun t => by
    obtain ⟨p, q, r, q1, q2, q3, -⟩ := hlA t k hk
    rw [q1, q2, nI_toInt (by omega), nI_toInt (by omega)]
    omega
  have one : ∀ t, t < 2 ^ 20 → Rk k (psI V gw gi dN mN gk (prS S k w) h t) (psBI V gw gi dN mN gk S h (nI k) t) → psI V gw gi dN mN gk (prS S k w) h t k = fm t → psI V gw gi dN mN gk (prS S k w) h t (10 + k) = S k + S (10 + k) + w - fm t → psI V gw gi dN mN gk (prS S k w) h t (20 + k) = nI (u - t) → frS V gi (dgF gw (h + t) 0) mN gk (h + t) (psI V gw gi dN mN gk (prS S k w) h t) dN k = fm (t + 1) := by
    intro t ht r1 r2 r3 r4
    rw [(frS_k (V := V) (gi := gi) (dg := dgF gw (h + t) 0) (mN := mN) (gk := gk) (h := h + t) h6 h10 hk (nn t).1 (nn t).2).1]
    have b1 : brF V (psI V gw gi dN mN gk (prS S k w) h t) mN gk (h + t) k = brF V (psBI V gw gi dN mN gk S h (nI k) t) mN gk (h + t) k := brF_R h6 (r1.hi hk10) k
    have b2 : stF V (psI V gw gi dN mN gk (prS S k w) h t) k = stF V S k := by
      rw [stF_R (r1.hi hk10) k]
      exact stF_cg h8 (hX.1.2.2.2.2.2.1 k hk) (hX.1.2.2.2.2.2.2 k hk) (fun i a b => psBI_stv h10 S (nI k) a b t)
    rw [b1, b2, r2, r3, r4]
    subst hfm
    show _ = ibV (frF gi (dgF gw (h + t) 0) (stF V S k) (imax 0 (S (20 + k) - nI t)) _ _ _) _ _
    rw [hu, imax_sub hu2 (by omega)]
  intro t
  induction t with
  | zero =>
    intro ht _
    have r1 : Rk k (prS S k w) S := fun i i1 i2 i3 i4 => by unfold prS; rw [va_ne _ _ i4, va_ne _ _ i2]
    have r2 : prS S k w k = fm 0 := by subst hfm; unfold prS; rw [va_ne _ _ (by omega), va_ne _ _ (by omega)]; rfl
    have r3 : prS S k w (10 + k) = S k + S (10 + k) + w - fm 0 := by
      subst hfm
      unfold prS
      rw [va_ne _ _ (by omega), va_sm, hroom]
      show _ = S k + S (10 + k) + w - S k
      grind
    have r4 : prS S k w (20 + k) = nI (u - 0) := by unfold prS; rw [va_ne _ _ (by omega), va_ne _ _ (by omega)]; exact hu
    refine ⟨r1, r2, r3, r4, ?_⟩
    rw [step 0, psB_lo _ _ _ _ _ _ _ _ _ _ (by omega)]
    exact one 0 ht r1 r2 r3 r4
  | succ t ih =>
    intro ht hno
    obtain ⟨r1, r2, r3, r4, r5⟩ := ih (by omega) (fun i hi => hno i (by omega))
    have o1 := one t (by omega) r1 r2 r3 r4
    have hz : ¬ frS V gi (dgF gw (h + t) 0) mN gk (h + t) (psI V gw gi dN mN gk (prS S k w) h t) dN k = 0 := by rw [o1]; exact hno t (by omega)
    have f3 := frS_k (V := V) (gi := gi) (dg := dgF gw (h + t) 0) (mN := mN) (gk := gk) (h := h + t) h6 h10 hk (nn t).1 (nn t).2
    have n1 : Rk k (psI V gw gi dN mN gk (prS S k w) h (t + 1)) (psBI V gw gi dN mN gk S h (nI k) (t + 1)) := by
      rw [step t]
      exact psB_R h6 h10 hk10 r1 0 hz
    have n3 : psI V gw gi dN mN gk (prS S k w) h (t + 1) (10 + k) = S k + S (10 + k) + w - fm (t + 1) := by
      rw [step t, psB_lo _ _ _ _ _ _ _ _ _ _ (by omega), f3.2.1, o1, r2, r3]
      grind
    have n4 : psI V gw gi dN mN gk (prS S k w) h (t + 1) (20 + k) = nI (u - (t + 1)) := by
      rw [step t, psB_lo _ _ _ _ _ _ _ _ _ _ (by omega), f3.2.2, r4]
      have q := imax_sub (u := u - t) (t := 1) (by omega) (by omega)
      rw [show nI 1 = 1 from rfl] at q
      rw [q]
      congr 1
    refine ⟨n1, r5, n3, n4, ?_⟩
    rw [step (t + 1), psB_lo _ _ _ _ _ _ _ _ _ _ (by omega)]
    exact one (t + 1) ht n1 r5 n3 n4
theorem hlF_1 {A : ST} : ∀ r t, (∀ i, t ≤ i → i < t + r → 0 < psI V gw gi dN mN gk A h (i + 1) k) → hlF V gw gi dN mN gk A h k t r = 1 := by
  intro r
  induction r with
  | zero => intro t _; rfl
  | succ r ih =>
    intro t hy
    rw [hlF_y (hy t (Nat.le_refl _) (by omega))]
    exact ih (t + 1) (fun i h1 h2 => hy i (by omega) (by omega))
theorem hlF_0 {A : ST} {i : Nat} (hi : ¬ 0 < psI V gw gi dN mN gk A h (i + 1) k) : ∀ r t, t ≤ i → i < t + r → hlF V gw gi dN mN gk A h k t r = 0 := by
  intro r
  induction r with
  | zero => intro t h1 h2; omega
  | succ r ih =>
    intro t h1 h2
    by_cases c : 0 < psI V gw gi dN mN gk A h (t + 1) k
    · rw [hlF_y c]
      exact ih (t + 1) (by have : i ≠ t := fun e => hi (by rw [e]; exact c); omega) (by omega)
    · rw [hlF_n c]
end N14b
