/-! ===== the reference: what was told ===== -/
section S0
variable {G : GG} {σ : Hp} {m : Nat} {V V2 V0 : VT} {U U2 U0 : UT} {T : ST} {n p b e k c : Nat} {ice : Bool} {s : TD}
/-- how long a row is -/
def mrw (o : Nat) : Nat := if o = 9 then 8 else if o ≤ 12 then 10 else if o ≤ 15 then 6 else if o = 16 then 2 else 16
/-- what reading may change -/
def chg (o i : Nat) : Prop := (o = 0 ∧ ((3 ≤ i ∧ i ≤ 9) ∨ i = 29 ∨ i = 30 ∨ i = 31 ∨ i = 44)) ∨ (2 ≤ o ∧ o ≤ 6 ∧ i = 1) ∨ (9 ≤ o ∧ o ≤ 17 ∧ mrw o ≤ i ∧ i < 2 * mrw o) ∨ (18 ≤ o ∧ o ≤ 19 ∧ 2 ≤ i ∧ i < 4) ∨ (o = 20 ∧ 1000 ≤ i ∧ i < 2000) ∨ o = 21 ∨ o = 22
def FR1 (V V' : VT) : Prop := ∀ o i, ¬ chg o i → V' o i = V o i
def UR1 (U U' : UT) : Prop := ∀ o i, ¬ (o = 0 ∧ i = 7) → o ≠ 7 → o ≠ 8 → U' o i = U o i
theorem FR1_t (h : FR1 V0 V) (h2 : FR1 V V2) : FR1 V0 V2 := fun o i q => (h2 o i q).trans (h o i q)
theorem UR1_t (h : UR1 U0 U) (h2 : UR1 U U2) : UR1 U0 U2 := fun o i q1 q2 q3 => (h2 o i q1 q2 q3).trans (h o i q1 q2 q3)
theorem FR1_w {o i : Nat} (hc : chg o i) (x : Int32) : FR1 V (up2 V o i x) := by
  intro a j q
  by_cases h : a = o ∧ j = i
  · rw [h.1, h.2] at q; exact absurd hc q
  · show (if a = o ∧ j = i then x else V a j) = V a j
    rw [if_neg h]
theorem FR1_nf (h : NF V V2) : FR1 V V2 := by
  intro o i q
  by_cases h0 : o = 0
  · subst h0
    refine h.2 i ?_ ?_ ?_ ?_ <;> (intro z; subst z; exact q (Or.inl ⟨rfl, by decide⟩))
  · rw [h.1 o h0]
theorem FR1_fq (hc : 1000 ≤ c) (h : FQ c V V2) : FR1 V V2 := by
  intro o i q
  by_cases h0 : o = 0
  · subst h0
    refine h.2.1 i ?_ ?_ ?_ ?_ ?_ ?_ <;> (intro z; subst z; exact q (Or.inl ⟨rfl, by decide⟩))
  · by_cases h20 : o = 20
    · subst h20
      by_cases hi : i < c
      · exact h.2.2.1 i hi
      · by_cases h2 : 2000 ≤ i
        · exact h.2.2.2 i h2
        · exact absurd (Or.inr (Or.inr (Or.inr (Or.inr (Or.inl ⟨rfl, by omega, by omega⟩))))) q
    · rw [h.1 o h0 h20 (fun z => q (by subst z; unfold chg; omega)) (fun z => q (by subst z; unfold chg; omega))]
theorem UR1_nu (h : NU U U2) : UR1 U U2 := fun o i q _ _ => h o i q
def lnX (ice : Bool) : Nat := if ice then 3 else 2
/-- the told in the reference's second rows, with c codes laid -/
def RR (s : TD) (c : Nat) (V : VT) (U : UT) : Prop := (V 2 1 = nI (tdC s 0) ∧ V 3 1 = nI (tdC s 1) ∧ V 4 1 = nI (tdC s 2) ∧ V 5 1 = nI (tdC s 3) ∧ V 6 1 = tdR s 6 0) ∧ V 0 31 = nI (tdC s 4) ∧ (∀ o i, 9 ≤ o ∧ o ≤ 17 ∧ o ≠ 16 → i < mrw o → tdW s o i → V o (mrw o + i) = tdR s o i) ∧ (∀ g, g < tdC s 3 → V 16 (2 + g) = tdR s 16 g) ∧ ((∀ i, i < tdC s 0 → Wq (U 7 i) (tdN s 0 i)) ∧ ∀ i, i < tdC s 2 → Wq (U 8 i) (tdN s 1 i)) ∧ ∀ ice, (tdF s ice = none → V 18 (lnX ice) = nI 1000 ∧ V 19 (lnX ice) = nI 1000) ∧ ∀ E, tdF s ice = some E → ∃ f, 1000 ≤ f ∧ f + E.1.length ≤ c ∧ V 18 (lnX ice) = nI f ∧ V 19 (lnX ice) = nI (f + E.1.length) ∧ CDs (V 20) f E.1
/-- the reference stands at a token, and has laid what was told -/
def DS (T : ST) (n : Nat) (V0 : VT) (U0 : UT) (s : TD) (ice : Bool) (p b e k c : Nat) (V : VT) (U : UT) : Prop := HD T n ice p b e k c V U ∧ RR s c V U ∧ 1000 ≤ c ∧ FR1 V0 V ∧ UR1 U0 U
theorem DS.tk (h : DS T n V0 U0 s ice p b e k c V U) : TK T n p b e k := h.1.1.1
theorem RR.cg (h : RR s c V U) (h2 : ∀ o i, 2 ≤ o → o ≤ 19 → V2 o i = V o i) (h31 : V2 0 31 = V 0 31) (h20 : ∀ i, i < c → V2 20 i = V 20 i) (hu : ∀ i, U2 7 i = U 7 i ∧ U2 8 i = U 8 i) : RR s c V2 U2 := by
  obtain ⟨⟨a0, a1, a2, a3, a4⟩, a5, a6, a7, a8, a9⟩ := h
  refine ⟨⟨?_, ?_, ?_, ?_, ?_⟩, h31.trans a5, fun o i ho hi hw => ?_, fun g hg => ?_, ⟨fun i hi => ?_, fun i hi => ?_⟩, fun ice => ⟨fun q => ?_, fun E q => ?_⟩⟩
  · exact (h2 2 1 (by decide) (by decide)).trans a0
  · exact (h2 3 1 (by decide) (by decide)).trans a1
  · exact (h2 4 1 (by decide) (by decide)).trans a2
  · exact (h2 5 1 (by decide) (by decide)).trans a3
  · exact (h2 6 1 (by decide) (by decide)).trans a4
  · exact (h2 o _ (by omega) (by omega)).trans (a6 o i ho hi hw)
  · exact (h2 16 _ (by decide) (by decide)).trans (a7 g hg)
  · rw [(hu i).1]; exact a8.1 i hi
  · rw [(hu i).2]; exact a8.2 i hi
  · obtain ⟨x1, x2⟩ := (a9 ice).1 q
    exact ⟨(h2 18 _ (by decide) (by decide)).trans x1, (h2 19 _ (by decide) (by decide)).trans x2⟩
  · obtain ⟨f, x1, x2, x3, x4, x5⟩ := (a9 ice).2 E q
    refine ⟨f, x1, x2, (h2 18 _ (by decide) (by decide)).trans x3, (h2 19 _ (by decide) (by decide)).trans x4, fun i x hx => ?_⟩
    have hi := (List.getElem?_eq_some_iff.mp hx).1
    rw [h20 (f + i) (by omega)]
    exact x5 i x hx
theorem RR.nf (h : RR s c V U) (h2 : NF V V2) (hu : NU U U2) : RR s c V2 U2 := h.cg (fun o i q1 _ => by rw [h2.1 o (by omega)]) (h2.2 31 (by decide) (by decide) (by decide) (by decide)) (fun i _ => by rw [h2.1 20 (by decide)]) (fun i => ⟨hu 7 i (by omega), hu 8 i (by omega)⟩)
theorem RR.w0 (h : RR s c V U) {j : Nat} (hj : j ≠ 31) (x : Int32) : RR s c (up2 V 0 j x) U := h.cg (fun o i q1 _ => up2_a _ _ (by omega)) (up2_k _ _ (Ne.symm hj)) (fun i _ => up2_a _ _ (by decide)) (fun _ => ⟨rfl, rfl⟩)
/-- it went on -/
def DX (σ : Hp) (m : Nat) (T : ST) (n : Nat) (V0 : VT) (U0 : UT) (s : TD) (V : VT) (U : UT) (e : Nat) (σ' : Hp) : Prop := ∃ (V2 : VT) (U2 : UT) (ice : Bool) (b2 e2 k2 c : Nat), σ' = sv σ m V2 U2 ∧ DS T n V0 U0 s ice e b2 e2 k2 c V2 U2 ∧ NU U U2 ∧ V2 16 = V 16 ∧ V2 0 44 = V 0 44
def DF (σ : Hp) (m : Nat) (V0 : VT) (U0 : UT) (f : Int32) (σ' : Hp) : Prop := ∃ (V2 : VT) (U2 : UT), σ' = sv σ m V2 U2 ∧ V2 0 9 = f ∧ FR1 V0 V2 ∧ UR1 U0 U2 ∧ (V2 0 30 = 0 ∨ V2 0 30 = 1)
def DE (σ : Hp) (m : Nat) (T : ST) (n : Nat) (V0 : VT) (U0 : UT) (s : TD) (q : Nat) (σ' : Hp) : Prop := ∃ (V2 : VT) (U2 : UT) (ice : Bool) (b2 e2 k2 c : Nat), σ' = sv σ m V2 U2 ∧ DS T n V0 U0 s ice q b2 e2 k2 c V2 U2
theorem DX.de {σ' : Hp} (h : DX σ m T n V0 U0 s V U e σ') : DE σ m T n V0 U0 s e σ' := by
  obtain ⟨V2, U2, i2, b2, e2, k2, c2, h1, h2, _⟩ := h
  exact ⟨V2, U2, i2, b2, e2, k2, c2, h1, h2⟩
theorem DS.nx {σ' : Hp} (h : DS T n V0 U0 s ice p b e k c V U) (h2 : Nxt σ m V U T n ice e c σ') : DX σ m T n V0 U0 s V U e σ' := by
  obtain ⟨V2, U2, b2, e2, k2, h3, h4, h5, h6⟩ := h2
  exact ⟨V2, U2, ice, b2, e2, k2, c, h3, ⟨h6, h.2.1.nf h4 h5, h.2.2.1, FR1_t h.2.2.2.1 (FR1_nf h4), UR1_t h.2.2.2.2 (UR1_nu h5)⟩, h5, h4.1 16 (by decide), h4.2 44 (by decide) (by decide) (by decide) (by decide)⟩
theorem DS.w44 (h : DS T n V0 U0 s ice p b e k c V U) (x : Int32) : DS T n V0 U0 s ice p b e k c (up2 V 0 44 x) U := ⟨HD_44 h.1 x, h.2.1.w0 (by decide) x, h.2.2.1, FR1_t h.2.2.2.1 (FR1_w (Or.inl ⟨rfl, by decide⟩) x), h.2.2.2.2⟩
theorem DS.b30 (h : DS T n V0 U0 s ice p b e k c V U) : V 0 30 = 0 ∨ V 0 30 = 1 := by
  have h1 := h.1.2.2.2.1
  cases ice
  · exact Or.inl h1
  · exact Or.inr h1
theorem DS.df (h : DS T n V0 U0 s ice p b e k c V U) (f : Int32) : DF σ m V0 U0 f (sv σ m (up2 V 0 9 f) U) := ⟨_, _, rfl, up2_s _ _ _ _, FR1_t h.2.2.2.1 (FR1_w (Or.inl ⟨rfl, by decide⟩) f), h.2.2.2.2, h.b30⟩
theorem DS.le (h : DS T n V0 U0 s ice p b e k c V U) : c ≤ 1000 + p ∧ n ≤ 1000 := ⟨h.1.2.2.2.2.2.1, h.1.2.2.2.2.2.2⟩
theorem sr_next (hM : MS σ m) (hH : DS T n V0 U0 s ice p b e k c V U) : Sp G mX10_nextToken 1 [.ref m] (sv σ m V U) (fun rv σ' => rv = none ∧ DX σ m T n V0 U0 s V U e σ') := ht_mono (sm_nxH hM hH.1) (fun rv σ' q => ⟨q.1, hH.nx q.2⟩)
theorem sr_fails (hM : MS σ m) (hH : DS T n V0 U0 s ice p b e k c V U) (x : Int32) : Sp G mX10_fails 0 [.ref m, .int x] (sv σ m V U) (fun rv σ' => rv = some (.int 0) ∧ DF σ m V0 U0 (x + 16 * nI b) σ') := by
  refine ht_mono (sm_fails hM x) ?_
  rintro rv σ' ⟨q1, rfl⟩
  rw [hH.1.1.2.1]
  exact ⟨q1, hH.df _⟩
theorem sr_word (hM : MS σ m) (hH : DS T n V0 U0 s ice p b e k c V U) (i : Nat) : Sp G mX10_needsWord 2 [.ref m, .long (wB i)] (sv σ m V U) (fun rv σ' => (¬ isW T b e k i ∧ rv = some (.int 0) ∧ DF σ m V0 U0 (1 + 16 * nI b) σ') ∨ (isW T b e k i ∧ rv = some (.int 1) ∧ DX σ m T n V0 U0 s V U e σ')) := by
  refine ht_mono (sm_needsWord hM hH.1 i) ?_
  rintro rv σ' (⟨q1, q2, rfl⟩ | ⟨q1, q2, q3⟩)
  · exact Or.inl ⟨q1, q2, hH.df _⟩
  · exact Or.inr ⟨q1, q2, hH.nx q3⟩
theorem sr_ends (hM : MS σ m) (hH : DS T n V0 U0 s ice p b e k c V U) : Sp G mX10_ends 2 [.ref m] (sv σ m V U) (fun rv σ' => (¬ isS T b k 59 ∧ rv = some (.int 0) ∧ DF σ m V0 U0 (1 + 16 * nI b) σ') ∨ (isS T b k 59 ∧ rv = some (.int 1) ∧ DE σ m T n V0 U0 s e σ')) := by
  refine ht_mono (sm_ends hM hH.1) ?_
  rintro rv σ' (⟨q1, q2, rfl⟩ | ⟨q1, q2, q3⟩)
  · exact Or.inl ⟨q1, q2, hH.df _⟩
  · exact Or.inr ⟨q1, q2, (hH.nx q3).de⟩
theorem sr_num (hM : MS σ m) (hH : DS T n V0 U0 s ice p b e k c V U) (hi : Int32) : Sp G mX10_needsNumber 2 [.ref m, .int 0, .int hi] (sv σ m V U) (fun rv σ' => (¬ k = 2 ∧ rv = some (.int 0) ∧ DF σ m V0 U0 (1 + 16 * nI b) σ') ∨ (k = 2 ∧ ¬ dgA T b (e - b) ≤ hi ∧ rv = some (.int 0) ∧ DF σ m V0 U0 (4 + 16 * nI b) σ') ∨ (k = 2 ∧ dgA T b (e - b) ≤ hi ∧ rv = some (.int 1) ∧ DX σ m T n V0 U0 s (up2 V 0 44 (dgA T b (e - b))) U e σ')) := by
  refine ht_mono (sm_needsNumber hM hH.1 0 hi) ?_
  rintro rv σ' (⟨q1, q2, rfl⟩ | ⟨q1, q2, q3, rfl⟩ | ⟨q1, q2, q3, q4⟩)
  · exact Or.inl ⟨q1, q2, hH.df _⟩
  · refine Or.inr (Or.inl ⟨q1, fun z => q2 ⟨?_, z⟩, q3, hH.df _⟩)
    have hT := hH.tk
    subst q1
    obtain ⟨v, h1, h2, _⟩ := TK_dg hT
    rw [h2]
    exact (nI_leI (a := 0) (b := v) (by omega) (by omega)).mpr (Nat.zero_le _)
  · exact Or.inr (Or.inr ⟨q1, q2.2, q3, (hH.w44 _).nx q4⟩)
theorem DS.wq (hH : DS T n V0 U0 s ice p b e k c V U) (hk : k = 1) : Wq (U 0 7) (pkD T b (e - b)) := by
  rw [hH.1.1.2.2.2.2.1 hk]
  exact tk_Wq hH.tk hk
theorem DS.ne (hH : DS T n V0 U0 s ice p b e k c V U) (hk : k = 1) {i : Nat} (hi : i < tdC s 0) : U 7 i = U 0 7 ↔ tdN s 0 i = pkD T b (e - b) := Wq_iff (hH.2.1.2.2.2.2.1.1 i hi) (hH.wq hk)
theorem DS.ne2 (hH : DS T n V0 U0 s ice p b e k c V U) (hk : k = 1) {i : Nat} (hi : i < tdC s 2) : U 8 i = U 0 7 ↔ tdN s 1 i = pkD T b (e - b) := Wq_iff (hH.2.1.2.2.2.2.1.2 i hi) (hH.wq hk)
theorem DS.nw (hH : DS T n V0 U0 s ice p b e k c V U) (hk : k = 1) : nwN U (U 0 7) (tdC s 0) (tdC s 2) ↔ nwS s (pkD T b (e - b)) := by
  constructor
  · exact fun q => ⟨fun i hi z => q.1 i hi ((hH.ne hk hi).mpr z), fun i hi z => q.2 i hi ((hH.ne2 hk hi).mpr z)⟩
  · exact fun q => ⟨fun i hi z => q.1 i hi ((hH.ne hk hi).mp z), fun i hi z => q.2 i hi ((hH.ne2 hk hi).mp z)⟩
theorem sr_new (hM : MS σ m) (hH : DS T n V0 U0 s ice p b e k c V U) (h8 : tdC s 0 ≤ 8) (h6 : tdC s 2 ≤ 6) : Sp G mX10_isNew 1 [.ref m] (sv σ m V U) (fun rv σ' => (¬ nmT T b e k ∧ rv = some (.int 0) ∧ DF σ m V0 U0 (1 + 16 * nI b) σ') ∨ (nmT T b e k ∧ ¬ nwS s (pkD T b (e - b)) ∧ rv = some (.int 0) ∧ DF σ m V0 U0 (3 + 16 * nI b) σ') ∨ (nmT T b e k ∧ nwS s (pkD T b (e - b)) ∧ rv = some (.int 1) ∧ σ' = sv σ m V U)) := by
  have hkn := kp_nm hH.1
  refine ht_mono (sm_isNew hM hH.1 hH.2.1.1.1 h8 hH.2.1.1.2.2.1 h6) ?_
  rintro rv σ' (⟨q1, q2, rfl⟩ | ⟨q1, q2, q3, rfl⟩ | ⟨q1, q2, q3, q4⟩)
  · exact Or.inl ⟨hkn.mp q1, q2, hH.df _⟩
  · have hn : nmT T b e k := Classical.byContradiction (fun z => q1 (hkn.mpr z))
    exact Or.inr (Or.inl ⟨hn, mt (hH.nw hn.1).mpr q2, q3, hH.df _⟩)
  · have hn : nmT T b e k := Classical.byContradiction (fun z => q1 (hkn.mpr z))
    exact Or.inr (Or.inr ⟨hn, (hH.nw hn.1).mp q2, q3, q4⟩)
theorem sr_cell (hM : MS σ m) (hH : DS T n V0 U0 s ice p b e k c V U) (h8 : tdC s 0 ≤ 8) : Sp G mX10_needsCell 2 [.ref m] (sv σ m V U) (fun rv σ' => (¬ nmT T b e k ∧ rv = some (.int 0) ∧ DF σ m V0 U0 (1 + 16 * nI b) σ') ∨ (nmT T b e k ∧ noC s (pkD T b (e - b)) ∧ rv = some (.int 0) ∧ DF σ m V0 U0 (2 + 16 * nI b) σ') ∨ (nmT T b e k ∧ ∃ j, cnI s (pkD T b (e - b)) j ∧ rv = some (.int 1) ∧ DX σ m T n V0 U0 s (up2 V 0 44 (nI j)) U e σ')) := by
  have hkn := kp_nm hH.1
  refine ht_mono (sm_needsCell hM hH.1 hH.2.1.1.1 h8) ?_
  rintro rv σ' (⟨q1, q2, rfl⟩ | ⟨q1, q2, q3, rfl⟩ | ⟨q1, j, q2, q3, q4, q5, q6⟩)
  · exact Or.inl ⟨hkn.mp q1, q2, hH.df _⟩
  · have hn : nmT T b e k := Classical.byContradiction (fun z => q1 (hkn.mpr z))
    exact Or.inr (Or.inl ⟨hn, fun j hj z => q2 j hj ((hH.ne hn.1 hj).mpr z), q3, (hH.w44 _).df _⟩)
  · have hn : nmT T b e k := Classical.byContradiction (fun z => q1 (hkn.mpr z))
    exact Or.inr (Or.inr ⟨hn, j, ⟨q2, (hH.ne hn.1 q2).mp q3, fun i hi z => q4 i hi ((hH.ne hn.1 (by omega)).mpr z)⟩, q5, (hH.w44 _).nx q6⟩)
theorem sr_cellNamed (hM : MS σ m) (hH : DS T n V0 U0 s ice p b e k c V U) (h8 : tdC s 0 ≤ 8) (hn : nmT T b e k) : Sp G mX10_cellNamed 0 [.ref m] (sv σ m V U) (fun rv σ' => ((noC s (pkD T b (e - b)) ∧ rv = some (.int (-1))) ∨ ∃ j, cnI s (pkD T b (e - b)) j ∧ rv = some (.int (nI j))) ∧ σ' = sv σ m V U) := by
  refine ht_mono (sm_cellNamed hM hH.2.1.1.1 h8) ?_
  rintro rv σ' ⟨⟨j, q1, q2, q3, q4⟩ | ⟨q1, q2⟩, q5⟩
  · exact ⟨Or.inr ⟨j, ⟨q1, (hH.ne hn.1 q1).mp q2, fun i hi z => q4 i hi ((hH.ne hn.1 (by omega)).mpr z)⟩, q3⟩, q5⟩
  · exact ⟨Or.inl ⟨fun j hj z => q1 j hj ((hH.ne hn.1 hj).mpr z), q2⟩, q5⟩
theorem sr_kept (hM : MS σ m) (hH : DS T n V0 U0 s ice p b e k c V U) : Sp G mX10_isKept 0 [.ref m] (sv σ m V U) (fun rv σ' => ((rv = some (.int 1) ∧ ¬ nmT T b e k) ∨ (rv = some (.int 0) ∧ nmT T b e k)) ∧ σ' = sv σ m V U) := by
  have hkn := kp_nm hH.1
  refine ht_mono (sm_isKept hM) ?_
  rintro rv σ' ⟨⟨q1, q2⟩ | ⟨q1, q2⟩, q3⟩
  · exact ⟨Or.inl ⟨q1, hkn.mp q2⟩, q3⟩
  · exact ⟨Or.inr ⟨q1, Classical.byContradiction (fun z => q2 (hkn.mpr z))⟩, q3⟩
end S0
