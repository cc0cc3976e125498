/-! ===== what was told: the lines, without machine ===== -/
/-- what was told so far: counts (0 cells 1 doors 2 men 3 guards 4 mild told), rows by the reference's numbers, names, formulas, the places told -/
abbrev TD : Type := (Nat → Nat) × VT × UT × (Bool → Option EX) × (Nat → Nat → Prop)
abbrev Rl : Type := (TD × Nat) ⊕ Int32
abbrev tdC (s : TD) : Nat → Nat := s.1
abbrev tdR (s : TD) : VT := s.2.1
abbrev tdN (s : TD) : UT := s.2.2.1
abbrev tdF (s : TD) : Bool → Option EX := s.2.2.2.1
abbrev tdW (s : TD) : Nat → Nat → Prop := s.2.2.2.2
def asC (s : TD) (i x : Nat) : TD := (fun j => if j = i then x else s.1 j, s.2)
def asR (s : TD) (o i : Nat) (x : Int32) : TD := (s.1, up2 s.2.1 o i x, s.2.2.1, s.2.2.2.1, fun a j => (a = o ∧ j = i) ∨ s.2.2.2.2 a j)
def asN (s : TD) (o i : Nat) (x : Int64) : TD := (s.1, s.2.1, up2 s.2.2.1 o i x, s.2.2.2)
def asF (s : TD) (ice : Bool) (E : EX) : TD := (s.1, s.2.1, s.2.2.1, fun b => if b = ice then some E else s.2.2.2.1 b, s.2.2.2.2)
noncomputable def ifc {α : Type} (p : Prop) (a b : α) : α := @ite α p (Classical.propDecidable p) a b
theorem ifc_y {α : Type} {p : Prop} {a b : α} (h : p) : ifc p a b = a := if_pos h
theorem ifc_n {α : Type} {p : Prop} {a b : α} (h : ¬ p) : ifc p a b = b := if_neg h
noncomputable def tkO (T : ST) (n p : Nat) : Nat × Nat × Nat := Classical.epsilon (fun t : Nat × Nat × Nat => TK T n p t.1 t.2.1 t.2.2)
section R0
variable {T : ST} {n p b e k : Nat} {s : TD}
theorem tkO_e (h : TK T n p b e k) : tkO T n p = (b, e, k) := by
  have h1 : TK T n p (tkO T n p).1 (tkO T n p).2.1 (tkO T n p).2.2 := Classical.epsilon_spec (p := fun t : Nat × Nat × Nat => TK T n p t.1 t.2.1 t.2.2) ⟨(b, e, k), h⟩
  obtain ⟨q1, q2, q3⟩ := TK_u h1 h
  exact Prod.ext q1 (Prod.ext q2 q3)
noncomputable def nWord (T : ST) (n i p : Nat) (K : Nat → Rl) : Rl := ifc (isW T (tkO T n p).1 (tkO T n p).2.1 (tkO T n p).2.2 i) (K (tkO T n p).2.1) (.inr (1 + 16 * nI (tkO T n p).1))
theorem nWord_y (hT : TK T n p b e k) {i : Nat} {K : Nat → Rl} (h : isW T b e k i) : nWord T n i p K = K e := by
  unfold nWord; rw [tkO_e hT]; exact ifc_y h
theorem nWord_n (hT : TK T n p b e k) {i : Nat} {K : Nat → Rl} (h : ¬ isW T b e k i) : nWord T n i p K = .inr (1 + 16 * nI b) := by
  unfold nWord; rw [tkO_e hT]; exact ifc_n h
noncomputable def nEnd (T : ST) (n : Nat) (s : TD) (p : Nat) : Rl := ifc (isS T (tkO T n p).1 (tkO T n p).2.2 59) (.inl (s, (tkO T n p).2.1)) (.inr (1 + 16 * nI (tkO T n p).1))
theorem nEnd_y (hT : TK T n p b e k) (h : isS T b k 59) : nEnd T n s p = .inl (s, e) := by
  unfold nEnd; rw [tkO_e hT]; exact ifc_y h
theorem nEnd_n (hT : TK T n p b e k) (h : ¬ isS T b k 59) : nEnd T n s p = .inr (1 + 16 * nI b) := by
  unfold nEnd; rw [tkO_e hT]; exact ifc_n h
noncomputable def nNum (T : ST) (n : Nat) (hi : Int32) (p : Nat) (K : Int32 → Nat → Rl) : Rl := ifc ((tkO T n p).2.2 = 2) (ifc (dgA T (tkO T n p).1 ((tkO T n p).2.1 - (tkO T n p).1) ≤ hi) (K (dgA T (tkO T n p).1 ((tkO T n p).2.1 - (tkO T n p).1)) (tkO T n p).2.1) (.inr (4 + 16 * nI (tkO T n p).1))) (.inr (1 + 16 * nI (tkO T n p).1))
theorem nNum_y (hT : TK T n p b e k) {hi : Int32} {K : Int32 → Nat → Rl} (h : k = 2) (h2 : dgA T b (e - b) ≤ hi) : nNum T n hi p K = K (dgA T b (e - b)) e := by
  unfold nNum; rw [tkO_e hT]; exact (ifc_y h).trans (ifc_y h2)
theorem nNum_1 (hT : TK T n p b e k) {hi : Int32} {K : Int32 → Nat → Rl} (h : ¬ k = 2) : nNum T n hi p K = .inr (1 + 16 * nI b) := by
  unfold nNum; rw [tkO_e hT]; exact ifc_n h
theorem nNum_4 (hT : TK T n p b e k) {hi : Int32} {K : Int32 → Nat → Rl} (h : k = 2) (h2 : ¬ dgA T b (e - b) ≤ hi) : nNum T n hi p K = .inr (4 + 16 * nI b) := by
  unfold nNum; rw [tkO_e hT]; exact (ifc_y h).trans (ifc_n h2)
/-- no cell and no man has the name -/
def nwS (s : TD) (w : Int64) : Prop := (∀ i, i < tdC s 0 → ¬ tdN s 0 i = w) ∧ ∀ i, i < tdC s 2 → ¬ tdN s 1 i = w
noncomputable def nNew (T : ST) (n : Nat) (s : TD) (p : Nat) (K : Int64 → Nat → Rl) : Rl := ifc (nmT T (tkO T n p).1 (tkO T n p).2.1 (tkO T n p).2.2) (ifc (nwS s (pkD T (tkO T n p).1 ((tkO T n p).2.1 - (tkO T n p).1))) (K (pkD T (tkO T n p).1 ((tkO T n p).2.1 - (tkO T n p).1)) (tkO T n p).2.1) (.inr (3 + 16 * nI (tkO T n p).1))) (.inr (1 + 16 * nI (tkO T n p).1))
theorem nNew_y (hT : TK T n p b e k) {K : Int64 → Nat → Rl} (h : nmT T b e k) (h2 : nwS s (pkD T b (e - b))) : nNew T n s p K = K (pkD T b (e - b)) e := by
  unfold nNew; rw [tkO_e hT]; exact (ifc_y h).trans (ifc_y h2)
theorem nNew_1 (hT : TK T n p b e k) {K : Int64 → Nat → Rl} (h : ¬ nmT T b e k) : nNew T n s p K = .inr (1 + 16 * nI b) := by
  unfold nNew; rw [tkO_e hT]; exact ifc_n h
theorem nNew_3 (hT : TK T n p b e k) {K : Int64 → Nat → Rl} (h : nmT T b e k) (h2 : ¬ nwS s (pkD T b (e - b))) : nNew T n s p K = .inr (3 + 16 * nI b) := by
  unfold nNew; rw [tkO_e hT]; exact (ifc_y h).trans (ifc_n h2)
/-- the first cell of that name -/
def cnI (s : TD) (w : Int64) (j : Nat) : Prop := j < tdC s 0 ∧ tdN s 0 j = w ∧ ∀ i, i < j → ¬ tdN s 0 i = w
noncomputable def cnE (s : TD) (w : Int64) : Nat := Classical.epsilon (cnI s w)
theorem cnI_u {w : Int64} {i j : Nat} (h : cnI s w i) (h2 : cnI s w j) : i = j := by
  rcases Nat.lt_trichotomy i j with q | q | q
  · exact absurd h.2.1 (h2.2.2 i q)
  · exact q
  · exact absurd h2.2.1 (h.2.2 j q)
theorem cnE_e {w : Int64} {j : Nat} (h : cnI s w j) : cnE s w = j := cnI_u (Classical.epsilon_spec (p := cnI s w) ⟨j, h⟩) h
def noC (s : TD) (w : Int64) : Prop := ∀ j, j < tdC s 0 → ¬ tdN s 0 j = w
noncomputable def nCell (T : ST) (n : Nat) (s : TD) (p : Nat) (K : Nat → Nat → Rl) : Rl := ifc (nmT T (tkO T n p).1 (tkO T n p).2.1 (tkO T n p).2.2) (ifc (noC s (pkD T (tkO T n p).1 ((tkO T n p).2.1 - (tkO T n p).1))) (.inr (2 + 16 * nI (tkO T n p).1)) (K (cnE s (pkD T (tkO T n p).1 ((tkO T n p).2.1 - (tkO T n p).1))) (tkO T n p).2.1)) (.inr (1 + 16 * nI (tkO T n p).1))
theorem nCell_1 (hT : TK T n p b e k) {K : Nat → Nat → Rl} (h : ¬ nmT T b e k) : nCell T n s p K = .inr (1 + 16 * nI b) := by
  unfold nCell; rw [tkO_e hT]; exact ifc_n h
theorem nCell_2 (hT : TK T n p b e k) {K : Nat → Nat → Rl} (h : nmT T b e k) (h2 : noC s (pkD T b (e - b))) : nCell T n s p K = .inr (2 + 16 * nI b) := by
  unfold nCell; rw [tkO_e hT]; exact (ifc_y h).trans (ifc_y h2)
theorem nCell_y (hT : TK T n p b e k) {K : Nat → Nat → Rl} {j : Nat} (h : nmT T b e k) (h2 : cnI s (pkD T b (e - b)) j) : nCell T n s p K = K j e := by
  unfold nCell; rw [tkO_e hT]
  refine (ifc_y h).trans ((ifc_n (fun q => q j h2.1 h2.2.1)).trans ?_)
  show K (cnE s (pkD T b (e - b))) e = K j e
  rw [cnE_e h2]
/-! the lines: b where the line's first word begins, p where it ends -/
noncomputable def lnMild (T : ST) (n : Nat) (s : TD) (b p : Nat) (K : TD → Nat → Rl) : Rl := ifc (tdC s 4 = 0) (nNum T n 20 p (fun x q => K (asR (asC s 4 1) 6 0 x) q)) (.inr (3 + 16 * nI b))
noncomputable def lnCell (T : ST) (n : Nat) (s : TD) (b p : Nat) (K : TD → Nat → Rl) : Rl := ifc (tdC s 0 < 8) (nNew T n s p (fun w q => nWord T n 4 q (fun q => nNum T n 9 q (fun x q => K (asC (asR (asN s 0 (tdC s 0) w) 9 (tdC s 0) x) 0 (tdC s 0 + 1)) q)))) (.inr (5 + 16 * nI b))
noncomputable def nOth (T : ST) (n : Nat) (s : TD) (d j p : Nat) (K : TD → Nat → Rl) : Rl := ifc (isW T (tkO T n p).1 (tkO T n p).2.1 (tkO T n p).2.2 7) (K (asR s 11 d (-1)) (tkO T n p).2.1) (nCell T n s p (fun j2 q => ifc (j2 = j) (.inr (3 + 16 * nI (tkO T n p).1)) (K (asR s 11 d (nI j2)) q)))
theorem nOth_o (hT : TK T n p b e k) {d j : Nat} {K : TD → Nat → Rl} (h : isW T b e k 7) : nOth T n s d j p K = K (asR s 11 d (-1)) e := by
  unfold nOth; rw [tkO_e hT]; exact ifc_y h
theorem nOth_c (hT : TK T n p b e k) {d j : Nat} {K : TD → Nat → Rl} (h : ¬ isW T b e k 7) : nOth T n s d j p K = nCell T n s p (fun j2 q => ifc (j2 = j) (.inr (3 + 16 * nI b)) (K (asR s 11 d (nI j2)) q)) := by
  unfold nOth; rw [tkO_e hT]; exact ifc_n h
noncomputable def lnDoor (T : ST) (n : Nat) (s : TD) (b p : Nat) (K : TD → Nat → Rl) : Rl := ifc (tdC s 1 < 10) (nCell T n s p (fun j q => nWord T n 6 q (fun q => nOth T n (asR s 10 (tdC s 1) (nI j)) (tdC s 1) j q (fun s2 q => nWord T n 8 q (fun q => nNum T n 99 q (fun x q => K (asC (asR s2 12 (tdC s 1) x) 1 (tdC s 1 + 1)) q)))))) (.inr (5 + 16 * nI b))
noncomputable def lnMan (T : ST) (n : Nat) (s : TD) (b p : Nat) (K : TD → Nat → Rl) : Rl := ifc (tdC s 2 < 6) (nNew T n s p (fun w q => nWord T n 10 q (fun q => nCell T n (asN s 1 (tdC s 2) w) q (fun j q => nWord T n 11 q (fun q => nNum T n 9 q (fun x q => nWord T n 12 q (fun q => nNum T n 99 q (fun y q => K (asC (asR (asR (asR (asN s 1 (tdC s 2) w) 13 (tdC s 2) (nI j)) 14 (tdC s 2) x) 15 (tdC s 2) y) 2 (tdC s 2 + 1)) q)))))))) (.inr (5 + 16 * nI b))
noncomputable def lnRd (T : ST) (n g : Nat) (K : TD → Nat → Rl) : Nat → TD → Nat → Nat → Rl
  | 0, s, len, p => ifc (len = 0 ∨ nmT T (tkO T n p).1 (tkO T n p).2.1 (tkO T n p).2.2) (nCell T n s p (fun _ _ => .inr (5 + 16 * nI (tkO T n p).1))) (K (asC (asR s 16 g (nI len)) 3 (g + 1)) p)
  | r + 1, s, len, p => ifc (len = 0 ∨ nmT T (tkO T n p).1 (tkO T n p).2.1 (tkO T n p).2.2) (nCell T n s p (fun j q => lnRd T n g K r (asR s 17 (8 * g + len) (nI j)) (len + 1) q)) (K (asC (asR s 16 g (nI len)) 3 (g + 1)) p)
theorem lnRd_e (hT : TK T n p b e k) {g len : Nat} {K : TD → Nat → Rl} (r : Nat) (h : ¬ len = 0) (h2 : ¬ nmT T b e k) : lnRd T n g K r s len p = K (asC (asR s 16 g (nI len)) 3 (g + 1)) p := by
  cases r with
  | zero => unfold lnRd; rw [tkO_e hT]; exact ifc_n (fun q => q.elim h h2)
  | succ r => unfold lnRd; rw [tkO_e hT]; exact ifc_n (fun q => q.elim h h2)
theorem lnRd_c (hT : TK T n p b e k) {g len : Nat} {K : TD → Nat → Rl} (r : Nat) (h : len = 0 ∨ nmT T b e k) : lnRd T n g K (r + 1) s len p = nCell T n s p (fun j q => lnRd T n g K r (asR s 17 (8 * g + len) (nI j)) (len + 1) q) := by
  rw [lnRd]; rw [tkO_e hT]; exact ifc_y h
theorem lnRd_5 (hT : TK T n p b e k) {g len : Nat} {K : TD → Nat → Rl} (h : len = 0 ∨ nmT T b e k) : lnRd T n g K 0 s len p = nCell T n s p (fun _ _ => .inr (5 + 16 * nI b)) := by
  rw [lnRd]; rw [tkO_e hT]; exact ifc_y h
noncomputable def lnGuard (T : ST) (n : Nat) (s : TD) (b p : Nat) (K : TD → Nat → Rl) : Rl := ifc (tdC s 3 < 2) (lnRd T n (tdC s 3) K 8 s 0 p) (.inr (5 + 16 * nI b))
def lnF (T : ST) (n : Nat) (s : TD) (ice : Bool) (b e : Nat) (K : TD → Nat → Rl) (res : Rl) : Prop := (¬ tdF s ice = none ∧ res = .inr (3 + 16 * nI b)) ∨ (tdF s ice = none ∧ ∃ rs, RLv T n ice 0 0 e rs ∧ ((∃ f, rs = .inr f ∧ res = .inr f) ∨ ∃ q E, rs = .inl (q, E) ∧ res = K (asF s ice E) q))
/-- one line, at its first token -/
def Ln (T : ST) (n : Nat) (s : TD) (b e k : Nat) (res : Rl) : Prop := (isW T b e k 0 ∧ lnF T n s false b e (nEnd T n) res) ∨ (isW T b e k 1 ∧ lnF T n s true b e (nEnd T n) res) ∨ (isW T b e k 2 ∧ res = lnMild T n s b e (nEnd T n)) ∨ (isW T b e k 3 ∧ res = lnCell T n s b e (nEnd T n)) ∨ (isW T b e k 5 ∧ res = lnDoor T n s b e (nEnd T n)) ∨ (isW T b e k 9 ∧ res = lnMan T n s b e (nEnd T n)) ∨ (isW T b e k 13 ∧ res = lnGuard T n s b e (nEnd T n)) ∨ ((¬ isW T b e k 0 ∧ ¬ isW T b e k 1 ∧ ¬ isW T b e k 2 ∧ ¬ isW T b e k 3 ∧ ¬ isW T b e k 5 ∧ ¬ isW T b e k 9 ∧ ¬ isW T b e k 13) ∧ res = .inr (1 + 16 * nI b))
/-- what holds of it between the lines -/
def TV (T : ST) (n : Nat) (s : TD) : Prop := (tdC s 0 ≤ 8 ∧ tdC s 1 ≤ 10 ∧ tdC s 2 ≤ 6 ∧ tdC s 3 ≤ 2 ∧ tdC s 4 ≤ 1) ∧ ((∃ md, md ≤ 20 ∧ tdR s 6 0 = nI md) ∧ ∀ j, tdC s 1 ≤ j → tdR s 12 j = 0)
  ∧ ((∀ i, i < tdC s 0 → tdW s 9 i ∧ ∃ x, x ≤ 9 ∧ tdR s 9 i = nI x) ∧ ∀ i, tdC s 0 ≤ i → tdR s 9 i = 0)
  ∧ (∀ j, j < tdC s 1 → (tdW s 10 j ∧ tdW s 11 j ∧ tdW s 12 j) ∧ (∃ a, a < tdC s 0 ∧ tdR s 10 j = nI a) ∧ (tdR s 11 j = -1 ∨ ∃ a, a < tdC s 0 ∧ tdR s 11 j = nI a) ∧ ¬ tdR s 10 j = tdR s 11 j ∧ ∃ x, x ≤ 99 ∧ tdR s 12 j = nI x)
  ∧ ((∀ j, j < tdC s 2 → (tdW s 13 j ∧ tdW s 14 j ∧ tdW s 15 j) ∧ (∃ a, a < tdC s 0 ∧ tdR s 13 j = nI a) ∧ (∃ x, x ≤ 9 ∧ tdR s 14 j = nI x) ∧ ∃ x, x ≤ 99 ∧ tdR s 15 j = nI x) ∧ ∀ j, tdC s 2 ≤ j → tdR s 13 j = 0 ∧ tdR s 14 j = 0)
  ∧ (∀ g, g < tdC s 3 → ∃ l, tdR s 16 g = nI l ∧ 0 < l ∧ l ≤ 8 ∧ ∀ i, i < l → tdW s 17 (8 * g + i) ∧ ∃ a, a < tdC s 0 ∧ tdR s 17 (8 * g + i) = nI a)
  ∧ ∀ ice E, tdF s ice = some E → ∃ p q, RLv T n ice 0 0 p (.inl (q, E))
end R0
