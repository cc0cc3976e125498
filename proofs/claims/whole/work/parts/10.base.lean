/-! ===== the heap as a value: kinds, lengths, ints, longs, references (by address and place), the next address, slots in use ===== -/
abbrev Hp : Type := (Nat → Nat) × (Nat → Nat) × (Nat → Nat → Int32) × (Nat → Nat → Int64) × (Nat → Nat → Option Nat) × Nat × Nat
def zK (σ : Hp) : Nat → Nat := σ.1
def zN (σ : Hp) : Nat → Nat := σ.2.1
def zI (σ : Hp) : Nat → Nat → Int32 := σ.2.2.1
def zJ (σ : Hp) : Nat → Nat → Int64 := σ.2.2.2.1
def zQ (σ : Hp) : Nat → Nat → Option Nat := σ.2.2.2.2.1
def zX (σ : Hp) : Nat := σ.2.2.2.2.2.1
def zS (σ : Hp) : Nat := σ.2.2.2.2.2.2
def up2 {α : Type} (f : Nat → Nat → α) (a k : Nat) (v : α) : Nat → Nat → α := fun b j => if b = a ∧ j = k then v else f b j
theorem up2_s {α : Type} (f : Nat → Nat → α) (a k : Nat) (v : α) : up2 f a k v a k = v := by simp [up2]
theorem up2_a {α : Type} (f : Nat → Nat → α) {a k : Nat} (v : α) {b j : Nat} (h : b ≠ a) : up2 f a k v b j = f b j := by simp [up2, h]
theorem up2_k {α : Type} (f : Nat → Nat → α) {a k : Nat} (v : α) {b j : Nat} (h : j ≠ k) : up2 f a k v b j = f b j := by simp [up2, h]
def wI (σ : Hp) (a k : Nat) (v : Int32) : Hp := (zK σ, zN σ, up2 (zI σ) a k v, zJ σ, zQ σ, zX σ, zS σ)
def wJ (σ : Hp) (a k : Nat) (v : Int64) : Hp := (zK σ, zN σ, zI σ, up2 (zJ σ) a k v, zQ σ, zX σ, zS σ)
def wQ (σ : Hp) (a k : Nat) (v : Option Nat) : Hp := (zK σ, zN σ, zI σ, zJ σ, up2 (zQ σ) a k v, zX σ, zS σ)
def nw (σ : Hp) (k len sl : Nat) : Hp := (va_up (zK σ) (zX σ) k, va_up (zN σ) (zX σ) len, va_up (zI σ) (zX σ) (fun _ => 0), va_up (zJ σ) (zX σ) (fun _ => 0), va_up (zQ σ) (zX σ) (fun _ => none), zX σ + 1, zS σ + sl)
theorem zK_wI (σ : Hp) (a k : Nat) (v : Int32) : zK (wI σ a k v) = zK σ := rfl
theorem zN_wI (σ : Hp) (a k : Nat) (v : Int32) : zN (wI σ a k v) = zN σ := rfl
theorem zI_wI (σ : Hp) (a k : Nat) (v : Int32) : zI (wI σ a k v) = up2 (zI σ) a k v := rfl
theorem zJ_wI (σ : Hp) (a k : Nat) (v : Int32) : zJ (wI σ a k v) = zJ σ := rfl
theorem zQ_wI (σ : Hp) (a k : Nat) (v : Int32) : zQ (wI σ a k v) = zQ σ := rfl
theorem zX_wI (σ : Hp) (a k : Nat) (v : Int32) : zX (wI σ a k v) = zX σ := rfl
theorem zS_wI (σ : Hp) (a k : Nat) (v : Int32) : zS (wI σ a k v) = zS σ := rfl
theorem zK_wJ (σ : Hp) (a k : Nat) (v : Int64) : zK (wJ σ a k v) = zK σ := rfl
theorem zN_wJ (σ : Hp) (a k : Nat) (v : Int64) : zN (wJ σ a k v) = zN σ := rfl
theorem zI_wJ (σ : Hp) (a k : Nat) (v : Int64) : zI (wJ σ a k v) = zI σ := rfl
theorem zJ_wJ (σ : Hp) (a k : Nat) (v : Int64) : zJ (wJ σ a k v) = up2 (zJ σ) a k v := rfl
theorem zQ_wJ (σ : Hp) (a k : Nat) (v : Int64) : zQ (wJ σ a k v) = zQ σ := rfl
theorem zX_wJ (σ : Hp) (a k : Nat) (v : Int64) : zX (wJ σ a k v) = zX σ := rfl
theorem zS_wJ (σ : Hp) (a k : Nat) (v : Int64) : zS (wJ σ a k v) = zS σ := rfl
theorem zK_wQ (σ : Hp) (a k : Nat) (v : Option Nat) : zK (wQ σ a k v) = zK σ := rfl
theorem zN_wQ (σ : Hp) (a k : Nat) (v : Option Nat) : zN (wQ σ a k v) = zN σ := rfl
theorem zI_wQ (σ : Hp) (a k : Nat) (v : Option Nat) : zI (wQ σ a k v) = zI σ := rfl
theorem zJ_wQ (σ : Hp) (a k : Nat) (v : Option Nat) : zJ (wQ σ a k v) = zJ σ := rfl
theorem zQ_wQ (σ : Hp) (a k : Nat) (v : Option Nat) : zQ (wQ σ a k v) = up2 (zQ σ) a k v := rfl
theorem zX_wQ (σ : Hp) (a k : Nat) (v : Option Nat) : zX (wQ σ a k v) = zX σ := rfl
theorem zS_wQ (σ : Hp) (a k : Nat) (v : Option Nat) : zS (wQ σ a k v) = zS σ := rfl
theorem zK_nw (σ : Hp) (k len sl : Nat) : zK (nw σ k len sl) = va_up (zK σ) (zX σ) k := rfl
theorem zN_nw (σ : Hp) (k len sl : Nat) : zN (nw σ k len sl) = va_up (zN σ) (zX σ) len := rfl
theorem zI_nw (σ : Hp) (k len sl : Nat) : zI (nw σ k len sl) = va_up (zI σ) (zX σ) (fun _ => 0) := rfl
theorem zJ_nw (σ : Hp) (k len sl : Nat) : zJ (nw σ k len sl) = va_up (zJ σ) (zX σ) (fun _ => 0) := rfl
theorem zQ_nw (σ : Hp) (k len sl : Nat) : zQ (nw σ k len sl) = va_up (zQ σ) (zX σ) (fun _ => none) := rfl
theorem zX_nw (σ : Hp) (k len sl : Nat) : zX (nw σ k len sl) = zX σ + 1 := rfl
theorem zS_nw (σ : Hp) (k len sl : Nat) : zS (nw σ k len sl) = zS σ + sl := rfl
/-! the classes of the worlds, and their fields' kinds: 0 an int, 1 a long, 2 a reference -/
abbrev vwCl : List vw_C := [(RX0, TX0, 1), (RX1, TX1, 2), (RX2, TX2, 17), (RX3, TX3, 5), (RX4, TX4, 8), (RX5, TX5, 11), (RX6, TX6, 2), (RX7, TX7, 9), (RX9, TX9, 9), (RX10, TX10, 57)]
def cT (k : Nat) : vw_C := vwCl.getD k (RX8, TX8, 0)
def tyC (k : Nat) : Nat → FieldType := match k with
  | 0 => tyX0
  | 1 => tyX1
  | 2 => tyX2
  | 3 => tyX3
  | 4 => tyX4
  | 5 => tyX5
  | 6 => tyX6
  | 7 => tyX7
  | 8 => tyX9
  | 9 => tyX10
  | _ => tyX8
def tcd (t : FieldType) : Nat := match t with
  | .long => 1
  | .object _ => 2
  | .array _ => 2
  | _ => 0
def fT (k j : Nat) : Nat := tcd (tyC k j)
def eT (k : Nat) : Nat := if k = 21 then 1 else if k = 24 ∨ k = 25 then 2 else 0
def aT (k : Nat) : FieldType := match k with
  | 20 => .int
  | 21 => .long
  | 22 => .byte
  | 23 => .boolean
  | 24 => .object RX3
  | _ => .object RX4
def fv (σ : Hp) (a j c : Nat) : Value := match c with
  | 0 => .int (zI σ a j)
  | 1 => .long (zJ σ a j)
  | _ => va_rf (zQ σ a j)
theorem cT_some {k : Nat} (h : k < 10) : vwCl[k]? = some (cT k) := by
  match k, h with
  | 0, _ => rfl
  | 1, _ => rfl
  | 2, _ => rfl
  | 3, _ => rfl
  | 4, _ => rfl
  | 5, _ => rfl
  | 6, _ => rfl
  | 7, _ => rfl
  | 8, _ => rfl
  | 9, _ => rfl
/-! ===== what stays the same over the law's run: classes' numbers, arrays' classes, the heap at the law's start, what else is known of a state, the first new address, how far addresses and slots may go ===== -/
abbrev GG : Type := va_G × (Nat → ClassId) × Heap × (State → Prop) × Nat × Nat × Nat
abbrev gD (G : GG) : va_G := G.1
abbrev gA (G : GG) : Nat → ClassId := G.2.1
abbrev gH (G : GG) : Heap := G.2.2.1
abbrev gE (G : GG) : State → Prop := G.2.2.2.1
abbrev gB (G : GG) : Nat := G.2.2.2.2.1
abbrev gC (G : GG) : Nat := G.2.2.2.2.2.1
abbrev gS (G : GG) : Nat := G.2.2.2.2.2.2
def at_ (G : GG) (σ : Hp) (a : Nat) (H : Heap) : Prop :=
  if zK σ a < 10 then t_OB a ((gD G).1 (zK σ a)) (cT (zK σ a)).2.2 ((gD G).2 (zK σ a)) H (fun j => fv σ a j (fT (zK σ a) j))
  else if 20 ≤ zK σ a ∧ zK σ a < 26 then H[a]? = some (arrV (gA G (zK σ a)) (zN σ a) (fun j => fv σ a j (eT (zK σ a)))) else True
def nS (H : Heap) (n : Nat) : Nat := ((H.toList.drop n).map (fun c => c.slots.size)).sum
def Wd (G : GG) (σ : Hp) (H : Heap) : Prop :=
  H.size = zX σ ∧ gB G ≤ zX σ ∧ zX σ ≤ gC G ∧ zS σ ≤ gS G ∧ nS H (gB G) = zS σ ∧ (∀ q, q < gB G → H[q]? = (gH G)[q]?) ∧ (∀ a, zK σ a < 26 → gB G ≤ a ∧ a < zX σ) ∧ ∀ a, at_ G σ a H
def tysG (G : GG) : List (ClassId × FieldType) := [(gA G 20, aT 20), (gA G 21, aT 21), (gA G 22, aT 22), (gA G 23, aT 23), (gA G 24, aT 24), (gA G 25, aT 25)]
theorem tysG_at (G : GG) {k : Nat} (h : 20 ≤ k ∧ k < 26) : (tysG G)[k - 20]? = some (gA G k, aT k) := by
  obtain ⟨h1, h2⟩ := h
  have h3 : k = 20 ∨ k = 21 ∨ k = 22 ∨ k = 23 ∨ k = 24 ∨ k = 25 := by omega
  rcases h3 with rfl | rfl | rfl | rfl | rfl | rfl <;> rfl
def Ok (G : GG) (s : State) : Prop := va_K (gD G) vwCl (tysG G) s ∧ gE G s ∧ (∀ u U : State, u.WarmedH U.vm → gE G u → gE G U) ∧ ∀ u U : State, u.vm = U.vm → gE G u → gE G U
theorem Ok.warm {G : GG} {s U : State} (hW : s.WarmedH U.vm) (h : Ok G s) : Ok G U := ⟨h.1.moved hW.alike, h.2.2.1 s U hW h.2.1, h.2.2⟩
theorem Ok.same {G : GG} {s U : State} (hv : s.vm = U.vm) (h : Ok G s) : Ok G U := ⟨h.1.moved (by rw [hv]; exact Vm.Alike.refl U.vm), h.2.2.2 s U hv h.2.1, h.2.2⟩
/-- a method: its name, its bytes, its locals, what it returns -/
abbrev MI : Type := MethodName × ByteArray × Nat × Option FieldType
def WS : List Cond := lw_tbl.filter goodWord
def LV (ls : Array Slot) (nL : Nat) (L : List (Option Value)) : Prop := ls.size = nL ∧ lv_wf ls ∧ ∀ (j : Nat) (v : Value), L[j]? = some (some v) → ls[j]? = some (.val v)
def asc (L : List (Option Value)) : List (Nat × Value) := (List.range L.length).filterMap (fun j => (L.getD j none).map (fun v => (j, v)))
theorem asc_in {L : List (Option Value)} {j : Nat} {v : Value} : (j, v) ∈ asc L ↔ L[j]? = some (some v) := by
  unfold asc
  rw [List.mem_filterMap]
  constructor
  · rintro ⟨i, hi, h⟩
    rw [List.mem_range] at hi
    rw [List.getD_eq_getElem?_getD, List.getElem?_eq_getElem hi] at h
    rw [Option.map_eq_some_iff] at h
    obtain ⟨w, h1, h2⟩ := h
    cases h2
    rw [List.getElem?_eq_getElem hi]
    simpa using h1
  · intro h
    obtain ⟨hl, he⟩ := List.getElem?_eq_some_iff.mp h
    exact ⟨j, List.mem_range.mpr hl, by rw [List.getD_eq_getElem?_getD, h]; rfl⟩
theorem LV.has {ls : Array Slot} {nL : Nat} {L : List (Option Value)} (h : LV ls nL L) : lv_has ls nL (asc L) := ⟨h.1, h.2.1, fun q hq => h.2.2 q.1 q.2 (asc_in.mp hq)⟩
theorem LV.at {ls : Array Slot} {nL : Nat} {L : List (Option Value)} (h : LV ls nL L) {i : Nat} {v : Value} (hk : L[i]? = some (some v)) : ls[i]? = some (.val v) := h.2.2 i v hk
/-- no long stands just ahead of the place -/
def okP (L : List (Option Value)) (i : Nat) : Bool := match i with
  | 0 => true
  | j + 1 => match L.getD j none with
    | some v => v.category != 2
    | none => true
theorem okP_ne {L : List (Option Value)} {i j : Nat} {w : Value} (h : okP L i = true) (hj : L[j]? = some (some w)) (e : j + 1 = i) : ¬ w.category = 2 := by
  subst e
  have h2 : (match L.getD j none with | some v => v.category != 2 | none => true) = true := h
  rw [List.getD_eq_getElem?_getD, hj] at h2
  simpa using h2
theorem LV.of1 {ls' : Array Slot} {nL i : Nat} {L : List (Option Value)} {v : Value} (h : lv_has ls' nL ((i, v) :: (asc L).filter (fun q => !(q.1 == i) && !(q.1 + 1 == i && q.2.category == 2)))) (ho : okP L i = true) : LV ls' nL (L.set i (some v)) := by
  refine ⟨h.1, h.2.1, fun j w hj => ?_⟩
  by_cases e : j = i
  · subst e
    rw [List.getElem?_set] at hj
    simp only [if_true] at hj
    split at hj
    · cases hj
      exact h.2.2 (j, v) List.mem_cons_self
    · cases hj
  · rw [List.getElem?_set_ne (fun q => e q.symm)] at hj
    refine h.2.2 (j, w) (List.mem_cons_of_mem _ (List.mem_filter.mpr ⟨asc_in.mpr hj, ?_⟩))
    have h1 : (j == i) = false := by simpa using e
    simp only [h1, Bool.not_false, Bool.true_and, Bool.not_eq_true', Bool.and_eq_false_iff]
    by_cases e2 : j + 1 = i
    · exact Or.inr (by simpa using okP_ne ho hj e2)
    · exact Or.inl (by simpa using e2)
theorem LV.of2 {ls' : Array Slot} {nL i : Nat} {L : List (Option Value)} {v : Value} (h : lv_has ls' nL ((i, v) :: (asc L).filter (fun q => !(q.1 == i) && (!(q.1 == i + 1) && !(q.1 + 1 == i && q.2.category == 2))))) (ho : okP L i = true) : LV ls' nL ((L.set i (some v)).set (i + 1) none) := by
  refine ⟨h.1, h.2.1, fun j w hj => ?_⟩
  by_cases e3 : j = i + 1
  · subst e3
    rw [List.getElem?_set] at hj
    simp only [if_true] at hj
    split at hj <;> cases hj
  · rw [List.getElem?_set_ne (fun q => e3 q.symm)] at hj
    by_cases e : j = i
    · subst e
      rw [List.getElem?_set] at hj
      simp only [if_true] at hj
      split at hj
      · cases hj
        exact h.2.2 (j, v) List.mem_cons_self
      · cases hj
    · rw [List.getElem?_set_ne (fun q => e q.symm)] at hj
      refine h.2.2 (j, w) (List.mem_cons_of_mem _ (List.mem_filter.mpr ⟨asc_in.mpr hj, ?_⟩))
      have h1 : (j == i) = false := by simpa using e
      have h2 : (j == i + 1) = false := by simpa using e3
      simp only [h1, h2, Bool.not_false, Bool.true_and, Bool.not_eq_true', Bool.and_eq_false_iff]
      by_cases e2 : j + 1 = i
      · exact Or.inr (by simpa using okP_ne ho hj e2)
      · exact Or.inl (by simpa using e2)
/-! ===== the machine's context of a method's body ===== -/
def Cx (G : GG) (M : MI) (p : Program) (R : Room) (s : State) (m : MethodId) (args : Array Value) (meth : Method) (c : Code) : Prop :=
  p.tables.exec = Jvm.exec ∧ c.code = M.2.1 ∧ meth.sig.returnType = M.2.2.2 ∧ c.maxLocals = M.2.2.1 ∧ s.vm.findClass M.1.cls = some m.cls ∧ meth.locks = false ∧ meth.name = M.1.name ∧ (∀ w ∈ WS, w.before args s = true) ∧ Ok G s ∧ gB G ≤ s.heap.size ∧ gC G ≤ s.heap.size + R.cells ∧ gS G ≤ nS s.heap (gB G) + R.slots
abbrev WX (p : Program) (l : Launch) (e : Env) (R : Room) (s : State) (m : MethodId) (args : Array Value) (below : List Frame) (meth : Method) (c : Code) (H : Heap) (locs : List Loc) (Z : State → Prop) (g : JFrame) : Prop := W p l e R s m args below meth c H locs (H.size - s.heap.size) (nS H s.heap.size) Z g
def RetAt (M : MI) (pc : Nat) (v : Option Value) : Prop := match v with
  | none => decode M.2.1 pc = .ok (.return_, 1) ∧ M.2.2.2 = none
  | some (.int x) => decode M.2.1 pc = .ok (.ireturn, 1) ∧ ∃ ty, M.2.2.2 = some ty ∧ narrow ty (.int x) = .int x
  | some (.long _) => decode M.2.1 pc = .ok (.lreturn, 1) ∧ M.2.2.2 = some .long
  | some .null => decode M.2.1 pc = .ok (.areturn, 1) ∧ ∃ ty, M.2.2.2 = some ty ∧ ((∃ n, ty = .object n) ∨ ∃ t, ty = .array t)
  | some (.ref _) => decode M.2.1 pc = .ok (.areturn, 1) ∧ ∃ ty, M.2.2.2 = some ty ∧ ((∃ n, ty = .object n) ∨ ∃ t, ty = .array t)
  | _ => False
/-- launches without stack traces -/
abbrev LL : Type := { l : Launch // l.stackTraces = false }
/-- THE TRIPLE: method M at pc, locals L, operands st, over the heap σ, with frames for d more calls: it comes to its return, and then Q -/
def HT (G : GG) (M : MI) (pc : Nat) (L : List (Option Value)) (st : List Value) (σ : Hp) (d : Nat) (Q : Option Value → Hp → Prop) : Prop :=
  ∀ (l : LL) (p : Program) (e : Env) (R : Room) (s : State) (m : MethodId) (args : Array Value) (below : List Frame) (meth : Method) (c : Code) (H : Heap) (locs : List Loc) (ls : Array Slot) (Z : State → Prop),
    Cx G M p R s m args meth c → d ≤ R.frames → 64 * d ≤ R.locals → Wd G σ H → LV ls M.2.2.1 L → (∀ q ∈ locs, gB G ≤ q.base) →
    (∀ (v : Option Value) (σ' : Hp) (H' : Heap) (locs' : List Loc) (pc' : Nat) (ls' : Array Slot), Q v σ' → Wd G σ' H' → (∀ q ∈ locs', gB G ≤ q.base) → RetAt M pc' v → WX p l.1 e R s m args below meth c H' locs' Z (F0 m pc' ls' v.toList)) →
    WX p l.1 e R s m args below meth c H locs Z (F0 m pc ls st)
section Tight
variable {p : Program} {l : Launch} {e : Env} {R : Room} {s : State} {m : MethodId} {args : Array Value} {below : List Frame} {meth : Method} {c : Code} {H : Heap} {locs : List Loc} {cells slots : Nat} {Z : State → Prop} {g : JFrame} {T : State}
theorem st_tight (X : Stand p l e R s m args below meth c T locs cells slots) : Stand p l e R s m args below meth c T locs (T.heap.size - s.heap.size) (nS T.heap s.heap.size) := by
  have h := X.same
  have hz : s.heap.size ≤ T.heap.size := h.2.1
  refine { X with same := ⟨h.1, h.2.1, ?_, h.2.2.2.1, Nat.le_refl _, h.2.2.2.2.2⟩ }
  show T.heap.size ≤ s.heap.size + (T.heap.size - s.heap.size)
  omega
theorem w_tight (k : WX p l e R s m args below meth c H locs Z g) : W p l e R s m args below meth c H locs cells slots Z g := by
  intro T hT X
  subst hT
  exact k T rfl (st_tight X)
theorem st_size (X : Stand p l e R s m args below meth c T locs cells slots) : s.heap.size ≤ T.heap.size := X.same.2.1
theorem nS_split {H0 H1 : Heap} {b : Nat} (hb : b ≤ H0.size) (hz : H0.size ≤ H1.size) (hs : ∀ (a : Nat) (c : Cell), H0[a]? = some c → ∃ c' : Cell, H1[a]? = some c' ∧ c'.slots.size = c.slots.size) : nS H1 b = nS H0 b + nS H1 H0.size := by
  have key : (H1.toList.take H0.size).map (fun c => c.slots.size) = H0.toList.map (fun c => c.slots.size) := by
    apply List.ext_getElem?
    intro i
    rw [List.getElem?_map, List.getElem?_map, List.getElem?_take]
    by_cases hi : i < H0.size
    · rw [if_pos hi, Array.getElem?_toList, Array.getElem?_toList]
      obtain ⟨c', h1, h2⟩ := hs i H0[i] (Array.getElem?_eq_getElem hi)
      rw [h1, Array.getElem?_eq_getElem hi]
      simp [h2]
    · rw [if_neg hi]
      simp [Nat.not_lt.mp hi]
  have h1 : H1.toList.drop b = (H1.toList.take H0.size).drop b ++ H1.toList.drop H0.size := by
    rw [List.drop_take]
    have : H1.toList.drop H0.size = (H1.toList.drop b).drop (H0.size - b) := by rw [List.drop_drop]; congr 1; omega
    rw [this, List.take_append_drop]
  unfold nS
  rw [h1, List.map_append, List.sum_append, List.map_drop, key, ← List.map_drop]
theorem st_nS {b : Nat} (hb : b ≤ s.heap.size) (X : Stand p l e R s m args below meth c T locs cells slots) : nS T.heap b = nS s.heap b + nS T.heap s.heap.size := by
  refine nS_split hb (st_size X) fun a c hc => ?_
  obtain ⟨c', h1, -, h2, -⟩ := X.same.2.2.2.2.2 a c hc
  exact ⟨c', h1, h2⟩
theorem nS_same {H0 H1 : Heap} {b : Nat} (hz : H1.size = H0.size) (hs : ∀ (a : Nat) (c : Cell), H0[a]? = some c → ∃ c' : Cell, H1[a]? = some c' ∧ c'.slots.size = c.slots.size) : nS H1 b = nS H0 b := by
  have key : H1.toList.map (fun c => c.slots.size) = H0.toList.map (fun c => c.slots.size) := by
    apply List.ext_getElem?
    intro i
    rw [List.getElem?_map, List.getElem?_map, Array.getElem?_toList, Array.getElem?_toList]
    by_cases hi : i < H0.size
    · obtain ⟨c', h1, h2⟩ := hs i H0[i] (Array.getElem?_eq_getElem hi)
      rw [h1, Array.getElem?_eq_getElem hi]
      simp [h2]
    · rw [Array.getElem?_eq_none (by omega), Array.getElem?_eq_none (by omega)]
  unfold nS
  rw [List.map_drop, key, ← List.map_drop]
theorem nS_push {H0 H1 : Heap} {b : Nat} {x : Cell} (hb : b ≤ H0.size) (hz : H1.size = H0.size + 1) (hs : ∀ a : Nat, a < H0.size → H1[a]? = H0[a]?) (hx : H1[H0.size]? = some x) : nS H1 b = nS H0 b + x.slots.size := by
  rw [nS_split (H0 := H0) (H1 := H1) hb (by omega) fun a c hc => ⟨c, by rw [hs a (Array.getElem?_eq_some_iff.mp hc).1]; exact hc, rfl⟩]
  congr 1
  unfold nS
  have h2 : H1.toList.drop H0.size = [x] := by
    apply List.ext_getElem?
    intro i
    rw [List.getElem?_drop, Array.getElem?_toList]
    cases i with
    | zero => simpa using hx
    | succ i => rw [Array.getElem?_eq_none (by omega)]; rfl
  rw [h2]
  simp
end Tight
