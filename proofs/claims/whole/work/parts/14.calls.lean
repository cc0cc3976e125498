/-! ===== a method's contract out of its triple, and calls ===== -/
def sl1 : List Value → List (Option Value)
  | [] => []
  | v :: vs => if v.category = 2 then some v :: none :: sl1 vs else some v :: sl1 vs
def entL (As : List Value) (nL : Nat) : List (Option Value) := sl1 As ++ List.replicate (nL - (sl1 As).length) none
theorem sl1_args (vs : List Value) : ∀ (i j : Nat) (v : Value), (sl1 vs)[j]? = some (some v) → (i + j, v) ∈ lv_args i vs := by
  induction vs with
  | nil => intro i j v h; simp [sl1] at h
  | cons w vs ih =>
    intro i j v h
    unfold sl1 at h
    unfold lv_args
    by_cases hc : w.category = 2
    · rw [if_pos hc] at h ⊢
      match j, h with
      | 0, h => cases h; exact List.mem_cons_self
      | 1, h => cases h
      | j + 2, h =>
        have := ih (i + 2) j v (by simpa using h)
        rw [show i + (j + 2) = i + 2 + j by omega]
        exact List.mem_cons_of_mem _ this
    · rw [if_neg hc] at h ⊢
      match j, h with
      | 0, h => cases h; exact List.mem_cons_self
      | j + 1, h =>
        have := ih (i + 1) j v (by simpa using h)
        rw [show i + (j + 1) = i + 1 + j by omega]
        exact List.mem_cons_of_mem _ this
theorem lv_ent (As : List Value) {nL : Nat} (h : (lg_sl As).length ≤ nL) : LV ((lg_sl As ++ List.replicate (nL - (lg_sl As).length) Slot.unset).toArray) nL (entL As nL) := by
  have hl := lv_entry As h
  refine ⟨hl.1, hl.2.1, fun j v hj => ?_⟩
  have hj2 : (sl1 As)[j]? = some (some v) := by
    unfold entL at hj
    by_cases hlt : j < (sl1 As).length
    · rw [List.getElem?_append_left hlt] at hj
      exact hj
    · rw [List.getElem?_append_right (by omega), List.getElem?_replicate] at hj
      split at hj <;> cases hj
  have := sl1_args As 0 j v hj2
  rw [Nat.zero_add] at this
  exact hl.2.2 (j, v) this
/-- the triple of a whole method -/
def Sp (G : GG) (M : MI) (d : Nat) (As : List Value) (σ : Hp) (Q : Option Value → Hp → Prop) : Prop := HT G M 0 (entL As M.2.2.1) [] σ d Q
theorem WS_good {ws : List Cond} (h : ∀ w ∈ ws, w ∈ WS) : GoodIn WS ws := fun w hw => ⟨h w hw, good_of_word (List.mem_filter.mp (h w hw)).2⟩
/-- what the tables say of a method -/
def MV (M : MI) : Prop := Cond.code M.1 M.2.1 M.2.2.1 M.2.2.2 ∈ WS ∧ Cond.initialized M.1.cls ∈ WS ∧ plainFor M.1 = true ∧ (M.1.cls ≠ "java/lang/invoke/MethodHandle" ∧ M.1.cls ≠ "java/lang/invoke/VarHandle") ∧ M.2.2.1 ≤ 45
def mPc (G : GG) (As : List Value) (σ : Hp) : Array Value → State → Prop := va_Pc As (fun U => Wd G σ U.heap ∧ Ok G U)
def mQc (G : GG) (Q : Option Value → Hp → Prop) : Array Value → State → Outcome → State → Prop := fun _ _ o t => ∃ (v : Option Value) (σ' : Hp), o = .returned v ∧ Q v σ' ∧ Wd G σ' t.heap
def mRm (G : GG) (σ : Hp) (d : Nat) : Room := { frames := d, cells := gC G - zX σ, slots := gS G - zS σ, locals := 64 * d }
theorem mPc_blind (G : GG) (As : List Value) (σ : Hp) : FrameBlind (mPc G As σ) := fun a U g mk h => ⟨h.1, h.2.1, Ok.same (s := U) (U := U.calling g mk a) rfl h.2.2⟩
theorem met_ofW {l : Launch} {y : MethodName} {ws ws' : List Cond} {rm : Room} {Pc : Array Value → State → Prop} {Qc : Array Value → State → Outcome → State → Prop} {mc ms : Nat} {free : Addr → Prop} {cc : ByteArray} {maxL : Nat} {ret : Option FieldType}
    (hy : plainFor y = true) (hw : ws = Cond.code y cc maxL ret :: ws')
    (body : ∀ p e s m args below meth c s₁, BodyLoose p l y (headSpec ws rm) cc maxL ret e s m args below meth c s₁ → c.maxLocals = maxL → Pc args s →
      W p l e (headSpec ws rm).room s m args below meth c s.heap [] 0 0 (MQ below Qc args s mc ms free) (entryFrame m args maxL)) : Met l y ws rm Pc Qc mc ms free := by
  refine MetFree.of_bodySF (code := cc) (maxLocals := maxL) (ret := ret) hy ?_ ?_
  · intro args s m h hn
    obtain ⟨meth, c, h1, h2, h3, h4, h5, h6, -, -⟩ := Cond.code_spec hn (atoms_spec (ws := ws) h _ (by rw [hw]; exact List.mem_cons_self))
    exact ⟨meth, c, h1, h2, h3, h4, h5, h6⟩
  · intro p e s m args below meth c s₁ B hml hP _
    have hh0 : s₁.heap = s.heap := by rw [B.state]; rfl
    obtain ⟨t, a1, o, b1, b2, b3⟩ := body p e s m args below meth c s₁ B hml hP s₁ hh0 (Stand.of_body B)
    exact ⟨t, o, a1, b1, b2, ⟨b3.1, b3.2⟩⟩
set_option maxHeartbeats 4000000 in
theorem met_of {G : GG} {M : MI} {d : Nat} {As : List Value} {σ : Hp} {Q : Option Value → Hp → Prop} (l : LL) (hp : plainFor M.1 = true) (hlen : (lg_sl As).length ≤ M.2.2.1) (hS : Sp G M d As σ Q) :
    Met l.1 M.1 (Cond.code M.1 M.2.1 M.2.2.1 M.2.2.2 :: WS) (mRm G σ d) (mPc G As σ) (mQc G Q) (gC G - zX σ) (gS G - zS σ) (fun q => gB G ≤ q) := by
  refine met_ofW (cc := M.2.1) (maxL := M.2.2.1) (ret := M.2.2.2) hp rfl ?_
  intro p e s m args below meth c s₁ B hml hv
  obtain ⟨rfl, hw, hok⟩ := hv
  have hts := atoms_spec (ws := Cond.code M.1 M.2.1 M.2.2.1 M.2.2.2 :: WS) B.pre
  have w1 := hw.1
  have w2 := hw.2.1
  have w3 := hw.2.2.1
  have w4 := hw.2.2.2.1
  have w5 := hw.2.2.2.2.1
  have hlk : meth.locks = false := B.notSynchronized
  have C : Cx G M p (headSpec (Cond.code M.1 M.2.1 M.2.2.1 M.2.2.2 :: WS) (mRm G σ d)).room s m As.toArray meth c :=
    ⟨B.exec, B.bytes, B.returns, hml, findClass_of_methodNamed B.named, hlk, (name_of_methodNamed B.named B.method).1, fun w h => hts w (List.mem_cons_of_mem _ h), hok, by rw [w1]; exact w2, by show gC G ≤ s.heap.size + (gC G - zX σ); omega, by show gS G ≤ nS s.heap (gB G) + (gS G - zS σ); omega⟩
  rw [lg_entry_eq]
  refine w_tight (hS l p e _ s m As.toArray below meth c s.heap [] _ _ C (Nat.le_refl _) (Nat.le_refl _) hw (lv_ent As hlen) (fun q h => by cases h) ?_)
  intro v σ' H' locs' pc' ls' hQ hw' hlo hret T hT X
  subst hT
  have a1 := st_nS (b := gB G) C.2.2.2.2.2.2.2.2.2.1 X
  have a3 := hw'.1
  have a4 := hw'.2.2.1
  have a5 := hw'.2.2.2.1
  have a6 := hw'.2.2.2.2.1
  have b1 : T.heap.size - s.heap.size ≤ gC G - zX σ := by omega
  have b2 : nS T.heap s.heap.size ≤ gS G - zS σ := by omega
  refine W.widen b1 b2 ?_ T rfl X
  have hq : ∀ t : State, t.heap = T.heap → s.WarmedH t.vm → mQc G Q As.toArray s (.returned v) t := fun t ht _ => ⟨v, σ', rfl, hQ, by rw [ht]; exact hw'⟩
  match v, hret, hq with
  | none, hret, hq => exact W.vret C.1 C.2.1 (C.2.2.1.trans hret.2) hq hlo hret.1 hlk
  | some (.int x), hret, hq =>
    obtain ⟨r1, ty, r2, r3⟩ := hret
    exact W.zret C.1 C.2.1 (C.2.2.1.trans r2) r3 hq hlo r1 hlk
  | some (.long x), hret, hq => exact W.lret C.1 C.2.1 (C.2.2.1.trans hret.2) hq hlo hret.1 hlk
  | some .null, hret, hq =>
    obtain ⟨r1, ty, r2, r3⟩ := hret
    exact W.aret C.1 C.2.1 (C.2.2.1.trans r2) r3 (Or.inl rfl) hq hlo r1 hlk
  | some (.ref x), hret, hq =>
    obtain ⟨r1, ty, r2, r3⟩ := hret
    exact W.aret C.1 C.2.1 (C.2.2.1.trans r2) r3 (Or.inr ⟨x, rfl⟩) hq hlo r1 hlk
section CallRules
variable {G : GG} {M M' : MI} {pc : Nat} {L : List (Option Value)} {st : List Value} {σ : Hp} {d d' : Nat} {Q Qc : Option Value → Hp → Prop} {As rest : List Value} {idx : Nat}
/-- behind a call -/
theorem ht_run {g0 : List Value} {Aa : List Value}
    (h : ∀ (l : LL) (p : Program) (e : Env) (R : Room) (s : State) (m : MethodId) (args : Array Value) (below : List Frame) (meth : Method) (c : Code) (H : Heap) (locs : List Loc) (ls : Array Slot), Cx G M p R s m args meth c → d ≤ R.frames → 64 * d ≤ R.locals → Wd G σ H → LV ls M.2.2.1 L → H.size - s.heap.size + (gC G - zX σ) ≤ R.cells → nS H s.heap.size + (gS G - zS σ) ≤ R.slots →
      va_Run p l.1 e R s m args below meth c H locs (H.size - s.heap.size) (nS H s.heap.size) (gC G - zX σ) (gS G - zS σ) (F0 m pc ls g0) rest (mQc G Qc Aa.toArray) (fun q => gB G ≤ q))
    (kk : ∀ v σ', Qc v σ' → HT G M (pc + 3) L (v.toList ++ rest) σ' d Q) : HT G M pc L g0 σ d Q := by
  intro l p e R s m args below meth c H locs ls Z C hf hl hw hL hq hz T hT X
  subst hT
  have a0 := st_size X
  have a1 := st_nS (b := gB G) C.2.2.2.2.2.2.2.2.2.1 X
  have a3 := hw.1
  have a4 := hw.2.2.1
  have a5 := hw.2.2.2.1
  have a6 := hw.2.2.2.2.1
  have c2 := C.2.2.2.2.2.2.2.2.2.2.1
  have c3 := C.2.2.2.2.2.2.2.2.2.2.2
  obtain ⟨v, st₀, t, T', L', h0, X', hL', e1, e2, ⟨v', σ', hv, hQ, hw'⟩, stp⟩ := h l p e R s m args below meth c T.heap locs ls C hf hl hw hL (by omega) (by omega) T rfl X
  cases hv
  rw [← e1] at hw'
  obtain ⟨t2, k1, k2⟩ := kk v σ' hQ l p e R s m args below meth c T'.heap (locs ++ L') ls Z C hf hl hw' hL (fun q h => by
    rcases List.mem_append.mp h with h | h
    · exact hq q h
    · exact hL' q h) hz T' rfl (st_tight X')
  exact ⟨t2, stp t2 k1, k2⟩
theorem ht_callV {b ci n : Nat} (hM : MV M') (h1 : Cond.methodLink M.1.cls idx M'.1 ∈ WS) (h2 : Cond.instanceMethod M'.1 ∈ WS) (h3 : Cond.selects M'.1.cls M'.1 M'.1 ∈ WS) (hp : (parseMethodDescriptor M'.1.desc).map (fun d => d.parameters.length) = some n) (hn : As.length = n)
    (hci : ci < 10) (hcn : (cT ci).1 = M'.1.cls) (hK : zK σ b = ci) (hd : decode M.2.1 pc = .ok (.invokevirtual idx, 3)) (hlen : (lg_sl (.ref b :: As)).length ≤ M'.2.2.1) (hst : st = As.reverse ++ .ref b :: rest) (hr : (rest.map fun v => v.category).sum ≤ 8) (hdd : d' + 1 ≤ d) (hS : Sp G M' d' (.ref b :: As) σ Qc)
    (kk : ∀ v σ', Qc v σ' → HT G M (pc + 3) L (v.toList ++ rest) σ' d Q) : HT G M pc L st σ d Q := by
  subst hst
  refine ht_run (Aa := .ref b :: As) (fun l p e R s m args below meth c H locs ls C hf hl hw hL g1 g2 => ?_) kk
  have hts := C.2.2.2.2.2.2.2.1
  have hok := C.2.2.2.2.2.2.2.2.1
  refine va_runV (As := As) (rest := rest) (C := M'.1.cls) (b := b) ⟨C.1, C.2.1, C.2.2.2.1, C.2.2.2.2.1, hts⟩ (met_of l hM.2.2.1 hlen hS) (cwV n hts (WS_good fun w hw => ?_) rfl rfl rfl ⟨rfl, hM.2.2.2.1.1, hM.2.2.2.1.2, hp⟩ ⟨by show d' + 1 ≤ R.frames; omega, by show 8 + (M'.2.2.1 + 11) + 64 * d' ≤ R.locals; have := hM.2.2.2.2; omega⟩) ⟨mPc_blind G _ σ, ?_, fun U hU hW => ⟨rfl, by rw [hU]; exact hw, hok.warm hW⟩⟩ rfl hn hL.1 rfl (lv_room hr) hd ⟨g1, g2⟩
  · simp only [wsV, List.mem_append, List.mem_cons, List.not_mem_nil, or_false] at hw
    rcases hw with (rfl | rfl | rfl | rfl) | rfl | hw
    · exact h1
    · exact h2
    · exact h3
    · exact hM.2.1
    · exact hM.1
    · exact hw
  · obtain ⟨cell, q1, q2, q3, -⟩ := hw.obj hK hci
    exact ⟨cell, q1, by rw [q3]; rfl, by rw [q2, ← hcn]; exact (hok.1.1 ci _ (cT_some hci)).2.1⟩
theorem ht_callS {n : Nat} (hM : MV M') (h1 : Cond.methodLink M.1.cls idx M'.1 ∈ WS) (h2 : Cond.static M'.1 ∈ WS) (hp : (parseMethodDescriptor M'.1.desc).map (fun d => d.parameters.length) = some n) (hn : As.length = n)
    (hd : decode M.2.1 pc = .ok (.invokestatic idx, 3)) (hlen : (lg_sl As).length ≤ M'.2.2.1) (hst : st = As.reverse ++ rest) (hr : (rest.map fun v => v.category).sum ≤ 8) (hdd : d' + 1 ≤ d) (hS : Sp G M' d' As σ Qc)
    (kk : ∀ v σ', Qc v σ' → HT G M (pc + 3) L (v.toList ++ rest) σ' d Q) : HT G M pc L st σ d Q := by
  subst hst
  refine ht_run (Aa := As) (fun l p e R s m args below meth c H locs ls C hf hl hw hL g1 g2 => ?_) kk
  have hts := C.2.2.2.2.2.2.2.1
  have hok := C.2.2.2.2.2.2.2.2.1
  exact va_runS (As := As) (rest := rest) ⟨C.1, C.2.1, C.2.2.2.1, C.2.2.2.2.1, hts⟩ (met_of l hM.2.2.1 hlen hS) ⟨callB_of n hts (WS_good fun w hw => (List.mem_cons.mp hw).elim (fun e => e ▸ hM.1) id) rfl rfl rfl (hts _ hM.2.1) (hts _ h1) ⟨hM.2.2.2.1.1, hM.2.2.2.1.2, hp⟩ ⟨by show d' + 1 ≤ R.frames; omega, by show 8 + (M'.2.2.1 + 11) + 64 * d' ≤ R.locals; have := hM.2.2.2.2; omega⟩, hts _ h2⟩ ⟨mPc_blind G _ σ, fun U hU hW => ⟨rfl, by rw [hU]; exact hw, hok.warm hW⟩⟩ rfl hn hL.1 rfl (lv_room hr) hd ⟨g1, g2⟩
theorem ht_callI {b n : Nat} (hM : MV M') (hnone : M'.2.2.2 = none) (hin : M'.1.name = "<init>") (h1 : Cond.methodLink M.1.cls idx M'.1 ∈ WS) (h2 : Cond.instanceMethod M'.1 ∈ WS) (hp : (parseMethodDescriptor M'.1.desc).map (fun d => d.parameters.length) = some n) (hn : As.length = n)
    (hd : decode M.2.1 pc = .ok (.invokespecial idx, 3)) (hlen : (lg_sl (.ref b :: As)).length ≤ M'.2.2.1) (hst : st = As.reverse ++ .ref b :: rest) (hr : (rest.map fun v => v.category).sum ≤ 8) (hdd : d' + 1 ≤ d) (hS : Sp G M' d' (.ref b :: As) σ Qc)
    (kk : ∀ v σ', Qc v σ' → HT G M (pc + 3) L (v.toList ++ rest) σ' d Q) : HT G M pc L st σ d Q := by
  subst hst
  refine ht_run (Aa := .ref b :: As) (fun l p e R s m args below meth c H locs ls C hf hl hw hL g1 g2 => ?_) kk
  have hts := C.2.2.2.2.2.2.2.1
  have hok := C.2.2.2.2.2.2.2.2.1
  have hMt := met_of l hM.2.2.1 hlen hS
  have hc := hM.1
  rw [hnone] at hMt hc
  exact va_runI (As := As) (rest := rest) (b := b) ⟨C.1, C.2.1, C.2.2.2.1, C.2.2.2.2.1, hts⟩ hMt ⟨callB_of n hts (WS_good fun w hw => (List.mem_cons.mp hw).elim (fun e => e ▸ hc) id) rfl rfl rfl (hts _ hM.2.1) (hts _ h1) ⟨hM.2.2.2.1.1, hM.2.2.2.1.2, hp⟩ ⟨by show d' + 1 ≤ R.frames; omega, by show 8 + (M'.2.2.1 + 11) + 64 * d' ≤ R.locals; have := hM.2.2.2.2; omega⟩, hin, hts _ h2⟩ ⟨mPc_blind G _ σ, fun U hU hW => ⟨rfl, by rw [hU]; exact hw, hok.warm hW⟩⟩ rfl hn hL.1 rfl (lv_room hr) hd ⟨g1, g2⟩
theorem ht_callIN {b n : Nat} {host : String} (hM : MV M') (hnone : M'.2.2.2 = none) (hin : M'.1.name = "<init>") (h1 : ∀ s, gE G s → va_Nw (.methodLinkNest M.1.cls idx M'.1 host) s) (h2 : Cond.instanceMethod M'.1 ∈ WS) (hp : (parseMethodDescriptor M'.1.desc).map (fun d => d.parameters.length) = some n) (hn : As.length = n)
    (hd : decode M.2.1 pc = .ok (.invokespecial idx, 3)) (hlen : (lg_sl (.ref b :: As)).length ≤ M'.2.2.1) (hst : st = As.reverse ++ .ref b :: rest) (hr : (rest.map fun v => v.category).sum ≤ 8) (hdd : d' + 1 ≤ d) (hS : Sp G M' d' (.ref b :: As) σ Qc)
    (kk : ∀ v σ', Qc v σ' → HT G M (pc + 3) L (v.toList ++ rest) σ' d Q) : HT G M pc L st σ d Q := by
  subst hst
  refine ht_run (Aa := .ref b :: As) (fun l p e R s m args below meth c H locs ls C hf hl hw hL g1 g2 => ?_) kk
  have hts := C.2.2.2.2.2.2.2.1
  have hok := C.2.2.2.2.2.2.2.2.1
  have hMt := met_of l hM.2.2.1 hlen hS
  have hc := hM.1
  rw [hnone] at hMt hc
  exact va_runIN (As := As) (rest := rest) (b := b) ⟨C.1, C.2.1, C.2.2.2.1, C.2.2.2.2.1, hts⟩ hMt ⟨va_cnB n hts (WS_good fun w hw => (List.mem_cons.mp hw).elim (fun e => e ▸ hc) id) rfl rfl rfl (h1 s hok.2.1) (hts _ hM.2.1) ⟨hM.2.2.2.1.1, hM.2.2.2.1.2, hp⟩ ⟨by show d' + 1 ≤ R.frames; omega, by show 8 + (M'.2.2.1 + 11) + 64 * d' ≤ R.locals; have := hM.2.2.2.2; omega⟩, hin, hts _ h2⟩ ⟨mPc_blind G _ σ, fun U hU hW => ⟨rfl, by rw [hU]; exact hw, hok.warm hW⟩⟩ rfl hn hL.1 rfl (lv_room hr) hd ⟨g1, g2⟩
theorem ht_callSN {n : Nat} {host : String} (hM : MV M') (h1 : ∀ s, gE G s → va_Nw (.methodLinkNest M.1.cls idx M'.1 host) s) (h2 : Cond.static M'.1 ∈ WS) (hp : (parseMethodDescriptor M'.1.desc).map (fun d => d.parameters.length) = some n) (hn : As.length = n)
    (hd : decode M.2.1 pc = .ok (.invokestatic idx, 3)) (hlen : (lg_sl As).length ≤ M'.2.2.1) (hst : st = As.reverse ++ rest) (hr : (rest.map fun v => v.category).sum ≤ 8) (hdd : d' + 1 ≤ d) (hS : Sp G M' d' As σ Qc)
    (kk : ∀ v σ', Qc v σ' → HT G M (pc + 3) L (v.toList ++ rest) σ' d Q) : HT G M pc L st σ d Q := by
  subst hst
  refine ht_run (Aa := As) (fun l p e R s m args below meth c H locs ls C hf hl hw hL g1 g2 => ?_) kk
  have hts := C.2.2.2.2.2.2.2.1
  have hok := C.2.2.2.2.2.2.2.2.1
  exact va_runSN (As := As) (rest := rest) ⟨C.1, C.2.1, C.2.2.2.1, C.2.2.2.2.1, hts⟩ (met_of l hM.2.2.1 hlen hS) ⟨va_cnB n hts (WS_good fun w hw => (List.mem_cons.mp hw).elim (fun e => e ▸ hM.1) id) rfl rfl rfl (h1 s hok.2.1) (hts _ hM.2.1) ⟨hM.2.2.2.1.1, hM.2.2.2.1.2, hp⟩ ⟨by show d' + 1 ≤ R.frames; omega, by show 8 + (M'.2.2.1 + 11) + 64 * d' ≤ R.locals; have := hM.2.2.2.2; omega⟩, hts _ h2, trivial⟩ ⟨mPc_blind G _ σ, fun U hU hW => ⟨rfl, by rw [hU]; exact hw, hok.warm hW⟩⟩ rfl hn hL.1 rfl (lv_room hr) hd ⟨g1, g2⟩
theorem ht_objInit {a : Nat} (h1 : Cond.methodLink M.1.cls idx Lib.objectInit ∈ WS) (h2 : Cond.instanceMethod Lib.objectInit ∈ WS) (h3 : Cond.code Lib.objectInit ⟨#[0xb1]⟩ 1 none ∈ WS) (hd : decode M.2.1 pc = .ok (.invokespecial idx, 3)) (hr : (rest.map fun v => v.category).sum ≤ 8) (hdd : 1 ≤ d) (kk : HT G M (pc + 3) L rest σ d Q) : HT G M pc L (.ref a :: rest) σ d Q := by
  intro l p e R s m args below meth c H locs ls Z C hf hl hw hL hq hz
  have hts := C.2.2.2.2.2.2.2.1
  exact W.objInit C.1 C.2.1 C.2.2.2.2.1 (hts _ h1) (hts _ h2) (hts _ h3) rfl (hL.1.trans C.2.2.2.1.symm) rfl hd (by omega) (by have := lv_room (m := m) (pc := pc) (ls := ls) (rest := .ref a :: rest) hr; omega) (kk l p e R s m args below meth c H locs ls Z C hf hl hw hL hq hz)
end CallRules
