/-! ===== methods that return or throw, methods with a table of handlers ===== -/
abbrev nsE : String := "java/util/NoSuchElementException"
abbrev rtE : String := "java/lang/RuntimeException"
abbrev exE : String := "java/lang/Exception"
/-- the bytes of its constructor -/
def rxN : ByteArray := ⟨#[0x2a, 0x2b, 0xb7, 0x00, 0x0d, 0xb1]⟩
theorem rx_0 : decode rxN 0 = .ok (.aload_n 0, 1) := by decide +kernel
theorem rx_1 : decode rxN 1 = .ok (.aload_n 1, 1) := by decide +kernel
theorem rx_2 : decode rxN 2 = .ok (.invokespecial 13, 3) := by decide +kernel
theorem rx_5 : decode rxN 5 = .ok (.return_, 1) := by decide +kernel
/-- its words that are not kept by themselves -/
def xNg : List Cond := [.castable nsE nsE, .declares (Bundle.initS rtE), .declares (Bundle.initS exE), .declares (Bundle.initS Bundle.tN)]
theorem xNg_ot : ∀ w ∈ xNg, w.onTables = true := by decide +kernel
/-- what a throw wants of the start: two statics of Throwable's, three texts, a class that is its own -/
def TX (G : GG) : Prop := ∀ U, gE G U → vx_Zq Bundle.tN "UNASSIGNED_STACK" Bundle.steD (gAb G) U (gH G) ∧ vx_Zq Bundle.tN "SUPPRESSED_SENTINEL" Bundle.listD (gAb G) U (gH G) ∧ (∃ q, vk_R RX9 126 "no such man" q U) ∧ (∃ q, vk_R RX9 140 "nothing such of a man" q U) ∧ (∃ q, vk_R RX9 146 "no such hours" q U) ∧ ∀ w ∈ xNg, va_Nw w U
/-- the heap behind a throw: what was there, and more -/
def XCt (G : GG) (σ : Hp) (P : Prop) : String → State → State → Prop := fun E _ t => P ∧ E = nsE ∧ ∃ H0 : Heap, Wd G σ H0 ∧ H0.size ≤ t.heap.size ∧ ∀ q : Nat, q < H0.size → t.heap[q]? = H0[q]?
/-- the same world with room for one call -/
def gTo (G : GG) (σ : Hp) : GG := (gD G, gA G, gH G, gE G, gB G, zX σ + 22, zS σ + 3201)
section V5a
variable {G : GG} {M : MI} {d d0 : Nat} {As : List Value} {σ : Hp} {Q : Option Value → Hp → Prop} {XC : String → State → State → Prop} {hh : List (Nat × Nat × Nat × Nat)}
theorem gTo_wd {H : Heap} (hw : Wd G σ H) : Wd (gTo G σ) σ H := ⟨hw.1, hw.2.1, Nat.le_add_right _ _, Nat.le_add_right _ _, hw.2.2.2.2⟩
theorem gTo_of {σ' : Hp} {H : Heap} (hw : Wd (gTo G σ) σ' H) (h1 : zX σ + 22 ≤ gC G) (h2 : zS σ + 3201 ≤ gS G) : Wd G σ' H := ⟨hw.1, hw.2.1, Nat.le_trans hw.2.2.1 h1, Nat.le_trans hw.2.2.2.1 h2, hw.2.2.2.2⟩
theorem nS_end (H : Heap) {n : Nat} (h : H.size ≤ n) : nS H n = 0 := by
  unfold nS
  rw [List.drop_eq_nil_of_le (by rw [Array.length_toList]; exact h)]
  rfl
/-- a heap that holds an older one and more -/
theorem wd_gro {H0 H : Heap} (hw : Wd G σ H0) (hz : H0.size ≤ H.size) (hs : ∀ q : Nat, q < H0.size → H[q]? = H0[q]?) (h1 : H.size ≤ gC G) (h2 : nS H (gB G) ≤ gS G) : Wd G (gro σ (H.size - zX σ) (nS H (gB G) - zS σ)) H := by
  obtain ⟨w1, w2, w3, w4, w5, w6, w7, w8⟩ := hw
  have hsp := nS_split (H0 := H0) (H1 := H) (b := gB G) (by omega) hz fun a c hc => ⟨c, by rw [hs a (Array.getElem?_eq_some_iff.mp hc).1]; exact hc, rfl⟩
  refine ⟨?_, ?_, ?_, ?_, ?_, fun q hq => ?_, fun a ha => ?_, fun a => ?_⟩
  · show H.size = zX σ + (H.size - zX σ)
    omega
  · show gB G ≤ zX σ + (H.size - zX σ)
    omega
  · show zX σ + (H.size - zX σ) ≤ gC G
    omega
  · show zS σ + (nS H (gB G) - zS σ) ≤ gS G
    omega
  · show nS H (gB G) = zS σ + (nS H (gB G) - zS σ)
    omega
  · rw [hs q (by omega)]
    exact w6 q hq
  · have h9 := w7 a ha
    exact ⟨h9.1, Nat.lt_of_lt_of_le h9.2 (Nat.le_add_right _ _)⟩
  · by_cases hk : zK σ a < 26
    · have h9 := w7 a hk
      exact at_congr (σ := σ) rfl rfl (fun _ _ => rfl) (hs a (by omega)) (w8 a)
    · unfold at_
      rw [if_neg (show ¬ zK (gro σ (H.size - zX σ) (nS H (gB G) - zS σ)) a < 10 from fun c => hk (Nat.lt_trans c (by decide))), if_neg (show ¬ (20 ≤ zK (gro σ (H.size - zX σ) (nS H (gB G) - zS σ)) a ∧ zK (gro σ (H.size - zX σ) (nS H (gB G) - zS σ)) a < 26) from fun c => hk c.2)]
      trivial
set_option maxHeartbeats 4000000 in
/-- it answers -/
theorem metX_ok (l : LL) (hp : plainName M.1.cls = true) (hlen : (lg_sl As).length ≤ M.2.2.1) (hd0 : d0 ≤ d) (hS : Sp G M d0 As σ Q) :
    vx_Met l.1 M.1 (Cond.code M.1 M.2.1 M.2.2.1 M.2.2.2 :: WS) (mRm G σ d) (mPc G As σ) (mQc G Q) XC (gC G - zX σ) (gS G - zS σ) (fun q => gB G ≤ q) := by
  refine vx_ofW (cc := M.2.1) (maxL := M.2.2.1) (ret := M.2.2.2) hp rfl ?_
  intro p e s m args below meth c s₁ B hml _ hv
  refine vx_ret ?_
  obtain ⟨rfl, hw, hok⟩ := hv
  have hts := atoms_spec (ws := Cond.code M.1 M.2.1 M.2.2.1 M.2.2.2 :: WS) B.pre
  have w1 := hw.1
  have w2 := hw.2.1
  have w3 := hw.2.2.1
  have w4 := hw.2.2.2.1
  have w5 := hw.2.2.2.2.1
  have hlk : meth.locks = false := B.notSynchronized
  have C : Cx G M p (headSpec (Cond.code M.1 M.2.1 M.2.2.1 M.2.2.2 :: WS) (mRm G σ d)).room s m As.toArray meth c :=
    ⟨B.exec, B.bytes, B.returns, hml, findClass_of_methodNamed B.named, hlk, (name_of_methodNamed B.named B.method).1, fun w h => hts w (List.mem_cons_of_mem _ h), hok, by rw [w1]; exact w2, by show gC G ≤ s.heap.size + (gC G - zX σ); omega, by show gS G ≤ nS s.heap (gB G) + (gS G - zS σ); omega⟩
  rw [lg_entry_eq]
  refine w_tight (hS l p e _ s m As.toArray below meth c s.heap [] _ _ C (show d0 ≤ d from hd0) (show 64 * d0 ≤ 64 * d from Nat.mul_le_mul_left 64 hd0) hw (lv_ent As hlen) (fun q h => by cases h) ?_)
  intro v σ' H' locs' pc' ls' hQ hw' hlo hret T hT X
  subst hT
  have a1 := st_nS (b := gB G) C.2.2.2.2.2.2.2.2.2.1 X
  have a3 := hw'.1
  have a4 := hw'.2.2.1
  have a5 := hw'.2.2.2.1
  have a6 := hw'.2.2.2.2.1
  have b1 : T.heap.size - s.heap.size ≤ gC G - zX σ := by omega
  have b2 : nS T.heap s.heap.size ≤ gS G - zS σ := by omega
  refine W.widen b1 b2 ?_ T rfl X
  have hq : ∀ t : State, t.heap = T.heap → s.WarmedH t.vm → mQc G Q As.toArray s (.returned v) t := fun t ht _ => ⟨v, σ', rfl, hQ, by rw [ht]; exact hw'⟩
  match v, hret, hq with
  | none, hret, hq => exact W.vret C.1 C.2.1 (C.2.2.1.trans hret.2) hq hlo hret.1 hlk
  | some (.int x), hret, hq =>
    obtain ⟨r1, ty, r2, r3⟩ := hret
    exact W.zret C.1 C.2.1 (C.2.2.1.trans r2) r3 hq hlo r1 hlk
  | some (.long x), hret, hq => exact W.lret C.1 C.2.1 (C.2.2.1.trans hret.2) hq hlo hret.1 hlk
  | some .null, hret, hq =>
    obtain ⟨r1, ty, r2, r3⟩ := hret
    exact W.aret C.1 C.2.1 (C.2.2.1.trans r2) r3 (Or.inl rfl) hq hlo r1 hlk
  | some (.ref x), hret, hq =>
    obtain ⟨r1, ty, r2, r3⟩ := hret
    exact W.aret C.1 C.2.1 (C.2.2.1.trans r2) r3 (Or.inr ⟨x, rfl⟩) hq hlo r1 hlk
theorem ck_124 : Cond.classLink RX9 124 nsE ∈ WS := (ws_t4 (List.mem_of_getElem? (i := 194) rfl) rfl)
theorem ck_nsE : Cond.initialized nsE ∈ WS := (ws_t1 (List.mem_of_getElem? (i := 23) rfl) rfl)
theorem at_nsE : ∀ w ∈ (xAt9 RX9 128 nsE rtE 13 rxN [exE]).filter goodWord, w ∈ lw_tbl := by decide +kernel
theorem an_nsE : ∀ w ∈ (xAt9 RX9 128 nsE rtE 13 rxN [exE]).filter (fun w => !goodWord w), w ∈ xNg := by decide +kernel
theorem ao_nsE : ∀ w ∈ Cond.classLink RX9 124 nsE :: Cond.initialized nsE :: xAt9 RX9 128 nsE rtE 13 rxN [exE], vx_ot w = true := by decide +kernel
set_option maxHeartbeats 4000000 in
/-- it throws -/
theorem metX_th {tp is : Nat} {tx : String} {P : Prop} (l : LL) (hp : plainName M.1.cls = true) (hlen : (lg_sl As).length ≤ M.2.2.1) (hd0 : 1 ≤ d) (hd8 : 8 ≤ d) (hS : HTT G M 0 (entL As M.2.2.1) [] σ 1 (tp, σ)) (hTX : TX G) (hstr : ∀ U, gE G U → ∃ q, vk_R RX9 is tx q U) (hP : P) (hcl : M.1.cls = RX9)
    (e0 : decode M.2.1 tp = .ok (.new 124, 3)) (e3 : decode M.2.1 (tp + 3) = .ok (.dup, 1)) (e4 : decode M.2.1 (tp + 4) = .ok (.ldc is, 2)) (e6 : decode M.2.1 (tp + 6) = .ok (.invokespecial 128, 3)) (e9 : decode M.2.1 (tp + 9) = .ok (.athrow, 1)) (hC : zX σ + 1 ≤ gC G) (hSl : zS σ + 6 ≤ gS G) :
    vx_Met l.1 M.1 (Cond.code M.1 M.2.1 M.2.2.1 M.2.2.2 :: WS) (mRm G σ d) (mPc G As σ) (mQc G Q) (XCt G σ P) (gC G - zX σ) (gS G - zS σ) (fun q => gB G ≤ q) := by
  refine vx_ofW (cc := M.2.1) (maxL := M.2.2.1) (ret := M.2.2.2) hp rfl ?_
  intro p e s m args below meth c s₁ B hml hex hv
  obtain ⟨rfl, hw, hok⟩ := hv
  have hts := atoms_spec (ws := Cond.code M.1 M.2.1 M.2.2.1 M.2.2.2 :: WS) B.pre
  have w1 := hw.1
  have w2 := hw.2.1
  have w3 := hw.2.2.1
  have w4 := hw.2.2.2.1
  have w5 := hw.2.2.2.2.1
  have hlk : meth.locks = false := B.notSynchronized
  have C : Cx G M p (headSpec (Cond.code M.1 M.2.1 M.2.2.1 M.2.2.2 :: WS) (mRm G σ d)).room s m As.toArray meth c :=
    ⟨B.exec, B.bytes, B.returns, hml, findClass_of_methodNamed B.named, hlk, (name_of_methodNamed B.named B.method).1, fun w h => hts w (List.mem_cons_of_mem _ h), hok, by rw [w1]; exact w2, by show gC G ≤ s.heap.size + (gC G - zX σ); omega, by show gS G ≤ nS s.heap (gB G) + (gS G - zS σ); omega⟩
  rw [lg_entry_eq]
  refine w_tight (hS l p e _ s m As.toArray below meth c s.heap [] _ _ C (show 1 ≤ d from hd0) (show 64 * 1 ≤ 64 * d from Nat.mul_le_mul_left 64 hd0) hw (lv_ent As hlen) (fun q h => by cases h) ?_)
  intro H' locs' ls' hw' hlo hsz
  have hzz : H'.size = s.heap.size := hw'.1.trans hw.1.symm
  have hts2 := C.2.2.2.2.2.2.2.1
  obtain ⟨x1, x2, -, -, -, x6⟩ := hTX s hok.2.1
  obtain ⟨sa, hsa⟩ := hstr s hok.2.1
  have hold : ∀ a : Nat, a < (gH G).size → ¬ gAb G a → s.heap[a]? = (gH G)[a]? := fun a _ h => hw.old h
  have ew : H'.size - s.heap.size = 0 := by rw [hzz]; exact Nat.sub_self _
  have es : nS H' s.heap.size = 0 := nS_end H' (by rw [hzz]; exact Nat.le_refl _)
  refine xc_throwS (own := RX9) (cls := nsE) (sup := rtE) (text := tx) (names := [exE]) (ix := 13) (rx := rxN) (ik := 124) (is := is) (ic := 128) (sa := sa) (A := gAb G) C.1 C.2.1 l.2 rx_0 rx_1 rx_2 rx_5 (by rw [← hcl]; exact C.2.2.2.2.1) (by decide +kernel) (by decide +kernel) (by decide +kernel) (hts2 _ ck_124) (hts2 _ ck_nsE) hsa
    (vx_hat (fun w h => hts2 w (List.mem_filter.mpr ⟨at_nsE w h, (List.mem_filter.mp h).2⟩)) an_nsE (fun w hw => va_Nw.use (xNg_ot w hw) (x6 w hw))) ao_nsE (vx_Zq.kept x1 hold) (vx_Zq.kept x2 hold) ⟨by omega, fun q hq hA => by rw [hw'.old hA, hw.old hA], hlo⟩ (by rw [hsz]; exact C.2.2.2.1.symm)
    e0 e3 e4 e6 e9 (fun x h => (hex x h).elim) ?_ ?_ ?_ ?_ C.2.2.2.2.2.1 ?_ hlo ?_ ?_
  · show 1 + 4 < d
    omega
  · show 0 + (13 * (1 + 2) + 43) ≤ 64 * d
    omega
  · show H'.size - s.heap.size + 1 ≤ gC G - zX σ
    omega
  · show nS H' s.heap.size + 6 ≤ gS G - zS σ
    omega
  · intro t _ h1 h2
    exact ⟨hP, rfl, H', hw', h1, h2⟩
  · show H'.size - s.heap.size + 1 ≤ gC G - zX σ
    omega
  · show nS H' s.heap.size + 6 ≤ gS G - zS σ
    omega
/-- a method with a table, by its body -/
theorem met_ofWH {l : Launch} {y : MethodName} {ws ws' : List Cond} {rm : Room} {Pc : Array Value → State → Prop} {Qc : Array Value → State → Outcome → State → Prop} {mc ms : Nat} {free : Addr → Prop} {cc : ByteArray} {maxL : Nat} {ret : Option FieldType}
    (hy : plainName y.cls = true) (hw : ws = Cond.codeWith y cc maxL ret hh :: ws')
    (body : ∀ p e s m args below meth c s₁, BodyLoose p l y (headSpec ws rm) cc maxL ret e s m args below meth c s₁ → c.maxLocals = maxL → Pc args s →
      W p l e (headSpec ws rm).room s m args below meth c s.heap [] 0 0 (MQ below Qc args s mc ms free) (entryFrame m args maxL)) : Met l y ws rm Pc Qc mc ms free := by
  refine MetFree.of_bodyS (code := cc) (maxLocals := maxL) (ret := ret) hy ?_ ?_
  · intro args s m h hn
    obtain ⟨m9, meth, c, hn9, h1, h2, h3, h4, -, h5, h6, -⟩ := Cond.codeWith_spec (atoms_spec (ws := ws) h _ (by rw [hw]; exact List.mem_cons_self))
    cases hn.symm.trans hn9
    exact ⟨meth, c, h1, h2, h3, h4, h5, h6⟩
  · intro p e s m args below meth c s₁ B hml hP _
    have hh0 : s₁.heap = s.heap := by rw [B.state]; rfl
    obtain ⟨t, a1, o, b1, b2, b3⟩ := body p e s m args below meth c s₁ B hml hP s₁ hh0 (Stand.of_body B)
    exact ⟨t, o, a1, b1, b2, ⟨b3.1, b3.2⟩⟩
/-- the triple of a method with the table hh -/
def HTH (G : GG) (M : MI) (hh : List (Nat × Nat × Nat × Nat)) (pc : Nat) (L : List (Option Value)) (st : List Value) (σ : Hp) (d : Nat) (Q : Option Value → Hp → Prop) : Prop :=
  ∀ (l : LL) (p : Program) (e : Env) (R : Room) (s : State) (m : MethodId) (args : Array Value) (below : List Frame) (meth : Method) (c : Code) (H : Heap) (locs : List Loc) (ls : Array Slot) (Z : State → Prop), c.exceptionTable.toList = tableOf hh →
    Cx G M p R s m args meth c → d ≤ R.frames → 64 * d ≤ R.locals → Wd G σ H → LV ls M.2.2.1 L → (∀ q ∈ locs, gB G ≤ q.base) →
    (∀ (v : Option Value) (σ' : Hp) (H' : Heap) (locs' : List Loc) (pc' : Nat) (ls' : Array Slot), Q v σ' → Wd G σ' H' → (∀ q ∈ locs', gB G ≤ q.base) → RetAt M pc' v → WX p l.1 e R s m args below meth c H' locs' Z (F0 m pc' ls' v.toList)) →
    WX p l.1 e R s m args below meth c H locs Z (F0 m pc ls st)
set_option maxHeartbeats 4000000 in
theorem met_ofH (l : LL) (hp : plainName M.1.cls = true) (hlen : (lg_sl As).length ≤ M.2.2.1) (hS : HTH G M hh 0 (entL As M.2.2.1) [] σ d Q) :
    Met l.1 M.1 (Cond.codeWith M.1 M.2.1 M.2.2.1 M.2.2.2 hh :: WS) (mRm G σ d) (mPc G As σ) (mQc G Q) (gC G - zX σ) (gS G - zS σ) (fun q => gB G ≤ q) := by
  refine met_ofWH (cc := M.2.1) (maxL := M.2.2.1) (ret := M.2.2.2) hp rfl ?_
  intro p e s m args below meth c s₁ B hml hv
  obtain ⟨rfl, hw, hok⟩ := hv
  have hts := atoms_spec (ws := Cond.codeWith M.1 M.2.1 M.2.2.1 M.2.2.2 hh :: WS) B.pre
  have w1 := hw.1
  have w2 := hw.2.1
  have w3 := hw.2.2.1
  have w4 := hw.2.2.2.1
  have w5 := hw.2.2.2.2.1
  have hlk : meth.locks = false := B.notSynchronized
  have C : Cx G M p (headSpec (Cond.codeWith M.1 M.2.1 M.2.2.1 M.2.2.2 hh :: WS) (mRm G σ d)).room s m As.toArray meth c :=
    ⟨B.exec, B.bytes, B.returns, hml, findClass_of_methodNamed B.named, hlk, (name_of_methodNamed B.named B.method).1, fun w h => hts w (List.mem_cons_of_mem _ h), hok, by rw [w1]; exact w2, by show gC G ≤ s.heap.size + (gC G - zX σ); omega, by show gS G ≤ nS s.heap (gB G) + (gS G - zS σ); omega⟩
  rw [lg_entry_eq]
  refine w_tight (hS l p e _ s m As.toArray below meth c s.heap [] _ _ (vx_table (x := M.1) B (hts _ List.mem_cons_self)) C (Nat.le_refl _) (Nat.le_refl _) hw (lv_ent As hlen) (fun q h => by cases h) ?_)
  intro v σ' H' locs' pc' ls' hQ hw' hlo hret T hT X
  subst hT
  have a1 := st_nS (b := gB G) C.2.2.2.2.2.2.2.2.2.1 X
  have a3 := hw'.1
  have a4 := hw'.2.2.1
  have a5 := hw'.2.2.2.1
  have a6 := hw'.2.2.2.2.1
  have b1 : T.heap.size - s.heap.size ≤ gC G - zX σ := by omega
  have b2 : nS T.heap s.heap.size ≤ gS G - zS σ := by omega
  refine W.widen b1 b2 ?_ T rfl X
  have hq : ∀ t : State, t.heap = T.heap → s.WarmedH t.vm → mQc G Q As.toArray s (.returned v) t := fun t ht _ => ⟨v, σ', rfl, hQ, by rw [ht]; exact hw'⟩
  match v, hret, hq with
  | none, hret, hq => exact W.vret C.1 C.2.1 (C.2.2.1.trans hret.2) hq hlo hret.1 hlk
  | some (.int x), hret, hq =>
    obtain ⟨r1, ty, r2, r3⟩ := hret
    exact W.zret C.1 C.2.1 (C.2.2.1.trans r2) r3 hq hlo r1 hlk
  | some (.long x), hret, hq => exact W.lret C.1 C.2.1 (C.2.2.1.trans hret.2) hq hlo hret.1 hlk
  | some .null, hret, hq =>
    obtain ⟨r1, ty, r2, r3⟩ := hret
    exact W.aret C.1 C.2.1 (C.2.2.1.trans r2) r3 (Or.inl rfl) hq hlo r1 hlk
  | some (.ref x), hret, hq =>
    obtain ⟨r1, ty, r2, r3⟩ := hret
    exact W.aret C.1 C.2.1 (C.2.2.1.trans r2) r3 (Or.inr ⟨x, rfl⟩) hq hlo r1 hlk
end V5a
section V5c
variable {p : Program} {l : Launch} {e : Env} {R : Room} {s : State} {m : MethodId} {args : Array Value} {below : List Frame} {meth : Method} {c : Code} {H : Heap} {locs : List Loc} {cells slots : Nat} {Q : State → Prop} {pc : Nat} {ls : Array Slot} {rest : List Value}
/-- a table of one row whose class the thrown object is of: the search finds it, and notes the class -/
theorem xc_find {u : State} {f : JFrame} {a : Addr} {x : ExceptionTableEntry} {c0 : ClassId} {cell : Cell} (hm : u.vm.method? f.method = some meth) (hc : meth.code = some c) (ht : c.exceptionTable.toList = [x]) (hx : covers x f.pc = true) (h0 : x.catchType ≠ 0) (hl : u.vm.ClassLinks e.platform f.method.cls x.catchType c0)
    (hcell : u.heap[a]? = some cell) (hv : cell.vm = .none) (hk : ∃ k, u.vm.classes[cell.cls]? = some k) (hk0 : ∃ k, u.vm.classes[c0]? = some k) (hfit : u.vm.assignable cell.cls c0 = true) (Qh : Handler → Pre) (E : CtlPost) (d : Bool) (acts : List Action) :
    wp (findHandler f a) Qh E e d acts u ↔ Qh (.found x.handlerPc) d acts (u.setVm (u.vm.noted f.method.cls x.catchType (.cls c0))) := by
  have hal := (Vm.Alike.refl u.vm).noted f.method.cls x.catchType (.cls c0)
  obtain ⟨g1, g2⟩ := (resolveClass_links e.toSetting hl).op (op := VmOp.resolveClass f.method.cls x.catchType) rfl
  obtain ⟨k1, hk1⟩ := hk
  obtain ⟨k2, hk2⟩ := hk0
  obtain ⟨j1, hj1, -⟩ := hal.2.2 _ _ hk1
  obtain ⟨j2, hj2, -⟩ := hal.2.2 _ _ hk2
  have hf2 : (u.vm.noted f.method.cls x.catchType (.cls c0)).assignable cell.cls c0 = true := (hal.assignable _ _).trans hfit
  have hno : ∀ k, cell.vm ≠ .statics k := fun k h => by rw [hv] at h; cases h
  rw [_root_.Jvm.W.findHandler_eq hm hc, ht]
  have hx2 := hx
  simp only [covers] at hx2
  simp [findHandler.go, hx2, h0, g1, g2, hcell, hno, hj1, hj2, hf2, VmOp.dirties, VmOp.acts]
/-- a throw that the one row of the table takes -/
theorem xc_catch {own name : String} {E : String} {ce : Cell} {q : Addr} (hown : s.vm.findClass own = some m.cls) (x : ExceptionTableEntry) (ht : c.exceptionTable.toList = [x]) (hx : covers x pc = true) (h0 : x.catchType ≠ 0)
    (hlink : (Cond.classLink own x.catchType name).before args s = true) (hcast : (Cond.castable E name).before args s = true) (hcell : H[q]? = some ce) (hv : ce.vm = .none) (hcl : s.vm.findClass E = some ce.cls)
    (kk : W p l e R s m args below meth c H locs cells slots Q (F0 m x.handlerPc ls [.ref q])) : vx_W p l e R s m args below meth c H locs cells slots Q (F0 m pc ls rest) q := by
  intro T hT X
  obtain ⟨c3, c4, hc3, hc4, hasg⟩ := Cond.castable_spec hcast
  cases Option.some.inj (hc3.symm.trans hcl)
  obtain ⟨c5, hc5, hl5⟩ := Cond.classLink_spec hown hlink e.platform (by rw [X.admits.platform])
  cases Option.some.inj (hc4.symm.trans hc5)
  obtain ⟨k9, h9, -⟩ := Vm.findClass_spec hcl
  obtain ⟨dk, _, _, kt, hd, _, _, _, _, hkt, _, hopen⟩ := hl5.here
  have hW := X.warmed.noted hd hopen (State.rightAt_cls hl5)
  obtain ⟨j9, hj9, -⟩ := X.warmed.alike.2.2 _ _ h9
  obtain ⟨jt, hjt, -⟩ := X.warmed.alike.2.2 _ _ hkt
  obtain ⟨t, a1, b1⟩ := kk (T.setVm (T.vm.noted m.cls x.catchType (.cls c4))) hT (X.noted hW)
  refine ⟨t, ?_, b1⟩
  obtain ⟨hgo, hin⟩ := At.throwing (g := F0 m pc ls rest) X.here q
  refine Steps.head hgo hin ?_
  have hfd : ∀ (Qh : Handler → Pre) (E9 : CtlPost) (d : Bool) (acts : List Action), wp (findHandler (F0 m pc ls rest) q) Qh E9 e d acts ((T.setTop (F0 m pc ls rest)).pushFrame (.throwing q)) ↔ Qh (.found x.handlerPc) d acts (((T.setTop (F0 m pc ls rest)).pushFrame (.throwing q)).setVm (T.vm.noted m.cls x.catchType (.cls c4))) :=
    fun Qh E9 d acts => xc_find (u := (T.setTop (F0 m pc ls rest)).pushFrame (.throwing q)) (f := F0 m pc ls rest) X.method' X.code ht hx h0 (X.warmed.classLinks hl5) (show T.heap[q]? = some ce by rw [hT]; exact hcell) hv ⟨j9, hj9⟩ ⟨jt, hjt⟩ ((X.warmed.alike.assignable _ _).trans hasg) Qh E9 d acts
  obtain ⟨g0, hg⟩ := Option.isSome_iff_exists.mp X.here.top
  obtain ⟨r, hr⟩ := State.topJava?_eq_some.mp hg
  have hst : (stepThrowing e ((T.setTop (F0 m pc ls rest)).pushFrame (.throwing q)) q (.java (F0 m pc ls rest) :: r)).Is ((((T.setTop (F0 m pc ls rest)).pushFrame (.throwing q)).setVm (T.vm.noted m.cls x.catchType (.cls c4))).setFrames (.java (F0 m x.handlerPc ls [.ref q]) :: r)) [] := by
    simp only [stepThrowing, searchFrame, vmDo]
    generalize h9 : Sem.go _ e false [] _ = res
    obtain ⟨as, rfl, ha⟩ := Sem.eq_ok_of h9 (a := Handler.found x.handlerPc) (s' := ((T.setTop (F0 m pc ls rest)).pushFrame (.throwing q)).setVm (T.vm.noted m.cls x.catchType (.cls c4))) (acts' := []) (by simp [hfd _ _ _ _])
    exact ⟨rfl, ha⟩
  rw [stepThread_throwing (frames_entered X.here.top _), hr, List.tail_cons, hst.1]
  rw [State.setTop_of_frames _ (show (T.setVm (T.vm.noted m.cls x.catchType (.cls c4))).frames = .java g0 :: r from hr)] at a1
  have hsw : ∀ (u : State) (v : Vm) (F1 F2 : List Frame), ((u.setFrames F1).setVm v).setFrames F2 = (u.setVm v).setFrames F2 := fun u v F1 F2 => State.setFrames_setFrames (u.setVm v) F1 F2
  rw [State.pushFrame, hsw, State.setTop_of_frames _ hr, hsw]
  exact a1
end V5c
section V5b
variable {G : GG} {M M' : MI} {pc : Nat} {L : List (Option Value)} {st : List Value} {σ : Hp} {d d' : Nat} {Q Qc : Option Value → Hp → Prop} {As rest : List Value} {idx : Nat} {hh : List (Nat × Nat × Nat × Nat)}
theorem th_of {pc' : Nat} {st' : List Value} (h : ∀ (p : Program) (l : Launch) (e : Env) (R : Room) (s : State) (m : MethodId) (args : Array Value) (below : List Frame) (meth : Method) (c : Code) (H : Heap) (locs : List Loc) (cells slots : Nat) (Z : State → Prop) (ls : Array Slot), p.tables.exec = Jvm.exec → c.code = M.2.1 → LV ls M.2.2.1 L → W p l e R s m args below meth c H locs cells slots Z (F0 m pc' ls st') → W p l e R s m args below meth c H locs cells slots Z (F0 m pc ls st))
    (k : HTH G M hh pc' L st' σ d Q) : HTH G M hh pc L st σ d Q :=
  fun l p e R s m args below meth c H locs ls Z hx C hf hl hw hL hq hz => h p l.1 e R s m args below meth c H locs _ _ Z ls C.1 C.2.1 hL (k l p e R s m args below meth c H locs ls Z hx C hf hl hw hL hq hz)
theorem th_iconst {n : Int} {v : Int32} (hd : decode M.2.1 pc = .ok (.iconst n, 1)) (hv : Int32.ofInt n = v) (k : HTH G M hh (pc + 1) L (.int v :: st) σ d Q) : HTH G M hh pc L (st) σ d Q := th_of (fun _ _ _ _ _ _ _ _ _ _ _ _ _ _ _ ls hx hb hL w => lv_iconst hx hb hd hv w) k
theorem th_iload_n {k : Fin 4} {i : Nat} {x : Int32} (hd : decode M.2.1 pc = .ok (.iload_n k, 1)) (hi : (k : Nat) = i) (hv : L[i]? = some (some (.int x))) (k : HTH G M hh (pc + 1) L (.int x :: st) σ d Q) : HTH G M hh pc L (st) σ d Q := th_of (fun _ _ _ _ _ _ _ _ _ _ _ _ _ _ _ ls hx hb hL w => lv_iload_n hx hb hd hi (hL.at hv) w) k
theorem th_aload_n {k : Fin 4} {i : Nat} {x : Nat} (hd : decode M.2.1 pc = .ok (.aload_n k, 1)) (hi : (k : Nat) = i) (hv : L[i]? = some (some (.ref x))) (k : HTH G M hh (pc + 1) L (.ref x :: st) σ d Q) : HTH G M hh pc L (st) σ d Q := th_of (fun _ _ _ _ _ _ _ _ _ _ _ _ _ _ _ ls hx hb hL w => lv_aload_n hx hb hd hi (hL.at hv) w) k
set_option maxHeartbeats 4000000 in
/-- a call that returns or throws, in a body whose one handler takes what is thrown -/
theorem th_callVX {b ci n : Nat} {P : Prop} {h0 h9 hpc ct : Nat} (hM : MV M') (h1 : Cond.methodLink M.1.cls idx M'.1 ∈ WS) (h2 : Cond.instanceMethod M'.1 ∈ WS) (h3 : Cond.selects M'.1.cls M'.1 M'.1 ∈ WS) (hp : (parseMethodDescriptor M'.1.desc).map (fun d => d.parameters.length) = some n) (hn : As.length = n)
    (hci : ci < 10) (hcn : (cT ci).1 = M'.1.cls) (hK : zK σ b = ci) (hd : decode M.2.1 pc = .ok (.invokevirtual idx, 3)) (hst : st = As.reverse ++ .ref b :: rest) (hr : (rest.map fun v => v.category).sum ≤ 8) (hdd : d' + 1 ≤ d)
    (hMt : ∀ l : LL, vx_Met l.1 M'.1 (Cond.code M'.1 M'.2.1 M'.2.2.1 M'.2.2.2 :: WS) (mRm (gTo G σ) σ d') (mPc (gTo G σ) (.ref b :: As) σ) (mQc (gTo G σ) Qc) (XCt (gTo G σ) σ P) (gC (gTo G σ) - zX σ) (gS (gTo G σ) - zS σ) (fun q => gB (gTo G σ) ≤ q))
    (hgc : zX σ + 22 ≤ gC G) (hgs : zS σ + 3201 ≤ gS G) (hhh : hh = [(h0, h9, hpc, ct)]) (hcov : covers ⟨h0, h9, hpc, ct⟩ pc = true) (hct : ct ≠ 0) (hlk : Cond.classLink M.1.cls ct nsE ∈ WS) (hTX : TX G)
    (kk : ∀ v σ', Qc v σ' → HT G M (pc + 3) L (v.toList ++ rest) σ' d Q) (kx : ∀ q c g, P → c ≤ 22 → g ≤ 3201 → HT G M hpc L [.ref q] (gro σ c g) d Q) : HTH G M hh pc L st σ d Q := by
  subst hst
  intro l p e R s m args below meth c H locs ls Z hx C hf hl hw hL hq hz T hT X
  subst hT
  have a0 := st_size X
  have a1 := st_nS (b := gB G) C.2.2.2.2.2.2.2.2.2.1 X
  have a3 := hw.1
  have a4 := hw.2.2.1
  have a5 := hw.2.2.2.1
  have a6 := hw.2.2.2.2.1
  have c2 := C.2.2.2.2.2.2.2.2.2.2.1
  have c3 := C.2.2.2.2.2.2.2.2.2.2.2
  have hts := C.2.2.2.2.2.2.2.1
  have hok := C.2.2.2.2.2.2.2.2.1
  have m1 : gC (gTo G σ) - zX σ = 22 := Nat.add_sub_cancel_left _ _
  have m2 : gS (gTo G σ) - zS σ = 3201 := Nat.add_sub_cancel_left _ _
  have hobj : ∃ cellB : Cell, T.heap[b]? = some cellB ∧ cellB.vm.isStatics = false ∧ s.vm.findClass M'.1.cls = some cellB.cls := by
    obtain ⟨cell, q1, q2, q3, -⟩ := hw.obj hK hci
    exact ⟨cell, q1, by rw [q3]; rfl, by rw [q2, ← hcn]; exact (hok.1.1 ci _ (cT_some hci)).2.1⟩
  have hgood : GoodIn WS (wsV M.1.cls idx M'.1.cls M'.1 (Cond.code M'.1 M'.2.1 M'.2.2.1 M'.2.2.2 :: WS)) := WS_good fun w hw => by
    simp only [wsV, List.mem_append, List.mem_cons, List.not_mem_nil, or_false] at hw
    rcases hw with (rfl | rfl | rfl | rfl) | rfl | hw
    · exact h1
    · exact h2
    · exact h3
    · exact hM.2.1
    · exact hM.1
    · exact hw
  rcases vx_runV (As := As) (rest := rest) (C := M'.1.cls) (b := b) (g := F0 m pc ls (As.reverse ++ .ref b :: rest)) ⟨C.1, C.2.1, C.2.2.2.1, C.2.2.2.2.1, hts⟩ (hMt l) (cwV n hts hgood rfl rfl rfl ⟨rfl, hM.2.2.2.1.1, hM.2.2.2.1.2, hp⟩ ⟨by show d' + 1 ≤ R.frames; omega, by show 8 + (M'.2.2.1 + 11) + 64 * d' ≤ R.locals; have := hM.2.2.2.2; omega⟩) ⟨mPc_blind _ _ σ, hobj, fun U hU hW => ⟨rfl, by rw [hU]; exact gTo_wd hw, hok.warm hW⟩⟩ rfl hn hL.1 rfl (lv_room hr) hd ⟨by omega, by omega⟩ T rfl X with ⟨v, st₀, t, T', L', h00, X', hL', e1, e2, ⟨v', σ', hv, hQ, hw'⟩, stp⟩ | ⟨q, st₀, t, T', L', E, ce, h00, X', hL', e1, e2, ⟨hP, rfl, H0, hw0, hz0, hsm⟩, hce, hcv, hcl, stp⟩
  · cases hv
    rw [← e1] at hw'
    obtain ⟨t2, k1, k2⟩ := kk v σ' hQ l p e R s m args below meth c T'.heap (locs ++ L') ls Z C hf hl (gTo_of hw' hgc hgs) hL (fun q h => by
      rcases List.mem_append.mp h with h | h
      · exact hq q h
      · exact hL' q h) hz T' rfl (st_tight X')
    exact ⟨t2, stp t2 k1, k2⟩
  · rw [← e1] at hz0 hsm hce
    have b1 := st_nS (b := gB G) C.2.2.2.2.2.2.2.2.2.1 X'
    have b2 : T'.heap.size ≤ s.heap.size + (T.heap.size - s.heap.size + (gC (gTo G σ) - zX σ)) := X'.same.2.2.1
    have b3 : nS T'.heap s.heap.size ≤ nS T.heap s.heap.size + (gS (gTo G σ) - zS σ) := X'.same.2.2.2.2.1
    have b4 := hw0.1
    have hw2 := wd_gro (gTo_of hw0 hgc hgs) hz0 hsm (by omega) (by omega)
    have kx' := kx q (T'.heap.size - zX σ) (nS T'.heap (gB G) - zS σ) hP (by omega) (by omega) l p e R s m args below meth c T'.heap (locs ++ L') ls Z C hf hl hw2 hL (fun q h => by
      rcases List.mem_append.mp h with h | h
      · exact hq q h
      · exact hL' q h) hz
    obtain ⟨t2, k1, k2⟩ := xc_catch (rest := rest) (pc := pc) (own := M.1.cls) (name := nsE) (E := nsE) (ls := ls) (q := q) C.2.2.2.2.1 ⟨h0, h9, hpc, ct⟩ (by rw [hx, hhh]; rfl) hcov hct (hts _ hlk) (va_Nw.use rfl ((hTX s hok.2.1).2.2.2.2.2 _ List.mem_cons_self)) hce hcv hcl (w_tight kx') T' rfl X'
    exact ⟨t2, stp.trans k1, k2⟩
/-- a static call of a method with a table -/
theorem ht_callSH {n : Nat} (hcw : Cond.codeWith M'.1 M'.2.1 M'.2.2.1 M'.2.2.2 hh ∈ WS) (hini : Cond.initialized M'.1.cls ∈ WS) (hpl : plainName M'.1.cls = true) (hmh : M'.1.cls ≠ "java/lang/invoke/MethodHandle" ∧ M'.1.cls ≠ "java/lang/invoke/VarHandle") (hml : M'.2.2.1 ≤ 45) (h1 : Cond.methodLink M.1.cls idx M'.1 ∈ WS) (h2 : Cond.static M'.1 ∈ WS) (hp : (parseMethodDescriptor M'.1.desc).map (fun d => d.parameters.length) = some n) (hn : As.length = n)
    (hd : decode M.2.1 pc = .ok (.invokestatic idx, 3)) (hlen : (lg_sl As).length ≤ M'.2.2.1) (hst : st = As.reverse ++ rest) (hr : (rest.map fun v => v.category).sum ≤ 8) (hdd : d' + 1 ≤ d) (hS : HTH G M' hh 0 (entL As M'.2.2.1) [] σ d' Qc)
    (kk : ∀ v σ', Qc v σ' → HT G M (pc + 3) L (v.toList ++ rest) σ' d Q) : HT G M pc L st σ d Q := by
  subst hst
  refine ht_run (Aa := As) (fun l p e R s m args below meth c H locs ls C hf hl hw hL g1 g2 => ?_) kk
  have hts := C.2.2.2.2.2.2.2.1
  have hok := C.2.2.2.2.2.2.2.2.1
  refine vx_runSW (hh := hh) (As := As) (rest := rest) ⟨C.1, C.2.1, C.2.2.2.1, C.2.2.2.2.1, hts⟩ (met_ofH l hpl hlen hS) (vx_cwSW n hts (WS_good fun w hw => ?_) rfl rfl rfl ⟨hmh.1, hmh.2, hp⟩ ⟨by show d' + 1 ≤ R.frames; omega, by show 8 + (M'.2.2.1 + 11) + 64 * d' ≤ R.locals; omega⟩) ⟨mPc_blind G _ σ, fun U hU hW => ⟨rfl, by rw [hU]; exact hw, hok.warm hW⟩⟩ rfl hn hL.1 rfl (lv_room hr) hd ⟨g1, g2⟩
  simp only [va_wsS, List.mem_append, List.mem_cons, List.not_mem_nil, or_false] at hw
  rcases hw with (rfl | rfl | rfl) | rfl | hw
  · exact h1
  · exact h2
  · exact hini
  · exact hcw
  · exact hw
end V5b
