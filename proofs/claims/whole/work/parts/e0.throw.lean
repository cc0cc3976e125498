/-! ===== the triple to a throw ===== -/
/-- method M comes to the instruction tp.1 with no operands, over the heap tp.2 -/
def HTT (G : GG) (M : MI) (pc : Nat) (L : List (Option Value)) (st : List Value) (σ : Hp) (d : Nat) (tp : Nat × Hp) : Prop :=
  ∀ (l : LL) (p : Program) (e : Env) (R : Room) (s : State) (m : MethodId) (args : Array Value) (below : List Frame) (meth : Method) (c : Code) (H : Heap) (locs : List Loc) (ls : Array Slot) (Z : State → Prop),
    Cx G M p R s m args meth c → d ≤ R.frames → 64 * d ≤ R.locals → Wd G σ H → LV ls M.2.2.1 L → (∀ q ∈ locs, gB G ≤ q.base) →
    (∀ (H' : Heap) (locs' : List Loc) (ls' : Array Slot), Wd G tp.2 H' → (∀ q ∈ locs', gB G ≤ q.base) → ls'.size = M.2.2.1 → WX p l.1 e R s m args below meth c H' locs' Z (F0 m tp.1 ls' [])) →
    WX p l.1 e R s m args below meth c H locs Z (F0 m pc ls st)
section E0a
variable {G : GG} {M : MI} {pc : Nat} {L : List (Option Value)} {st : List Value} {σ : Hp} {d : Nat} {tp : Nat × Hp}
theorem tt_here : HTT G M pc L [] σ d (pc, σ) := fun l p e R s m args below meth c H locs ls Z C hf hl hw hL hq hz => hz H locs ls hw hq hL.1
theorem tt_of {pc' : Nat} {st' : List Value} (h : ∀ (p : Program) (l : Launch) (e : Env) (R : Room) (s : State) (m : MethodId) (args : Array Value) (below : List Frame) (meth : Method) (c : Code) (H : Heap) (locs : List Loc) (cells slots : Nat) (Z : State → Prop) (ls : Array Slot), p.tables.exec = Jvm.exec → c.code = M.2.1 → LV ls M.2.2.1 L → W p l e R s m args below meth c H locs cells slots Z (F0 m pc' ls st') → W p l e R s m args below meth c H locs cells slots Z (F0 m pc ls st))
    (k : HTT G M pc' L st' σ d tp) : HTT G M pc L st σ d tp :=
  fun l p e R s m args below meth c H locs ls Z C hf hl hw hL hq hz => h p l.1 e R s m args below meth c H locs _ _ Z ls C.1 C.2.1 hL (k l p e R s m args below meth c H locs ls Z C hf hl hw hL hq hz)
theorem tt_of2 {pt pf : Nat} {st' : List Value} {P : Prop} (h : ∀ (p : Program) (l : Launch) (e : Env) (R : Room) (s : State) (m : MethodId) (args : Array Value) (below : List Frame) (meth : Method) (c : Code) (H : Heap) (locs : List Loc) (cells slots : Nat) (Z : State → Prop) (ls : Array Slot), p.tables.exec = Jvm.exec → c.code = M.2.1 → (P → W p l e R s m args below meth c H locs cells slots Z (F0 m pt ls st')) → (¬ P → W p l e R s m args below meth c H locs cells slots Z (F0 m pf ls st')) → W p l e R s m args below meth c H locs cells slots Z (F0 m pc ls st))
    (kt : P → HTT G M pt L st' σ d tp) (kf : ¬ P → HTT G M pf L st' σ d tp) : HTT G M pc L st σ d tp :=
  fun l p e R s m args below meth c H locs ls Z C hf hl hw hL hq hz => h p l.1 e R s m args below meth c H locs _ _ Z ls C.1 C.2.1 (fun a => kt a l p e R s m args below meth c H locs ls Z C hf hl hw hL hq hz) (fun a => kf a l p e R s m args below meth c H locs ls Z C hf hl hw hL hq hz)
theorem tt_iconst {n : Int} {v : Int32} (hd : decode M.2.1 pc = .ok (.iconst n, 1)) (hv : Int32.ofInt n = v) (k : HTT G M (pc + 1) L (.int v :: st) σ d tp) : HTT G M pc L (st) σ d tp := tt_of (fun _ _ _ _ _ _ _ _ _ _ _ _ _ _ _ ls hx hb hL w => lv_iconst hx hb hd hv w) k
theorem tt_sipush {n : Int} {v : Int32} (hd : decode M.2.1 pc = .ok (.sipush n, 3)) (hv : (Int16.ofInt n).toInt32 = v) (k : HTT G M (pc + 3) L (.int v :: st) σ d tp) : HTT G M pc L (st) σ d tp := tt_of (fun _ _ _ _ _ _ _ _ _ _ _ _ _ _ _ ls hx hb hL w => lv_sipush hx hb hd hv w) k
theorem tt_iload_n {k : Fin 4} {i : Nat} {x : Int32} (hd : decode M.2.1 pc = .ok (.iload_n k, 1)) (hi : (k : Nat) = i) (hv : L[i]? = some (some (.int x))) (k : HTT G M (pc + 1) L (.int x :: st) σ d tp) : HTT G M pc L (st) σ d tp := tt_of (fun _ _ _ _ _ _ _ _ _ _ _ _ _ _ _ ls hx hb hL w => lv_iload_n hx hb hd hi (hL.at hv) w) k
theorem tt_aload_n {k : Fin 4} {i : Nat} {x : Nat} (hd : decode M.2.1 pc = .ok (.aload_n k, 1)) (hi : (k : Nat) = i) (hv : L[i]? = some (some (.ref x))) (k : HTT G M (pc + 1) L (.ref x :: st) σ d tp) : HTT G M pc L (st) σ d tp := tt_of (fun _ _ _ _ _ _ _ _ _ _ _ _ _ _ _ ls hx hb hL w => lv_aload_n hx hb hd hi (hL.at hv) w) k
theorem tt_if_ne {x : Int32} {off : Int} {tgt : Nat} (hd : decode M.2.1 pc = .ok (.ifCond .ne off, 3)) (ht : (pc : Int) + off = (tgt : Int)) (kt : ¬ x = 0 → HTT G M tgt L st σ d tp) (kf : x = 0 → HTT G M (pc + 3) L st σ d tp) : HTT G M pc L (.int x :: st) σ d tp := tt_of2 (P := x = 0) (fun _ _ _ _ _ _ _ _ _ _ _ _ _ _ _ ls hx hb w1 w2 => lv_if_ne hx hb hd ht w2 w1) kf kt
theorem tt_tableOut {dflt lo hi : Int} {offs : Array Int} {len : Nat} {x : Int32} {tgt : Nat} (hd : decode M.2.1 pc = .ok (.tableswitch dflt lo hi offs, len)) (h : x.toInt < lo ∨ hi < x.toInt) (ht : (pc : Int) + dflt = (tgt : Int)) (k : HTT G M tgt L st σ d tp) : HTT G M pc L (.int x :: st) σ d tp := tt_of (fun _ _ _ _ _ _ _ _ _ _ _ _ _ _ _ ls hx hb hL w => lv_tableOut hx hb hd h ht w) k
theorem tt_get {a ci k idx : Nat} (hci : ci < 10) (hk : k < (cT ci).2.2) (hlink : FL M.1.cls idx ci k) (hd : decode M.2.1 pc = .ok (.getfield idx, 3)) (hK : zK σ a = ci) (kk : HTT G M (pc + 3) L (fv σ a k (fT ci k) :: st) σ d tp) : HTT G M pc L (.ref a :: st) σ d tp := by
  intro l p e R s m args below meth c H locs ls Z C hf hl hw hL hq hz
  have kk' := kk l p e R s m args below meth c H locs ls Z C hf hl hw hL hq hz
  obtain ⟨hx, hb, hr, hml, hown, hlk, hnm, hts, hok, -⟩ := C
  obtain ⟨cell, q1, q2, q3, q4⟩ := hw.obj hK hci
  obtain ⟨hS, hfc, kC, hkC, hkind⟩ := hok.1.1 ci _ (cT_some hci)
  obtain ⟨cf, kf, fi, f, hi, hsl⟩ := hS k hk
  refine W.getf hx hb hown (hts _ hlink) hi (u_facts hfc hkC (u_lays hts (clW hci) hk) hi).1 q1 (by rw [q3]; exact fun h => by cases h) (v := fv σ a k (fT ci k)) ?_ rfl rfl hd kk'
  rw [hsl, q4 k hk]
theorem tt_getI {a ci k idx : Nat} (hci : ci < 10) (hk : k < (cT ci).2.2) (hlink : FL M.1.cls idx ci k) (hd : decode M.2.1 pc = .ok (.getfield idx, 3)) (hK : zK σ a = ci) (ht : fT ci k = 0) (kk : HTT G M (pc + 3) L (.int (zI σ a k) :: st) σ d tp) : HTT G M pc L (.ref a :: st) σ d tp :=
  tt_get hci hk hlink hd hK (by rw [ht]; exact kk)
theorem tt_getQ {a ci k idx : Nat} (hci : ci < 10) (hk : k < (cT ci).2.2) (hlink : FL M.1.cls idx ci k) (hd : decode M.2.1 pc = .ok (.getfield idx, 3)) (hK : zK σ a = ci) (ht : fT ci k = 2) {x : Option Nat} (hv : zQ σ a k = x) (kk : HTT G M (pc + 3) L (va_rf x :: st) σ d tp) : HTT G M pc L (.ref a :: st) σ d tp :=
  tt_get hci hk hlink hd hK (by rw [ht]; subst hv; exact kk)
end E0a
section E0b
variable {G : GG} {M M' : MI} {pc : Nat} {L : List (Option Value)} {st : List Value} {σ : Hp} {d d' : Nat} {tp : Nat × Hp} {Qc : Option Value → Hp → Prop} {As rest : List Value} {idx : Nat}
theorem tt_run {g0 : List Value} {Aa : List Value}
    (h : ∀ (l : LL) (p : Program) (e : Env) (R : Room) (s : State) (m : MethodId) (args : Array Value) (below : List Frame) (meth : Method) (c : Code) (H : Heap) (locs : List Loc) (ls : Array Slot), Cx G M p R s m args meth c → d ≤ R.frames → 64 * d ≤ R.locals → Wd G σ H → LV ls M.2.2.1 L → H.size - s.heap.size + (gC G - zX σ) ≤ R.cells → nS H s.heap.size + (gS G - zS σ) ≤ R.slots →
      va_Run p l.1 e R s m args below meth c H locs (H.size - s.heap.size) (nS H s.heap.size) (gC G - zX σ) (gS G - zS σ) (F0 m pc ls g0) rest (mQc G Qc Aa.toArray) (fun q => gB G ≤ q))
    (kk : ∀ v σ', Qc v σ' → HTT G M (pc + 3) L (v.toList ++ rest) σ' d tp) : HTT G M pc L g0 σ d tp := by
  intro l p e R s m args below meth c H locs ls Z C hf hl hw hL hq hz T hT X
  subst hT
  have a0 := st_size X
  have a1 := st_nS (b := gB G) C.2.2.2.2.2.2.2.2.2.1 X
  have a3 := hw.1
  have a4 := hw.2.2.1
  have a5 := hw.2.2.2.1
  have a6 := hw.2.2.2.2.1
  have c2 := C.2.2.2.2.2.2.2.2.2.2.1
  have c3 := C.2.2.2.2.2.2.2.2.2.2.2
  obtain ⟨v, st₀, t, T', L', h0, X', hL', e1, e2, ⟨v', σ', hv, hQ, hw'⟩, stp⟩ := h l p e R s m args below meth c T.heap locs ls C hf hl hw hL (by omega) (by omega) T rfl X
  cases hv
  rw [← e1] at hw'
  obtain ⟨t2, k1, k2⟩ := kk v σ' hQ l p e R s m args below meth c T'.heap (locs ++ L') ls Z C hf hl hw' hL (fun q h => by
    rcases List.mem_append.mp h with h | h
    · exact hq q h
    · exact hL' q h) hz T' rfl (st_tight X')
  exact ⟨t2, stp t2 k1, k2⟩
theorem tt_callS {n : Nat} (hM : MV M') (h1 : Cond.methodLink M.1.cls idx M'.1 ∈ WS) (h2 : Cond.static M'.1 ∈ WS) (hp : (parseMethodDescriptor M'.1.desc).map (fun d => d.parameters.length) = some n) (hn : As.length = n)
    (hd : decode M.2.1 pc = .ok (.invokestatic idx, 3)) (hlen : (lg_sl As).length ≤ M'.2.2.1) (hst : st = As.reverse ++ rest) (hr : (rest.map fun v => v.category).sum ≤ 8) (hdd : d' + 1 ≤ d) (hS : Sp G M' d' As σ Qc)
    (kk : ∀ v σ', Qc v σ' → HTT G M (pc + 3) L (v.toList ++ rest) σ' d tp) : HTT G M pc L st σ d tp := by
  subst hst
  refine tt_run (Aa := As) (fun l p e R s m args below meth c H locs ls C hf hl hw hL g1 g2 => ?_) kk
  have hts := C.2.2.2.2.2.2.2.1
  have hok := C.2.2.2.2.2.2.2.2.1
  exact va_runS (As := As) (rest := rest) ⟨C.1, C.2.1, C.2.2.2.1, C.2.2.2.2.1, hts⟩ (met_of l hM.2.2.1 hlen hS) ⟨callB_of n hts (WS_good fun w hw => (List.mem_cons.mp hw).elim (fun e => e ▸ hM.1) id) rfl rfl rfl (hts _ hM.2.1) (hts _ h1) ⟨hM.2.2.2.1.1, hM.2.2.2.1.2, hp⟩ ⟨by show d' + 1 ≤ R.frames; omega, by show 8 + (M'.2.2.1 + 11) + 64 * d' ≤ R.locals; have := hM.2.2.2.2; omega⟩, hts _ h2⟩ ⟨mPc_blind G _ σ, fun U hU hW => ⟨rfl, by rw [hU]; exact hw, hok.warm hW⟩⟩ rfl hn hL.1 rfl (lv_room hr) hd ⟨g1, g2⟩
end E0b
