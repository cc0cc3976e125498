/-! ===== what lies in the heap from the start: statics, constants, Strings, the words ===== -/
def wNm : List String := ["WEATHER", "ICE_WORD", "MILD_WORD", "CELL", "STOVE_WORD", "DOOR", "TO", "OUT", "THICK", "MAN", "IN", "SALT_WORD", "WAITS", "GUARD", "NOT", "AND", "OR", "HOUR_WORD", "DAY_WORD", "DEGREES_WORD", "BREATH_WORD", "WATER_WORD"]
def wRs : List Int32 := [1, 1, 1, 1, 1, 1, 1, 1, 1, 1, 1, 1, 1, 1, 1, 1, 1, 0, 0, 0, 0, 0]
def wFc : List Int32 := [-1, 7, 2, -1, 4, -1, -1, -1, -1, -1, -1, 5, -1, -1, -1, -1, -1, 0, 1, 3, 6, 8]
def wNa : List Nat := [24865546418, 9317, 435588, 103820, 20594373, 146930, 655, 16052, 21242987, 13358, 302, 624020, 24159891, 8029764, 14836, 1476, 498, 278194, 4153, 4470674611, 86148744, 24170674]
def sgB : List Int32 := [40, 41, 60, 61, 43, 45, 42, 59]
abbrev gAb (G : GG) : Nat → Prop := fun q => gB G ≤ q
/-- an array that lies there: of references, of bytes -/
def bArr (G : GG) (ty : FieldType) (n : Nat) (f : Nat → Value) (a : Nat) (U : State) : Prop := a < gB G ∧ ∃ cell : Cell, (gH G)[a]? = some cell ∧ U.isArrayOf cell ty ∧ cell.vm ≠ .unknown ∧ n ≤ cell.slots.size ∧ cell.slots.size.toInt32 = Int32.ofNat n ∧ ∀ j : Nat, j < n → cell.slots[j]? = some (f j)
/-- ad: the words; aA: all of them; aS: the text of the signs; aV: its bytes -/
def BS (G : GG) (ad : Nat → Nat) (aA aS aV : Nat) (U : State) : Prop :=
  va_En "FrostLocks$Word" "LFrostLocks$Word;" wNm [("FrostLocks$Word", "reserved", "Z", wRs), ("FrostLocks$Word", "fact", "I", wFc)] ad (gAb G) U (gH G) ∧
  va_Ef 22 "FrostLocks$Word" "name" "J" (fun i => .long (Int64.ofNat (wNa.getD i 0))) ad (gAb G) U (gH G) ∧
  va_Z "FrostLocks$Word" "ALL" "[LFrostLocks$Word;" (.ref aA) (gAb G) U (gH G) ∧ bArr G (.object "FrostLocks$Word") 22 (fun j => .ref (ad j)) aA U ∧
  vk_R "FrostLocks$Tokens" 69 "()<=+-*;" aS U ∧ va_O "java/lang/String" aS (gAb G) U (gH G) ∧ va_OF "java/lang/String" "value" "[B" (.ref aV) aS (gAb G) U (gH G) ∧ va_OF "java/lang/String" "coder" "B" (.int 0) aS (gAb G) U (gH G) ∧ bArr G .byte 8 (fun j => .int (sgB.getD j 0)) aV U ∧
  va_Z "java/lang/String" "COMPACT_STRINGS" "Z" (.int 1) (gAb G) U (gH G)
def BK (G : GG) (ad : Nat → Nat) (aA aS aV : Nat) : Prop := ∀ U, gE G U → BS G ad aA aS aV U
section BaseRules
variable {G : GG} {M M' : MI} {pc : Nat} {L : List (Option Value)} {st : List Value} {σ : Hp} {d d' : Nat} {Q Qc : Option Value → Hp → Prop} {idx : Nat}
theorem Wd.old {H : Heap} (hw : Wd G σ H) {q : Nat} (hq : ¬ gB G ≤ q) : H[q]? = (gH G)[q]? := hw.2.2.2.2.2.1 q (by omega)
theorem ht_gets {C n dd : String} {v : Value} (hZ : ∀ U, gE G U → va_Z C n dd v (gAb G) U (gH G)) (hl : Cond.fieldLink M.1.cls idx C n dd ∈ WS) (hd : decode M.2.1 pc = .ok (.getstatic idx, 3)) (kk : HT G M (pc + 3) L (v :: st) σ d Q) : HT G M pc L st σ d Q := by
  intro l p e R s m args below meth c H locs ls Z C9 hf hll hw hL hq hz
  obtain ⟨cf, kf, fi, f, a, cell, h1, h2, h3, h4, h5, h6, h7, h8⟩ := hZ s C9.2.2.2.2.2.2.2.2.1.2.1
  exact W.gets C9.1 C9.2.1 C9.2.2.2.2.1 (C9.2.2.2.2.2.2.2.1 _ hl) h1 h2 h3 h4 (by rw [hw.old h8]; exact h5) (fun e => by rw [e] at h6; cases h6) h7 rfl hd (kk l p e R s m args below meth c H locs ls Z C9 hf hll hw hL hq hz)
theorem ht_getB {C n dd : String} {v : Value} {t : Nat} (hO : ∀ U, gE G U → va_OF C n dd v t (gAb G) U (gH G)) (hl : Cond.fieldLink M.1.cls idx C n dd ∈ WS) (hd : decode M.2.1 pc = .ok (.getfield idx, 3)) (kk : HT G M (pc + 3) L (v :: st) σ d Q) : HT G M pc L (.ref t :: st) σ d Q := by
  intro l p e R s m args below meth c H locs ls Z C9 hf hll hw hL hq hz
  obtain ⟨cf, k, fi, f, cell, h1, h2, h3, h4, h5, h6⟩ := hO s C9.2.2.2.2.2.2.2.2.1.2.1
  exact W.getf C9.1 C9.2.1 C9.2.2.2.2.1 (C9.2.2.2.2.2.2.2.1 _ hl) h1 h2 (by rw [hw.old h6]; exact h3) h4 (v := v) h5 rfl rfl hd (kk l p e R s m args below meth c H locs ls Z C9 hf hll hw hL hq hz)
theorem ht_lenB {ty : FieldType} {n : Nat} {f : Nat → Value} {t : Nat} (hA : ∀ U, gE G U → bArr G ty n f t U) (hd : decode M.2.1 pc = .ok (.arraylength, 1)) (kk : HT G M (pc + 1) L (.int (nI n) :: st) σ d Q) : HT G M pc L (.ref t :: st) σ d Q := by
  intro l p e R s m args below meth c H locs ls Z C9 hf hll hw hL hq hz
  obtain ⟨h0, cell, h1, h2, h3, h9, h4, h5⟩ := hA s C9.2.2.2.2.2.2.2.2.1.2.1
  exact W.alen (n := Int32.ofNat n) C9.1 C9.2.1 (by rw [hw.old (by omega)]; exact h1) h2 h4 rfl rfl hd (kk l p e R s m args below meth c H locs ls Z C9 hf hll hw hL hq hz)
theorem ht_baldB {n : Nat} {f : Nat → Int32} {t j : Nat} {i : Int32} (hA : ∀ U, gE G U → bArr G .byte n (fun j => .int (f j)) t U) (hi : i = nI j) (hj : j < n) (hn : n < 2 ^ 31) (hd : decode M.2.1 pc = .ok (.baload, 1)) (kk : HT G M (pc + 1) L (.int (f j) :: st) σ d Q) : HT G M pc L (.int i :: .ref t :: st) σ d Q := by
  intro l p e R s m args below meth c H locs ls Z C9 hf hll hw hL hq hz
  obtain ⟨h0, cell, h1, h2, h3, h9, h4, h5⟩ := hA s C9.2.2.2.2.2.2.2.2.1.2.1
  subst hi
  exact W.bald (v := .int (f j)) C9.1 C9.2.1 (by rw [hw.old (by omega)]; exact h1) h2 h3 (fun c => nI_in hj hn (c.imp_right (fun q => Nat.le_trans h9 q))) (by rw [nI_clamp (by omega)]; exact h5 j hj) rfl rfl hd (kk l p e R s m args below meth c H locs ls Z C9 hf hll hw hL hq hz)
theorem ht_aaldB {ty : FieldType} (hty : ty.isReference = true) {n : Nat} {f : Nat → Nat} {t j : Nat} {i : Int32} (hA : ∀ U, gE G U → bArr G ty n (fun j => .ref (f j)) t U) (hi : i = nI j) (hj : j < n) (hn : n < 2 ^ 31) (hd : decode M.2.1 pc = .ok (.aaload, 1)) (kk : HT G M (pc + 1) L (.ref (f j) :: st) σ d Q) : HT G M pc L (.int i :: .ref t :: st) σ d Q := by
  intro l p e R s m args below meth c H locs ls Z C9 hf hll hw hL hq hz
  obtain ⟨h0, cell, h1, h2, h3, h9, h4, h5⟩ := hA s C9.2.2.2.2.2.2.2.2.1.2.1
  subst hi
  exact W.aald (v := .ref (f j)) C9.1 C9.2.1 (by rw [hw.old (by omega)]; exact h1) h2 hty h3 (fun c => nI_in hj hn (c.imp_right (fun q => Nat.le_trans h9 q))) (by rw [nI_clamp (by omega)]; exact h5 j hj) rfl rfl hd (kk l p e R s m args below meth c H locs ls Z C9 hf hll hw hL hq hz)
theorem ht_ldcS {tx : String} {q : Nat} (hZ : ∀ U, gE G U → vk_R M.1.cls idx tx q U) (hd : decode M.2.1 pc = .ok (.ldc idx, 2)) (kk : HT G M (pc + 2) L (.ref q :: st) σ d Q) : HT G M pc L st σ d Q := by
  intro l p e R s m args below meth c H locs ls Z C9 hf hll hw hL hq hz
  exact va_ldcS C9.1 C9.2.1 C9.2.2.2.2.1 (hZ s C9.2.2.2.2.2.2.2.2.1.2.1) hd (kk l p e R s m args below meth c H locs ls Z C9 hf hll hw hL hq hz)
theorem ht_callB {As rest : List Value} {b n : Nat} (hM : MV M') (h1 : Cond.methodLink M.1.cls idx M'.1 ∈ WS) (h2 : Cond.instanceMethod M'.1 ∈ WS) (h3 : Cond.selects M'.1.cls M'.1 M'.1 ∈ WS) (hp : (parseMethodDescriptor M'.1.desc).map (fun d => d.parameters.length) = some n) (hn : As.length = n)
    (hO : ∀ U, gE G U → va_O M'.1.cls b (gAb G) U (gH G)) (hd : decode M.2.1 pc = .ok (.invokevirtual idx, 3)) (hlen : (lg_sl (.ref b :: As)).length ≤ M'.2.2.1) (hst : st = As.reverse ++ .ref b :: rest) (hr : (rest.map fun v => v.category).sum ≤ 8) (hdd : d' + 1 ≤ d) (hS : Sp G M' d' (.ref b :: As) σ Qc)
    (kk : ∀ v σ', Qc v σ' → HT G M (pc + 3) L (v.toList ++ rest) σ' d Q) : HT G M pc L st σ d Q := by
  subst hst
  refine ht_run (Aa := .ref b :: As) (fun l p e R s m args below meth c H locs ls C hf hl hw hL g1 g2 => ?_) kk
  have hts := C.2.2.2.2.2.2.2.1
  have hok := C.2.2.2.2.2.2.2.2.1
  refine va_runV (As := As) (rest := rest) (C := M'.1.cls) (b := b) ⟨C.1, C.2.1, C.2.2.2.1, C.2.2.2.2.1, hts⟩ (met_of l hM.2.2.1 hlen hS) (cwV n hts (WS_good fun w hw => ?_) rfl rfl rfl ⟨rfl, hM.2.2.2.1.1, hM.2.2.2.1.2, hp⟩ ⟨by show d' + 1 ≤ R.frames; omega, by show 8 + (M'.2.2.1 + 11) + 64 * d' ≤ R.locals; have := hM.2.2.2.2; omega⟩) ⟨mPc_blind G _ σ, ?_, fun U hU hW => ⟨rfl, by rw [hU]; exact hw, hok.warm hW⟩⟩ rfl hn hL.1 rfl (lv_room hr) hd ⟨g1, g2⟩
  · simp only [wsV, List.mem_append, List.mem_cons, List.not_mem_nil, or_false] at hw
    rcases hw with (rfl | rfl | rfl | rfl) | rfl | hw
    · exact h1
    · exact h2
    · exact h3
    · exact hM.2.1
    · exact hM.1
    · exact hw
  · obtain ⟨cell, q1, q2, q3, q4⟩ := hO s hok.2.1
    exact ⟨cell, by rw [hw.old q4]; exact q1, q2, q3⟩
end BaseRules
theorem lb_X8_117 : Cond.fieldLink RX8 117 "FrostLocks$Word" "ALL" "[LFrostLocks$Word;" ∈ WS := (ws_t2 (List.mem_of_getElem? (i := 120) rfl) rfl)
theorem lb_J0_38 : Cond.fieldLink RJ0 38 "java/lang/String" "COMPACT_STRINGS" "Z" ∈ WS := (ws_t2 (List.mem_of_getElem? (i := 139) rfl) rfl)
theorem lb_X5_67 : Cond.fieldLink RX5 67 "FrostLocks$Word" "WEATHER" "LFrostLocks$Word;" ∈ WS := (ws_t2 (List.mem_of_getElem? (i := 215) rfl) rfl)
theorem lb_X5_259 : Cond.fieldLink RX5 259 "FrostLocks$Word" "NOT" "LFrostLocks$Word;" ∈ WS := (ws_t2 (List.mem_of_getElem? (i := 233) rfl) rfl)
theorem lb_X5_253 : Cond.fieldLink RX5 253 "FrostLocks$Word" "AND" "LFrostLocks$Word;" ∈ WS := (ws_t3 (List.mem_of_getElem? (i := 11) rfl) rfl)
theorem lb_X5_256 : Cond.fieldLink RX5 256 "FrostLocks$Word" "OR" "LFrostLocks$Word;" ∈ WS := (ws_t3 (List.mem_of_getElem? (i := 13) rfl) rfl)
theorem lb_X5_76 : Cond.fieldLink RX5 76 "FrostLocks$Word" "ICE_WORD" "LFrostLocks$Word;" ∈ WS := (ws_t3 (List.mem_of_getElem? (i := 42) rfl) rfl)
theorem lb_X5_79 : Cond.fieldLink RX5 79 "FrostLocks$Word" "MILD_WORD" "LFrostLocks$Word;" ∈ WS := (ws_t3 (List.mem_of_getElem? (i := 44) rfl) rfl)
theorem lb_X5_85 : Cond.fieldLink RX5 85 "FrostLocks$Word" "CELL" "LFrostLocks$Word;" ∈ WS := (ws_t3 (List.mem_of_getElem? (i := 54) rfl) rfl)
theorem lb_X5_164 : Cond.fieldLink RX5 164 "FrostLocks$Word" "STOVE_WORD" "LFrostLocks$Word;" ∈ WS := (ws_t3 (List.mem_of_getElem? (i := 72) rfl) rfl)
theorem lb_X5_91 : Cond.fieldLink RX5 91 "FrostLocks$Word" "DOOR" "LFrostLocks$Word;" ∈ WS := (ws_t3 (List.mem_of_getElem? (i := 78) rfl) rfl)
theorem lb_X5_187 : Cond.fieldLink RX5 187 "FrostLocks$Word" "TO" "LFrostLocks$Word;" ∈ WS := (ws_t3 (List.mem_of_getElem? (i := 88) rfl) rfl)
theorem lb_X5_199 : Cond.fieldLink RX5 199 "FrostLocks$Word" "OUT" "LFrostLocks$Word;" ∈ WS := (ws_t3 (List.mem_of_getElem? (i := 94) rfl) rfl)
theorem lb_X5_193 : Cond.fieldLink RX5 193 "FrostLocks$Word" "THICK" "LFrostLocks$Word;" ∈ WS := (ws_t3 (List.mem_of_getElem? (i := 96) rfl) rfl)
theorem lb_X5_97 : Cond.fieldLink RX5 97 "FrostLocks$Word" "MAN" "LFrostLocks$Word;" ∈ WS := (ws_t3 (List.mem_of_getElem? (i := 98) rfl) rfl)
theorem lb_X5_208 : Cond.fieldLink RX5 208 "FrostLocks$Word" "IN" "LFrostLocks$Word;" ∈ WS := (ws_t3 (List.mem_of_getElem? (i := 104) rfl) rfl)
theorem lb_X5_214 : Cond.fieldLink RX5 214 "FrostLocks$Word" "SALT_WORD" "LFrostLocks$Word;" ∈ WS := (ws_t3 (List.mem_of_getElem? (i := 106) rfl) rfl)
theorem lb_X5_220 : Cond.fieldLink RX5 220 "FrostLocks$Word" "WAITS" "LFrostLocks$Word;" ∈ WS := (ws_t3 (List.mem_of_getElem? (i := 108) rfl) rfl)
theorem lb_X5_103 : Cond.fieldLink RX5 103 "FrostLocks$Word" "GUARD" "LFrostLocks$Word;" ∈ WS := (ws_t3 (List.mem_of_getElem? (i := 110) rfl) rfl)
theorem lb_X8_105 : Cond.fieldLink RX8 105 "FrostLocks$Word" "name" "J" ∈ WS := (ws_t7 (List.mem_of_getElem? (i := 99) rfl) rfl)
theorem lb_J0_15 : Cond.fieldLink RJ0 15 "java/lang/String" "coder" "B" ∈ WS := (ws_t7 (List.mem_of_getElem? (i := 100) rfl) rfl)
theorem lb_J0_9 : Cond.fieldLink RJ0 9 "java/lang/String" "value" "[B" ∈ WS := (ws_t7 (List.mem_of_getElem? (i := 101) rfl) rfl)
theorem lb_X5_262 : Cond.fieldLink RX5 262 "FrostLocks$Word" "fact" "I" ∈ WS := (ws_t7 (List.mem_of_getElem? (i := 102) rfl) rfl)
theorem lb_X7_37 : Cond.fieldLink RX7 37 "FrostLocks$Word" "reserved" "Z" ∈ WS := (ws_t7 (List.mem_of_getElem? (i := 103) rfl) rfl)
section BaseFacts
variable {G : GG} {ad : Nat → Nat} {aA aS aV : Nat}
theorem BK.st (h : BK G ad aA aS aV) {i : Nat} (hi : i < 22) : ∀ U, gE G U → va_Z "FrostLocks$Word" (wNm.getD i "") "LFrostLocks$Word;" (.ref (ad i)) (gAb G) U (gH G) := fun U hU => ((h U hU).1.1 i hi).1
theorem BK.rs (h : BK G ad aA aS aV) {i : Nat} (hi : i < 22) : ∀ U, gE G U → va_OF "FrostLocks$Word" "reserved" "Z" (.int (wRs.getD i 0)) (ad i) (gAb G) U (gH G) := fun U hU => ((h U hU).1.1 i hi).2.2 _ List.mem_cons_self
theorem BK.fc (h : BK G ad aA aS aV) {i : Nat} (hi : i < 22) : ∀ U, gE G U → va_OF "FrostLocks$Word" "fact" "I" (.int (wFc.getD i 0)) (ad i) (gAb G) U (gH G) := fun U hU => ((h U hU).1.1 i hi).2.2 _ (List.mem_cons_of_mem _ List.mem_cons_self)
theorem BK.na (h : BK G ad aA aS aV) {i : Nat} (hi : i < 22) : ∀ U, gE G U → va_OF "FrostLocks$Word" "name" "J" (.long (Int64.ofNat (wNa.getD i 0))) (ad i) (gAb G) U (gH G) := fun U hU => (h U hU).2.1 i hi
theorem BK.al (h : BK G ad aA aS aV) : ∀ U, gE G U → va_Z "FrostLocks$Word" "ALL" "[LFrostLocks$Word;" (.ref aA) (gAb G) U (gH G) := fun U hU => (h U hU).2.2.1
theorem BK.ar (h : BK G ad aA aS aV) : ∀ U, gE G U → bArr G (.object "FrostLocks$Word") 22 (fun j => .ref (ad j)) aA U := fun U hU => (h U hU).2.2.2.1
theorem BK.sr (h : BK G ad aA aS aV) : ∀ U, gE G U → vk_R "FrostLocks$Tokens" 69 "()<=+-*;" aS U := fun U hU => (h U hU).2.2.2.2.1
theorem BK.so (h : BK G ad aA aS aV) : ∀ U, gE G U → va_O "java/lang/String" aS (gAb G) U (gH G) := fun U hU => (h U hU).2.2.2.2.2.1
theorem BK.sv (h : BK G ad aA aS aV) : ∀ U, gE G U → va_OF "java/lang/String" "value" "[B" (.ref aV) aS (gAb G) U (gH G) := fun U hU => (h U hU).2.2.2.2.2.2.1
theorem BK.sc (h : BK G ad aA aS aV) : ∀ U, gE G U → va_OF "java/lang/String" "coder" "B" (.int 0) aS (gAb G) U (gH G) := fun U hU => (h U hU).2.2.2.2.2.2.2.1
theorem BK.sb (h : BK G ad aA aS aV) : ∀ U, gE G U → bArr G .byte 8 (fun j => .int (sgB.getD j 0)) aV U := fun U hU => (h U hU).2.2.2.2.2.2.2.2.1
theorem BK.cs (h : BK G ad aA aS aV) : ∀ U, gE G U → va_Z "java/lang/String" "COMPACT_STRINGS" "Z" (.int 1) (gAb G) U (gH G) := fun U hU => (h U hU).2.2.2.2.2.2.2.2.2
theorem BK.inj (h : BK G ad aA aS aV) {U : State} (hU : gE G U) : ∀ i j, i < 22 → j < 22 → ad i = ad j → i = j := (h U hU).1.2
end BaseFacts
