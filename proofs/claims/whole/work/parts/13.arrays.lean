/-! ===== arrays, new ===== -/
def dfv (c : Nat) : Value := match c with
  | 0 => .int 0
  | 1 => .long 0
  | _ => .null
theorem dfC {ci : Nat} (h : ci < 10) : ∀ j, j < (cT ci).2.2 → defaultValue (tyC ci j) = dfv (fT ci j) := by
  match ci, h with
  | 0, _ => decide +kernel
  | 1, _ => decide +kernel
  | 2, _ => decide +kernel
  | 3, _ => decide +kernel
  | 4, _ => decide +kernel
  | 5, _ => decide +kernel
  | 6, _ => decide +kernel
  | 7, _ => decide +kernel
  | 8, _ => decide +kernel
  | 9, _ => decide +kernel
section ArrRules
variable {G : GG} {M : MI} {pc : Nat} {L : List (Option Value)} {st : List Value} {σ : Hp} {d : Nat} {Q : Option Value → Hp → Prop}
theorem ok_arr {s : State} (h : Ok G s) {k : Nat} (h1 : 20 ≤ k) (h2 : k < 26) : ArrOfT s (gA G k) (aT k) ∧ va_RA s (gA G k) (aT k) := h.1.2 (k - 20) _ (tysG_at G ⟨h1, h2⟩)
theorem ht_iald {a : Nat} {i : Int32} (hd : decode M.2.1 pc = .ok (.iaload, 1)) (hK : zK σ a = 20) (hin : vp_in i (zN σ a)) (kk : HT G M (pc + 1) L (.int (zI σ a i.toNatClampNeg) :: st) σ d Q) : HT G M pc L (.int i :: .ref a :: st) σ d Q := by
  intro l p e R s m args below meth c H locs ls Z C hf hl hw hL hq hz
  have hlt : i.toNatClampNeg < zN σ a := Nat.not_le.mp fun q => hin (Or.inr q)
  have hok := ok_arr (k := 20) C.2.2.2.2.2.2.2.2.1 (by omega) (by omega)
  exact W.iald (v := .int (zI σ a i.toNatClampNeg)) C.1 C.2.1 (hw.arr hK (by omega) (by omega)) (hok.1 _ _) (fun q => by cases q) (by rw [arrV_size]; exact hin) (by rw [arrV_read _ _ hlt]; rfl) rfl rfl hd (kk l p e R s m args below meth c H locs ls Z C hf hl hw hL hq hz)
theorem ht_lald {a : Nat} {i : Int32} (hd : decode M.2.1 pc = .ok (.laload, 1)) (hK : zK σ a = 21) (hin : vp_in i (zN σ a)) (kk : HT G M (pc + 1) L (.long (zJ σ a i.toNatClampNeg) :: st) σ d Q) : HT G M pc L (.int i :: .ref a :: st) σ d Q := by
  intro l p e R s m args below meth c H locs ls Z C hf hl hw hL hq hz
  have hlt : i.toNatClampNeg < zN σ a := Nat.not_le.mp fun q => hin (Or.inr q)
  have hok := ok_arr (k := 21) C.2.2.2.2.2.2.2.2.1 (by omega) (by omega)
  exact W.lald (v := .long (zJ σ a i.toNatClampNeg)) C.1 C.2.1 (hw.arr hK (by omega) (by omega)) (hok.1 _ _) (fun q => by cases q) (by rw [arrV_size]; exact hin) (by rw [arrV_read _ _ hlt]; rfl) rfl rfl hd (kk l p e R s m args below meth c H locs ls Z C hf hl hw hL hq hz)
theorem ht_bald {a : Nat} {i : Int32} (hd : decode M.2.1 pc = .ok (.baload, 1)) (hK : zK σ a = 22) (hin : vp_in i (zN σ a)) (kk : HT G M (pc + 1) L (.int (zI σ a i.toNatClampNeg) :: st) σ d Q) : HT G M pc L (.int i :: .ref a :: st) σ d Q := by
  intro l p e R s m args below meth c H locs ls Z C hf hl hw hL hq hz
  have hlt : i.toNatClampNeg < zN σ a := Nat.not_le.mp fun q => hin (Or.inr q)
  have hok := ok_arr (k := 22) C.2.2.2.2.2.2.2.2.1 (by omega) (by omega)
  exact W.bald (v := .int (zI σ a i.toNatClampNeg)) C.1 C.2.1 (hw.arr hK (by omega) (by omega)) (hok.1 _ _) (fun q => by cases q) (by rw [arrV_size]; exact hin) (by rw [arrV_read _ _ hlt]; rfl) rfl rfl hd (kk l p e R s m args below meth c H locs ls Z C hf hl hw hL hq hz)
theorem ht_zald {a : Nat} {i : Int32} (hd : decode M.2.1 pc = .ok (.baload, 1)) (hK : zK σ a = 23) (hin : vp_in i (zN σ a)) (kk : HT G M (pc + 1) L (.int (zI σ a i.toNatClampNeg) :: st) σ d Q) : HT G M pc L (.int i :: .ref a :: st) σ d Q := by
  intro l p e R s m args below meth c H locs ls Z C hf hl hw hL hq hz
  have hlt : i.toNatClampNeg < zN σ a := Nat.not_le.mp fun q => hin (Or.inr q)
  have hok := ok_arr (k := 23) C.2.2.2.2.2.2.2.2.1 (by omega) (by omega)
  exact W.zald (v := .int (zI σ a i.toNatClampNeg)) C.1 C.2.1 (hw.arr hK (by omega) (by omega)) (hok.1 _ _) (fun q => by cases q) (by rw [arrV_size]; exact hin) (by rw [arrV_read _ _ hlt]; rfl) rfl rfl hd (kk l p e R s m args below meth c H locs ls Z C hf hl hw hL hq hz)
theorem ht_aald {a k : Nat} {i : Int32} (hk : k = 24 ∨ k = 25) (hd : decode M.2.1 pc = .ok (.aaload, 1)) (hK : zK σ a = k) (hin : vp_in i (zN σ a)) {x : Option Nat} (hv : zQ σ a i.toNatClampNeg = x) (kk : HT G M (pc + 1) L (va_rf x :: st) σ d Q) : HT G M pc L (.int i :: .ref a :: st) σ d Q := by
  subst hv
  intro l p e R s m args below meth c H locs ls Z C hf hl hw hL hq hz
  have hlt : i.toNatClampNeg < zN σ a := Nat.not_le.mp fun q => hin (Or.inr q)
  have hok := ok_arr (k := k) C.2.2.2.2.2.2.2.2.1 (by omega) (by omega)
  refine W.aald (ty := aT k) (v := va_rf (zQ σ a i.toNatClampNeg)) C.1 C.2.1 (hw.arr hK (by omega) (by omega)) (hok.1 _ _) ?_ (fun q => by cases q) (by rw [arrV_size]; exact hin) ?_ rfl rfl hd (kk l p e R s m args below meth c H locs ls Z C hf hl hw hL hq hz)
  · rcases hk with rfl | rfl <;> rfl
  · rw [arrV_read _ _ hlt]
    rcases hk with rfl | rfl <;> rfl
theorem loc1 {locs : List Loc} {a i : Nat} (hq : ∀ q ∈ locs, gB G ≤ q.base) (ha : gB G ≤ a) : ∀ q ∈ locs ++ [(⟨a, i⟩ : Loc)], gB G ≤ q.base := by
  intro q h
  rcases List.mem_append.mp h with h | h
  · exact hq q h
  · rw [List.mem_singleton.mp h]
    exact ha
theorem ht_iast {a : Nat} {i x : Int32} (hd : decode M.2.1 pc = .ok (.iastore, 1)) (hK : zK σ a = 20) (hin : vp_in i (zN σ a)) (kk : HT G M (pc + 1) L st (wI σ a i.toNatClampNeg x) d Q) : HT G M pc L (.int x :: .int i :: .ref a :: st) σ d Q := by
  intro l p e R s m args below meth c H locs ls Z C hf hl hw hL hq hz
  have hok := ok_arr (k := 20) C.2.2.2.2.2.2.2.2.1 (by omega) (by omega)
  refine W.iast C.1 C.2.1 (hw.arr hK (by omega) (by omega)) (hok.1 _ _) (fun q => by cases q) (by rw [arrV_size]; exact hin) rfl rfl hd fun H' e1 e2 e3 => ?_
  exact w_tight (kk l p e R s m args below meth c H' _ ls Z C hf hl (wd_ast hw hK (by omega) (by omega) e1 e2 e3 (ch_I σ a _ x)) hL (loc1 hq (hw.ge hK (by omega))) hz)
theorem ht_last {a : Nat} {i : Int32} {x : Int64} (hd : decode M.2.1 pc = .ok (.lastore, 1)) (hK : zK σ a = 21) (hin : vp_in i (zN σ a)) (kk : HT G M (pc + 1) L st (wJ σ a i.toNatClampNeg x) d Q) : HT G M pc L (.long x :: .int i :: .ref a :: st) σ d Q := by
  intro l p e R s m args below meth c H locs ls Z C hf hl hw hL hq hz
  have hok := ok_arr (k := 21) C.2.2.2.2.2.2.2.2.1 (by omega) (by omega)
  refine W.last C.1 C.2.1 (hw.arr hK (by omega) (by omega)) (hok.1 _ _) (fun q => by cases q) (by rw [arrV_size]; exact hin) rfl rfl hd fun H' e1 e2 e3 => ?_
  exact w_tight (kk l p e R s m args below meth c H' _ ls Z C hf hl (wd_ast hw hK (by omega) (by omega) e1 e2 e3 (ch_J σ a _ x)) hL (loc1 hq (hw.ge hK (by omega))) hz)
theorem ht_bast {a : Nat} {i x y : Int32} (hd : decode M.2.1 pc = .ok (.bastore, 1)) (hK : zK σ a = 22) (hin : vp_in i (zN σ a)) (hn : narrow .byte (.int x) = .int y) (kk : HT G M (pc + 1) L st (wI σ a i.toNatClampNeg y) d Q) : HT G M pc L (.int x :: .int i :: .ref a :: st) σ d Q := by
  intro l p e R s m args below meth c H locs ls Z C hf hl hw hL hq hz
  have hok := ok_arr (k := 22) C.2.2.2.2.2.2.2.2.1 (by omega) (by omega)
  refine W.bast C.1 C.2.1 (hw.arr hK (by omega) (by omega)) (hok.1 _ _) (fun q => by cases q) (by rw [arrV_size]; exact hin) rfl rfl hd fun H' e1 e2 e3 => ?_
  rw [hn] at e1
  exact w_tight (kk l p e R s m args below meth c H' _ ls Z C hf hl (wd_ast hw hK (by omega) (by omega) e1 e2 e3 (ch_I σ a _ y)) hL (loc1 hq (hw.ge hK (by omega))) hz)
theorem ht_zast {a : Nat} {i x y : Int32} (hd : decode M.2.1 pc = .ok (.bastore, 1)) (hK : zK σ a = 23) (hin : vp_in i (zN σ a)) (hn : narrow .boolean (.int x) = .int y) (kk : HT G M (pc + 1) L st (wI σ a i.toNatClampNeg y) d Q) : HT G M pc L (.int x :: .int i :: .ref a :: st) σ d Q := by
  intro l p e R s m args below meth c H locs ls Z C hf hl hw hL hq hz
  have hok := ok_arr (k := 23) C.2.2.2.2.2.2.2.2.1 (by omega) (by omega)
  refine W.zast C.1 C.2.1 (hw.arr hK (by omega) (by omega)) (hok.1 _ _) (fun q => by cases q) (by rw [arrV_size]; exact hin) rfl rfl hd fun H' e1 e2 e3 => ?_
  rw [hn] at e1
  exact w_tight (kk l p e R s m args below meth c H' _ ls Z C hf hl (wd_ast hw hK (by omega) (by omega) e1 e2 e3 (ch_I σ a _ y)) hL (loc1 hq (hw.ge hK (by omega))) hz)
theorem ht_alen {a k : Nat} (h1 : 20 ≤ k) (h2 : k < 26) (hd : decode M.2.1 pc = .ok (.arraylength, 1)) (hK : zK σ a = k) (kk : HT G M (pc + 1) L (.int (Int32.ofNat (zN σ a)) :: st) σ d Q) : HT G M pc L (.ref a :: st) σ d Q := by
  intro l p e R s m args below meth c H locs ls Z C hf hl hw hL hq hz
  have hok := ok_arr (k := k) C.2.2.2.2.2.2.2.2.1 h1 h2
  exact W.alen (n := Int32.ofNat (zN σ a)) C.1 C.2.1 (hw.arr hK h1 h2) (hok.1 _ _) (by rw [arrV_size] <;> rfl) rfl rfl hd (kk l p e R s m args below meth c H locs ls Z C hf hl hw hL hq hz)
/-- what room is left, at a state of the walk -/
theorem cx_room {p : Program} {l : Launch} {e : Env} {R : Room} {s : State} {m : MethodId} {args : Array Value} {below : List Frame} {meth : Method} {c : Code} {T : State} {locs : List Loc} {cells slots n : Nat} (C : Cx G M p R s m args meth c) (X : Stand p l e R s m args below meth c T locs cells slots) (hw : Wd G σ T.heap) (h1 : zX σ + 1 ≤ gC G) (h2 : zS σ + n ≤ gS G) : T.heap.size - s.heap.size + 1 ≤ R.cells ∧ nS T.heap s.heap.size + n ≤ R.slots := by
  obtain ⟨-, -, -, -, -, -, -, -, -, c1, c2, c3⟩ := C
  have a1 := st_size X
  have a2 := st_nS c1 X
  have a3 := hw.1
  have a4 := hw.2.2.2.2.1
  constructor <;> omega
theorem ht_newa {k : Nat} {atype : ArrayType} {n : Int32} {N : Nat} (h1 : 20 ≤ k) (h2 : k < 24) (hty : newarray.typeOf atype = aT k) (hcl : Cond.arrayClass (newarray.typeOf atype) ∈ WS) (hd : decode M.2.1 pc = .ok (.newarray atype, 2)) (hn : ¬ n < 0) (hN : n.toNatClampNeg = N) (hs : N ≤ 1000000) (hc1 : zX σ + 1 ≤ gC G) (hc2 : zS σ + N ≤ gS G) (kk : HT G M (pc + 2) L (.ref (zX σ) :: st) (nw σ k N N) d Q) : HT G M pc L (.int n :: st) σ d Q := by
  intro l p e R s m args below meth c H locs ls Z C hf hl hw hL hq hz T hT X
  subst hT
  have hr := cx_room C X hw hc1 hc2
  have hok := ok_arr (k := k) C.2.2.2.2.2.2.2.2.1 h1 (by omega)
  have hby : N * componentBytes (newarray.typeOf atype) ≤ 536870912 := by
    have : componentBytes (newarray.typeOf atype) ≤ 8 := by cases atype <;> decide
    calc N * componentBytes (newarray.typeOf atype) ≤ 1000000 * 8 := Nat.mul_le_mul hs this
      _ ≤ 536870912 := by decide
  refine va_newaK C.1 C.2.1 (C.2.2.2.2.2.2.2.1 _ hcl) (g := F0 m pc ls (.int n :: st)) rfl hd rfl hn hN hby hr.1 hr.2 rfl ?_ T rfl X
  intro H' cA e1 e2 e3 _ e5
  have hcA : cA = gA G k := by
    have h := hok.2
    have h5 : s.vm.findClass ("[" ++ (aT k).toString) = some cA := by rw [← hty]; exact e5
    have hk4 : k = 20 ∨ k = 21 ∨ k = 22 ∨ k = 23 := by omega
    rcases hk4 with rfl | rfl | rfl | rfl <;> exact Option.some.inj (h5.symm.trans h)
  subst hcA
  have e0 : (F0 m pc ls (.int n :: st)).pc = pc := rfl
  rw [hw.1]
  refine w_tight (kk l p e R s m args below meth c H' locs ls Z C hf hl ?_ hL hq hz)
  refine wd_new hw e2 e3 e1 (arrV_size _ _ _) hc1 hc2 ?_
  have hkk : zK (nw σ k N N) (zX σ) = k := by simp [zK_nw, va_up]
  have hnn : zN (nw σ k N N) (zX σ) = N := by simp [zN_nw, va_up]
  unfold at_
  rw [hkk, hnn, if_neg (by omega), if_pos ⟨h1, by omega⟩, ← hw.1, e1]
  congr 2
  funext j
  have hi : zI (nw σ k N N) T.heap.size j = 0 := by rw [hw.1]; simp [zI_nw, va_up]
  have hj : zJ (nw σ k N N) T.heap.size j = 0 := by rw [hw.1]; simp [zJ_nw, va_up]
  have hk4 : k = 20 ∨ k = 21 ∨ k = 22 ∨ k = 23 := by omega
  rw [hty]
  rcases hk4 with rfl | rfl | rfl | rfl
  · show Value.int 0 = Value.int _
    rw [hi]
  · show Value.long 0 = Value.long _
    rw [hj]
  · show Value.int 0 = Value.int _
    rw [hi]
  · show Value.int 0 = Value.int _
    rw [hi]
theorem ht_anew {k idx : Nat} {Cn : String} {n : Int32} {N : Nat} (hk : k = 24 ∨ k = 25) (hty : FieldType.object Cn = aT k) (hcl : Cond.classLink M.1.cls idx Cn ∈ WS) (hov : ∀ s, gE G s → va_AO Cn s) (hd : decode M.2.1 pc = .ok (.anewarray idx, 3)) (hn : ¬ n < 0) (hN : n.toNatClampNeg = N) (hs : N ≤ 1000000) (hc1 : zX σ + 1 ≤ gC G) (hc2 : zS σ + N ≤ gS G) (kk : HT G M (pc + 3) L (.ref (zX σ) :: st) (nw σ k N N) d Q) : HT G M pc L (.int n :: st) σ d Q := by
  intro l p e R s m args below meth c H locs ls Z C hf hl hw hL hq hz T hT X
  subst hT
  subst hN
  have hr := cx_room C X hw hc1 hc2
  have hok := ok_arr (k := k) C.2.2.2.2.2.2.2.2.1 (by omega) (by omega)
  refine W.anew C.1 C.2.1 C.2.2.2.2.1 (C.2.2.2.2.2.2.2.1 _ hcl) (va_AO.use (hov s C.2.2.2.2.2.2.2.2.1.2.1)) (g := F0 m pc ls (.int n :: st)) rfl hd rfl hn (by omega) hr.1 hr.2 ?_ T rfl X
  intro cA kA comp g1 g2 g3 g4
  have hcA : cA = gA G k := by
    have h := hok.2
    rw [← hty] at h
    obtain ⟨_, _, -, -, -, h5⟩ := h
    exact Option.some.inj (g1.symm.trans h5)
  subst hcA
  rw [hw.1]
  refine w_tight (kk l p e R s m args below meth c _ locs ls Z C hf hl ?_ hL hq hz)
  have e1 : (T.heap.push { cls := gA G k, slots := Array.replicate n.toNatClampNeg .null, vm := .none })[T.heap.size]? = some (arrV (gA G k) n.toNatClampNeg (fun _ => .null)) := by rw [← arrV_new]; simp
  refine wd_new hw (by simp) (fun q hq => by rw [Array.getElem?_push, if_neg (Nat.ne_of_lt hq)]) e1 (arrV_size _ _ _) hc1 hc2 ?_
  have hkk : zK (nw σ k n.toNatClampNeg n.toNatClampNeg) (zX σ) = k := by simp [zK_nw, va_up]
  have hnn : zN (nw σ k n.toNatClampNeg n.toNatClampNeg) (zX σ) = n.toNatClampNeg := by simp [zN_nw, va_up]
  unfold at_
  rw [hkk, hnn, if_neg (by omega), if_pos ⟨by omega, by omega⟩, ← hw.1, e1]
  congr 2
  funext j
  have hi : zQ (nw σ k n.toNatClampNeg n.toNatClampNeg) T.heap.size j = none := by rw [hw.1]; simp [zQ_nw, va_up]
  rcases hk with rfl | rfl
  · show Value.null = va_rf _
    rw [hi]
    rfl
  · show Value.null = va_rf _
    rw [hi]
    rfl
theorem ht_new {ci idx : Nat} (hci : ci < 10) (hcl : Cond.classLink M.1.cls idx (cT ci).1 ∈ WS) (hins : Cond.instantiable (cT ci).1 (cT ci).2.2 ∈ WS) (hini : Cond.initialized (cT ci).1 ∈ WS) (hd : decode M.2.1 pc = .ok (.new idx, 3)) (hc1 : zX σ + 1 ≤ gC G) (hc2 : zS σ + (cT ci).2.2 ≤ gS G) (kk : HT G M (pc + 3) L (.ref (zX σ) :: st) (nw σ ci 0 (cT ci).2.2) d Q) : HT G M pc L st σ d Q := by
  intro l p e R s m args below meth c H locs ls Z C hf hl hw hL hq hz T hT X
  subst hT
  have hr := cx_room C X hw hc1 hc2
  have hts := C.2.2.2.2.2.2.2.1
  have hKn := C.2.2.2.2.2.2.2.2.1.1.1 ci _ (cT_some hci)
  refine W.newcK C.1 C.2.1 C.2.2.2.2.1 (hts _ hcl) (hts _ hins) (hts _ hini) (g := F0 m pc ls st) rfl hd hr.1 hr.2 hKn.2.1 rfl ?_ T rfl X
  intro H' kC hkC e1 e2 e3
  rw [hw.1]
  have hsz : (blank ((gD G).1 ci) kC).slots.size = (cT ci).2.2 := by
    obtain ⟨cC, kC', g1, g2, -, g4⟩ := Cond.instantiable_spec (hts _ hins)
    cases hKn.2.1.symm.trans g1
    cases hkC.symm.trans g2
    simp [blank]
    exact g4.2.2
  refine w_tight (kk l p e R s m args below meth c H' locs ls Z C hf hl ?_ hL hq hz)
  refine wd_new hw e2 e3 e1 hsz hc1 hc2 ?_
  have hkk : zK (nw σ ci 0 (cT ci).2.2) (zX σ) = ci := by simp [zK_nw, va_up]
  unfold at_
  rw [hkk, if_pos hci]
  have hb := u_born (tyC ci) hts (clW hci) hKn hkC e1 (tyC_ok hci)
  rw [hw.1] at hb
  refine hb.to fun j hj => ?_
  rw [dfC hci j hj]
  have hi : zI (nw σ ci 0 (cT ci).2.2) (zX σ) j = 0 := by simp [zI_nw, va_up]
  have hjj : zJ (nw σ ci 0 (cT ci).2.2) (zX σ) j = 0 := by simp [zJ_nw, va_up]
  have hqq : zQ (nw σ ci 0 (cT ci).2.2) (zX σ) j = none := by simp [zQ_nw, va_up]
  unfold fv dfv
  rw [hi, hjj, hqq]
  generalize fT ci j = t
  cases t with
  | zero => rfl
  | succ t => cases t with
    | zero => rfl
    | succ t => rfl
end ArrRules
