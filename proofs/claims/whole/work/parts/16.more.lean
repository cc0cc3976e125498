/-! ===== array rules with a place that is a Nat; references' arrays; arraycopy; Math ===== -/
def wR (σ : Hp) (a : Nat) (f : Nat → Int32) : Hp := (zK σ, zN σ, va_up (zI σ) a f, zJ σ, zQ σ, zX σ, zS σ)
theorem zI_wR (σ : Hp) (a : Nat) (f : Nat → Int32) : zI (wR σ a f) = va_up (zI σ) a f := rfl
section More
variable {G : GG} {M : MI} {pc : Nat} {L : List (Option Value)} {st : List Value} {σ : Hp} {d : Nat} {Q : Option Value → Hp → Prop} {a n N : Nat} {i : Int32}
theorem ht_ild (hd : decode M.2.1 pc = .ok (.iaload, 1)) (hK : zK σ a = 20) (hN : zN σ a = N) (hi : i = nI n) (h : n < N) (hb : N < 2 ^ 31) (kk : HT G M (pc + 1) L (.int (zI σ a n) :: st) σ d Q) : HT G M pc L (.int i :: .ref a :: st) σ d Q := by
  subst hi
  refine ht_iald hd hK (by rw [hN]; exact vp_in_nI h hb) ?_
  rw [nI_clamp (by omega)]
  exact kk
theorem ht_lld (hd : decode M.2.1 pc = .ok (.laload, 1)) (hK : zK σ a = 21) (hN : zN σ a = N) (hi : i = nI n) (h : n < N) (hb : N < 2 ^ 31) (kk : HT G M (pc + 1) L (.long (zJ σ a n) :: st) σ d Q) : HT G M pc L (.int i :: .ref a :: st) σ d Q := by
  subst hi
  refine ht_lald hd hK (by rw [hN]; exact vp_in_nI h hb) ?_
  rw [nI_clamp (by omega)]
  exact kk
theorem ht_bld (hd : decode M.2.1 pc = .ok (.baload, 1)) (hK : zK σ a = 22) (hN : zN σ a = N) (hi : i = nI n) (h : n < N) (hb : N < 2 ^ 31) (kk : HT G M (pc + 1) L (.int (zI σ a n) :: st) σ d Q) : HT G M pc L (.int i :: .ref a :: st) σ d Q := by
  subst hi
  refine ht_bald hd hK (by rw [hN]; exact vp_in_nI h hb) ?_
  rw [nI_clamp (by omega)]
  exact kk
theorem ht_zld (hd : decode M.2.1 pc = .ok (.baload, 1)) (hK : zK σ a = 23) (hN : zN σ a = N) (hi : i = nI n) (h : n < N) (hb : N < 2 ^ 31) (kk : HT G M (pc + 1) L (.int (zI σ a n) :: st) σ d Q) : HT G M pc L (.int i :: .ref a :: st) σ d Q := by
  subst hi
  refine ht_zald hd hK (by rw [hN]; exact vp_in_nI h hb) ?_
  rw [nI_clamp (by omega)]
  exact kk
theorem ht_ist {x : Int32} (hd : decode M.2.1 pc = .ok (.iastore, 1)) (hK : zK σ a = 20) (hN : zN σ a = N) (hi : i = nI n) (h : n < N) (hb : N < 2 ^ 31) (kk : HT G M (pc + 1) L st (wI σ a n x) d Q) : HT G M pc L (.int x :: .int i :: .ref a :: st) σ d Q := by
  subst hi
  refine ht_iast hd hK (by rw [hN]; exact vp_in_nI h hb) ?_
  rw [nI_clamp (by omega)]
  exact kk
theorem ht_lst {x : Int64} (hd : decode M.2.1 pc = .ok (.lastore, 1)) (hK : zK σ a = 21) (hN : zN σ a = N) (hi : i = nI n) (h : n < N) (hb : N < 2 ^ 31) (kk : HT G M (pc + 1) L st (wJ σ a n x) d Q) : HT G M pc L (.long x :: .int i :: .ref a :: st) σ d Q := by
  subst hi
  refine ht_last hd hK (by rw [hN]; exact vp_in_nI h hb) ?_
  rw [nI_clamp (by omega)]
  exact kk
theorem ht_bst {x y : Int32} (hd : decode M.2.1 pc = .ok (.bastore, 1)) (hK : zK σ a = 22) (hN : zN σ a = N) (hi : i = nI n) (h : n < N) (hb : N < 2 ^ 31) (hn : narrow .byte (.int x) = .int y) (kk : HT G M (pc + 1) L st (wI σ a n y) d Q) : HT G M pc L (.int x :: .int i :: .ref a :: st) σ d Q := by
  subst hi
  refine ht_bast hd hK (by rw [hN]; exact vp_in_nI h hb) hn ?_
  rw [nI_clamp (by omega)]
  exact kk
theorem ht_zst {x y : Int32} (hd : decode M.2.1 pc = .ok (.bastore, 1)) (hK : zK σ a = 23) (hN : zN σ a = N) (hi : i = nI n) (h : n < N) (hb : N < 2 ^ 31) (hn : narrow .boolean (.int x) = .int y) (kk : HT G M (pc + 1) L st (wI σ a n y) d Q) : HT G M pc L (.int x :: .int i :: .ref a :: st) σ d Q := by
  subst hi
  refine ht_zast hd hK (by rw [hN]; exact vp_in_nI h hb) hn ?_
  rw [nI_clamp (by omega)]
  exact kk
theorem ht_len {k : Nat} (h1 : 20 ≤ k) (h2 : k < 26) (hd : decode M.2.1 pc = .ok (.arraylength, 1)) (hK : zK σ a = k) (hN : zN σ a = N) (kk : HT G M (pc + 1) L (.int (nI N) :: st) σ d Q) : HT G M pc L (.ref a :: st) σ d Q :=
  ht_alen h1 h2 hd hK (by rw [hN]; exact kk)
theorem ht_ald {k : Nat} (hk : k = 24 ∨ k = 25) (hd : decode M.2.1 pc = .ok (.aaload, 1)) (hK : zK σ a = k) (hN : zN σ a = N) (hi : i = nI n) (h : n < N) (hb : N < 2 ^ 31) {x : Option Nat} (hv : zQ σ a n = x) (kk : HT G M (pc + 1) L (va_rf x :: st) σ d Q) : HT G M pc L (.int i :: .ref a :: st) σ d Q := by
  subst hi
  exact ht_aald hk hd hK (by rw [hN]; exact vp_in_nI h hb) (by rw [nI_clamp (by omega)]; exact hv) kk
theorem ht_ast {k ci v : Nat} (hk : k = 24 ∧ ci = 3 ∨ k = 25 ∧ ci = 4) (hd : decode M.2.1 pc = .ok (.aastore, 1)) (hK : zK σ a = k) (hv : zK σ v = ci) (hN : zN σ a = N) (hi : i = nI n) (h : n < N) (hb : N < 2 ^ 31) (kk : HT G M (pc + 1) L st (wQ σ a n (some v)) d Q) : HT G M pc L (.ref v :: .int i :: .ref a :: st) σ d Q := by
  subst hi
  intro l p e R s m args below meth c H locs ls Z C hf hl hw hL hq hz
  have hcn : (nI n).toNatClampNeg = n := nI_clamp (by omega)
  have hok0 := C.2.2.2.2.2.2.2.2.1
  have hok := ok_arr (k := k) hok0 (by omega) (by omega)
  obtain ⟨cellV, g1, g2, g3, -⟩ := hw.obj hv (by omega)
  have hcls := (hok0.1.1 ci _ (cT_some (by omega))).2
  have hR : va_RA s (gA G k) (.object (cT ci).1) := by
    rcases hk with ⟨rfl, rfl⟩ | ⟨rfl, rfl⟩
    · exact hok.2
    · exact hok.2
  obtain ⟨kA, comp, k1, k2, k3, -⟩ := hR
  have hcomp : comp = (gD G).1 ci := Option.some.inj (k3.symm.trans hcls.1)
  subst hcomp
  obtain ⟨kC, hkC, -⟩ := hcls.2
  have hin := vp_in_nI (n := n) (N := N) h hb
  refine W.aast C.1 C.2.1 (hw.arr hK (by omega) (by omega)) (fun q h => by cases h) (fun h => by cases h) k1 k2 rfl hkC ⟨fun q => hin (Or.inl q), by rw [arrV_size, hcn, hN]; exact h⟩ g1 (fun q h => by rw [g3] at h; cases h) (by rw [g2]; exact hkC) (by rw [g2]; exact va_assign hcls) rfl rfl hd fun H' e1 e2 e3 => ?_
  rw [hcn] at e1
  refine w_tight (kk l p e R s m args below meth c H' _ ls Z C hf hl (wd_ast hw hK (by omega) (by omega) e1 e2 e3 ?_) hL (loc1 hq (hw.ge hK (by omega))) hz)
  have he : eT k = 2 := by rcases hk with ⟨rfl, -⟩ | ⟨rfl, -⟩ <;> rfl
  rw [he]
  exact ch_Q σ a n (some v)
theorem ht_mmin {x y : Int32} {idx : Nat} (h1 : Cond.methodLink M.1.cls idx Lib.Math.min.name ∈ WS) (h2 : Cond.static Lib.Math.min.name ∈ WS) (h3 : Cond.initialized "java/lang/Math" ∈ WS) (h4 : Cond.code Lib.Math.min.name Lib.Math.min.code 2 (some .int) ∈ WS) (hd : decode M.2.1 pc = .ok (.invokestatic idx, 3)) (hr : (st.map fun v => v.category).sum ≤ 8) (hdd : 1 ≤ d) (kk : HT G M (pc + 3) L (.int (if y < x then y else x) :: st) σ d Q) : HT G M pc L (.int y :: .int x :: st) σ d Q := by
  intro l p e R s m args below meth c H locs ls Z C hf hl hw hL hq hz T hT X
  subst hT
  have hts := C.2.2.2.2.2.2.2.1
  have a0 := st_size X
  have a1 := st_nS (b := gB G) C.2.2.2.2.2.2.2.2.2.1 X
  have a3 := hw.1
  have a4 := hw.2.2.1
  have a5 := hw.2.2.2.1
  have a6 := hw.2.2.2.2.1
  have c2 := C.2.2.2.2.2.2.2.2.2.2.1
  have c3 := C.2.2.2.2.2.2.2.2.2.2.2
  exact va_mmin C.1 C.2.1 (C.2.2.2.1.trans hL.1.symm) C.2.2.2.2.1 (hts _ h1) (hts _ h2) (hts _ h3) (hts _ h4) (by omega) (by omega) (by omega) (by omega) hd (kk l p e R s m args below meth c T.heap locs ls Z C hf hl hw hL hq hz) T rfl X
theorem ht_mmax {x y : Int32} {idx : Nat} (h1 : Cond.methodLink M.1.cls idx Lib.Math.max.name ∈ WS) (h2 : Cond.static Lib.Math.max.name ∈ WS) (h3 : Cond.initialized "java/lang/Math" ∈ WS) (h4 : Cond.code Lib.Math.max.name Lib.Math.max.code 2 (some .int) ∈ WS) (hd : decode M.2.1 pc = .ok (.invokestatic idx, 3)) (hr : (st.map fun v => v.category).sum ≤ 8) (hdd : 1 ≤ d) (kk : HT G M (pc + 3) L (.int (if x < y then y else x) :: st) σ d Q) : HT G M pc L (.int y :: .int x :: st) σ d Q := by
  intro l p e R s m args below meth c H locs ls Z C hf hl hw hL hq hz T hT X
  subst hT
  have hts := C.2.2.2.2.2.2.2.1
  have a0 := st_size X
  have a1 := st_nS (b := gB G) C.2.2.2.2.2.2.2.2.2.1 X
  have a3 := hw.1
  have a4 := hw.2.2.1
  have a5 := hw.2.2.2.1
  have a6 := hw.2.2.2.2.1
  have c2 := C.2.2.2.2.2.2.2.2.2.2.1
  have c3 := C.2.2.2.2.2.2.2.2.2.2.2
  exact va_mmax C.1 C.2.1 (C.2.2.2.1.trans hL.1.symm) C.2.2.2.2.1 (hts _ h1) (hts _ h2) (hts _ h3) (hts _ h4) (by omega) (by omega) (by omega) (by omega) hd (kk l p e R s m args below meth c T.heap locs ls Z C hf hl hw hL hq hz) T rfl X
/-- System.arraycopy of ints, from place 0 to place 0, between two arrays -/
theorem ht_acopy {a0 n0 n1 idx : Nat} {z0 z1 : Int32} (hl1 : Cond.methodLink M.1.cls idx arraycopyName ∈ WS) (hl2 : Cond.native arraycopyName ∈ WS) (hl3 : Cond.static arraycopyName ∈ WS) (hl4 : Cond.initialized "java/lang/System" ∈ WS) (hd : decode M.2.1 pc = .ok (.invokestatic idx, 3)) (hK0 : zK σ a0 = 20) (hK : zK σ a = 20) (hne : a0 ≠ a) (hN0 : zN σ a0 = n0) (hN : zN σ a = n1) (hz0 : z0 = 0) (hz1 : z1 = 0) (hi : i = nI n) (h0 : n ≤ n0) (h1 : n ≤ n1) (hb : n < 2 ^ 31) (hr : (st.map fun v => v.category).sum ≤ 8) (hdd : 1 ≤ d)
    (kk : HT G M (pc + 3) L st (wR σ a (va_cpy (zI σ a0) (zI σ a) 0 0 n)) d Q) : HT G M pc L (.int i :: .int z1 :: .ref a :: .int z0 :: .ref a0 :: st) σ d Q := by
  subst hz0; subst hz1; subst hi; subst hN0; subst hN
  intro l p e R s m args below meth c H locs ls Z C hf hl hw hL hq hz T hT X
  subst hT
  have hts := C.2.2.2.2.2.2.2.1
  have hok0 := C.2.2.2.2.2.2.2.2.1
  have hc0 : (0 : Int32).toNatClampNeg = 0 := rfl
  have hcn : (nI n).toNatClampNeg = n := nI_clamp hb
  have hA0 : T.heap[a0]? = some (arrV (gA G 20) (zN σ a0) (fun j => .int (zI σ a0 j))) := hw.arr hK0 (by omega) (by omega)
  have hA1 : T.heap[a]? = some (arrV (gA G 20) (zN σ a) (fun j => .int (zI σ a j))) := hw.arr hK (by omega) (by omega)
  have hok := ok_arr (k := 20) hok0 (by omega) (by omega)
  obtain ⟨-, k0, hk0, cm0, hkk0⟩ := hok.1 (zN σ a0) (fun j => .int (zI σ a0 j))
  obtain ⟨-, k1, hk1, cm1, hkk1⟩ := hok.1 (zN σ a) (fun j => .int (zI σ a j))
  have nn : (nI n).toInt = (n : Int) := nI_toInt hb
  have hwd : nativeFrameWords "java/lang/System" "arraycopy" 5 ≤ 30 := by decide
  obtain ⟨vm', X', step⟩ := X.arraycopy C.1 C.2.2.2.2.1 (hts _ hl1) (hts _ hl2) (hts _ hl3) (hts _ hl4) (src := a0) (dst := a) (cs := arrV (gA G 20) (zN σ a0) (fun j => .int (zI σ a0 j))) (cd := arrV (gA G 20) (zN σ a) (fun j => .int (zI σ a j))) (srcPos := 0) (destPos := 0) (n := nI n) hA0 hA1
    (fun _ h => by cases h) (fun _ h => by cases h) (fun h => by cases h) (fun h => by cases h) hk0 hk1 hkk0 hkk1 (by decide) (by decide) (by decide) (nI_pos hb)
    (by rw [nn, arrV_size]; show ¬ (0 : Int) + _ > _; omega) (by rw [nn, arrV_size]; show ¬ (0 : Int) + _ > _; omega)
    (fun vm₁ _ j hj => by
      rw [hcn] at hj
      have e : (arrV (gA G 20) (zN σ a0) (fun j => .int (zI σ a0 j))).slots.getD ((0 : Int32).toNatClampNeg + j) .null = .int (zI σ a0 j) := by
        rw [hc0, Nat.zero_add, Array.getD_eq_getD_getElem?, arrV_read _ _ (by omega)]
        rfl
      rw [e]
      exact ⟨rfl, trivial⟩)
    (g := F0 m pc ls (.int (nI n) :: .int 0 :: .ref a :: .int 0 :: .ref a0 :: st)) rfl (hL.1.trans C.2.2.2.1.symm) (rest := st) rfl (by rw [C.2.1]; exact hd) (by omega) (by show 2 * 0 + _ + _ ≤ _; omega)
  have e1 : copied (arrV (gA G 20) (zN σ a0) (fun j => .int (zI σ a0 j))) (arrV (gA G 20) (zN σ a) (fun j => .int (zI σ a j))) 0 0 (nI n) = arrV (gA G 20) (zN σ a) (fun j => .int (va_cpy (zI σ a0) (zI σ a) (0 : Int32).toNatClampNeg (0 : Int32).toNatClampNeg (nI n).toNatClampNeg j)) := va_copied (fun z => .int z) (gA G 20) (gA G 20) (zI σ a0) (zI σ a) (by rw [hc0, hcn]; omega)
  rw [hcn, hc0] at e1
  rw [e1] at X' step
  have hlt : a < T.heap.size := (Array.getElem?_eq_some_iff.mp hA1).1
  have hh : ((T.setVm vm').setCell a (arrV (gA G 20) (zN σ a) (fun j => .int (va_cpy (zI σ a0) (zI σ a) 0 0 n j)))).heap = T.heap.setIfInBounds a (arrV (gA G 20) (zN σ a) (fun j => .int (va_cpy (zI σ a0) (zI σ a) 0 0 n j))) := rfl
  have c1 : (T.heap.setIfInBounds a (arrV (gA G 20) (zN σ a) (fun j => .int (va_cpy (zI σ a0) (zI σ a) 0 0 n j))))[a]? = some (arrV (gA G 20) (zN σ a) (fun j => .int (va_cpy (zI σ a0) (zI σ a) 0 0 n j))) := by simp [Array.getElem?_setIfInBounds, hlt]
  have hw' : Wd G (wR σ a (va_cpy (zI σ a0) (zI σ a) 0 0 n)) (T.heap.setIfInBounds a (arrV (gA G 20) (zN σ a) (fun j => .int (va_cpy (zI σ a0) (zI σ a) 0 0 n j)))) := by
    refine wd_set hw (hw.ge hK (by omega)) (by simp) (fun q hq => by simp [Array.getElem?_setIfInBounds, Ne.symm hq]) hA1 c1 (by rw [arrV_size, arrV_size]) rfl rfl rfl rfl (fun b hb j c => ?_) ?_
    · unfold fv
      rw [zI_wR]
      simp only [va_up, if_neg hb]
      rfl
    · unfold at_
      have hkk : zK (wR σ a (va_cpy (zI σ a0) (zI σ a) 0 0 n)) a = 20 := hK
      rw [hkk, if_neg (by omega), if_pos ⟨by omega, by omega⟩, c1]
      congr 2
      funext j
      show Value.int _ = Value.int (va_up (zI σ) a (va_cpy (zI σ a0) (zI σ a) 0 0 n) a j)
      simp [va_up]
  obtain ⟨t2, q1, q2⟩ := kk l p e R s m args below meth c _ _ ls Z C hf hl hw' hL (fun q h => by
    rcases List.mem_append.mp h with h | h
    · exact hq q h
    · obtain ⟨z, -, hz⟩ := List.mem_map.mp h
      rw [← hz]
      exact hw.ge hK (by omega)) hz _ hh (st_tight X')
  exact ⟨t2, step t2 q1, q2⟩
end More
