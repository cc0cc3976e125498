/-! ===== the heap's rules ===== -/
theorem clW0 : ∀ w ∈ u_ws RX0 TX0 1, w ∈ WS := by decide +kernel
theorem clW1 : ∀ w ∈ u_ws RX1 TX1 2, w ∈ WS := by decide +kernel
theorem clW2 : ∀ w ∈ u_ws RX2 TX2 17, w ∈ WS := by decide +kernel
theorem clW3 : ∀ w ∈ u_ws RX3 TX3 5, w ∈ WS := by decide +kernel
theorem clW4 : ∀ w ∈ u_ws RX4 TX4 8, w ∈ WS := by decide +kernel
theorem clW5 : ∀ w ∈ u_ws RX5 TX5 11, w ∈ WS := by decide +kernel
theorem clW6 : ∀ w ∈ u_ws RX6 TX6 2, w ∈ WS := by decide +kernel
theorem clW7 : ∀ w ∈ u_ws RX7 TX7 9, w ∈ WS := by decide +kernel
theorem clW8 : ∀ w ∈ u_ws RX9 TX9 9, w ∈ WS := by decide +kernel
theorem clW9 : ∀ w ∈ u_ws RX10 TX10 57, w ∈ WS := by decide +kernel
theorem clW {ci : Nat} (h : ci < 10) : ∀ w ∈ u_ws (cT ci).1 (cT ci).2.1 (cT ci).2.2, w ∈ WS := by
  match ci, h with
  | 0, _ => exact clW0
  | 1, _ => exact clW1
  | 2, _ => exact clW2
  | 3, _ => exact clW3
  | 4, _ => exact clW4
  | 5, _ => exact clW5
  | 6, _ => exact clW6
  | 7, _ => exact clW7
  | 8, _ => exact clW8
  | 9, _ => exact clW9
theorem tyC_ok {ci : Nat} (h : ci < 10) : ∀ k, k < (cT ci).2.2 → parseFieldDescriptor ((cT ci).2.1 k).2.2.1 = some (tyC ci k) := by
  match ci, h with
  | 0, _ => exact tyX0_ok
  | 1, _ => exact tyX1_ok
  | 2, _ => exact tyX2_ok
  | 3, _ => exact tyX3_ok
  | 4, _ => exact tyX4_ok
  | 5, _ => exact tyX5_ok
  | 6, _ => exact tyX6_ok
  | 7, _ => exact tyX7_ok
  | 8, _ => exact tyX9_ok
  | 9, _ => exact tyX10_ok
theorem nmC {ci : Nat} (h : ci < 10) : ∀ a, a < (cT ci).2.2 → ∀ b, b < (cT ci).2.2 → a ≠ b → ((cT ci).2.1 a).2.1 ≠ ((cT ci).2.1 b).2.1 := by
  match ci, h with
  | 0, _ => exact nmX0
  | 1, _ => exact nmX1
  | 2, _ => exact nmX2
  | 3, _ => exact nmX3
  | 4, _ => exact nmX4
  | 5, _ => exact nmX5
  | 6, _ => exact nmX6
  | 7, _ => exact nmX7
  | 8, _ => exact nmX9
  | 9, _ => exact nmX10
/-- the pool's entry idx of class own is field k of class number ci -/
def FL (own : String) (idx ci k : Nat) : Prop := Cond.fieldLink own idx ((cT ci).2.1 k).1 ((cT ci).2.1 k).2.1 ((cT ci).2.1 k).2.2.1 ∈ WS
section WdRows
variable {G : GG} {σ σ' : Hp} {H H' : Heap} {a b k ci : Nat}
theorem Wd.obj (hw : Wd G σ H) (hK : zK σ a = ci) (hci : ci < 10) : t_OB a ((gD G).1 ci) (cT ci).2.2 ((gD G).2 ci) H (fun j => fv σ a j (fT ci j)) := by
  have ha := hw.2.2.2.2.2.2.2 a
  unfold at_ at ha
  rw [if_pos (by rw [hK]; exact hci), hK] at ha
  exact ha
theorem Wd.arr (hw : Wd G σ H) (hK : zK σ a = k) (h1 : 20 ≤ k) (h2 : k < 26) : H[a]? = some (arrV (gA G k) (zN σ a) (fun j => fv σ a j (eT k))) := by
  have ha := hw.2.2.2.2.2.2.2 a
  unfold at_ at ha
  rw [if_neg (by rw [hK]; omega), if_pos (by rw [hK]; exact ⟨h1, h2⟩), hK] at ha
  exact ha
theorem Wd.ge (hw : Wd G σ H) (hK : zK σ a = k) (h2 : k < 26) : gB G ≤ a := (hw.2.2.2.2.2.2.1 a (by rw [hK]; exact h2)).1
theorem Wd.lt (hw : Wd G σ H) (hK : zK σ a = k) (h2 : k < 26) : a < zX σ := (hw.2.2.2.2.2.2.1 a (by rw [hK]; exact h2)).2
theorem at_congr (hk : zK σ' b = zK σ b) (hn : zN σ' b = zN σ b) (hf : ∀ j c, fv σ' b j c = fv σ b j c) (hh : H'[b]? = H[b]?) (h : at_ G σ b H) : at_ G σ' b H' := by
  unfold at_ at h ⊢
  have e1 : (fun j => fv σ' b j (fT (zK σ b) j)) = fun j => fv σ b j (fT (zK σ b) j) := funext fun j => hf j _
  have e2 : (fun j => fv σ' b j (eT (zK σ b))) = fun j => fv σ b j (eT (zK σ b)) := funext fun j => hf j _
  rw [hk, hn, e1, e2]
  by_cases c1 : zK σ b < 10
  · rw [if_pos c1] at h ⊢
    exact h.kept hh
  · rw [if_neg c1] at h ⊢
    by_cases c2 : 20 ≤ zK σ b ∧ zK σ b < 26
    · rw [if_pos c2] at h ⊢
      rw [hh]
      exact h
    · rw [if_neg c2]
      trivial
/-- one cell is written -/
theorem wd_set (hw : Wd G σ H) (hge : gB G ≤ a) (hz : H'.size = H.size) (ho : ∀ q, q ≠ a → H'[q]? = H[q]?) {cell cell' : Cell} (hc : H[a]? = some cell) (hc' : H'[a]? = some cell') (hs : cell'.slots.size = cell.slots.size)
    (hK : zK σ' = zK σ) (hN : zN σ' = zN σ) (hX : zX σ' = zX σ) (hS : zS σ' = zS σ) (hf : ∀ b, b ≠ a → ∀ j c, fv σ' b j c = fv σ b j c) (hat : at_ G σ' a H') : Wd G σ' H' := by
  obtain ⟨w1, w2, w3, w4, w5, w6, w7, w8⟩ := hw
  refine ⟨by rw [hz, hX]; exact w1, by rw [hX]; exact w2, by rw [hX]; exact w3, by rw [hS]; exact w4, ?_, fun q hq => ?_, fun b hb => ?_, fun b => ?_⟩
  · rw [hS, ← w5]
    refine nS_same hz fun q x hx => ?_
    by_cases e : q = a
    · subst e
      rw [hc] at hx
      cases hx
      exact ⟨cell', hc', hs⟩
    · exact ⟨x, by rw [ho q e]; exact hx, rfl⟩
  · rw [ho q (by omega)]
    exact w6 q hq
  · rw [hX]
    exact w7 b (by rw [← hK]; exact hb)
  · by_cases e : b = a
    · rw [e]
      exact hat
    · exact at_congr (by rw [hK]) (by rw [hN]) (hf b e) (ho b e) (w8 b)
/-- a cell is made -/
theorem wd_new (hw : Wd G σ H) {k len sl : Nat} {cell : Cell} (hz : H'.size = H.size + 1) (ho : ∀ q, q < H.size → H'[q]? = H[q]?) (hc : H'[H.size]? = some cell) (hs : cell.slots.size = sl) (h1 : zX σ + 1 ≤ gC G) (h2 : zS σ + sl ≤ gS G) (hat : at_ G (nw σ k len sl) (zX σ) H') : Wd G (nw σ k len sl) H' := by
  obtain ⟨w1, w2, w3, w4, w5, w6, w7, w8⟩ := hw
  refine ⟨by rw [hz, w1]; rfl, Nat.le_succ_of_le w2, h1, h2, ?_, fun q hq => ?_, fun b hb => ?_, fun b => ?_⟩
  · rw [nS_push (by rw [w1]; exact w2) hz ho hc, hs, w5]
    rfl
  · rw [ho q (by omega)]
    exact w6 q hq
  · by_cases e : b = zX σ
    · rw [e]
      exact ⟨w2, Nat.lt_succ_self _⟩
    · have hk : zK (nw σ k len sl) b = zK σ b := by simp [zK_nw, zN_nw, va_up, e]
      rw [hk] at hb
      have := w7 b hb
      exact ⟨this.1, Nat.lt_succ_of_lt this.2⟩
  · by_cases e : b = zX σ
    · rw [e]
      exact hat
    · have hk : zK (nw σ k len sl) b = zK σ b := by simp [zK_nw, zN_nw, va_up, e]
      have hn : zN (nw σ k len sl) b = zN σ b := by simp [zK_nw, zN_nw, va_up, e]
      have hf : ∀ j c, fv (nw σ k len sl) b j c = fv σ b j c := by
        intro j c
        unfold fv
        simp [zI_nw, zJ_nw, zQ_nw, va_up, e]
      by_cases hlt : b < H.size
      · exact at_congr hk hn hf (ho b hlt) (w8 b)
      · have hno : ¬ zK σ b < 26 := fun q => by
          have := (w7 b q).2
          omega
        unfold at_
        rw [hk, if_neg (by omega), if_neg (by omega)]
        trivial
/-- what a write of place k of cell a is -/
def Ch (σ σ' : Hp) (a k c : Nat) (v : Value) : Prop := zK σ' = zK σ ∧ zN σ' = zN σ ∧ zX σ' = zX σ ∧ zS σ' = zS σ ∧ (∀ b j c', ¬ (b = a ∧ j = k) → fv σ' b j c' = fv σ b j c') ∧ fv σ' a k c = v
theorem ch_I (σ : Hp) (a k : Nat) (x : Int32) : Ch σ (wI σ a k x) a k 0 (.int x) := by
  refine ⟨rfl, rfl, rfl, rfl, fun b j c' h => ?_, ?_⟩
  · unfold fv
    simp only [zI_wI, zJ_wI, zQ_wI, up2, if_neg h]
  · show Value.int (up2 (zI σ) a k x a k) = _
    rw [up2_s]
theorem ch_J (σ : Hp) (a k : Nat) (x : Int64) : Ch σ (wJ σ a k x) a k 1 (.long x) := by
  refine ⟨rfl, rfl, rfl, rfl, fun b j c' h => ?_, ?_⟩
  · unfold fv
    simp only [zI_wJ, zJ_wJ, zQ_wJ, up2, if_neg h]
  · show Value.long (up2 (zJ σ) a k x a k) = _
    rw [up2_s]
theorem ch_Q (σ : Hp) (a k : Nat) (x : Option Nat) : Ch σ (wQ σ a k x) a k 2 (va_rf x) := by
  refine ⟨rfl, rfl, rfl, rfl, fun b j c' h => ?_, ?_⟩
  · unfold fv
    simp only [zI_wQ, zJ_wQ, zQ_wQ, up2, if_neg h]
  · show va_rf (up2 (zQ σ) a k x a k) = _
    rw [up2_s]
theorem size_setSlot (cell : Cell) (i : Nat) (v : Value) : (cell.setSlot i v).slots.size = cell.slots.size := by simp [Cell.setSlot]
theorem wd_put (hw : Wd G σ H) (hK : zK σ a = ci) (hci : ci < 10) (hk : k < (cT ci).2.2) (hap : ∀ x y, x < (cT ci).2.2 → y < (cT ci).2.2 → x ≠ y → (gD G).2 ci x ≠ (gD G).2 ci y) {cell : Cell} {v : Value} (q1 : H[a]? = some cell) (q2 : cell.cls = (gD G).1 ci) (q3 : cell.vm = .none) (q4 : ∀ j, j < (cT ci).2.2 → cell.slots[(gD G).2 ci j]? = some (fv σ a j (fT ci j)))
    (e1 : H'[a]? = some (cell.setSlot ((gD G).2 ci k) v)) (e2 : H'.size = H.size) (e3 : ∀ q, q ≠ a → H'[q]? = H[q]?) (hc : Ch σ σ' a k (fT ci k) v) : Wd G σ' H' := by
  obtain ⟨c1, c2, c3, c4, c5, c6⟩ := hc
  refine wd_set hw (hw.ge hK (by omega)) e2 e3 q1 e1 (size_setSlot _ _ _) c1 c2 c3 c4 (fun b hb j c => c5 b j c (fun q => hb q.1)) ?_
  unfold at_
  rw [c1, hK, if_pos hci]
  refine ⟨_, e1, q2, q3, fun j hj => ?_⟩
  rw [t_set q4 hap hk v j hj]
  show some (if j = k then v else fv σ a j (fT ci j)) = some (fv σ' a j (fT ci j))
  by_cases e : j = k
  · rw [if_pos e, e, c6]
  · rw [if_neg e, c5 a j _ (fun q => e q.2)]
theorem wd_ast (hw : Wd G σ H) (hK : zK σ a = k) (h1 : 20 ≤ k) (h2 : k < 26) {i : Nat} {v : Value} (e1 : H'[a]? = some ((arrV (gA G k) (zN σ a) (fun j => fv σ a j (eT k))).setSlot i v)) (e2 : H'.size = H.size) (e3 : ∀ q, q ≠ a → H'[q]? = H[q]?) (hc : Ch σ σ' a i (eT k) v) : Wd G σ' H' := by
  obtain ⟨c1, c2, c3, c4, c5, c6⟩ := hc
  refine wd_set hw (hw.ge hK h2) e2 e3 (hw.arr hK h1 h2) e1 (size_setSlot _ _ _) c1 c2 c3 c4 (fun b hb j c => c5 b j c (fun q => hb q.1)) ?_
  unfold at_
  rw [c1, c2, hK, if_neg (by omega), if_pos ⟨h1, h2⟩, e1, arrV_store]
  congr 2
  funext j
  unfold updV
  by_cases e : j = i
  · rw [if_pos e, e, c6]
  · rw [if_neg e, c5 a j _ (fun q => e q.2)]
end WdRows
section HeapRules
variable {G : GG} {M : MI} {pc : Nat} {L : List (Option Value)} {st : List Value} {σ : Hp} {d : Nat} {Q : Option Value → Hp → Prop}
theorem ht_get {a ci k idx : Nat} (hci : ci < 10) (hk : k < (cT ci).2.2) (hlink : FL M.1.cls idx ci k) (hd : decode M.2.1 pc = .ok (.getfield idx, 3)) (hK : zK σ a = ci) (kk : HT G M (pc + 3) L (fv σ a k (fT ci k) :: st) σ d Q) : HT G M pc L (.ref a :: st) σ d Q := by
  intro l p e R s m args below meth c H locs ls Z C hf hl hw hL hq hz
  have kk' := kk l p e R s m args below meth c H locs ls Z C hf hl hw hL hq hz
  obtain ⟨hx, hb, hr, hml, hown, hlk, hnm, hts, hok, -⟩ := C
  obtain ⟨cell, q1, q2, q3, q4⟩ := hw.obj hK hci
  obtain ⟨hS, hfc, kC, hkC, hkind⟩ := hok.1.1 ci _ (cT_some hci)
  obtain ⟨cf, kf, fi, f, hi, hsl⟩ := hS k hk
  refine W.getf hx hb hown (hts _ hlink) hi (u_facts hfc hkC (u_lays hts (clW hci) hk) hi).1 q1 (by rw [q3]; exact fun h => by cases h) (v := fv σ a k (fT ci k)) ?_ rfl rfl hd kk'
  rw [hsl, q4 k hk]
theorem ht_getI {a ci k idx : Nat} (hci : ci < 10) (hk : k < (cT ci).2.2) (hlink : FL M.1.cls idx ci k) (hd : decode M.2.1 pc = .ok (.getfield idx, 3)) (hK : zK σ a = ci) (ht : fT ci k = 0) (kk : HT G M (pc + 3) L (.int (zI σ a k) :: st) σ d Q) : HT G M pc L (.ref a :: st) σ d Q :=
  ht_get hci hk hlink hd hK (by rw [ht]; exact kk)
theorem ht_getJ {a ci k idx : Nat} (hci : ci < 10) (hk : k < (cT ci).2.2) (hlink : FL M.1.cls idx ci k) (hd : decode M.2.1 pc = .ok (.getfield idx, 3)) (hK : zK σ a = ci) (ht : fT ci k = 1) (kk : HT G M (pc + 3) L (.long (zJ σ a k) :: st) σ d Q) : HT G M pc L (.ref a :: st) σ d Q :=
  ht_get hci hk hlink hd hK (by rw [ht]; exact kk)
theorem ht_getQ {a ci k idx : Nat} (hci : ci < 10) (hk : k < (cT ci).2.2) (hlink : FL M.1.cls idx ci k) (hd : decode M.2.1 pc = .ok (.getfield idx, 3)) (hK : zK σ a = ci) (ht : fT ci k = 2) {x : Option Nat} (hv : zQ σ a k = x) (kk : HT G M (pc + 3) L (va_rf x :: st) σ d Q) : HT G M pc L (.ref a :: st) σ d Q :=
  ht_get hci hk hlink hd hK (by rw [ht]; subst hv; exact kk)
theorem ht_put {a ci k idx : Nat} {v : Value} {σ' : Hp} (hci : ci < 10) (hk : k < (cT ci).2.2) (hlink : FL M.1.cls idx ci k) (hd : decode M.2.1 pc = .ok (.putfield idx, 3)) (hK : zK σ a = ci) (hfin : ((cT ci).2.1 k).2.2.2 = false ∨ (M.1.name = "<init>" ∧ ((cT ci).2.1 k).1 = M.1.cls)) (hn : narrow (tyC ci k) v = v) (hv : fits (tyC ci k) v = true) (hc : Ch σ σ' a k (fT ci k) v) (kk : HT G M (pc + 3) L st σ' d Q) : HT G M pc L (v :: .ref a :: st) σ d Q := by
  intro l p e R s m args below meth c H locs ls Z C hf hl hw hL hq hz
  obtain ⟨hx, hb, hr, hml, hown, hlk, hnm, hts, hok, -⟩ := id C
  obtain ⟨cell, q1, q2, q3, q4⟩ := hw.obj hK hci
  obtain ⟨hS, hfc, kC, hkC, hkind⟩ := hok.1.1 ci _ (cT_some hci)
  obtain ⟨cf, kf, fi, f, hi, hsl⟩ := hS k hk
  have hlays := u_lays hts (clW hci) hk
  have hst := (u_facts hfc hkC hlays hi).1
  have hap := va_apart (own := M.1.cls) hts (clW hci) (tyC ci) (tyC_ok hci) (nmC hci) hok.1 (cT_some hci)
  have hpd := tyC_ok hci k hk
  have hlt : f.slot < cell.slots.size := by rw [hsl]; exact k2_hasslot (q4 k hk)
  have fin : ∀ H' : Heap, H'[a]? = some (cell.setSlot f.slot v) → H'.size = H.size → (∀ q, q ≠ a → H'[q]? = H[q]?) → W p l e R s m args below meth c H' (locs ++ [⟨a, f.slot⟩]) (H.size - s.heap.size) (nS H s.heap.size) Z (F0 m (pc + 3) ls st) := by
    intro H' e1 e2 e3
    rw [hsl] at e1
    refine w_tight (kk l p e R s m args below meth c H' _ ls Z C hf hl (wd_put hw hK hci hk hap q1 q2 q3 q4 e1 e2 e3 hc) hL (fun q h => ?_) hz)
    rcases List.mem_append.mp h with h | h
    · exact hq q h
    · rw [List.mem_singleton.mp h]
      exact hw.ge hK (by omega)
  by_cases hfi : ((cT ci).2.1 k).2.2.2 = true
  · have hF : M.1.name = "<init>" ∧ ((cT ci).2.1 k).1 = M.1.cls := by
      rcases hfin with h | h
      · rw [hfi] at h
        cases h
      · exact h
    have hlay := hts _ (clW hci _ (u_in_lay hk))
    unfold u_lay at hlay
    rw [if_pos hfi] at hlay
    have hcf : m.cls = cf := by
      obtain ⟨_, _, c', _, _, _, -, -, hf', -, -, -, hown2, -⟩ := Cond.laysFinal_spec hlay
      have e1 : c' = cf := by have := hi.symm.trans hf'; simp at this; exact this.1.symm
      rw [hF.2] at hown2
      rw [← e1]; exact Option.some.inj (hown.symm.trans hown2)
    exact W.putFinK hx hb hown (hts _ hlink) hi hst hcf (by rw [hnm]; exact hF.1) (by rw [q2]; exact u_fits hfc hkC hkind hlays hi hpd hn hv) q1 q3 hlt rfl rfl hd fin
  · have hlay := hts _ (clW hci _ (u_in_lay hk))
    unfold u_lay at hlay
    rw [if_neg hfi] at hlay
    exact W.putK hx hb (f := f) ⟨hown, hts _ hlink, ⟨_, _, _, hi⟩, hst⟩ (by rw [q2]; exact u_store hfc hkC hkind hlay hi hpd hn hv) q1 q3 hlt rfl rfl hd fin
theorem ht_putI {a ci k idx : Nat} {x : Int32} (hci : ci < 10) (hk : k < (cT ci).2.2) (hlink : FL M.1.cls idx ci k) (hd : decode M.2.1 pc = .ok (.putfield idx, 3)) (hK : zK σ a = ci) (hfin : ((cT ci).2.1 k).2.2.2 = false ∨ (M.1.name = "<init>" ∧ ((cT ci).2.1 k).1 = M.1.cls)) (ht : fT ci k = 0) (hn : narrow (tyC ci k) (.int x) = .int x) (hv : fits (tyC ci k) (.int x) = true) (kk : HT G M (pc + 3) L st (wI σ a k x) d Q) : HT G M pc L (.int x :: .ref a :: st) σ d Q :=
  ht_put hci hk hlink hd hK hfin hn hv (by rw [ht]; exact ch_I σ a k x) kk
theorem ht_putJ {a ci k idx : Nat} {x : Int64} (hci : ci < 10) (hk : k < (cT ci).2.2) (hlink : FL M.1.cls idx ci k) (hd : decode M.2.1 pc = .ok (.putfield idx, 3)) (hK : zK σ a = ci) (hfin : ((cT ci).2.1 k).2.2.2 = false ∨ (M.1.name = "<init>" ∧ ((cT ci).2.1 k).1 = M.1.cls)) (ht : fT ci k = 1) (hn : narrow (tyC ci k) (.long x) = .long x) (hv : fits (tyC ci k) (.long x) = true) (kk : HT G M (pc + 3) L st (wJ σ a k x) d Q) : HT G M pc L (.long x :: .ref a :: st) σ d Q :=
  ht_put hci hk hlink hd hK hfin hn hv (by rw [ht]; exact ch_J σ a k x) kk
theorem ht_putQ {a ci k idx : Nat} (x : Option Nat) (hci : ci < 10) (hk : k < (cT ci).2.2) (hlink : FL M.1.cls idx ci k) (hd : decode M.2.1 pc = .ok (.putfield idx, 3)) (hK : zK σ a = ci) (hfin : ((cT ci).2.1 k).2.2.2 = false ∨ (M.1.name = "<init>" ∧ ((cT ci).2.1 k).1 = M.1.cls)) (ht : fT ci k = 2) (hn : narrow (tyC ci k) (va_rf x) = va_rf x) (hv : fits (tyC ci k) (va_rf x) = true) (kk : HT G M (pc + 3) L st (wQ σ a k x) d Q) : HT G M pc L (va_rf x :: .ref a :: st) σ d Q :=
  ht_put hci hk hlink hd hK hfin hn hv (by rw [ht]; exact ch_Q σ a k x) kk
end HeapRules
