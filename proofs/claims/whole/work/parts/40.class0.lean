/-! ===== the class: its view (ints Z by address and place), shapes of its objects, rules over the view ===== -/
def NE (G : GG) : Prop := (∀ s, gE G s → va_Nw (.methodLinkNest RX9 11 yX6_init "FrostLocks") s) ∧ (∀ s, gE G s → va_Nw (.methodLinkNest RX9 18 yX2_init "FrostLocks") s) ∧ (∀ s, gE G s → va_Nw (.methodLinkNest RX4 30 yX3_init "FrostLocks") s) ∧ (∀ s, gE G s → va_Nw (.methodLinkNest RX6 13 yX9_isWithin "FrostLocks") s) ∧ (∀ s, gE G s → va_Nw (.methodLinkNest RX5 11 yX2_init "FrostLocks") s) ∧ (∀ s, gE G s → va_Nw (.methodLinkNest RX7 49 yX9_isWithin "FrostLocks") s) ∧ (∀ s, gE G s → va_Nw (.methodLinkNest RX5 265 yX9_isWithin "FrostLocks") s) ∧ (∀ s, gE G s → va_AO RX3 s) ∧ (∀ s, gE G s → va_AO RX4 s)
theorem NE.X9_11 {G : GG} (h : NE G) : ∀ s, gE G s → va_Nw (.methodLinkNest RX9 11 yX6_init "FrostLocks") s := h.1
theorem NE.X9_18 {G : GG} (h : NE G) : ∀ s, gE G s → va_Nw (.methodLinkNest RX9 18 yX2_init "FrostLocks") s := h.2.1
theorem NE.X4_30 {G : GG} (h : NE G) : ∀ s, gE G s → va_Nw (.methodLinkNest RX4 30 yX3_init "FrostLocks") s := h.2.2.1
theorem NE.X6_13 {G : GG} (h : NE G) : ∀ s, gE G s → va_Nw (.methodLinkNest RX6 13 yX9_isWithin "FrostLocks") s := h.2.2.2.1
theorem NE.X5_11 {G : GG} (h : NE G) : ∀ s, gE G s → va_Nw (.methodLinkNest RX5 11 yX2_init "FrostLocks") s := h.2.2.2.2.1
theorem NE.X7_49 {G : GG} (h : NE G) : ∀ s, gE G s → va_Nw (.methodLinkNest RX7 49 yX9_isWithin "FrostLocks") s := h.2.2.2.2.2.1
theorem NE.X5_265 {G : GG} (h : NE G) : ∀ s, gE G s → va_Nw (.methodLinkNest RX5 265 yX9_isWithin "FrostLocks") s := h.2.2.2.2.2.2.1
theorem NE.ao3 {G : GG} (h : NE G) : ∀ s, gE G s → va_AO RX3 s := h.2.2.2.2.2.2.2.1
theorem NE.ao4 {G : GG} (h : NE G) : ∀ s, gE G s → va_AO RX4 s := h.2.2.2.2.2.2.2.2
def cv (σ : Hp) (Z : VT) : Hp := (zK σ, zN σ, Z, zJ σ, zQ σ, zX σ, zS σ)
theorem cv_id (σ : Hp) : cv σ (zI σ) = σ := rfl
theorem cv_cv (σ : Hp) (Z Z2 : VT) : cv (cv σ Z) Z2 = cv σ Z2 := rfl
section CV
variable {G : GG} {M : MI} {pc : Nat} {L : List (Option Value)} {st : List Value} {σ : Hp} {d : Nat} {Q : Option Value → Hp → Prop} {a : Nat} {Z : VT} {n N : Nat} {i : Int32}
theorem ht_ldcw {index : Nat} {v : Int32} (hc : Cond.constant M.1.cls index v ∈ WS) (hd : decode M.2.1 pc = .ok (.ldc_w index, 3)) (k : HT G M (pc + 3) L (.int v :: st) σ d Q) : HT G M pc L st σ d Q :=
  fun l p e R s m args below meth c H locs ls Z C hf hl hw hL hq hz => lv_ldcw C.1 C.2.1 C.2.2.2.2.1 (C.2.2.2.2.2.2.2.1 _ hc) hd (k l p e R s m args below meth c H locs ls Z C hf hl hw hL hq hz)
theorem hi_ild (hd : decode M.2.1 pc = .ok (.iaload, 1)) (hK : zK σ a = 20) (hN : zN σ a = N) (hi : i = nI n) (h : n < N) (hb : N < 2 ^ 31) (kk : HT G M (pc + 1) L (.int (Z a n) :: st) (cv σ Z) d Q) : HT G M pc L (.int i :: .ref a :: st) (cv σ Z) d Q := ht_ild (σ := cv σ Z) hd hK hN hi h hb kk
theorem hi_bld (hd : decode M.2.1 pc = .ok (.baload, 1)) (hK : zK σ a = 22) (hN : zN σ a = N) (hi : i = nI n) (h : n < N) (hb : N < 2 ^ 31) (kk : HT G M (pc + 1) L (.int (Z a n) :: st) (cv σ Z) d Q) : HT G M pc L (.int i :: .ref a :: st) (cv σ Z) d Q := ht_bld (σ := cv σ Z) hd hK hN hi h hb kk
theorem hi_ist {x : Int32} (hd : decode M.2.1 pc = .ok (.iastore, 1)) (hK : zK σ a = 20) (hN : zN σ a = N) (hi : i = nI n) (h : n < N) (hb : N < 2 ^ 31) (kk : HT G M (pc + 1) L st (cv σ (up2 Z a n x)) d Q) : HT G M pc L (.int x :: .int i :: .ref a :: st) (cv σ Z) d Q := ht_ist (σ := cv σ Z) hd hK hN hi h hb kk
theorem hi_bst {x y : Int32} (hd : decode M.2.1 pc = .ok (.bastore, 1)) (hK : zK σ a = 22) (hN : zN σ a = N) (hi : i = nI n) (h : n < N) (hb : N < 2 ^ 31) (hn : narrow .byte (.int x) = .int y) (kk : HT G M (pc + 1) L st (cv σ (up2 Z a n y)) d Q) : HT G M pc L (.int x :: .int i :: .ref a :: st) (cv σ Z) d Q := ht_bst (σ := cv σ Z) hd hK hN hi h hb hn kk
theorem gi_X7_16 (hc : M.1.cls = RX7) (hd : decode M.2.1 pc = .ok (.getfield 16, 3)) (hK : zK σ a = 6) (kk : HT G M (pc + 3) L (.int (Z a 1) :: st) (cv σ Z) d Q) : HT G M pc L (.ref a :: st) (cv σ Z) d Q := gf_X7_16 (σ := cv σ Z) hc hd hK kk
theorem gi_X9_55 (hc : M.1.cls = RX9) (hd : decode M.2.1 pc = .ok (.getfield 55, 3)) (hK : zK σ a = 6) (kk : HT G M (pc + 3) L (.int (Z a 1) :: st) (cv σ Z) d Q) : HT G M pc L (.ref a :: st) (cv σ Z) d Q := gf_X9_55 (σ := cv σ Z) hc hd hK kk
theorem pi_X9_55 {x : Int32} (hc : M.1.cls = RX9) (hd : decode M.2.1 pc = .ok (.putfield 55, 3)) (hK : zK σ a = 6) (kk : HT G M (pc + 3) L st (cv σ (up2 Z a 1 x)) d Q) : HT G M pc L (.int x :: .ref a :: st) (cv σ Z) d Q := pf_X9_55 (σ := cv σ Z) hc hd hK kk
theorem gi_X6_19 (hc : M.1.cls = RX6) (hd : decode M.2.1 pc = .ok (.getfield 19, 3)) (hK : zK σ a = 6) (kk : HT G M (pc + 3) L (.int (Z a 1) :: st) (cv σ Z) d Q) : HT G M pc L (.ref a :: st) (cv σ Z) d Q := gf_X6_19 (σ := cv σ Z) hc hd hK kk
theorem pi_X6_19 {x : Int32} (hc : M.1.cls = RX6) (hd : decode M.2.1 pc = .ok (.putfield 19, 3)) (hK : zK σ a = 6) (kk : HT G M (pc + 3) L st (cv σ (up2 Z a 1 x)) d Q) : HT G M pc L (.int x :: .ref a :: st) (cv σ Z) d Q := pf_X6_19 (σ := cv σ Z) hc hd hK kk
theorem gi_X9_76 (hc : M.1.cls = RX9) (hd : decode M.2.1 pc = .ok (.getfield 76, 3)) (hK : zK σ a = 2) (kk : HT G M (pc + 3) L (.int (Z a 0) :: st) (cv σ Z) d Q) : HT G M pc L (.ref a :: st) (cv σ Z) d Q := gf_X9_76 (σ := cv σ Z) hc hd hK kk
theorem gi_X2_54 (hc : M.1.cls = RX2) (hd : decode M.2.1 pc = .ok (.getfield 54, 3)) (hK : zK σ a = 2) (kk : HT G M (pc + 3) L (.int (Z a 0) :: st) (cv σ Z) d Q) : HT G M pc L (.ref a :: st) (cv σ Z) d Q := gf_X2_54 (σ := cv σ Z) hc hd hK kk
theorem gi_X5_154 (hc : M.1.cls = RX5) (hd : decode M.2.1 pc = .ok (.getfield 154, 3)) (hK : zK σ a = 2) (kk : HT G M (pc + 3) L (.int (Z a 0) :: st) (cv σ Z) d Q) : HT G M pc L (.ref a :: st) (cv σ Z) d Q := gf_X5_154 (σ := cv σ Z) hc hd hK kk
theorem pi_X5_154 {x : Int32} (hc : M.1.cls = RX5) (hd : decode M.2.1 pc = .ok (.putfield 154, 3)) (hK : zK σ a = 2) (kk : HT G M (pc + 3) L st (cv σ (up2 Z a 0 x)) d Q) : HT G M pc L (.int x :: .ref a :: st) (cv σ Z) d Q := pf_X5_154 (σ := cv σ Z) hc hd hK kk
theorem gi_X9_97 (hc : M.1.cls = RX9) (hd : decode M.2.1 pc = .ok (.getfield 97, 3)) (hK : zK σ a = 2) (kk : HT G M (pc + 3) L (.int (Z a 1) :: st) (cv σ Z) d Q) : HT G M pc L (.ref a :: st) (cv σ Z) d Q := gf_X9_97 (σ := cv σ Z) hc hd hK kk
theorem gi_X2_58 (hc : M.1.cls = RX2) (hd : decode M.2.1 pc = .ok (.getfield 58, 3)) (hK : zK σ a = 2) (kk : HT G M (pc + 3) L (.int (Z a 1) :: st) (cv σ Z) d Q) : HT G M pc L (.ref a :: st) (cv σ Z) d Q := gf_X2_58 (σ := cv σ Z) hc hd hK kk
theorem gi_X4_74 (hc : M.1.cls = RX4) (hd : decode M.2.1 pc = .ok (.getfield 74, 3)) (hK : zK σ a = 2) (kk : HT G M (pc + 3) L (.int (Z a 1) :: st) (cv σ Z) d Q) : HT G M pc L (.ref a :: st) (cv σ Z) d Q := gf_X4_74 (σ := cv σ Z) hc hd hK kk
theorem gi_X5_174 (hc : M.1.cls = RX5) (hd : decode M.2.1 pc = .ok (.getfield 174, 3)) (hK : zK σ a = 2) (kk : HT G M (pc + 3) L (.int (Z a 1) :: st) (cv σ Z) d Q) : HT G M pc L (.ref a :: st) (cv σ Z) d Q := gf_X5_174 (σ := cv σ Z) hc hd hK kk
theorem pi_X5_174 {x : Int32} (hc : M.1.cls = RX5) (hd : decode M.2.1 pc = .ok (.putfield 174, 3)) (hK : zK σ a = 2) (kk : HT G M (pc + 3) L st (cv σ (up2 Z a 1 x)) d Q) : HT G M pc L (.int x :: .ref a :: st) (cv σ Z) d Q := pf_X5_174 (σ := cv σ Z) hc hd hK kk
theorem gi_X4_64 (hc : M.1.cls = RX4) (hd : decode M.2.1 pc = .ok (.getfield 64, 3)) (hK : zK σ a = 2) (kk : HT G M (pc + 3) L (.int (Z a 2) :: st) (cv σ Z) d Q) : HT G M pc L (.ref a :: st) (cv σ Z) d Q := gf_X4_64 (σ := cv σ Z) hc hd hK kk
theorem gi_X9_121 (hc : M.1.cls = RX9) (hd : decode M.2.1 pc = .ok (.getfield 121, 3)) (hK : zK σ a = 2) (kk : HT G M (pc + 3) L (.int (Z a 2) :: st) (cv σ Z) d Q) : HT G M pc L (.ref a :: st) (cv σ Z) d Q := gf_X9_121 (σ := cv σ Z) hc hd hK kk
theorem gi_X5_205 (hc : M.1.cls = RX5) (hd : decode M.2.1 pc = .ok (.getfield 205, 3)) (hK : zK σ a = 2) (kk : HT G M (pc + 3) L (.int (Z a 2) :: st) (cv σ Z) d Q) : HT G M pc L (.ref a :: st) (cv σ Z) d Q := gf_X5_205 (σ := cv σ Z) hc hd hK kk
theorem pi_X5_205 {x : Int32} (hc : M.1.cls = RX5) (hd : decode M.2.1 pc = .ok (.putfield 205, 3)) (hK : zK σ a = 2) (kk : HT G M (pc + 3) L st (cv σ (up2 Z a 2 x)) d Q) : HT G M pc L (.int x :: .ref a :: st) (cv σ Z) d Q := pf_X5_205 (σ := cv σ Z) hc hd hK kk
theorem gi_X4_67 (hc : M.1.cls = RX4) (hd : decode M.2.1 pc = .ok (.getfield 67, 3)) (hK : zK σ a = 2) (kk : HT G M (pc + 3) L (.int (Z a 3) :: st) (cv σ Z) d Q) : HT G M pc L (.ref a :: st) (cv σ Z) d Q := gf_X4_67 (σ := cv σ Z) hc hd hK kk
theorem gi_X5_226 (hc : M.1.cls = RX5) (hd : decode M.2.1 pc = .ok (.getfield 226, 3)) (hK : zK σ a = 2) (kk : HT G M (pc + 3) L (.int (Z a 3) :: st) (cv σ Z) d Q) : HT G M pc L (.ref a :: st) (cv σ Z) d Q := gf_X5_226 (σ := cv σ Z) hc hd hK kk
theorem pi_X5_226 {x : Int32} (hc : M.1.cls = RX5) (hd : decode M.2.1 pc = .ok (.putfield 226, 3)) (hK : zK σ a = 2) (kk : HT G M (pc + 3) L st (cv σ (up2 Z a 3 x)) d Q) : HT G M pc L (.int x :: .ref a :: st) (cv σ Z) d Q := pf_X5_226 (σ := cv σ Z) hc hd hK kk
theorem gi_X9_226 (hc : M.1.cls = RX9) (hd : decode M.2.1 pc = .ok (.getfield 226, 3)) (hK : zK σ a = 2) (kk : HT G M (pc + 3) L (.int (Z a 3) :: st) (cv σ Z) d Q) : HT G M pc L (.ref a :: st) (cv σ Z) d Q := gf_X9_226 (σ := cv σ Z) hc hd hK kk
theorem gi_X5_151 (hc : M.1.cls = RX5) (hd : decode M.2.1 pc = .ok (.getfield 151, 3)) (hK : zK σ a = 2) (kk : HT G M (pc + 3) L (.int (Z a 4) :: st) (cv σ Z) d Q) : HT G M pc L (.ref a :: st) (cv σ Z) d Q := gf_X5_151 (σ := cv σ Z) hc hd hK kk
theorem pi_X5_151 {x : Int32} (hc : M.1.cls = RX5) (hd : decode M.2.1 pc = .ok (.putfield 151, 3)) (hK : zK σ a = 2) (kk : HT G M (pc + 3) L st (cv σ (up2 Z a 4 x)) d Q) : HT G M pc L (.int x :: .ref a :: st) (cv σ Z) d Q := pf_X5_151 (σ := cv σ Z) hc hd hK kk
theorem gi_X9_220 (hc : M.1.cls = RX9) (hd : decode M.2.1 pc = .ok (.getfield 220, 3)) (hK : zK σ a = 2) (kk : HT G M (pc + 3) L (.int (Z a 4) :: st) (cv σ Z) d Q) : HT G M pc L (.ref a :: st) (cv σ Z) d Q := gf_X9_220 (σ := cv σ Z) hc hd hK kk
theorem gi_X3_9 (hc : M.1.cls = RX3) (hd : decode M.2.1 pc = .ok (.getfield 9, 3)) (hK : zK σ a = 3) (kk : HT G M (pc + 3) L (.int (Z a 0) :: st) (cv σ Z) d Q) : HT G M pc L (.ref a :: st) (cv σ Z) d Q := gf_X3_9 (σ := cv σ Z) hc hd hK kk
theorem pi_X3_9 {x : Int32} (hc : M.1.cls = RX3) (hd : decode M.2.1 pc = .ok (.putfield 9, 3)) (hK : zK σ a = 3) (kk : HT G M (pc + 3) L st (cv σ (up2 Z a 0 x)) d Q) : HT G M pc L (.int x :: .ref a :: st) (cv σ Z) d Q := pf_X3_9 (σ := cv σ Z) hc hd hK kk
theorem gi_X9_104 (hc : M.1.cls = RX9) (hd : decode M.2.1 pc = .ok (.getfield 104, 3)) (hK : zK σ a = 3) (kk : HT G M (pc + 3) L (.int (Z a 0) :: st) (cv σ Z) d Q) : HT G M pc L (.ref a :: st) (cv σ Z) d Q := gf_X9_104 (σ := cv σ Z) hc hd hK kk
theorem gi_X4_152 (hc : M.1.cls = RX4) (hd : decode M.2.1 pc = .ok (.getfield 152, 3)) (hK : zK σ a = 3) (kk : HT G M (pc + 3) L (.int (Z a 0) :: st) (cv σ Z) d Q) : HT G M pc L (.ref a :: st) (cv σ Z) d Q := gf_X4_152 (σ := cv σ Z) hc hd hK kk
theorem pi_X4_152 {x : Int32} (hc : M.1.cls = RX4) (hd : decode M.2.1 pc = .ok (.putfield 152, 3)) (hK : zK σ a = 3) (kk : HT G M (pc + 3) L st (cv σ (up2 Z a 0 x)) d Q) : HT G M pc L (.int x :: .ref a :: st) (cv σ Z) d Q := pf_X4_152 (σ := cv σ Z) hc hd hK kk
theorem gi_X3_15 (hc : M.1.cls = RX3) (hd : decode M.2.1 pc = .ok (.getfield 15, 3)) (hK : zK σ a = 3) (kk : HT G M (pc + 3) L (.int (Z a 1) :: st) (cv σ Z) d Q) : HT G M pc L (.ref a :: st) (cv σ Z) d Q := gf_X3_15 (σ := cv σ Z) hc hd hK kk
theorem pi_X3_15 {x : Int32} (hc : M.1.cls = RX3) (hd : decode M.2.1 pc = .ok (.putfield 15, 3)) (hK : zK σ a = 3) (kk : HT G M (pc + 3) L st (cv σ (up2 Z a 1 x)) d Q) : HT G M pc L (.int x :: .ref a :: st) (cv σ Z) d Q := pf_X3_15 (σ := cv σ Z) hc hd hK kk
theorem gi_X9_109 (hc : M.1.cls = RX9) (hd : decode M.2.1 pc = .ok (.getfield 109, 3)) (hK : zK σ a = 3) (kk : HT G M (pc + 3) L (.int (Z a 1) :: st) (cv σ Z) d Q) : HT G M pc L (.ref a :: st) (cv σ Z) d Q := gf_X9_109 (σ := cv σ Z) hc hd hK kk
theorem gi_X4_154 (hc : M.1.cls = RX4) (hd : decode M.2.1 pc = .ok (.getfield 154, 3)) (hK : zK σ a = 3) (kk : HT G M (pc + 3) L (.int (Z a 1) :: st) (cv σ Z) d Q) : HT G M pc L (.ref a :: st) (cv σ Z) d Q := gf_X4_154 (σ := cv σ Z) hc hd hK kk
theorem pi_X4_154 {x : Int32} (hc : M.1.cls = RX4) (hd : decode M.2.1 pc = .ok (.putfield 154, 3)) (hK : zK σ a = 3) (kk : HT G M (pc + 3) L st (cv σ (up2 Z a 1 x)) d Q) : HT G M pc L (.int x :: .ref a :: st) (cv σ Z) d Q := pf_X4_154 (σ := cv σ Z) hc hd hK kk
theorem gi_X3_18 (hc : M.1.cls = RX3) (hd : decode M.2.1 pc = .ok (.getfield 18, 3)) (hK : zK σ a = 3) (kk : HT G M (pc + 3) L (.int (Z a 2) :: st) (cv σ Z) d Q) : HT G M pc L (.ref a :: st) (cv σ Z) d Q := gf_X3_18 (σ := cv σ Z) hc hd hK kk
theorem pi_X3_18 {x : Int32} (hc : M.1.cls = RX3) (hd : decode M.2.1 pc = .ok (.putfield 18, 3)) (hK : zK σ a = 3) (kk : HT G M (pc + 3) L st (cv σ (up2 Z a 2 x)) d Q) : HT G M pc L (.int x :: .ref a :: st) (cv σ Z) d Q := pf_X3_18 (σ := cv σ Z) hc hd hK kk
theorem gi_X9_112 (hc : M.1.cls = RX9) (hd : decode M.2.1 pc = .ok (.getfield 112, 3)) (hK : zK σ a = 3) (kk : HT G M (pc + 3) L (.int (Z a 2) :: st) (cv σ Z) d Q) : HT G M pc L (.ref a :: st) (cv σ Z) d Q := gf_X9_112 (σ := cv σ Z) hc hd hK kk
theorem gi_X4_94 (hc : M.1.cls = RX4) (hd : decode M.2.1 pc = .ok (.getfield 94, 3)) (hK : zK σ a = 3) (kk : HT G M (pc + 3) L (.int (Z a 2) :: st) (cv σ Z) d Q) : HT G M pc L (.ref a :: st) (cv σ Z) d Q := gf_X4_94 (σ := cv σ Z) hc hd hK kk
theorem pi_X4_94 {x : Int32} (hc : M.1.cls = RX4) (hd : decode M.2.1 pc = .ok (.putfield 94, 3)) (hK : zK σ a = 3) (kk : HT G M (pc + 3) L st (cv σ (up2 Z a 2 x)) d Q) : HT G M pc L (.int x :: .ref a :: st) (cv σ Z) d Q := pf_X4_94 (σ := cv σ Z) hc hd hK kk
theorem gi_X3_21 (hc : M.1.cls = RX3) (hd : decode M.2.1 pc = .ok (.getfield 21, 3)) (hK : zK σ a = 3) (kk : HT G M (pc + 3) L (.int (Z a 3) :: st) (cv σ Z) d Q) : HT G M pc L (.ref a :: st) (cv σ Z) d Q := gf_X3_21 (σ := cv σ Z) hc hd hK kk
theorem pi_X3_21 {x : Int32} (hc : M.1.cls = RX3) (hd : decode M.2.1 pc = .ok (.putfield 21, 3)) (hK : zK σ a = 3) (kk : HT G M (pc + 3) L st (cv σ (up2 Z a 3 x)) d Q) : HT G M pc L (.int x :: .ref a :: st) (cv σ Z) d Q := pf_X3_21 (σ := cv σ Z) hc hd hK kk
theorem gi_X4_149 (hc : M.1.cls = RX4) (hd : decode M.2.1 pc = .ok (.getfield 149, 3)) (hK : zK σ a = 3) (kk : HT G M (pc + 3) L (.int (Z a 3) :: st) (cv σ Z) d Q) : HT G M pc L (.ref a :: st) (cv σ Z) d Q := gf_X4_149 (σ := cv σ Z) hc hd hK kk
theorem pi_X4_149 {x : Int32} (hc : M.1.cls = RX4) (hd : decode M.2.1 pc = .ok (.putfield 149, 3)) (hK : zK σ a = 3) (kk : HT G M (pc + 3) L st (cv σ (up2 Z a 3 x)) d Q) : HT G M pc L (.int x :: .ref a :: st) (cv σ Z) d Q := pf_X4_149 (σ := cv σ Z) hc hd hK kk
theorem gi_X9_207 (hc : M.1.cls = RX9) (hd : decode M.2.1 pc = .ok (.getfield 207, 3)) (hK : zK σ a = 3) (kk : HT G M (pc + 3) L (.int (Z a 3) :: st) (cv σ Z) d Q) : HT G M pc L (.ref a :: st) (cv σ Z) d Q := gf_X9_207 (σ := cv σ Z) hc hd hK kk
theorem gi_X3_24 (hc : M.1.cls = RX3) (hd : decode M.2.1 pc = .ok (.getfield 24, 3)) (hK : zK σ a = 3) (kk : HT G M (pc + 3) L (.int (Z a 4) :: st) (cv σ Z) d Q) : HT G M pc L (.ref a :: st) (cv σ Z) d Q := gf_X3_24 (σ := cv σ Z) hc hd hK kk
theorem pi_X3_24 {x : Int32} (hc : M.1.cls = RX3) (hd : decode M.2.1 pc = .ok (.putfield 24, 3)) (hK : zK σ a = 3) (kk : HT G M (pc + 3) L st (cv σ (up2 Z a 4 x)) d Q) : HT G M pc L (.int x :: .ref a :: st) (cv σ Z) d Q := pf_X3_24 (σ := cv σ Z) hc hd hK kk
theorem gi_X4_97 (hc : M.1.cls = RX4) (hd : decode M.2.1 pc = .ok (.getfield 97, 3)) (hK : zK σ a = 3) (kk : HT G M (pc + 3) L (.int (Z a 4) :: st) (cv σ Z) d Q) : HT G M pc L (.ref a :: st) (cv σ Z) d Q := gf_X4_97 (σ := cv σ Z) hc hd hK kk
theorem pi_X4_97 {x : Int32} (hc : M.1.cls = RX4) (hd : decode M.2.1 pc = .ok (.putfield 97, 3)) (hK : zK σ a = 3) (kk : HT G M (pc + 3) L st (cv σ (up2 Z a 4 x)) d Q) : HT G M pc L (.int x :: .ref a :: st) (cv σ Z) d Q := pf_X4_97 (σ := cv σ Z) hc hd hK kk
theorem gi_X9_210 (hc : M.1.cls = RX9) (hd : decode M.2.1 pc = .ok (.getfield 210, 3)) (hK : zK σ a = 3) (kk : HT G M (pc + 3) L (.int (Z a 4) :: st) (cv σ Z) d Q) : HT G M pc L (.ref a :: st) (cv σ Z) d Q := gf_X9_210 (σ := cv σ Z) hc hd hK kk
theorem gi_X4_39 (hc : M.1.cls = RX4) (hd : decode M.2.1 pc = .ok (.getfield 39, 3)) (hK : zK σ a = 4) (kk : HT G M (pc + 3) L (.int (Z a 1) :: st) (cv σ Z) d Q) : HT G M pc L (.ref a :: st) (cv σ Z) d Q := gf_X4_39 (σ := cv σ Z) hc hd hK kk
theorem pi_X4_39 {x : Int32} (hc : M.1.cls = RX4) (hd : decode M.2.1 pc = .ok (.putfield 39, 3)) (hK : zK σ a = 4) (kk : HT G M (pc + 3) L st (cv σ (up2 Z a 1 x)) d Q) : HT G M pc L (.int x :: .ref a :: st) (cv σ Z) d Q := pf_X4_39 (σ := cv σ Z) hc hd hK kk
theorem gi_X9_169 (hc : M.1.cls = RX9) (hd : decode M.2.1 pc = .ok (.getfield 169, 3)) (hK : zK σ a = 4) (kk : HT G M (pc + 3) L (.int (Z a 1) :: st) (cv σ Z) d Q) : HT G M pc L (.ref a :: st) (cv σ Z) d Q := gf_X9_169 (σ := cv σ Z) hc hd hK kk
theorem gi_X4_35 (hc : M.1.cls = RX4) (hd : decode M.2.1 pc = .ok (.getfield 35, 3)) (hK : zK σ a = 4) (kk : HT G M (pc + 3) L (.int (Z a 2) :: st) (cv σ Z) d Q) : HT G M pc L (.ref a :: st) (cv σ Z) d Q := gf_X4_35 (σ := cv σ Z) hc hd hK kk
theorem pi_X4_35 {x : Int32} (hc : M.1.cls = RX4) (hd : decode M.2.1 pc = .ok (.putfield 35, 3)) (hK : zK σ a = 4) (kk : HT G M (pc + 3) L st (cv σ (up2 Z a 2 x)) d Q) : HT G M pc L (.int x :: .ref a :: st) (cv σ Z) d Q := pf_X4_35 (σ := cv σ Z) hc hd hK kk
theorem gi_X9_238 (hc : M.1.cls = RX9) (hd : decode M.2.1 pc = .ok (.getfield 238, 3)) (hK : zK σ a = 4) (kk : HT G M (pc + 3) L (.int (Z a 2) :: st) (cv σ Z) d Q) : HT G M pc L (.ref a :: st) (cv σ Z) d Q := gf_X9_238 (σ := cv σ Z) hc hd hK kk
theorem pi_X9_238 {x : Int32} (hc : M.1.cls = RX9) (hd : decode M.2.1 pc = .ok (.putfield 238, 3)) (hK : zK σ a = 4) (kk : HT G M (pc + 3) L st (cv σ (up2 Z a 2 x)) d Q) : HT G M pc L (.int x :: .ref a :: st) (cv σ Z) d Q := pf_X9_238 (σ := cv σ Z) hc hd hK kk
theorem gi_X7_26 (hc : M.1.cls = RX7) (hd : decode M.2.1 pc = .ok (.getfield 26, 3)) (hK : zK σ a = 7) (kk : HT G M (pc + 3) L (.int (Z a 1) :: st) (cv σ Z) d Q) : HT G M pc L (.ref a :: st) (cv σ Z) d Q := gf_X7_26 (σ := cv σ Z) hc hd hK kk
theorem pi_X7_26 {x : Int32} (hc : M.1.cls = RX7) (hN : M.1.name = "<init>") (hd : decode M.2.1 pc = .ok (.putfield 26, 3)) (hK : zK σ a = 7) (kk : HT G M (pc + 3) L st (cv σ (up2 Z a 1 x)) d Q) : HT G M pc L (.int x :: .ref a :: st) (cv σ Z) d Q := pf_X7_26 (σ := cv σ Z) hc hN hd hK kk
theorem gi_X5_34 (hc : M.1.cls = RX5) (hd : decode M.2.1 pc = .ok (.getfield 34, 3)) (hK : zK σ a = 7) (kk : HT G M (pc + 3) L (.int (Z a 1) :: st) (cv σ Z) d Q) : HT G M pc L (.ref a :: st) (cv σ Z) d Q := gf_X5_34 (σ := cv σ Z) hc hd hK kk
theorem gi_X7_43 (hc : M.1.cls = RX7) (hd : decode M.2.1 pc = .ok (.getfield 43, 3)) (hK : zK σ a = 7) (kk : HT G M (pc + 3) L (.int (Z a 2) :: st) (cv σ Z) d Q) : HT G M pc L (.ref a :: st) (cv σ Z) d Q := gf_X7_43 (σ := cv σ Z) hc hd hK kk
theorem pi_X7_43 {x : Int32} (hc : M.1.cls = RX7) (hd : decode M.2.1 pc = .ok (.putfield 43, 3)) (hK : zK σ a = 7) (kk : HT G M (pc + 3) L st (cv σ (up2 Z a 2 x)) d Q) : HT G M pc L (.int x :: .ref a :: st) (cv σ Z) d Q := pf_X7_43 (σ := cv σ Z) hc hd hK kk
theorem gi_X7_27 (hc : M.1.cls = RX7) (hd : decode M.2.1 pc = .ok (.getfield 27, 3)) (hK : zK σ a = 7) (kk : HT G M (pc + 3) L (.int (Z a 3) :: st) (cv σ Z) d Q) : HT G M pc L (.ref a :: st) (cv σ Z) d Q := gf_X7_27 (σ := cv σ Z) hc hd hK kk
theorem pi_X7_27 {x : Int32} (hc : M.1.cls = RX7) (hd : decode M.2.1 pc = .ok (.putfield 27, 3)) (hK : zK σ a = 7) (kk : HT G M (pc + 3) L st (cv σ (up2 Z a 3 x)) d Q) : HT G M pc L (.int x :: .ref a :: st) (cv σ Z) d Q := pf_X7_27 (σ := cv σ Z) hc hd hK kk
theorem gi_X5_47 (hc : M.1.cls = RX5) (hd : decode M.2.1 pc = .ok (.getfield 47, 3)) (hK : zK σ a = 7) (kk : HT G M (pc + 3) L (.int (Z a 3) :: st) (cv σ Z) d Q) : HT G M pc L (.ref a :: st) (cv σ Z) d Q := gf_X5_47 (σ := cv σ Z) hc hd hK kk
theorem gi_X5_60 (hc : M.1.cls = RX5) (hd : decode M.2.1 pc = .ok (.getfield 60, 3)) (hK : zK σ a = 7) (kk : HT G M (pc + 3) L (.int (Z a 4) :: st) (cv σ Z) d Q) : HT G M pc L (.ref a :: st) (cv σ Z) d Q := gf_X5_60 (σ := cv σ Z) hc hd hK kk
theorem gi_X7_46 (hc : M.1.cls = RX7) (hd : decode M.2.1 pc = .ok (.getfield 46, 3)) (hK : zK σ a = 7) (kk : HT G M (pc + 3) L (.int (Z a 4) :: st) (cv σ Z) d Q) : HT G M pc L (.ref a :: st) (cv σ Z) d Q := gf_X7_46 (σ := cv σ Z) hc hd hK kk
theorem pi_X7_46 {x : Int32} (hc : M.1.cls = RX7) (hd : decode M.2.1 pc = .ok (.putfield 46, 3)) (hK : zK σ a = 7) (kk : HT G M (pc + 3) L st (cv σ (up2 Z a 4 x)) d Q) : HT G M pc L (.int x :: .ref a :: st) (cv σ Z) d Q := pf_X7_46 (σ := cv σ Z) hc hd hK kk
theorem gi_X7_79 (hc : M.1.cls = RX7) (hd : decode M.2.1 pc = .ok (.getfield 79, 3)) (hK : zK σ a = 7) (kk : HT G M (pc + 3) L (.int (Z a 5) :: st) (cv σ Z) d Q) : HT G M pc L (.ref a :: st) (cv σ Z) d Q := gf_X7_79 (σ := cv σ Z) hc hd hK kk
theorem pi_X7_79 {x : Int32} (hc : M.1.cls = RX7) (hd : decode M.2.1 pc = .ok (.putfield 79, 3)) (hK : zK σ a = 7) (kk : HT G M (pc + 3) L st (cv σ (up2 Z a 5 x)) d Q) : HT G M pc L (.int x :: .ref a :: st) (cv σ Z) d Q := pf_X7_79 (σ := cv σ Z) hc hd hK kk
theorem gi_X5_241 (hc : M.1.cls = RX5) (hd : decode M.2.1 pc = .ok (.getfield 241, 3)) (hK : zK σ a = 7) (kk : HT G M (pc + 3) L (.int (Z a 5) :: st) (cv σ Z) d Q) : HT G M pc L (.ref a :: st) (cv σ Z) d Q := gf_X5_241 (σ := cv σ Z) hc hd hK kk
theorem gi_X7_30 (hc : M.1.cls = RX7) (hd : decode M.2.1 pc = .ok (.getfield 30, 3)) (hK : zK σ a = 7) (kk : HT G M (pc + 3) L (.int (Z a 6) :: st) (cv σ Z) d Q) : HT G M pc L (.ref a :: st) (cv σ Z) d Q := gf_X7_30 (σ := cv σ Z) hc hd hK kk
theorem pi_X7_30 {x : Int32} (hc : M.1.cls = RX7) (hd : decode M.2.1 pc = .ok (.putfield 30, 3)) (hK : zK σ a = 7) (kk : HT G M (pc + 3) L st (cv σ (up2 Z a 6 x)) d Q) : HT G M pc L (.int x :: .ref a :: st) (cv σ Z) d Q := pf_X7_30 (σ := cv σ Z) hc hd hK kk
theorem gi_X5_129 (hc : M.1.cls = RX5) (hd : decode M.2.1 pc = .ok (.getfield 129, 3)) (hK : zK σ a = 5) (kk : HT G M (pc + 3) L (.int (Z a 5) :: st) (cv σ Z) d Q) : HT G M pc L (.ref a :: st) (cv σ Z) d Q := gf_X5_129 (σ := cv σ Z) hc hd hK kk
theorem pi_X5_129 {x : Int32} (hc : M.1.cls = RX5) (hd : decode M.2.1 pc = .ok (.putfield 129, 3)) (hK : zK σ a = 5) (kk : HT G M (pc + 3) L st (cv σ (up2 Z a 5 x)) d Q) : HT G M pc L (.int x :: .ref a :: st) (cv σ Z) d Q := pf_X5_129 (σ := cv σ Z) hc hd hK kk
theorem gi_X5_123 (hc : M.1.cls = RX5) (hd : decode M.2.1 pc = .ok (.getfield 123, 3)) (hK : zK σ a = 5) (kk : HT G M (pc + 3) L (.int (Z a 6) :: st) (cv σ Z) d Q) : HT G M pc L (.ref a :: st) (cv σ Z) d Q := gf_X5_123 (σ := cv σ Z) hc hd hK kk
theorem pi_X5_123 {x : Int32} (hc : M.1.cls = RX5) (hd : decode M.2.1 pc = .ok (.putfield 123, 3)) (hK : zK σ a = 5) (kk : HT G M (pc + 3) L st (cv σ (up2 Z a 6 x)) d Q) : HT G M pc L (.int x :: .ref a :: st) (cv σ Z) d Q := pf_X5_123 (σ := cv σ Z) hc hd hK kk
theorem gi_X5_126 (hc : M.1.cls = RX5) (hd : decode M.2.1 pc = .ok (.getfield 126, 3)) (hK : zK σ a = 5) (kk : HT G M (pc + 3) L (.int (Z a 7) :: st) (cv σ Z) d Q) : HT G M pc L (.ref a :: st) (cv σ Z) d Q := gf_X5_126 (σ := cv σ Z) hc hd hK kk
theorem pi_X5_126 {x : Int32} (hc : M.1.cls = RX5) (hd : decode M.2.1 pc = .ok (.putfield 126, 3)) (hK : zK σ a = 5) (kk : HT G M (pc + 3) L st (cv σ (up2 Z a 7 x)) d Q) : HT G M pc L (.int x :: .ref a :: st) (cv σ Z) d Q := pf_X5_126 (σ := cv σ Z) hc hd hK kk
theorem gi_X5_141 (hc : M.1.cls = RX5) (hd : decode M.2.1 pc = .ok (.getfield 141, 3)) (hK : zK σ a = 5) (kk : HT G M (pc + 3) L (.int (Z a 8) :: st) (cv σ Z) d Q) : HT G M pc L (.ref a :: st) (cv σ Z) d Q := gf_X5_141 (σ := cv σ Z) hc hd hK kk
theorem pi_X5_141 {x : Int32} (hc : M.1.cls = RX5) (hd : decode M.2.1 pc = .ok (.putfield 141, 3)) (hK : zK σ a = 5) (hx : x = 0 ∨ x = 1) (kk : HT G M (pc + 3) L st (cv σ (up2 Z a 8 x)) d Q) : HT G M pc L (.int x :: .ref a :: st) (cv σ Z) d Q := pf_X5_141 (σ := cv σ Z) hc hd hK hx kk
theorem gi_X5_148 (hc : M.1.cls = RX5) (hd : decode M.2.1 pc = .ok (.getfield 148, 3)) (hK : zK σ a = 5) (kk : HT G M (pc + 3) L (.int (Z a 9) :: st) (cv σ Z) d Q) : HT G M pc L (.ref a :: st) (cv σ Z) d Q := gf_X5_148 (σ := cv σ Z) hc hd hK kk
theorem pi_X5_148 {x : Int32} (hc : M.1.cls = RX5) (hd : decode M.2.1 pc = .ok (.putfield 148, 3)) (hK : zK σ a = 5) (kk : HT G M (pc + 3) L st (cv σ (up2 Z a 9 x)) d Q) : HT G M pc L (.int x :: .ref a :: st) (cv σ Z) d Q := pf_X5_148 (σ := cv σ Z) hc hd hK kk
theorem gi_X5_54 (hc : M.1.cls = RX5) (hd : decode M.2.1 pc = .ok (.getfield 54, 3)) (hK : zK σ a = 5) (kk : HT G M (pc + 3) L (.int (Z a 10) :: st) (cv σ Z) d Q) : HT G M pc L (.ref a :: st) (cv σ Z) d Q := gf_X5_54 (σ := cv σ Z) hc hd hK kk
theorem pi_X5_54 {x : Int32} (hc : M.1.cls = RX5) (hd : decode M.2.1 pc = .ok (.putfield 54, 3)) (hK : zK σ a = 5) (kk : HT G M (pc + 3) L st (cv σ (up2 Z a 10 x)) d Q) : HT G M pc L (.int x :: .ref a :: st) (cv σ Z) d Q := pf_X5_54 (σ := cv σ Z) hc hd hK kk
end CV
theorem tb_out {x : Int32} {lo : Int} {n : Nat} (h : ∀ k : Nat, k < n → ¬ x = Int32.ofInt (lo + k)) : x.toInt < lo ∨ lo + n - 1 < x.toInt := by
  by_cases c : x.toInt < lo
  · exact Or.inl c
  · by_cases c2 : lo + n - 1 < x.toInt
    · exact Or.inr c2
    · refine absurd ?_ (h (x.toInt - lo).toNat (by omega))
      rw [show lo + ((x.toInt - lo).toNat : Int) = x.toInt by omega, Int32.ofInt_toInt]
/-! the shapes: a law, a night, a formula -/
def lwLn (o : Nat) : Nat := match o with
  | 1 => 8
  | 2 => 8
  | 3 => 10
  | 4 => 10
  | 5 => 10
  | 6 => 6
  | 7 => 6
  | 8 => 6
  | 9 => 16
  | 10 => 2
  | _ => 0
def LwS (σ : Hp) (b : Nat) : Prop := zK σ b = 2 ∧ ∀ o, 1 ≤ o → o ≤ 10 → zQ σ b (6 + o) = some (b + o) ∧ zK σ (b + o) = 20 ∧ zN σ (b + o) = lwLn o
theorem LwS.k0 {σ : Hp} {b : Nat} (h : LwS σ b) : zK σ b = 2 := h.1
theorem LwS.q1 {σ : Hp} {b : Nat} (h : LwS σ b) : zQ σ b 7 = some (b + 1) := (h.2 1 (by decide) (by decide)).1
theorem LwS.k1 {σ : Hp} {b : Nat} (h : LwS σ b) : zK σ (b + 1) = 20 := (h.2 1 (by decide) (by decide)).2.1
theorem LwS.n1 {σ : Hp} {b : Nat} (h : LwS σ b) : zN σ (b + 1) = 8 := (h.2 1 (by decide) (by decide)).2.2
theorem LwS.q2 {σ : Hp} {b : Nat} (h : LwS σ b) : zQ σ b 8 = some (b + 2) := (h.2 2 (by decide) (by decide)).1
theorem LwS.k2 {σ : Hp} {b : Nat} (h : LwS σ b) : zK σ (b + 2) = 20 := (h.2 2 (by decide) (by decide)).2.1
theorem LwS.n2 {σ : Hp} {b : Nat} (h : LwS σ b) : zN σ (b + 2) = 8 := (h.2 2 (by decide) (by decide)).2.2
theorem LwS.q3 {σ : Hp} {b : Nat} (h : LwS σ b) : zQ σ b 9 = some (b + 3) := (h.2 3 (by decide) (by decide)).1
theorem LwS.k3 {σ : Hp} {b : Nat} (h : LwS σ b) : zK σ (b + 3) = 20 := (h.2 3 (by decide) (by decide)).2.1
theorem LwS.n3 {σ : Hp} {b : Nat} (h : LwS σ b) : zN σ (b + 3) = 10 := (h.2 3 (by decide) (by decide)).2.2
theorem LwS.q4 {σ : Hp} {b : Nat} (h : LwS σ b) : zQ σ b 10 = some (b + 4) := (h.2 4 (by decide) (by decide)).1
theorem LwS.k4 {σ : Hp} {b : Nat} (h : LwS σ b) : zK σ (b + 4) = 20 := (h.2 4 (by decide) (by decide)).2.1
theorem LwS.n4 {σ : Hp} {b : Nat} (h : LwS σ b) : zN σ (b + 4) = 10 := (h.2 4 (by decide) (by decide)).2.2
theorem LwS.q5 {σ : Hp} {b : Nat} (h : LwS σ b) : zQ σ b 11 = some (b + 5) := (h.2 5 (by decide) (by decide)).1
theorem LwS.k5 {σ : Hp} {b : Nat} (h : LwS σ b) : zK σ (b + 5) = 20 := (h.2 5 (by decide) (by decide)).2.1
theorem LwS.n5 {σ : Hp} {b : Nat} (h : LwS σ b) : zN σ (b + 5) = 10 := (h.2 5 (by decide) (by decide)).2.2
theorem LwS.q6 {σ : Hp} {b : Nat} (h : LwS σ b) : zQ σ b 12 = some (b + 6) := (h.2 6 (by decide) (by decide)).1
theorem LwS.k6 {σ : Hp} {b : Nat} (h : LwS σ b) : zK σ (b + 6) = 20 := (h.2 6 (by decide) (by decide)).2.1
theorem LwS.n6 {σ : Hp} {b : Nat} (h : LwS σ b) : zN σ (b + 6) = 6 := (h.2 6 (by decide) (by decide)).2.2
theorem LwS.q7 {σ : Hp} {b : Nat} (h : LwS σ b) : zQ σ b 13 = some (b + 7) := (h.2 7 (by decide) (by decide)).1
theorem LwS.k7 {σ : Hp} {b : Nat} (h : LwS σ b) : zK σ (b + 7) = 20 := (h.2 7 (by decide) (by decide)).2.1
theorem LwS.n7 {σ : Hp} {b : Nat} (h : LwS σ b) : zN σ (b + 7) = 6 := (h.2 7 (by decide) (by decide)).2.2
theorem LwS.q8 {σ : Hp} {b : Nat} (h : LwS σ b) : zQ σ b 14 = some (b + 8) := (h.2 8 (by decide) (by decide)).1
theorem LwS.k8 {σ : Hp} {b : Nat} (h : LwS σ b) : zK σ (b + 8) = 20 := (h.2 8 (by decide) (by decide)).2.1
theorem LwS.n8 {σ : Hp} {b : Nat} (h : LwS σ b) : zN σ (b + 8) = 6 := (h.2 8 (by decide) (by decide)).2.2
theorem LwS.q9 {σ : Hp} {b : Nat} (h : LwS σ b) : zQ σ b 15 = some (b + 9) := (h.2 9 (by decide) (by decide)).1
theorem LwS.k9 {σ : Hp} {b : Nat} (h : LwS σ b) : zK σ (b + 9) = 20 := (h.2 9 (by decide) (by decide)).2.1
theorem LwS.n9 {σ : Hp} {b : Nat} (h : LwS σ b) : zN σ (b + 9) = 16 := (h.2 9 (by decide) (by decide)).2.2
theorem LwS.q10 {σ : Hp} {b : Nat} (h : LwS σ b) : zQ σ b 16 = some (b + 10) := (h.2 10 (by decide) (by decide)).1
theorem LwS.k10 {σ : Hp} {b : Nat} (h : LwS σ b) : zK σ (b + 10) = 20 := (h.2 10 (by decide) (by decide)).2.1
theorem LwS.n10 {σ : Hp} {b : Nat} (h : LwS σ b) : zN σ (b + 10) = 2 := (h.2 10 (by decide) (by decide)).2.2
def ntLn (o : Nat) : Nat := match o with
  | 1 => 8
  | 2 => 6
  | 3 => 6
  | 4 => 10
  | 5 => 9
  | _ => 0
def NtS (σ : Hp) (a : Nat) : Prop := zK σ a = 4 ∧ (∀ o, 1 ≤ o → o ≤ 5 → zQ σ a (2 + o) = some (a + o) ∧ zK σ (a + o) = (if o = 4 then 24 else 20) ∧ zN σ (a + o) = ntLn o) ∧ ∀ j, j < 10 → zQ σ (a + 4) j = some (a + 6 + j) ∧ zK σ (a + 6 + j) = 3
theorem NtS.k0 {σ : Hp} {a : Nat} (h : NtS σ a) : zK σ a = 4 := h.1
theorem NtS.q1 {σ : Hp} {a : Nat} (h : NtS σ a) : zQ σ a 3 = some (a + 1) := (h.2.1 1 (by decide) (by decide)).1
theorem NtS.k1 {σ : Hp} {a : Nat} (h : NtS σ a) : zK σ (a + 1) = 20 := (h.2.1 1 (by decide) (by decide)).2.1
theorem NtS.n1 {σ : Hp} {a : Nat} (h : NtS σ a) : zN σ (a + 1) = 8 := (h.2.1 1 (by decide) (by decide)).2.2
theorem NtS.q2 {σ : Hp} {a : Nat} (h : NtS σ a) : zQ σ a 4 = some (a + 2) := (h.2.1 2 (by decide) (by decide)).1
theorem NtS.k2 {σ : Hp} {a : Nat} (h : NtS σ a) : zK σ (a + 2) = 20 := (h.2.1 2 (by decide) (by decide)).2.1
theorem NtS.n2 {σ : Hp} {a : Nat} (h : NtS σ a) : zN σ (a + 2) = 6 := (h.2.1 2 (by decide) (by decide)).2.2
theorem NtS.q3 {σ : Hp} {a : Nat} (h : NtS σ a) : zQ σ a 5 = some (a + 3) := (h.2.1 3 (by decide) (by decide)).1
theorem NtS.k3 {σ : Hp} {a : Nat} (h : NtS σ a) : zK σ (a + 3) = 20 := (h.2.1 3 (by decide) (by decide)).2.1
theorem NtS.n3 {σ : Hp} {a : Nat} (h : NtS σ a) : zN σ (a + 3) = 6 := (h.2.1 3 (by decide) (by decide)).2.2
theorem NtS.q4 {σ : Hp} {a : Nat} (h : NtS σ a) : zQ σ a 6 = some (a + 4) := (h.2.1 4 (by decide) (by decide)).1
theorem NtS.k4 {σ : Hp} {a : Nat} (h : NtS σ a) : zK σ (a + 4) = 24 := (h.2.1 4 (by decide) (by decide)).2.1
theorem NtS.n4 {σ : Hp} {a : Nat} (h : NtS σ a) : zN σ (a + 4) = 10 := (h.2.1 4 (by decide) (by decide)).2.2
theorem NtS.q5 {σ : Hp} {a : Nat} (h : NtS σ a) : zQ σ a 7 = some (a + 5) := (h.2.1 5 (by decide) (by decide)).1
theorem NtS.k5 {σ : Hp} {a : Nat} (h : NtS σ a) : zK σ (a + 5) = 20 := (h.2.1 5 (by decide) (by decide)).2.1
theorem NtS.n5 {σ : Hp} {a : Nat} (h : NtS σ a) : zN σ (a + 5) = 9 := (h.2.1 5 (by decide) (by decide)).2.2
theorem NtS.lq {σ : Hp} {a j : Nat} (h : NtS σ a) (hj : j < 10) : zQ σ (a + 4) j = some (a + 6 + j) := (h.2.2 j hj).1
theorem NtS.lk {σ : Hp} {a j : Nat} (h : NtS σ a) (hj : j < 10) : zK σ (a + 6 + j) = 3 := (h.2.2 j hj).2
def FmS (σ : Hp) (f n : Nat) : Prop := zK σ f = 1 ∧ zQ σ f 0 = some (f + 2) ∧ zQ σ f 1 = some (f + 1) ∧ zK σ (f + 1) = 20 ∧ zN σ (f + 1) = 32 ∧ zK σ (f + 2) = 20 ∧ zN σ (f + 2) = n ∧ n ≤ 1000
theorem FmS.k0 {σ : Hp} {f n : Nat} (h : FmS σ f n) : zK σ f = 1 := h.1
theorem FmS.q0 {σ : Hp} {f n : Nat} (h : FmS σ f n) : zQ σ f 0 = some (f + 2) := h.2.1
theorem FmS.q1 {σ : Hp} {f n : Nat} (h : FmS σ f n) : zQ σ f 1 = some (f + 1) := h.2.2.1
theorem FmS.k1 {σ : Hp} {f n : Nat} (h : FmS σ f n) : zK σ (f + 1) = 20 := h.2.2.2.1
theorem FmS.n1 {σ : Hp} {f n : Nat} (h : FmS σ f n) : zN σ (f + 1) = 32 := h.2.2.2.2.1
theorem FmS.k2 {σ : Hp} {f n : Nat} (h : FmS σ f n) : zK σ (f + 2) = 20 := h.2.2.2.2.2.1
theorem FmS.n2 {σ : Hp} {f n : Nat} (h : FmS σ f n) : zN σ (f + 2) = n := h.2.2.2.2.2.2.1
theorem FmS.le {σ : Hp} {f n : Nat} (h : FmS σ f n) : n ≤ 1000 := h.2.2.2.2.2.2.2
/-! a night's state as the reference has it -/
def nv (dN : Nat) (Z : VT) (a : Nat) : ST := fun i =>
  if i < 10 then Z (a + 6 + i) 0 else if i < 20 then Z (a + 6 + (i - 10)) 1 else if i < 30 then Z (a + 6 + (i - 20)) 2 else if i < 40 then Z (a + 6 + (i - 30)) 3
  else if i < 50 then Z (a + 6 + (i - 40)) 0 + Z (a + 6 + (i - 40)) 1 - Z (a + 6 + (i - 40)) 3 else if i < 60 then (if i - 50 < dN then Z (a + 6 + (i - 50)) 4 + 1 else 0)
  else if i < 68 then Z (a + 1) (i - 60) else if i < 74 then Z (a + 2) (i - 68) else if i < 80 then Z (a + 3) (i - 74) else if i = 80 then Z a 1 else 0
theorem nv_ice (dN : Nat) (Z : VT) (a : Nat) {j : Nat} (hj : j < 10) : nv dN Z a (j) = Z (a + 6 + j) 0 := by
  unfold nv
  rw [if_pos (show j < 10 by omega)]
theorem nv_wat (dN : Nat) (Z : VT) (a : Nat) {j : Nat} (hj : j < 10) : nv dN Z a (10 + j) = Z (a + 6 + j) 1 := by
  unfold nv
  rw [if_neg (show ¬ 10 + j < 10 by omega), if_pos (show 10 + j < 20 by omega), show 10 + j - 10 = j by omega]
theorem nv_slt (dN : Nat) (Z : VT) (a : Nat) {j : Nat} (hj : j < 10) : nv dN Z a (20 + j) = Z (a + 6 + j) 2 := by
  unfold nv
  rw [if_neg (show ¬ 20 + j < 10 by omega), if_neg (show ¬ 20 + j < 20 by omega), if_pos (show 20 + j < 30 by omega), show 20 + j - 20 = j by omega]
theorem nv_bar (dN : Nat) (Z : VT) (a : Nat) {j : Nat} (hj : j < 10) : nv dN Z a (30 + j) = Z (a + 6 + j) 3 := by
  unfold nv
  rw [if_neg (show ¬ 30 + j < 10 by omega), if_neg (show ¬ 30 + j < 20 by omega), if_neg (show ¬ 30 + j < 30 by omega), if_pos (show 30 + j < 40 by omega), show 30 + j - 30 = j by omega]
theorem nv_bwa (dN : Nat) (Z : VT) (a : Nat) {j : Nat} (hj : j < 10) : nv dN Z a (40 + j) = Z (a + 6 + j) 0 + Z (a + 6 + j) 1 - Z (a + 6 + j) 3 := by
  unfold nv
  rw [if_neg (show ¬ 40 + j < 10 by omega), if_neg (show ¬ 40 + j < 20 by omega), if_neg (show ¬ 40 + j < 30 by omega), if_neg (show ¬ 40 + j < 40 by omega), if_pos (show 40 + j < 50 by omega), show 40 + j - 40 = j by omega]
theorem nv_bes (dN : Nat) (Z : VT) (a : Nat) {j : Nat} (hj : j < 10) : nv dN Z a (50 + j) = if j < dN then Z (a + 6 + j) 4 + 1 else 0 := by
  unfold nv
  rw [if_neg (show ¬ 50 + j < 10 by omega), if_neg (show ¬ 50 + j < 20 by omega), if_neg (show ¬ 50 + j < 30 by omega), if_neg (show ¬ 50 + j < 40 by omega), if_neg (show ¬ 50 + j < 50 by omega), if_pos (show 50 + j < 60 by omega), show 50 + j - 50 = j by omega]
theorem nv_stv (dN : Nat) (Z : VT) (a : Nat) {j : Nat} (hj : j < 8) : nv dN Z a (60 + j) = Z (a + 1) j := by
  unfold nv
  rw [if_neg (show ¬ 60 + j < 10 by omega), if_neg (show ¬ 60 + j < 20 by omega), if_neg (show ¬ 60 + j < 30 by omega), if_neg (show ¬ 60 + j < 40 by omega), if_neg (show ¬ 60 + j < 50 by omega), if_neg (show ¬ 60 + j < 60 by omega), if_pos (show 60 + j < 68 by omega), show 60 + j - 60 = j by omega]
theorem nv_man (dN : Nat) (Z : VT) (a : Nat) {j : Nat} (hj : j < 6) : nv dN Z a (68 + j) = Z (a + 2) j := by
  unfold nv
  rw [if_neg (show ¬ 68 + j < 10 by omega), if_neg (show ¬ 68 + j < 20 by omega), if_neg (show ¬ 68 + j < 30 by omega), if_neg (show ¬ 68 + j < 40 by omega), if_neg (show ¬ 68 + j < 50 by omega), if_neg (show ¬ 68 + j < 60 by omega), if_neg (show ¬ 68 + j < 68 by omega), if_pos (show 68 + j < 74 by omega), show 68 + j - 68 = j by omega]
theorem nv_bag (dN : Nat) (Z : VT) (a : Nat) {j : Nat} (hj : j < 6) : nv dN Z a (74 + j) = Z (a + 3) j := by
  unfold nv
  rw [if_neg (show ¬ 74 + j < 10 by omega), if_neg (show ¬ 74 + j < 20 by omega), if_neg (show ¬ 74 + j < 30 by omega), if_neg (show ¬ 74 + j < 40 by omega), if_neg (show ¬ 74 + j < 50 by omega), if_neg (show ¬ 74 + j < 60 by omega), if_neg (show ¬ 74 + j < 68 by omega), if_neg (show ¬ 74 + j < 74 by omega), if_pos (show 74 + j < 80 by omega), show 74 + j - 74 = j by omega]
theorem nv_hour (dN : Nat) (Z : VT) (a : Nat) : nv dN Z a 80 = Z a 1 := rfl
theorem nv_hi (dN : Nat) (Z : VT) (a : Nat) {i : Nat} (h : 80 < i) : nv dN Z a i = 0 := by
  unfold nv
  rw [if_neg (show ¬ i < 10 by omega), if_neg (show ¬ i < 20 by omega), if_neg (show ¬ i < 30 by omega), if_neg (show ¬ i < 40 by omega), if_neg (show ¬ i < 50 by omega), if_neg (show ¬ i < 60 by omega), if_neg (show ¬ i < 68 by omega), if_neg (show ¬ i < 74 by omega), if_neg (show ¬ i < 80 by omega), if_neg (show ¬ i = 80 by omega)]
/-- two states of which all is told place by place -/
theorem nv_ext {S T : ST} (h1 : ∀ j, j < 10 → S j = T j ∧ S (10 + j) = T (10 + j) ∧ S (20 + j) = T (20 + j) ∧ S (30 + j) = T (30 + j) ∧ S (40 + j) = T (40 + j) ∧ S (50 + j) = T (50 + j)) (h2 : ∀ j, j < 8 → S (60 + j) = T (60 + j)) (h3 : ∀ j, j < 6 → S (68 + j) = T (68 + j) ∧ S (74 + j) = T (74 + j)) (h4 : S 80 = T 80) (h5 : ∀ i, 80 < i → S i = T i) : S = T := by
  funext i
  by_cases c1 : i < 10
  · exact (h1 i c1).1
  · by_cases c2 : i < 20
    · have := (h1 (i - 10) (by omega)).2.1
      rwa [show 10 + (i - 10) = i by omega] at this
    · by_cases c3 : i < 30
      · have := (h1 (i - 20) (by omega)).2.2.1
        rwa [show 20 + (i - 20) = i by omega] at this
      · by_cases c4 : i < 40
        · have := (h1 (i - 30) (by omega)).2.2.2.1
          rwa [show 30 + (i - 30) = i by omega] at this
        · by_cases c5 : i < 50
          · have := (h1 (i - 40) (by omega)).2.2.2.2.1
            rwa [show 40 + (i - 40) = i by omega] at this
          · by_cases c6 : i < 60
            · have := (h1 (i - 50) (by omega)).2.2.2.2.2
              rwa [show 50 + (i - 50) = i by omega] at this
            · by_cases c7 : i < 68
              · have := h2 (i - 60) (by omega)
                rwa [show 60 + (i - 60) = i by omega] at this
              · by_cases c8 : i < 74
                · have := (h3 (i - 68) (by omega)).1
                  rwa [show 68 + (i - 68) = i by omega] at this
                · by_cases c9 : i < 80
                  · have := (h3 (i - 74) (by omega)).2
                    rwa [show 74 + (i - 74) = i by omega] at this
                  · by_cases c10 : i = 80
                    · rw [c10]
                      exact h4
                    · exact h5 i (by omega)
/-- all but the addresses P is as it was -/
def Fr (P : Nat → Prop) (Z Z2 : VT) : Prop := ∀ q, ¬ P q → Z2 q = Z q
theorem Fr.rf (P : Nat → Prop) (Z : VT) : Fr P Z Z := fun _ _ => rfl
theorem Fr.tr {P : Nat → Prop} {Z Z1 Z2 : VT} (h1 : Fr P Z Z1) (h2 : Fr P Z1 Z2) : Fr P Z Z2 := fun q h => (h2 q h).trans (h1 q h)
theorem Fr.up {P : Nat → Prop} {Z Z1 : VT} (h : Fr P Z Z1) {q k : Nat} (x : Int32) (hq : P q) : Fr P Z (up2 Z1 q k x) := fun r hr => (up2_o Z1 x (show r ≠ q from fun e => hr (by rw [e]; exact hq))).trans (h r hr)
theorem Fr.mono {P P2 : Nat → Prop} {Z Z1 : VT} (h : Fr P Z Z1) (hp : ∀ q, P q → P2 q) : Fr P2 Z Z1 := fun q hq => h q (fun c => hq (hp q c))
theorem up2_at {α : Type} (f : Nat → Nat → α) {q k j : Nat} (v : α) (h : j ≠ k) : up2 f q k v q j = f q j := up2_k f v h
