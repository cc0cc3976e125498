/-! ===== the start ===== -/
def nwL : List Cond := flatC (Jvm.Cond.and given_1 narrow_1)
abbrev wCl : String := "FrostLocks$Word"
abbrev wDs : String := "LFrostLocks$Word;"
abbrev tmA : Term := .static wCl "ALL" "[LFrostLocks$Word;"
abbrev tmW (i : Nat) : Term := .static wCl (wNm.getD i "") wDs
abbrev tmS : Term := .string "FrostLocks$Tokens" 69
/-- the law's world out of its entry -/
def gSt (s : State) (D : va_G) (cA : Nat → ClassId) : GG := (D, cA, s.heap, fun U => s.WarmedH U.vm, s.heap.size, s.heap.size + room_1.cells, room_1.slots)
def hSt (s : State) : Hp := (fun _ => 99, fun _ => 0, fun _ _ => 0, fun _ _ => 0, fun _ _ => none, s.heap.size, 0)
theorem m_lays : ∀ i, i < 22 → Cond.laysStatic wCl (wNm.getD i "") wDs ∈ lw_tbl := by decide +kernel
theorem m_init : Cond.initialized wCl ∈ lw_tbl := by decide +kernel
theorem m_ex : ∀ i, i < 22 → Cond.exactly (tmW i) wCl ∈ nwL := by decide +kernel
theorem m_rs : ∀ i, i < 22 → Cond.eq (.field (tmW i) wCl "reserved" "Z") (.int (wRs.getD i 0)) ∈ nwL := by decide +kernel
theorem m_fc : ∀ i, i < 22 → Cond.eq (.field (tmW i) wCl "fact" "I") (.int (wFc.getD i 0)) ∈ nwL := by decide +kernel
theorem m_na : ∀ i, i < 22 → Cond.eq (.field (tmW i) wCl "name" "J") (.long (Int64.ofNat (wNa.getD i 0))) ∈ nwL := by decide +kernel
theorem m_el : ∀ i, i < 22 → Cond.eq (.elem tmA (.int (Int32.ofNat i))) (tmW i) ∈ nwL := by decide +kernel
def nePr : List (Nat × Nat) := [(0, 14), (0, 15), (14, 15), (0, 16), (14, 16), (15, 16), (0, 1), (14, 1), (15, 1), (16, 1), (0, 2), (14, 2), (15, 2), (16, 2), (1, 2), (0, 3), (14, 3), (15, 3), (16, 3), (1, 3), (2, 3), (0, 4), (14, 4), (15, 4), (16, 4), (1, 4), (2, 4), (3, 4), (0, 5), (14, 5), (15, 5), (16, 5), (1, 5), (2, 5), (3, 5), (4, 5), (0, 6), (14, 6), (15, 6), (16, 6), (1, 6), (2, 6), (3, 6), (4, 6), (5, 6), (0, 7), (14, 7), (15, 7), (16, 7), (1, 7), (2, 7), (3, 7), (4, 7), (5, 7), (6, 7), (0, 8), (14, 8), (15, 8), (16, 8), (1, 8), (2, 8), (3, 8), (4, 8), (5, 8), (6, 8), (7, 8), (0, 9), (14, 9), (15, 9), (16, 9), (1, 9), (2, 9), (3, 9), (4, 9), (5, 9), (6, 9), (7, 9), (8, 9), (0, 10), (14, 10), (15, 10), (16, 10), (1, 10), (2, 10), (3, 10), (4, 10), (5, 10), (6, 10), (7, 10), (8, 10), (9, 10), (0, 11), (14, 11), (15, 11), (16, 11), (1, 11), (2, 11), (3, 11), (4, 11), (5, 11), (6, 11), (7, 11), (8, 11), (9, 11), (10, 11), (0, 12), (14, 12), (15, 12), (16, 12), (1, 12), (2, 12), (3, 12), (4, 12), (5, 12), (6, 12), (7, 12), (8, 12), (9, 12), (10, 12), (11, 12), (0, 13), (14, 13), (15, 13), (16, 13), (1, 13), (2, 13), (3, 13), (4, 13), (5, 13), (6, 13), (7, 13), (8, 13), (9, 13), (10, 13), (11, 13), (12, 13), (0, 17), (14, 17), (15, 17), (16, 17), (1, 17), (2, 17), (3, 17), (4, 17), (5, 17), (6, 17), (7, 17), (8, 17), (9, 17), (10, 17), (11, 17), (12, 17), (13, 17), (0, 18), (14, 18), (15, 18), (16, 18), (1, 18), (2, 18), (3, 18), (4, 18), (5, 18), (6, 18), (7, 18), (8, 18), (9, 18), (10, 18), (11, 18), (12, 18), (13, 18), (17, 18), (0, 19), (14, 19), (15, 19), (16, 19), (1, 19), (2, 19), (3, 19), (4, 19), (5, 19), (6, 19), (7, 19), (8, 19), (9, 19), (10, 19), (11, 19), (12, 19), (13, 19), (17, 19), (18, 19), (0, 20), (14, 20), (15, 20), (16, 20), (1, 20), (2, 20), (3, 20), (4, 20), (5, 20), (6, 20), (7, 20), (8, 20), (9, 20), (10, 20), (11, 20), (12, 20), (13, 20), (17, 20), (18, 20), (19, 20), (0, 21), (14, 21), (15, 21), (16, 21), (1, 21), (2, 21), (3, 21), (4, 21), (5, 21), (6, 21), (7, 21), (8, 21), (9, 21), (10, 21), (11, 21), (12, 21), (13, 21), (17, 21), (18, 21), (19, 21), (20, 21)]
def neQ : Cond → Bool
  | .not (.eq (.static _ _ d) (.static _ _ _)) => decide (d = wDs)
  | _ => false
theorem ne_eq9 : nwL.filter neQ = nePr.map (fun q => Cond.not (.eq (tmW q.1) (tmW q.2))) := by decide +kernel
def neC (i j : Nat) : Bool := nePr.any fun q => decide (q.1 = i) && decide (q.2 = j)
theorem ne_cov : ∀ i, i < 22 → ∀ j, j < 22 → i ≠ j → neC i j = true ∨ neC j i = true := by decide +kernel
theorem ne_mem9 {i j : Nat} (h : neC i j = true) : Cond.not (.eq (tmW i) (tmW j)) ∈ nwL := by
  obtain ⟨q, hq, h2⟩ := List.any_eq_true.mp h
  rw [Bool.and_eq_true] at h2
  have e1 := of_decide_eq_true h2.1
  have e2 := of_decide_eq_true h2.2
  have h1 := List.mem_map_of_mem (f := fun q : Nat × Nat => Cond.not (.eq (tmW q.1) (tmW q.2))) hq
  rw [← ne_eq9] at h1
  subst e1
  subst e2
  exact (List.mem_filter.mp h1).1
theorem m_ne : ∀ i, i < 22 → ∀ j, j < 22 → i ≠ j → Cond.not (.eq (tmW i) (tmW j)) ∈ nwL ∨ Cond.not (.eq (tmW j) (tmW i)) ∈ nwL := fun i hi j hj hij => (ne_cov i hi j hj hij).elim (fun h => Or.inl (ne_mem9 h)) (fun h => Or.inr (ne_mem9 h))
theorem m_aa : Cond.arrayOf tmA (.object wCl) ∈ nwL := by decide +kernel
theorem m_al : Cond.eq (.length tmA) (.int (Int32.ofNat 22)) ∈ nwL := by decide +kernel
theorem m_all : Cond.laysStatic wCl "ALL" "[LFrostLocks$Word;" ∈ lw_tbl := by decide +kernel
theorem m_sx : Cond.exactly tmS "java/lang/String" ∈ nwL := by decide +kernel
theorem m_sc : Cond.eq (.field tmS "java/lang/String" "coder" "B") (.int 0) ∈ nwL := by decide +kernel
theorem m_sa : Cond.arrayOf (.field tmS "java/lang/String" "value" "[B") .byte ∈ nwL := by decide +kernel
theorem m_sl : Cond.eq (.length (.field tmS "java/lang/String" "value" "[B")) (.int (Int32.ofNat 8)) ∈ nwL := by decide +kernel
theorem m_se : ∀ j, j < 8 → Cond.eq (.elem (.field tmS "java/lang/String" "value" "[B") (.int (Int32.ofNat j))) (.int (sgB.getD j 0)) ∈ nwL := by decide +kernel
theorem m_sr : Cond.stringRef "FrostLocks$Tokens" 69 "()<=+-*;" ∈ lw_tbl := by decide +kernel
theorem m_cl : Cond.laysStatic "java/lang/String" "COMPACT_STRINGS" "Z" ∈ lw_tbl := by decide +kernel
theorem m_ci : Cond.initialized "java/lang/String" ∈ lw_tbl := by decide +kernel
theorem m_cv : Cond.eq (.static "java/lang/String" "COMPACT_STRINGS" "Z") (.int 1) ∈ nwL := by decide +kernel
theorem m_ul : Cond.laysStatic Bundle.tN "UNASSIGNED_STACK" Bundle.steD ∈ lw_tbl := by decide +kernel
theorem m_ur : Cond.isRef (.static Bundle.tN "UNASSIGNED_STACK" Bundle.steD) ∈ nwL := by decide +kernel
theorem m_nl : Cond.laysStatic Bundle.tN "SUPPRESSED_SENTINEL" Bundle.listD ∈ lw_tbl := by decide +kernel
theorem m_nr : Cond.isRef (.static Bundle.tN "SUPPRESSED_SENTINEL" Bundle.listD) ∈ nwL := by decide +kernel
theorem m_ti : Cond.initialized Bundle.tN ∈ lw_tbl := by decide +kernel
theorem m_t1 : Cond.stringRef RX9 126 "no such man" ∈ lw_tbl := by decide +kernel
theorem m_t2 : Cond.stringRef RX9 140 "nothing such of a man" ∈ lw_tbl := by decide +kernel
theorem m_t3 : Cond.stringRef RX9 146 "no such hours" ∈ lw_tbl := by decide +kernel
theorem m_x1 : Cond.exactly (.string RX9 126) "java/lang/String" ∈ nwL := by decide +kernel
theorem m_x2 : Cond.exactly (.string RX9 140) "java/lang/String" ∈ nwL := by decide +kernel
theorem m_x3 : Cond.exactly (.string RX9 146) "java/lang/String" ∈ nwL := by decide +kernel
theorem m_cc : ∀ w ∈ xNg, w ∈ lw_tbl := by decide +kernel
theorem m_k : ∀ k, k < 10 → Cond.instantiable (cT k).1 (cT k).2.2 ∈ lw_tbl := by decide +kernel
theorem m_a : Cond.arrayClass .int ∈ lw_tbl ∧ Cond.arrayClass .long ∈ lw_tbl ∧ Cond.arrayClass .byte ∈ lw_tbl ∧ Cond.arrayClass .boolean ∈ lw_tbl ∧ Cond.arrayOver (.object RX3) ∈ lw_tbl ∧ Cond.arrayOver (.object RX4) ∈ lw_tbl := by decide +kernel
theorem m_n : Cond.methodLinkNest RX9 11 yX6_init "FrostLocks" ∈ lw_tbl ∧ Cond.methodLinkNest RX9 18 yX2_init "FrostLocks" ∈ lw_tbl ∧ Cond.methodLinkNest RX4 30 yX3_init "FrostLocks" ∈ lw_tbl ∧ Cond.methodLinkNest RX6 13 yX9_isWithin "FrostLocks" ∈ lw_tbl ∧ Cond.methodLinkNest RX5 11 yX2_init "FrostLocks" ∈ lw_tbl ∧ Cond.methodLinkNest RX7 49 yX9_isWithin "FrostLocks" ∈ lw_tbl ∧ Cond.methodLinkNest RX5 265 yX9_isWithin "FrostLocks" ∈ lw_tbl := by decide +kernel
section W0
variable {s : State} {b L : Nat} {xs : Nat → Int32} {D : va_G} {cA : Nat → ClassId} {args : Array Value}
theorem wd_st : Wd (gSt s D cA) (hSt s) s.heap := by
  refine ⟨rfl, Nat.le_refl _, Nat.le_add_right _ _, Nat.zero_le _, nS_end s.heap (Nat.le_refl _), fun q _ => rfl, fun a h => absurd (show 99 < 26 from h) (by decide), fun a => ?_⟩
  unfold at_
  rw [if_neg (show ¬ zK (hSt s) a < 10 from (by decide : ¬ (99 : Nat) < 10)), if_neg (show ¬ (20 ≤ zK (hSt s) a ∧ zK (hSt s) a < 26) from (by decide : ¬ (20 ≤ (99 : Nat) ∧ (99 : Nat) < 26)))]
  trivial
/-- the classes -/
theorem st_cl (hts : ∀ w ∈ lw_tbl, w.before args s = true) : ∃ D : va_G, ∀ (c : Nat) (q : vw_C), vwCl[c]? = some q → u_Kn s q.1 q.2.1 q.2.2 (D.1 c) (D.2 c) := by
  have hws : ∀ w ∈ WS, w.before args s = true := fun w h => hts w (List.mem_filter.mp h).1
  have h0 : ∀ k : Nat, ∃ q : ClassId × (Nat → Nat), k < 10 → u_Kn s (cT k).1 (cT k).2.1 (cT k).2.2 q.1 q.2 := by
    intro k
    by_cases hk : k < 10
    · obtain ⟨cC, iS, h⟩ := u_known (C := (cT k).1) (T := (cT k).2.1) (N := (cT k).2.2) hws (clW hk) (hts _ (m_k k hk))
      exact ⟨(cC, iS), fun _ => h⟩
    · exact ⟨(0, fun _ => 0), fun h => absurd h hk⟩
  obtain ⟨f, hf⟩ := Classical.axiomOfChoice h0
  refine ⟨(fun k => (f k).1, fun k => (f k).2), fun c q hq => ?_⟩
  have hc : c < 10 := (List.getElem?_eq_some_iff.mp hq).1
  have h1 := cT_some hc
  rw [hq] at h1
  cases h1
  exact hf c hc
/-- the arrays' classes -/
theorem st_ar (hts : ∀ w ∈ lw_tbl, w.before args s = true) : ∃ cA : Nat → ClassId, ∀ k, 20 ≤ k → k < 26 → ArrOfT s (cA k) (aT k) ∧ va_RA s (cA k) (aT k) := by
  obtain ⟨a0, a1, a2, a3, a4, a5⟩ := m_a
  have hp : ∀ ty : FieldType, (Cond.arrayClass ty).before args s = true → ∃ c : ClassId, ArrOfT s c ty ∧ s.vm.findClass ("[" ++ ty.toString) = some c := by
    intro ty h
    obtain ⟨c, k, comp, h1, h2, h3⟩ := Cond.arrayClass_spec h
    exact ⟨c, fun n z => ⟨fun k h => (by cases h), k, h2, comp, h3⟩, h1⟩
  have ho : ∀ C : String, (Cond.arrayOver (.object C)).before args s = true → ∃ c : ClassId, ArrOfT s c (.object C) ∧ va_RA s c (.object C) := by
    intro C h
    obtain ⟨comp, c, k, h1, h2, h3, h4, h5⟩ := Cond.arrayOver_spec h
    exact ⟨c, fun n z => ⟨fun k h => (by cases h), k, h3, comp, h4⟩, k, comp, h3, h4, h1, h5⟩
  obtain ⟨c0, p0, q0⟩ := hp _ (hts _ a0)
  obtain ⟨c1, p1, q1⟩ := hp _ (hts _ a1)
  obtain ⟨c2, p2, q2⟩ := hp _ (hts _ a2)
  obtain ⟨c3, p3, q3⟩ := hp _ (hts _ a3)
  obtain ⟨c4, p4, q4⟩ := ho _ (hts _ a4)
  obtain ⟨c5, p5, q5⟩ := ho _ (hts _ a5)
  refine ⟨fun k => if k = 20 then c0 else if k = 21 then c1 else if k = 22 then c2 else if k = 23 then c3 else if k = 24 then c4 else c5, fun k h1 h2 => ?_⟩
  have h3 : k = 20 ∨ k = 21 ∨ k = 22 ∨ k = 23 ∨ k = 24 ∨ k = 25 := by omega
  rcases h3 with rfl | rfl | rfl | rfl | rfl | rfl
  · exact ⟨p0, q0⟩
  · exact ⟨p1, q1⟩
  · exact ⟨p2, q2⟩
  · exact ⟨p3, q3⟩
  · exact ⟨p4, q4⟩
  · exact ⟨p5, q5⟩
theorem st_ok (hc : ∀ (c : Nat) (q : vw_C), vwCl[c]? = some q → u_Kn s q.1 q.2.1 q.2.2 (D.1 c) (D.2 c)) (ha : ∀ k, 20 ≤ k → k < 26 → ArrOfT s (cA k) (aT k) ∧ va_RA s (cA k) (aT k)) : Ok (gSt s D cA) s := by
  refine ⟨⟨hc, fun k q hq => ?_⟩, State.WarmedH.refl s, fun u U hW h => State.WarmedH.trans h hW, fun u U hv h => ?_⟩
  · have hk : k < 6 := (List.getElem?_eq_some_iff.mp hq).1
    have h1 := tysG_at (gSt s D cA) (k := k + 20) ⟨by omega, by omega⟩
    rw [Nat.add_sub_cancel, hq] at h1
    cases h1
    exact ha (k + 20) (by omega) (by omega)
  · show s.WarmedH U.vm
    rw [← hv]
    exact h
theorem st_NE (hts : ∀ w ∈ lw_tbl, w.before args s = true) : NE (gSt s D cA) := by
  obtain ⟨n1, n2, n3, n4, n5, n6, n7⟩ := m_n
  obtain ⟨-, -, -, -, a4, a5⟩ := m_a
  have hn : ∀ {a : String} {i : Nat} {x : MethodName} {h : String}, Cond.methodLinkNest a i x h ∈ lw_tbl → ∀ U, gE (gSt s D cA) U → va_Nw (.methodLinkNest a i x h) U := fun hm U hU => va_Nw.warmM hU (va_Nw.of rfl (hts _ hm))
  have ho : ∀ {C : String}, Cond.arrayOver (.object C) ∈ lw_tbl → ∀ U, gE (gSt s D cA) U → va_AO C U := fun hm U hU => va_AO.moved (State.WarmedH.alike hU) (va_AO.of (hts _ hm))
  exact ⟨hn n1, hn n2, hn n3, hn n4, hn n5, hn n6, hn n7, ho a4, ho a5⟩
theorem st_TX (hts : ∀ w ∈ lw_tbl, w.before args s = true) (hs : ∀ w ∈ nwL, w.before args s = true) : TX (gSt s D cA) := by
  have hA : ∀ a : Nat, a < s.heap.size → ¬ gAb (gSt s D cA) a := fun a h => Nat.not_le.mpr h
  have u1 := vx_Zqof (A := gAb (gSt s D cA)) (hts _ m_ul) (hts _ m_ti) (hs _ m_ur) hA
  have u2 := vx_Zqof (A := gAb (gSt s D cA)) (hts _ m_nl) (hts _ m_ti) (hs _ m_nr) hA
  obtain ⟨t1, -, -, -, e1, -⟩ := Cond.exactly_spec (hs _ m_x1)
  obtain ⟨t2, -, -, -, e2, -⟩ := Cond.exactly_spec (hs _ m_x2)
  obtain ⟨t3, -, -, -, e3, -⟩ := Cond.exactly_spec (hs _ m_x3)
  intro U hU
  have hv := State.WarmedH.alike (show s.WarmedH U.vm from hU)
  refine ⟨vx_Zq.moved hv u1, vx_Zq.moved hv u2, ⟨t1, vk_R.warm hU (vk_R.of (hts _ m_t1) e1)⟩, ⟨t2, vk_R.warm hU (vk_R.of (hts _ m_t2) e2)⟩, ⟨t3, vk_R.warm hU (vk_R.of (hts _ m_t3) e3)⟩, fun w hw => ?_⟩
  have h1 : va_Nw w s := va_Nw.of (xNg_ot w hw) (hts _ (m_cc w hw))
  simp only [xNg, List.mem_cons, List.not_mem_nil, or_false] at hw
  rcases hw with rfl | rfl | rfl | rfl
  · exact va_Nw.warmC hU h1
  · exact va_Nw.warmD hU h1
  · exact va_Nw.warmD hU h1
  · exact va_Nw.warmD hU h1
theorem bArr_of {ty : FieldType} {n a : Nat} {f : Nat → Value} {U : State} (hv : s.vm.Alike U.vm) (h : va_T ty a n f (gAb (gSt s D cA)) s s.heap) : bArr (gSt s D cA) ty n f a U := by
  obtain ⟨cell, h1, h2, h3, h4, h5, h6, h7⟩ := h
  exact ⟨Nat.not_le.mp h7, cell, h1, State.isArrayOf_alike hv h2, h3, h4, h5, h6⟩
theorem st_BK (hts : ∀ w ∈ lw_tbl, w.before args s = true) (hs : ∀ w ∈ nwL, w.before args s = true) : ∃ (ad : Nat → Nat) (aA aS aV : Nat), BK (gSt s D cA) ad aA aS aV ∧ ∀ i j, i < 22 → j < 22 → ad i = ad j → i = j := by
  have hA : ∀ a : Nat, a < s.heap.size → ¬ gAb (gSt s D cA) a := fun a h => Nat.not_le.mpr h
  obtain ⟨ad, hEn, hev⟩ := va_Enof2 (E := wCl) (d := wDs) (nm := wNm) (F := [(wCl, "reserved", "Z", wRs), (wCl, "fact", "I", wFc)]) (A := gAb (gSt s D cA)) (fun i hi => hts _ (m_lays i hi)) (hts _ m_init) (fun i hi => hs _ (m_ex i hi)) (fun q hq i hi => by
    rcases List.mem_cons.mp hq with rfl | hq
    · exact hs _ (m_rs i hi)
    · rcases List.mem_cons.mp hq with rfl | hq
      · exact hs _ (m_fc i hi)
      · exact absurd hq List.not_mem_nil) (fun i j hi hj hij => (m_ne i hi j hj hij).elim (fun h => Or.inl (hs _ h)) (fun h => Or.inr (hs _ h))) hA
  have hEf := va_Efof (N := 22) (E := wCl) (d0 := wDs) (o := wCl) (n := "name") (d := "J") (nm := wNm) (v := fun i => .long (Int64.ofNat (wNa.getD i 0))) (tm := fun i => .long (Int64.ofNat (wNa.getD i 0))) (ad := ad) (A := gAb (gSt s D cA)) hev (fun i hi => hs _ (m_na i hi)) (fun i hi => rfl) hA
  obtain ⟨aA, hAe, hAT⟩ := va_Tof (tm := tmA) (ty := .object wCl) (N := 22) (f := fun j => .ref (ad j)) (A := gAb (gSt s D cA)) (by decide) (hs _ m_aa) (va_eqt (hs _ m_al)) (fun j hj => va_eqv (hs _ (m_el j hj)) (hev j hj)) hA
  have hAz := va_Zref (hts _ m_all) (hts _ m_init) hAe hA
  obtain ⟨adK, adV, hS, hSe⟩ := vk_Sof (N := 1) (tm := fun _ => tmS) (len := [8]) (byt := [sgB]) (A := gAb (gSt s D cA)) (fun i hi => by
    rw [show i = 0 by omega]
    decide) (fun i hi => hs _ m_sx) (fun i hi => hs _ m_sc) (fun i hi => hs _ m_sa) (fun i hi => by
    rw [show i = 0 by omega]
    exact hs _ m_sl) (fun i hi j hj => by
    rw [show i = 0 by omega] at hj ⊢
    exact hs _ (m_se j hj)) (fun i j hi hj hij => absurd (show i = j by omega) hij) hA
  obtain ⟨s1, s2, s3, s4⟩ := hS.1 0 (by decide)
  have hz := va_Zof (A := gAb (gSt s D cA)) (hts _ m_cl) (hts _ m_ci) (va_eqt (hs _ m_cv)) hA
  refine ⟨ad, aA, adK 0, adV 0, fun U hU => ?_, fun i j hi hj e => hEn.2 i j hi hj e⟩
  have hv := State.WarmedH.alike (show s.WarmedH U.vm from hU)
  exact ⟨va_En.moved hv hEn, va_Ef.moved hv hEf, va_Z.moved hv hAz, bArr_of hv hAT, vk_R.warm hU (vk_R.of (hts _ m_sr) (hSe 0 (by decide))), va_O.moved hv s1, va_OF.moved hv s3, va_OF.moved hv s2, bArr_of hv s4, va_Z.moved hv hz⟩
theorem st_sc (hX : va_X b L xs s s.heap) (hb : b < s.heap.size) : ∀ U, gE (gSt s D cA) U → bArr (gSt s D cA) .int L (fun j => .int (xs j)) b U := by
  obtain ⟨scr, h1, h2, h3, h4, h5⟩ := hX
  intro U hU
  exact ⟨hb, scr, h1, State.isArrayOf_alike (State.WarmedH.alike (show s.WarmedH U.vm from hU)) h2, h3, Nat.le_of_eq h4.symm, by rw [h4] <;> rfl, h5⟩
end W0
