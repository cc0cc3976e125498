/-! ===== a night made, the object made ===== -/
def lkA (σ : Hp) (l j : Nat) : Hp := wQ (nw σ 3 0 5) l j (some (zX σ))
def lkN (σ : Hp) (l : Nat) : Nat → Hp
  | 0 => σ
  | j + 1 => lkA (lkN σ l j) l j
theorem lkN_x (σ : Hp) (l : Nat) : ∀ j, zX (lkN σ l j) = zX σ + j ∧ zS (lkN σ l j) = zS σ + 5 * j := by
  intro j
  induction j with
  | zero => exact ⟨rfl, rfl⟩
  | succ j ih =>
    refine ⟨?_, ?_⟩
    · show zX (lkN σ l j) + 1 = zX σ + (j + 1); rw [ih.1]; omega
    · show zS (lkN σ l j) + 5 = zS σ + 5 * (j + 1); rw [ih.2]; omega
theorem lkN_gw (σ : Hp) (l : Nat) : ∀ j, Gw σ (lkN σ l j) l := by
  intro j
  induction j with
  | zero => exact Gw.rf σ l
  | succ j ih => exact ih.tr ((Gw.nw _ l _ _ _).tr (Gw.wQ _ l _ _))
theorem lkN_at (σ : Hp) {l : Nat} (hl : l < zX σ) : ∀ j i, i < j → zQ (lkN σ l j) l i = some (zX σ + i) ∧ zK (lkN σ l j) (zX σ + i) = 3 ∧ zI (lkN σ l j) (zX σ + i) = (fun _ => 0) ∧ zJ (lkN σ l j) (zX σ + i) = fun _ => 0 := by
  intro j
  induction j with
  | zero => intro i hi; omega
  | succ j ih =>
    intro i hi
    have hx := (lkN_x σ l j).1
    have g := (Gw.nw (lkN σ l j) l 3 0 5).tr (Gw.wQ (nw (lkN σ l j) 3 0 5) l j (some (zX (lkN σ l j))))
    by_cases e : i = j
    · subst e
      have hne : zX (lkN σ l i) ≠ l := by rw [hx]; omega
      rw [← hx]
      refine ⟨up2_s _ _ _ _, va_sm _ _ _, va_fs _ _ _, ?_⟩
      show va_up (zJ (lkN σ l i)) (zX (lkN σ l i)) (fun _ => 0) (zX (lkN σ l i)) = _
      simp [va_up]
    · obtain ⟨a1, a2, a3, a4⟩ := ih i (by omega)
      obtain ⟨b1, b2, b3, b4, b5⟩ := g.2.2 (zX σ + i) (by rw [hx]; omega)
      refine ⟨?_, b1.trans a2, b3.trans a3, b4.trans a4⟩
      show up2 (zQ (nw (lkN σ l j) 3 0 5)) l j (some (zX (lkN σ l j))) l i = _
      rw [up2_at _ _ e, zQ_nw]
      have hne : l ≠ zX (lkN σ l j) := by rw [hx]; omega
      simp only [va_up, hne, if_false]
      exact a1
def ntL : List (Nat × Nat × Nat) := [(3, 20, 8), (4, 20, 6), (5, 20, 6), (6, 24, 10), (7, 20, 9)]
def ntM (σ : Hp) (a : Nat) : Hp := lkN (iaL σ a ntL) (a + 4) 10
def ntF (σ : Hp) (a b : Nat) : Hp := wI (wQ (ntM σ a) a 0 (some b)) a 2 (-1)
section NtMade
variable {σ : Hp} {a b : Nat}
theorem nt_x (hx : zX σ = a + 1) : zX (ntF σ a b) = a + 16 ∧ zS (ntF σ a b) = zS σ + 89 := by
  obtain ⟨h1, h2⟩ := lkN_x (iaL σ a ntL) (a + 4) 10
  obtain ⟨h3, h4⟩ := iaL_x a ntL σ
  have e1 : zX (ntF σ a b) = zX (lkN (iaL σ a ntL) (a + 4) 10) := rfl
  have e2 : zS (ntF σ a b) = zS (lkN (iaL σ a ntL) (a + 4) 10) := rfl
  rw [e1, e2, h1, h2, h3, h4, hx]
  have l5 : ntL.length = 5 := rfl
  have s5 : sumL ntL = 39 := rfl
  rw [l5, s5]
  exact ⟨by omega, by omega⟩
theorem nt_lo (hx : zX σ = a + 1) {p : Nat} (hp : p < a) : zK (ntF σ a b) p = zK σ p ∧ zN (ntF σ a b) p = zN σ p ∧ zI (ntF σ a b) p = zI σ p ∧ zJ (ntF σ a b) p = zJ σ p ∧ zQ (ntF σ a b) p = zQ σ p := by
  have g1 := (iaL_gw a ntL σ).2.2 p (by omega)
  have g2 := (lkN_gw (iaL σ a ntL) (a + 4) 10).2.2 p (by rw [(iaL_x a ntL σ).1, hx]; omega)
  refine ⟨g2.1.trans g1.1, g2.2.1.trans g1.2.1, ?_, g2.2.2.2.1.trans g1.2.2.2.1, ?_⟩
  · show up2 (zI (ntM σ a)) a 2 (-1) p = zI σ p
    rw [up2_o _ _ (by omega)]
    exact g2.2.2.1.trans g1.2.2.1
  · show up2 (zQ (ntM σ a)) a 0 (some b) p = zQ σ p
    rw [show up2 (zQ (ntM σ a)) a 0 (some b) p = zQ (ntM σ a) p from funext (fun j => up2_a _ _ (by omega))]
    exact (g2.2.2.2.2 (by omega)).trans (g1.2.2.2.2 (by omega))
theorem nt_hi (hx : zX σ = a + 1) (hI : zI σ a = fun _ => 0) (hJ : zJ σ a = fun _ => 0) : (∀ p, a < p → p < a + 16 → zI (ntF σ a b) p = fun _ => 0) ∧ (∀ p, a ≤ p → p < a + 16 → zJ (ntF σ a b) p = fun _ => 0) ∧ ∀ k, zI (ntF σ a b) a k = if k = 2 then -1 else 0 := by
  have hz5 : zX (iaL σ a ntL) = a + 6 := by rw [(iaL_x a ntL σ).1, hx]; rfl
  have g1 := (iaL_gw a ntL σ).2.2 a (by omega)
  have g2 := (lkN_gw (iaL σ a ntL) (a + 4) 10).2.2
  have at5 := fun i q h => iaL_at a ntL σ (by omega) rfl i q h
  have lk := lkN_at (iaL σ a ntL) (l := a + 4) (by omega) 10
  have arr : ∀ i, i < 5 → zI (ntM σ a) (a + 1 + i) = (fun _ => 0) ∧ zJ (ntM σ a) (a + 1 + i) = fun _ => 0 := by
    intro i hi
    obtain ⟨q, hq⟩ : ∃ q, ntL[i]? = some q := ⟨ntL[i]'(by show i < 5; exact hi), List.getElem?_eq_getElem _⟩
    have z := at5 i q hq
    rw [hx] at z
    have g := g2 (a + 1 + i) (by omega)
    exact ⟨g.2.2.1.trans z.2.2.2.1, g.2.2.2.1.trans z.2.2.2.2.1⟩
  refine ⟨fun p p1 p2 => ?_, fun p p1 p2 => ?_, fun k => ?_⟩
  · show up2 (zI (ntM σ a)) a 2 (-1) p = _
    rw [up2_o _ _ (by omega)]
    by_cases c : p < a + 6
    · have := (arr (p - (a + 1)) (by omega)).1
      rwa [show a + 1 + (p - (a + 1)) = p by omega] at this
    · have := (lk (p - (a + 6)) (by omega)).2.2.1
      rwa [hz5, show a + 6 + (p - (a + 6)) = p by omega] at this
  · show zJ (ntM σ a) p = _
    by_cases c0 : p = a
    · rw [c0]; exact (g2 a (by omega)).2.2.2.1.trans (g1.2.2.2.1.trans hJ)
    · by_cases c : p < a + 6
      · have := (arr (p - (a + 1)) (by omega)).2
        rwa [show a + 1 + (p - (a + 1)) = p by omega] at this
      · have := (lk (p - (a + 6)) (by omega)).2.2.2
        rwa [hz5, show a + 6 + (p - (a + 6)) = p by omega] at this
  · show up2 (zI (ntM σ a)) a 2 (-1) a k = _
    by_cases c : k = 2
    · rw [c, up2_s]; rfl
    · rw [up2_at _ _ c, if_neg c]
      have := (g2 a (by omega)).2.2.1.trans (g1.2.2.1.trans hI)
      exact congrFun this k
theorem nt_made (hK : zK σ a = 4) (hx : zX σ = a + 1) : NtS (ntF σ a b) a ∧ zQ (ntF σ a b) a 0 = some b := by
  have hz5 : zX (iaL σ a ntL) = a + 6 := by rw [(iaL_x a ntL σ).1, hx]; rfl
  have g1 := (iaL_gw a ntL σ).2.2 a (by omega)
  have g2 := (lkN_gw (iaL σ a ntL) (a + 4) 10).2.2
  have at5 := fun i q h => iaL_at a ntL σ (by omega) rfl i q h
  rw [hx] at at5
  have lk := lkN_at (iaL σ a ntL) (l := a + 4) (by omega) 10
  rw [hz5] at lk
  have qa : ∀ k, k ≠ 0 → zQ (ntF σ a b) a k = zQ (iaL σ a ntL) a k := fun k hk => by
    show up2 (zQ (ntM σ a)) a 0 (some b) a k = _
    rw [up2_at _ _ hk]
    exact congrFun ((g2 a (by omega)).2.2.2.2 (by omega)) k
  refine ⟨⟨?_, fun o o1 o5 => ?_, fun j hj => ?_⟩, up2_s _ _ _ _⟩
  · exact (g2 a (by omega)).1.trans (g1.1.trans hK)
  · have ho : o = 1 ∨ o = 2 ∨ o = 3 ∨ o = 4 ∨ o = 5 := by omega
    rcases ho with rfl | rfl | rfl | rfl | rfl
    · have z := at5 0 _ rfl
      rw [show a + 1 + 0 = a + 1 by omega] at z
      exact ⟨(qa _ (by decide)).trans z.1, (g2 (a + 1) (by omega)).1.trans z.2.1, (g2 (a + 1) (by omega)).2.1.trans z.2.2.1⟩
    · have z := at5 1 _ rfl
      rw [show a + 1 + 1 = a + 2 by omega] at z
      exact ⟨(qa _ (by decide)).trans z.1, (g2 (a + 2) (by omega)).1.trans z.2.1, (g2 (a + 2) (by omega)).2.1.trans z.2.2.1⟩
    · have z := at5 2 _ rfl
      rw [show a + 1 + 2 = a + 3 by omega] at z
      exact ⟨(qa _ (by decide)).trans z.1, (g2 (a + 3) (by omega)).1.trans z.2.1, (g2 (a + 3) (by omega)).2.1.trans z.2.2.1⟩
    · have z := at5 3 _ rfl
      rw [show a + 1 + 3 = a + 4 by omega] at z
      exact ⟨(qa _ (by decide)).trans z.1, (g2 (a + 4) (by omega)).1.trans z.2.1, (g2 (a + 4) (by omega)).2.1.trans z.2.2.1⟩
    · have z := at5 4 _ rfl
      rw [show a + 1 + 4 = a + 5 by omega] at z
      exact ⟨(qa _ (by decide)).trans z.1, (g2 (a + 5) (by omega)).1.trans z.2.1, (g2 (a + 5) (by omega)).2.1.trans z.2.2.1⟩
  · have z := lk j hj
    refine ⟨?_, z.2.1⟩
    show up2 (zQ (ntM σ a)) a 0 (some b) (a + 4) j = _
    rw [up2_a _ _ (by omega)]
    exact z.1
end NtMade
section Inits2
variable {G : GG} {σ : Hp}
set_option maxRecDepth 100000 in
theorem sc_ninit (hE : NE G) {a b : Nat} (hK : zK σ a = 4) (hx : zX σ = a + 1) (hc : zX σ + 15 ≤ gC G) (hs : zS σ + 89 ≤ gS G) : Sp G mX4_init 2 [.ref a, .ref b] σ (fun rv σ' => rv = none ∧ σ' = ntF σ a b) := by
  have D := dat dl_X4_init
  have hlt : a < zX σ := by omega
  have loop : ∀ r j : Nat, j ≤ 10 → 10 - j = r → HT G mX4_init 47 [some (.ref a), some (.ref b), some (.int (nI j))] [] (lkN (iaL σ a ntL) (a + 4) j) 2 (fun rv σ' => rv = none ∧ σ' = ntF σ a b) := by
    have hz5 : zX (iaL σ a ntL) = a + 6 := by rw [(iaL_x a ntL σ).1, hx]; rfl
    have hs5 : zS (iaL σ a ntL) = zS σ + 39 := by rw [(iaL_x a ntL σ).2]; rfl
    have at3 := iaL_at a ntL σ (by omega) rfl 3 _ rfl
    rw [hx, show a + 1 + 3 = a + 4 by omega] at at3
    intro r
    induction r using Nat.strongRecOn with
    | _ r ih =>
      intro j hj hr
      have hxj := (lkN_x (iaL σ a ntL) (a + 4) j).1
      have hsj := (lkN_x (iaL σ a ntL) (a + 4) j).2
      rw [hz5] at hxj
      rw [hs5] at hsj
      have ga := (lkN_gw (iaL σ a ntL) (a + 4) j).2.2 a (by omega)
      have gl := (lkN_gw (iaL σ a ntL) (a + 4) j).2.2 (a + 4) (by omega)
      have hka : zK (lkN (iaL σ a ntL) (a + 4) j) a = 4 := ga.1.trans (((iaL_gw a ntL σ).2.2 a (by omega)).1.trans hK)
      have hq6 : zQ (lkN (iaL σ a ntL) (a + 4) j) a 6 = some (a + 4) := (congrFun (ga.2.2.2.2 (by omega)) 6).trans at3.1
      have hk4 : zK (lkN (iaL σ a ntL) (a + 4) j) (a + 4) = 24 := gl.1.trans at3.2.1
      have hn4 : zN (nw (lkN (iaL σ a ntL) (a + 4) j) 3 0 5) (a + 4) = 10 := by rw [zN_nw, va_ne _ _ (by omega)]; exact gl.2.1.trans at3.2.2.1
      refine ht_iload_n (D 24 rfl) rfl rfl ?_
      refine ht_bipush (v := 10) (D 25 rfl) (by decide) ?_
      refine ht_icmp_ge (tgt := 72) (D 26 rfl) (by decide) (fun hb50 => ?_) (fun hb50 => ?_)
      · skip
        have hjk : j = 10 := by have h3 := (nI_leI (a := 10) (b := j) (by omega) (by omega)).mp hb50; omega
        subst hjk
        refine ht_aload_n (D 36 rfl) rfl rfl ?_
        refine ht_aload_n (D 37 rfl) rfl rfl ?_
        refine pf_X4_31 (some b) rfl (D 38 rfl) hka ?_
        refine ht_aload_n (D 39 rfl) rfl rfl ?_
        refine ht_iconst (v := -1) (D 40 rfl) (by decide) ?_
        refine pf_X4_35 rfl (D 41 rfl) hka ?_
        refine ht_vret (D 42 rfl) rfl ?_
        exact ⟨rfl, rfl⟩
      · skip
        have hjk : j < 10 := by have h3 := mt (nI_leI (a := 10) (b := j) (by omega) (by omega)).mpr hb50; omega
        refine ht_aload_n (D 27 rfl) rfl rfl ?_
        refine gf_X4_23 rfl (D 28 rfl) hka hq6 ?_
        refine ht_iload_n (D 29 rfl) rfl rfl ?_
        refine ht_new (ci := 3) (by decide) kk_X4_21 ki_X3 kn_X3 (D 30 rfl) (by rw [hxj]; omega) (by rw [hsj]; show zS σ + 39 + 5 * j + 5 ≤ gS G; omega) ?_
        refine ht_dup (D 31 rfl) rfl ?_
        refine kNX3_init (As := []) hE.X4_30 (D 32 rfl) sc_kinit rfl (Nat.le_of_ble_eq_true rfl) rfl (Nat.le_of_ble_eq_true rfl) (by omega) ?_
        rintro _ _ ⟨rfl, rfl⟩
        refine ht_ast (n := j) (Or.inl ⟨rfl, rfl⟩) (D 33 rfl) (nw_k hk4 (by rw [hxj]; omega) 3 0 5) (va_sm _ _ _) hn4 rfl (by omega) (by decide) ?_
        refine ht_iinc (v := nI (j + 1)) (D 34 rfl) rfl (nI_i1 _) (by decide) rfl ?_
        refine ht_goto (tgt := 47) (D 35 rfl) (by decide) ?_
        exact ht_cast (ih (10 - (j + 1)) (by omega) (j + 1) (by omega) rfl) rfl rfl rfl
  show HT G mX4_init 0 [some (.ref a), some (.ref b), none] [] σ 2 _
  refine ht_aload_n (D 0 rfl) rfl rfl ?_
  refine ht_objInit cl_X4_3 ob_inst ob_code (D 1 rfl) (by decide) (by omega) ?_
  refine ht_aload_n (D 2 rfl) rfl rfl ?_
  refine ht_bipush (v := 8) (D 3 rfl) (by decide) ?_
  refine ht_newa (atype := .int) (k := 20) (N := 8) (by decide) (by decide) rfl ka_int (D 4 rfl) (by decide) (by decide) (by decide) (by first | omega | (simp only [zX_ia, zS_ia, zX_nw, zS_nw]; omega)) (by first | omega | (simp only [zX_ia, zS_ia, zX_nw, zS_nw]; omega)) ?_
  refine pf_X4_9 (some (zX σ)) rfl rfl (D 5 rfl) (nw_k hK hlt 20 8 8) ?_
  show HT G mX4_init 12 _ _ (ia σ a (3, 20, 8)) _ _
  refine ht_aload_n (D 6 rfl) rfl rfl ?_
  refine ht_bipush (v := 6) (D 7 rfl) (by decide) ?_
  refine ht_newa (atype := .int) (k := 20) (N := 6) (by decide) (by decide) rfl ka_int (D 8 rfl) (by decide) (by decide) (by decide) (by first | omega | (simp only [zX_ia, zS_ia, zX_nw, zS_nw]; omega)) (by first | omega | (simp only [zX_ia, zS_ia, zX_nw, zS_nw]; omega)) ?_
  refine pf_X4_15 (some (zX (ia σ a (3, 20, 8)))) rfl rfl (D 9 rfl) (nw_k (ia_k hK hlt (3, 20, 8)) (ia_lt hlt (3, 20, 8)) 20 6 6) ?_
  show HT G mX4_init 20 _ _ (ia (ia σ a (3, 20, 8)) a (4, 20, 6)) _ _
  refine ht_aload_n (D 10 rfl) rfl rfl ?_
  refine ht_bipush (v := 6) (D 11 rfl) (by decide) ?_
  refine ht_newa (atype := .int) (k := 20) (N := 6) (by decide) (by decide) rfl ka_int (D 12 rfl) (by decide) (by decide) (by decide) (by first | omega | (simp only [zX_ia, zS_ia, zX_nw, zS_nw]; omega)) (by first | omega | (simp only [zX_ia, zS_ia, zX_nw, zS_nw]; omega)) ?_
  refine pf_X4_18 (some (zX (ia (ia σ a (3, 20, 8)) a (4, 20, 6)))) rfl rfl (D 13 rfl) (nw_k (ia_k (ia_k hK hlt (3, 20, 8)) (ia_lt hlt (3, 20, 8)) (4, 20, 6)) (ia_lt (ia_lt hlt (3, 20, 8)) (4, 20, 6)) 20 6 6) ?_
  show HT G mX4_init 28 _ _ (ia (ia (ia σ a (3, 20, 8)) a (4, 20, 6)) a (5, 20, 6)) _ _
  refine ht_aload_n (D 14 rfl) rfl rfl ?_
  refine ht_bipush (v := 10) (D 15 rfl) (by decide) ?_
  refine ht_anew (k := 24) (N := 10) (Or.inl rfl) rfl kk_X4_21 hE.ao3 (D 16 rfl) (by decide) (by decide) (by decide) (by first | omega | (simp only [zX_ia, zS_ia, zX_nw, zS_nw]; omega)) (by first | omega | (simp only [zX_ia, zS_ia, zX_nw, zS_nw]; omega)) ?_
  refine pf_X4_23 (some (zX (ia (ia (ia σ a (3, 20, 8)) a (4, 20, 6)) a (5, 20, 6)))) rfl rfl (D 17 rfl) (nw_k (ia_k (ia_k (ia_k hK hlt (3, 20, 8)) (ia_lt hlt (3, 20, 8)) (4, 20, 6)) (ia_lt (ia_lt hlt (3, 20, 8)) (4, 20, 6)) (5, 20, 6)) (ia_lt (ia_lt (ia_lt hlt (3, 20, 8)) (4, 20, 6)) (5, 20, 6)) 24 10 10) ?_
  show HT G mX4_init 37 _ _ (ia (ia (ia (ia σ a (3, 20, 8)) a (4, 20, 6)) a (5, 20, 6)) a (6, 24, 10)) _ _
  refine ht_aload_n (D 18 rfl) rfl rfl ?_
  refine ht_bipush (v := 9) (D 19 rfl) (by decide) ?_
  refine ht_newa (atype := .int) (k := 20) (N := 9) (by decide) (by decide) rfl ka_int (D 20 rfl) (by decide) (by decide) (by decide) (by first | omega | (simp only [zX_ia, zS_ia, zX_nw, zS_nw]; omega)) (by first | omega | (simp only [zX_ia, zS_ia, zX_nw, zS_nw]; omega)) ?_
  refine pf_X4_27 (some (zX (ia (ia (ia (ia σ a (3, 20, 8)) a (4, 20, 6)) a (5, 20, 6)) a (6, 24, 10)))) rfl rfl (D 21 rfl) (nw_k (ia_k (ia_k (ia_k (ia_k hK hlt (3, 20, 8)) (ia_lt hlt (3, 20, 8)) (4, 20, 6)) (ia_lt (ia_lt hlt (3, 20, 8)) (4, 20, 6)) (5, 20, 6)) (ia_lt (ia_lt (ia_lt hlt (3, 20, 8)) (4, 20, 6)) (5, 20, 6)) (6, 24, 10)) (ia_lt (ia_lt (ia_lt (ia_lt hlt (3, 20, 8)) (4, 20, 6)) (5, 20, 6)) (6, 24, 10)) 20 9 9) ?_
  show HT G mX4_init 45 _ _ (ia (ia (ia (ia (ia σ a (3, 20, 8)) a (4, 20, 6)) a (5, 20, 6)) a (6, 24, 10)) a (7, 20, 9)) _ _
  refine ht_iconst (v := 0) (D 22 rfl) (by decide) ?_
  refine ht_istore_n (D 23 rfl) rfl (by decide) rfl ?_
  exact ht_cast (loop 10 0 (by omega) (by omega)) rfl rfl rfl
end Inits2
