/-! ===== the object made ===== -/
theorem NtS.loc {σ σ2 : Hp} {a : Nat} (h : NtS σ a) (e : ∀ p, a ≤ p → p < a + 16 → zK σ2 p = zK σ p ∧ zN σ2 p = zN σ p ∧ zQ σ2 p = zQ σ p) : NtS σ2 a := by
  refine ⟨?_, fun o o1 o5 => ?_, fun j hj => ?_⟩
  · rw [(e a (by omega) (by omega)).1]; exact h.k0
  · rw [(e a (by omega) (by omega)).2.2, (e (a + o) (by omega) (by omega)).1, (e (a + o) (by omega) (by omega)).2.1]
    exact h.2.1 o o1 o5
  · rw [(e (a + 4) (by omega) (by omega)).2.2, (e (a + 6 + j) (by omega) (by omega)).1]
    exact h.2.2 j hj
theorem LwS.loc {σ σ2 : Hp} {b : Nat} (h : LwS σ b) (e : ∀ p, b ≤ p → p < b + 11 → zK σ2 p = zK σ p ∧ zN σ2 p = zN σ p ∧ zQ σ2 p = zQ σ p) : LwS σ2 b := by
  refine ⟨?_, fun o o1 o5 => ?_⟩
  · rw [(e b (by omega) (by omega)).1]; exact h.k0
  · rw [(e b (by omega) (by omega)).2.2, (e (b + o) (by omega) (by omega)).1, (e (b + o) (by omega) (by omega)).2.1]
    exact h.2 o o1 o5
theorem Gw.tr2 {σ σ1 σ2 : Hp} {b b2 : Nat} (h1 : Gw σ σ1 b) (h2 : Gw σ1 σ2 b2) (hb : zX σ ≤ b2) : Gw σ σ2 b := by
  refine ⟨Nat.le_trans h1.1 h2.1, Nat.le_trans h1.2.1 h2.2.1, fun p hp => ?_⟩
  obtain ⟨a1, a2, a3, a4, a5⟩ := h1.2.2 p hp
  obtain ⟨b1, b2, b3, b4, b5⟩ := h2.2.2 p (Nat.lt_of_lt_of_le hp h1.1)
  exact ⟨b1.trans a1, b2.trans a2, b3.trans a3, b4.trans a4, fun h => (b5 (by omega)).trans (a5 h)⟩
theorem gw_nt {σ : Hp} {a l b : Nat} (hx : zX σ = a) : Gw σ (ntF (nw σ 4 0 8) a l) b := by
  have hx2 : zX (nw σ 4 0 8) = a + 1 := by rw [zX_nw, hx]
  have hz := nt_x (b := l) hx2
  have hs : zS (nw σ 4 0 8) = zS σ + 8 := rfl
  refine ⟨by rw [hz.1]; omega, by rw [hz.2, hs]; omega, fun p hp => ?_⟩
  obtain ⟨a1, a2, a3, a4, a5⟩ := nt_lo (b := l) hx2 (show p < a by omega)
  obtain ⟨b1, b2, b3, b4, b5⟩ := (Gw.nw σ (zX σ) 4 0 8).2.2 p hp
  exact ⟨a1.trans b1, a2.trans b2, a3.trans b3, a4.trans b4, fun _ => a5.trans (b5 (by omega))⟩
def arL : List (Nat × Nat × Nat) := [(3, 25, 4), (4, 20, 10), (5, 20, 10), (6, 20, 240), (7, 20, 240), (8, 20, 8)]
def xs1 (σ : Hp) (xo : Nat) : Hp := wQ (iaL (nw σ 6 0 2) (xo + 1) tpL) xo 0 (some (xo + 1))
def xs2 (σ : Hp) (xo : Nat) : Hp := iaL (nw (xs1 σ xo) 2 0 17) (xo + 3) lwL
def xs3 (σ : Hp) (xo : Nat) : Hp := wQ (ntF (nw (xs2 σ xo) 4 0 8) (xo + 14) (xo + 3)) xo 1 (some (xo + 14))
def xs4 (σ : Hp) (xo : Nat) : Hp := wQ (ntF (nw (xs3 σ xo) 4 0 8) (xo + 30) (xo + 3)) xo 2 (some (xo + 30))
def xs5 (σ : Hp) (xo : Nat) : Hp := iaL (xs4 σ xo) xo arL
section XoMade
variable {σ : Hp} {xo : Nat}
theorem xs1_x (hx : zX σ = xo + 1) : zX (xs1 σ xo) = xo + 3 ∧ zS (xs1 σ xo) = zS σ + 1002 := by
  have h := iaL_x (xo + 1) tpL (nw σ 6 0 2)
  have e1 : zX (xs1 σ xo) = zX (iaL (nw σ 6 0 2) (xo + 1) tpL) := rfl
  have e2 : zS (xs1 σ xo) = zS (iaL (nw σ 6 0 2) (xo + 1) tpL) := rfl
  rw [e1, e2, h.1, h.2, zX_nw, zS_nw, hx, show tpL.length = 1 from rfl, show sumL tpL = 1000 from rfl]
  exact ⟨by omega, by omega⟩
theorem xs2_x (hx : zX σ = xo + 1) : zX (xs2 σ xo) = xo + 14 ∧ zS (xs2 σ xo) = zS σ + 1101 := by
  have h := iaL_x (xo + 3) lwL (nw (xs1 σ xo) 2 0 17)
  have q := xs1_x hx
  unfold xs2
  rw [h.1, h.2, zX_nw, zS_nw, q.1, q.2, show lwL.length = 10 from rfl, show sumL lwL = 82 from rfl]
  exact ⟨by omega, by omega⟩
theorem xs3_x (hx : zX σ = xo + 1) : zX (xs3 σ xo) = xo + 30 ∧ zS (xs3 σ xo) = zS σ + 1198 := by
  have q := xs2_x hx
  have h := nt_x (σ := nw (xs2 σ xo) 4 0 8) (a := xo + 14) (b := xo + 3) (by rw [zX_nw, q.1])
  have e1 : zX (xs3 σ xo) = zX (ntF (nw (xs2 σ xo) 4 0 8) (xo + 14) (xo + 3)) := rfl
  have e2 : zS (xs3 σ xo) = zS (ntF (nw (xs2 σ xo) 4 0 8) (xo + 14) (xo + 3)) := rfl
  rw [e1, e2, h.1, h.2, zS_nw, q.2]
  exact ⟨by omega, by omega⟩
theorem xs4_x (hx : zX σ = xo + 1) : zX (xs4 σ xo) = xo + 46 ∧ zS (xs4 σ xo) = zS σ + 1295 := by
  have q := xs3_x hx
  have h := nt_x (σ := nw (xs3 σ xo) 4 0 8) (a := xo + 30) (b := xo + 3) (by rw [zX_nw, q.1])
  have e1 : zX (xs4 σ xo) = zX (ntF (nw (xs3 σ xo) 4 0 8) (xo + 30) (xo + 3)) := rfl
  have e2 : zS (xs4 σ xo) = zS (ntF (nw (xs3 σ xo) 4 0 8) (xo + 30) (xo + 3)) := rfl
  rw [e1, e2, h.1, h.2, zS_nw, q.2]
  exact ⟨by omega, by omega⟩
theorem xs5_x (hx : zX σ = xo + 1) : zX (xs5 σ xo) = xo + 52 ∧ zS (xs5 σ xo) = zS σ + 1807 := by
  have q := xs4_x hx
  have h := iaL_x xo arL (xs4 σ xo)
  unfold xs5
  rw [h.1, h.2, q.1, q.2, show arL.length = 6 from rfl, show sumL arL = 512 from rfl]
  exact ⟨by omega, by omega⟩
theorem xs1_g (hx : zX σ = xo + 1) : Gw σ (xs1 σ xo) xo := (((Gw.nw σ xo 6 0 2).tr2 (iaL_gw (xo + 1) tpL _) (by omega)).tr (Gw.wQ _ xo 0 _))
theorem xs2_g (hx : zX σ = xo + 1) : Gw (xs1 σ xo) (xs2 σ xo) xo := (Gw.nw _ xo 2 0 17).tr2 (iaL_gw (xo + 3) lwL _) (by rw [(xs1_x hx).1]; omega)
theorem xs3_g (hx : zX σ = xo + 1) : Gw (xs2 σ xo) (xs3 σ xo) xo := (gw_nt (xs2_x hx).1).tr (Gw.wQ _ xo 1 _)
theorem xs4_g (hx : zX σ = xo + 1) : Gw (xs3 σ xo) (xs4 σ xo) xo := (gw_nt (xs3_x hx).1).tr (Gw.wQ _ xo 2 _)
theorem xs5_g : Gw (xs4 σ xo) (xs5 σ xo) xo := iaL_gw xo arL _
theorem xs_k {i : Nat} (hK : zK σ xo = 8) (hx : zX σ = xo + 1) : zK (xs1 σ xo) xo = 8 ∧ zK (xs2 σ xo) xo = 8 ∧ zK (xs3 σ xo) xo = 8 ∧ zK (xs4 σ xo) xo = 8 ∧ zK (xs5 σ xo) xo = 8 := by
  have a1 := ((xs1_g hx).2.2 xo (by omega)).1.trans hK
  have a2 := ((xs2_g hx).2.2 xo (by rw [(xs1_x hx).1]; omega)).1.trans a1
  have a3 := ((xs3_g hx).2.2 xo (by rw [(xs2_x hx).1]; omega)).1.trans a2
  have a4 := ((xs4_g hx).2.2 xo (by rw [(xs3_x hx).1]; omega)).1.trans a3
  have a5 := (xs5_g.2.2 xo (by rw [(xs4_x hx).1]; omega)).1.trans a4
  exact ⟨a1, a2, a3, a4, a5⟩
end XoMade
section Inits3
variable {G : GG} {σ : Hp}
set_option maxRecDepth 100000 in
theorem sc_xinit (hE : NE G) {xo : Nat} (hK : zK σ xo = 8) (hx : zX σ = xo + 1) (hc : zX σ + 51 ≤ gC G) (hs : zS σ + 1807 ≤ gS G) : Sp G mX9_init 3 [.ref xo] σ (fun rv σ' => rv = none ∧ σ' = xs5 σ xo) := by
  have D := dat dl_X9_init
  show HT G mX9_init 0 [some (.ref xo), none] [] σ 3 _
  refine ht_aload_n (D 0 rfl) rfl rfl ?_
  refine ht_objInit cl_X9_3 ob_inst ob_code (D 1 rfl) (by decide) (by omega) ?_
  refine ht_aload_n (D 2 rfl) rfl rfl ?_
  refine ht_new (ci := 6) (by decide) kk_X9_9 ki_X6 kn_X6 (D 3 rfl) (by omega) (by show zS σ + 2 ≤ gS G; omega) ?_
  show HT G mX9_init 8 _ (.ref (zX σ) :: _) (nw σ 6 0 2) 3 _
  rw [hx]
  refine ht_dup (D 4 rfl) rfl ?_
  refine kNX6_init (As := []) hE.X9_11 (D 5 rfl) (sc_tinit (b := xo + 1) (by rw [zK_nw, hx]; exact va_sm _ _ _) (by rw [zX_nw, hx]; omega) (by rw [zX_nw, hx]; omega) (by rw [zS_nw]; omega)) rfl (Nat.le_of_ble_eq_true rfl) rfl (Nat.le_of_ble_eq_true rfl) (by omega) ?_
  rintro _ _ ⟨rfl, rfl⟩
  refine pf_X9_12 (some (xo + 1)) rfl rfl (D 6 rfl) (show zK (iaL (nw σ 6 0 2) (xo + 1) tpL) xo = 8 from (((iaL_gw (xo + 1) tpL (nw σ 6 0 2)).2.2 xo (by rw [zX_nw]; omega)).1.trans (nw_k hK (by omega) 6 0 2))) ?_
  refine ht_new (ci := 2) (by decide) kk_X9_16 ki_X2 kn_X2 (D 7 rfl) (by show zX (xs1 σ xo) + 1 ≤ gC G; rw [(xs1_x hx).1]; omega) (by show zS (xs1 σ xo) + 17 ≤ gS G; rw [(xs1_x hx).2]; omega) ?_
  show HT G mX9_init 18 _ (.ref (zX (xs1 σ xo)) :: _) (nw (xs1 σ xo) 2 0 17) 3 _
  rw [(xs1_x hx).1]
  refine ht_dup (D 8 rfl) rfl ?_
  refine kNX2_init (As := []) hE.X9_18 (D 9 rfl) (sc_linit (b := xo + 3) (by rw [zK_nw, (xs1_x hx).1]; exact va_sm _ _ _) (by rw [zX_nw, (xs1_x hx).1]; omega) (by rw [zX_nw, (xs1_x hx).1]; omega) (by rw [zS_nw, (xs1_x hx).2]; omega)) rfl (Nat.le_of_ble_eq_true rfl) rfl (Nat.le_of_ble_eq_true rfl) (by omega) ?_
  rintro _ _ ⟨rfl, rfl⟩
  refine ht_astore_n (D 10 rfl) rfl (by decide) rfl ?_
  refine ht_aload_n (D 11 rfl) rfl rfl ?_
  refine ht_new (ci := 4) (by decide) kk_X9_19 ki_X4 kn_X4 (D 12 rfl) (by show zX (xs2 σ xo) + 1 ≤ gC G; rw [(xs2_x hx).1]; omega) (by show zS (xs2 σ xo) + 8 ≤ gS G; rw [(xs2_x hx).2]; omega) ?_
  show HT G mX9_init 27 _ (.ref (zX (xs2 σ xo)) :: _) (nw (xs2 σ xo) 4 0 8) 3 _
  rw [(xs2_x hx).1]
  refine ht_dup (D 13 rfl) rfl ?_
  refine ht_aload_n (D 14 rfl) rfl rfl ?_
  refine kIX4_init (As := [_]) cl_X9_21 (D 15 rfl) (sc_ninit hE (a := xo + 14) (b := xo + 3) (by rw [zK_nw, (xs2_x hx).1]; exact va_sm _ _ _) (by rw [zX_nw, (xs2_x hx).1]) (by rw [zX_nw, (xs2_x hx).1]; omega) (by rw [zS_nw, (xs2_x hx).2]; omega)) rfl (Nat.le_of_ble_eq_true rfl) rfl (Nat.le_of_ble_eq_true rfl) (by omega) ?_
  rintro _ _ ⟨rfl, rfl⟩
  refine pf_X9_24 (some (xo + 14)) rfl rfl (D 16 rfl) (show zK (ntF (nw (xs2 σ xo) 4 0 8) (xo + 14) (xo + 3)) xo = 8 from ((nt_lo (by rw [zX_nw, (xs2_x hx).1]) (by omega)).1.trans (nw_k (xs_k (i := 0) hK hx).2.1 (by rw [(xs2_x hx).1]; omega) 4 0 8))) ?_
  refine ht_aload_n (D 17 rfl) rfl rfl ?_
  refine ht_new (ci := 4) (by decide) kk_X9_19 ki_X4 kn_X4 (D 18 rfl) (by show zX (xs3 σ xo) + 1 ≤ gC G; rw [(xs3_x hx).1]; omega) (by show zS (xs3 σ xo) + 8 ≤ gS G; rw [(xs3_x hx).2]; omega) ?_
  show HT G mX9_init 39 _ (.ref (zX (xs3 σ xo)) :: _) (nw (xs3 σ xo) 4 0 8) 3 _
  rw [(xs3_x hx).1]
  refine ht_dup (D 19 rfl) rfl ?_
  refine ht_aload_n (D 20 rfl) rfl rfl ?_
  refine kIX4_init (As := [_]) cl_X9_21 (D 21 rfl) (sc_ninit hE (a := xo + 30) (b := xo + 3) (by rw [zK_nw, (xs3_x hx).1]; exact va_sm _ _ _) (by rw [zX_nw, (xs3_x hx).1]) (by rw [zX_nw, (xs3_x hx).1]; omega) (by rw [zS_nw, (xs3_x hx).2]; omega)) rfl (Nat.le_of_ble_eq_true rfl) rfl (Nat.le_of_ble_eq_true rfl) (by omega) ?_
  rintro _ _ ⟨rfl, rfl⟩
  refine pf_X9_28 (some (xo + 30)) rfl rfl (D 22 rfl) (show zK (ntF (nw (xs3 σ xo) 4 0 8) (xo + 30) (xo + 3)) xo = 8 from ((nt_lo (by rw [zX_nw, (xs3_x hx).1]) (by omega)).1.trans (nw_k (xs_k (i := 0) hK hx).2.2.1 (by rw [(xs3_x hx).1]; omega) 4 0 8))) ?_
  show HT G mX9_init 47 _ _ (xs4 σ xo) 3 _
  refine ht_aload_n (D 23 rfl) rfl rfl ?_
  refine ht_iconst (v := 4) (D 24 rfl) (by decide) ?_
  refine ht_anew (k := 25) (N := 4) (Or.inr rfl) rfl kk_X9_19 hE.ao4 (D 25 rfl) (by decide) (by decide) (by decide) (by first | omega | (simp only [zX_ia, zS_ia, zX_nw, zS_nw, (xs4_x hx).1, (xs4_x hx).2]; omega)) (by first | omega | (simp only [zX_ia, zS_ia, zX_nw, zS_nw, (xs4_x hx).1, (xs4_x hx).2]; omega)) ?_
  refine pf_X9_31 (some (zX (xs4 σ xo))) rfl rfl (D 26 rfl) (nw_k (xs_k (i := 0) hK hx).2.2.2.1 (show xo < zX (xs4 σ xo) by rw [(xs4_x hx).1]; omega) 25 4 4) ?_
  show HT G mX9_init 55 _ _ (ia (xs4 σ xo) xo (3, 25, 4)) _ _
  refine ht_aload_n (D 27 rfl) rfl rfl ?_
  refine ht_bipush (v := 10) (D 28 rfl) (by decide) ?_
  refine ht_newa (atype := .int) (k := 20) (N := 10) (by decide) (by decide) rfl ka_int (D 29 rfl) (by decide) (by decide) (by decide) (by first | omega | (simp only [zX_ia, zS_ia, zX_nw, zS_nw, (xs4_x hx).1, (xs4_x hx).2]; omega)) (by first | omega | (simp only [zX_ia, zS_ia, zX_nw, zS_nw, (xs4_x hx).1, (xs4_x hx).2]; omega)) ?_
  refine pf_X9_35 (some (zX (ia (xs4 σ xo) xo (3, 25, 4)))) rfl rfl (D 30 rfl) (nw_k (ia_k (xs_k (i := 0) hK hx).2.2.2.1 (show xo < zX (xs4 σ xo) by rw [(xs4_x hx).1]; omega) (3, 25, 4)) (ia_lt (show xo < zX (xs4 σ xo) by rw [(xs4_x hx).1]; omega) (3, 25, 4)) 20 10 10) ?_
  show HT G mX9_init 63 _ _ (ia (ia (xs4 σ xo) xo (3, 25, 4)) xo (4, 20, 10)) _ _
  refine ht_aload_n (D 31 rfl) rfl rfl ?_
  refine ht_bipush (v := 10) (D 32 rfl) (by decide) ?_
  refine ht_newa (atype := .int) (k := 20) (N := 10) (by decide) (by decide) rfl ka_int (D 33 rfl) (by decide) (by decide) (by decide) (by first | omega | (simp only [zX_ia, zS_ia, zX_nw, zS_nw, (xs4_x hx).1, (xs4_x hx).2]; omega)) (by first | omega | (simp only [zX_ia, zS_ia, zX_nw, zS_nw, (xs4_x hx).1, (xs4_x hx).2]; omega)) ?_
  refine pf_X9_39 (some (zX (ia (ia (xs4 σ xo) xo (3, 25, 4)) xo (4, 20, 10)))) rfl rfl (D 34 rfl) (nw_k (ia_k (ia_k (xs_k (i := 0) hK hx).2.2.2.1 (show xo < zX (xs4 σ xo) by rw [(xs4_x hx).1]; omega) (3, 25, 4)) (ia_lt (show xo < zX (xs4 σ xo) by rw [(xs4_x hx).1]; omega) (3, 25, 4)) (4, 20, 10)) (ia_lt (ia_lt (show xo < zX (xs4 σ xo) by rw [(xs4_x hx).1]; omega) (3, 25, 4)) (4, 20, 10)) 20 10 10) ?_
  show HT G mX9_init 71 _ _ (ia (ia (ia (xs4 σ xo) xo (3, 25, 4)) xo (4, 20, 10)) xo (5, 20, 10)) _ _
  refine ht_aload_n (D 35 rfl) rfl rfl ?_
  refine ht_sipush (v := 240) (D 36 rfl) (by decide) ?_
  refine ht_newa (atype := .int) (k := 20) (N := 240) (by decide) (by decide) rfl ka_int (D 37 rfl) (by decide) (by decide) (by decide) (by first | omega | (simp only [zX_ia, zS_ia, zX_nw, zS_nw, (xs4_x hx).1, (xs4_x hx).2]; omega)) (by first | omega | (simp only [zX_ia, zS_ia, zX_nw, zS_nw, (xs4_x hx).1, (xs4_x hx).2]; omega)) ?_
  refine pf_X9_42 (some (zX (ia (ia (ia (xs4 σ xo) xo (3, 25, 4)) xo (4, 20, 10)) xo (5, 20, 10)))) rfl rfl (D 38 rfl) (nw_k (ia_k (ia_k (ia_k (xs_k (i := 0) hK hx).2.2.2.1 (show xo < zX (xs4 σ xo) by rw [(xs4_x hx).1]; omega) (3, 25, 4)) (ia_lt (show xo < zX (xs4 σ xo) by rw [(xs4_x hx).1]; omega) (3, 25, 4)) (4, 20, 10)) (ia_lt (ia_lt (show xo < zX (xs4 σ xo) by rw [(xs4_x hx).1]; omega) (3, 25, 4)) (4, 20, 10)) (5, 20, 10)) (ia_lt (ia_lt (ia_lt (show xo < zX (xs4 σ xo) by rw [(xs4_x hx).1]; omega) (3, 25, 4)) (4, 20, 10)) (5, 20, 10)) 20 240 240) ?_
  show HT G mX9_init 80 _ _ (ia (ia (ia (ia (xs4 σ xo) xo (3, 25, 4)) xo (4, 20, 10)) xo (5, 20, 10)) xo (6, 20, 240)) _ _
  refine ht_aload_n (D 39 rfl) rfl rfl ?_
  refine ht_sipush (v := 240) (D 40 rfl) (by decide) ?_
  refine ht_newa (atype := .int) (k := 20) (N := 240) (by decide) (by decide) rfl ka_int (D 41 rfl) (by decide) (by decide) (by decide) (by first | omega | (simp only [zX_ia, zS_ia, zX_nw, zS_nw, (xs4_x hx).1, (xs4_x hx).2]; omega)) (by first | omega | (simp only [zX_ia, zS_ia, zX_nw, zS_nw, (xs4_x hx).1, (xs4_x hx).2]; omega)) ?_
  refine pf_X9_45 (some (zX (ia (ia (ia (ia (xs4 σ xo) xo (3, 25, 4)) xo (4, 20, 10)) xo (5, 20, 10)) xo (6, 20, 240)))) rfl rfl (D 42 rfl) (nw_k (ia_k (ia_k (ia_k (ia_k (xs_k (i := 0) hK hx).2.2.2.1 (show xo < zX (xs4 σ xo) by rw [(xs4_x hx).1]; omega) (3, 25, 4)) (ia_lt (show xo < zX (xs4 σ xo) by rw [(xs4_x hx).1]; omega) (3, 25, 4)) (4, 20, 10)) (ia_lt (ia_lt (show xo < zX (xs4 σ xo) by rw [(xs4_x hx).1]; omega) (3, 25, 4)) (4, 20, 10)) (5, 20, 10)) (ia_lt (ia_lt (ia_lt (show xo < zX (xs4 σ xo) by rw [(xs4_x hx).1]; omega) (3, 25, 4)) (4, 20, 10)) (5, 20, 10)) (6, 20, 240)) (ia_lt (ia_lt (ia_lt (ia_lt (show xo < zX (xs4 σ xo) by rw [(xs4_x hx).1]; omega) (3, 25, 4)) (4, 20, 10)) (5, 20, 10)) (6, 20, 240)) 20 240 240) ?_
  show HT G mX9_init 89 _ _ (ia (ia (ia (ia (ia (xs4 σ xo) xo (3, 25, 4)) xo (4, 20, 10)) xo (5, 20, 10)) xo (6, 20, 240)) xo (7, 20, 240)) _ _
  refine ht_aload_n (D 43 rfl) rfl rfl ?_
  refine ht_bipush (v := 8) (D 44 rfl) (by decide) ?_
  refine ht_newa (atype := .int) (k := 20) (N := 8) (by decide) (by decide) rfl ka_int (D 45 rfl) (by decide) (by decide) (by decide) (by first | omega | (simp only [zX_ia, zS_ia, zX_nw, zS_nw, (xs4_x hx).1, (xs4_x hx).2]; omega)) (by first | omega | (simp only [zX_ia, zS_ia, zX_nw, zS_nw, (xs4_x hx).1, (xs4_x hx).2]; omega)) ?_
  refine pf_X9_48 (some (zX (ia (ia (ia (ia (ia (xs4 σ xo) xo (3, 25, 4)) xo (4, 20, 10)) xo (5, 20, 10)) xo (6, 20, 240)) xo (7, 20, 240)))) rfl rfl (D 46 rfl) (nw_k (ia_k (ia_k (ia_k (ia_k (ia_k (xs_k (i := 0) hK hx).2.2.2.1 (show xo < zX (xs4 σ xo) by rw [(xs4_x hx).1]; omega) (3, 25, 4)) (ia_lt (show xo < zX (xs4 σ xo) by rw [(xs4_x hx).1]; omega) (3, 25, 4)) (4, 20, 10)) (ia_lt (ia_lt (show xo < zX (xs4 σ xo) by rw [(xs4_x hx).1]; omega) (3, 25, 4)) (4, 20, 10)) (5, 20, 10)) (ia_lt (ia_lt (ia_lt (show xo < zX (xs4 σ xo) by rw [(xs4_x hx).1]; omega) (3, 25, 4)) (4, 20, 10)) (5, 20, 10)) (6, 20, 240)) (ia_lt (ia_lt (ia_lt (ia_lt (show xo < zX (xs4 σ xo) by rw [(xs4_x hx).1]; omega) (3, 25, 4)) (4, 20, 10)) (5, 20, 10)) (6, 20, 240)) (7, 20, 240)) (ia_lt (ia_lt (ia_lt (ia_lt (ia_lt (show xo < zX (xs4 σ xo) by rw [(xs4_x hx).1]; omega) (3, 25, 4)) (4, 20, 10)) (5, 20, 10)) (6, 20, 240)) (7, 20, 240)) 20 8 8) ?_
  show HT G mX9_init 97 _ _ (ia (ia (ia (ia (ia (ia (xs4 σ xo) xo (3, 25, 4)) xo (4, 20, 10)) xo (5, 20, 10)) xo (6, 20, 240)) xo (7, 20, 240)) xo (8, 20, 8)) _ _
  refine ht_vret (D 47 rfl) rfl ?_
  exact ⟨rfl, rfl⟩
end Inits3
