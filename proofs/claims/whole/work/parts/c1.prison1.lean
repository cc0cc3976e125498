/-! ===== the class: prison ===== -/
section T1
variable {G : GG} {σ σ2 : Hp} {Z : VT} {ad : Nat → Nat} {aA aS aV xo n : Nat} {T : ST} {s : TD}
theorem XS.loc (h : XS σ xo) (e : ∀ p, xo ≤ p → p < xo + 52 → zK σ2 p = zK σ p ∧ zN σ2 p = zN σ p ∧ zQ σ2 p = zQ σ p) : XS σ2 xo := by
  have k : ∀ j, j < 52 → zK σ2 (xo + j) = zK σ (xo + j) := fun j hj => (e _ (by omega) (by omega)).1
  have m : ∀ j, j < 52 → zN σ2 (xo + j) = zN σ (xo + j) := fun j hj => (e _ (by omega) (by omega)).2.1
  have q : ∀ j, j < 52 → zQ σ2 (xo + j) = zQ σ (xo + j) := fun j hj => (e _ (by omega) (by omega)).2.2
  have k0 : zK σ2 xo = zK σ xo := k 0 (by decide)
  have q0 : zQ σ2 xo = zQ σ xo := q 0 (by decide)
  have t1 : NtS σ2 (xo + 14) := h.nt.loc (fun p h1 h2 => e p (by omega) (by omega))
  have t2 : NtS σ2 (xo + 30) := h.tr.loc (fun p h1 h2 => e p (by omega) (by omega))
  unfold XS
  rw [k0, q0, k 1 (by decide), q 1 (by decide), k 2 (by decide), m 2 (by decide), k 46 (by decide), m 46 (by decide), k 47 (by decide), m 47 (by decide), k 48 (by decide), m 48 (by decide), k 49 (by decide), m 49 (by decide), k 50 (by decide), m 50 (by decide), k 51 (by decide), m 51 (by decide)]
  exact ⟨h.1, h.2.1, ⟨h.q1, t1⟩, ⟨h.q2, t2⟩, h.2.2.2.2⟩
/-- all below r is as it was, but for the tape's length, and for the night -/
def PBl (σ : Hp) (Z : VT) (xo r : Nat) (σ' : Hp) : Prop := (∀ a, a < r → zK σ' a = zK σ a ∧ zN σ' a = zN σ a ∧ zJ σ' a = zJ σ a ∧ (a ≠ xo + 14 → zQ σ' a = zQ σ a) ∧ (¬ (xo + 14 ≤ a ∧ a < xo + 30) → zI σ' a = up2 Z (xo + 1) 1 0 a)) ∧ r + 16 ≤ zX σ' ∧ zX σ' ≤ r + 22 ∧ zS σ' ≤ zS σ + 3201
/-- the law told -/
def LTd (s : TD) (r : Nat) (σ' : Hp) : Prop := LwS σ' (r + 1) ∧ (zI σ' (r + 1) 0 = nI (tdC s 0) ∧ zI σ' (r + 1) 1 = nI (tdC s 1) ∧ zI σ' (r + 1) 2 = nI (tdC s 2) ∧ zI σ' (r + 1) 3 = nI (tdC s 3) ∧ zI σ' (r + 1) 4 = tdR s 6 0) ∧ (zI σ' (r + 1 + 3) = tdR s 10 ∧ zI σ' (r + 1 + 4) = tdR s 11 ∧ zI σ' (r + 1 + 8) = tdR s 15 ∧ zI σ' (r + 1 + 9) = tdR s 17 ∧ zI σ' (r + 1 + 10) = tdR s 16) ∧ WR (zI σ' (r + 1 + 2)) (rdN (tdV s) w1 (tdC s 1) (fun _ => none) (tdC s 0)) 400000 ∧ FmW σ' (zI σ') (r + 1) (gwO s) ∧ FmI σ' (zI σ') (r + 1) (giO s) ∧ (∀ f, isF σ' (r + 1) f → r + 16 ≤ f ∧ f + 3 ≤ zX σ') ∧ ∀ f f2, zQ σ' (r + 1) 5 = some f → zQ σ' (r + 1) 6 = some f2 → f + 3 ≤ f2 ∨ f2 + 3 ≤ f
def QPc (σ : Hp) (Z : VT) (xo r : Nat) (T : ST) (n : Nat) : Option Value → Hp → Prop := fun rv σ' => ∃ res, Chn T n tdZ 0 res ∧ PBl σ Z xo r σ' ∧ ((∃ f, res = .inr f ∧ rv = some (.int f) ∧ zQ σ' (xo + 14) = zQ σ (xo + 14) ∧ ∀ a, xo + 14 ≤ a → a < xo + 30 → zI σ' a = Z a) ∨ ∃ s q, res = .inl (s, q) ∧ rv = some (.int 0) ∧ (zQ σ' (xo + 14) 0 = some (r + 1) ∧ ∀ k, k ≠ 0 → zQ σ' (xo + 14) k = zQ σ (xo + 14) k) ∧ nv (tdC s 1) (zI σ') (xo + 14) = S0s s ∧ zI σ' (xo + 14) 2 = Z (xo + 14) 2 ∧ LTd s r σ')
theorem nv_beg {Z3 Z4 : VT} {a b : Nat} (h : BgN Z3 Z4 a b 10) (dN : Nat) (h1 : Z3 (b + 1) = tdR s 9) (h5 : Z3 (b + 5) = tdR s 12) (h6 : Z3 (b + 6) = tdR s 13) (h7 : Z3 (b + 7) = tdR s 14) : nv dN Z4 a = S0s s := by
  obtain ⟨_, e1, _, e3, e4, e5⟩ := h
  rw [h1] at e3
  rw [h5] at e5
  rw [h6, h7] at e4
  funext i
  unfold nv S0s
  by_cases q1 : i < 10
  · rw [if_pos q1, if_pos q1]; exact (e5 i q1).1
  rw [if_neg q1, if_neg q1]
  by_cases q2 : i < 20
  · rw [if_pos q2, if_pos (show i < 30 by omega)]; exact (e5 _ (by omega)).2.1
  rw [if_neg q2]
  by_cases q3 : i < 30
  · rw [if_pos q3, if_pos q3]; exact (e5 _ (by omega)).2.2.1
  rw [if_neg q3, if_neg q3]
  by_cases q4 : i < 40
  · rw [if_pos q4, if_pos q4]; exact (e5 _ (by omega)).2.2.2.1
  rw [if_neg q4, if_neg q4]
  by_cases q5 : i < 50
  · rw [if_pos q5, if_pos (show i < 60 by omega)]
    have h9 := e5 (i - 40) (by omega)
    rw [h9.1, h9.2.1, h9.2.2.2.1, Int32.add_zero, Int32.sub_self]
  rw [if_neg q5]
  by_cases q6 : i < 60
  · rw [if_pos q6, if_pos q6, (e5 (i - 50) (by omega)).2.2.2.2]
    split <;> rfl
  rw [if_neg q6, if_neg q6]
  by_cases q7 : i < 68
  · rw [if_pos q7, if_pos q7]; exact e3 _ (by omega)
  rw [if_neg q7, if_neg q7]
  by_cases q8 : i < 74
  · rw [if_pos q8, if_pos q8]; exact (e4 _ (by omega)).1
  rw [if_neg q8, if_neg q8]
  by_cases q9 : i < 80
  · rw [if_pos q9, if_pos q9]; exact (e4 _ (by omega)).2
  rw [if_neg q9, if_neg q9]
  by_cases q10 : i = 80
  · rw [if_pos q10]; exact e1
  · rw [if_neg q10]
theorem FmW_of {r : Nat} {Z4 : VT} (hF : FP s r σ) (hV : TV T n s) (hz : ∀ f E, tdF s false = some E → zQ σ (r + 1) 5 = some f → Z4 (f + 2) = zI σ (f + 2)) : FmW σ Z4 (r + 1) (gwO s) := by
  unfold gwO
  cases hE : tdF s false with
  | none => exact (hF.1 false).1 hE
  | some E =>
    obtain ⟨f, x1, x2, x3, x4, x5⟩ := (hF.1 false).2 E hE
    obtain ⟨p, q, hR⟩ := hV.2.2.2.2.2.2 false E hE
    refine ⟨f, E.2.1.length, x1, x2, fun F K => ?_⟩
    rw [hz f E hE x1]
    exact vb_W hR x3 F K
theorem FmI_of {r : Nat} {Z4 : VT} (hF : FP s r σ) (hV : TV T n s) (hz : ∀ f E, tdF s true = some E → zQ σ (r + 1) 6 = some f → Z4 (f + 2) = zI σ (f + 2)) : FmI σ Z4 (r + 1) (giO s) := by
  unfold giO
  cases hE : tdF s true with
  | none => exact (hF.1 true).1 hE
  | some E =>
    obtain ⟨f, x1, x2, x3, x4, x5⟩ := (hF.1 true).2 E hE
    obtain ⟨p, q, hR⟩ := hV.2.2.2.2.2.2 true E hE
    refine ⟨f, E.2.1.length, x1, x2, fun F K => ?_⟩
    rw [hz f E hE x1]
    exact vb_I hR x3 F K
theorem FP_lo {r f : Nat} (hF : FP s r σ) (hf : isF σ (r + 1) f) : r + 16 ≤ f ∧ f + 3 ≤ zX σ := by
  have key : ∀ ice, zQ σ (r + 1) (fxI ice) = some f → r + 16 ≤ f ∧ f + 3 ≤ zX σ := by
    intro ice h
    cases hE : tdF s ice with
    | none => rw [(hF.1 ice).1 hE] at h; cases h
    | some E =>
      obtain ⟨f2, x1, x2, x3, x4, x5⟩ := (hF.1 ice).2 E hE
      rw [x1] at h
      cases h
      exact ⟨x4, x5⟩
  rcases hf with h | h
  · exact key false h
  · exact key true h
theorem nFs_2 (s : TD) : nFs s ≤ 2 := by
  unfold nFs
  cases tdF s false <;> cases tdF s true <;> simp
set_option maxRecDepth 100000 in
set_option maxHeartbeats 1000000 in
theorem sk_prison (hE : NE G) (hB : BK G ad aA aS aV) (hJ : ∀ i j, i < 22 → j < 22 → ad i = ad j → i = j) (hX : XS σ xo) (hxo : xo + 52 ≤ zX σ) (hT : Z (xo + 2) = T) (ho : ∀ i, i < n → okS (T i)) (hn : n ≤ 1000) (hl : Z (xo + 1) 1 = nI n) (hc : zX σ + 22 ≤ gC G) (hs : zS σ + 3201 ≤ gS G) : Sp G mX9_prison 45 [.ref xo] (cv σ Z) (QPc σ Z xo (zX σ) T n) := by
  have D := dat dl_X9_prison
  have n1 : ∀ a, a < zX σ → zK (nw (cv σ Z) 5 0 11) a = zK σ a ∧ zN (nw (cv σ Z) 5 0 11) a = zN σ a ∧ zI (nw (cv σ Z) 5 0 11) a = Z a ∧ zJ (nw (cv σ Z) 5 0 11) a = zJ σ a := fun a ha => by
    obtain ⟨g1, g2, g3, g4, g5⟩ := (Gw.nw (cv σ Z) 0 5 0 11).2.2 a ha
    exact ⟨g1, g2, g3, g4⟩
  have qN : ∀ a, a < zX σ → zQ (nw (cv σ Z) 5 0 11) a = zQ σ a := fun a ha => vaU _ _ (by show a ≠ zX σ; omega)
  have hs1 : zS (nw (cv σ Z) 5 0 11) = zS σ + 11 := rfl
  have hK1 : zK (nw (cv σ Z) 5 0 11) (zX σ) = 5 := vaS _ _ _
  have n1q : zQ (nw (cv σ Z) 5 0 11) (xo + 1) 0 = some (xo + 2) := by rw [qN _ (by omega)]; exact hX.qs
  have hl1 : zI (nw (cv σ Z) 5 0 11) (xo + 1) 1 = nI n := by rw [(n1 _ (by omega)).2.2.1]; exact hl
  have hk8 : zK (nw (cv σ Z) 5 0 11) xo = 8 := (n1 xo (by omega)).1.trans hX.k0
  have hq8 : zQ (nw (cv σ Z) 5 0 11) xo 0 = some (xo + 1) := by rw [qN _ (by omega)]; exact hX.qt
  have hCI := rd_CI (σ := nw (cv σ Z) 5 0 11) (r := zX σ) (sA := xo + 2) (n := n) (T := T) hK1 rfl (vaS _ _ _) (vaS _ _ _) ((n1 (xo + 2) (by omega)).1.trans hX.ks) ((n1 (xo + 2) (by omega)).2.1.trans hX.ns) ((n1 (xo + 2) (by omega)).2.2.1.trans hT) ho hn (by omega)
  have hkr : zK (rd5 (nw (cv σ Z) 5 0 11) (zX σ) (xo + 2) n) (zX σ) = 5 := hCI.1.rk
  show HT G mX9_prison 0 [some (.ref xo), none, none] [] (cv σ Z) 45 _
  refine ht_new (ci := 5) (by decide) kk_X9_59 ki_X5 kn_X5 (D 0 rfl) (by show zX σ + 1 ≤ gC G; omega) (by show zS σ + 11 ≤ gS G; omega) ?_
  rw [show (cT 5).2.2 = 11 from rfl]
  refine ht_dup (D 1 rfl) rfl ?_
  refine ht_aload_n (D 2 rfl) rfl rfl ?_
  refine gf_X9_12 rfl (D 3 rfl) hk8 hq8 ?_
  refine kIX5_init (As := [_]) cl_X9_61 (D 4 rfl) (sk_init (σ := nw (cv σ Z) 5 0 11) (r := zX σ) (sA := xo + 2) (n := n) (tp := xo + 1) hE hK1 rfl ((n1 (xo + 1) (by omega)).1.trans hX.kt) n1q ((n1 (xo + 2) (by omega)).1.trans hX.ks) ((n1 (xo + 2) (by omega)).2.1.trans hX.ns) hl1 hn (by omega) (by omega) (by omega) (by rw [hs1]; omega)) rfl (Nat.le_of_ble_eq_true rfl) rfl (Nat.le_of_ble_eq_true rfl) (by omega) ?_
  rintro _ _ ⟨rfl, rfl⟩
  refine ht_astore_n (D 5 rfl) rfl (by decide) rfl ?_
  refine ht_aload_n (D 6 rfl) rfl rfl ?_
  refine kVX5_readAll (As := []) cl_X9_64 (D 7 rfl) (sk_readAll hE hB hJ hCI (TV_z T n) (by omega) (by omega) (by rw [hs1]; omega)) (by assumption) rfl (Nat.le_of_ble_eq_true rfl) rfl (Nat.le_of_ble_eq_true rfl) (by omega) ?_
  rintro _ σ5 ⟨res, hCh, ⟨f, rfl, rfl, s2, hft⟩ | ⟨s2, q, rfl, rfl, hV2, σ3, p3, b3, e3, k3, Z2, hH, rfl, hdo, hwr⟩⟩
  · skip
    have hB5 := hft.2.1
    have e5 : ∀ a, a < zX σ → zK σ5 a = zK σ a ∧ zN σ5 a = zN σ a ∧ zI σ5 a = Z a ∧ zJ σ5 a = zJ σ a ∧ zQ σ5 a = zQ σ a := fun a ha => by
      obtain ⟨h1, h2, h3, h4, h5⟩ := hB5.1 a ha
      obtain ⟨g1, g2, g3, g4, g5⟩ := (Gw.nw (cv σ Z) 0 5 0 11).2.2 a ha
      exact ⟨h1.trans g1, h2.trans g2, h3.trans g3, h4.trans g4, h5.trans (qN a ha)⟩
    have hXS : XS σ5 xo := hX.loc (fun p h1 h2 => ⟨(e5 p (by omega)).1, (e5 p (by omega)).2.1, (e5 p (by omega)).2.2.2.2⟩)
    have yk0 := hXS.k0
    have yqt := hXS.qt
    have ykt := hXS.kt
    have hnf : nFs s2 ≤ 2 := nFs_2 s2
    refine ht_istore_n (D 8 rfl) rfl (by decide) rfl ?_
    refine ht_aload_n (D 9 rfl) rfl rfl ?_
    refine gf_X9_12 rfl (D 10 rfl) yk0 yqt ?_
    refine ht_iconst (v := 0) (D 11 rfl) (by decide) ?_
    refine pf_X9_55 rfl (D 12 rfl) ykt ?_
    refine ht_iload_n (D 13 rfl) rfl rfl ?_
    skip
    refine ht_if_ne (tgt := 40) (D 14 rfl) (by decide) (fun hb26 => ?_) (fun hb26 => ?_)
    · skip
      skip
      refine ht_iload_n (D 20 rfl) rfl rfl ?_
      refine ht_iret (D 21 rfl) rfl rfl ?_
      refine ⟨.inr f, hCh, ⟨fun a ha => ?_, ?_, ?_, ?_⟩, Or.inl ⟨f, rfl, rfl, ?_, ?_⟩⟩
      · obtain ⟨h1, h2, h3, h4, h5⟩ := e5 a ha
        refine ⟨h1, h2, h4, fun _ => h5, fun _ => ?_⟩
        show up2 (zI σ5) (xo + 1) 1 0 a = up2 Z (xo + 1) 1 0 a
        funext j
        unfold up2
        rw [h3]
      · show zX σ + 16 ≤ zX σ5
        rw [hB5.2.1]; omega
      · show zX σ5 ≤ zX σ + 22
        rw [hB5.2.1]; omega
      · show zS σ5 ≤ zS σ + 3201
        have h9 := hB5.2.2
        have h8 : zS (nw (cv σ Z) 5 0 11) = zS σ + 11 := rfl
        rw [h8] at h9
        omega
      · exact (e5 (xo + 14) (by omega)).2.2.2.2
      · intro a h1 h2
        show up2 (zI σ5) (xo + 1) 1 0 a = Z a
        rw [up2_o _ _ (by omega)]
        exact (e5 a (by omega)).2.2.1
    · skip
      exact absurd hb26 (okF_0 hft.2.2.1)
  · skip
    have hB5 := hH.2.2
    have hdz : ∀ a, a < zX σ → Z2 a = zI σ3 a := fun a ha => hdo a (by omega)
    have e5 : ∀ a, a < zX σ → zK σ3 a = zK σ a ∧ zN σ3 a = zN σ a ∧ Z2 a = Z a ∧ zJ σ3 a = zJ σ a ∧ zQ σ3 a = zQ σ a := fun a ha => by
      obtain ⟨h1, h2, h3, h4, h5⟩ := hB5.1 a ha
      obtain ⟨g1, g2, g3, g4, g5⟩ := (Gw.nw (cv σ Z) 0 5 0 11).2.2 a ha
      exact ⟨h1.trans g1, h2.trans g2, (hdz a ha).trans (h3.trans g3), h4.trans g4, h5.trans (qN a ha)⟩
    have hXS : XS σ3 xo := hX.loc (fun p h1 h2 => ⟨(e5 p (by omega)).1, (e5 p (by omega)).2.1, (e5 p (by omega)).2.2.2.2⟩)
    have yk0 : zK (cv σ3 Z2) xo = 8 := hXS.k0
    have yqt : zQ (cv σ3 Z2) xo 0 = some (xo + 1) := hXS.qt
    have ykt : zK (cv σ3 Z2) (xo + 1) = 6 := hXS.kt
    have yq1 : zQ (wI (cv σ3 Z2) (xo + 1) 1 0) xo 1 = some (xo + 14) := hXS.q1
    have zk0 : zK (wI (cv σ3 Z2) (xo + 1) 1 0) xo = 8 := hXS.k0
    have rk0 : zK (wI (cv σ3 Z2) (xo + 1) 1 0) (zX σ) = 5 := hH.1.1.rk
    have rq0 : zQ (wI (cv σ3 Z2) (xo + 1) 1 0) (zX σ) 0 = some (zX σ + 1) := hH.1.1.q0
    have nk0 : zK (wI (cv σ3 Z2) (xo + 1) 1 0) (xo + 14) = 4 := hXS.nt.k0
    have hnf : nFs s2 ≤ 2 := nFs_2 s2
    refine ht_istore_n (D 8 rfl) rfl (by decide) rfl ?_
    refine ht_aload_n (D 9 rfl) rfl rfl ?_
    refine gf_X9_12 rfl (D 10 rfl) yk0 yqt ?_
    refine ht_iconst (v := 0) (D 11 rfl) (by decide) ?_
    refine pf_X9_55 rfl (D 12 rfl) ykt ?_
    refine ht_iload_n (D 13 rfl) rfl rfl ?_
    refine ht_if_ne (tgt := 40) (D 14 rfl) (by decide) (fun hb26 => absurd (by decide) hb26) (fun hb26 => ?_)
    refine ht_aload_n (D 15 rfl) rfl rfl ?_
    refine gf_X9_24 rfl (D 16 rfl) zk0 yq1 ?_
    refine ht_aload_n (D 17 rfl) rfl rfl ?_
    refine gf_X9_68 rfl (D 18 rfl) rk0 rq0 ?_
    refine kVX4_begin (As := [_]) cl_X9_72 (D 19 rfl) (sc_nbegin (σ := σ3) (Z := up2 Z2 (xo + 1) 1 0) (a := xo + 14) (b := zX σ + 1) hXS.nt hH.1.1.lw (Or.inl (by omega))) nk0 rfl (Nat.le_of_ble_eq_true rfl) rfl (Nat.le_of_ble_eq_true rfl) (by omega) ?_
    rintro _ _ ⟨rfl, Z4, rfl, hbg⟩
    refine ht_iload_n (D 20 rfl) rfl rfl ?_
    refine ht_iret (D 21 rfl) rfl rfl ?_
    have hBg := hbg
    have fr : ∀ q, ¬ (xo + 14 ≤ q ∧ q < xo + 14 + 16) → Z4 q = up2 Z2 (xo + 1) 1 0 q := fun q hq => hbg.1 q hq
    have hi : ∀ q, zX σ ≤ q → q ≠ zX σ + 3 → Z4 q = zI σ3 q := fun q h1 h2 => by
      rw [fr q (by omega), up2_o _ _ (by omega)]; exact hdo q (by omega)
    have hi2 : ∀ q, zX σ ≤ q → q ≠ zX σ + 3 → up2 Z2 (xo + 1) 1 0 q = zI σ3 q := fun q h1 h2 => by
      rw [up2_o _ _ (by omega)]; exact hdo q (by omega)
    have hF3 := hH.2.1.2.2.2.2
    have hr3 := hH.2.1.2.2.1
    have qz : ∀ q, q ≠ xo + 14 → zQ (wQ σ3 (xo + 14) 0 (some (zX σ + 1))) q = zQ σ3 q := fun q h => zQ_a _ _ h
    have hFP : FP s2 (zX σ) (cv (wQ σ3 (xo + 14) 0 (some (zX σ + 1))) Z4) := by
      have q1 : zQ (cv (wQ σ3 (xo + 14) 0 (some (zX σ + 1))) Z4) (zX σ + 1) = zQ σ3 (zX σ + 1) := qz _ (by omega)
      refine ⟨fun ice => ⟨fun q => by rw [q1]; exact (hF3.1 ice).1 q, fun E q => ?_⟩, fun f f2 => by rw [q1]; exact hF3.2 f f2⟩
      obtain ⟨f, x1, x2, x3, x4, x5⟩ := (hF3.1 ice).2 E q
      refine ⟨f, by rw [q1]; exact x1, ?_, ?_, x4, x5⟩
      · obtain ⟨y1, y2, y3, y4, y5, y6, y7, y8⟩ := x2
        exact ⟨y1, (congrFun (qz f (by omega)) 0).trans y2, (congrFun (qz f (by omega)) 1).trans y3, y4, y5, y6, y7, y8⟩
      · show CDs (Z4 (f + 2)) 0 E.2.1
        rw [hi (f + 2) (by omega) (by omega)]; exact x3
    refine ⟨.inl (s2, q), hCh, ⟨fun a ha => ?_, ?_, ?_, ?_⟩, Or.inr ⟨s2, q, rfl, rfl, ⟨zQ_s _ _ _ _, fun k hk => ?_⟩, ?_, ?_, ?_, ?_, ?_, ?_, ?_, ?_, ?_, ?_⟩⟩
    · obtain ⟨h1, h2, h3, h4, h5⟩ := e5 a ha
      refine ⟨h1, h2, h4, fun hne => (qz a hne).trans h5, fun hne => ?_⟩
      show Z4 a = up2 Z (xo + 1) 1 0 a
      rw [fr a (by omega)]
      funext j
      unfold up2
      rw [h3]
    · show zX σ + 16 ≤ zX σ3
      rw [hB5.2.1]; omega
    · show zX σ3 ≤ zX σ + 22
      rw [hB5.2.1]; omega
    · show zS σ3 ≤ zS σ + 3201
      have h9 := hB5.2.2
      have h8 : zS (nw (cv σ Z) 5 0 11) = zS σ + 11 := rfl
      rw [h8] at h9
      omega
    · exact (zQ_k _ _ hk).trans (congrFun (e5 (xo + 14) (by omega)).2.2.2.2 k)
    · exact nv_beg hbg _ ((hi2 _ (by omega) (by omega)).trans (hr3 9 (by decide))) ((hi2 _ (by omega) (by omega)).trans (hr3 12 (by decide))) ((hi2 _ (by omega) (by omega)).trans (hr3 13 (by decide))) ((hi2 _ (by omega) (by omega)).trans (hr3 14 (by decide)))
    · show Z4 (xo + 14) 2 = Z (xo + 14) 2
      rw [hbg.2.2.1, up2_a _ _ (by omega), (e5 (xo + 14) (by omega)).2.2.1]
    · exact hH.1.1.lw.loc (fun p h1 h2 => ⟨rfl, rfl, qz p (by omega)⟩)
    · show Z4 (zX σ + 1) 0 = _ ∧ Z4 (zX σ + 1) 1 = _ ∧ Z4 (zX σ + 1) 2 = _ ∧ Z4 (zX σ + 1) 3 = _ ∧ Z4 (zX σ + 1) 4 = _
      rw [hi (zX σ + 1) (by omega) (by omega)]
      exact hH.2.1.1
    · exact ⟨(hi _ (by omega) (by omega)).trans (hr3 10 (by decide)), (hi _ (by omega) (by omega)).trans (hr3 11 (by decide)), (hi _ (by omega) (by omega)).trans (hr3 15 (by decide)), (hi _ (by omega) (by omega)).trans (hr3 17 (by decide)), (hi _ (by omega) (by omega)).trans (hr3 16 (by decide))⟩
    · show WR (Z4 (zX σ + 1 + 2)) _ _
      rw [fr _ (by omega), up2_o _ _ (by omega)]; exact hwr
    · exact FmW_of hFP hV2 (fun f E _ _ => rfl)
    · exact FmI_of hFP hV2 (fun f E _ _ => rfl)
    · exact fun f hf => FP_lo hFP hf
    · exact hFP.2
end T1
