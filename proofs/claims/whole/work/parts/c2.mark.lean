/-! ===== the class: mark ===== -/
section T2
variable {G : GG} {σ σ2 : Hp} {Z : VT} {xo b : Nat}
/-- the heap with a new mark's night -/
def mkH (σ : Hp) (Z : VT) (xo j b : Nat) : Hp := wQ (ntF (nw (cv σ Z) 4 0 8) (zX σ) b) (xo + 46) j (some (zX σ))
theorem wQ_X (σ : Hp) (a k : Nat) (v : Option Nat) : zX (wQ σ a k v) = zX σ ∧ zS (wQ σ a k v) = zS σ := ⟨rfl, rfl⟩
theorem mkH_lo (σ : Hp) (Z : VT) (xo j b : Nat) {p : Nat} (hp : p < zX σ) : zK (mkH σ Z xo j b) p = zK σ p ∧ zN (mkH σ Z xo j b) p = zN σ p ∧ zI (mkH σ Z xo j b) p = Z p ∧ zJ (mkH σ Z xo j b) p = zJ σ p ∧ (p ≠ xo + 46 → zQ (mkH σ Z xo j b) p = zQ σ p) ∧ ∀ i, i ≠ j → zQ (mkH σ Z xo j b) p i = zQ σ p i := by
  have g0 : Gw (cv σ Z) (ntF (nw (cv σ Z) 4 0 8) (zX σ) b) (zX σ) := gw_nt rfl
  have g1 : Gw (cv σ Z) (ntF (nw (cv σ Z) 4 0 8) (zX σ) b) (xo + 46) := gw_nt rfl
  obtain ⟨h1, h2, h3, h4, h5⟩ := (g1.tr (Gw.wQ _ (xo + 46) j (some (zX σ)))).2.2 p hp
  have h6 := (g0.2.2 p hp).2.2.2.2 (by omega)
  refine ⟨h1, h2, h3, h4, h5, fun i hi => ?_⟩
  unfold mkH
  rw [zQ_k _ _ hi, h6]
  rfl
theorem mkH_n (σ : Hp) (Z : VT) (xo j b : Nat) (hx : xo + 52 ≤ zX σ) : NtS (mkH σ Z xo j b) (zX σ) ∧ zX (mkH σ Z xo j b) = zX σ + 16 ∧ zS (mkH σ Z xo j b) = zS σ + 97 := by
  have h := nt_made (σ := nw (cv σ Z) 4 0 8) (a := zX σ) (b := b) (vaS _ _ _) rfl
  have hx2 := nt_x (σ := nw (cv σ Z) 4 0 8) (a := zX σ) (b := b) rfl
  have hw := wQ_X (ntF (nw (cv σ Z) 4 0 8) (zX σ) b) (xo + 46) j (some (zX σ))
  have hg := Gw.wQ (ntF (nw (cv σ Z) 4 0 8) (zX σ) b) (xo + 46) j (some (zX σ))
  have hs : zS (nw (cv σ Z) 4 0 8) = zS σ + 8 := rfl
  unfold mkH
  refine ⟨h.1.loc (fun p h1 h2 => ?_), hw.1.trans hx2.1, hw.2.trans (hx2.2.trans (by rw [hs]))⟩
  have q := hg.2.2 p (by rw [hx2.1]; omega)
  exact ⟨q.1, q.2.1, q.2.2.2.2 (by omega)⟩
theorem XS.m46 (h : XS σ xo) (e : ∀ p, xo ≤ p → p < xo + 52 → p ≠ xo + 46 → zK σ2 p = zK σ p ∧ zN σ2 p = zN σ p ∧ zQ σ2 p = zQ σ p) (e6 : zK σ2 (xo + 46) = zK σ (xo + 46) ∧ zN σ2 (xo + 46) = zN σ (xo + 46)) : XS σ2 xo := by
  have k : ∀ j, j < 52 → j ≠ 46 → zK σ2 (xo + j) = zK σ (xo + j) := fun j hj q => (e _ (by omega) (by omega) (by omega)).1
  have m : ∀ j, j < 52 → j ≠ 46 → zN σ2 (xo + j) = zN σ (xo + j) := fun j hj q => (e _ (by omega) (by omega) (by omega)).2.1
  have q : ∀ j, j < 52 → j ≠ 46 → zQ σ2 (xo + j) = zQ σ (xo + j) := fun j hj q => (e _ (by omega) (by omega) (by omega)).2.2
  have k0 : zK σ2 xo = zK σ xo := k 0 (by decide) (by decide)
  have q0 : zQ σ2 xo = zQ σ xo := q 0 (by decide) (by decide)
  have t1 : NtS σ2 (xo + 14) := h.nt.loc (fun p h1 h2 => e p (by omega) (by omega) (by omega))
  have t2 : NtS σ2 (xo + 30) := h.tr.loc (fun p h1 h2 => e p (by omega) (by omega) (by omega))
  unfold XS
  rw [k0, q0, k 1 (by decide) (by decide), q 1 (by decide) (by decide), k 2 (by decide) (by decide), m 2 (by decide) (by decide), e6.1, e6.2, k 47 (by decide) (by decide), m 47 (by decide) (by decide), k 48 (by decide) (by decide), m 48 (by decide) (by decide), k 49 (by decide) (by decide), m 49 (by decide) (by decide), k 50 (by decide) (by decide), m 50 (by decide) (by decide), k 51 (by decide) (by decide), m 51 (by decide) (by decide)]
  exact ⟨h.1, h.2.1, ⟨h.q1, t1⟩, ⟨h.q2, t2⟩, h.2.2.2.2⟩
set_option maxRecDepth 100000 in
theorem sc_mark (hE : NE G) (hX : XS σ xo) (hLn : zQ σ (xo + 14) 0 = some b) (hxo : xo + 52 ≤ zX σ) (hMk : ∀ j, j < 4 → ∀ a, zQ σ (xo + 46) j = some a → NtS σ a ∧ (∃ b2, zQ σ a 0 = some b2) ∧ (a + 16 ≤ xo + 14 ∨ xo + 30 ≤ a)) (hr1 : zX σ + 16 ≤ gC G) (hr2 : zS σ + 97 ≤ gS G) (x y : Int32) : Sp G mX9_mark 3 [.ref xo, .int x, .int y] (cv σ Z) (fun rv σ' => (¬ (0 ≤ x ∧ x < 4) ∧ rv = some (.int 0) ∧ σ' = cv σ Z) ∨ ∃ j, j < 4 ∧ x = nI j ∧ ((¬ y = 0 ∧ zQ σ (xo + 46) j = none ∧ rv = some (.int 0) ∧ σ' = cv σ Z) ∨ (¬ y = 0 ∧ ∃ a b2, zQ σ (xo + 46) j = some a ∧ zQ σ a 0 = some b2 ∧ rv = some (.int 1) ∧ ∃ Z2 : VT, σ' = cv (wQ σ (xo + 14) 0 (some b2)) Z2 ∧ CpN Z Z2 (xo + 14) a 10) ∨ (y = 0 ∧ ∃ a, zQ σ (xo + 46) j = some a ∧ rv = some (.int 1) ∧ ∃ Z2 : VT, σ' = cv (wQ σ a 0 (some b)) Z2 ∧ CpN Z Z2 a (xo + 14) 10) ∨ (y = 0 ∧ zQ σ (xo + 46) j = none ∧ rv = some (.int 1) ∧ ∃ Z2 : VT, σ' = cv (wQ (mkH σ Z xo j b) (zX σ) 0 (some b)) Z2 ∧ CpN (zI (mkH σ Z xo j b)) Z2 (zX σ) (xo + 14) 10))) := by
  have D := dat dl_X9_mark
  show HT G mX9_mark 0 [some (.ref xo), some (.int x), some (.int y)] [] (cv σ Z) 3 _
  by_cases hno : ¬ (0 ≤ x ∧ x < 4)
  · skip
    refine ht_iload_n (D 0 rfl) rfl rfl ?_
    refine ht_iconst (v := 4) (D 1 rfl) (by decide) ?_
    refine kSX9_isBelow (As := [_, _]) cl_X9_79 (D 2 rfl) (sc_isBelow _ 4) rfl (Nat.le_of_ble_eq_true rfl) rfl (Nat.le_of_ble_eq_true rfl) (by omega) ?_
    rintro _ _ ⟨rfl, rfl⟩
    refine ht_if_ne (tgt := 10) (D 3 rfl) (by decide) (fun hb5 => ?_) (fun hb5 => ?_)
    · skip
      exact absurd (b01_ne hb5) hno
    · skip
      refine ht_iconst (v := 0) (D 4 rfl) (by decide) ?_
      refine ht_iret (D 5 rfl) rfl rfl ?_
      exact Or.inl ⟨hno, rfl, rfl⟩
  · obtain ⟨j, hj, rfl⟩ := rng (n := 4) (by decide) (Decidable.not_not.mp hno)
    cases hmj : zQ σ (xo + 46) j with
    | none =>
      have l14 : zQ (nw (cv σ Z) 4 0 8) (xo + 14) 0 = some b := by
        rw [show zQ (nw (cv σ Z) 4 0 8) (xo + 14) = zQ σ (xo + 14) from vaU _ _ (by show xo + 14 ≠ zX σ; omega)]; exact hLn
      have q14 : zQ (nw (cv σ Z) 4 0 8) xo 1 = some (xo + 14) := by
        rw [show zQ (nw (cv σ Z) 4 0 8) xo = zQ σ xo from vaU _ _ (by show xo ≠ zX σ; omega)]; exact hX.q1
      have k8 : zK (nw (cv σ Z) 4 0 8) xo = 8 := (nw_K (cv σ Z) 4 0 8 (by show xo ≠ zX σ; omega)).1.trans hX.k0
      have k14 : zK (nw (cv σ Z) 4 0 8) (xo + 14) = 4 := (nw_K (cv σ Z) 4 0 8 (by show xo + 14 ≠ zX σ; omega)).1.trans hX.nt.k0
      have lo := fun {p : Nat} (hp : p < zX σ) => mkH_lo σ Z xo j b hp
      have hn := mkH_n σ Z xo j b hxo
      have hNn := hn.1
      have g1 : Gw (cv σ Z) (ntF (nw (cv σ Z) 4 0 8) (zX σ) b) (xo + 46) := gw_nt rfl
      have f46 : zK (ntF (nw (cv σ Z) 4 0 8) (zX σ) b) (xo + 46) = 25 := (g1.2.2 (xo + 46) (by show xo + 46 < zX σ; omega)).1.trans hX.k3
      have g46 : zN (ntF (nw (cv σ Z) 4 0 8) (zX σ) b) (xo + 46) = 4 := (g1.2.2 (xo + 46) (by show xo + 46 < zX σ; omega)).2.1.trans hX.n3
      have hka : zK (ntF (nw (cv σ Z) 4 0 8) (zX σ) b) (zX σ) = 4 := (nt_made (σ := nw (cv σ Z) 4 0 8) (a := zX σ) (b := b) (vaS _ _ _) rfl).1.k0
      have hX3k : zK (mkH σ Z xo j b) xo = 8 := (lo (p := xo) (by omega)).1.trans hX.k0
      have e3 : ∀ p, p < zX σ → p ≠ xo + 46 → zK (mkH σ Z xo j b) p = zK σ p ∧ zN (mkH σ Z xo j b) p = zN σ p ∧ zQ (mkH σ Z xo j b) p = zQ σ p := fun p h1 h2 => ⟨(lo h1).1, (lo h1).2.1, (lo h1).2.2.2.2.1 h2⟩
      have hl3 : zQ (mkH σ Z xo j b) (xo + 14) 0 = some b := by rw [(e3 _ (by omega) (by omega)).2.2]; exact hLn
      have hX3 : XS (mkH σ Z xo j b) xo := hX.m46 (fun p h1 h2 h3 => e3 p (by omega) h3) ⟨(lo (by omega)).1, (lo (by omega)).2.1⟩
      refine ht_iload_n (D 0 rfl) rfl rfl ?_
      refine ht_iconst (v := 4) (D 1 rfl) (by decide) ?_
      refine kSX9_isBelow (As := [_, _]) cl_X9_79 (D 2 rfl) (sc_isBelow _ 4) rfl (Nat.le_of_ble_eq_true rfl) rfl (Nat.le_of_ble_eq_true rfl) (by omega) ?_
      rintro _ _ ⟨rfl, rfl⟩
      refine ht_if_ne (tgt := 10) (D 3 rfl) (by decide) (fun hb5 => ?_) (fun hb5 => ?_)
      · skip
        skip
        refine ht_iload_n (D 6 rfl) rfl rfl ?_
        refine ht_if_eq (tgt := 40) (D 7 rfl) (by decide) (fun hb11 => ?_) (fun hb11 => ?_)
        · skip
          have hy := hb11
          refine ht_aload_n (D 24 rfl) rfl rfl ?_
          refine gf_X9_31 rfl (D 25 rfl) hX.k0 hX.q3 ?_
          refine ht_iload_n (D 26 rfl) rfl rfl ?_
          refine ht_ald (n := j) (Or.inr rfl) (D 27 rfl) hX.k3 hX.n3 rfl hj (by decide) hmj ?_
          refine ht_ifnonnullN (D 28 rfl) ?_
          refine ht_aload_n (D 29 rfl) rfl rfl ?_
          refine gf_X9_31 rfl (D 30 rfl) hX.k0 hX.q3 ?_
          refine ht_iload_n (D 31 rfl) rfl rfl ?_
          refine ht_new (ci := 4) (by decide) kk_X9_19 ki_X4 kn_X4 (D 32 rfl) (by show zX σ + 1 ≤ gC G; omega) (by show zS σ + 8 ≤ gS G; omega) ?_
          rw [show (cT 4).2.2 = 8 from rfl]
          refine ht_dup (D 33 rfl) rfl ?_
          refine ht_aload_n (D 34 rfl) rfl rfl ?_
          refine gf_X9_24 rfl (D 35 rfl) k8 q14 ?_
          refine gf_X9_75 rfl (D 36 rfl) k14 l14 ?_
          refine kIX4_init (As := [_]) cl_X9_21 (D 37 rfl) (sc_ninit hE (σ := nw (cv σ Z) 4 0 8) (a := zX σ) (b := b) (vaS _ _ _) rfl (by show zX σ + 1 + 15 ≤ gC G; omega) (by show zS σ + 8 + 89 ≤ gS G; omega)) rfl (Nat.le_of_ble_eq_true rfl) rfl (Nat.le_of_ble_eq_true rfl) (by omega) ?_
          rintro _ _ ⟨rfl, rfl⟩
          refine ht_ast (n := j) (Or.inr ⟨rfl, rfl⟩) (D 38 rfl) f46 hka g46 rfl hj (by decide) ?_
          show HT G mX9_mark 69 _ _ (mkH σ Z xo j b) 3 _
          refine ht_aload_n (D 39 rfl) rfl rfl ?_
          refine gf_X9_31 rfl (D 40 rfl) hX3.k0 hX3.q3 ?_
          refine ht_iload_n (D 41 rfl) rfl rfl ?_
          refine ht_ald (n := j) (Or.inr rfl) (D 42 rfl) hX3.k3 hX3.n3 rfl hj (by decide) (zQ_s _ _ _ _) ?_
          refine ht_aload_n (D 43 rfl) rfl rfl ?_
          refine gf_X9_24 rfl (D 44 rfl) hX3.k0 hX3.q1 ?_
          refine kVX4_copyFrom (As := [_]) cl_X9_175 (D 45 rfl) (sc_ncopy (σ := mkH σ Z xo j b) (Z := zI (mkH σ Z xo j b)) (a := zX σ) (a2 := xo + 14) (b := b) hNn hX3.nt hl3 (by omega)) hNn.k0 rfl (Nat.le_of_ble_eq_true rfl) rfl (Nat.le_of_ble_eq_true rfl) (by omega) ?_
          rintro _ _ ⟨rfl, Z2, rfl, hcp⟩
          refine ht_iconst (v := 1) (D 46 rfl) (by decide) ?_
          refine ht_iret (D 47 rfl) rfl rfl ?_
          exact Or.inr ⟨j, hj, rfl, Or.inr (Or.inr (Or.inr ⟨hy, hmj, rfl, Z2, rfl, hcp⟩))⟩
        · skip
          have hy := hb11
          refine ht_aload_n (D 8 rfl) rfl rfl ?_
          refine gf_X9_31 rfl (D 9 rfl) hX.k0 hX.q3 ?_
          refine ht_iload_n (D 10 rfl) rfl rfl ?_
          refine ht_ald (n := j) (Or.inr rfl) (D 11 rfl) hX.k3 hX.n3 rfl hj (by decide) hmj ?_
          refine ht_ifnonnullN (D 12 rfl) ?_
          refine ht_iconst (v := 0) (D 13 rfl) (by decide) ?_
          refine ht_iret (D 14 rfl) rfl rfl ?_
          exact Or.inr ⟨j, hj, rfl, Or.inl ⟨hy, hmj, rfl, rfl⟩⟩
      · skip
        exact absurd ⟨nI_pos' (by omega), nI_lt (by omega) (by decide)⟩ (b01_eq hb5)
    | some a =>
      obtain ⟨hNa, ⟨b2, hb2⟩, hap⟩ := hMk j hj a hmj
      refine ht_iload_n (D 0 rfl) rfl rfl ?_
      refine ht_iconst (v := 4) (D 1 rfl) (by decide) ?_
      refine kSX9_isBelow (As := [_, _]) cl_X9_79 (D 2 rfl) (sc_isBelow _ 4) rfl (Nat.le_of_ble_eq_true rfl) rfl (Nat.le_of_ble_eq_true rfl) (by omega) ?_
      rintro _ _ ⟨rfl, rfl⟩
      refine ht_if_ne (tgt := 10) (D 3 rfl) (by decide) (fun hb5 => ?_) (fun hb5 => ?_)
      · skip
        skip
        refine ht_iload_n (D 6 rfl) rfl rfl ?_
        refine ht_if_eq (tgt := 40) (D 7 rfl) (by decide) (fun hb11 => ?_) (fun hb11 => ?_)
        · skip
          have hy := hb11
          refine ht_aload_n (D 24 rfl) rfl rfl ?_
          refine gf_X9_31 rfl (D 25 rfl) hX.k0 hX.q3 ?_
          refine ht_iload_n (D 26 rfl) rfl rfl ?_
          refine ht_ald (n := j) (Or.inr rfl) (D 27 rfl) hX.k3 hX.n3 rfl hj (by decide) hmj ?_
          refine ht_ifnonnull (tgt := 69) (D 28 rfl) (by decide) ?_
          refine ht_aload_n (D 39 rfl) rfl rfl ?_
          refine gf_X9_31 rfl (D 40 rfl) hX.k0 hX.q3 ?_
          refine ht_iload_n (D 41 rfl) rfl rfl ?_
          refine ht_ald (n := j) (Or.inr rfl) (D 42 rfl) hX.k3 hX.n3 rfl hj (by decide) hmj ?_
          refine ht_aload_n (D 43 rfl) rfl rfl ?_
          refine gf_X9_24 rfl (D 44 rfl) hX.k0 hX.q1 ?_
          refine kVX4_copyFrom (As := [_]) cl_X9_175 (D 45 rfl) (sc_ncopy (σ := σ) (Z := Z) (a := a) (a2 := xo + 14) (b := b) hNa hX.nt hLn (by omega)) hNa.k0 rfl (Nat.le_of_ble_eq_true rfl) rfl (Nat.le_of_ble_eq_true rfl) (by omega) ?_
          rintro _ _ ⟨rfl, Z2, rfl, hcp⟩
          refine ht_iconst (v := 1) (D 46 rfl) (by decide) ?_
          refine ht_iret (D 47 rfl) rfl rfl ?_
          exact Or.inr ⟨j, hj, rfl, Or.inr (Or.inr (Or.inl ⟨hy, a, hmj, rfl, Z2, rfl, hcp⟩))⟩
        · skip
          have hy := hb11
          refine ht_aload_n (D 8 rfl) rfl rfl ?_
          refine gf_X9_31 rfl (D 9 rfl) hX.k0 hX.q3 ?_
          refine ht_iload_n (D 10 rfl) rfl rfl ?_
          refine ht_ald (n := j) (Or.inr rfl) (D 11 rfl) hX.k3 hX.n3 rfl hj (by decide) hmj ?_
          refine ht_ifnonnull (tgt := 25) (D 12 rfl) (by decide) ?_
          refine ht_aload_n (D 15 rfl) rfl rfl ?_
          refine gf_X9_24 rfl (D 16 rfl) hX.k0 hX.q1 ?_
          refine ht_aload_n (D 17 rfl) rfl rfl ?_
          refine gf_X9_31 rfl (D 18 rfl) hX.k0 hX.q3 ?_
          refine ht_iload_n (D 19 rfl) rfl rfl ?_
          refine ht_ald (n := j) (Or.inr rfl) (D 20 rfl) hX.k3 hX.n3 rfl hj (by decide) hmj ?_
          refine kVX4_copyFrom (As := [_]) cl_X9_175 (D 21 rfl) (sc_ncopy (σ := σ) (Z := Z) (a := xo + 14) (a2 := a) (b := b2) hX.nt hNa hb2 (by omega)) hX.nt.k0 rfl (Nat.le_of_ble_eq_true rfl) rfl (Nat.le_of_ble_eq_true rfl) (by omega) ?_
          rintro _ _ ⟨rfl, Z2, rfl, hcp⟩
          refine ht_iconst (v := 1) (D 22 rfl) (by decide) ?_
          refine ht_iret (D 23 rfl) rfl rfl ?_
          exact Or.inr ⟨j, hj, rfl, Or.inr (Or.inl ⟨hy, a, b2, hmj, hb2, rfl, Z2, rfl, hcp⟩)⟩
      · skip
        exact absurd ⟨nI_pos' (by omega), nI_lt (by omega) (by decide)⟩ (b01_eq hb5)
end T2
