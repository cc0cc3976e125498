/-! ===== the class: needs ===== -/
section C15
variable {G : GG} {σ : Hp} {Z : VT} {xo b : Nat} {V : VT} {cN dN mN gk : Nat} {gw : Option GWt} {gi : Option GIt}
theorem nv_barred (dN : Nat) (Z : VT) (a : Nat) (v : Int32) : nv dN (up2 Z a 2 v) a = nv dN Z a := by
  have kq : ∀ q, q ≠ a → up2 Z a 2 v q = Z q := fun q hq => up2_o _ _ hq
  refine nv_ext (fun i hi => ?_) (fun i hi => ?_) (fun i hi => ?_) ?_ (fun i hi => ?_)
  · rw [nv_ice _ _ _ hi, nv_wat _ _ _ hi, nv_slt _ _ _ hi, nv_bar _ _ _ hi, nv_bwa _ _ _ hi, nv_bes _ _ _ hi, nv_ice _ _ _ hi, nv_wat _ _ _ hi, nv_slt _ _ _ hi, nv_bar _ _ _ hi, nv_bwa _ _ _ hi, nv_bes _ _ _ hi, kq (a + 6 + i) (by omega)]
    exact ⟨rfl, rfl, rfl, rfl, rfl, rfl⟩
  · rw [nv_stv _ _ _ hi, nv_stv _ _ _ hi, kq (a + 1) (by omega)]
  · rw [nv_man _ _ _ hi, nv_man _ _ _ hi, nv_bag _ _ _ hi, nv_bag _ _ _ hi, kq (a + 2) (by omega), kq (a + 3) (by omega)]
    exact ⟨rfl, rfl⟩
  · rw [nv_hour, nv_hour, up2_at _ _ (by decide)]
  · rw [nv_hi _ _ _ hi, nv_hi _ _ _ hi]
theorem nw_do {a q : Nat} {Z Z2 : VT} (h : NW σ Z a b V cN dN mN gk gw gi) (hd : Do q Z Z2) (ha : q < a ∨ a + 16 ≤ q) (hb : q < b ∨ b + 11 ≤ q) (hf : ∀ f, isF σ b f → q ≠ f + 2) : NW σ Z2 a b V cN dN mN gk gw gi := by
  obtain ⟨h1, h2, h3, h4⟩ := h
  exact ⟨h1, h2, h3, h4.keep (fun r r1 r2 => hd r (by omega)) (fun f hf2 => hd _ (fun e => hf f hf2 e.symm))⟩
set_option maxRecDepth 100000 in
theorem sc_foresee (hE : NE G) (hC : CW σ Z xo b V cN dN mN gk gw gi) (hbar : Z (xo + 14) 2 = -1) (hmn : Mn (nv dN Z (xo + 14)) cN mN) (hlk : LkI (nv dN Z (xo + 14)) dN) {h : Nat} (hh : Z (xo + 14) 1 = nI h) (h31 : h < 2 ^ 30) {k n : Nat} (hk : k < dN) (hn : n ≤ 240) : Sp G mX9_foresee 6 [.ref xo, .int (nI k), .int (nI n)] (cv σ Z) (fun rv σ' => rv = none ∧ ∃ Z2 : VT, σ' = cv (wQ σ (xo + 30) 0 (some b)) Z2 ∧ Fr (XP σ xo b) Z Z2 ∧ nv dN Z2 (xo + 14) = nv dN Z (xo + 14) ∧ Z2 (xo + 14) = Z (xo + 14) ∧ (∀ i, i < n → Z2 (xo + 49) i = dgF gw (h + i) 0 ∧ Z2 (xo + 50) i = brF V (psBI V gw gi dN mN gk (nv dN Z (xo + 14)) h (nI k) i) mN gk (h + i) k)) := by
  have D := dat dl_X9_foresee
  have hX := hC.1
  have hW := hC.2.1
  have h10 := hW.d10
  have h8 := hW.c8
  have h6 := hW.m6
  have h2 := hW.g2
  have loop : XS (wQ σ (xo + 30) 0 (some b)) xo → ∀ r j : Nat, j ≤ n → n - j = r → ∀ Z1 : VT, Fr (XP σ xo b) Z Z1 → NW (wQ σ (xo + 30) 0 (some b)) Z1 (xo + 30) b V cN dN mN gk gw gi → nv dN Z1 (xo + 30) = psBI V gw gi dN mN gk (nv dN Z (xo + 14)) h (nI k) j → Z1 (xo + 30) 2 = nI k → nv dN Z1 (xo + 14) = nv dN Z (xo + 14) → Z1 (xo + 14) = Z (xo + 14) → (∀ i, i < j → Z1 (xo + 49) i = dgF gw (h + i) 0 ∧ Z1 (xo + 50) i = brF V (psBI V gw gi dN mN gk (nv dN Z (xo + 14)) h (nI k) i) mN gk (h + i) k) → HT G mX9_foresee 21 [some (.ref xo), some (.int (nI k)), some (.int (nI n)), some (.int (nI j))] [] (cv (wQ σ (xo + 30) 0 (some b)) Z1) 6 (fun rv σ' => rv = none ∧ ∃ Z2 : VT, σ' = cv (wQ σ (xo + 30) 0 (some b)) Z2 ∧ Fr (XP σ xo b) Z Z2 ∧ nv dN Z2 (xo + 14) = nv dN Z (xo + 14) ∧ Z2 (xo + 14) = Z (xo + 14) ∧ (∀ i, i < n → Z2 (xo + 49) i = dgF gw (h + i) 0 ∧ Z2 (xo + 50) i = brF V (psBI V gw gi dN mN gk (nv dN Z (xo + 14)) h (nI k) i) mN gk (h + i) k)) := by
    intro hX1 r
    induction r using Nat.strongRecOn with
    | _ r ih =>
      intro j hj hr Z1 hfx hT1 hn1 hb1 hnn hna hcb
      have hh1 : Z1 (xo + 30) 1 = nI (h + j) := by
        have e := congrFun hn1 80
        rw [nv_hour] at e
        rw [e]
        exact psBI_80 (S := nv dN Z (xo + 14)) hh (nI k) j
      refine ht_iload_n (D 11 rfl) rfl rfl ?_
      refine ht_iload_n (D 12 rfl) rfl rfl ?_
      refine ht_icmp_ge (tgt := 69) (D 13 rfl) (by decide) (fun hb23 => ?_) (fun hb23 => ?_)
      · skip
        have hjk : j = n := by have h3 := (nI_leI (a := n) (b := j) (by omega) (by omega)).mp hb23; omega
        subst hjk
        refine ht_vret (D 37 rfl) rfl ?_
        exact ⟨rfl, Z1, rfl, hfx, hnn, hna, hcb⟩
      · skip
        have hjk : j < n := by have h3 := mt (nI_leI (a := n) (b := j) (by omega) (by omega)).mpr hb23; omega
        refine ht_aload_n (D 14 rfl) rfl rfl ?_
        refine gf_X9_42 rfl (D 15 rfl) hX1.k0 hX1.q6 ?_
        refine ht_iload_n (D 16 rfl) rfl rfl ?_
        refine ht_aload_n (D 17 rfl) rfl rfl ?_
        refine gf_X9_28 rfl (D 18 rfl) hX1.k0 hX1.q2 ?_
        refine ht_iconst (v := 0) (D 19 rfl) (by decide) ?_
        refine ht_iconst (v := 0) (D 20 rfl) (by decide) ?_
        refine kVX4_degreesBehind (As := [_, _]) cl_X9_148 (D 21 rfl) (sc_degreesBehind hE hT1 hh1 (x := 0) (by omega) 0) hX1.tr.k0 rfl (Nat.le_of_ble_eq_true rfl) rfl (Nat.le_of_ble_eq_true rfl) (by omega) ?_
        rintro _ _ ⟨rfl, Z2, rfl, hf2⟩
        rw [Nat.add_zero]
        have hs2 := nv_scr hT1 hf2
        have ha2 := scr_a hT1 hf2
        have hT2 := hT1.keep (hf2.mono (fun _ => Scr.np))
        have hk2 : ∀ q, q = xo + 49 ∨ q = xo + 50 ∨ (xo + 14 ≤ q ∧ q < xo + 30) → Z2 q = Z1 q := fun q hq => hf2 q (by
          rintro (c | ⟨f, c1, c2⟩)
          · omega
          · have := hC.2.2.2 f (isF_w0.mp c1); omega)
        have hx2 : Fr (XP σ xo b) Z1 Z2 := hf2.mono (fun q hq => hq.elim (fun e => Or.inl ⟨by omega, by omega⟩) (fun ⟨f, c1, c2⟩ => Or.inr ⟨f, isF_w0.mp c1, c2⟩))
        refine hi_ist (n := j) (D 22 rfl) hX1.k6 hX1.n6 (by first | rfl | exact nI_add _ _ | assumption) (by omega) (by first | decide | omega) ?_
        generalize hZ3 : up2 Z2 (xo + 49) j (dgF gw (h + j) 0) = Z3
        have hd3 : Do (xo + 49) Z2 Z3 := by rw [← hZ3]; exact (Do.rf _ _).up _ _
        have hv3 : Z3 (xo + 49) = va_up (Z2 (xo + 49)) j (dgF gw (h + j) 0) := by rw [← hZ3]; exact up2_row _ _ _ _
        have hT3 := nw_do hT2 hd3 (by omega) (by rcases hC.2.2.1 with c | c <;> omega) (fun f hf => by have := hC.2.2.2 f (isF_w0.mp hf); omega)
        have hh3 : Z3 (xo + 30) 1 = nI (h + j) := by rw [hd3 _ (by omega), ha2]; exact hh1
        have hs3 : nv dN Z3 (xo + 30) = nv dN Z1 (xo + 30) := (nv_fr (fun i i1 _ _ => hd3 _ (by omega))).trans hs2
        refine ht_aload_n (D 23 rfl) rfl rfl ?_
        refine gf_X9_45 rfl (D 24 rfl) hX1.k0 hX1.q7 ?_
        refine ht_iload_n (D 25 rfl) rfl rfl ?_
        refine ht_aload_n (D 26 rfl) rfl rfl ?_
        refine gf_X9_28 rfl (D 27 rfl) hX1.k0 hX1.q2 ?_
        refine ht_iload_n (D 28 rfl) rfl rfl ?_
        refine kVX4_breathAt (As := [_]) cl_X9_241 (D 29 rfl) (sc_breathAt hT3 hh3 (by omega) hk dN) hX1.tr.k0 rfl (Nat.le_of_ble_eq_true rfl) rfl (Nat.le_of_ble_eq_true rfl) (by omega) ?_
        rintro _ _ ⟨rfl, rfl⟩
        rw [hs3, hn1]
        refine hi_ist (n := j) (D 30 rfl) hX1.k7 hX1.n7 (by first | rfl | exact nI_add _ _ | assumption) (by omega) (by first | decide | omega) ?_
        generalize hZ4 : up2 Z3 (xo + 50) j (brF V (psBI V gw gi dN mN gk (nv dN Z (xo + 14)) h (nI k) j) mN gk (h + j) k) = Z4
        have hd4 : Do (xo + 50) Z3 Z4 := by rw [← hZ4]; exact (Do.rf _ _).up _ _
        have hv4 : Z4 (xo + 50) = va_up (Z3 (xo + 50)) j (brF V (psBI V gw gi dN mN gk (nv dN Z (xo + 14)) h (nI k) j) mN gk (h + j) k) := by rw [← hZ4]; exact up2_row _ _ _ _
        have hT4 := nw_do hT3 hd4 (by omega) (by rcases hC.2.2.1 with c | c <;> omega) (fun f hf => by have := hC.2.2.2 f (isF_w0.mp hf); omega)
        have hh4 : Z4 (xo + 30) 1 = nI (h + j) := by rw [hd4 _ (by omega)]; exact hh3
        have hs4 : nv dN Z4 (xo + 30) = nv dN Z1 (xo + 30) := (nv_fr (fun i i1 _ _ => hd4 _ (by omega))).trans hs3
        refine ht_aload_n (D 31 rfl) rfl rfl ?_
        refine gf_X9_28 rfl (D 32 rfl) hX1.k0 hX1.q2 ?_
        refine ht_iconst (v := 0) (D 33 rfl) (by decide) ?_
        refine kVX4_passHour (As := [_]) cl_X9_165 (D 34 rfl) (sc_passHour hE hT4 hh4 (by omega) (by rw [hs4, hn1]; exact psBI_mn hW.px hmn _ j) (by rw [hs4, hn1]; exact psBI_lk hW.px hlk _ j) 0) hX1.tr.k0 rfl (Nat.le_of_ble_eq_true rfl) rfl (Nat.le_of_ble_eq_true rfl) (by omega) ?_
        rintro _ _ ⟨rfl, Z5, rfl, hf5, hn5, hb5⟩
        obtain ⟨hfx5, hnn5, hna5⟩ := tr_hour hC hf5
        have hk5 : ∀ q, q = xo + 49 ∨ q = xo + 50 → Z5 q = Z4 q := fun q hq => hf5 q (by
          rintro (⟨c1, c2⟩ | ⟨f, c1, c2⟩)
          · omega
          · have := hC.2.2.2 f (isF_w0.mp c1); omega)
        refine ht_iinc (v := nI (j + 1)) (D 35 rfl) rfl (nI_i1 _) (by decide) rfl ?_
        refine ht_goto (tgt := 21) (D 36 rfl) (by decide) ?_
        refine ht_cast (ih (n - (j + 1)) (by omega) (j + 1) (by omega) rfl Z5 (((hfx.tr hx2).tr ?_).tr hfx5) (hT4.keep hf5) ?_ ?_ ?_ ?_ ?_) rfl rfl rfl
        · intro q hq
          have e1 : q ≠ xo + 49 := fun e => hq (Or.inl ⟨by omega, by omega⟩)
          have e2 : q ≠ xo + 50 := fun e => hq (Or.inl ⟨by omega, by omega⟩)
          rw [hd4 q e2, hd3 q e1]
        · rw [hn5, hs4, hn1, hd4 (xo + 30) (by omega), hd3 (xo + 30) (by omega), ha2, hb1]
          rfl
        · rw [hb5, hd4 _ (by omega), hd3 _ (by omega), ha2]; exact hb1
        · rw [hnn5, show nv dN Z4 (xo + 14) = nv dN Z1 (xo + 14) from nv_fr (fun i i1 _ _ => by rw [hd4 _ (by omega), hd3 _ (by omega), hk2 _ (by omega)])]; exact hnn
        · rw [hna5, hd4 _ (by omega), hd3 _ (by omega), hk2 _ (by omega)]; exact hna
        · intro i hi
          rw [hk5 _ (Or.inl rfl), hk5 _ (Or.inr rfl), hv4, hd4 (xo + 49) (by omega), hv3, hd3 (xo + 50) (by omega)]
          by_cases e : i = j
          · rw [e, va_sm, va_sm]; exact ⟨rfl, rfl⟩
          · rw [va_ne _ _ e, va_ne _ _ e, hk2 _ (Or.inl rfl), hk2 _ (Or.inr (Or.inl rfl))]; exact hcb i (by omega)
  show HT G mX9_foresee 0 [some (.ref xo), some (.int (nI k)), some (.int (nI n)), none] [] (cv σ Z) 6 _
  refine ht_aload_n (D 0 rfl) rfl rfl ?_
  refine gf_X9_28 rfl (D 1 rfl) hX.k0 hX.q2 ?_
  refine ht_aload_n (D 2 rfl) rfl rfl ?_
  refine gf_X9_24 rfl (D 3 rfl) hX.k0 hX.q1 ?_
  refine kVX4_copyFrom (As := [_]) cl_X9_175 (D 4 rfl) (sc_ncopy hX.tr hX.nt hW.lq (by omega)) hX.tr.k0 rfl (Nat.le_of_ble_eq_true rfl) rfl (Nat.le_of_ble_eq_true rfl) (by omega) ?_
  rintro _ _ ⟨rfl, Z0, rfl, hcp⟩
  obtain ⟨hT0, hnt0, hbt0, hnn0, hna0⟩ := tr_start hC hcp
  have hX1 := hX.w0 (v := some b)
  refine ht_aload_n (D 5 rfl) rfl rfl ?_
  refine gf_X9_28 rfl (D 6 rfl) hX1.k0 hX1.q2 ?_
  refine ht_iload_n (D 7 rfl) rfl rfl ?_
  refine pi_X9_238 rfl (D 8 rfl) hX1.tr.k0 ?_
  refine ht_iconst (v := 0) (D 9 rfl) (by decide) ?_
  refine ht_istore_n (D 10 rfl) rfl (by decide) rfl ?_
  generalize hZ1 : up2 Z0 (xo + 30) 2 (nI k) = Z1
  have hd1 : Do (xo + 30) Z0 Z1 := by rw [← hZ1]; exact (Do.rf _ _).up _ _
  have hT1 := hT0.keep (Z2 := Z1) (fun q hq => hd1 q (fun e => hq (Or.inl ⟨by omega, by omega⟩)))
  have h1 : Z1 (xo + 30) 1 = Z0 (xo + 30) 1 := by rw [← hZ1, up2_at _ _ (by decide)]
  refine ht_cast (loop hX1 n 0 (by omega) (by omega) Z1 (hcp.xp.tr (fun q hq => hd1 q (fun e => hq (Or.inl ⟨by omega, by omega⟩)))) hT1 ?_ ?_ ?_ ?_ (fun i hi => absurd hi (by omega))) rfl rfl rfl
  · rw [← hZ1, nv_barred]; exact hnt0
  · rw [← hZ1, up2_s]
  · rw [show nv dN Z1 (xo + 14) = nv dN Z0 (xo + 14) from nv_fr (fun i i1 _ _ => hd1 _ (by omega))]; exact hnn0
  · rw [hd1 _ (by omega)]; exact hna0
end C15
