/-! ===== man and degrees where they answer ===== -/
section V3
variable {G : GG} {τ : Hp} {ρ : Nat → Nat} {T : ST} {n xo b k h S9 : Nat} {s : TD}
theorem w012 {w : Int32} (h : 0 ≤ w ∧ w ≤ 2) : w = 0 ∨ w = 1 ∨ w = 2 := by
  have h3 : w < nI 3 := by
    have h2 := h.2
    simp only [i_lt, i_le] at h2 ⊢
    have e1 : (2 : Int32).toInt = 2 := by decide
    have e2 : (nI 3).toInt = 3 := by decide
    rw [e1] at h2
    rw [e2]
    omega
  obtain ⟨j, hj, rfl⟩ := rng (n := 3) (by decide) ⟨h.1, h3⟩
  have h4 : j = 0 ∨ j = 1 ∨ j = 2 := by omega
  rcases h4 with rfl | rfl | rfl
  · exact Or.inl rfl
  · exact Or.inr (Or.inl rfl)
  · exact Or.inr (Or.inr rfl)
set_option maxRecDepth 100000 in
theorem sa_man (hL : LIc xo S9 k τ ρ b s T n h) {x w : Int32} (hok0 : aManOk (tdC s 2) x w) : Sp G mX9_man 1 [.ref xo, .int x, .int w] τ (fun rv σ' => rv = some (.int (aManV (vV τ (xo + 52)) (vV τ (xo + 52) 33) x w)) ∧ σ' = τ) := by
  have D := dat dl_X9_man
  have hX := hL.1.1
  have hLn := hL.2.1.1.2.1
  have hLw := hL.2.1.2.1.1.1
  have hm2 := hL.2.1.2.1.2.1.1.2.2.1
  have h6 := hL.tv.1.2.2.1
  have h15 : ∀ j, j < tdC s 2 → vV τ (xo + 52) 15 j = zI τ (b + 8) j := fun j hj => (hL.cw.2.1.2.2.2.2.1.2.2.1 j hj).symm
  obtain ⟨j, hj, rfl⟩ := rng (by omega) hok0.1
  have hok := hok0
  show HT G mX9_man 0 [some (.ref xo), some (.int (nI j)), some (.int w)] [] τ 1 _
  refine ht_iload_n (D 0 rfl) rfl rfl ?_
  refine ht_aload_n (D 1 rfl) rfl rfl ?_
  refine gf_X9_24 rfl (D 2 rfl) hX.k0 hX.q1 ?_
  refine gf_X9_75 rfl (D 3 rfl) hX.nt.k0 hLn ?_
  refine gf_X9_121 rfl (D 4 rfl) hLw.k0 ?_
  rw [hm2]
  refine kSX9_isBelow (As := [_, _]) cl_X9_79 (D 5 rfl) (sc_isBelow (nI j) (nI (tdC s 2))) rfl (Nat.le_of_ble_eq_true rfl) rfl (Nat.le_of_ble_eq_true rfl) (by omega) ?_
  rintro _ _ ⟨rfl, rfl⟩
  refine ht_if_ne (tgt := 27) (D 6 rfl) (by decide) (fun hb14 => ?_) (fun hb14 => ?_)
  · skip
    refine ht_iload_n (D 12 rfl) rfl rfl ?_
    by_cases hs28_0 : w = 0
    · skip
      refine ht_tableIn (off := 28) (tgt := 56) (D 13 rfl) (by rw [hs28_0]; decide) (by rw [hs28_0]; decide) (by rw [hs28_0]; rfl) (by decide) ?_
      refine ht_aload_n (D 14 rfl) rfl rfl ?_
      refine gf_X9_24 rfl (D 15 rfl) hX.k0 hX.q1 ?_
      refine gf_X9_131 rfl (D 16 rfl) hX.nt.k0 hX.nt.q2 ?_
      refine ht_iload_n (D 17 rfl) rfl rfl ?_
      refine ht_ild (n := j) (D 18 rfl) hX.nt.k2 hX.nt.n2 rfl (by omega) (by first | decide | omega) ?_
      refine ht_iret (D 19 rfl) rfl rfl ?_
      refine ⟨?_, rfl⟩
      unfold aManV
      rw [if_pos hs28_0, nI_clamp (by omega), ← hL.nv, nv_man _ _ _ (by omega)]
    · skip
      by_cases hs28_1 : w = 1
      · skip
        refine ht_tableIn (off := 38) (tgt := 66) (D 13 rfl) (by rw [hs28_1]; decide) (by rw [hs28_1]; decide) (by rw [hs28_1]; rfl) (by decide) ?_
        refine ht_aload_n (D 20 rfl) rfl rfl ?_
        refine gf_X9_24 rfl (D 21 rfl) hX.k0 hX.q1 ?_
        refine gf_X9_134 rfl (D 22 rfl) hX.nt.k0 hX.nt.q3 ?_
        refine ht_iload_n (D 23 rfl) rfl rfl ?_
        refine ht_ild (n := j) (D 24 rfl) hX.nt.k3 hX.nt.n3 rfl (by omega) (by first | decide | omega) ?_
        refine ht_iret (D 25 rfl) rfl rfl ?_
        refine ⟨?_, rfl⟩
        unfold aManV
        rw [if_neg hs28_0, if_pos hs28_1, nI_clamp (by omega), ← hL.nv, nv_bag _ _ _ (by omega)]
      · skip
        by_cases hs28_2 : w = 2
        · skip
          refine ht_tableIn (off := 48) (tgt := 76) (D 13 rfl) (by rw [hs28_2]; decide) (by rw [hs28_2]; decide) (by rw [hs28_2]; rfl) (by decide) ?_
          refine ht_aload_n (D 26 rfl) rfl rfl ?_
          refine gf_X9_24 rfl (D 27 rfl) hX.k0 hX.q1 ?_
          refine gf_X9_75 rfl (D 28 rfl) hX.nt.k0 hLn ?_
          refine gf_X9_137 rfl (D 29 rfl) hLw.k0 hLw.q8 ?_
          refine ht_iload_n (D 30 rfl) rfl rfl ?_
          refine ht_ild (n := j) (D 31 rfl) hLw.k8 hLw.n8 rfl (by omega) (by first | decide | omega) ?_
          refine ht_iret (D 32 rfl) rfl rfl ?_
          refine ⟨?_, rfl⟩
          unfold aManV
          rw [if_neg hs28_0, if_neg hs28_1, nI_clamp (by omega), h15 j hj]
        · skip
          refine ht_tableOut (tgt := 89) (D 13 rfl) (tb_out (lo := 0) (n := 3) (fun k hk => ?_)) (by decide) ?_
          · (have hk9 : k = 0 ∨ k = 1 ∨ k = 2 := by omega)
            rcases hk9 with rfl | rfl | rfl <;> assumption
          exact absurd (w012 hok.2) (fun z => by rcases z with z | z | z; exact hs28_0 z; exact hs28_1 z; exact hs28_2 z)
  · skip
    exact absurd hok.1 (b01_eq hb14)
set_option maxRecDepth 100000 in
theorem sa_deg (hE : NE G) (hL : LIc xo S9 k τ ρ b s T n h) (hk : k ≤ 600) {w : Int32} (hok0 : 0 ≤ w ∧ w ≤ 9999) : Sp G mX9_degrees 4 [.ref xo, .int w] τ (fun rv σ' => rv = some (.int (dgF (gwO s) (h + w.toNatClampNeg) 0)) ∧ ∃ Z2 : VT, σ' = cv τ Z2 ∧ Fr (Scr τ (xo + 14) b) (zI τ) Z2) := by
  have D := dat dl_X9_degrees
  have hX := hL.1.1
  have hLn := hL.2.1.1.2.1
  have hLw := hL.2.1.2.1.1.1
  have hC := hL.cw
  have hh := hL.si.2.2.2.2.2
  have h3 : w < nI 10000 := by
    have h2 := hok0.2
    simp only [i_lt, i_le] at h2 ⊢
    have e1 : (9999 : Int32).toInt = 9999 := by decide
    have e2 : (nI 10000).toInt = 10000 := by decide
    rw [e1] at h2
    rw [e2]
    omega
  obtain ⟨x, hx, rfl⟩ := rng (n := 10000) (by decide) ⟨hok0.1, h3⟩
  have hok := hok0
  show HT G mX9_degrees 0 [some (.ref xo), some (.int (nI x))] [] τ 4 _
  refine ht_iload_n (D 0 rfl) rfl rfl ?_
  refine ht_iconst (v := 0) (D 1 rfl) (by decide) ?_
  refine ht_sipush (v := 9999) (D 2 rfl) (by decide) ?_
  refine kSX9_isWithin (As := [_, _, _]) cl_X9_142 (D 3 rfl) (sc_isWithin (nI x) 0 9999) rfl (Nat.le_of_ble_eq_true rfl) rfl (Nat.le_of_ble_eq_true rfl) (by omega) ?_
  rintro _ τ ⟨rfl, rfl⟩
  refine ht_if_ne (tgt := 21) (D 4 rfl) (by decide) (fun hb8 => ?_) (fun hb8 => ?_)
  · skip
    refine ht_aload_n (D 10 rfl) rfl rfl ?_
    refine gf_X9_24 rfl (D 11 rfl) hX.k0 hX.q1 ?_
    refine ht_iload_n (D 12 rfl) rfl rfl ?_
    refine ht_iconst (v := 0) (D 13 rfl) (by decide) ?_
    refine kVX4_degreesBehind (As := [_, _]) cl_X9_148 (D 14 rfl) (sc_degreesBehind (σ := τ) (Z := zI τ) (a := xo + 14) (b := b) hE hC.2.1 hL.hr (x := x) (by omega) 0) hX.nt.k0 rfl (Nat.le_of_ble_eq_true rfl) rfl (Nat.le_of_ble_eq_true rfl) (by omega) ?_
    rintro _ _ ⟨rfl, Z2, rfl, hfr⟩
    refine ht_iret (D 15 rfl) rfl rfl ?_
    exact ⟨by rw [nI_clamp (by omega)], Z2, rfl, hfr⟩
  · skip
    exact absurd hok (b01_eq hb8)
end V3
