/-! ===== the class: an hour passes, as in the reference ===== -/
section C6
variable {G : GG} {σ : Hp} {Z : VT} {a b : Nat} {V : VT} {cN dN mN gk : Nat} {gw : Option GWt} {gi : Option GIt}
set_option maxRecDepth 100000 in
theorem sc_passHour (hE : NE G) (hW : NW σ Z a b V cN dN mN gk gw gi) {h : Nat} (hh : Z a 1 = nI h) (h31 : h < 2 ^ 31) (hm : Mn (nv dN Z a) cN mN) (hl : LkI (nv dN Z a) dN) (md : Int32) : Sp G mX4_passHour 5 [.ref a, .int md] (cv σ Z) (fun rv σ' => rv = none ∧ ∃ Z2 : VT, σ' = cv σ Z2 ∧ Fr (NP σ a b) Z Z2 ∧ nv dN Z2 a = psB V gw gi dN mN gk h md (Z a 2) (nv dN Z a) ∧ Z2 a 2 = Z a 2) := by
  have D := dat dl_X4_passHour
  have h10 := hW.d10
  have h6 := hW.m6
  have h8 := hW.c8
  have hmf : Mn (frS V gi (dgF gw h md) mN gk h (nv dN Z a) dN) cN mN := fun x hx => by rw [frS_hi _ _ _ _ _ _ _ h10 (show 50 ≤ 68 + x by omega)]; exact hm x hx
  have loop2 : ∀ r j : Nat, j ≤ mN → mN - j = r → ∀ Z1 : VT, Fr (NP σ a b) Z Z1 → nv dN Z1 a = wkM V gk h dN (Z a 2) (frS V gi (dgF gw h md) mN gk h (nv dN Z a) dN) j → Z1 a = Z a → HT G mX4_passHour 53 [some (.ref a), some (.int md), some (.int (dgF gw h md)), some (.int (nI j))] [] (cv σ Z1) 5 (fun rv σ' => rv = none ∧ ∃ Z2 : VT, σ' = cv σ Z2 ∧ Fr (NP σ a b) Z Z2 ∧ nv dN Z2 a = psB V gw gi dN mN gk h md (Z a 2) (nv dN Z a) ∧ Z2 a 2 = Z a 2) := by
    intro r
    induction r using Nat.strongRecOn with
    | _ r ih =>
      intro j hj hr Z1 hf1 hn1 ha1
      have hW1 := hW.keep hf1
      have hh1 : Z1 a 1 = nI h := by rw [ha1]; exact hh
      have hm1 : Mn (nv dN Z1 a) cN mN := by rw [hn1]; exact wkM_mn hW.pl h (Z a 2) hmf j hj
      refine ht_iload_n (D 31 rfl) rfl rfl ?_
      refine ht_aload_n (D 32 rfl) rfl rfl ?_
      refine gf_X4_31 rfl (D 33 rfl) hW1.nt.k0 hW1.lq ?_
      refine gi_X4_64 rfl (D 34 rfl) hW1.lb.k0 ?_
      refine ht_icmp_ge (tgt := 75) (D 35 rfl) (by decide) (fun hb61 => ?_) (fun hb61 => ?_)
      · skip
        have hjk : j = mN := by rw [hW1.nm] at hb61; have h3 := (nI_leI (a := mN) (b := j) (by omega) (by omega)).mp hb61; omega
        refine ht_aload_n (D 41 rfl) rfl rfl ?_
        refine ht_dup (D 42 rfl) rfl ?_
        refine gi_X4_39 rfl (D 43 rfl) hW1.nt.k0 ?_
        refine ht_iconst (v := 1) (D 44 rfl) (by decide) ?_
        refine ht_iadd (D 45 rfl) ?_
        refine pi_X4_39 rfl (D 46 rfl) hW1.nt.k0 ?_
        refine ht_vret (D 47 rfl) rfl ?_
        subst hjk
        refine ⟨rfl, _, rfl, hf1.up _ (Or.inl ⟨by omega, by omega⟩), ?_, ?_⟩
        · rw [nv_hour1, hn1, hh1, nI_1]
          rfl
        · rw [up2_at _ _ (by decide), ha1]
      · skip
        have hjk : j < mN := by rw [hW1.nm] at hb61; have h3 := mt (nI_leI (a := mN) (b := j) (by omega) (by omega)).mpr hb61; omega
        refine ht_aload_n (D 36 rfl) rfl rfl ?_
        refine ht_iload_n (D 37 rfl) rfl rfl ?_
        refine kVX4_letGo (As := [_]) cl_X4_126 (D 38 rfl) (sc_letGo hW1 hh1 h31 hm1 hjk) hW1.nt.k0 rfl (Nat.le_of_ble_eq_true rfl) rfl (Nat.le_of_ble_eq_true rfl) (by omega) ?_
        rintro _ _ ⟨rfl, Z2, rfl, hf2, hn2⟩
        refine ht_iinc (v := nI (j + 1)) (D 39 rfl) rfl (nI_i1 _) (by decide) rfl ?_
        refine ht_goto (tgt := 53) (D 40 rfl) (by decide) ?_
        refine ht_cast (ih (mN - (j + 1)) (by omega) (j + 1) (by omega) rfl Z2 (hf1.tr (hf2.mono (fun q hq => Or.inl ⟨by omega, by omega⟩))) ?_ ?_) rfl rfl rfl
        · rw [hn2, hn1, ha1]
          rfl
        · rw [hf2 a (by omega), ha1]
  have loop1 : ∀ r j : Nat, j ≤ dN → dN - j = r → ∀ Z1 : VT, Fr (NP σ a b) Z Z1 → nv dN Z1 a = frS V gi (dgF gw h md) mN gk h (nv dN Z a) j → Z1 a = Z a → HT G mX4_passHour 9 [some (.ref a), some (.int md), some (.int (dgF gw h md)), some (.int (nI j))] [] (cv σ Z1) 5 (fun rv σ' => rv = none ∧ ∃ Z2 : VT, σ' = cv σ Z2 ∧ Fr (NP σ a b) Z Z2 ∧ nv dN Z2 a = psB V gw gi dN mN gk h md (Z a 2) (nv dN Z a) ∧ Z2 a 2 = Z a 2) := by
    intro r
    induction r using Nat.strongRecOn with
    | _ r ih =>
      intro j hj hr Z1 hf1 hn1 ha1
      have hW1 := hW.keep hf1
      have hh1 : Z1 a 1 = nI h := by rw [ha1]; exact hh
      have hl1 : LkI (nv dN Z1 a) dN := by rw [hn1]; exact frS_lk h10 hl j hj
      refine ht_iload_n (D 7 rfl) rfl rfl ?_
      refine ht_aload_n (D 8 rfl) rfl rfl ?_
      refine gf_X4_31 rfl (D 9 rfl) hW1.nt.k0 hW1.lq ?_
      refine gi_X4_74 rfl (D 10 rfl) hW1.lb.k0 ?_
      refine ht_icmp_ge (tgt := 51) (D 11 rfl) (by decide) (fun hb17 => ?_) (fun hb17 => ?_)
      · skip
        have hjk : j = dN := by rw [hW1.nd] at hb17; have h3 := (nI_leI (a := dN) (b := j) (by omega) (by omega)).mp hb17; omega
        refine ht_iconst (v := 0) (D 29 rfl) (by decide) ?_
        refine ht_istore_n (D 30 rfl) rfl (by decide) rfl ?_
        subst hjk
        exact ht_cast (loop2 mN 0 (by omega) (by omega) Z1 hf1 hn1 ha1) rfl rfl rfl
      · skip
        have hjk : j < dN := by rw [hW1.nd] at hb17; have h3 := mt (nI_leI (a := dN) (b := j) (by omega) (by omega)).mpr hb17; omega
        obtain ⟨p, hp1, hp2, hp3⟩ := hW1.dc hjk
        refine ht_aload_n (D 12 rfl) rfl rfl ?_
        refine ht_iload_n (D 13 rfl) rfl rfl ?_
        refine ht_aload_n (D 14 rfl) rfl rfl ?_
        refine ht_iload_n (D 15 rfl) rfl rfl ?_
        refine kVX4_stoveAt (As := [_]) cl_X4_112 (D 16 rfl) (sc_stoveAt hW1.nt hW1.lq hW1.lb (show j < 10 by omega) hp3 (show p < 8 by omega) (hW1.dt hjk)) hW1.nt.k0 rfl (Nat.le_of_ble_eq_true rfl) rfl (Nat.le_of_ble_eq_true rfl) (by omega) ?_
        rintro _ _ ⟨rfl, rfl⟩
        rw [stC_e hW1 hjk dN]
        refine ht_aload_n (D 17 rfl) rfl rfl ?_
        refine ht_iload_n (D 18 rfl) rfl rfl ?_
        refine kVX4_breathAt (As := [_]) cl_X4_116 (D 19 rfl) (sc_breathAt hW1 hh1 h31 hjk dN) hW1.nt.k0 rfl (Nat.le_of_ble_eq_true rfl) rfl (Nat.le_of_ble_eq_true rfl) (by omega) ?_
        rintro _ _ ⟨rfl, rfl⟩
        refine kVX4_setAround (As := [_, _, _]) cl_X4_119 (D 20 rfl) (sc_setAround hW1.nt _ _ _) hW1.nt.k0 rfl (Nat.le_of_ble_eq_true rfl) rfl (Nat.le_of_ble_eq_true rfl) (by omega) ?_
        rintro _ _ ⟨rfl, rfl⟩
        generalize hZ2 : up2 (up2 (up2 Z1 (a + 5) 3 (dgF gw h md)) (a + 5) 4 (stF V (nv dN Z1 a) j)) (a + 5) 6 (brF V (nv dN Z1 a) mN gk h j) = Z2
        have hf2 : Fr (fun q => q = a + 5) Z1 Z2 := by rw [← hZ2]; exact fun r hr => by rw [up2_o _ _ hr, up2_o _ _ hr, up2_o _ _ hr]
        have q3 : Z2 (a + 5) 3 = dgF gw h md := by rw [← hZ2]; simp [up2]
        have q4 : Z2 (a + 5) 4 = stF V (nv dN Z1 a) j := by rw [← hZ2]; simp [up2]
        have q6 : Z2 (a + 5) 6 = brF V (nv dN Z1 a) mN gk h j := by rw [← hZ2]; simp [up2]
        have hW2 := hW1.keep (hf2.mono (fun q hq => Or.inl ⟨by omega, by omega⟩))
        have hn2 : nv dN Z2 a = nv dN Z1 a := nv_fr (fun i _ _ i5 => hf2 _ (by omega))
        refine ht_aload_n (D 21 rfl) rfl rfl ?_
        refine ht_aload_n (D 22 rfl) rfl rfl ?_
        refine gf_X4_23 rfl (D 23 rfl) hW1.nt.k0 hW1.nt.q4 ?_
        refine ht_iload_n (D 24 rfl) rfl rfl ?_
        refine ht_ald (n := j) (Or.inl rfl) (D 25 rfl) hW1.nt.k4 hW1.nt.n4 rfl (by omega) (by decide) (hW1.nt.lq (j := j) (by omega)) ?_
        refine kVX4_freeze (As := [_]) cl_X4_123 (D 26 rfl) (sc_freeze hE hW2 q3 q4 q6 (show j < 10 by omega)) hW1.nt.k0 rfl (Nat.le_of_ble_eq_true rfl) rfl (Nat.le_of_ble_eq_true rfl) (by omega) ?_
        rintro _ _ ⟨rfl, Z3, rfl, f0, f1, f2, f3, f4, f5⟩
        have hn3 := nv_freeze hW2 (by rw [hn2]; exact hl1) hjk (h := h) (by rw [hn2]) (by rw [hn2]) f0 f1 f2 f3 f4 f5
        have hns : ¬ Scr σ a b a := by
          rintro (c | ⟨f, c1, c2⟩)
          · omega
          · rcases hW.ap.2 f c1 with c | c <;> omega
        refine ht_iinc (v := nI (j + 1)) (D 27 rfl) rfl (nI_i1 _) (by decide) rfl ?_
        refine ht_goto (tgt := 9) (D 28 rfl) (by decide) ?_
        refine ht_cast (ih (dN - (j + 1)) (by omega) (j + 1) (by omega) rfl Z3 (hf1.tr (fun q hq => ?_)) ?_ ?_) rfl rfl rfl
        · rw [f0 q (fun c => hq c.np) (fun c => hq (Or.inl ⟨by omega, by omega⟩)), hf2 q (fun c => hq (Or.inl ⟨by omega, by omega⟩))]
        · rw [hn3, hn2, hn1]
          rfl
        · rw [f0 a hns (by omega), hf2 a (by omega), ha1]
  show HT G mX4_passHour 0 [some (.ref a), some (.int md), none, none] [] (cv σ Z) 5 _
  refine ht_aload_n (D 0 rfl) rfl rfl ?_
  refine ht_iconst (v := 0) (D 1 rfl) (by decide) ?_
  refine ht_iload_n (D 2 rfl) rfl rfl ?_
  refine kVX4_degreesBehind (As := [_, _]) cl_X4_109 (D 3 rfl) (sc_degreesBehind hE hW hh (x := 0) (by omega) md) hW.nt.k0 rfl (Nat.le_of_ble_eq_true rfl) rfl (Nat.le_of_ble_eq_true rfl) (by omega) ?_
  rintro _ _ ⟨rfl, Z1, rfl, hf1⟩
  rw [Nat.add_zero]
  refine ht_istore_n (D 4 rfl) rfl (by decide) rfl ?_
  refine ht_iconst (v := 0) (D 5 rfl) (by decide) ?_
  refine ht_istore_n (D 6 rfl) rfl (by decide) rfl ?_
  refine ht_cast (loop1 dN 0 (by omega) (by omega) Z1 (hf1.mono (fun _ => Scr.np)) ?_ ?_) rfl rfl rfl
  · exact nv_fr (fun i i1 i4 i5 => hf1 _ (by
      rintro (c | ⟨f, c1, c2⟩)
      · omega
      · rcases hW.ap.2 f c1 with c | c <;> omega))
  · exact hf1 _ (by
      rintro (c | ⟨f, c1, c2⟩)
      · omega
      · rcases hW.ap.2 f c1 with c | c <;> omega)
end C6
/-! the hour is the reference's -/
section C6q
variable {V : VT} {cN dN mN gk : Nat}
theorem far_nat (hX : PX V cN dN mN gk) {c : Nat} (hc : c < cN) : ∃ k, k ≤ 8 ∧ V 36 c = nI k ∧ fV V (nI c) = (if k = 0 then -1 else nI k) ∧ fO V (nI c) = nI k := by
  obtain ⟨k, h1, h2⟩ := hX.2.2.2.1 c hc
  have h8 := hX.1.1.2
  refine ⟨k, h1, h2, ?_, ?_⟩
  · unfold fV
    rw [if_neg (nI_ge0 (by omega)), nI_clamp (by omega), h2]
    by_cases e : k = 0
    · rw [e]; rfl
    · rw [if_neg (nI_ne0 (by omega) (by omega)), if_neg e]
  · unfold fO
    rw [if_neg (nI_pos (by omega)), nI_clamp (by omega), h2]
/-- a door that may be gone through, as both say it -/
theorem wok_e (hX : PX V cN dN mN gk) {S : ST} {c0 : Nat} (hc : c0 < cN) {h d : Nat} (hd : d < dN) (hS : ∃ p, p ≤ 99 ∧ S d = nI p) :
    wok V S (nI c0) gk h d ↔ (¬ ld V d (nI c0) = -2 ∧ S d = 0 ∧ (¬ fV V (ld V d (nI c0)) = -1 ∧ fV V (ld V d (nI c0)) < fV V (nI c0)) ∧ gN V (ld V d (nI c0)) h gk = 0) := by
  obtain ⟨p, p1, p2⟩ := hS
  have h8 := hX.1.1.2
  have hz : (¬ 0 < S d) ↔ S d = 0 := by
    rw [p2]
    constructor
    · intro q
      rcases Nat.eq_zero_or_pos p with e | e
      · rw [e]; rfl
      · exact absurd (nI_lt (a := 0) e (by omega)) q
    · intro q
      rw [q]
      exact Int32.lt_irrefl
  have hg : (¬ 0 < gN V (ld V d (nI c0)) h gk) ↔ gN V (ld V d (nI c0)) h gk = 0 := by omega
  obtain ⟨k, k1, k2, k3, k4⟩ := far_nat hX hc
  unfold wok
  rw [hz, hg]
  rcases ld_cases hX.1 hd (nI c0) with e | e | ⟨t, t1, t2⟩
  · exact ⟨fun q => absurd e q.1, fun q => absurd e q.1⟩
  · have hk : k = 1 := by
      have e2 : V 11 d = -1 ∧ V 10 d = nI c0 := by
        unfold ld at e
        by_cases c1 : V 10 d = nI c0
        · rw [if_pos c1] at e
          exact ⟨e, c1⟩
        · rw [if_neg c1] at e
          by_cases c2 : V 11 d = nI c0
          · rw [if_pos c2] at e
            obtain ⟨x, x1, x2⟩ := hX.1.2.2.2.2.2.1 d hd
            rw [x2] at e
            exact absurd e (nI_ge0 (by omega))
          · rw [if_neg c2] at e
            exact absurd e (by decide)
      have e3 := hX.2.2.2.2.1 d hd e2.1
      rw [e2.2, nI_clamp (by omega), k2] at e3
      exact (nI_eq (by omega) (by decide)).mp e3
    have e4 : fV V (-1) = 0 := rfl
    rw [e, e4, k3, hk]
    exact ⟨fun q => ⟨q.1, q.2.1, ⟨by decide, by decide⟩, q.2.2.1⟩, fun q => ⟨q.1, q.2.1, q.2.2.2, Or.inl (by decide)⟩⟩
  · obtain ⟨m, m1, m2, m3, m4⟩ := far_nat hX t1
    rw [t2, m3, k3, nI_clamp (by omega), nI_clamp (by omega), m2, k2]
    have hneg : ¬ nI t < 0 := nI_pos (by omega)
    constructor
    · rintro ⟨q1, q2, q3, q4 | ⟨q4, q5⟩⟩
      · exact absurd q4 hneg
      · have r1 : m ≠ 0 := fun r => by rw [r] at q4; exact absurd q4 (by decide)
        have r2 : m < k := (nI_ltI (by omega) (by omega)).mp q5
        rw [if_neg r1, if_neg (by omega)]
        exact ⟨q1, q2, ⟨nI_ge0 (by omega), q5⟩, q3⟩
    · rintro ⟨q1, q2, ⟨q4, q5⟩, q3⟩
      have r1 : m ≠ 0 := fun r => q4 (by rw [if_pos r])
      rw [if_neg r1] at q5
      have r2 : k ≠ 0 := fun r => by
        rw [if_pos r, i_lt, nI_toInt (by omega), show (-1 : Int32).toInt = -1 from rfl] at q5
        omega
      rw [if_neg r2] at q5
      exact ⟨q1, q2, q3, Or.inr ⟨nI_lt (a := 0) (by omega) (by omega), q5⟩⟩
theorem fv_lt (hX : PX V cN dN mN gk) {p q : Int32} (hp : p = -1 ∨ ∃ c, c < cN ∧ p = nI c) (hq : q = -1 ∨ ∃ c, c < cN ∧ q = nI c) (h1 : ¬ fV V p = -1) (h2 : ¬ fV V q = -1) : (fV V p < fV V q) ↔ ¬ fO V q ≤ fO V p := by
  have key : ∀ r : Int32, (r = -1 ∨ ∃ c, c < cN ∧ r = nI c) → ¬ fV V r = -1 → fV V r = fO V r := by
    rintro r (rfl | ⟨c, c1, rfl⟩) hr
    · rfl
    · obtain ⟨m, m1, m2, m3, m4⟩ := far_nat hX c1
      rw [m3] at hr ⊢
      rw [m4]
      by_cases e : m = 0
      · rw [if_pos e] at hr
        exact absurd rfl hr
      · rw [if_neg e]
  rw [key p hp h1, key q hq h2]
  exact ⟨fun h => Int32.not_le.mpr h, fun h => Int32.not_le.mp h⟩
theorem gl_wb (hX : PX V cN dN mN gk) {S : ST} (hS : ∀ d, d < dN → ∃ p, p ≤ 99 ∧ S d = nI p) {c0 : Nat} (hc : c0 < cN) (h : Nat) : ∀ d, d ≤ dN → (wb V S (nI c0) gk h d = none ∧ glV V S gk h (-1) (nI c0) d = nI c0) ∨ ∃ b0, b0 < d ∧ wb V S (nI c0) gk h d = some b0 ∧ wok V S (nI c0) gk h b0 ∧ glV V S gk h (-1) (nI c0) d = ld V b0 (nI c0) := by
  intro d
  have hld : ∀ e, e < dN → ¬ ld V e (nI c0) = -2 → ld V e (nI c0) = -1 ∨ ∃ q, q < cN ∧ ld V e (nI c0) = nI q := fun e he hn => by
    rcases ld_cases hX.1 he (nI c0) with q | q | q
    · exact absurd q hn
    · exact Or.inl q
    · exact Or.inr q
  have hnd : ∀ e : Nat, e < dN → ¬ nI e = -1 := fun e he => nI_ge0 (by have := hX.1.2.1.2; omega)
  induction d with
  | zero => intro _; exact Or.inl ⟨rfl, rfl⟩
  | succ d ih =>
    intro hd
    have hwe := wok_e hX (S := S) hc (h := h) (show d < dN by omega) (hS d (by omega))
    show (wst V S (nI c0) gk h d (wb V S (nI c0) gk h d) = none ∧ (if okV V S gk h (-1) d (nI c0) (glV V S gk h (-1) (nI c0) d) then ld V d (nI c0) else glV V S gk h (-1) (nI c0) d) = nI c0) ∨ ∃ b0, b0 < d + 1 ∧ wst V S (nI c0) gk h d (wb V S (nI c0) gk h d) = some b0 ∧ wok V S (nI c0) gk h b0 ∧ (if okV V S gk h (-1) d (nI c0) (glV V S gk h (-1) (nI c0) d) then ld V d (nI c0) else glV V S gk h (-1) (nI c0) d) = ld V b0 (nI c0)
    rcases ih (by omega) with ⟨i1, i2⟩ | ⟨b0, i0, i1, i2, i3⟩
    · rw [i1, i2]
      by_cases hy : wok V S (nI c0) gk h d
      · right
        have hy2 := hwe.mp hy
        rw [wst_n hy, if_pos ⟨hy2.1, hnd d (by omega), hy2.2.1, hy2.2.2.1, hy2.2.2.2⟩]
        exact ⟨d, by omega, rfl, hy, rfl⟩
      · left
        rw [wst_f none hy, if_neg (fun q => hy (hwe.mpr ⟨q.1, q.2.2.1, q.2.2.2.1, q.2.2.2.2⟩))]
        exact ⟨rfl, rfl⟩
    · have j2 := (wok_e hX (S := S) hc (h := h) (show b0 < dN by omega) (hS b0 (by omega))).mp i2
      right
      rw [i1, i3]
      by_cases hy : wok V S (nI c0) gk h d
      · have hy2 := hwe.mp hy
        have hlt := fv_lt hX (hld d (by omega) hy2.1) (hld b0 (by omega) j2.1) hy2.2.2.1.1 j2.2.2.1.1
        rw [wst_s hy]
        by_cases hc2 : fO V (ld V b0 (nI c0)) ≤ fO V (ld V d (nI c0))
        · rw [if_pos hc2, if_neg (fun q => (hlt.mp q.2.2.2.1.2) hc2)]
          exact ⟨b0, by omega, rfl, i2, rfl⟩
        · rw [if_neg hc2, if_pos ⟨hy2.1, hnd d (by omega), hy2.2.1, ⟨hy2.2.2.1.1, hlt.mpr hc2⟩, hy2.2.2.2⟩]
          exact ⟨d, by omega, rfl, hy, rfl⟩
      · rw [wst_f _ hy, if_neg (fun q => hy (hwe.mpr ⟨q.1, q.2.2.1, ⟨q.2.2.2.1.1, Int32.lt_trans q.2.2.2.1.2 j2.2.2.1.2⟩, q.2.2.2.2⟩))]
        exact ⟨b0, by omega, rfl, i2, rfl⟩
theorem wkB_e (hX : PX V cN dN mN gk) {S : ST} (hS : ∀ d, d < dN → ∃ p, p ≤ 99 ∧ S d = nI p) (hm : Mn S cN mN) (h : Nat) {x : Nat} (hx : x < mN) : wkB V gk h dN (-1) S x = wkS V gk h dN S x := by
  unfold wkB wkS
  have h8 := hX.1.1.2
  rcases hm x hx with e | ⟨c0, c1, c2⟩
  · rw [e, if_pos (Or.inl rfl), if_pos (Or.inl (by decide))]
  · rw [c2]
    by_cases hn : nI (h / 24) < V 15 x ∨ 0 < gN V (nI c0) h gk
    · rw [if_pos (Or.inr hn), if_pos (Or.inr hn)]
    · rw [if_neg (fun q => q.elim (nI_ge0 (by omega)) hn), if_neg (fun q => q.elim (nI_pos (by omega)) hn)]
      rcases gl_wb hX hS c1 h dN (Nat.le_refl _) with ⟨i1, i2⟩ | ⟨b0, -, i1, -, i3⟩
      · rw [i1, i2, ← c2]
        exact va_up_id S (68 + x)
      · rw [i1, i3]
theorem wkM_e (hX : PX V cN dN mN gk) {S : ST} (hS : ∀ d, d < dN → ∃ p, p ≤ 99 ∧ S d = nI p) (hm : Mn S cN mN) (h : Nat) : ∀ k, k ≤ mN → wkM V gk h dN (-1) S k = wkN V gk h dN S k := by
  intro k
  have h10 := hX.1.2.1.2
  induction k with
  | zero => intro _; rfl
  | succ k ih =>
    intro hk
    show wkB V gk h dN (-1) (wkM V gk h dN (-1) S k) k = wkS V gk h dN (wkN V gk h dN S k) k
    rw [← ih (by omega)]
    exact wkB_e hX (fun d hd => by rw [wkM_o V gk h dN (-1) S k (Or.inl (by omega))]; exact hS d hd) (wkM_mn hX.1 h (-1) hm k (by omega)) h (by omega)
theorem LkI.ice {S : ST} (hl : LkI S dN) {d : Nat} (hd : d < dN) : ∃ p, p ≤ 99 ∧ S d = nI p := by
  obtain ⟨p, q, r, h1, h2, h3, -⟩ := hl d hd
  exact ⟨p, by omega, h1⟩
theorem psB_e (hX : PX V cN dN mN gk) (gw : Option GWt) (gi : Option GIt) {S : ST} (hl : LkI S dN) (hm : Mn S cN mN) (h : Nat) (md : Int32) : psB V gw gi dN mN gk h md (-1) S = psS V gw gi dN mN gk h md S := by
  unfold psB psS
  have h10 := hX.1.2.1.2
  rw [wkM_e hX (fun d hd => (frS_lk h10 hl dN (Nat.le_refl _)).ice hd) (fun x hx => by rw [frS_hi _ _ _ _ _ _ _ h10 (show 50 ≤ 68 + x by omega)]; exact hm x hx) h mN (Nat.le_refl _)]
/-- what lasts over an hour -/
theorem psB_lk (hX : PX V cN dN mN gk) (gw : Option GWt) (gi : Option GIt) {S : ST} (hl : LkI S dN) (h : Nat) (md bar : Int32) : LkI (psB V gw gi dN mN gk h md bar S) dN := by
  have h10 := hX.1.2.1.2
  have q := frS_lk (V := V) (gi := gi) (dg := dgF gw h md) (mN := mN) (gk := gk) (h := h) h10 hl dN (Nat.le_refl _)
  have e : ∀ i, i < 68 → psB V gw gi dN mN gk h md bar S i = frS V gi (dgF gw h md) mN gk h S dN i := fun i hi => by
    unfold psB
    rw [va_ne _ _ (by omega), wkM_o _ _ _ _ _ _ _ (Or.inl hi)]
  intro j hj
  rw [e j (by omega), e (10 + j) (by omega), e (30 + j) (by omega), e (40 + j) (by omega)]
  exact q j hj
theorem psB_mn (hX : PX V cN dN mN gk) (gw : Option GWt) (gi : Option GIt) {S : ST} (hm : Mn S cN mN) (h : Nat) (md bar : Int32) : Mn (psB V gw gi dN mN gk h md bar S) cN mN := by
  have h10 := hX.1.2.1.2
  have h6 := hX.1.2.2.1.2
  intro x hx
  unfold psB
  rw [va_ne _ _ (by omega)]
  exact wkM_mn hX.1 h bar (fun x hx => by rw [frS_hi _ _ _ _ _ _ _ h10 (show 50 ≤ 68 + x by omega)]; exact hm x hx) mN (Nat.le_refl _) x hx
theorem psB_80 (V : VT) (gw : Option GWt) (gi : Option GIt) (dN mN gk h : Nat) (md bar : Int32) (S : ST) : psB V gw gi dN mN gk h md bar S 80 = nI (h + 1) := va_sm _ _ _
end C6q
