/-! ===== the reference: the turns of reads ===== -/
/-- a leaf, and its code -/
def LFc (T : ST) (b e k : Nat) (ice : Bool) (x : Int32) : Prop := (k = 2 ∧ x = 100 + dgA T b (e - b)) ∨ ∃ f, 1 ≤ f ∧ f ≤ fcN ice ∧ isW T b e k (fcW ice f) ∧ x = nI f
/-- it may begin a part -/
def PSt (T : ST) (b e k : Nat) (ice : Bool) : Prop := (∃ x, LFc T b e k ice x) ∨ isW T b e k 14 ∨ isS T b k 40
section P6
variable {G : GG} {σ : Hp} {m : Nat} {V : VT} {U : UT} {T : ST} {n p b e k c d : Nat} {ice : Bool} {Q : Option Value → Hp → Prop}
theorem fc_no {f : Nat} (h1 : 1 ≤ f) (h2 : f ≤ fcN ice) : ¬ wB (fcW ice f) = wB 14 := by
  have key : ∀ (ice : Bool) (f : Nat), f < 7 → 1 ≤ f → f ≤ fcN ice → ¬ wB (fcW ice f) = wB 14 := by decide
  exact key ice f (by cases ice <;> (simp [fcN] at h2; omega)) h1 h2
set_option maxRecDepth 100000 in
set_option maxHeartbeats 1000000 in
theorem rd_w65 (hM : MS σ m) (hH : HD T n ice p b e k c V U) (hd : d ≤ 5) {f0 : Nat} (hf6 : f0 ≤ 6) (hf : (1 ≤ f0 ∧ f0 ≤ fcN ice ∧ isW T b e k (fcW ice f0)) ∨ (f0 = 0 ∧ (isW T b e k 14 ∨ isS T b k 40 ∨ k = 2))) (kl : ∀ x : Int32, LFc T b e k ice x → d < 5 → ∀ (V2 : VT) (U2 : UT) (b2 e2 k2 : Nat) (l3 l4 l5 : Option Value), HD T n ice e b2 e2 k2 (c + 1) V2 U2 → FQ c V V2 → NU U U2 → V2 20 c = x → V2 21 = V 21 → V2 22 = V 22 → HT G mX10_reads 11 [some (.ref m), some (.int (nI (popO (V 21) d))), some (.int 0), l3, l4, l5] [] (sv σ m V2 U2) 2 Q)
    (ko : ∀ nt : Bool, (if nt then isW T b e k 14 else isS T b k 40) → d < 5 → ∀ (V2 : VT) (U2 : UT) (b2 e2 k2 : Nat) (l3 l4 l5 : Option Value), HD T n ice e b2 e2 k2 (c + 1) V2 U2 → FQ c V V2 → NU U U2 → V2 20 c = (if nt then 30 else 28) → V2 21 = va_up (V 21) (d + 1) (if nt then 1 else 2) → V2 22 = va_up (V 22) (d + 1) 0 → HT G mX10_reads 11 [some (.ref m), some (.int (nI (d + 1))), some (.int 1), l3, l4, l5] [] (sv σ m V2 U2) 2 Q)
    (kd : PSt T b e k ice → d = 5 → Q (some (.int 0)) (sv σ m (up2 V 0 9 (5 + 16 * nI b)) U)) : HT G mX10_reads 65 [some (.ref m), some (.int (nI d)), some (.int 1), some (.int (nI f0)), some (.int (b01 (isW T b e k 14))), some (.int (b01 (isS T b k 40)))] [] (sv σ m V U) 2 Q := by
  have D := dat dl_X10_reads
  have hk0 : k ≠ 0 := by
    rcases hf with ⟨_, _, q⟩ | ⟨_, q | q | q⟩
    · have := q.1; omega
    · have := q.1; omega
    · have := q.1; omega
    · omega
  have hge := hH.ge hk0
  have hp6 : PSt T b e k ice := by
    rcases hf with ⟨q1, q2, q⟩ | ⟨_, q | q | q⟩
    · exact Or.inl ⟨_, Or.inr ⟨f0, q1, q2, q, rfl⟩⟩
    · exact Or.inr (Or.inl q)
    · exact Or.inr (Or.inr q)
    · exact Or.inl ⟨_, Or.inl ⟨q, rfl⟩⟩
  refine ht_iload_n (D 36 rfl) rfl rfl ?_
  refine ht_iconst (v := 5) (D 37 rfl) (by decide) ?_
  refine ht_icmp_ne (tgt := 76) (D 38 rfl) (by decide) (fun hb67 => ?_) (fun hb67 => ?_)
  · skip
    have hd5 : d < 5 := by
      rcases Nat.lt_or_ge d 5 with q | q
      · exact q
      · exact absurd (by rw [show d = 5 by omega]; rfl) hb67
    by_cases hN : isW T b e k 14
    · skip
      refine ht_iload (D 43 rfl) rfl ?_
      refine ht_if_ne (tgt := 86) (D 44 rfl) (by decide) (fun hb78 => ?_) (fun hb78 => ?_)
      · skip
        refine ht_aload_n (D 47 rfl) rfl rfl ?_
        refine ht_iload (D 48 rfl) rfl ?_
        refine ht_if_eq (tgt := 97) (D 49 rfl) (by decide) (fun hb89 => ?_) (fun hb89 => ?_)
        · skip
          exact absurd hN (b01_eq hb89)
        · skip
          refine ht_bipush (v := 30) (D 50 rfl) (by decide) ?_
          refine ht_goto (tgt := 99) (D 51 rfl) (by decide) ?_
          refine kVX10_puts (As := [_]) cl_X10_216 (D 53 rfl) (sm_puts hM _ hH.2.2.2.2.1 (by omega)) hM.k0 rfl (Nat.le_of_ble_eq_true rfl) rfl (Nat.le_of_ble_eq_true rfl) (by omega) ?_
          rintro _ _ ⟨rfl, rfl⟩
          refine ht_iinc (v := nI (d + 1)) (D 54 rfl) rfl (nI_i1 _) (by decide) rfl ?_
          refine ht_aload_n (D 55 rfl) rfl rfl ?_
          refine gf_X10_71 rfl (D 56 rfl) hM.k0 hM.q21 ?_
          refine ht_iload_n (D 57 rfl) rfl rfl ?_
          refine ht_iload (D 58 rfl) rfl ?_
          refine ht_if_eq (tgt := 119) (D 59 rfl) (by decide) (fun hb112 => ?_) (fun hb112 => ?_)
          · skip
            exact absurd hN (b01_eq hb112)
          · skip
            refine ht_iconst (v := 1) (D 60 rfl) (by decide) ?_
            refine ht_goto (tgt := 120) (D 61 rfl) (by decide) ?_
            refine hm_ist (o := 21) (n := d + 1) (by decide) (D 63 rfl) hM.k21 hM.n21 (by first | rfl | exact nI_add _ _ | assumption) (by omega) (by decide) ?_
            refine ht_aload_n (D 64 rfl) rfl rfl ?_
            refine gf_X10_74 rfl (D 65 rfl) hM.k0 hM.q22 ?_
            refine ht_iload_n (D 66 rfl) rfl rfl ?_
            refine ht_iconst (v := 0) (D 67 rfl) (by decide) ?_
            refine hm_zst (o := 22) (n := d + 1) (by decide) (D 68 rfl) hM.k22 hM.n22 (by first | rfl | exact nI_add _ _ | assumption) (by omega) (by decide) rfl ?_
            refine ht_goto (tgt := 172) (D 69 rfl) (by decide) ?_
            refine ht_aload_n (D 92 rfl) rfl rfl ?_
            refine kVX10_nextToken (As := []) cl_X10_220 (D 93 rfl) (sm_nextToken hM (T := T) (n := n) (p := e) (by rw [up2_o _ _ (by decide), up2_o _ _ (by decide), up2_o _ _ (by decide), up2_o _ _ (by decide)]; exact hH.2.1) (by rw [up2_a _ _ (by decide), up2_a _ _ (by decide), up2_k _ _ (by decide), up2_a _ _ (by decide)]; exact hH.2.2.1) hH.2.2.2.2.2.2 (by rw [up2_a _ _ (by decide), up2_a _ _ (by decide), up2_k _ _ (by decide), up2_a _ _ (by decide)]; exact hH.1.2.2.1) hge.2.1) hM.k0 rfl (Nat.le_of_ble_eq_true rfl) rfl (Nat.le_of_ble_eq_true rfl) (by omega) ?_
            rintro _ _ ⟨rfl, V2, U2, b2, e2, k2, rfl, hnf, hnu, hrt⟩
            refine ht_goto (tgt := 11) (D 94 rfl) (by decide) ?_
            exact ko true hN (by omega) V2 U2 b2 e2 k2 _ _ _ (HD_nx hH (by rw [up2_o _ _ (by decide), up2_o _ _ (by decide), up2_o _ _ (by decide), up2_o _ _ (by decide)]) (by rw [up2_a _ _ (by decide), up2_a _ _ (by decide), up2_k _ _ (by decide), up2_a _ _ (by decide)]) (by rw [up2_a _ _ (by decide), up2_a _ _ (by decide), up2_k _ _ (by decide), up2_a _ _ (by decide)]) (by rw [up2_a _ _ (by decide), up2_a _ _ (by decide), up2_s]) hge.2.2.2 hnf hrt) (FQ_nf (FQ_2 (FQ_2 (FQ_0 (FQ_c (FQ_r c V) (Nat.le_refl _) (by omega) _) (by omega) _) (by omega) _ _) (by omega) _ _) hnf) hnu (by rw [hnf.1 20 (by decide), up2_a _ _ (by decide), up2_a _ _ (by decide), up2_a _ _ (by decide), up2_s] <;> rfl) (by rw [hnf.1 21 (by decide), up2_o _ _ (by decide), up2_row, up2_o _ _ (by decide), up2_o _ _ (by decide)] <;> rfl) (by rw [hnf.1 22 (by decide), up2_row, up2_o _ _ (by decide), up2_o _ _ (by decide), up2_o _ _ (by decide)] <;> rfl)
      · skip
        exact absurd hN (b01_eq hb78)
    · by_cases hO : isS T b k 40
      · skip
        refine ht_iload (D 43 rfl) rfl ?_
        refine ht_if_ne (tgt := 86) (D 44 rfl) (by decide) (fun hb78 => ?_) (fun hb78 => ?_)
        · skip
          exact absurd (b01_ne hb78) hN
        · skip
          refine ht_iload (D 45 rfl) rfl ?_
          refine ht_if_eq (tgt := 131) (D 46 rfl) (by decide) (fun hb83 => ?_) (fun hb83 => ?_)
          · skip
            exact absurd hO (b01_eq hb83)
          · skip
            refine ht_aload_n (D 47 rfl) rfl rfl ?_
            refine ht_iload (D 48 rfl) rfl ?_
            refine ht_if_eq (tgt := 97) (D 49 rfl) (by decide) (fun hb89 => ?_) (fun hb89 => ?_)
            · skip
              refine ht_bipush (v := 28) (D 52 rfl) (by decide) ?_
              refine kVX10_puts (As := [_]) cl_X10_216 (D 53 rfl) (sm_puts hM _ hH.2.2.2.2.1 (by omega)) hM.k0 rfl (Nat.le_of_ble_eq_true rfl) rfl (Nat.le_of_ble_eq_true rfl) (by omega) ?_
              rintro _ _ ⟨rfl, rfl⟩
              refine ht_iinc (v := nI (d + 1)) (D 54 rfl) rfl (nI_i1 _) (by decide) rfl ?_
              refine ht_aload_n (D 55 rfl) rfl rfl ?_
              refine gf_X10_71 rfl (D 56 rfl) hM.k0 hM.q21 ?_
              refine ht_iload_n (D 57 rfl) rfl rfl ?_
              refine ht_iload (D 58 rfl) rfl ?_
              refine ht_if_eq (tgt := 119) (D 59 rfl) (by decide) (fun hb112 => ?_) (fun hb112 => ?_)
              · skip
                refine ht_iconst (v := 2) (D 62 rfl) (by decide) ?_
                refine hm_ist (o := 21) (n := d + 1) (by decide) (D 63 rfl) hM.k21 hM.n21 (by first | rfl | exact nI_add _ _ | assumption) (by omega) (by decide) ?_
                refine ht_aload_n (D 64 rfl) rfl rfl ?_
                refine gf_X10_74 rfl (D 65 rfl) hM.k0 hM.q22 ?_
                refine ht_iload_n (D 66 rfl) rfl rfl ?_
                refine ht_iconst (v := 0) (D 67 rfl) (by decide) ?_
                refine hm_zst (o := 22) (n := d + 1) (by decide) (D 68 rfl) hM.k22 hM.n22 (by first | rfl | exact nI_add _ _ | assumption) (by omega) (by decide) rfl ?_
                refine ht_goto (tgt := 172) (D 69 rfl) (by decide) ?_
                refine ht_aload_n (D 92 rfl) rfl rfl ?_
                refine kVX10_nextToken (As := []) cl_X10_220 (D 93 rfl) (sm_nextToken hM (T := T) (n := n) (p := e) (by rw [up2_o _ _ (by decide), up2_o _ _ (by decide), up2_o _ _ (by decide), up2_o _ _ (by decide)]; exact hH.2.1) (by rw [up2_a _ _ (by decide), up2_a _ _ (by decide), up2_k _ _ (by decide), up2_a _ _ (by decide)]; exact hH.2.2.1) hH.2.2.2.2.2.2 (by rw [up2_a _ _ (by decide), up2_a _ _ (by decide), up2_k _ _ (by decide), up2_a _ _ (by decide)]; exact hH.1.2.2.1) hge.2.1) hM.k0 rfl (Nat.le_of_ble_eq_true rfl) rfl (Nat.le_of_ble_eq_true rfl) (by omega) ?_
                rintro _ _ ⟨rfl, V2, U2, b2, e2, k2, rfl, hnf, hnu, hrt⟩
                refine ht_goto (tgt := 11) (D 94 rfl) (by decide) ?_
                exact ko false hO (by omega) V2 U2 b2 e2 k2 _ _ _ (HD_nx hH (by rw [up2_o _ _ (by decide), up2_o _ _ (by decide), up2_o _ _ (by decide), up2_o _ _ (by decide)]) (by rw [up2_a _ _ (by decide), up2_a _ _ (by decide), up2_k _ _ (by decide), up2_a _ _ (by decide)]) (by rw [up2_a _ _ (by decide), up2_a _ _ (by decide), up2_k _ _ (by decide), up2_a _ _ (by decide)]) (by rw [up2_a _ _ (by decide), up2_a _ _ (by decide), up2_s]) hge.2.2.2 hnf hrt) (FQ_nf (FQ_2 (FQ_2 (FQ_0 (FQ_c (FQ_r c V) (Nat.le_refl _) (by omega) _) (by omega) _) (by omega) _ _) (by omega) _ _) hnf) hnu (by rw [hnf.1 20 (by decide), up2_a _ _ (by decide), up2_a _ _ (by decide), up2_a _ _ (by decide), up2_s] <;> rfl) (by rw [hnf.1 21 (by decide), up2_o _ _ (by decide), up2_row, up2_o _ _ (by decide), up2_o _ _ (by decide)] <;> rfl) (by rw [hnf.1 22 (by decide), up2_row, up2_o _ _ (by decide), up2_o _ _ (by decide), up2_o _ _ (by decide)] <;> rfl)
              · skip
                exact absurd (b01_ne hb112) hN
            · skip
              exact absurd (b01_ne hb89) hN
      · skip
        refine ht_iload (D 43 rfl) rfl ?_
        refine ht_if_ne (tgt := 86) (D 44 rfl) (by decide) (fun hb78 => ?_) (fun hb78 => ?_)
        · skip
          exact absurd (b01_ne hb78) hN
        · skip
          refine ht_iload (D 45 rfl) rfl ?_
          refine ht_if_eq (tgt := 131) (D 46 rfl) (by decide) (fun hb83 => ?_) (fun hb83 => ?_)
          · skip
            refine ht_aload_n (D 70 rfl) rfl rfl ?_
            refine ht_iload_n (D 71 rfl) rfl rfl ?_
            refine ht_if_le (tgt := 140) (D 72 rfl) (by decide) (fun hb133 => ?_) (fun hb133 => ?_)
            · skip
              have hf0 : f0 = 0 := by have h9 := (nI_leI (a := f0) (b := 0) (by omega) (by omega)).mp hb133; omega
              have hlf : k = 2 := by
                rcases hf with ⟨q1, _, _⟩ | ⟨_, q | q | q⟩
                · omega
                · exact absurd q hN
                · exact absurd q hO
                · exact q
              have hLF : LFc T b e k ice (100 + V 0 8) := Or.inl ⟨hlf, by rw [hH.1.2.2.2.2.2 hlf]⟩
              refine ht_bipush (v := 100) (D 75 rfl) (by decide) ?_
              refine ht_aload_n (D 76 rfl) rfl rfl ?_
              refine gm_X10_157 hM rfl (D 77 rfl) ?_
              refine ht_iadd (D 78 rfl) ?_
              refine kVX10_puts (As := [_]) cl_X10_216 (D 79 rfl) (sm_puts hM _ hH.2.2.2.2.1 (by omega)) hM.k0 rfl (Nat.le_of_ble_eq_true rfl) rfl (Nat.le_of_ble_eq_true rfl) (by omega) ?_
              rintro _ _ ⟨rfl, rfl⟩
              refine ht_iconst (v := 0) (D 80 rfl) (by decide) ?_
              refine ht_istore_n (D 81 rfl) rfl (by decide) rfl ?_
              refine rd_pop1 hM (by omega) ?_
              rw [(show up2 (up2 V 20 c _) 0 29 _ 21 = V 21 by rw [up2_o _ _ (by decide), up2_o _ _ (by decide)])]
              refine ht_aload_n (D 92 rfl) rfl rfl ?_
              refine kVX10_nextToken (As := []) cl_X10_220 (D 93 rfl) (sm_nextToken hM (T := T) (n := n) (p := e) (by rw [up2_o _ _ (by decide), up2_o _ _ (by decide)]; exact hH.2.1) (by rw [up2_k _ _ (by decide), up2_a _ _ (by decide)]; exact hH.2.2.1) hH.2.2.2.2.2.2 (by rw [up2_k _ _ (by decide), up2_a _ _ (by decide)]; exact hH.1.2.2.1) hge.2.1) hM.k0 rfl (Nat.le_of_ble_eq_true rfl) rfl (Nat.le_of_ble_eq_true rfl) (by omega) ?_
              rintro _ _ ⟨rfl, V2, U2, b2, e2, k2, rfl, hnf, hnu, hrt⟩
              refine ht_goto (tgt := 11) (D 94 rfl) (by decide) ?_
              exact kl _ hLF (by omega) V2 U2 b2 e2 k2 _ _ _ (HD_nx hH (by rw [up2_o _ _ (by decide), up2_o _ _ (by decide)]) (by rw [up2_k _ _ (by decide), up2_a _ _ (by decide)]) (by rw [up2_k _ _ (by decide), up2_a _ _ (by decide)]) (by rw [up2_s]) hge.2.2.2 hnf hrt) (FQ_nf (FQ_0 (FQ_c (FQ_r c V) (Nat.le_refl _) (by omega) _) (by omega) _) hnf) hnu (by rw [hnf.1 20 (by decide), up2_a _ _ (by decide), up2_s] <;> rfl) (by rw [hnf.1 21 (by decide), up2_o _ _ (by decide), up2_o _ _ (by decide)] <;> rfl) (by rw [hnf.1 22 (by decide), up2_o _ _ (by decide), up2_o _ _ (by decide)] <;> rfl)
            · skip
              have hf0 : 1 ≤ f0 := by have h9 := mt (nI_leI (a := f0) (b := 0) (by omega) (by omega)).mpr hb133; omega
              have hLF : LFc T b e k ice (nI f0) := by
                rcases hf with ⟨q1, q2, q⟩ | ⟨q, _⟩
                · exact Or.inr ⟨f0, q1, q2, q, rfl⟩
                · omega
              refine ht_iload_n (D 73 rfl) rfl rfl ?_
              refine ht_goto (tgt := 147) (D 74 rfl) (by decide) ?_
              refine kVX10_puts (As := [_]) cl_X10_216 (D 79 rfl) (sm_puts hM _ hH.2.2.2.2.1 (by omega)) hM.k0 rfl (Nat.le_of_ble_eq_true rfl) rfl (Nat.le_of_ble_eq_true rfl) (by omega) ?_
              rintro _ _ ⟨rfl, rfl⟩
              refine ht_iconst (v := 0) (D 80 rfl) (by decide) ?_
              refine ht_istore_n (D 81 rfl) rfl (by decide) rfl ?_
              refine rd_pop1 hM (by omega) ?_
              rw [(show up2 (up2 V 20 c _) 0 29 _ 21 = V 21 by rw [up2_o _ _ (by decide), up2_o _ _ (by decide)])]
              refine ht_aload_n (D 92 rfl) rfl rfl ?_
              refine kVX10_nextToken (As := []) cl_X10_220 (D 93 rfl) (sm_nextToken hM (T := T) (n := n) (p := e) (by rw [up2_o _ _ (by decide), up2_o _ _ (by decide)]; exact hH.2.1) (by rw [up2_k _ _ (by decide), up2_a _ _ (by decide)]; exact hH.2.2.1) hH.2.2.2.2.2.2 (by rw [up2_k _ _ (by decide), up2_a _ _ (by decide)]; exact hH.1.2.2.1) hge.2.1) hM.k0 rfl (Nat.le_of_ble_eq_true rfl) rfl (Nat.le_of_ble_eq_true rfl) (by omega) ?_
              rintro _ _ ⟨rfl, V2, U2, b2, e2, k2, rfl, hnf, hnu, hrt⟩
              refine ht_goto (tgt := 11) (D 94 rfl) (by decide) ?_
              exact kl _ hLF (by omega) V2 U2 b2 e2 k2 _ _ _ (HD_nx hH (by rw [up2_o _ _ (by decide), up2_o _ _ (by decide)]) (by rw [up2_k _ _ (by decide), up2_a _ _ (by decide)]) (by rw [up2_k _ _ (by decide), up2_a _ _ (by decide)]) (by rw [up2_s]) hge.2.2.2 hnf hrt) (FQ_nf (FQ_0 (FQ_c (FQ_r c V) (Nat.le_refl _) (by omega) _) (by omega) _) hnf) hnu (by rw [hnf.1 20 (by decide), up2_a _ _ (by decide), up2_s] <;> rfl) (by rw [hnf.1 21 (by decide), up2_o _ _ (by decide), up2_o _ _ (by decide)] <;> rfl) (by rw [hnf.1 22 (by decide), up2_o _ _ (by decide), up2_o _ _ (by decide)] <;> rfl)
          · skip
            exact absurd (b01_ne hb83) hO
  · skip
    have hd5 : d = 5 := (nI_eq (a := d) (b := 5) (by omega) (by omega)).mp hb67
    refine ht_aload_n (D 39 rfl) rfl rfl ?_
    refine ht_iconst (v := 5) (D 40 rfl) (by decide) ?_
    refine kVX10_fails (As := [_]) cl_X10_213 (D 41 rfl) (sm_fails hM 5) hM.k0 rfl (Nat.le_of_ble_eq_true rfl) rfl (Nat.le_of_ble_eq_true rfl) (by omega) ?_
    rintro _ _ ⟨rfl, rfl⟩
    refine ht_iret (D 42 rfl) rfl rfl ?_
    rw [hH.1.2.1]
    exact kd hp6 (by omega)
set_option maxRecDepth 100000 in
set_option maxHeartbeats 1000000 in
theorem rd_want (hM : MS σ m) (hH : HD T n ice p b e k c V U) (hd : d ≤ 5) {l3 l4 l5 : Option Value} (kl : ∀ x : Int32, LFc T b e k ice x → d < 5 → ∀ (V2 : VT) (U2 : UT) (b2 e2 k2 : Nat) (l3 l4 l5 : Option Value), HD T n ice e b2 e2 k2 (c + 1) V2 U2 → FQ c V V2 → NU U U2 → V2 20 c = x → V2 21 = V 21 → V2 22 = V 22 → HT G mX10_reads 11 [some (.ref m), some (.int (nI (popO (V 21) d))), some (.int 0), l3, l4, l5] [] (sv σ m V2 U2) 2 Q)
    (ko : ∀ nt : Bool, (if nt then isW T b e k 14 else isS T b k 40) → d < 5 → ∀ (V2 : VT) (U2 : UT) (b2 e2 k2 : Nat) (l3 l4 l5 : Option Value), HD T n ice e b2 e2 k2 (c + 1) V2 U2 → FQ c V V2 → NU U U2 → V2 20 c = (if nt then 30 else 28) → V2 21 = va_up (V 21) (d + 1) (if nt then 1 else 2) → V2 22 = va_up (V 22) (d + 1) 0 → HT G mX10_reads 11 [some (.ref m), some (.int (nI (d + 1))), some (.int 1), l3, l4, l5] [] (sv σ m V2 U2) 2 Q)
    (kb : ¬ PSt T b e k ice → Q (some (.int 0)) (sv σ m (up2 V 0 9 (1 + 16 * nI b)) U))
    (kd : PSt T b e k ice → d = 5 → Q (some (.int 0)) (sv σ m (up2 V 0 9 (5 + 16 * nI b)) U)) : HT G mX10_reads 11 [some (.ref m), some (.int (nI d)), some (.int 1), l3, l4, l5] [] (sv σ m V U) 2 Q := by
  have D := dat dl_X10_reads
  refine ht_iload_n (D 9 rfl) rfl rfl ?_
  refine ht_if_eq (tgt := 179) (D 10 rfl) (by decide) (fun hb12 => ?_) (fun hb12 => ?_)
  · skip
    exact absurd hb12 (by decide)
  · skip
    refine ht_aload_n (D 11 rfl) rfl rfl ?_
    refine kVX10_fact (As := []) cl_X10_199 (D 12 rfl) (sm_fact hM hH.2.2.2.1) hM.k0 rfl (Nat.le_of_ble_eq_true rfl) rfl (Nat.le_of_ble_eq_true rfl) (by omega) ?_
    rintro _ _ ⟨⟨f, hf1, hf2, rfl, hf3, hf4⟩ | ⟨rfl, hnf⟩, rfl⟩
    · have hwd : isW T b e k (fcW ice f) := (hH.w _).mp ⟨hf3, hf4⟩
      have hf6 : f ≤ 6 := by cases ice <;> (simp [fcN] at hf2; omega)
      refine ht_istore_n (D 13 rfl) rfl (by decide) rfl ?_
      refine ht_aload_n (D 14 rfl) rfl rfl ?_
      refine ht_ldc2 kl_X10_203 (D 15 rfl) ?_
      refine kVX10_isWord (As := [_]) cl_X10_205 (D 16 rfl) (sm_isWd hM hH 14) hM.k0 rfl (Nat.le_of_ble_eq_true rfl) rfl (Nat.le_of_ble_eq_true rfl) (by omega) ?_
      rintro _ _ ⟨rfl, rfl⟩
      refine ht_istore (D 17 rfl) (by decide) rfl ?_
      refine ht_aload_n (D 18 rfl) rfl rfl ?_
      refine ht_bipush (v := 40) (D 19 rfl) (by decide) ?_
      refine kVX10_isSign (As := [_]) cl_X10_209 (D 20 rfl) (sm_isSg hM hH 40) hM.k0 rfl (Nat.le_of_ble_eq_true rfl) rfl (Nat.le_of_ble_eq_true rfl) (by omega) ?_
      rintro _ _ ⟨rfl, rfl⟩
      refine ht_istore (D 21 rfl) (by decide) rfl ?_
      refine ht_iload_n (D 22 rfl) rfl rfl ?_
      refine ht_if_ne (tgt := 65) (D 23 rfl) (by decide) (fun hb38 => ?_) (fun hb38 => ?_)
      · skip
        exact rd_w65 hM hH hd hf6 (Or.inl ⟨hf1, hf2, hwd⟩) kl ko kd
      · skip
        exact absurd (nI_z hb38 (by omega)) (by omega)
    · skip
      refine ht_istore_n (D 13 rfl) rfl (by decide) rfl ?_
      refine ht_aload_n (D 14 rfl) rfl rfl ?_
      refine ht_ldc2 kl_X10_203 (D 15 rfl) ?_
      refine kVX10_isWord (As := [_]) cl_X10_205 (D 16 rfl) (sm_isWd hM hH 14) hM.k0 rfl (Nat.le_of_ble_eq_true rfl) rfl (Nat.le_of_ble_eq_true rfl) (by omega) ?_
      rintro _ _ ⟨rfl, rfl⟩
      refine ht_istore (D 17 rfl) (by decide) rfl ?_
      refine ht_aload_n (D 18 rfl) rfl rfl ?_
      refine ht_bipush (v := 40) (D 19 rfl) (by decide) ?_
      refine kVX10_isSign (As := [_]) cl_X10_209 (D 20 rfl) (sm_isSg hM hH 40) hM.k0 rfl (Nat.le_of_ble_eq_true rfl) rfl (Nat.le_of_ble_eq_true rfl) (by omega) ?_
      rintro _ _ ⟨rfl, rfl⟩
      refine ht_istore (D 21 rfl) (by decide) rfl ?_
      refine ht_iload_n (D 22 rfl) rfl rfl ?_
      refine ht_if_ne (tgt := 65) (D 23 rfl) (by decide) (fun hb38 => absurd (by decide) hb38) (fun hb38 => ?_)
      refine ht_iload (D 24 rfl) rfl ?_
      refine ht_if_ne (tgt := 65) (D 25 rfl) (by decide) (fun hb43 => ?_) (fun hb43 => ?_)
      · skip
        have hor : isW T b e k 14 ∨ isS T b k 40 ∨ k = 2 := Or.inl (b01_ne hb43)
        exact rd_w65 hM hH hd (f0 := 0) (by omega) (Or.inr ⟨rfl, hor⟩) kl ko kd
      · skip
        refine ht_iload (D 26 rfl) rfl ?_
        refine ht_if_ne (tgt := 65) (D 27 rfl) (by decide) (fun hb48 => ?_) (fun hb48 => ?_)
        · skip
          have hor : isW T b e k 14 ∨ isS T b k 40 ∨ k = 2 := Or.inr (Or.inl (b01_ne hb48))
          exact rd_w65 hM hH hd (f0 := 0) (by omega) (Or.inr ⟨rfl, hor⟩) kl ko kd
        · skip
          refine ht_aload_n (D 28 rfl) rfl rfl ?_
          refine gm_X10_160 hM rfl (D 29 rfl) ?_
          refine ht_iconst (v := 2) (D 30 rfl) (by decide) ?_
          refine ht_icmp_eq (tgt := 65) (D 31 rfl) (by decide) (fun hb56 => ?_) (fun hb56 => ?_)
          · skip
            have hor : isW T b e k 14 ∨ isS T b k 40 ∨ k = 2 := Or.inr (Or.inr ((hH.k1 (j := 2) (by decide)).mp hb56))
            exact rd_w65 hM hH hd (f0 := 0) (by omega) (Or.inr ⟨rfl, hor⟩) kl ko kd
          · skip
            have hnp : ¬ PSt T b e k ice := by
              rintro (⟨x, q | ⟨f, q1, q2, q3, _⟩⟩ | q | q)
              · exact hb56 ((hH.k1 (j := 2) (by decide)).mpr q.1)
              · exact hnf f q1 q2 ((hH.w _).mpr q3).1 ((hH.w _).mpr q3).2
              · exact b01_eq hb43 q
              · exact b01_eq hb48 q
            refine ht_aload_n (D 32 rfl) rfl rfl ?_
            refine ht_iconst (v := 1) (D 33 rfl) (by decide) ?_
            refine kVX10_fails (As := [_]) cl_X10_213 (D 34 rfl) (sm_fails hM 1) hM.k0 rfl (Nat.le_of_ble_eq_true rfl) rfl (Nat.le_of_ble_eq_true rfl) (by omega) ?_
            rintro _ _ ⟨rfl, rfl⟩
            refine ht_iret (D 35 rfl) rfl rfl ?_
            rw [hH.1.2.1]
            exact kb hnp
end P6
