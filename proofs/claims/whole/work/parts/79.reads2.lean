/-! ===== the reference: the turns of reads behind a part ===== -/
section P7
variable {G : GG} {σ : Hp} {m : Nat} {V : VT} {U : UT} {T : ST} {n p b e k c d : Nat} {ice : Bool} {Q : Option Value → Hp → Prop}
set_option maxRecDepth 100000 in
set_option maxHeartbeats 1000000 in
theorem rd_n304 (hM : MS σ m) (hH : HD T n ice p b e k c V U) (hd : d ≤ 5) {l3 l4 l5 : Option Value}
    (kao : ∀ op : Nat, (op = 26 ∧ isW T b e k 15) ∨ (op = 27 ∧ isW T b e k 16) → ∀ (V2 : VT) (U2 : UT) (b2 e2 k2 : Nat) (l3 l4 l5 : Option Value), HD T n ice e b2 e2 k2 (c + 1) V2 U2 → FQ c V V2 → NU U U2 → V2 20 c = nI op → V2 21 = V 21 → V2 22 = va_up (V 22) d 0 → HT G mX10_reads 11 [some (.ref m), some (.int (nI d)), some (.int 1), l3, l4, l5] [] (sv σ m V2 U2) 2 Q)
    (kcl : isS T b k 41 → 0 < d → ∀ (V2 : VT) (U2 : UT) (b2 e2 k2 : Nat) (l3 l4 l5 : Option Value), HD T n ice e b2 e2 k2 (c + 1) V2 U2 → FQ c V V2 → NU U U2 → V2 20 c = 29 → V2 21 = V 21 → V2 22 = V 22 → HT G mX10_reads 11 [some (.ref m), some (.int (nI (popO (V 21) (d - 1)))), some (.int 0), l3, l4, l5] [] (sv σ m V2 U2) 2 Q)
    (ke : d = 0 → isS T b k 59 → ∀ (V2 : VT) (U2 : UT) (b2 e2 k2 : Nat), HD T n ice e b2 e2 k2 c V2 U2 → FQ c V V2 → NU U U2 → V2 20 = V 20 → Q (some (.int 1)) (sv σ m V2 U2))
    (kf : ¬ isW T b e k 15 → ¬ isW T b e k 16 → ¬ (isS T b k 41 ∧ 0 < d) → ¬ (d = 0 ∧ isS T b k 59) → Q (some (.int 0)) (sv σ m (up2 V 0 9 (1 + 16 * nI b)) U)) : HT G mX10_reads 304 [some (.ref m), some (.int (nI d)), some (.int 0), l3, l4, l5] [] (sv σ m V U) 2 Q := by
  have D := dat dl_X10_reads
  by_cases hA : isW T b e k 15
  · have hge := hH.ge (show k ≠ 0 by have := hA.1; omega)
    refine ht_aload_n (D 155 rfl) rfl rfl ?_
    refine ht_ldc2 kl_X10_223 (D 156 rfl) ?_
    refine kVX10_isWord (As := [_]) cl_X10_205 (D 157 rfl) (sm_isWd hM hH 15) hM.k0 rfl (Nat.le_of_ble_eq_true rfl) rfl (Nat.le_of_ble_eq_true rfl) (by omega) ?_
    rintro _ _ ⟨rfl, rfl⟩
    refine ht_if_ne (tgt := 324) (D 158 rfl) (by decide) (fun hb311 => ?_) (fun hb311 => ?_)
    · skip
      refine ht_aload_n (D 163 rfl) rfl rfl ?_
      refine ht_aload_n (D 164 rfl) rfl rfl ?_
      refine ht_ldc2 kl_X10_223 (D 165 rfl) ?_
      refine kVX10_isWord (As := [_]) cl_X10_205 (D 166 rfl) (sm_isWd hM hH 15) hM.k0 rfl (Nat.le_of_ble_eq_true rfl) rfl (Nat.le_of_ble_eq_true rfl) (by omega) ?_
      rintro _ _ ⟨rfl, rfl⟩
      refine ht_if_eq (tgt := 340) (D 167 rfl) (by decide) (fun hb332 => ?_) (fun hb332 => ?_)
      · skip
        exact absurd hA (b01_eq hb332)
      · skip
        refine ht_bipush (v := 26) (D 168 rfl) (by decide) ?_
        refine ht_goto (tgt := 342) (D 169 rfl) (by decide) ?_
        refine kVX10_puts (As := [_]) cl_X10_216 (D 171 rfl) (sm_puts hM _ hH.2.2.2.2.1 (by omega)) hM.k0 rfl (Nat.le_of_ble_eq_true rfl) rfl (Nat.le_of_ble_eq_true rfl) (by omega) ?_
        rintro _ _ ⟨rfl, rfl⟩
        refine ht_aload_n (D 172 rfl) rfl rfl ?_
        refine gf_X10_74 rfl (D 173 rfl) hM.k0 hM.q22 ?_
        refine ht_iload_n (D 174 rfl) rfl rfl ?_
        refine ht_iconst (v := 0) (D 175 rfl) (by decide) ?_
        refine hm_zst (o := 22) (n := d) (by decide) (D 176 rfl) hM.k22 hM.n22 (by first | rfl | exact nI_add _ _ | assumption) (by omega) (by decide) rfl ?_
        refine ht_iconst (v := 1) (D 177 rfl) (by decide) ?_
        refine ht_istore_n (D 178 rfl) rfl (by decide) rfl ?_
        refine ht_goto (tgt := 424) (D 179 rfl) (by decide) ?_
        refine ht_aload_n (D 214 rfl) rfl rfl ?_
        refine kVX10_nextToken (As := []) cl_X10_220 (D 215 rfl) (sm_nextToken hM (T := T) (n := n) (p := e) (by rw [up2_o _ _ (by decide), up2_o _ _ (by decide), up2_o _ _ (by decide)]; exact hH.2.1) (by rw [up2_a _ _ (by decide), up2_k _ _ (by decide), up2_a _ _ (by decide)]; exact hH.2.2.1) hH.2.2.2.2.2.2 (by rw [up2_a _ _ (by decide), up2_k _ _ (by decide), up2_a _ _ (by decide)]; exact hH.1.2.2.1) hge.2.1) hM.k0 rfl (Nat.le_of_ble_eq_true rfl) rfl (Nat.le_of_ble_eq_true rfl) (by omega) ?_
        rintro _ _ ⟨rfl, V2, U2, b2, e2, k2, rfl, hnf, hnu, hrt⟩
        refine ht_goto (tgt := 11) (D 216 rfl) (by decide) ?_
        exact kao 26 (Or.inl ⟨rfl, hA⟩) V2 U2 b2 e2 k2 _ _ _ (HD_nx hH (by rw [up2_o _ _ (by decide), up2_o _ _ (by decide), up2_o _ _ (by decide)]) (by rw [up2_a _ _ (by decide), up2_k _ _ (by decide), up2_a _ _ (by decide)]) (by rw [up2_a _ _ (by decide), up2_k _ _ (by decide), up2_a _ _ (by decide)]) (by rw [up2_a _ _ (by decide), up2_s]) hge.2.2.2 hnf hrt) (FQ_nf (FQ_2 (FQ_0 (FQ_c (FQ_r c V) (Nat.le_refl _) (by omega) _) (by omega) _) (by omega) _ _) hnf) hnu (by rw [hnf.1 20 (by decide), up2_a _ _ (by decide), up2_a _ _ (by decide), up2_s] <;> rfl) (by rw [hnf.1 21 (by decide), up2_o _ _ (by decide), up2_o _ _ (by decide), up2_o _ _ (by decide)] <;> rfl) (by rw [hnf.1 22 (by decide), up2_row, up2_o _ _ (by decide), up2_o _ _ (by decide)] <;> rfl)
    · skip
      exact absurd hA (b01_eq hb311)
  · by_cases hO : isW T b e k 16
    · have hge := hH.ge (show k ≠ 0 by have := hO.1; omega)
      refine ht_aload_n (D 155 rfl) rfl rfl ?_
      refine ht_ldc2 kl_X10_223 (D 156 rfl) ?_
      refine kVX10_isWord (As := [_]) cl_X10_205 (D 157 rfl) (sm_isWd hM hH 15) hM.k0 rfl (Nat.le_of_ble_eq_true rfl) rfl (Nat.le_of_ble_eq_true rfl) (by omega) ?_
      rintro _ _ ⟨rfl, rfl⟩
      refine ht_if_ne (tgt := 324) (D 158 rfl) (by decide) (fun hb311 => ?_) (fun hb311 => ?_)
      · skip
        exact absurd (b01_ne hb311) hA
      · skip
        refine ht_aload_n (D 159 rfl) rfl rfl ?_
        refine ht_ldc2 kl_X10_225 (D 160 rfl) ?_
        refine kVX10_isWord (As := [_]) cl_X10_205 (D 161 rfl) (sm_isWd hM hH 16) hM.k0 rfl (Nat.le_of_ble_eq_true rfl) rfl (Nat.le_of_ble_eq_true rfl) (by omega) ?_
        rintro _ _ ⟨rfl, rfl⟩
        refine ht_if_eq (tgt := 357) (D 162 rfl) (by decide) (fun hb321 => ?_) (fun hb321 => ?_)
        · skip
          exact absurd hO (b01_eq hb321)
        · skip
          refine ht_aload_n (D 163 rfl) rfl rfl ?_
          refine ht_aload_n (D 164 rfl) rfl rfl ?_
          refine ht_ldc2 kl_X10_223 (D 165 rfl) ?_
          refine kVX10_isWord (As := [_]) cl_X10_205 (D 166 rfl) (sm_isWd hM hH 15) hM.k0 rfl (Nat.le_of_ble_eq_true rfl) rfl (Nat.le_of_ble_eq_true rfl) (by omega) ?_
          rintro _ _ ⟨rfl, rfl⟩
          refine ht_if_eq (tgt := 340) (D 167 rfl) (by decide) (fun hb332 => ?_) (fun hb332 => ?_)
          · skip
            refine ht_bipush (v := 27) (D 170 rfl) (by decide) ?_
            refine kVX10_puts (As := [_]) cl_X10_216 (D 171 rfl) (sm_puts hM _ hH.2.2.2.2.1 (by omega)) hM.k0 rfl (Nat.le_of_ble_eq_true rfl) rfl (Nat.le_of_ble_eq_true rfl) (by omega) ?_
            rintro _ _ ⟨rfl, rfl⟩
            refine ht_aload_n (D 172 rfl) rfl rfl ?_
            refine gf_X10_74 rfl (D 173 rfl) hM.k0 hM.q22 ?_
            refine ht_iload_n (D 174 rfl) rfl rfl ?_
            refine ht_iconst (v := 0) (D 175 rfl) (by decide) ?_
            refine hm_zst (o := 22) (n := d) (by decide) (D 176 rfl) hM.k22 hM.n22 (by first | rfl | exact nI_add _ _ | assumption) (by omega) (by decide) rfl ?_
            refine ht_iconst (v := 1) (D 177 rfl) (by decide) ?_
            refine ht_istore_n (D 178 rfl) rfl (by decide) rfl ?_
            refine ht_goto (tgt := 424) (D 179 rfl) (by decide) ?_
            refine ht_aload_n (D 214 rfl) rfl rfl ?_
            refine kVX10_nextToken (As := []) cl_X10_220 (D 215 rfl) (sm_nextToken hM (T := T) (n := n) (p := e) (by rw [up2_o _ _ (by decide), up2_o _ _ (by decide), up2_o _ _ (by decide)]; exact hH.2.1) (by rw [up2_a _ _ (by decide), up2_k _ _ (by decide), up2_a _ _ (by decide)]; exact hH.2.2.1) hH.2.2.2.2.2.2 (by rw [up2_a _ _ (by decide), up2_k _ _ (by decide), up2_a _ _ (by decide)]; exact hH.1.2.2.1) hge.2.1) hM.k0 rfl (Nat.le_of_ble_eq_true rfl) rfl (Nat.le_of_ble_eq_true rfl) (by omega) ?_
            rintro _ _ ⟨rfl, V2, U2, b2, e2, k2, rfl, hnf, hnu, hrt⟩
            refine ht_goto (tgt := 11) (D 216 rfl) (by decide) ?_
            exact kao 27 (Or.inr ⟨rfl, hO⟩) V2 U2 b2 e2 k2 _ _ _ (HD_nx hH (by rw [up2_o _ _ (by decide), up2_o _ _ (by decide), up2_o _ _ (by decide)]) (by rw [up2_a _ _ (by decide), up2_k _ _ (by decide), up2_a _ _ (by decide)]) (by rw [up2_a _ _ (by decide), up2_k _ _ (by decide), up2_a _ _ (by decide)]) (by rw [up2_a _ _ (by decide), up2_s]) hge.2.2.2 hnf hrt) (FQ_nf (FQ_2 (FQ_0 (FQ_c (FQ_r c V) (Nat.le_refl _) (by omega) _) (by omega) _) (by omega) _ _) hnf) hnu (by rw [hnf.1 20 (by decide), up2_a _ _ (by decide), up2_a _ _ (by decide), up2_s] <;> rfl) (by rw [hnf.1 21 (by decide), up2_o _ _ (by decide), up2_o _ _ (by decide), up2_o _ _ (by decide)] <;> rfl) (by rw [hnf.1 22 (by decide), up2_row, up2_o _ _ (by decide), up2_o _ _ (by decide)] <;> rfl)
          · skip
            exact absurd (b01_ne hb332) hA
    · by_cases hC : isS T b k 41 ∧ 0 < d
      · have hge := hH.ge (show k ≠ 0 by have := hC.1.1; omega)
        refine ht_aload_n (D 155 rfl) rfl rfl ?_
        refine ht_ldc2 kl_X10_223 (D 156 rfl) ?_
        refine kVX10_isWord (As := [_]) cl_X10_205 (D 157 rfl) (sm_isWd hM hH 15) hM.k0 rfl (Nat.le_of_ble_eq_true rfl) rfl (Nat.le_of_ble_eq_true rfl) (by omega) ?_
        rintro _ _ ⟨rfl, rfl⟩
        refine ht_if_ne (tgt := 324) (D 158 rfl) (by decide) (fun hb311 => ?_) (fun hb311 => ?_)
        · skip
          exact absurd (b01_ne hb311) hA
        · skip
          refine ht_aload_n (D 159 rfl) rfl rfl ?_
          refine ht_ldc2 kl_X10_225 (D 160 rfl) ?_
          refine kVX10_isWord (As := [_]) cl_X10_205 (D 161 rfl) (sm_isWd hM hH 16) hM.k0 rfl (Nat.le_of_ble_eq_true rfl) rfl (Nat.le_of_ble_eq_true rfl) (by omega) ?_
          rintro _ _ ⟨rfl, rfl⟩
          refine ht_if_eq (tgt := 357) (D 162 rfl) (by decide) (fun hb321 => ?_) (fun hb321 => ?_)
          · skip
            refine ht_aload_n (D 180 rfl) rfl rfl ?_
            refine ht_bipush (v := 41) (D 181 rfl) (by decide) ?_
            refine kVX10_isSign (As := [_]) cl_X10_209 (D 182 rfl) (sm_isSg hM hH 41) hM.k0 rfl (Nat.le_of_ble_eq_true rfl) rfl (Nat.le_of_ble_eq_true rfl) (by omega) ?_
            rintro _ _ ⟨rfl, rfl⟩
            refine ht_if_eq (tgt := 399) (D 183 rfl) (by decide) (fun hb363 => ?_) (fun hb363 => ?_)
            · skip
              exact absurd hC.1 (b01_eq hb363)
            · skip
              refine ht_iload_n (D 184 rfl) rfl rfl ?_
              refine ht_if_le (tgt := 399) (D 185 rfl) (by decide) (fun hb367 => ?_) (fun hb367 => ?_)
              · skip
                exact absurd hb367 (by rw [Int32.not_le]; exact nI_lt (a := 0) (by omega) (by omega))
              · skip
                refine ht_aload_n (D 186 rfl) rfl rfl ?_
                refine ht_bipush (v := 29) (D 187 rfl) (by decide) ?_
                refine kVX10_puts (As := [_]) cl_X10_216 (D 188 rfl) (sm_puts hM _ hH.2.2.2.2.1 (by omega)) hM.k0 rfl (Nat.le_of_ble_eq_true rfl) rfl (Nat.le_of_ble_eq_true rfl) (by omega) ?_
                rintro _ _ ⟨rfl, rfl⟩
                refine ht_iinc (v := nI (d - 1)) (D 189 rfl) rfl (nI_dec hC.2) (by decide) rfl ?_
                refine rd_pop2 hM (by omega) ?_
                rw [(show up2 (up2 V 20 c 29) 0 29 (nI (c + 1)) 21 = V 21 by rw [up2_o _ _ (by decide), up2_o _ _ (by decide)])]
                refine ht_aload_n (D 214 rfl) rfl rfl ?_
                refine kVX10_nextToken (As := []) cl_X10_220 (D 215 rfl) (sm_nextToken hM (T := T) (n := n) (p := e) (by rw [up2_o _ _ (by decide), up2_o _ _ (by decide)]; exact hH.2.1) (by rw [up2_k _ _ (by decide), up2_a _ _ (by decide)]; exact hH.2.2.1) hH.2.2.2.2.2.2 (by rw [up2_k _ _ (by decide), up2_a _ _ (by decide)]; exact hH.1.2.2.1) hge.2.1) hM.k0 rfl (Nat.le_of_ble_eq_true rfl) rfl (Nat.le_of_ble_eq_true rfl) (by omega) ?_
                rintro _ _ ⟨rfl, V2, U2, b2, e2, k2, rfl, hnf, hnu, hrt⟩
                refine ht_goto (tgt := 11) (D 216 rfl) (by decide) ?_
                exact kcl hC.1 hC.2 V2 U2 b2 e2 k2 _ _ _ (HD_nx hH (by rw [up2_o _ _ (by decide), up2_o _ _ (by decide)]) (by rw [up2_k _ _ (by decide), up2_a _ _ (by decide)]) (by rw [up2_k _ _ (by decide), up2_a _ _ (by decide)]) (by rw [up2_s]) hge.2.2.2 hnf hrt) (FQ_nf (FQ_0 (FQ_c (FQ_r c V) (Nat.le_refl _) (by omega) _) (by omega) _) hnf) hnu (by rw [hnf.1 20 (by decide), up2_a _ _ (by decide), up2_s] <;> rfl) (by rw [hnf.1 21 (by decide), up2_o _ _ (by decide), up2_o _ _ (by decide)] <;> rfl) (by rw [hnf.1 22 (by decide), up2_o _ _ (by decide), up2_o _ _ (by decide)] <;> rfl)
          · skip
            exact absurd (b01_ne hb321) hO
      · skip
        refine ht_aload_n (D 155 rfl) rfl rfl ?_
        refine ht_ldc2 kl_X10_223 (D 156 rfl) ?_
        refine kVX10_isWord (As := [_]) cl_X10_205 (D 157 rfl) (sm_isWd hM hH 15) hM.k0 rfl (Nat.le_of_ble_eq_true rfl) rfl (Nat.le_of_ble_eq_true rfl) (by omega) ?_
        rintro _ _ ⟨rfl, rfl⟩
        refine ht_if_ne (tgt := 324) (D 158 rfl) (by decide) (fun hb311 => ?_) (fun hb311 => ?_)
        · skip
          exact absurd (b01_ne hb311) hA
        · skip
          refine ht_aload_n (D 159 rfl) rfl rfl ?_
          refine ht_ldc2 kl_X10_225 (D 160 rfl) ?_
          refine kVX10_isWord (As := [_]) cl_X10_205 (D 161 rfl) (sm_isWd hM hH 16) hM.k0 rfl (Nat.le_of_ble_eq_true rfl) rfl (Nat.le_of_ble_eq_true rfl) (by omega) ?_
          rintro _ _ ⟨rfl, rfl⟩
          refine ht_if_eq (tgt := 357) (D 162 rfl) (by decide) (fun hb321 => ?_) (fun hb321 => ?_)
          · skip
            refine ht_aload_n (D 180 rfl) rfl rfl ?_
            refine ht_bipush (v := 41) (D 181 rfl) (by decide) ?_
            refine kVX10_isSign (As := [_]) cl_X10_209 (D 182 rfl) (sm_isSg hM hH 41) hM.k0 rfl (Nat.le_of_ble_eq_true rfl) rfl (Nat.le_of_ble_eq_true rfl) (by omega) ?_
            rintro _ _ ⟨rfl, rfl⟩
            refine ht_if_eq (tgt := 399) (D 183 rfl) (by decide) (fun hb363 => ?_) (fun hb363 => ?_)
            · skip
              refine ht_iload_n (D 200 rfl) rfl rfl ?_
              refine ht_if_ne (tgt := 418) (D 201 rfl) (by decide) (fun hb400 => ?_) (fun hb400 => ?_)
              · skip
                have hnE : ¬ (d = 0 ∧ isS T b k 59) := fun q => hb400 (by rw [q.1]; rfl)
                refine ht_aload_n (D 210 rfl) rfl rfl ?_
                refine ht_iconst (v := 1) (D 211 rfl) (by decide) ?_
                refine kVX10_fails (As := [_]) cl_X10_213 (D 212 rfl) (sm_fails hM 1) hM.k0 rfl (Nat.le_of_ble_eq_true rfl) rfl (Nat.le_of_ble_eq_true rfl) (by omega) ?_
                rintro _ _ ⟨rfl, rfl⟩
                refine ht_iret (D 213 rfl) rfl rfl ?_
                rw [hH.1.2.1]
                exact kf hA hO hC hnE
              · skip
                have hd0 : d = 0 := nI_z hb400 (by omega)
                refine ht_aload_n (D 202 rfl) rfl rfl ?_
                refine ht_bipush (v := 59) (D 203 rfl) (by decide) ?_
                refine kVX10_isSign (As := [_]) cl_X10_209 (D 204 rfl) (sm_isSg hM hH 59) hM.k0 rfl (Nat.le_of_ble_eq_true rfl) rfl (Nat.le_of_ble_eq_true rfl) (by omega) ?_
                rintro _ _ ⟨rfl, rfl⟩
                refine ht_if_eq (tgt := 418) (D 205 rfl) (by decide) (fun hb409 => ?_) (fun hb409 => ?_)
                · skip
                  have hnE : ¬ (d = 0 ∧ isS T b k 59) := fun q => b01_eq hb409 q.2
                  refine ht_aload_n (D 210 rfl) rfl rfl ?_
                  refine ht_iconst (v := 1) (D 211 rfl) (by decide) ?_
                  refine kVX10_fails (As := [_]) cl_X10_213 (D 212 rfl) (sm_fails hM 1) hM.k0 rfl (Nat.le_of_ble_eq_true rfl) rfl (Nat.le_of_ble_eq_true rfl) (by omega) ?_
                  rintro _ _ ⟨rfl, rfl⟩
                  refine ht_iret (D 213 rfl) rfl rfl ?_
                  rw [hH.1.2.1]
                  exact kf hA hO hC hnE
                · skip
                  have hE9 : isS T b k 59 := b01_ne hb409
                  have hge := hH.ge (show k ≠ 0 by have := hE9.1; omega)
                  refine ht_aload_n (D 206 rfl) rfl rfl ?_
                  refine kVX10_nextToken (As := []) cl_X10_220 (D 207 rfl) (sm_nextToken hM (T := T) (n := n) (p := e) hH.2.1 hH.2.2.1 hH.2.2.2.2.2.2 hH.1.2.2.1 hge.2.1) hM.k0 rfl (Nat.le_of_ble_eq_true rfl) rfl (Nat.le_of_ble_eq_true rfl) (by omega) ?_
                  rintro _ _ ⟨rfl, V2, U2, b2, e2, k2, rfl, hnf, hnu, hrt⟩
                  refine ht_iconst (v := 1) (D 208 rfl) (by decide) ?_
                  refine ht_iret (D 209 rfl) rfl rfl ?_
                  exact ke hd0 hE9 V2 U2 b2 e2 k2 (HD_nx hH rfl rfl rfl hH.2.2.2.2.1 (by omega) hnf hrt) (FQ_nf (FQ_r c V) hnf) hnu (hnf.1 20 (by decide))
            · skip
              refine ht_iload_n (D 184 rfl) rfl rfl ?_
              refine ht_if_le (tgt := 399) (D 185 rfl) (by decide) (fun hb367 => ?_) (fun hb367 => ?_)
              · skip
                refine ht_iload_n (D 200 rfl) rfl rfl ?_
                refine ht_if_ne (tgt := 418) (D 201 rfl) (by decide) (fun hb400 => ?_) (fun hb400 => ?_)
                · skip
                  have hnE : ¬ (d = 0 ∧ isS T b k 59) := fun q => hb400 (by rw [q.1]; rfl)
                  refine ht_aload_n (D 210 rfl) rfl rfl ?_
                  refine ht_iconst (v := 1) (D 211 rfl) (by decide) ?_
                  refine kVX10_fails (As := [_]) cl_X10_213 (D 212 rfl) (sm_fails hM 1) hM.k0 rfl (Nat.le_of_ble_eq_true rfl) rfl (Nat.le_of_ble_eq_true rfl) (by omega) ?_
                  rintro _ _ ⟨rfl, rfl⟩
                  refine ht_iret (D 213 rfl) rfl rfl ?_
                  rw [hH.1.2.1]
                  exact kf hA hO hC hnE
                · skip
                  have hd0 : d = 0 := nI_z hb400 (by omega)
                  refine ht_aload_n (D 202 rfl) rfl rfl ?_
                  refine ht_bipush (v := 59) (D 203 rfl) (by decide) ?_
                  refine kVX10_isSign (As := [_]) cl_X10_209 (D 204 rfl) (sm_isSg hM hH 59) hM.k0 rfl (Nat.le_of_ble_eq_true rfl) rfl (Nat.le_of_ble_eq_true rfl) (by omega) ?_
                  rintro _ _ ⟨rfl, rfl⟩
                  refine ht_if_eq (tgt := 418) (D 205 rfl) (by decide) (fun hb409 => ?_) (fun hb409 => ?_)
                  · skip
                    have hnE : ¬ (d = 0 ∧ isS T b k 59) := fun q => b01_eq hb409 q.2
                    refine ht_aload_n (D 210 rfl) rfl rfl ?_
                    refine ht_iconst (v := 1) (D 211 rfl) (by decide) ?_
                    refine kVX10_fails (As := [_]) cl_X10_213 (D 212 rfl) (sm_fails hM 1) hM.k0 rfl (Nat.le_of_ble_eq_true rfl) rfl (Nat.le_of_ble_eq_true rfl) (by omega) ?_
                    rintro _ _ ⟨rfl, rfl⟩
                    refine ht_iret (D 213 rfl) rfl rfl ?_
                    rw [hH.1.2.1]
                    exact kf hA hO hC hnE
                  · skip
                    have hE9 : isS T b k 59 := b01_ne hb409
                    have hge := hH.ge (show k ≠ 0 by have := hE9.1; omega)
                    refine ht_aload_n (D 206 rfl) rfl rfl ?_
                    refine kVX10_nextToken (As := []) cl_X10_220 (D 207 rfl) (sm_nextToken hM (T := T) (n := n) (p := e) hH.2.1 hH.2.2.1 hH.2.2.2.2.2.2 hH.1.2.2.1 hge.2.1) hM.k0 rfl (Nat.le_of_ble_eq_true rfl) rfl (Nat.le_of_ble_eq_true rfl) (by omega) ?_
                    rintro _ _ ⟨rfl, V2, U2, b2, e2, k2, rfl, hnf, hnu, hrt⟩
                    refine ht_iconst (v := 1) (D 208 rfl) (by decide) ?_
                    refine ht_iret (D 209 rfl) rfl rfl ?_
                    exact ke hd0 hE9 V2 U2 b2 e2 k2 (HD_nx hH rfl rfl rfl hH.2.2.2.2.1 (by omega) hnf hrt) (FQ_nf (FQ_r c V) hnf) hnu (hnf.1 20 (by decide))
              · skip
                exact absurd ⟨b01_ne hb363, by have h9 := mt (nI_leI (a := d) (b := 0) (by omega) (by omega)).mpr hb367; omega⟩ hC
          · skip
            exact absurd (b01_ne hb321) hO
set_option maxRecDepth 100000 in
set_option maxHeartbeats 1000000 in
theorem rd_next (hM : MS σ m) (hH : HD T n ice p b e k c V U) (hd : d ≤ 5) {l3 l4 l5 : Option Value}
    (kar : ∀ op : Nat, (op = 20 ∧ isS T b k 43) ∨ (op = 21 ∧ isS T b k 45) ∨ (op = 22 ∧ isS T b k 42) → ∀ (V2 : VT) (U2 : UT) (b2 e2 k2 : Nat) (l3 l4 l5 : Option Value), HD T n ice e b2 e2 k2 (c + 1) V2 U2 → FQ c V V2 → NU U U2 → V2 20 c = nI op → V2 21 = V 21 → V2 22 = V 22 → HT G mX10_reads 11 [some (.ref m), some (.int (nI d)), some (.int 1), l3, l4, l5] [] (sv σ m V2 U2) 2 Q)
    (kcm : ∀ op : Nat, (op = 24 ∧ isS T b k 60) ∨ (op = 25 ∧ isS T b k 61) → V 22 d = 0 → ∀ (V2 : VT) (U2 : UT) (b2 e2 k2 : Nat) (l3 l4 l5 : Option Value), HD T n ice e b2 e2 k2 (c + 1) V2 U2 → FQ c V V2 → NU U U2 → V2 20 c = nI op → V2 21 = V 21 → V2 22 = va_up (V 22) d 1 → HT G mX10_reads 11 [some (.ref m), some (.int (nI d)), some (.int 1), l3, l4, l5] [] (sv σ m V2 U2) 2 Q)
    (kao : ∀ op : Nat, (op = 26 ∧ isW T b e k 15) ∨ (op = 27 ∧ isW T b e k 16) → ∀ (V2 : VT) (U2 : UT) (b2 e2 k2 : Nat) (l3 l4 l5 : Option Value), HD T n ice e b2 e2 k2 (c + 1) V2 U2 → FQ c V V2 → NU U U2 → V2 20 c = nI op → V2 21 = V 21 → V2 22 = va_up (V 22) d 0 → HT G mX10_reads 11 [some (.ref m), some (.int (nI d)), some (.int 1), l3, l4, l5] [] (sv σ m V2 U2) 2 Q)
    (kcl : isS T b k 41 → 0 < d → ∀ (V2 : VT) (U2 : UT) (b2 e2 k2 : Nat) (l3 l4 l5 : Option Value), HD T n ice e b2 e2 k2 (c + 1) V2 U2 → FQ c V V2 → NU U U2 → V2 20 c = 29 → V2 21 = V 21 → V2 22 = V 22 → HT G mX10_reads 11 [some (.ref m), some (.int (nI (popO (V 21) (d - 1)))), some (.int 0), l3, l4, l5] [] (sv σ m V2 U2) 2 Q)
    (ke : d = 0 → isS T b k 59 → ∀ (V2 : VT) (U2 : UT) (b2 e2 k2 : Nat), HD T n ice e b2 e2 k2 c V2 U2 → FQ c V V2 → NU U U2 → V2 20 = V 20 → Q (some (.int 1)) (sv σ m V2 U2))
    (kf : ¬ isS T b k 43 → ¬ isS T b k 45 → ¬ isS T b k 42 → ¬ ((isS T b k 60 ∨ isS T b k 61) ∧ V 22 d = 0) → ¬ isW T b e k 15 → ¬ isW T b e k 16 → ¬ (isS T b k 41 ∧ 0 < d) → ¬ (d = 0 ∧ isS T b k 59) → Q (some (.int 0)) (sv σ m (up2 V 0 9 (1 + 16 * nI b)) U)) : HT G mX10_reads 11 [some (.ref m), some (.int (nI d)), some (.int 0), l3, l4, l5] [] (sv σ m V U) 2 Q := by
  have D := dat dl_X10_reads
  by_cases hP : isS T b k 43
  · have hge := hH.ge (show k ≠ 0 by have := hP.1; omega)
    refine ht_iload_n (D 9 rfl) rfl rfl ?_
    refine ht_if_eq (tgt := 179) (D 10 rfl) (by decide) (fun hb12 => ?_) (fun hb12 => ?_)
    · skip
      refine ht_aload_n (D 95 rfl) rfl rfl ?_
      refine ht_bipush (v := 43) (D 96 rfl) (by decide) ?_
      refine kVX10_isSign (As := [_]) cl_X10_209 (D 97 rfl) (sm_isSg hM hH 43) hM.k0 rfl (Nat.le_of_ble_eq_true rfl) rfl (Nat.le_of_ble_eq_true rfl) (by omega) ?_
      rintro _ _ ⟨rfl, rfl⟩
      refine ht_if_ne (tgt := 206) (D 98 rfl) (by decide) (fun hb185 => ?_) (fun hb185 => ?_)
      · skip
        refine ht_aload_n (D 107 rfl) rfl rfl ?_
        refine ht_aload_n (D 108 rfl) rfl rfl ?_
        refine ht_bipush (v := 43) (D 109 rfl) (by decide) ?_
        refine kVX10_isSign (As := [_]) cl_X10_209 (D 110 rfl) (sm_isSg hM hH 43) hM.k0 rfl (Nat.le_of_ble_eq_true rfl) rfl (Nat.le_of_ble_eq_true rfl) (by omega) ?_
        rintro _ _ ⟨rfl, rfl⟩
        refine ht_if_eq (tgt := 221) (D 111 rfl) (by decide) (fun hb213 => ?_) (fun hb213 => ?_)
        · skip
          exact absurd hP (b01_eq hb213)
        · skip
          refine ht_bipush (v := 20) (D 112 rfl) (by decide) ?_
          refine ht_goto (tgt := 237) (D 113 rfl) (by decide) ?_
          refine kVX10_puts (As := [_]) cl_X10_216 (D 121 rfl) (sm_puts hM _ hH.2.2.2.2.1 (by omega)) hM.k0 rfl (Nat.le_of_ble_eq_true rfl) rfl (Nat.le_of_ble_eq_true rfl) (by omega) ?_
          rintro _ _ ⟨rfl, rfl⟩
          refine ht_iconst (v := 1) (D 122 rfl) (by decide) ?_
          refine ht_istore_n (D 123 rfl) rfl (by decide) rfl ?_
          refine ht_goto (tgt := 424) (D 124 rfl) (by decide) ?_
          refine ht_aload_n (D 214 rfl) rfl rfl ?_
          refine kVX10_nextToken (As := []) cl_X10_220 (D 215 rfl) (sm_nextToken hM (T := T) (n := n) (p := e) (by rw [up2_o _ _ (by decide), up2_o _ _ (by decide)]; exact hH.2.1) (by rw [up2_k _ _ (by decide), up2_a _ _ (by decide)]; exact hH.2.2.1) hH.2.2.2.2.2.2 (by rw [up2_k _ _ (by decide), up2_a _ _ (by decide)]; exact hH.1.2.2.1) hge.2.1) hM.k0 rfl (Nat.le_of_ble_eq_true rfl) rfl (Nat.le_of_ble_eq_true rfl) (by omega) ?_
          rintro _ _ ⟨rfl, V2, U2, b2, e2, k2, rfl, hnf, hnu, hrt⟩
          refine ht_goto (tgt := 11) (D 216 rfl) (by decide) ?_
          exact kar 20 (Or.inl ⟨rfl, hP⟩) V2 U2 b2 e2 k2 _ _ _ (HD_nx hH (by rw [up2_o _ _ (by decide), up2_o _ _ (by decide)]) (by rw [up2_k _ _ (by decide), up2_a _ _ (by decide)]) (by rw [up2_k _ _ (by decide), up2_a _ _ (by decide)]) (by rw [up2_s]) hge.2.2.2 hnf hrt) (FQ_nf (FQ_0 (FQ_c (FQ_r c V) (Nat.le_refl _) (by omega) _) (by omega) _) hnf) hnu (by rw [hnf.1 20 (by decide), up2_a _ _ (by decide), up2_s] <;> rfl) (by rw [hnf.1 21 (by decide), up2_o _ _ (by decide), up2_o _ _ (by decide)] <;> rfl) (by rw [hnf.1 22 (by decide), up2_o _ _ (by decide), up2_o _ _ (by decide)] <;> rfl)
      · skip
        exact absurd hP (b01_eq hb185)
    · skip
      exact absurd rfl hb12
  · by_cases hI : isS T b k 45
    · have hge := hH.ge (show k ≠ 0 by have := hI.1; omega)
      refine ht_iload_n (D 9 rfl) rfl rfl ?_
      refine ht_if_eq (tgt := 179) (D 10 rfl) (by decide) (fun hb12 => ?_) (fun hb12 => ?_)
      · skip
        refine ht_aload_n (D 95 rfl) rfl rfl ?_
        refine ht_bipush (v := 43) (D 96 rfl) (by decide) ?_
        refine kVX10_isSign (As := [_]) cl_X10_209 (D 97 rfl) (sm_isSg hM hH 43) hM.k0 rfl (Nat.le_of_ble_eq_true rfl) rfl (Nat.le_of_ble_eq_true rfl) (by omega) ?_
        rintro _ _ ⟨rfl, rfl⟩
        refine ht_if_ne (tgt := 206) (D 98 rfl) (by decide) (fun hb185 => ?_) (fun hb185 => ?_)
        · skip
          exact absurd (b01_ne hb185) hP
        · skip
          refine ht_aload_n (D 99 rfl) rfl rfl ?_
          refine ht_bipush (v := 45) (D 100 rfl) (by decide) ?_
          refine kVX10_isSign (As := [_]) cl_X10_209 (D 101 rfl) (sm_isSg hM hH 45) hM.k0 rfl (Nat.le_of_ble_eq_true rfl) rfl (Nat.le_of_ble_eq_true rfl) (by omega) ?_
          rintro _ _ ⟨rfl, rfl⟩
          refine ht_if_ne (tgt := 206) (D 102 rfl) (by decide) (fun hb194 => ?_) (fun hb194 => ?_)
          · skip
            refine ht_aload_n (D 107 rfl) rfl rfl ?_
            refine ht_aload_n (D 108 rfl) rfl rfl ?_
            refine ht_bipush (v := 43) (D 109 rfl) (by decide) ?_
            refine kVX10_isSign (As := [_]) cl_X10_209 (D 110 rfl) (sm_isSg hM hH 43) hM.k0 rfl (Nat.le_of_ble_eq_true rfl) rfl (Nat.le_of_ble_eq_true rfl) (by omega) ?_
            rintro _ _ ⟨rfl, rfl⟩
            refine ht_if_eq (tgt := 221) (D 111 rfl) (by decide) (fun hb213 => ?_) (fun hb213 => ?_)
            · skip
              refine ht_aload_n (D 114 rfl) rfl rfl ?_
              refine ht_bipush (v := 45) (D 115 rfl) (by decide) ?_
              refine kVX10_isSign (As := [_]) cl_X10_209 (D 116 rfl) (sm_isSg hM hH 45) hM.k0 rfl (Nat.le_of_ble_eq_true rfl) rfl (Nat.le_of_ble_eq_true rfl) (by omega) ?_
              rintro _ _ ⟨rfl, rfl⟩
              refine ht_if_eq (tgt := 235) (D 117 rfl) (by decide) (fun hb227 => ?_) (fun hb227 => ?_)
              · skip
                exact absurd hI (b01_eq hb227)
              · skip
                refine ht_bipush (v := 21) (D 118 rfl) (by decide) ?_
                refine ht_goto (tgt := 237) (D 119 rfl) (by decide) ?_
                refine kVX10_puts (As := [_]) cl_X10_216 (D 121 rfl) (sm_puts hM _ hH.2.2.2.2.1 (by omega)) hM.k0 rfl (Nat.le_of_ble_eq_true rfl) rfl (Nat.le_of_ble_eq_true rfl) (by omega) ?_
                rintro _ _ ⟨rfl, rfl⟩
                refine ht_iconst (v := 1) (D 122 rfl) (by decide) ?_
                refine ht_istore_n (D 123 rfl) rfl (by decide) rfl ?_
                refine ht_goto (tgt := 424) (D 124 rfl) (by decide) ?_
                refine ht_aload_n (D 214 rfl) rfl rfl ?_
                refine kVX10_nextToken (As := []) cl_X10_220 (D 215 rfl) (sm_nextToken hM (T := T) (n := n) (p := e) (by rw [up2_o _ _ (by decide), up2_o _ _ (by decide)]; exact hH.2.1) (by rw [up2_k _ _ (by decide), up2_a _ _ (by decide)]; exact hH.2.2.1) hH.2.2.2.2.2.2 (by rw [up2_k _ _ (by decide), up2_a _ _ (by decide)]; exact hH.1.2.2.1) hge.2.1) hM.k0 rfl (Nat.le_of_ble_eq_true rfl) rfl (Nat.le_of_ble_eq_true rfl) (by omega) ?_
                rintro _ _ ⟨rfl, V2, U2, b2, e2, k2, rfl, hnf, hnu, hrt⟩
                refine ht_goto (tgt := 11) (D 216 rfl) (by decide) ?_
                exact kar 21 (Or.inr (Or.inl ⟨rfl, hI⟩)) V2 U2 b2 e2 k2 _ _ _ (HD_nx hH (by rw [up2_o _ _ (by decide), up2_o _ _ (by decide)]) (by rw [up2_k _ _ (by decide), up2_a _ _ (by decide)]) (by rw [up2_k _ _ (by decide), up2_a _ _ (by decide)]) (by rw [up2_s]) hge.2.2.2 hnf hrt) (FQ_nf (FQ_0 (FQ_c (FQ_r c V) (Nat.le_refl _) (by omega) _) (by omega) _) hnf) hnu (by rw [hnf.1 20 (by decide), up2_a _ _ (by decide), up2_s] <;> rfl) (by rw [hnf.1 21 (by decide), up2_o _ _ (by decide), up2_o _ _ (by decide)] <;> rfl) (by rw [hnf.1 22 (by decide), up2_o _ _ (by decide), up2_o _ _ (by decide)] <;> rfl)
            · skip
              exact absurd (b01_ne hb213) hP
          · skip
            exact absurd hI (b01_eq hb194)
      · skip
        exact absurd rfl hb12
    · by_cases hY : isS T b k 42
      · have hge := hH.ge (show k ≠ 0 by have := hY.1; omega)
        refine ht_iload_n (D 9 rfl) rfl rfl ?_
        refine ht_if_eq (tgt := 179) (D 10 rfl) (by decide) (fun hb12 => ?_) (fun hb12 => ?_)
        · skip
          refine ht_aload_n (D 95 rfl) rfl rfl ?_
          refine ht_bipush (v := 43) (D 96 rfl) (by decide) ?_
          refine kVX10_isSign (As := [_]) cl_X10_209 (D 97 rfl) (sm_isSg hM hH 43) hM.k0 rfl (Nat.le_of_ble_eq_true rfl) rfl (Nat.le_of_ble_eq_true rfl) (by omega) ?_
          rintro _ _ ⟨rfl, rfl⟩
          refine ht_if_ne (tgt := 206) (D 98 rfl) (by decide) (fun hb185 => ?_) (fun hb185 => ?_)
          · skip
            exact absurd (b01_ne hb185) hP
          · skip
            refine ht_aload_n (D 99 rfl) rfl rfl ?_
            refine ht_bipush (v := 45) (D 100 rfl) (by decide) ?_
            refine kVX10_isSign (As := [_]) cl_X10_209 (D 101 rfl) (sm_isSg hM hH 45) hM.k0 rfl (Nat.le_of_ble_eq_true rfl) rfl (Nat.le_of_ble_eq_true rfl) (by omega) ?_
            rintro _ _ ⟨rfl, rfl⟩
            refine ht_if_ne (tgt := 206) (D 102 rfl) (by decide) (fun hb194 => ?_) (fun hb194 => ?_)
            · skip
              exact absurd (b01_ne hb194) hI
            · skip
              refine ht_aload_n (D 103 rfl) rfl rfl ?_
              refine ht_bipush (v := 42) (D 104 rfl) (by decide) ?_
              refine kVX10_isSign (As := [_]) cl_X10_209 (D 105 rfl) (sm_isSg hM hH 42) hM.k0 rfl (Nat.le_of_ble_eq_true rfl) rfl (Nat.le_of_ble_eq_true rfl) (by omega) ?_
              rintro _ _ ⟨rfl, rfl⟩
              refine ht_if_eq (tgt := 245) (D 106 rfl) (by decide) (fun hb203 => ?_) (fun hb203 => ?_)
              · skip
                exact absurd hY (b01_eq hb203)
              · skip
                refine ht_aload_n (D 107 rfl) rfl rfl ?_
                refine ht_aload_n (D 108 rfl) rfl rfl ?_
                refine ht_bipush (v := 43) (D 109 rfl) (by decide) ?_
                refine kVX10_isSign (As := [_]) cl_X10_209 (D 110 rfl) (sm_isSg hM hH 43) hM.k0 rfl (Nat.le_of_ble_eq_true rfl) rfl (Nat.le_of_ble_eq_true rfl) (by omega) ?_
                rintro _ _ ⟨rfl, rfl⟩
                refine ht_if_eq (tgt := 221) (D 111 rfl) (by decide) (fun hb213 => ?_) (fun hb213 => ?_)
                · skip
                  refine ht_aload_n (D 114 rfl) rfl rfl ?_
                  refine ht_bipush (v := 45) (D 115 rfl) (by decide) ?_
                  refine kVX10_isSign (As := [_]) cl_X10_209 (D 116 rfl) (sm_isSg hM hH 45) hM.k0 rfl (Nat.le_of_ble_eq_true rfl) rfl (Nat.le_of_ble_eq_true rfl) (by omega) ?_
                  rintro _ _ ⟨rfl, rfl⟩
                  refine ht_if_eq (tgt := 235) (D 117 rfl) (by decide) (fun hb227 => ?_) (fun hb227 => ?_)
                  · skip
                    refine ht_bipush (v := 22) (D 120 rfl) (by decide) ?_
                    refine kVX10_puts (As := [_]) cl_X10_216 (D 121 rfl) (sm_puts hM _ hH.2.2.2.2.1 (by omega)) hM.k0 rfl (Nat.le_of_ble_eq_true rfl) rfl (Nat.le_of_ble_eq_true rfl) (by omega) ?_
                    rintro _ _ ⟨rfl, rfl⟩
                    refine ht_iconst (v := 1) (D 122 rfl) (by decide) ?_
                    refine ht_istore_n (D 123 rfl) rfl (by decide) rfl ?_
                    refine ht_goto (tgt := 424) (D 124 rfl) (by decide) ?_
                    refine ht_aload_n (D 214 rfl) rfl rfl ?_
                    refine kVX10_nextToken (As := []) cl_X10_220 (D 215 rfl) (sm_nextToken hM (T := T) (n := n) (p := e) (by rw [up2_o _ _ (by decide), up2_o _ _ (by decide)]; exact hH.2.1) (by rw [up2_k _ _ (by decide), up2_a _ _ (by decide)]; exact hH.2.2.1) hH.2.2.2.2.2.2 (by rw [up2_k _ _ (by decide), up2_a _ _ (by decide)]; exact hH.1.2.2.1) hge.2.1) hM.k0 rfl (Nat.le_of_ble_eq_true rfl) rfl (Nat.le_of_ble_eq_true rfl) (by omega) ?_
                    rintro _ _ ⟨rfl, V2, U2, b2, e2, k2, rfl, hnf, hnu, hrt⟩
                    refine ht_goto (tgt := 11) (D 216 rfl) (by decide) ?_
                    exact kar 22 (Or.inr (Or.inr ⟨rfl, hY⟩)) V2 U2 b2 e2 k2 _ _ _ (HD_nx hH (by rw [up2_o _ _ (by decide), up2_o _ _ (by decide)]) (by rw [up2_k _ _ (by decide), up2_a _ _ (by decide)]) (by rw [up2_k _ _ (by decide), up2_a _ _ (by decide)]) (by rw [up2_s]) hge.2.2.2 hnf hrt) (FQ_nf (FQ_0 (FQ_c (FQ_r c V) (Nat.le_refl _) (by omega) _) (by omega) _) hnf) hnu (by rw [hnf.1 20 (by decide), up2_a _ _ (by decide), up2_s] <;> rfl) (by rw [hnf.1 21 (by decide), up2_o _ _ (by decide), up2_o _ _ (by decide)] <;> rfl) (by rw [hnf.1 22 (by decide), up2_o _ _ (by decide), up2_o _ _ (by decide)] <;> rfl)
                  · skip
                    exact absurd (b01_ne hb227) hI
                · skip
                  exact absurd (b01_ne hb213) hP
        · skip
          exact absurd rfl hb12
      · by_cases hL : isS T b k 60 ∧ V 22 d = 0
        · have hge := hH.ge (show k ≠ 0 by have := hL.1.1; omega)
          refine ht_iload_n (D 9 rfl) rfl rfl ?_
          refine ht_if_eq (tgt := 179) (D 10 rfl) (by decide) (fun hb12 => ?_) (fun hb12 => ?_)
          · skip
            refine ht_aload_n (D 95 rfl) rfl rfl ?_
            refine ht_bipush (v := 43) (D 96 rfl) (by decide) ?_
            refine kVX10_isSign (As := [_]) cl_X10_209 (D 97 rfl) (sm_isSg hM hH 43) hM.k0 rfl (Nat.le_of_ble_eq_true rfl) rfl (Nat.le_of_ble_eq_true rfl) (by omega) ?_
            rintro _ _ ⟨rfl, rfl⟩
            refine ht_if_ne (tgt := 206) (D 98 rfl) (by decide) (fun hb185 => ?_) (fun hb185 => ?_)
            · skip
              exact absurd (b01_ne hb185) hP
            · skip
              refine ht_aload_n (D 99 rfl) rfl rfl ?_
              refine ht_bipush (v := 45) (D 100 rfl) (by decide) ?_
              refine kVX10_isSign (As := [_]) cl_X10_209 (D 101 rfl) (sm_isSg hM hH 45) hM.k0 rfl (Nat.le_of_ble_eq_true rfl) rfl (Nat.le_of_ble_eq_true rfl) (by omega) ?_
              rintro _ _ ⟨rfl, rfl⟩
              refine ht_if_ne (tgt := 206) (D 102 rfl) (by decide) (fun hb194 => ?_) (fun hb194 => ?_)
              · skip
                exact absurd (b01_ne hb194) hI
              · skip
                refine ht_aload_n (D 103 rfl) rfl rfl ?_
                refine ht_bipush (v := 42) (D 104 rfl) (by decide) ?_
                refine kVX10_isSign (As := [_]) cl_X10_209 (D 105 rfl) (sm_isSg hM hH 42) hM.k0 rfl (Nat.le_of_ble_eq_true rfl) rfl (Nat.le_of_ble_eq_true rfl) (by omega) ?_
                rintro _ _ ⟨rfl, rfl⟩
                refine ht_if_eq (tgt := 245) (D 106 rfl) (by decide) (fun hb203 => ?_) (fun hb203 => ?_)
                · skip
                  refine ht_aload_n (D 125 rfl) rfl rfl ?_
                  refine ht_bipush (v := 60) (D 126 rfl) (by decide) ?_
                  refine kVX10_isSign (As := [_]) cl_X10_209 (D 127 rfl) (sm_isSg hM hH 60) hM.k0 rfl (Nat.le_of_ble_eq_true rfl) rfl (Nat.le_of_ble_eq_true rfl) (by omega) ?_
                  rintro _ _ ⟨rfl, rfl⟩
                  refine ht_if_ne (tgt := 263) (D 128 rfl) (by decide) (fun hb251 => ?_) (fun hb251 => ?_)
                  · skip
                    refine ht_aload_n (D 133 rfl) rfl rfl ?_
                    refine gf_X10_74 rfl (D 134 rfl) hM.k0 hM.q22 ?_
                    refine ht_iload_n (D 135 rfl) rfl rfl ?_
                    refine hm_zld (o := 22) (n := d) (by decide) (D 136 rfl) hM.k22 hM.n22 (by first | rfl | exact nI_add _ _ | assumption) (by omega) (by decide) ?_
                    refine ht_if_ne (tgt := 304) (D 137 rfl) (by decide) (fun hb269 => ?_) (fun hb269 => ?_)
                    · skip
                      exact absurd hL.2 hb269
                    · skip
                      refine ht_aload_n (D 138 rfl) rfl rfl ?_
                      refine ht_aload_n (D 139 rfl) rfl rfl ?_
                      refine ht_bipush (v := 60) (D 140 rfl) (by decide) ?_
                      refine kVX10_isSign (As := [_]) cl_X10_209 (D 141 rfl) (sm_isSg hM hH 60) hM.k0 rfl (Nat.le_of_ble_eq_true rfl) rfl (Nat.le_of_ble_eq_true rfl) (by omega) ?_
                      rintro _ _ ⟨rfl, rfl⟩
                      refine ht_if_eq (tgt := 287) (D 142 rfl) (by decide) (fun hb279 => ?_) (fun hb279 => ?_)
                      · skip
                        exact absurd hL.1 (b01_eq hb279)
                      · skip
                        refine ht_bipush (v := 24) (D 143 rfl) (by decide) ?_
                        refine ht_goto (tgt := 289) (D 144 rfl) (by decide) ?_
                        refine kVX10_puts (As := [_]) cl_X10_216 (D 146 rfl) (sm_puts hM _ hH.2.2.2.2.1 (by omega)) hM.k0 rfl (Nat.le_of_ble_eq_true rfl) rfl (Nat.le_of_ble_eq_true rfl) (by omega) ?_
                        rintro _ _ ⟨rfl, rfl⟩
                        refine ht_aload_n (D 147 rfl) rfl rfl ?_
                        refine gf_X10_74 rfl (D 148 rfl) hM.k0 hM.q22 ?_
                        refine ht_iload_n (D 149 rfl) rfl rfl ?_
                        refine ht_iconst (v := 1) (D 150 rfl) (by decide) ?_
                        refine hm_zst (o := 22) (n := d) (by decide) (D 151 rfl) hM.k22 hM.n22 (by first | rfl | exact nI_add _ _ | assumption) (by omega) (by decide) rfl ?_
                        refine ht_iconst (v := 1) (D 152 rfl) (by decide) ?_
                        refine ht_istore_n (D 153 rfl) rfl (by decide) rfl ?_
                        refine ht_goto (tgt := 424) (D 154 rfl) (by decide) ?_
                        refine ht_aload_n (D 214 rfl) rfl rfl ?_
                        refine kVX10_nextToken (As := []) cl_X10_220 (D 215 rfl) (sm_nextToken hM (T := T) (n := n) (p := e) (by rw [up2_o _ _ (by decide), up2_o _ _ (by decide), up2_o _ _ (by decide)]; exact hH.2.1) (by rw [up2_a _ _ (by decide), up2_k _ _ (by decide), up2_a _ _ (by decide)]; exact hH.2.2.1) hH.2.2.2.2.2.2 (by rw [up2_a _ _ (by decide), up2_k _ _ (by decide), up2_a _ _ (by decide)]; exact hH.1.2.2.1) hge.2.1) hM.k0 rfl (Nat.le_of_ble_eq_true rfl) rfl (Nat.le_of_ble_eq_true rfl) (by omega) ?_
                        rintro _ _ ⟨rfl, V2, U2, b2, e2, k2, rfl, hnf, hnu, hrt⟩
                        refine ht_goto (tgt := 11) (D 216 rfl) (by decide) ?_
                        exact kcm 24 (Or.inl ⟨rfl, hL.1⟩) hL.2 V2 U2 b2 e2 k2 _ _ _ (HD_nx hH (by rw [up2_o _ _ (by decide), up2_o _ _ (by decide), up2_o _ _ (by decide)]) (by rw [up2_a _ _ (by decide), up2_k _ _ (by decide), up2_a _ _ (by decide)]) (by rw [up2_a _ _ (by decide), up2_k _ _ (by decide), up2_a _ _ (by decide)]) (by rw [up2_a _ _ (by decide), up2_s]) hge.2.2.2 hnf hrt) (FQ_nf (FQ_2 (FQ_0 (FQ_c (FQ_r c V) (Nat.le_refl _) (by omega) _) (by omega) _) (by omega) _ _) hnf) hnu (by rw [hnf.1 20 (by decide), up2_a _ _ (by decide), up2_a _ _ (by decide), up2_s] <;> rfl) (by rw [hnf.1 21 (by decide), up2_o _ _ (by decide), up2_o _ _ (by decide), up2_o _ _ (by decide)] <;> rfl) (by rw [hnf.1 22 (by decide), up2_row, up2_o _ _ (by decide), up2_o _ _ (by decide)] <;> rfl)
                  · skip
                    exact absurd hL.1 (b01_eq hb251)
                · skip
                  exact absurd (b01_ne hb203) hY
          · skip
            exact absurd rfl hb12
        · by_cases hEq : isS T b k 61 ∧ V 22 d = 0
          · have hge := hH.ge (show k ≠ 0 by have := hEq.1.1; omega)
            refine ht_iload_n (D 9 rfl) rfl rfl ?_
            refine ht_if_eq (tgt := 179) (D 10 rfl) (by decide) (fun hb12 => ?_) (fun hb12 => ?_)
            · skip
              refine ht_aload_n (D 95 rfl) rfl rfl ?_
              refine ht_bipush (v := 43) (D 96 rfl) (by decide) ?_
              refine kVX10_isSign (As := [_]) cl_X10_209 (D 97 rfl) (sm_isSg hM hH 43) hM.k0 rfl (Nat.le_of_ble_eq_true rfl) rfl (Nat.le_of_ble_eq_true rfl) (by omega) ?_
              rintro _ _ ⟨rfl, rfl⟩
              refine ht_if_ne (tgt := 206) (D 98 rfl) (by decide) (fun hb185 => ?_) (fun hb185 => ?_)
              · skip
                exact absurd (b01_ne hb185) hP
              · skip
                refine ht_aload_n (D 99 rfl) rfl rfl ?_
                refine ht_bipush (v := 45) (D 100 rfl) (by decide) ?_
                refine kVX10_isSign (As := [_]) cl_X10_209 (D 101 rfl) (sm_isSg hM hH 45) hM.k0 rfl (Nat.le_of_ble_eq_true rfl) rfl (Nat.le_of_ble_eq_true rfl) (by omega) ?_
                rintro _ _ ⟨rfl, rfl⟩
                refine ht_if_ne (tgt := 206) (D 102 rfl) (by decide) (fun hb194 => ?_) (fun hb194 => ?_)
                · skip
                  exact absurd (b01_ne hb194) hI
                · skip
                  refine ht_aload_n (D 103 rfl) rfl rfl ?_
                  refine ht_bipush (v := 42) (D 104 rfl) (by decide) ?_
                  refine kVX10_isSign (As := [_]) cl_X10_209 (D 105 rfl) (sm_isSg hM hH 42) hM.k0 rfl (Nat.le_of_ble_eq_true rfl) rfl (Nat.le_of_ble_eq_true rfl) (by omega) ?_
                  rintro _ _ ⟨rfl, rfl⟩
                  refine ht_if_eq (tgt := 245) (D 106 rfl) (by decide) (fun hb203 => ?_) (fun hb203 => ?_)
                  · skip
                    refine ht_aload_n (D 125 rfl) rfl rfl ?_
                    refine ht_bipush (v := 60) (D 126 rfl) (by decide) ?_
                    refine kVX10_isSign (As := [_]) cl_X10_209 (D 127 rfl) (sm_isSg hM hH 60) hM.k0 rfl (Nat.le_of_ble_eq_true rfl) rfl (Nat.le_of_ble_eq_true rfl) (by omega) ?_
                    rintro _ _ ⟨rfl, rfl⟩
                    refine ht_if_ne (tgt := 263) (D 128 rfl) (by decide) (fun hb251 => ?_) (fun hb251 => ?_)
                    · skip
                      exact absurd ⟨b01_ne hb251, hEq.2⟩ hL
                    · skip
                      refine ht_aload_n (D 129 rfl) rfl rfl ?_
                      refine ht_bipush (v := 61) (D 130 rfl) (by decide) ?_
                      refine kVX10_isSign (As := [_]) cl_X10_209 (D 131 rfl) (sm_isSg hM hH 61) hM.k0 rfl (Nat.le_of_ble_eq_true rfl) rfl (Nat.le_of_ble_eq_true rfl) (by omega) ?_
                      rintro _ _ ⟨rfl, rfl⟩
                      refine ht_if_eq (tgt := 304) (D 132 rfl) (by decide) (fun hb260 => ?_) (fun hb260 => ?_)
                      · skip
                        exact absurd hEq.1 (b01_eq hb260)
                      · skip
                        refine ht_aload_n (D 133 rfl) rfl rfl ?_
                        refine gf_X10_74 rfl (D 134 rfl) hM.k0 hM.q22 ?_
                        refine ht_iload_n (D 135 rfl) rfl rfl ?_
                        refine hm_zld (o := 22) (n := d) (by decide) (D 136 rfl) hM.k22 hM.n22 (by first | rfl | exact nI_add _ _ | assumption) (by omega) (by decide) ?_
                        refine ht_if_ne (tgt := 304) (D 137 rfl) (by decide) (fun hb269 => ?_) (fun hb269 => ?_)
                        · skip
                          exact absurd hEq.2 hb269
                        · skip
                          refine ht_aload_n (D 138 rfl) rfl rfl ?_
                          refine ht_aload_n (D 139 rfl) rfl rfl ?_
                          refine ht_bipush (v := 60) (D 140 rfl) (by decide) ?_
                          refine kVX10_isSign (As := [_]) cl_X10_209 (D 141 rfl) (sm_isSg hM hH 60) hM.k0 rfl (Nat.le_of_ble_eq_true rfl) rfl (Nat.le_of_ble_eq_true rfl) (by omega) ?_
                          rintro _ _ ⟨rfl, rfl⟩
                          refine ht_if_eq (tgt := 287) (D 142 rfl) (by decide) (fun hb279 => ?_) (fun hb279 => ?_)
                          · skip
                            refine ht_bipush (v := 25) (D 145 rfl) (by decide) ?_
                            refine kVX10_puts (As := [_]) cl_X10_216 (D 146 rfl) (sm_puts hM _ hH.2.2.2.2.1 (by omega)) hM.k0 rfl (Nat.le_of_ble_eq_true rfl) rfl (Nat.le_of_ble_eq_true rfl) (by omega) ?_
                            rintro _ _ ⟨rfl, rfl⟩
                            refine ht_aload_n (D 147 rfl) rfl rfl ?_
                            refine gf_X10_74 rfl (D 148 rfl) hM.k0 hM.q22 ?_
                            refine ht_iload_n (D 149 rfl) rfl rfl ?_
                            refine ht_iconst (v := 1) (D 150 rfl) (by decide) ?_
                            refine hm_zst (o := 22) (n := d) (by decide) (D 151 rfl) hM.k22 hM.n22 (by first | rfl | exact nI_add _ _ | assumption) (by omega) (by decide) rfl ?_
                            refine ht_iconst (v := 1) (D 152 rfl) (by decide) ?_
                            refine ht_istore_n (D 153 rfl) rfl (by decide) rfl ?_
                            refine ht_goto (tgt := 424) (D 154 rfl) (by decide) ?_
                            refine ht_aload_n (D 214 rfl) rfl rfl ?_
                            refine kVX10_nextToken (As := []) cl_X10_220 (D 215 rfl) (sm_nextToken hM (T := T) (n := n) (p := e) (by rw [up2_o _ _ (by decide), up2_o _ _ (by decide), up2_o _ _ (by decide)]; exact hH.2.1) (by rw [up2_a _ _ (by decide), up2_k _ _ (by decide), up2_a _ _ (by decide)]; exact hH.2.2.1) hH.2.2.2.2.2.2 (by rw [up2_a _ _ (by decide), up2_k _ _ (by decide), up2_a _ _ (by decide)]; exact hH.1.2.2.1) hge.2.1) hM.k0 rfl (Nat.le_of_ble_eq_true rfl) rfl (Nat.le_of_ble_eq_true rfl) (by omega) ?_
                            rintro _ _ ⟨rfl, V2, U2, b2, e2, k2, rfl, hnf, hnu, hrt⟩
                            refine ht_goto (tgt := 11) (D 216 rfl) (by decide) ?_
                            exact kcm 25 (Or.inr ⟨rfl, hEq.1⟩) hEq.2 V2 U2 b2 e2 k2 _ _ _ (HD_nx hH (by rw [up2_o _ _ (by decide), up2_o _ _ (by decide), up2_o _ _ (by decide)]) (by rw [up2_a _ _ (by decide), up2_k _ _ (by decide), up2_a _ _ (by decide)]) (by rw [up2_a _ _ (by decide), up2_k _ _ (by decide), up2_a _ _ (by decide)]) (by rw [up2_a _ _ (by decide), up2_s]) hge.2.2.2 hnf hrt) (FQ_nf (FQ_2 (FQ_0 (FQ_c (FQ_r c V) (Nat.le_refl _) (by omega) _) (by omega) _) (by omega) _ _) hnf) hnu (by rw [hnf.1 20 (by decide), up2_a _ _ (by decide), up2_a _ _ (by decide), up2_s] <;> rfl) (by rw [hnf.1 21 (by decide), up2_o _ _ (by decide), up2_o _ _ (by decide), up2_o _ _ (by decide)] <;> rfl) (by rw [hnf.1 22 (by decide), up2_row, up2_o _ _ (by decide), up2_o _ _ (by decide)] <;> rfl)
                          · skip
                            exact absurd ⟨b01_ne hb279, hEq.2⟩ hL
                  · skip
                    exact absurd (b01_ne hb203) hY
            · skip
              exact absurd rfl hb12
          · have hno : ¬ ((isS T b k 60 ∨ isS T b k 61) ∧ V 22 d = 0) := by
              rintro ⟨q | q, r⟩
              · exact hL ⟨q, r⟩
              · exact hEq ⟨q, r⟩
            refine ht_iload_n (D 9 rfl) rfl rfl ?_
            refine ht_if_eq (tgt := 179) (D 10 rfl) (by decide) (fun hb12 => ?_) (fun hb12 => ?_)
            · skip
              refine ht_aload_n (D 95 rfl) rfl rfl ?_
              refine ht_bipush (v := 43) (D 96 rfl) (by decide) ?_
              refine kVX10_isSign (As := [_]) cl_X10_209 (D 97 rfl) (sm_isSg hM hH 43) hM.k0 rfl (Nat.le_of_ble_eq_true rfl) rfl (Nat.le_of_ble_eq_true rfl) (by omega) ?_
              rintro _ _ ⟨rfl, rfl⟩
              refine ht_if_ne (tgt := 206) (D 98 rfl) (by decide) (fun hb185 => ?_) (fun hb185 => ?_)
              · skip
                exact absurd (b01_ne hb185) hP
              · skip
                refine ht_aload_n (D 99 rfl) rfl rfl ?_
                refine ht_bipush (v := 45) (D 100 rfl) (by decide) ?_
                refine kVX10_isSign (As := [_]) cl_X10_209 (D 101 rfl) (sm_isSg hM hH 45) hM.k0 rfl (Nat.le_of_ble_eq_true rfl) rfl (Nat.le_of_ble_eq_true rfl) (by omega) ?_
                rintro _ _ ⟨rfl, rfl⟩
                refine ht_if_ne (tgt := 206) (D 102 rfl) (by decide) (fun hb194 => ?_) (fun hb194 => ?_)
                · skip
                  exact absurd (b01_ne hb194) hI
                · skip
                  refine ht_aload_n (D 103 rfl) rfl rfl ?_
                  refine ht_bipush (v := 42) (D 104 rfl) (by decide) ?_
                  refine kVX10_isSign (As := [_]) cl_X10_209 (D 105 rfl) (sm_isSg hM hH 42) hM.k0 rfl (Nat.le_of_ble_eq_true rfl) rfl (Nat.le_of_ble_eq_true rfl) (by omega) ?_
                  rintro _ _ ⟨rfl, rfl⟩
                  refine ht_if_eq (tgt := 245) (D 106 rfl) (by decide) (fun hb203 => ?_) (fun hb203 => ?_)
                  · skip
                    refine ht_aload_n (D 125 rfl) rfl rfl ?_
                    refine ht_bipush (v := 60) (D 126 rfl) (by decide) ?_
                    refine kVX10_isSign (As := [_]) cl_X10_209 (D 127 rfl) (sm_isSg hM hH 60) hM.k0 rfl (Nat.le_of_ble_eq_true rfl) rfl (Nat.le_of_ble_eq_true rfl) (by omega) ?_
                    rintro _ _ ⟨rfl, rfl⟩
                    refine ht_if_ne (tgt := 263) (D 128 rfl) (by decide) (fun hb251 => ?_) (fun hb251 => ?_)
                    · skip
                      have hc9 : V 22 d = 0 → False := fun q => hL ⟨b01_ne hb251, q⟩
                      refine ht_aload_n (D 133 rfl) rfl rfl ?_
                      refine gf_X10_74 rfl (D 134 rfl) hM.k0 hM.q22 ?_
                      refine ht_iload_n (D 135 rfl) rfl rfl ?_
                      refine hm_zld (o := 22) (n := d) (by decide) (D 136 rfl) hM.k22 hM.n22 (by first | rfl | exact nI_add _ _ | assumption) (by omega) (by decide) ?_
                      refine ht_if_ne (tgt := 304) (D 137 rfl) (by decide) (fun hb269 => ?_) (fun hb269 => ?_)
                      · skip
                        exact rd_n304 hM hH hd kao kcl ke (kf hP hI hY hno)
                      · skip
                        exact (hc9 hb269).elim
                    · skip
                      refine ht_aload_n (D 129 rfl) rfl rfl ?_
                      refine ht_bipush (v := 61) (D 130 rfl) (by decide) ?_
                      refine kVX10_isSign (As := [_]) cl_X10_209 (D 131 rfl) (sm_isSg hM hH 61) hM.k0 rfl (Nat.le_of_ble_eq_true rfl) rfl (Nat.le_of_ble_eq_true rfl) (by omega) ?_
                      rintro _ _ ⟨rfl, rfl⟩
                      refine ht_if_eq (tgt := 304) (D 132 rfl) (by decide) (fun hb260 => ?_) (fun hb260 => ?_)
                      · skip
                        exact rd_n304 hM hH hd kao kcl ke (kf hP hI hY hno)
                      · skip
                        have hc9 : V 22 d = 0 → False := fun q => hEq ⟨b01_ne hb260, q⟩
                        refine ht_aload_n (D 133 rfl) rfl rfl ?_
                        refine gf_X10_74 rfl (D 134 rfl) hM.k0 hM.q22 ?_
                        refine ht_iload_n (D 135 rfl) rfl rfl ?_
                        refine hm_zld (o := 22) (n := d) (by decide) (D 136 rfl) hM.k22 hM.n22 (by first | rfl | exact nI_add _ _ | assumption) (by omega) (by decide) ?_
                        refine ht_if_ne (tgt := 304) (D 137 rfl) (by decide) (fun hb269 => ?_) (fun hb269 => ?_)
                        · skip
                          exact rd_n304 hM hH hd kao kcl ke (kf hP hI hY hno)
                        · skip
                          exact (hc9 hb269).elim
                  · skip
                    exact absurd (b01_ne hb203) hY
            · skip
              exact absurd rfl hb12
end P7
