/-! ===== the class: the reader reads a level ===== -/
section Q3
variable {G : GG} {σ σ1 σ2 : Hp} {ad : Nat → Nat} {aA aS aV r sA n p b e k c d l : Nat} {T : ST} {ice : Bool}
theorem z16 (x : Int32) : (0 : Int32) * 16 + x = x := by rw [Int32.zero_mul, Int32.zero_add]
theorem opS_ne (op : Nat) : ¬ opS op = -1 := by
  unfold opS
  (repeat' split) <;> decide
set_option maxRecDepth 100000 in
set_option maxHeartbeats 1000000 in
theorem sc_readLevel (hE : NE G) (hB : BK G ad aA aS aV) (hJ : ∀ i j, i < 22 → j < 22 → ad i = ad j → i = j) (hd : d ≤ 5) (hl : l < 4)
    (ihL : l < 4 → ∀ (σ : Hp) (p b e k c : Nat), CH ad T n ice p b e k c r sA σ → Sp G mX5_readLevel (6 + 6 * (5 - d) + (1 + (4 - (l + 1)))) [.ref r, .int (nI (l + 1)), .int (nI d)] σ (QPr (RLv T n ice (l + 1) d p) ad T n ice c r sA σ))
    (hH : CH ad T n ice p b e k c r sA σ) : Sp G mX5_readLevel (6 + 6 * (5 - d) + (1 + (4 - l))) [.ref r, .int (nI l), .int (nI d)] σ (QPr (RLv T n ice l d p) ad T n ice c r sA σ) := by
  have D := dat dl_X5_readLevel
  have hn2 : n ≤ 1000 := hH.1.ts.2.2.2.2.2.1
  have loop : ∀ {M : Nat}, (l = 1 ∧ M = 1) ∨ (¬ l = 1 ∧ M = 1000) → ∀ (m i : Nat) (u : Bool) (q1 : Nat) (E1 : EX) (σ1 : Hp) (b e k : Nat) (l5 : Option Value), CH ad T n ice q1 b e k (c + E1.2.1.length) r sA σ1 → QF r σ σ1 → CDs (zI σ1 (r + 15)) c E1.2.1 → (∀ i, i < c → zI σ1 (r + 15) i = zI σ (r + 15) i) → i ≤ q1 → (u = true ↔ 0 < i) → i ≤ 1000 → 1000 - i = m → HT G mX5_readLevel 40 [some (.ref r), some (.int (nI l)), some (.int (nI d)), some (.int (nI M)), some (.int (nI i)), l5] [] σ1 (6 + 6 * (5 - d) + (1 + (4 - l))) (QPr (ROp T n ice l d u q1 E1) ad T n ice c r sA σ) := by
    intro M hMM m
    induction m using Nat.strongRecOn with
    | _ m ih =>
      intro i u q1 E1 σ1 b e k l5 hH hQ1 hC1 hl1 hiq hu hi1 hm
      refine ht_iload (D 25 rfl) rfl ?_
      refine ht_iload_n (D 26 rfl) rfl rfl ?_
      refine ht_icmp_ge (tgt := 94) (D 27 rfl) (by decide) (fun hb43 => ?_) (fun hb43 => ?_)
      · skip
        have hiM : M ≤ i := (nI_leI (a := M) (b := i) (by omega) (by omega)).mp hb43
        refine ht_iconst (v := 1) (D 55 rfl) (by decide) ?_
        refine ht_iret (D 56 rfl) rfl rfl ?_
        have hst : (u = true ∧ l = 1) ∨ ∀ op, ¬ OP T b e k l op := by
          by_cases q : l = 1
          · exact Or.inl ⟨hu.mpr (by omega), q⟩
          · refine Or.inr (fun op ho => ?_)
            have h1 := (OP_sg ho).2.2
            have h2 := TK_le hH.2.2.1.1
            omega
        exact ⟨.inl (q1, E1), (ClR_self T n ice).2.2.2.2.2.2.2.2.2.2.1 l d u q1 E1 b e k hl hH.2.2.1.1 (hst), hQ1, Or.inr ⟨q1, E1, b, e, k, rfl, rfl, hH, hC1, hl1⟩⟩
      · skip
        have hiM : i < M := by have h9 := mt (nI_leI (a := M) (b := i) (by omega) (by omega)).mpr hb43; omega
        have hnu : ¬ (u = true ∧ l = 1) := fun q => by have h1 := hu.mp q.1; omega
        refine ht_aload_n (D 28 rfl) rfl rfl ?_
        refine ht_iload_n (D 29 rfl) rfl rfl ?_
        refine kVX5_operatorOf (As := [_]) cl_X5_245 (D 30 rfl) (sc_operatorOf hB hJ hH hl) hH.1.rk rfl (Nat.le_of_ble_eq_true rfl) rfl (Nat.le_of_ble_eq_true rfl) (by omega) ?_
        rintro _ σ1 ⟨⟨op, hop, rfl⟩ | ⟨hnop, rfl⟩, rfl⟩
        · skip
          refine ht_istore (D 31 rfl) (by decide) rfl ?_
          refine ht_iload (D 32 rfl) rfl ?_
          refine ht_iconst (v := -1) (D 33 rfl) (by decide) ?_
          refine ht_icmp_ne (tgt := 61) (D 34 rfl) (by decide) (fun hb56 => ?_) (fun hb56 => ?_)
          · skip
            refine ht_aload_n (D 37 rfl) rfl rfl ?_
            refine gf_X5_30 rfl (D 38 rfl) hH.1.rk hH.1.q1 ?_
            refine kVX7_next (As := []) cl_X5_42 (D 39 rfl) (sc_nxt hE hB hH (QF_r r σ1) hH.2.2.1.2.2.1) hH.1.tk rfl (Nat.le_of_ble_eq_true rfl) rfl (Nat.le_of_ble_eq_true rfl) (by omega) ?_
            rintro _ σ2 ⟨rfl, b2, e2, k2, hTF, hCT⟩
            have hk0 := (OP_sg hop).2.2
            have hte := TK_le hH.2.2.1.1
            have hcq := hH.2.2.2.2.1
            have hH2 : CH ad T n ice e b2 e2 k2 (c + E1.2.1.length) r sA σ2 := CH_nx hH (QF_r r σ1) hH.2.2.2.1 (by omega) hTF hCT
            refine ht_aload_n (D 40 rfl) rfl rfl ?_
            refine ht_iload_n (D 41 rfl) rfl rfl ?_
            refine ht_iconst (v := 1) (D 42 rfl) (by decide) ?_
            refine ht_iadd (D 43 rfl) ?_
            refine ht_iload_n (D 44 rfl) rfl rfl ?_
            rw [show nI l + 1 = nI (l + 1) from nI_1 l]
            refine kVX5_readLevel (As := [_, _]) cl_X5_132 (D 45 rfl) (ihL hl σ2 e b2 e2 k2 _ hH2) hH2.1.rk rfl (Nat.le_of_ble_eq_true rfl) rfl (Nat.le_of_ble_eq_true rfl) (by omega) ?_
            rintro _ σ3 ⟨rs, hR, hQF, ⟨f, rfl, rfl, hf⟩ | ⟨q2, E2, b3, e3, k3, rfl, rfl, hH3, hCD, hlo⟩⟩
            · skip
              refine ht_if_ne (tgt := 81) (D 46 rfl) (by decide) (fun hb76 => absurd (by decide) hb76) (fun hb76 => ?_)
              refine ht_iconst (v := 0) (D 47 rfl) (by decide) ?_
              refine ht_iret (D 48 rfl) rfl rfl ?_
              exact ⟨.inr f, (ClR_self T n ice).2.2.2.2.2.2.2.2.2.2.2.1 l d u q1 E1 b e k op f hl hH.2.2.1.1 hop hnu hR, QF_t hQ1 (QF_t (QF_tf hTF) hQF), Or.inl ⟨f, rfl, rfl, hf⟩⟩
            · skip
              have hlen := hR _ _ _ (ClR_l T n ice) q2 E2 rfl
              have hq3 := TK_le hH3.2.2.1.1
              have hc3 := hH3.2.2.2.2.1
              have hln : c + (bnE op E1 E2).2.1.length = c + E1.2.1.length + E2.2.1.length + 1 := by
                show c + (E1.2.1 ++ E2.2.1 ++ [opS op]).length = _
                rw [List.length_append, List.length_append]
                show c + (E1.2.1.length + E2.2.1.length + 1) = _
                omega
              have hlow : ∀ z, z < c + E1.2.1.length → zI (adS σ3 r (c + E1.2.1.length + E2.2.1.length) (opS op)) (r + 15) z = zI σ1 (r + 15) z := fun z hz => by
                rw [adS_k σ3 r _ _ (by omega), hlo z hz, (hTF.2.2.2.2.1 (r + 15) (by omega)).1]
              refine ht_if_ne (tgt := 81) (D 46 rfl) (by decide) (fun hb76 => ?_) (fun hb76 => absurd hb76 (by decide))
              refine ht_aload_n (D 49 rfl) rfl rfl ?_
              refine ht_iload (D 50 rfl) rfl ?_
              refine ht_iconst (v := 0) (D 51 rfl) (by decide) ?_
              refine kVX5_addStep (As := [_, _]) cl_X5_249 (D 52 rfl) (sc_addStep hH3.1 hH3.2.2.2.1 (by omega) (opS op) 0) hH3.1.rk rfl (Nat.le_of_ble_eq_true rfl) rfl (Nat.le_of_ble_eq_true rfl) (by omega) ?_
              rintro _ _ ⟨rfl, rfl⟩
              rw [z16]
              refine ht_iinc (v := nI (i + 1)) (D 53 rfl) rfl (nI_i1 _) (by decide) rfl ?_
              refine ht_goto (tgt := 40) (D 54 rfl) (by decide) ?_
              refine ht_cast (ht_mono (ih (1000 - (i + 1)) (by omega) (i + 1) true q2 (bnE op E1 E2) _ b3 e3 k3 _ (by rw [hln]; exact CH_ad hH3 (by omega) (opS op)) (QF_t hQ1 (QF_t (QF_t (QF_tf hTF) hQF) (adS_f σ3 r _ _))) ?_ ?_ (by omega) (by simp) (by omega) rfl) ?_) rfl rfl rfl
              · exact CDs_app (CDs_app (CDs_cg hC1 hlow) (CDs_cg hCD (fun z hz => adS_k σ3 r _ _ (by omega)))) (CDs_one (by rw [List.length_append, ← Nat.add_assoc]; exact adS_s σ3 r _ _))
              · intro z hz
                rw [hlow z (by omega)]
                exact hl1 z hz
              · rintro rv σ9 ⟨rs, z1, z2⟩
                exact ⟨rs, (ClR_self T n ice).2.2.2.2.2.2.2.2.2.2.2.2 l d u q1 E1 b e k op q2 E2 rs hl hH.2.2.1.1 hop hnu hR z1, z2⟩
          · skip
            exact absurd hb56 (opS_ne op)
        · skip
          refine ht_istore (D 31 rfl) (by decide) rfl ?_
          refine ht_iload (D 32 rfl) rfl ?_
          refine ht_iconst (v := -1) (D 33 rfl) (by decide) ?_
          refine ht_icmp_ne (tgt := 61) (D 34 rfl) (by decide) (fun hb56 => ?_) (fun hb56 => ?_)
          · skip
            exact absurd rfl hb56
          · skip
            refine ht_iconst (v := 1) (D 35 rfl) (by decide) ?_
            refine ht_iret (D 36 rfl) rfl rfl ?_
            exact ⟨.inl (q1, E1), (ClR_self T n ice).2.2.2.2.2.2.2.2.2.2.1 l d u q1 E1 b e k hl hH.2.2.1.1 (Or.inr hnop), hQ1, Or.inr ⟨q1, E1, b, e, k, rfl, rfl, hH, hC1, hl1⟩⟩
  show HT G mX5_readLevel 0 [some (.ref r), some (.int (nI l)), some (.int (nI d)), none, none, none] [] σ (6 + 6 * (5 - d) + (1 + (4 - l))) _
  refine ht_iload_n (D 0 rfl) rfl rfl ?_
  refine ht_iconst (v := 4) (D 1 rfl) (by decide) ?_
  refine ht_icmp_lt (tgt := 11) (D 2 rfl) (by decide) (fun hb2 => ?_) (fun hb2 => ?_)
  · skip
    refine ht_aload_n (D 7 rfl) rfl rfl ?_
    refine ht_iload_n (D 8 rfl) rfl rfl ?_
    refine ht_iconst (v := 1) (D 9 rfl) (by decide) ?_
    refine ht_iadd (D 10 rfl) ?_
    refine ht_iload_n (D 11 rfl) rfl rfl ?_
    rw [show nI l + 1 = nI (l + 1) from nI_1 l]
    refine kVX5_readLevel (As := [_, _]) cl_X5_132 (D 12 rfl) (ihL hl σ p b e k c hH) hH.1.rk rfl (Nat.le_of_ble_eq_true rfl) rfl (Nat.le_of_ble_eq_true rfl) (by omega) ?_
    rintro _ σ3 ⟨rs, hR, hQF, ⟨f, rfl, rfl, hf⟩ | ⟨q1, E1, b3, e3, k3, rfl, rfl, hH3, hCD, hlo⟩⟩
    · skip
      refine ht_if_ne (tgt := 24) (D 13 rfl) (by decide) (fun hb19 => absurd (by decide) hb19) (fun hb19 => ?_)
      refine ht_iconst (v := 0) (D 14 rfl) (by decide) ?_
      refine ht_iret (D 15 rfl) rfl rfl ?_
      exact ⟨.inr f, (ClR_self T n ice).2.2.2.2.2.2.2.2.1 l d p f hl hR, hQF, Or.inl ⟨f, rfl, rfl, hf⟩⟩
    · skip
      refine ht_if_ne (tgt := 24) (D 13 rfl) (by decide) (fun hb19 => ?_) (fun hb19 => absurd hb19 (by decide))
      refine ht_iload_n (D 16 rfl) rfl rfl ?_
      refine ht_iconst (v := 1) (D 17 rfl) (by decide) ?_
      refine ht_icmp_ne (tgt := 33) (D 18 rfl) (by decide) (fun hb26 => ?_) (fun hb26 => ?_)
      · skip
        have hl1 : ¬ l = 1 := fun q => hb26 (by rw [q]; rfl)
        refine ht_sipush (v := 1000) (D 21 rfl) (by decide) ?_
        refine ht_istore_n (D 22 rfl) rfl (by decide) rfl ?_
        refine ht_iconst (v := 0) (D 23 rfl) (by decide) ?_
        refine ht_istore (D 24 rfl) (by decide) rfl ?_
        refine ht_cast (ht_mono (loop (M := 1000) (Or.inr ⟨hl1, rfl⟩) 1000 0 false q1 E1 σ3 b3 e3 k3 none hH3 hQF hCD hlo (by omega) (by simp) (by omega) rfl) ?_) rfl rfl rfl
        rintro rv σ9 ⟨rs, z1, z2⟩
        exact ⟨rs, (ClR_self T n ice).2.2.2.2.2.2.2.2.2.1 l d p q1 E1 rs hl hR z1, z2⟩
      · skip
        have hl1 : l = 1 := (nI_eq (a := l) (b := 1) (by omega) (by omega)).mp hb26
        refine ht_iconst (v := 1) (D 19 rfl) (by decide) ?_
        refine ht_goto (tgt := 36) (D 20 rfl) (by decide) ?_
        refine ht_istore_n (D 22 rfl) rfl (by decide) rfl ?_
        refine ht_iconst (v := 0) (D 23 rfl) (by decide) ?_
        refine ht_istore (D 24 rfl) (by decide) rfl ?_
        refine ht_cast (ht_mono (loop (M := 1) (Or.inl ⟨hl1, rfl⟩) 1000 0 false q1 E1 σ3 b3 e3 k3 none hH3 hQF hCD hlo (by omega) (by simp) (by omega) rfl) ?_) rfl rfl rfl
        rintro rv σ9 ⟨rs, z1, z2⟩
        exact ⟨rs, (ClR_self T n ice).2.2.2.2.2.2.2.2.2.1 l d p q1 E1 rs hl hR z1, z2⟩
  · skip
    exact absurd (nI_lt (a := l) (b := 4) (by omega) (by omega)) hb2
end Q3
