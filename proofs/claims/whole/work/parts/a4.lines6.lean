/-! ===== the class: mild, cell, door, man ===== -/
section R4
variable {G : GG} {σ σ0 σ1 σ2 : Hp} {ad : Nat → Nat} {aA aS aV r sA n p b e k S1 : Nat} {T : ST} {s : TD}
set_option maxRecDepth 100000 in
theorem sk_readMild (hE : NE G) (hB : BK G ad aA aS aV) (hJ : ∀ i j, i < 22 → j < 22 → ad i = ad j → i = j) (hH : CS ad T n σ0 S1 s p b e k r sA σ) (hV : TV T n s) : Sp G mX5_readMild 6 [.ref r] σ (QL ad T n σ0 S1 s e r sA (fun K res => res = lnMild T n s b e K)) := by
  have D := dat dl_X5_readMild
  show HT G mX5_readMild 0 [some (.ref r)] [] σ 6 _
  have h41 := hV.1.2.2.2.2
  refine ht_aload_n (D 0 rfl) rfl rfl ?_
  refine gf_X5_141 rfl (D 1 rfl) hH.1.1.rk ?_
  rw [hH.2.1.2.1]
  refine ht_if_eq (tgt := 13) (D 2 rfl) (by decide) (fun hb4 => ?_) (fun hb4 => ?_)
  · skip
    have hc0 : tdC s 4 = 0 := (nI_eq (b := 0) (by omega) (by decide)).mp hb4
    have hL := fun K : TD → Nat → Rl => (show lnMild T n s b e K = _ from ifc_y hc0)
    refine ht_aload_n (D 7 rfl) rfl rfl ?_
    refine gf_X5_30 rfl (D 8 rfl) hH.1.1.rk hH.1.1.q1 ?_
    refine kVX7_next (As := []) cl_X5_42 (D 9 rfl) (sk_next hE hB hH) hH.1.1.tk rfl (Nat.le_of_ble_eq_true rfl) rfl (Nat.le_of_ble_eq_true rfl) (by omega) ?_
    rintro _ σ ⟨rfl, hce⟩
    have hle := Nat.le_refl e
    obtain ⟨b, e, k, hH⟩ := hce
    refine ht_aload_n (D 10 rfl) rfl rfl ?_
    refine ht_bipush (v := 20) (D 11 rfl) (by decide) ?_
    refine kVX5_readNumber (As := [_]) cl_X5_145 (D 12 rfl) (sk_readNumber hE hB hH 20) hH.1.1.rk rfl (Nat.le_of_ble_eq_true rfl) rfl (Nat.le_of_ble_eq_true rfl) (by omega) ?_
    rintro _ σ (⟨hk2, rfl, hft⟩ | ⟨hk2, hgt, rfl, hft⟩ | ⟨hk2, hlq, rfl, hnum, hce⟩)
    · skip
      have hfa := fun K : TD → Nat → Rl => (hL K).trans (nNum_1 hH.tk hk2)
      refine ht_if_ne (tgt := 31) (D 13 rfl) (by decide) (fun hb26 => absurd (by decide) hb26) (fun hb26 => ?_)
      refine ht_iconst (v := 0) (D 14 rfl) (by decide) ?_
      refine ht_iret (D 15 rfl) rfl rfl ?_
      exact Or.inl ⟨_, fun K => (hfa K).symm, rfl, hft⟩
    · skip
      have hfa := fun K : TD → Nat → Rl => (hL K).trans (nNum_4 hH.tk hk2 hgt)
      refine ht_if_ne (tgt := 31) (D 13 rfl) (by decide) (fun hb26 => absurd (by decide) hb26) (fun hb26 => ?_)
      refine ht_iconst (v := 0) (D 14 rfl) (by decide) ?_
      refine ht_iret (D 15 rfl) rfl rfl ?_
      exact Or.inl ⟨_, fun K => (hfa K).symm, rfl, hft⟩
    · skip
      obtain ⟨v, hv, hvx⟩ := dg_le hH.tk hk2 (hi := 20) (by decide) hlq
      have hL := fun K : TD → Nat → Rl => (hL K).trans (nNum_y hH.tk hk2 hlq)
      have hle := Nat.le_trans hle (Nat.le_trans hH.le.1 hH.le.2.1)
      obtain ⟨b, e, k, hH⟩ := hce
      refine ht_if_ne (tgt := 31) (D 13 rfl) (by decide) (fun hb26 => ?_) (fun hb26 => absurd hb26 (by decide))
      refine ht_aload_n (D 16 rfl) rfl rfl ?_
      refine ht_iconst (v := 1) (D 17 rfl) (by decide) ?_
      refine pf_X5_141 rfl (D 18 rfl) hH.1.1.rk (by first | exact Or.inl rfl | exact Or.inr rfl | assumption) ?_
      refine ht_aload_n (D 19 rfl) rfl rfl ?_
      refine gf_X5_12 rfl (D 20 rfl) hH.1.1.rk hH.1.1.q0 ?_
      refine ht_aload_n (D 21 rfl) rfl rfl ?_
      refine gf_X5_148 rfl (D 22 rfl) hH.1.1.rk ?_
      rw [show zI (wI σ r 8 1) r 9 = nI v from ((zI_k σ 1 (by decide)).trans hnum).trans hvx]
      refine pf_X5_151 rfl (D 23 rfl) hH.1.1.lw.k0 ?_
      have hH := hH.wM (nI v)
      simp only [hvx] at hL
      refine ht_iconst (v := 1) (D 24 rfl) (by decide) ?_
      refine ht_iret (D 25 rfl) rfl rfl ?_
      refine Or.inr ⟨_, _, fun K => (hL K).symm, hle, rfl, ?_, _, _, _, hH⟩
      exact TV_mild hV hv
  · skip
    have hc0 : ¬ tdC s 4 = 0 := fun q => hb4 (by rw [q]; rfl)
    have hfa := fun K : TD → Nat → Rl => (show lnMild T n s b e K = _ from ifc_n hc0)
    refine ht_aload_n (D 3 rfl) rfl rfl ?_
    refine ht_iconst (v := 3) (D 4 rfl) (by decide) ?_
    refine kVX5_wrong (As := [_]) cl_X5_109 (D 5 rfl) (sk_wrong hH 3 (by decide)) hH.1.1.rk rfl (Nat.le_of_ble_eq_true rfl) rfl (Nat.le_of_ble_eq_true rfl) (by omega) ?_
    rintro _ σ ⟨rfl, hft⟩
    refine ht_iret (D 6 rfl) rfl rfl ?_
    exact Or.inl ⟨_, fun K => (hfa K).symm, rfl, hft⟩
set_option maxRecDepth 100000 in
theorem sk_readCell (hE : NE G) (hB : BK G ad aA aS aV) (hJ : ∀ i j, i < 22 → j < 22 → ad i = ad j → i = j) (hH : CS ad T n σ0 S1 s p b e k r sA σ) (hV : TV T n s) : Sp G mX5_readCell 6 [.ref r] σ (QL ad T n σ0 S1 s e r sA (fun K res => res = lnCell T n s b e K)) := by
  have D := dat dl_X5_readCell
  show HT G mX5_readCell 0 [some (.ref r), none] [] σ 6 _
  have hv0 := hV.1
  refine ht_aload_n (D 0 rfl) rfl rfl ?_
  refine gf_X5_12 rfl (D 1 rfl) hH.1.1.rk hH.1.1.q0 ?_
  refine gf_X5_154 rfl (D 2 rfl) hH.1.1.lw.k0 ?_
  rw [hH.2.1.1.1]
  refine ht_istore_n (D 3 rfl) rfl (by decide) rfl ?_
  refine ht_iload_n (D 4 rfl) rfl rfl ?_
  refine ht_bipush (v := 8) (D 5 rfl) (by decide) ?_
  refine ht_icmp_lt (tgt := 20) (D 6 rfl) (by decide) (fun hb11 => ?_) (fun hb11 => ?_)
  · skip
    have hc8 : tdC s 0 < 8 := (nI_ltI (a := tdC s 0) (b := 8) (by omega) (by omega)).mp hb11
    have hL := fun K : TD → Nat → Rl => (show lnCell T n s b e K = _ from ifc_y hc8)
    refine ht_aload_n (D 11 rfl) rfl rfl ?_
    refine gf_X5_30 rfl (D 12 rfl) hH.1.1.rk hH.1.1.q1 ?_
    refine kVX7_next (As := []) cl_X5_42 (D 13 rfl) (sk_next hE hB hH) hH.1.1.tk rfl (Nat.le_of_ble_eq_true rfl) rfl (Nat.le_of_ble_eq_true rfl) (by omega) ?_
    rintro _ σ ⟨rfl, hce⟩
    have hle := Nat.le_refl e
    obtain ⟨b, e, k, hH⟩ := hce
    refine ht_aload_n (D 14 rfl) rfl rfl ?_
    refine kVX5_isNewName (As := []) cl_X5_157 (D 15 rfl) (sk_isNewName hB hH hV.1.1 hV.1.2.2.1) hH.1.1.rk rfl (Nat.le_of_ble_eq_true rfl) rfl (Nat.le_of_ble_eq_true rfl) (by omega) ?_
    rintro _ σ (⟨hnm, rfl, hft⟩ | ⟨hnm, hnw, rfl, hft⟩ | ⟨hnm, hnw, rfl, rfl⟩)
    · skip
      have hfa := fun K : TD → Nat → Rl => (hL K).trans (nNew_1 hH.tk hnm)
      refine ht_if_ne (tgt := 36) (D 16 rfl) (by decide) (fun hb31 => absurd (by decide) hb31) (fun hb31 => ?_)
      refine ht_iconst (v := 0) (D 17 rfl) (by decide) ?_
      refine ht_iret (D 18 rfl) rfl rfl ?_
      exact Or.inl ⟨_, fun K => (hfa K).symm, rfl, hft⟩
    · skip
      have hfa := fun K : TD → Nat → Rl => (hL K).trans (nNew_3 hH.tk hnm hnw)
      refine ht_if_ne (tgt := 36) (D 16 rfl) (by decide) (fun hb31 => absurd (by decide) hb31) (fun hb31 => ?_)
      refine ht_iconst (v := 0) (D 17 rfl) (by decide) ?_
      refine ht_iret (D 18 rfl) rfl rfl ?_
      exact Or.inl ⟨_, fun K => (hfa K).symm, rfl, hft⟩
    · skip
      have hL := fun K : TD → Nat → Rl => (hL K).trans (nNew_y hH.tk hnm hnw)
      refine ht_if_ne (tgt := 36) (D 16 rfl) (by decide) (fun hb31 => ?_) (fun hb31 => absurd hb31 (by decide))
      refine ht_aload_n (D 19 rfl) rfl rfl ?_
      refine gf_X5_18 rfl (D 20 rfl) hH.1.1.rk hH.1.1.q2 ?_
      refine ht_iload_n (D 21 rfl) rfl rfl ?_
      refine ht_aload_n (D 22 rfl) rfl rfl ?_
      refine gf_X5_30 rfl (D 23 rfl) hH.1.1.rk hH.1.1.q1 ?_
      refine gf_X5_160 rfl (D 24 rfl) hH.1.1.tk ?_
      rw [hH.nm hnm.1]
      refine ht_lst (n := tdC s 0) (D 25 rfl) hH.1.1.ck hH.1.1.cn (by first | rfl | exact nI_add _ _ | assumption) (by omega) (by first | decide | omega) ?_
      have hH := hH.wN (o := 0) (by decide) (tdC s 0) (pkD T b (e - b))
      refine ht_aload_n (D 26 rfl) rfl rfl ?_
      refine gf_X5_30 rfl (D 27 rfl) hH.1.1.rk hH.1.1.q1 ?_
      refine kVX7_next (As := []) cl_X5_42 (D 28 rfl) (sk_next hE hB hH) hH.1.1.tk rfl (Nat.le_of_ble_eq_true rfl) rfl (Nat.le_of_ble_eq_true rfl) (by omega) ?_
      rintro _ σ ⟨rfl, hce⟩
      have hle := Nat.le_trans hle (Nat.le_trans hH.le.1 hH.le.2.1)
      obtain ⟨b, e, k, hH⟩ := hce
      refine ht_aload_n (D 29 rfl) rfl rfl ?_
      refine ht_gets (hB.st (i := 4) (by decide)) lb_X5_164 (D 30 rfl) ?_
      refine kVX5_readWord (As := [_]) cl_X5_167 (D 31 rfl) (sk_readWord hE hB hJ hH (j := 4) (by decide)) hH.1.1.rk rfl (Nat.le_of_ble_eq_true rfl) rfl (Nat.le_of_ble_eq_true rfl) (by omega) ?_
      rintro _ σ (⟨hno, rfl, hft⟩ | ⟨hye, rfl, hce⟩)
      · skip
        have hfa := fun K : TD → Nat → Rl => (hL K).trans (nWord_n hH.tk hno)
        refine ht_if_eq (tgt := 75) (D 32 rfl) (by decide) (fun hb63 => ?_) (fun hb63 => absurd (by decide) hb63)
        refine ht_iconst (v := 0) (D 37 rfl) (by decide) ?_
        refine ht_iret (D 38 rfl) rfl rfl ?_
        exact Or.inl ⟨_, fun K => (hfa K).symm, rfl, hft⟩
      · skip
        have hL := fun K : TD → Nat → Rl => (hL K).trans (nWord_y hH.tk hye)
        have hle := Nat.le_trans hle (Nat.le_trans hH.le.1 hH.le.2.1)
        obtain ⟨b, e, k, hH⟩ := hce
        refine ht_if_eq (tgt := 75) (D 32 rfl) (by decide) (fun hb63 => absurd hb63 (by decide)) (fun hb63 => ?_)
        refine ht_aload_n (D 33 rfl) rfl rfl ?_
        refine ht_bipush (v := 9) (D 34 rfl) (by decide) ?_
        refine kVX5_readNumber (As := [_]) cl_X5_145 (D 35 rfl) (sk_readNumber hE hB hH 9) hH.1.1.rk rfl (Nat.le_of_ble_eq_true rfl) rfl (Nat.le_of_ble_eq_true rfl) (by omega) ?_
        rintro _ σ (⟨hk2, rfl, hft⟩ | ⟨hk2, hgt, rfl, hft⟩ | ⟨hk2, hlq, rfl, hnum, hce⟩)
        · skip
          have hfa := fun K : TD → Nat → Rl => (hL K).trans (nNum_1 hH.tk hk2)
          refine ht_if_ne (tgt := 77) (D 36 rfl) (by decide) (fun hb72 => absurd (by decide) hb72) (fun hb72 => ?_)
          refine ht_iconst (v := 0) (D 37 rfl) (by decide) ?_
          refine ht_iret (D 38 rfl) rfl rfl ?_
          exact Or.inl ⟨_, fun K => (hfa K).symm, rfl, hft⟩
        · skip
          have hfa := fun K : TD → Nat → Rl => (hL K).trans (nNum_4 hH.tk hk2 hgt)
          refine ht_if_ne (tgt := 77) (D 36 rfl) (by decide) (fun hb72 => absurd (by decide) hb72) (fun hb72 => ?_)
          refine ht_iconst (v := 0) (D 37 rfl) (by decide) ?_
          refine ht_iret (D 38 rfl) rfl rfl ?_
          exact Or.inl ⟨_, fun K => (hfa K).symm, rfl, hft⟩
        · skip
          obtain ⟨v, hv, hvx⟩ := dg_le hH.tk hk2 (hi := 9) (by decide) hlq
          have hL := fun K : TD → Nat → Rl => (hL K).trans (nNum_y hH.tk hk2 hlq)
          have hle := Nat.le_trans hle (Nat.le_trans hH.le.1 hH.le.2.1)
          obtain ⟨b, e, k, hH⟩ := hce
          refine ht_if_ne (tgt := 77) (D 36 rfl) (by decide) (fun hb72 => ?_) (fun hb72 => absurd hb72 (by decide))
          refine ht_aload_n (D 39 rfl) rfl rfl ?_
          refine gf_X5_12 rfl (D 40 rfl) hH.1.1.rk hH.1.1.q0 ?_
          refine gf_X5_171 rfl (D 41 rfl) hH.1.1.lw.k0 hH.1.1.lw.q1 ?_
          refine ht_iload_n (D 42 rfl) rfl rfl ?_
          refine ht_aload_n (D 43 rfl) rfl rfl ?_
          refine gf_X5_148 rfl (D 44 rfl) hH.1.1.rk ?_
          rw [hnum, hvx]
          refine ht_ist (n := tdC s 0) (D 45 rfl) hH.1.1.lw.k1 hH.1.1.lw.n1 (by first | rfl | exact nI_add _ _ | assumption) (by omega) (by first | decide | omega) ?_
          have hH := hH.wR (o := 9) (q := 1) rfl (by decide) (tdC s 0) (nI v)
          simp only [hvx] at hL
          refine ht_aload_n (D 46 rfl) rfl rfl ?_
          refine gf_X5_12 rfl (D 47 rfl) hH.1.1.rk hH.1.1.q0 ?_
          refine ht_dup (D 48 rfl) rfl ?_
          refine gf_X5_154 rfl (D 49 rfl) hH.1.1.lw.k0 ?_
          rw [show zI _ (r + 1) 0 = nI (tdC s 0) from hH.2.1.1.1]
          refine ht_iconst (v := 1) (D 50 rfl) (by decide) ?_
          refine ht_iadd (D 51 rfl) ?_
          rw [show nI (tdC s 0) + 1 = nI (tdC s 0 + 1) from nI_i1 _]
          refine pf_X5_154 rfl (D 52 rfl) hH.1.1.lw.k0 ?_
          have hH := hH.wC (i := 0) (by decide) (tdC s 0 + 1)
          refine ht_iconst (v := 1) (D 53 rfl) (by decide) ?_
          refine ht_iret (D 54 rfl) rfl rfl ?_
          refine Or.inr ⟨_, _, fun K => (hL K).symm, hle, rfl, ?_, _, _, _, hH⟩
          exact TV_cell hV hv hc8
  · skip
    have hc8 : ¬ tdC s 0 < 8 := fun q => hb11 ((nI_ltI (a := tdC s 0) (b := 8) (by omega) (by omega)).mpr q)
    have hfa := fun K : TD → Nat → Rl => (show lnCell T n s b e K = _ from ifc_n hc8)
    refine ht_aload_n (D 7 rfl) rfl rfl ?_
    refine ht_iconst (v := 5) (D 8 rfl) (by decide) ?_
    refine kVX5_wrong (As := [_]) cl_X5_109 (D 9 rfl) (sk_wrong hH 5 (by decide)) hH.1.1.rk rfl (Nat.le_of_ble_eq_true rfl) rfl (Nat.le_of_ble_eq_true rfl) (by omega) ?_
    rintro _ σ ⟨rfl, hft⟩
    refine ht_iret (D 10 rfl) rfl rfl ?_
    exact Or.inl ⟨_, fun K => (hfa K).symm, rfl, hft⟩
set_option maxRecDepth 100000 in
theorem sk_readOther (hE : NE G) (hB : BK G ad aA aS aV) (hJ : ∀ i j, i < 22 → j < 22 → ad i = ad j → i = j) (hH : CS ad T n σ0 S1 s p b e k r sA σ) (hV0 : tdC s 0 ≤ 8) {d j : Nat} (hd : d < 10) (hj : j < 8) (hjd : tdR s 10 d = nI j) : Sp G mX5_readOther 6 [.ref r, .int (nI d)] σ (fun rv σ' => (∃ f, (∀ K, nOth T n s d j p K = .inr f) ∧ rv = some (.int 0) ∧ FT σ0 S1 s r f σ') ∨ (∃ y q, (∀ K, nOth T n s d j p K = K (asR s 11 d y) q) ∧ p ≤ q ∧ rv = some (.int 1) ∧ (y = -1 ∨ ∃ a, a < tdC s 0 ∧ y = nI a) ∧ ¬ nI j = y ∧ CE ad T n σ0 S1 (asR s 11 d y) q r sA σ')) := by
  have D := dat dl_X5_readOther
  show HT G mX5_readOther 0 [some (.ref r), some (.int (nI d)), none] [] σ 6 _
  rcases CT_w hH.1.2.2.1 with ⟨hw, hno0⟩ | ⟨i, hi, hw, hiw⟩
  · skip
    refine ht_iconst (v := -1) (D 0 rfl) (by decide) ?_
    refine ht_istore_n (D 1 rfl) rfl (by decide) rfl ?_
    refine ht_aload_n (D 2 rfl) rfl rfl ?_
    refine gf_X5_30 rfl (D 3 rfl) hH.1.1.rk hH.1.1.q1 ?_
    refine gn_X5_63 rfl (D 4 rfl) hH.1.1.tk hw ?_
    refine ht_gets (hB.st (i := 7) (by decide)) lb_X5_199 (D 5 rfl) ?_
    refine ht_acmp_eq (rx := none) (ry := some (ad 7)) (tgt := 55) (D 6 rfl) (by decide) (fun hb12 => ?_) (fun hb12 => ?_)
    · skip
      cases hb12
    · skip
      have hno7 : ¬ isW T b e k 7 := hno0 7 (by decide)
      have hL := fun K : TD → Nat → Rl => (show nOth T n s d j p K = _ from nOth_c hH.tk hno7)
      refine ht_aload_n (D 7 rfl) rfl rfl ?_
      refine kVX5_isCellName (As := []) cl_X5_177 (D 8 rfl) (sk_isCellName hB hH hV0) hH.1.1.rk rfl (Nat.le_of_ble_eq_true rfl) rfl (Nat.le_of_ble_eq_true rfl) (by omega) ?_
      rintro _ σ (⟨hnm, rfl, hft⟩ | ⟨hnm, hno, rfl, hft⟩ | ⟨hnm, ⟨i2, hi2⟩, rfl, rfl⟩)
      · skip
        have hfa := fun K : TD → Nat → Rl => (hL K).trans (nCell_1 hH.tk hnm)
        refine ht_if_ne (tgt := 24) (D 9 rfl) (by decide) (fun hb19 => absurd (by decide) hb19) (fun hb19 => ?_)
        refine ht_iconst (v := 0) (D 10 rfl) (by decide) ?_
        refine ht_iret (D 11 rfl) rfl rfl ?_
        exact Or.inl ⟨_, hfa, rfl, hft⟩
      · skip
        have hfa := fun K : TD → Nat → Rl => (hL K).trans (nCell_2 hH.tk hnm hno)
        refine ht_if_ne (tgt := 24) (D 9 rfl) (by decide) (fun hb19 => absurd (by decide) hb19) (fun hb19 => ?_)
        refine ht_iconst (v := 0) (D 10 rfl) (by decide) ?_
        refine ht_iret (D 11 rfl) rfl rfl ?_
        exact Or.inl ⟨_, hfa, rfl, hft⟩
      · skip
        have hL := fun K : TD → Nat → Rl => (hL K).trans (nCell_y hH.tk hnm hi2)
        refine ht_if_ne (tgt := 24) (D 9 rfl) (by decide) (fun hb19 => ?_) (fun hb19 => absurd hb19 (by decide))
        refine ht_aload_n (D 12 rfl) rfl rfl ?_
        refine ht_aload_n (D 13 rfl) rfl rfl ?_
        refine gf_X5_30 rfl (D 14 rfl) hH.1.1.rk hH.1.1.q1 ?_
        refine gf_X5_160 rfl (D 15 rfl) hH.1.1.tk ?_
        refine kVX5_cellNamed (As := [_]) cl_X5_183 (D 16 rfl) (sk_cellNamed hH hV0 hnm.1 hi2) hH.1.1.rk rfl (Nat.le_of_ble_eq_true rfl) rfl (Nat.le_of_ble_eq_true rfl) (by omega) ?_
        rintro _ σ ⟨rfl, rfl⟩
        refine ht_istore_n (D 17 rfl) rfl (by decide) rfl ?_
        refine ht_iload_n (D 18 rfl) rfl rfl ?_
        refine ht_aload_n (D 19 rfl) rfl rfl ?_
        refine gf_X5_12 rfl (D 20 rfl) hH.1.1.rk hH.1.1.q0 ?_
        refine gf_X5_180 rfl (D 21 rfl) hH.1.1.lw.k0 hH.1.1.lw.q3 ?_
        refine ht_iload_n (D 22 rfl) rfl rfl ?_
        refine ht_ild (n := d) (D 23 rfl) hH.1.1.lw.k3 hH.1.1.lw.n3 (by first | rfl | exact nI_add _ _ | assumption) (by omega) (by first | decide | omega) ?_
        rw [show zI σ (r + 1 + 3) d = nI j from (congrFun (hH.2.1.2.2.1 10 (by decide)) d).trans hjd]
        refine ht_icmp_ne (tgt := 55) (D 24 rfl) (by decide) (fun hb46 => ?_) (fun hb46 => ?_)
        · skip
          have hne : ¬ i2 = j := fun q => hb46 (by rw [q])
          have hL := fun K : TD → Nat → Rl => (hL K).trans (ifc_n hne)
          have hy2 : nI i2 = -1 ∨ ∃ a, a < tdC s 0 ∧ nI i2 = nI a := Or.inr ⟨i2, hi2.1, rfl⟩
          have hn2 : ¬ nI j = nI i2 := fun q => hne ((nI_eq (by omega) (by have := hi2.1; omega)).mp q).symm
          refine ht_aload_n (D 29 rfl) rfl rfl ?_
          refine gf_X5_12 rfl (D 30 rfl) hH.1.1.rk hH.1.1.q0 ?_
          refine gf_X5_202 rfl (D 31 rfl) hH.1.1.lw.k0 hH.1.1.lw.q4 ?_
          refine ht_iload_n (D 32 rfl) rfl rfl ?_
          refine ht_iload_n (D 33 rfl) rfl rfl ?_
          refine ht_ist (n := d) (D 34 rfl) hH.1.1.lw.k4 hH.1.1.lw.n4 (by first | rfl | exact nI_add _ _ | assumption) (by omega) (by first | decide | omega) ?_
          have hle : p ≤ e := Nat.le_trans hH.le.1 hH.le.2.1
          have hH := hH.wR (o := 11) (q := 4) rfl (by decide) d (nI i2)
          refine ht_aload_n (D 35 rfl) rfl rfl ?_
          refine gf_X5_30 rfl (D 36 rfl) hH.1.1.rk hH.1.1.q1 ?_
          refine kVX7_next (As := []) cl_X5_42 (D 37 rfl) (sk_next hE hB hH) hH.1.1.tk rfl (Nat.le_of_ble_eq_true rfl) rfl (Nat.le_of_ble_eq_true rfl) (by omega) ?_
          rintro _ σ ⟨rfl, hce⟩
          refine ht_iconst (v := 1) (D 38 rfl) (by decide) ?_
          refine ht_iret (D 39 rfl) rfl rfl ?_
          exact Or.inr ⟨_, _, hL, hle, rfl, hy2, hn2, hce⟩
        · skip
          have heq : i2 = j := (nI_eq (by have := hi2.1; omega) (by omega)).mp hb46
          have hfa := fun K : TD → Nat → Rl => (hL K).trans (ifc_y heq)
          refine ht_aload_n (D 25 rfl) rfl rfl ?_
          refine ht_iconst (v := 3) (D 26 rfl) (by decide) ?_
          refine kVX5_wrong (As := [_]) cl_X5_109 (D 27 rfl) (sk_wrong hH 3 (by decide)) hH.1.1.rk rfl (Nat.le_of_ble_eq_true rfl) rfl (Nat.le_of_ble_eq_true rfl) (by omega) ?_
          rintro _ σ ⟨rfl, hft⟩
          refine ht_iret (D 28 rfl) rfl rfl ?_
          exact Or.inl ⟨_, hfa, rfl, hft⟩
  · skip
    refine ht_iconst (v := -1) (D 0 rfl) (by decide) ?_
    refine ht_istore_n (D 1 rfl) rfl (by decide) rfl ?_
    refine ht_aload_n (D 2 rfl) rfl rfl ?_
    refine gf_X5_30 rfl (D 3 rfl) hH.1.1.rk hH.1.1.q1 ?_
    refine gf_X5_63 rfl (D 4 rfl) hH.1.1.tk hw ?_
    refine ht_gets (hB.st (i := 7) (by decide)) lb_X5_199 (D 5 rfl) ?_
    refine ht_acmp_eq (rx := some (ad i)) (ry := some (ad 7)) (tgt := 55) (D 6 rfl) (by decide) (fun hb12 => ?_) (fun hb12 => ?_)
    · skip
      have hye : isW T b e k 7 := by
        have h9 := hJ i 7 hi (by decide) (Option.some.inj hb12)
        rw [← h9]; exact hiw
      have hL := fun K : TD → Nat → Rl => (show nOth T n s d j p K = _ from nOth_o hH.tk hye)
      have hy2 : (-1 : Int32) = -1 ∨ ∃ a, a < tdC s 0 ∧ (-1 : Int32) = nI a := Or.inl rfl
      have hn2 : ¬ nI j = -1 := nI_ge0 (by omega)
      refine ht_aload_n (D 29 rfl) rfl rfl ?_
      refine gf_X5_12 rfl (D 30 rfl) hH.1.1.rk hH.1.1.q0 ?_
      refine gf_X5_202 rfl (D 31 rfl) hH.1.1.lw.k0 hH.1.1.lw.q4 ?_
      refine ht_iload_n (D 32 rfl) rfl rfl ?_
      refine ht_iload_n (D 33 rfl) rfl rfl ?_
      refine ht_ist (n := d) (D 34 rfl) hH.1.1.lw.k4 hH.1.1.lw.n4 (by first | rfl | exact nI_add _ _ | assumption) (by omega) (by first | decide | omega) ?_
      have hle : p ≤ e := Nat.le_trans hH.le.1 hH.le.2.1
      have hH := hH.wR (o := 11) (q := 4) rfl (by decide) d (-1)
      refine ht_aload_n (D 35 rfl) rfl rfl ?_
      refine gf_X5_30 rfl (D 36 rfl) hH.1.1.rk hH.1.1.q1 ?_
      refine kVX7_next (As := []) cl_X5_42 (D 37 rfl) (sk_next hE hB hH) hH.1.1.tk rfl (Nat.le_of_ble_eq_true rfl) rfl (Nat.le_of_ble_eq_true rfl) (by omega) ?_
      rintro _ σ ⟨rfl, hce⟩
      refine ht_iconst (v := 1) (D 38 rfl) (by decide) ?_
      refine ht_iret (D 39 rfl) rfl rfl ?_
      exact Or.inr ⟨_, _, hL, hle, rfl, hy2, hn2, hce⟩
    · skip
      have hno7 : ¬ isW T b e k 7 := fun q => hb12 (by rw [wB_inj hi (by decide) (hiw.2.symm.trans q.2)])
      have hL := fun K : TD → Nat → Rl => (show nOth T n s d j p K = _ from nOth_c hH.tk hno7)
      refine ht_aload_n (D 7 rfl) rfl rfl ?_
      refine kVX5_isCellName (As := []) cl_X5_177 (D 8 rfl) (sk_isCellName hB hH hV0) hH.1.1.rk rfl (Nat.le_of_ble_eq_true rfl) rfl (Nat.le_of_ble_eq_true rfl) (by omega) ?_
      rintro _ σ (⟨hnm, rfl, hft⟩ | ⟨hnm, hno, rfl, hft⟩ | ⟨hnm, ⟨i2, hi2⟩, rfl, rfl⟩)
      · skip
        have hfa := fun K : TD → Nat → Rl => (hL K).trans (nCell_1 hH.tk hnm)
        refine ht_if_ne (tgt := 24) (D 9 rfl) (by decide) (fun hb19 => absurd (by decide) hb19) (fun hb19 => ?_)
        refine ht_iconst (v := 0) (D 10 rfl) (by decide) ?_
        refine ht_iret (D 11 rfl) rfl rfl ?_
        exact Or.inl ⟨_, hfa, rfl, hft⟩
      · skip
        have hfa := fun K : TD → Nat → Rl => (hL K).trans (nCell_2 hH.tk hnm hno)
        refine ht_if_ne (tgt := 24) (D 9 rfl) (by decide) (fun hb19 => absurd (by decide) hb19) (fun hb19 => ?_)
        refine ht_iconst (v := 0) (D 10 rfl) (by decide) ?_
        refine ht_iret (D 11 rfl) rfl rfl ?_
        exact Or.inl ⟨_, hfa, rfl, hft⟩
      · skip
        have hL := fun K : TD → Nat → Rl => (hL K).trans (nCell_y hH.tk hnm hi2)
        refine ht_if_ne (tgt := 24) (D 9 rfl) (by decide) (fun hb19 => ?_) (fun hb19 => absurd hb19 (by decide))
        refine ht_aload_n (D 12 rfl) rfl rfl ?_
        refine ht_aload_n (D 13 rfl) rfl rfl ?_
        refine gf_X5_30 rfl (D 14 rfl) hH.1.1.rk hH.1.1.q1 ?_
        refine gf_X5_160 rfl (D 15 rfl) hH.1.1.tk ?_
        refine kVX5_cellNamed (As := [_]) cl_X5_183 (D 16 rfl) (sk_cellNamed hH hV0 hnm.1 hi2) hH.1.1.rk rfl (Nat.le_of_ble_eq_true rfl) rfl (Nat.le_of_ble_eq_true rfl) (by omega) ?_
        rintro _ σ ⟨rfl, rfl⟩
        refine ht_istore_n (D 17 rfl) rfl (by decide) rfl ?_
        refine ht_iload_n (D 18 rfl) rfl rfl ?_
        refine ht_aload_n (D 19 rfl) rfl rfl ?_
        refine gf_X5_12 rfl (D 20 rfl) hH.1.1.rk hH.1.1.q0 ?_
        refine gf_X5_180 rfl (D 21 rfl) hH.1.1.lw.k0 hH.1.1.lw.q3 ?_
        refine ht_iload_n (D 22 rfl) rfl rfl ?_
        refine ht_ild (n := d) (D 23 rfl) hH.1.1.lw.k3 hH.1.1.lw.n3 (by first | rfl | exact nI_add _ _ | assumption) (by omega) (by first | decide | omega) ?_
        rw [show zI σ (r + 1 + 3) d = nI j from (congrFun (hH.2.1.2.2.1 10 (by decide)) d).trans hjd]
        refine ht_icmp_ne (tgt := 55) (D 24 rfl) (by decide) (fun hb46 => ?_) (fun hb46 => ?_)
        · skip
          have hne : ¬ i2 = j := fun q => hb46 (by rw [q])
          have hL := fun K : TD → Nat → Rl => (hL K).trans (ifc_n hne)
          have hy2 : nI i2 = -1 ∨ ∃ a, a < tdC s 0 ∧ nI i2 = nI a := Or.inr ⟨i2, hi2.1, rfl⟩
          have hn2 : ¬ nI j = nI i2 := fun q => hne ((nI_eq (by omega) (by have := hi2.1; omega)).mp q).symm
          refine ht_aload_n (D 29 rfl) rfl rfl ?_
          refine gf_X5_12 rfl (D 30 rfl) hH.1.1.rk hH.1.1.q0 ?_
          refine gf_X5_202 rfl (D 31 rfl) hH.1.1.lw.k0 hH.1.1.lw.q4 ?_
          refine ht_iload_n (D 32 rfl) rfl rfl ?_
          refine ht_iload_n (D 33 rfl) rfl rfl ?_
          refine ht_ist (n := d) (D 34 rfl) hH.1.1.lw.k4 hH.1.1.lw.n4 (by first | rfl | exact nI_add _ _ | assumption) (by omega) (by first | decide | omega) ?_
          have hle : p ≤ e := Nat.le_trans hH.le.1 hH.le.2.1
          have hH := hH.wR (o := 11) (q := 4) rfl (by decide) d (nI i2)
          refine ht_aload_n (D 35 rfl) rfl rfl ?_
          refine gf_X5_30 rfl (D 36 rfl) hH.1.1.rk hH.1.1.q1 ?_
          refine kVX7_next (As := []) cl_X5_42 (D 37 rfl) (sk_next hE hB hH) hH.1.1.tk rfl (Nat.le_of_ble_eq_true rfl) rfl (Nat.le_of_ble_eq_true rfl) (by omega) ?_
          rintro _ σ ⟨rfl, hce⟩
          refine ht_iconst (v := 1) (D 38 rfl) (by decide) ?_
          refine ht_iret (D 39 rfl) rfl rfl ?_
          exact Or.inr ⟨_, _, hL, hle, rfl, hy2, hn2, hce⟩
        · skip
          have heq : i2 = j := (nI_eq (by have := hi2.1; omega) (by omega)).mp hb46
          have hfa := fun K : TD → Nat → Rl => (hL K).trans (ifc_y heq)
          refine ht_aload_n (D 25 rfl) rfl rfl ?_
          refine ht_iconst (v := 3) (D 26 rfl) (by decide) ?_
          refine kVX5_wrong (As := [_]) cl_X5_109 (D 27 rfl) (sk_wrong hH 3 (by decide)) hH.1.1.rk rfl (Nat.le_of_ble_eq_true rfl) rfl (Nat.le_of_ble_eq_true rfl) (by omega) ?_
          rintro _ σ ⟨rfl, hft⟩
          refine ht_iret (D 28 rfl) rfl rfl ?_
          exact Or.inl ⟨_, hfa, rfl, hft⟩
end R4
