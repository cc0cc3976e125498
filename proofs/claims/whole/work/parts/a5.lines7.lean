/-! ===== the class: door, man ===== -/
section R5
variable {G : GG} {σ σ0 σ1 σ2 : Hp} {ad : Nat → Nat} {aA aS aV r sA n p b e k S1 : Nat} {T : ST} {s : TD}
set_option maxRecDepth 100000 in
theorem sk_readDoor (hE : NE G) (hB : BK G ad aA aS aV) (hJ : ∀ i j, i < 22 → j < 22 → ad i = ad j → i = j) (hH : CS ad T n σ0 S1 s p b e k r sA σ) (hV : TV T n s) : Sp G mX5_readDoor 7 [.ref r] σ (QL ad T n σ0 S1 s e r sA (fun K res => res = lnDoor T n s b e K)) := by
  have D := dat dl_X5_readDoor
  show HT G mX5_readDoor 0 [some (.ref r), none] [] σ 7 _
  have hv0 := hV.1
  refine ht_aload_n (D 0 rfl) rfl rfl ?_
  refine gf_X5_12 rfl (D 1 rfl) hH.1.1.rk hH.1.1.q0 ?_
  refine gf_X5_174 rfl (D 2 rfl) hH.1.1.lw.k0 ?_
  rw [hH.2.1.1.2.1]
  refine ht_istore_n (D 3 rfl) rfl (by decide) rfl ?_
  refine ht_iload_n (D 4 rfl) rfl rfl ?_
  refine ht_bipush (v := 10) (D 5 rfl) (by decide) ?_
  refine ht_icmp_lt (tgt := 20) (D 6 rfl) (by decide) (fun hb11 => ?_) (fun hb11 => ?_)
  · skip
    have hc8 : tdC s 1 < 10 := (nI_ltI (a := tdC s 1) (b := 10) (by omega) (by omega)).mp hb11
    have hL := fun K : TD → Nat → Rl => (show lnDoor T n s b e K = _ from ifc_y hc8)
    refine ht_aload_n (D 11 rfl) rfl rfl ?_
    refine gf_X5_30 rfl (D 12 rfl) hH.1.1.rk hH.1.1.q1 ?_
    refine kVX7_next (As := []) cl_X5_42 (D 13 rfl) (sk_next hE hB hH) hH.1.1.tk rfl (Nat.le_of_ble_eq_true rfl) rfl (Nat.le_of_ble_eq_true rfl) (by omega) ?_
    rintro _ σ ⟨rfl, hce⟩
    have hle := Nat.le_refl e
    obtain ⟨b, e, k, hH⟩ := hce
    refine ht_aload_n (D 14 rfl) rfl rfl ?_
    refine kVX5_isCellName (As := []) cl_X5_177 (D 15 rfl) (sk_isCellName hB hH hV.1.1) hH.1.1.rk rfl (Nat.le_of_ble_eq_true rfl) rfl (Nat.le_of_ble_eq_true rfl) (by omega) ?_
    rintro _ σ (⟨hnm, rfl, hft⟩ | ⟨hnm, hno, rfl, hft⟩ | ⟨hnm, ⟨j, hj⟩, rfl, rfl⟩)
    · skip
      have hfa := fun K : TD → Nat → Rl => (hL K).trans (nCell_1 hH.tk hnm)
      refine ht_if_ne (tgt := 36) (D 16 rfl) (by decide) (fun hb31 => absurd (by decide) hb31) (fun hb31 => ?_)
      refine ht_iconst (v := 0) (D 17 rfl) (by decide) ?_
      refine ht_iret (D 18 rfl) rfl rfl ?_
      exact Or.inl ⟨_, fun K => (hfa K).symm, rfl, hft⟩
    · skip
      have hfa := fun K : TD → Nat → Rl => (hL K).trans (nCell_2 hH.tk hnm hno)
      refine ht_if_ne (tgt := 36) (D 16 rfl) (by decide) (fun hb31 => absurd (by decide) hb31) (fun hb31 => ?_)
      refine ht_iconst (v := 0) (D 17 rfl) (by decide) ?_
      refine ht_iret (D 18 rfl) rfl rfl ?_
      exact Or.inl ⟨_, fun K => (hfa K).symm, rfl, hft⟩
    · skip
      have hL := fun K : TD → Nat → Rl => (hL K).trans (nCell_y hH.tk hnm hj)
      refine ht_if_ne (tgt := 36) (D 16 rfl) (by decide) (fun hb31 => ?_) (fun hb31 => absurd hb31 (by decide))
      refine ht_aload_n (D 19 rfl) rfl rfl ?_
      refine gf_X5_12 rfl (D 20 rfl) hH.1.1.rk hH.1.1.q0 ?_
      refine gf_X5_180 rfl (D 21 rfl) hH.1.1.lw.k0 hH.1.1.lw.q3 ?_
      refine ht_iload_n (D 22 rfl) rfl rfl ?_
      refine ht_aload_n (D 23 rfl) rfl rfl ?_
      refine ht_aload_n (D 24 rfl) rfl rfl ?_
      refine gf_X5_30 rfl (D 25 rfl) hH.1.1.rk hH.1.1.q1 ?_
      refine gf_X5_160 rfl (D 26 rfl) hH.1.1.tk ?_
      refine kVX5_cellNamed (As := [_]) cl_X5_183 (D 27 rfl) (sk_cellNamed hH hV.1.1 hnm.1 hj) hH.1.1.rk rfl (Nat.le_of_ble_eq_true rfl) rfl (Nat.le_of_ble_eq_true rfl) (by omega) ?_
      rintro _ σ ⟨rfl, rfl⟩
      refine ht_ist (n := tdC s 1) (D 28 rfl) hH.1.1.lw.k3 hH.1.1.lw.n3 (by first | rfl | exact nI_add _ _ | assumption) (by omega) (by first | decide | omega) ?_
      have hH := hH.wR (o := 10) (q := 3) rfl (by decide) (tdC s 1) (nI j)
      refine ht_aload_n (D 29 rfl) rfl rfl ?_
      refine gf_X5_30 rfl (D 30 rfl) hH.1.1.rk hH.1.1.q1 ?_
      refine kVX7_next (As := []) cl_X5_42 (D 31 rfl) (sk_next hE hB hH) hH.1.1.tk rfl (Nat.le_of_ble_eq_true rfl) rfl (Nat.le_of_ble_eq_true rfl) (by omega) ?_
      rintro _ σ ⟨rfl, hce⟩
      have hle := Nat.le_trans hle (Nat.le_trans hH.le.1 hH.le.2.1)
      obtain ⟨b, e, k, hH⟩ := hce
      refine ht_aload_n (D 32 rfl) rfl rfl ?_
      refine ht_gets (hB.st (i := 6) (by decide)) lb_X5_187 (D 33 rfl) ?_
      refine kVX5_readWord (As := [_]) cl_X5_167 (D 34 rfl) (sk_readWord hE hB hJ hH (j := 6) (by decide)) hH.1.1.rk rfl (Nat.le_of_ble_eq_true rfl) rfl (Nat.le_of_ble_eq_true rfl) (by omega) ?_
      rintro _ σ (⟨hno, rfl, hft⟩ | ⟨hye, rfl, hce⟩)
      · skip
        have hfa := fun K : TD → Nat → Rl => (hL K).trans (nWord_n hH.tk hno)
        refine ht_if_eq (tgt := 100) (D 35 rfl) (by decide) (fun hb70 => ?_) (fun hb70 => absurd (by decide) hb70)
        refine ht_iconst (v := 0) (D 48 rfl) (by decide) ?_
        refine ht_iret (D 49 rfl) rfl rfl ?_
        exact Or.inl ⟨_, fun K => (hfa K).symm, rfl, hft⟩
      · skip
        have hL := fun K : TD → Nat → Rl => (hL K).trans (nWord_y hH.tk hye)
        have hle := Nat.le_trans hle (Nat.le_trans hH.le.1 hH.le.2.1)
        obtain ⟨b, e, k, hH⟩ := hce
        refine ht_if_eq (tgt := 100) (D 35 rfl) (by decide) (fun hb70 => absurd hb70 (by decide)) (fun hb70 => ?_)
        refine ht_aload_n (D 36 rfl) rfl rfl ?_
        refine ht_iload_n (D 37 rfl) rfl rfl ?_
        refine kVX5_readOther (As := [_]) cl_X5_190 (D 38 rfl) (sk_readOther hE hB hJ hH hV.1.1 (d := tdC s 1) (j := j) hc8 (by have := hj.1; omega) (up2_s _ _ _ _)) hH.1.1.rk rfl (Nat.le_of_ble_eq_true rfl) rfl (Nat.le_of_ble_eq_true rfl) (by omega) ?_
        rintro _ σ (⟨f, hfo, rfl, hft⟩ | ⟨y, q, hgo, hpq, rfl, hy2, hn2, hce⟩)
        · skip
          have hfa := fun K : TD → Nat → Rl => (hL K).trans (hfo _)
          refine ht_if_eq (tgt := 100) (D 39 rfl) (by decide) (fun hb78 => ?_) (fun hb78 => absurd (by decide) hb78)
          refine ht_iconst (v := 0) (D 48 rfl) (by decide) ?_
          refine ht_iret (D 49 rfl) rfl rfl ?_
          exact Or.inl ⟨_, fun K => (hfa K).symm, rfl, hft⟩
        · skip
          have hL := fun K : TD → Nat → Rl => (hL K).trans (hgo _)
          have hle := Nat.le_trans hle hpq
          obtain ⟨b, e, k, hH⟩ := hce
          refine ht_if_eq (tgt := 100) (D 39 rfl) (by decide) (fun hb78 => absurd hb78 (by decide)) (fun hb78 => ?_)
          refine ht_aload_n (D 40 rfl) rfl rfl ?_
          refine ht_gets (hB.st (i := 8) (by decide)) lb_X5_193 (D 41 rfl) ?_
          refine kVX5_readWord (As := [_]) cl_X5_167 (D 42 rfl) (sk_readWord hE hB hJ hH (j := 8) (by decide)) hH.1.1.rk rfl (Nat.le_of_ble_eq_true rfl) rfl (Nat.le_of_ble_eq_true rfl) (by omega) ?_
          rintro _ σ (⟨hno, rfl, hft⟩ | ⟨hye, rfl, hce⟩)
          · skip
            have hfa := fun K : TD → Nat → Rl => (hL K).trans (nWord_n hH.tk hno)
            refine ht_if_eq (tgt := 100) (D 43 rfl) (by decide) (fun hb88 => ?_) (fun hb88 => absurd (by decide) hb88)
            refine ht_iconst (v := 0) (D 48 rfl) (by decide) ?_
            refine ht_iret (D 49 rfl) rfl rfl ?_
            exact Or.inl ⟨_, fun K => (hfa K).symm, rfl, hft⟩
          · skip
            have hL := fun K : TD → Nat → Rl => (hL K).trans (nWord_y hH.tk hye)
            have hle := Nat.le_trans hle (Nat.le_trans hH.le.1 hH.le.2.1)
            obtain ⟨b, e, k, hH⟩ := hce
            refine ht_if_eq (tgt := 100) (D 43 rfl) (by decide) (fun hb88 => absurd hb88 (by decide)) (fun hb88 => ?_)
            refine ht_aload_n (D 44 rfl) rfl rfl ?_
            refine ht_bipush (v := 99) (D 45 rfl) (by decide) ?_
            refine kVX5_readNumber (As := [_]) cl_X5_145 (D 46 rfl) (sk_readNumber hE hB hH 99) hH.1.1.rk rfl (Nat.le_of_ble_eq_true rfl) rfl (Nat.le_of_ble_eq_true rfl) (by omega) ?_
            rintro _ σ (⟨hk2, rfl, hft⟩ | ⟨hk2, hgt, rfl, hft⟩ | ⟨hk2, hlq, rfl, hnum, hce⟩)
            · skip
              have hfa := fun K : TD → Nat → Rl => (hL K).trans (nNum_1 hH.tk hk2)
              refine ht_if_ne (tgt := 102) (D 47 rfl) (by decide) (fun hb97 => absurd (by decide) hb97) (fun hb97 => ?_)
              refine ht_iconst (v := 0) (D 48 rfl) (by decide) ?_
              refine ht_iret (D 49 rfl) rfl rfl ?_
              exact Or.inl ⟨_, fun K => (hfa K).symm, rfl, hft⟩
            · skip
              have hfa := fun K : TD → Nat → Rl => (hL K).trans (nNum_4 hH.tk hk2 hgt)
              refine ht_if_ne (tgt := 102) (D 47 rfl) (by decide) (fun hb97 => absurd (by decide) hb97) (fun hb97 => ?_)
              refine ht_iconst (v := 0) (D 48 rfl) (by decide) ?_
              refine ht_iret (D 49 rfl) rfl rfl ?_
              exact Or.inl ⟨_, fun K => (hfa K).symm, rfl, hft⟩
            · skip
              obtain ⟨v, hv, hvx⟩ := dg_le hH.tk hk2 (hi := 99) (by decide) hlq
              have hL := fun K : TD → Nat → Rl => (hL K).trans (nNum_y hH.tk hk2 hlq)
              have hle := Nat.le_trans hle (Nat.le_trans hH.le.1 hH.le.2.1)
              obtain ⟨b, e, k, hH⟩ := hce
              refine ht_if_ne (tgt := 102) (D 47 rfl) (by decide) (fun hb97 => ?_) (fun hb97 => absurd hb97 (by decide))
              refine ht_aload_n (D 50 rfl) rfl rfl ?_
              refine gf_X5_12 rfl (D 51 rfl) hH.1.1.rk hH.1.1.q0 ?_
              refine gf_X5_196 rfl (D 52 rfl) hH.1.1.lw.k0 hH.1.1.lw.q5 ?_
              refine ht_iload_n (D 53 rfl) rfl rfl ?_
              refine ht_aload_n (D 54 rfl) rfl rfl ?_
              refine gf_X5_148 rfl (D 55 rfl) hH.1.1.rk ?_
              rw [hnum, hvx]
              refine ht_ist (n := tdC s 1) (D 56 rfl) hH.1.1.lw.k5 hH.1.1.lw.n5 (by first | rfl | exact nI_add _ _ | assumption) (by omega) (by first | decide | omega) ?_
              have hH := hH.wR (o := 12) (q := 5) rfl (by decide) (tdC s 1) (nI v)
              simp only [hvx] at hL
              refine ht_aload_n (D 57 rfl) rfl rfl ?_
              refine gf_X5_12 rfl (D 58 rfl) hH.1.1.rk hH.1.1.q0 ?_
              refine ht_dup (D 59 rfl) rfl ?_
              refine gf_X5_174 rfl (D 60 rfl) hH.1.1.lw.k0 ?_
              rw [show zI _ (r + 1) 1 = nI (tdC s 1) from hH.2.1.1.2.1]
              refine ht_iconst (v := 1) (D 61 rfl) (by decide) ?_
              refine ht_iadd (D 62 rfl) ?_
              rw [show nI (tdC s 1) + 1 = nI (tdC s 1 + 1) from nI_i1 _]
              refine pf_X5_174 rfl (D 63 rfl) hH.1.1.lw.k0 ?_
              have hH := hH.wC (i := 1) (by decide) (tdC s 1 + 1)
              refine ht_iconst (v := 1) (D 64 rfl) (by decide) ?_
              refine ht_iret (D 65 rfl) rfl rfl ?_
              refine Or.inr ⟨_, _, fun K => (hL K).symm, hle, rfl, ?_, _, _, _, hH⟩
              exact TV_door hV hv hc8 hj.1 hy2 hn2
  · skip
    have hc8 : ¬ tdC s 1 < 10 := fun q => hb11 ((nI_ltI (a := tdC s 1) (b := 10) (by omega) (by omega)).mpr q)
    have hfa := fun K : TD → Nat → Rl => (show lnDoor T n s b e K = _ from ifc_n hc8)
    refine ht_aload_n (D 7 rfl) rfl rfl ?_
    refine ht_iconst (v := 5) (D 8 rfl) (by decide) ?_
    refine kVX5_wrong (As := [_]) cl_X5_109 (D 9 rfl) (sk_wrong hH 5 (by decide)) hH.1.1.rk rfl (Nat.le_of_ble_eq_true rfl) rfl (Nat.le_of_ble_eq_true rfl) (by omega) ?_
    rintro _ σ ⟨rfl, hft⟩
    refine ht_iret (D 10 rfl) rfl rfl ?_
    exact Or.inl ⟨_, fun K => (hfa K).symm, rfl, hft⟩
set_option maxRecDepth 100000 in
theorem sk_readMan (hE : NE G) (hB : BK G ad aA aS aV) (hJ : ∀ i j, i < 22 → j < 22 → ad i = ad j → i = j) (hH : CS ad T n σ0 S1 s p b e k r sA σ) (hV : TV T n s) : Sp G mX5_readMan 6 [.ref r] σ (QL ad T n σ0 S1 s e r sA (fun K res => res = lnMan T n s b e K)) := by
  have D := dat dl_X5_readMan
  show HT G mX5_readMan 0 [some (.ref r), none] [] σ 6 _
  have hv0 := hV.1
  refine ht_aload_n (D 0 rfl) rfl rfl ?_
  refine gf_X5_12 rfl (D 1 rfl) hH.1.1.rk hH.1.1.q0 ?_
  refine gf_X5_205 rfl (D 2 rfl) hH.1.1.lw.k0 ?_
  rw [hH.2.1.1.2.2.1]
  refine ht_istore_n (D 3 rfl) rfl (by decide) rfl ?_
  refine ht_iload_n (D 4 rfl) rfl rfl ?_
  refine ht_bipush (v := 6) (D 5 rfl) (by decide) ?_
  refine ht_icmp_lt (tgt := 20) (D 6 rfl) (by decide) (fun hb11 => ?_) (fun hb11 => ?_)
  · skip
    have hc8 : tdC s 2 < 6 := (nI_ltI (a := tdC s 2) (b := 6) (by omega) (by omega)).mp hb11
    have hL := fun K : TD → Nat → Rl => (show lnMan T n s b e K = _ from ifc_y hc8)
    refine ht_aload_n (D 11 rfl) rfl rfl ?_
    refine gf_X5_30 rfl (D 12 rfl) hH.1.1.rk hH.1.1.q1 ?_
    refine kVX7_next (As := []) cl_X5_42 (D 13 rfl) (sk_next hE hB hH) hH.1.1.tk rfl (Nat.le_of_ble_eq_true rfl) rfl (Nat.le_of_ble_eq_true rfl) (by omega) ?_
    rintro _ σ ⟨rfl, hce⟩
    have hle := Nat.le_refl e
    obtain ⟨b, e, k, hH⟩ := hce
    refine ht_aload_n (D 14 rfl) rfl rfl ?_
    refine kVX5_isNewName (As := []) cl_X5_157 (D 15 rfl) (sk_isNewName hB hH hV.1.1 hV.1.2.2.1) hH.1.1.rk rfl (Nat.le_of_ble_eq_true rfl) rfl (Nat.le_of_ble_eq_true rfl) (by omega) ?_
    rintro _ σ (⟨hnm, rfl, hft⟩ | ⟨hnm, hnw, rfl, hft⟩ | ⟨hnm, hnw, rfl, rfl⟩)
    · skip
      have hfa := fun K : TD → Nat → Rl => (hL K).trans (nNew_1 hH.tk hnm)
      refine ht_if_ne (tgt := 36) (D 16 rfl) (by decide) (fun hb31 => absurd (by decide) hb31) (fun hb31 => ?_)
      refine ht_iconst (v := 0) (D 17 rfl) (by decide) ?_
      refine ht_iret (D 18 rfl) rfl rfl ?_
      exact Or.inl ⟨_, fun K => (hfa K).symm, rfl, hft⟩
    · skip
      have hfa := fun K : TD → Nat → Rl => (hL K).trans (nNew_3 hH.tk hnm hnw)
      refine ht_if_ne (tgt := 36) (D 16 rfl) (by decide) (fun hb31 => absurd (by decide) hb31) (fun hb31 => ?_)
      refine ht_iconst (v := 0) (D 17 rfl) (by decide) ?_
      refine ht_iret (D 18 rfl) rfl rfl ?_
      exact Or.inl ⟨_, fun K => (hfa K).symm, rfl, hft⟩
    · skip
      have hL := fun K : TD → Nat → Rl => (hL K).trans (nNew_y hH.tk hnm hnw)
      refine ht_if_ne (tgt := 36) (D 16 rfl) (by decide) (fun hb31 => ?_) (fun hb31 => absurd hb31 (by decide))
      refine ht_aload_n (D 19 rfl) rfl rfl ?_
      refine gf_X5_22 rfl (D 20 rfl) hH.1.1.rk hH.1.1.q3 ?_
      refine ht_iload_n (D 21 rfl) rfl rfl ?_
      refine ht_aload_n (D 22 rfl) rfl rfl ?_
      refine gf_X5_30 rfl (D 23 rfl) hH.1.1.rk hH.1.1.q1 ?_
      refine gf_X5_160 rfl (D 24 rfl) hH.1.1.tk ?_
      rw [hH.nm hnm.1]
      refine ht_lst (n := tdC s 2) (D 25 rfl) hH.1.1.mk hH.1.1.mn (by first | rfl | exact nI_add _ _ | assumption) (by omega) (by first | decide | omega) ?_
      have hH := hH.wN (o := 1) (by decide) (tdC s 2) (pkD T b (e - b))
      refine ht_aload_n (D 26 rfl) rfl rfl ?_
      refine gf_X5_30 rfl (D 27 rfl) hH.1.1.rk hH.1.1.q1 ?_
      refine kVX7_next (As := []) cl_X5_42 (D 28 rfl) (sk_next hE hB hH) hH.1.1.tk rfl (Nat.le_of_ble_eq_true rfl) rfl (Nat.le_of_ble_eq_true rfl) (by omega) ?_
      rintro _ σ ⟨rfl, hce⟩
      have hle := Nat.le_trans hle (Nat.le_trans hH.le.1 hH.le.2.1)
      obtain ⟨b, e, k, hH⟩ := hce
      refine ht_aload_n (D 29 rfl) rfl rfl ?_
      refine ht_gets (hB.st (i := 10) (by decide)) lb_X5_208 (D 30 rfl) ?_
      refine kVX5_readWord (As := [_]) cl_X5_167 (D 31 rfl) (sk_readWord hE hB hJ hH (j := 10) (by decide)) hH.1.1.rk rfl (Nat.le_of_ble_eq_true rfl) rfl (Nat.le_of_ble_eq_true rfl) (by omega) ?_
      rintro _ σ (⟨hno, rfl, hft⟩ | ⟨hye, rfl, hce⟩)
      · skip
        have hfa := fun K : TD → Nat → Rl => (hL K).trans (nWord_n hH.tk hno)
        refine ht_if_eq (tgt := 73) (D 32 rfl) (by decide) (fun hb63 => ?_) (fun hb63 => absurd (by decide) hb63)
        refine ht_iconst (v := 0) (D 36 rfl) (by decide) ?_
        refine ht_iret (D 37 rfl) rfl rfl ?_
        exact Or.inl ⟨_, fun K => (hfa K).symm, rfl, hft⟩
      · skip
        have hL := fun K : TD → Nat → Rl => (hL K).trans (nWord_y hH.tk hye)
        have hle := Nat.le_trans hle (Nat.le_trans hH.le.1 hH.le.2.1)
        obtain ⟨b, e, k, hH⟩ := hce
        refine ht_if_eq (tgt := 73) (D 32 rfl) (by decide) (fun hb63 => absurd hb63 (by decide)) (fun hb63 => ?_)
        refine ht_aload_n (D 33 rfl) rfl rfl ?_
        refine kVX5_isCellName (As := []) cl_X5_177 (D 34 rfl) (sk_isCellName hB hH hV.1.1) hH.1.1.rk rfl (Nat.le_of_ble_eq_true rfl) rfl (Nat.le_of_ble_eq_true rfl) (by omega) ?_
        rintro _ σ (⟨hnm, rfl, hft⟩ | ⟨hnm, hno, rfl, hft⟩ | ⟨hnm, ⟨j, hj⟩, rfl, rfl⟩)
        · skip
          have hfa := fun K : TD → Nat → Rl => (hL K).trans (nCell_1 hH.tk hnm)
          refine ht_if_ne (tgt := 75) (D 35 rfl) (by decide) (fun hb70 => absurd (by decide) hb70) (fun hb70 => ?_)
          refine ht_iconst (v := 0) (D 36 rfl) (by decide) ?_
          refine ht_iret (D 37 rfl) rfl rfl ?_
          exact Or.inl ⟨_, fun K => (hfa K).symm, rfl, hft⟩
        · skip
          have hfa := fun K : TD → Nat → Rl => (hL K).trans (nCell_2 hH.tk hnm hno)
          refine ht_if_ne (tgt := 75) (D 35 rfl) (by decide) (fun hb70 => absurd (by decide) hb70) (fun hb70 => ?_)
          refine ht_iconst (v := 0) (D 36 rfl) (by decide) ?_
          refine ht_iret (D 37 rfl) rfl rfl ?_
          exact Or.inl ⟨_, fun K => (hfa K).symm, rfl, hft⟩
        · skip
          have hL := fun K : TD → Nat → Rl => (hL K).trans (nCell_y hH.tk hnm hj)
          refine ht_if_ne (tgt := 75) (D 35 rfl) (by decide) (fun hb70 => ?_) (fun hb70 => absurd hb70 (by decide))
          refine ht_aload_n (D 38 rfl) rfl rfl ?_
          refine gf_X5_12 rfl (D 39 rfl) hH.1.1.rk hH.1.1.q0 ?_
          refine gf_X5_211 rfl (D 40 rfl) hH.1.1.lw.k0 hH.1.1.lw.q6 ?_
          refine ht_iload_n (D 41 rfl) rfl rfl ?_
          refine ht_aload_n (D 42 rfl) rfl rfl ?_
          refine ht_aload_n (D 43 rfl) rfl rfl ?_
          refine gf_X5_30 rfl (D 44 rfl) hH.1.1.rk hH.1.1.q1 ?_
          refine gf_X5_160 rfl (D 45 rfl) hH.1.1.tk ?_
          refine kVX5_cellNamed (As := [_]) cl_X5_183 (D 46 rfl) (sk_cellNamed hH hV.1.1 hnm.1 hj) hH.1.1.rk rfl (Nat.le_of_ble_eq_true rfl) rfl (Nat.le_of_ble_eq_true rfl) (by omega) ?_
          rintro _ σ ⟨rfl, rfl⟩
          refine ht_ist (n := tdC s 2) (D 47 rfl) hH.1.1.lw.k6 hH.1.1.lw.n6 (by first | rfl | exact nI_add _ _ | assumption) (by omega) (by first | decide | omega) ?_
          have hH := hH.wR (o := 13) (q := 6) rfl (by decide) (tdC s 2) (nI j)
          refine ht_aload_n (D 48 rfl) rfl rfl ?_
          refine gf_X5_30 rfl (D 49 rfl) hH.1.1.rk hH.1.1.q1 ?_
          refine kVX7_next (As := []) cl_X5_42 (D 50 rfl) (sk_next hE hB hH) hH.1.1.tk rfl (Nat.le_of_ble_eq_true rfl) rfl (Nat.le_of_ble_eq_true rfl) (by omega) ?_
          rintro _ σ ⟨rfl, hce⟩
          have hle := Nat.le_trans hle (Nat.le_trans hH.le.1 hH.le.2.1)
          obtain ⟨b, e, k, hH⟩ := hce
          refine ht_aload_n (D 51 rfl) rfl rfl ?_
          refine ht_gets (hB.st (i := 11) (by decide)) lb_X5_214 (D 52 rfl) ?_
          refine kVX5_readWord (As := [_]) cl_X5_167 (D 53 rfl) (sk_readWord hE hB hJ hH (j := 11) (by decide)) hH.1.1.rk rfl (Nat.le_of_ble_eq_true rfl) rfl (Nat.le_of_ble_eq_true rfl) (by omega) ?_
          rintro _ σ (⟨hno, rfl, hft⟩ | ⟨hye, rfl, hce⟩)
          · skip
            have hfa := fun K : TD → Nat → Rl => (hL K).trans (nWord_n hH.tk hno)
            refine ht_if_eq (tgt := 121) (D 54 rfl) (by decide) (fun hb109 => ?_) (fun hb109 => absurd (by decide) hb109)
            refine ht_iconst (v := 0) (D 59 rfl) (by decide) ?_
            refine ht_iret (D 60 rfl) rfl rfl ?_
            exact Or.inl ⟨_, fun K => (hfa K).symm, rfl, hft⟩
          · skip
            have hL := fun K : TD → Nat → Rl => (hL K).trans (nWord_y hH.tk hye)
            have hle := Nat.le_trans hle (Nat.le_trans hH.le.1 hH.le.2.1)
            obtain ⟨b, e, k, hH⟩ := hce
            refine ht_if_eq (tgt := 121) (D 54 rfl) (by decide) (fun hb109 => absurd hb109 (by decide)) (fun hb109 => ?_)
            refine ht_aload_n (D 55 rfl) rfl rfl ?_
            refine ht_bipush (v := 9) (D 56 rfl) (by decide) ?_
            refine kVX5_readNumber (As := [_]) cl_X5_145 (D 57 rfl) (sk_readNumber hE hB hH 9) hH.1.1.rk rfl (Nat.le_of_ble_eq_true rfl) rfl (Nat.le_of_ble_eq_true rfl) (by omega) ?_
            rintro _ σ (⟨hk2, rfl, hft⟩ | ⟨hk2, hgt, rfl, hft⟩ | ⟨hk2, hlq, rfl, hnum, hce⟩)
            · skip
              have hfa := fun K : TD → Nat → Rl => (hL K).trans (nNum_1 hH.tk hk2)
              refine ht_if_ne (tgt := 123) (D 58 rfl) (by decide) (fun hb118 => absurd (by decide) hb118) (fun hb118 => ?_)
              refine ht_iconst (v := 0) (D 59 rfl) (by decide) ?_
              refine ht_iret (D 60 rfl) rfl rfl ?_
              exact Or.inl ⟨_, fun K => (hfa K).symm, rfl, hft⟩
            · skip
              have hfa := fun K : TD → Nat → Rl => (hL K).trans (nNum_4 hH.tk hk2 hgt)
              refine ht_if_ne (tgt := 123) (D 58 rfl) (by decide) (fun hb118 => absurd (by decide) hb118) (fun hb118 => ?_)
              refine ht_iconst (v := 0) (D 59 rfl) (by decide) ?_
              refine ht_iret (D 60 rfl) rfl rfl ?_
              exact Or.inl ⟨_, fun K => (hfa K).symm, rfl, hft⟩
            · skip
              obtain ⟨v, hv, hvx⟩ := dg_le hH.tk hk2 (hi := 9) (by decide) hlq
              have hL := fun K : TD → Nat → Rl => (hL K).trans (nNum_y hH.tk hk2 hlq)
              have hle := Nat.le_trans hle (Nat.le_trans hH.le.1 hH.le.2.1)
              obtain ⟨b, e, k, hH⟩ := hce
              refine ht_if_ne (tgt := 123) (D 58 rfl) (by decide) (fun hb118 => ?_) (fun hb118 => absurd hb118 (by decide))
              refine ht_aload_n (D 61 rfl) rfl rfl ?_
              refine gf_X5_12 rfl (D 62 rfl) hH.1.1.rk hH.1.1.q0 ?_
              refine gf_X5_217 rfl (D 63 rfl) hH.1.1.lw.k0 hH.1.1.lw.q7 ?_
              refine ht_iload_n (D 64 rfl) rfl rfl ?_
              refine ht_aload_n (D 65 rfl) rfl rfl ?_
              refine gf_X5_148 rfl (D 66 rfl) hH.1.1.rk ?_
              rw [hnum, hvx]
              refine ht_ist (n := tdC s 2) (D 67 rfl) hH.1.1.lw.k7 hH.1.1.lw.n7 (by first | rfl | exact nI_add _ _ | assumption) (by omega) (by first | decide | omega) ?_
              have hH := hH.wR (o := 14) (q := 7) rfl (by decide) (tdC s 2) (nI v)
              simp only [hvx] at hL
              refine ht_aload_n (D 68 rfl) rfl rfl ?_
              refine ht_gets (hB.st (i := 12) (by decide)) lb_X5_220 (D 69 rfl) ?_
              refine kVX5_readWord (As := [_]) cl_X5_167 (D 70 rfl) (sk_readWord hE hB hJ hH (j := 12) (by decide)) hH.1.1.rk rfl (Nat.le_of_ble_eq_true rfl) rfl (Nat.le_of_ble_eq_true rfl) (by omega) ?_
              rintro _ σ (⟨hno, rfl, hft⟩ | ⟨hye, rfl, hce⟩)
              · skip
                have hfa := fun K : TD → Nat → Rl => (hL K).trans (nWord_n hH.tk hno)
                refine ht_if_eq (tgt := 155) (D 71 rfl) (by decide) (fun hb143 => ?_) (fun hb143 => absurd (by decide) hb143)
                refine ht_iconst (v := 0) (D 76 rfl) (by decide) ?_
                refine ht_iret (D 77 rfl) rfl rfl ?_
                exact Or.inl ⟨_, fun K => (hfa K).symm, rfl, hft⟩
              · skip
                have hL := fun K : TD → Nat → Rl => (hL K).trans (nWord_y hH.tk hye)
                have hle := Nat.le_trans hle (Nat.le_trans hH.le.1 hH.le.2.1)
                obtain ⟨b, e, k, hH⟩ := hce
                refine ht_if_eq (tgt := 155) (D 71 rfl) (by decide) (fun hb143 => absurd hb143 (by decide)) (fun hb143 => ?_)
                refine ht_aload_n (D 72 rfl) rfl rfl ?_
                refine ht_bipush (v := 99) (D 73 rfl) (by decide) ?_
                refine kVX5_readNumber (As := [_]) cl_X5_145 (D 74 rfl) (sk_readNumber hE hB hH 99) hH.1.1.rk rfl (Nat.le_of_ble_eq_true rfl) rfl (Nat.le_of_ble_eq_true rfl) (by omega) ?_
                rintro _ σ (⟨hk2, rfl, hft⟩ | ⟨hk2, hgt, rfl, hft⟩ | ⟨hk2, hlq, rfl, hnum, hce⟩)
                · skip
                  have hfa := fun K : TD → Nat → Rl => (hL K).trans (nNum_1 hH.tk hk2)
                  refine ht_if_ne (tgt := 157) (D 75 rfl) (by decide) (fun hb152 => absurd (by decide) hb152) (fun hb152 => ?_)
                  refine ht_iconst (v := 0) (D 76 rfl) (by decide) ?_
                  refine ht_iret (D 77 rfl) rfl rfl ?_
                  exact Or.inl ⟨_, fun K => (hfa K).symm, rfl, hft⟩
                · skip
                  have hfa := fun K : TD → Nat → Rl => (hL K).trans (nNum_4 hH.tk hk2 hgt)
                  refine ht_if_ne (tgt := 157) (D 75 rfl) (by decide) (fun hb152 => absurd (by decide) hb152) (fun hb152 => ?_)
                  refine ht_iconst (v := 0) (D 76 rfl) (by decide) ?_
                  refine ht_iret (D 77 rfl) rfl rfl ?_
                  exact Or.inl ⟨_, fun K => (hfa K).symm, rfl, hft⟩
                · skip
                  obtain ⟨u, hu, hux⟩ := dg_le hH.tk hk2 (hi := 99) (by decide) hlq
                  have hL := fun K : TD → Nat → Rl => (hL K).trans (nNum_y hH.tk hk2 hlq)
                  have hle := Nat.le_trans hle (Nat.le_trans hH.le.1 hH.le.2.1)
                  obtain ⟨b, e, k, hH⟩ := hce
                  refine ht_if_ne (tgt := 157) (D 75 rfl) (by decide) (fun hb152 => ?_) (fun hb152 => absurd hb152 (by decide))
                  refine ht_aload_n (D 78 rfl) rfl rfl ?_
                  refine gf_X5_12 rfl (D 79 rfl) hH.1.1.rk hH.1.1.q0 ?_
                  refine gf_X5_223 rfl (D 80 rfl) hH.1.1.lw.k0 hH.1.1.lw.q8 ?_
                  refine ht_iload_n (D 81 rfl) rfl rfl ?_
                  refine ht_aload_n (D 82 rfl) rfl rfl ?_
                  refine gf_X5_148 rfl (D 83 rfl) hH.1.1.rk ?_
                  rw [hnum, hux]
                  refine ht_ist (n := tdC s 2) (D 84 rfl) hH.1.1.lw.k8 hH.1.1.lw.n8 (by first | rfl | exact nI_add _ _ | assumption) (by omega) (by first | decide | omega) ?_
                  have hH := hH.wR (o := 15) (q := 8) rfl (by decide) (tdC s 2) (nI u)
                  simp only [hux] at hL
                  refine ht_aload_n (D 85 rfl) rfl rfl ?_
                  refine gf_X5_12 rfl (D 86 rfl) hH.1.1.rk hH.1.1.q0 ?_
                  refine ht_dup (D 87 rfl) rfl ?_
                  refine gf_X5_205 rfl (D 88 rfl) hH.1.1.lw.k0 ?_
                  rw [show zI _ (r + 1) 2 = nI (tdC s 2) from hH.2.1.1.2.2.1]
                  refine ht_iconst (v := 1) (D 89 rfl) (by decide) ?_
                  refine ht_iadd (D 90 rfl) ?_
                  rw [show nI (tdC s 2) + 1 = nI (tdC s 2 + 1) from nI_i1 _]
                  refine pf_X5_205 rfl (D 91 rfl) hH.1.1.lw.k0 ?_
                  have hH := hH.wC (i := 2) (by decide) (tdC s 2 + 1)
                  refine ht_iconst (v := 1) (D 92 rfl) (by decide) ?_
                  refine ht_iret (D 93 rfl) rfl rfl ?_
                  refine Or.inr ⟨_, _, fun K => (hL K).symm, hle, rfl, ?_, _, _, _, hH⟩
                  exact TV_man hV hv hu hc8 hj.1
  · skip
    have hc8 : ¬ tdC s 2 < 6 := fun q => hb11 ((nI_ltI (a := tdC s 2) (b := 6) (by omega) (by omega)).mpr q)
    have hfa := fun K : TD → Nat → Rl => (show lnMan T n s b e K = _ from ifc_n hc8)
    refine ht_aload_n (D 7 rfl) rfl rfl ?_
    refine ht_iconst (v := 5) (D 8 rfl) (by decide) ?_
    refine kVX5_wrong (As := [_]) cl_X5_109 (D 9 rfl) (sk_wrong hH 5 (by decide)) hH.1.1.rk rfl (Nat.le_of_ble_eq_true rfl) rfl (Nat.le_of_ble_eq_true rfl) (by omega) ?_
    rintro _ σ ⟨rfl, hft⟩
    refine ht_iret (D 10 rfl) rfl rfl ?_
    exact Or.inl ⟨_, fun K => (hfa K).symm, rfl, hft⟩
end R5
