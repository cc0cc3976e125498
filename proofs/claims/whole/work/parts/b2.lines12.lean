/-! ===== the reference: mild, cell, door, man ===== -/
section S2
variable {G : GG} {σ : Hp} {m : Nat} {V V2 V0 : VT} {U U2 U0 : UT} {T : ST} {n p b e k c : Nat} {ice : Bool} {s : TD}
set_option maxRecDepth 100000 in
theorem sr_mild (hM : MS σ m) (hH : DS T n V0 U0 s ice p b e k c V U) (hV : TV T n s) : Sp G mX10_readsMild 3 [.ref m] (sv σ m V U) (QM σ m T n V0 U0 (lnMild T n s b e (nEnd T n))) := by
  have D := dat dl_X10_readsMild
  show HT G mX10_readsMild 0 [some (.ref m)] [] (sv σ m V U) 3 _
  have hv0 := hV.1
  refine ht_aload_n (D 0 rfl) rfl rfl ?_
  refine gm_X10_273 hM rfl (D 1 rfl) ?_
  rw [hH.2.1.2.1]
  refine ht_if_eq (tgt := 13) (D 2 rfl) (by decide) (fun hb4 => ?_) (fun hb4 => ?_)
  · skip
    have hc0 : tdC s 4 = 0 := (nI_eq (b := 0) (by omega) (by decide)).mp hb4
    have hL : lnMild T n s b e (nEnd T n) = _ := ifc_y hc0
    refine ht_aload_n (D 7 rfl) rfl rfl ?_
    refine ht_iconst (v := 1) (D 8 rfl) (by decide) ?_
    refine pm_X10_273 hM rfl (D 9 rfl) (by first | exact Or.inl rfl | exact Or.inr rfl | assumption) ?_
    have hH := hH.m4
    refine ht_aload_n (D 10 rfl) rfl rfl ?_
    refine kVX10_nextToken (As := []) cl_X10_220 (D 11 rfl) (sr_next hM hH) hM.k0 rfl (Nat.le_of_ble_eq_true rfl) rfl (Nat.le_of_ble_eq_true rfl) (by omega) ?_
    rintro _ _ ⟨rfl, hdx⟩
    obtain ⟨V, U, ice, b, e, k, c, rfl, hH, hnu, h16, h44⟩ := hdx
    refine ht_aload_n (D 12 rfl) rfl rfl ?_
    refine ht_iconst (v := 0) (D 13 rfl) (by decide) ?_
    refine ht_bipush (v := 20) (D 14 rfl) (by decide) ?_
    refine kVX10_needsNumber (As := [_, _]) cl_X10_276 (D 15 rfl) (sr_num hM hH 20) hM.k0 rfl (Nat.le_of_ble_eq_true rfl) rfl (Nat.le_of_ble_eq_true rfl) (by omega) ?_
    rintro _ _ (⟨hk2, rfl, hdf⟩ | ⟨hk2, hgt, rfl, hdf⟩ | ⟨hk2, hlq, rfl, hdx⟩)
    · skip
      have hfa := hL.trans (nNum_1 hH.tk hk2)
      refine ht_if_ne (tgt := 34) (D 16 rfl) (by decide) (fun hb29 => absurd (by decide) hb29) (fun hb29 => ?_)
      refine ht_iconst (v := 0) (D 17 rfl) (by decide) ?_
      refine ht_iret (D 18 rfl) rfl rfl ?_
      exact Or.inl ⟨_, hfa, rfl, hdf⟩
    · skip
      have hfa := hL.trans (nNum_4 hH.tk hk2 hgt)
      refine ht_if_ne (tgt := 34) (D 16 rfl) (by decide) (fun hb29 => absurd (by decide) hb29) (fun hb29 => ?_)
      refine ht_iconst (v := 0) (D 17 rfl) (by decide) ?_
      refine ht_iret (D 18 rfl) rfl rfl ?_
      exact Or.inl ⟨_, hfa, rfl, hdf⟩
    · skip
      obtain ⟨v, hv, hvx⟩ := dg_le hH.tk hk2 (hi := 20) (by decide) hlq
      have hL := hL.trans (nNum_y hH.tk hk2 hlq)
      rw [hvx] at hL hdx
      obtain ⟨V, U, ice, b, e, k, c, rfl, hH, hnu, h16, h44⟩ := hdx
      have h44 := h44.trans (up2_s _ _ _ _)
      refine ht_if_ne (tgt := 34) (D 16 rfl) (by decide) (fun hb29 => ?_) (fun hb29 => absurd hb29 (by decide))
      refine ht_aload_n (D 19 rfl) rfl rfl ?_
      refine gf_X10_25 rfl (D 20 rfl) hM.k0 hM.q6 ?_
      refine ht_iconst (v := 1) (D 21 rfl) (by decide) ?_
      refine ht_aload_n (D 22 rfl) rfl rfl ?_
      refine gm_X10_267 hM rfl (D 23 rfl) ?_
      rw [h44]
      refine hm_ist (o := 6) (n := 1) (by decide) (D 24 rfl) hM.k6 hM.n6 (by first | rfl | exact nI_add _ _ | assumption) (by omega) (by decide) ?_
      have hH := hH.m6 (nI v)
      refine ht_aload_n (D 25 rfl) rfl rfl ?_
      refine kVX10_ends (As := []) cl_X10_280 (D 26 rfl) (sr_ends hM hH) hM.k0 rfl (Nat.le_of_ble_eq_true rfl) rfl (Nat.le_of_ble_eq_true rfl) (by omega) ?_
      rintro _ _ (⟨hns, rfl, hdf⟩ | ⟨hys, rfl, hde⟩)
      · skip
        have hfa := hL.trans (nEnd_n hH.tk hns)
        refine ht_iret (D 27 rfl) rfl rfl ?_
        exact Or.inl ⟨_, hfa, rfl, hdf⟩
      · skip
        have hL := hL.trans (nEnd_y hH.tk hys)
        refine ht_iret (D 27 rfl) rfl rfl ?_
        exact Or.inr ⟨_, _, hL, rfl, hde⟩
  · skip
    have hc0 : ¬ tdC s 4 = 0 := fun q => hb4 (by rw [q]; rfl)
    have hfa : lnMild T n s b e (nEnd T n) = _ := ifc_n hc0
    refine ht_aload_n (D 3 rfl) rfl rfl ?_
    refine ht_iconst (v := 3) (D 4 rfl) (by decide) ?_
    refine kVX10_fails (As := [_]) cl_X10_213 (D 5 rfl) (sr_fails hM hH 3) hM.k0 rfl (Nat.le_of_ble_eq_true rfl) rfl (Nat.le_of_ble_eq_true rfl) (by omega) ?_
    rintro _ σ9 ⟨rfl, hdf⟩
    refine ht_iret (D 6 rfl) rfl rfl ?_
    exact Or.inl ⟨_, hfa, rfl, hdf⟩
set_option maxRecDepth 100000 in
theorem sr_rcell (hM : MS σ m) (hH : DS T n V0 U0 s ice p b e k c V U) (hV : TV T n s) : Sp G mX10_readsCell 3 [.ref m] (sv σ m V U) (QM σ m T n V0 U0 (lnCell T n s b e (nEnd T n))) := by
  have D := dat dl_X10_readsCell
  show HT G mX10_readsCell 0 [some (.ref m), none] [] (sv σ m V U) 3 _
  have hv0 := hV.1
  refine ht_aload_n (D 0 rfl) rfl rfl ?_
  refine gf_X10_13 rfl (D 1 rfl) hM.k0 hM.q2 ?_
  refine ht_iconst (v := 1) (D 2 rfl) (by decide) ?_
  refine hm_ild (o := 2) (n := 1) (by decide) (D 3 rfl) hM.k2 hM.n2 (by first | rfl | exact nI_add _ _ | assumption) (by omega) (by decide) ?_
  rw [hH.2.1.1.1]
  refine ht_istore_n (D 4 rfl) rfl (by decide) rfl ?_
  refine ht_iload_n (D 5 rfl) rfl rfl ?_
  refine ht_bipush (v := 8) (D 6 rfl) (by decide) ?_
  refine ht_icmp_ne (tgt := 19) (D 7 rfl) (by decide) (fun hb10 => ?_) (fun hb10 => ?_)
  · skip
    have hc8 : tdC s 0 < 8 := by
      have h9 : ¬ tdC s 0 = 8 := fun q => hb10 (by rw [q]; rfl)
      omega
    have hL : lnCell T n s b e (nEnd T n) = _ := ifc_y hc8
    refine ht_aload_n (D 12 rfl) rfl rfl ?_
    refine kVX10_nextToken (As := []) cl_X10_220 (D 13 rfl) (sr_next hM hH) hM.k0 rfl (Nat.le_of_ble_eq_true rfl) rfl (Nat.le_of_ble_eq_true rfl) (by omega) ?_
    rintro _ _ ⟨rfl, hdx⟩
    obtain ⟨V, U, ice, b, e, k, c, rfl, hH, hnu, h16, h44⟩ := hdx
    refine ht_aload_n (D 14 rfl) rfl rfl ?_
    refine kVX10_isNew (As := []) cl_X10_283 (D 15 rfl) (sr_new hM hH hv0.1 hv0.2.2.1) hM.k0 rfl (Nat.le_of_ble_eq_true rfl) rfl (Nat.le_of_ble_eq_true rfl) (by omega) ?_
    rintro _ _ (⟨hnm, rfl, hdf⟩ | ⟨hnm, hnw, rfl, hdf⟩ | ⟨hnm, hnw, rfl, rfl⟩)
    · skip
      have hfa := hL.trans (nNew_1 hH.tk hnm)
      refine ht_if_ne (tgt := 32) (D 16 rfl) (by decide) (fun hb27 => absurd (by decide) hb27) (fun hb27 => ?_)
      refine ht_iconst (v := 0) (D 17 rfl) (by decide) ?_
      refine ht_iret (D 18 rfl) rfl rfl ?_
      exact Or.inl ⟨_, hfa, rfl, hdf⟩
    · skip
      have hfa := hL.trans (nNew_3 hH.tk hnm hnw)
      refine ht_if_ne (tgt := 32) (D 16 rfl) (by decide) (fun hb27 => absurd (by decide) hb27) (fun hb27 => ?_)
      refine ht_iconst (v := 0) (D 17 rfl) (by decide) ?_
      refine ht_iret (D 18 rfl) rfl rfl ?_
      exact Or.inl ⟨_, hfa, rfl, hdf⟩
    · skip
      have hL := hL.trans (nNew_y hH.tk hnm hnw)
      have hwq := hH.wq hnm.1
      refine ht_if_ne (tgt := 32) (D 16 rfl) (by decide) (fun hb27 => ?_) (fun hb27 => absurd hb27 (by decide))
      refine ht_aload_n (D 19 rfl) rfl rfl ?_
      refine gf_X10_28 rfl (D 20 rfl) hM.k0 hM.q7 ?_
      refine ht_iload_n (D 21 rfl) rfl rfl ?_
      refine ht_aload_n (D 22 rfl) rfl rfl ?_
      refine gm_X10_153 hM rfl (D 23 rfl) ?_
      refine hm_lst (o := 7) (n := tdC s 0) (by decide) (D 24 rfl) hM.k7 hM.n7 (by first | rfl | exact nI_add _ _ | assumption) (by omega) (by decide) ?_
      have hU : up2 U 7 (tdC s 0) (U 0 7) 7 (tdC s 0) = U 0 7 := up2_s _ _ _ _
      have hH := hH.wN0 (U 0 7) (pkD T b (e - b))
      refine ht_aload_n (D 25 rfl) rfl rfl ?_
      refine kVX10_nextToken (As := []) cl_X10_220 (D 26 rfl) (sr_next hM hH) hM.k0 rfl (Nat.le_of_ble_eq_true rfl) rfl (Nat.le_of_ble_eq_true rfl) (by omega) ?_
      rintro _ _ ⟨rfl, hdx⟩
      obtain ⟨V, U, ice, b, e, k, c, rfl, hH, hnu, h16, h44⟩ := hdx
      have hU := (hnu 7 (tdC s 0) (by omega)).trans hU
      refine ht_aload_n (D 27 rfl) rfl rfl ?_
      refine ht_ldc2 kl_X10_183 (D 28 rfl) ?_
      refine kVX10_needsWord (As := [_]) cl_X10_286 (D 29 rfl) (sr_word hM hH 4) hM.k0 rfl (Nat.le_of_ble_eq_true rfl) rfl (Nat.le_of_ble_eq_true rfl) (by omega) ?_
      rintro _ _ (⟨hno, rfl, hdf⟩ | ⟨hye, rfl, hdx⟩)
      · skip
        have hfa := hL.trans (nWord_n hH.tk hno)
        refine ht_if_eq (tgt := 66) (D 30 rfl) (by decide) (fun hb53 => ?_) (fun hb53 => absurd (by decide) hb53)
        refine ht_iconst (v := 0) (D 36 rfl) (by decide) ?_
        refine ht_iret (D 37 rfl) rfl rfl ?_
        exact Or.inl ⟨_, hfa, rfl, hdf⟩
      · skip
        have hL := hL.trans (nWord_y hH.tk hye)
        obtain ⟨V, U, ice, b, e, k, c, rfl, hH, hnu, h16, h44⟩ := hdx
        have hU := (hnu 7 (tdC s 0) (by omega)).trans hU
        refine ht_if_eq (tgt := 66) (D 30 rfl) (by decide) (fun hb53 => absurd hb53 (by decide)) (fun hb53 => ?_)
        refine ht_aload_n (D 31 rfl) rfl rfl ?_
        refine ht_iconst (v := 0) (D 32 rfl) (by decide) ?_
        refine ht_bipush (v := 9) (D 33 rfl) (by decide) ?_
        refine kVX10_needsNumber (As := [_, _]) cl_X10_276 (D 34 rfl) (sr_num hM hH 9) hM.k0 rfl (Nat.le_of_ble_eq_true rfl) rfl (Nat.le_of_ble_eq_true rfl) (by omega) ?_
        rintro _ _ (⟨hk2, rfl, hdf⟩ | ⟨hk2, hgt, rfl, hdf⟩ | ⟨hk2, hlq, rfl, hdx⟩)
        · skip
          have hfa := hL.trans (nNum_1 hH.tk hk2)
          refine ht_if_ne (tgt := 68) (D 35 rfl) (by decide) (fun hb63 => absurd (by decide) hb63) (fun hb63 => ?_)
          refine ht_iconst (v := 0) (D 36 rfl) (by decide) ?_
          refine ht_iret (D 37 rfl) rfl rfl ?_
          exact Or.inl ⟨_, hfa, rfl, hdf⟩
        · skip
          have hfa := hL.trans (nNum_4 hH.tk hk2 hgt)
          refine ht_if_ne (tgt := 68) (D 35 rfl) (by decide) (fun hb63 => absurd (by decide) hb63) (fun hb63 => ?_)
          refine ht_iconst (v := 0) (D 36 rfl) (by decide) ?_
          refine ht_iret (D 37 rfl) rfl rfl ?_
          exact Or.inl ⟨_, hfa, rfl, hdf⟩
        · skip
          obtain ⟨v, hv, hvx⟩ := dg_le hH.tk hk2 (hi := 9) (by decide) hlq
          have hL := hL.trans (nNum_y hH.tk hk2 hlq)
          rw [hvx] at hL hdx
          obtain ⟨V, U, ice, b, e, k, c, rfl, hH, hnu, h16, h44⟩ := hdx
          have hU := (hnu 7 (tdC s 0) (by omega)).trans hU
          have h44 := h44.trans (up2_s _ _ _ _)
          refine ht_if_ne (tgt := 68) (D 35 rfl) (by decide) (fun hb63 => ?_) (fun hb63 => absurd hb63 (by decide))
          refine ht_aload_n (D 38 rfl) rfl rfl ?_
          refine gf_X10_35 rfl (D 39 rfl) hM.k0 hM.q9 ?_
          refine ht_bipush (v := 8) (D 40 rfl) (by decide) ?_
          refine ht_iload_n (D 41 rfl) rfl rfl ?_
          refine ht_iadd (D 42 rfl) ?_
          refine ht_aload_n (D 43 rfl) rfl rfl ?_
          refine gm_X10_267 hM rfl (D 44 rfl) ?_
          rw [h44]
          refine hm_ist (o := 9) (n := 8 + tdC s 0) (by decide) (D 45 rfl) hM.k9 hM.n9 (by first | rfl | exact nI_add _ _ | assumption) (by omega) (by decide) ?_
          have hH := hH.wR (o := 9) (i := tdC s 0) rfl (by decide) hc8 (nI v)
          refine ht_aload_n (D 46 rfl) rfl rfl ?_
          refine gf_X10_13 rfl (D 47 rfl) hM.k0 hM.q2 ?_
          refine ht_iconst (v := 1) (D 48 rfl) (by decide) ?_
          refine ht_dup2 (D 49 rfl) rfl rfl ?_
          refine hm_ild (o := 2) (n := 1) (by decide) (D 50 rfl) hM.k2 hM.n2 (by first | rfl | exact nI_add _ _ | assumption) (by omega) (by decide) ?_
          rw [show up2 V 9 (8 + tdC s 0) (nI v) 2 1 = nI (tdC s 0) from hH.2.1.1.1]
          refine ht_iconst (v := 1) (D 51 rfl) (by decide) ?_
          refine ht_iadd (D 52 rfl) ?_
          rw [show nI (tdC s 0) + 1 = nI (tdC s 0 + 1) from nI_i1 _]
          refine hm_ist (o := 2) (n := 1) (by decide) (D 53 rfl) hM.k2 hM.n2 (by first | rfl | exact nI_add _ _ | assumption) (by omega) (by decide) ?_
          have hH := hH.wC (i := 0) (by decide) (fun _ => by
            show Wq (U 7 (tdC s 0)) (up2 (tdN s) 0 (tdC s 0) _ 0 (tdC s 0))
            rw [up2_s, hU]; exact hwq) (fun q => absurd q (by decide))
          refine ht_aload_n (D 54 rfl) rfl rfl ?_
          refine kVX10_ends (As := []) cl_X10_280 (D 55 rfl) (sr_ends hM hH) hM.k0 rfl (Nat.le_of_ble_eq_true rfl) rfl (Nat.le_of_ble_eq_true rfl) (by omega) ?_
          rintro _ _ (⟨hns, rfl, hdf⟩ | ⟨hys, rfl, hde⟩)
          · skip
            have hfa := hL.trans (nEnd_n hH.tk hns)
            refine ht_iret (D 56 rfl) rfl rfl ?_
            exact Or.inl ⟨_, hfa, rfl, hdf⟩
          · skip
            have hL := hL.trans (nEnd_y hH.tk hys)
            refine ht_iret (D 56 rfl) rfl rfl ?_
            exact Or.inr ⟨_, _, hL, rfl, hde⟩
  · skip
    have hc8 : ¬ tdC s 0 < 8 := by
      have h9 : tdC s 0 = 8 := (nI_eq (a := tdC s 0) (b := 8) (by omega) (by omega)).mp hb10
      omega
    have hfa : lnCell T n s b e (nEnd T n) = _ := ifc_n hc8
    refine ht_aload_n (D 8 rfl) rfl rfl ?_
    refine ht_iconst (v := 5) (D 9 rfl) (by decide) ?_
    refine kVX10_fails (As := [_]) cl_X10_213 (D 10 rfl) (sr_fails hM hH 5) hM.k0 rfl (Nat.le_of_ble_eq_true rfl) rfl (Nat.le_of_ble_eq_true rfl) (by omega) ?_
    rintro _ σ9 ⟨rfl, hdf⟩
    refine ht_iret (D 11 rfl) rfl rfl ?_
    exact Or.inl ⟨_, hfa, rfl, hdf⟩
end S2
