/-! ===== the reference: door, man ===== -/
section S3
variable {G : GG} {σ : Hp} {m : Nat} {V V2 V0 : VT} {U U2 U0 : UT} {T : ST} {n p b e k c : Nat} {ice : Bool} {s : TD}
set_option maxRecDepth 100000 in
theorem sr_door (hM : MS σ m) (hH : DS T n V0 U0 s ice p b e k c V U) (hV : TV T n s) : Sp G mX10_readsDoor 3 [.ref m] (sv σ m V U) (QM σ m T n V0 U0 (lnDoor T n s b e (nEnd T n))) := by
  have D := dat dl_X10_readsDoor
  show HT G mX10_readsDoor 0 [some (.ref m), none] [] (sv σ m V U) 3 _
  have hv0 := hV.1
  refine ht_bipush (v := 10) (D 0 rfl) (by decide) ?_
  refine ht_aload_n (D 1 rfl) rfl rfl ?_
  refine gf_X10_16 rfl (D 2 rfl) hM.k0 hM.q3 ?_
  refine ht_iconst (v := 1) (D 3 rfl) (by decide) ?_
  refine hm_ild (o := 3) (n := 1) (by decide) (D 4 rfl) hM.k3 hM.n3 (by first | rfl | exact nI_add _ _ | assumption) (by omega) (by decide) ?_
  rw [hH.2.1.1.2.1]
  refine ht_iadd (D 5 rfl) ?_
  rw [show (10 : Int32) + nI (tdC s 1) = nI (10 + tdC s 1) from nI_add 10 _]
  refine ht_istore_n (D 6 rfl) rfl (by decide) rfl ?_
  refine ht_aload_n (D 7 rfl) rfl rfl ?_
  refine gf_X10_16 rfl (D 8 rfl) hM.k0 hM.q3 ?_
  refine ht_iconst (v := 1) (D 9 rfl) (by decide) ?_
  refine hm_ild (o := 3) (n := 1) (by decide) (D 10 rfl) hM.k3 hM.n3 (by first | rfl | exact nI_add _ _ | assumption) (by omega) (by decide) ?_
  rw [hH.2.1.1.2.1]
  refine ht_bipush (v := 10) (D 11 rfl) (by decide) ?_
  refine ht_icmp_ne (tgt := 27) (D 12 rfl) (by decide) (fun hb18 => ?_) (fun hb18 => ?_)
  · skip
    have hc8 : tdC s 1 < 10 := by
      have h9 : ¬ tdC s 1 = 10 := fun q => hb18 (by rw [q]; rfl)
      omega
    have hL : lnDoor T n s b e (nEnd T n) = _ := ifc_y hc8
    refine ht_aload_n (D 17 rfl) rfl rfl ?_
    refine kVX10_nextToken (As := []) cl_X10_220 (D 18 rfl) (sr_next hM hH) hM.k0 rfl (Nat.le_of_ble_eq_true rfl) rfl (Nat.le_of_ble_eq_true rfl) (by omega) ?_
    rintro _ _ ⟨rfl, hdx⟩
    obtain ⟨V, U, ice, b, e, k, c, rfl, hH, hnu, h16, h44⟩ := hdx
    refine ht_aload_n (D 19 rfl) rfl rfl ?_
    refine kVX10_needsCell (As := []) cl_X10_289 (D 20 rfl) (sr_cell hM hH hv0.1) hM.k0 rfl (Nat.le_of_ble_eq_true rfl) rfl (Nat.le_of_ble_eq_true rfl) (by omega) ?_
    rintro _ _ (⟨hnm, rfl, hdf⟩ | ⟨hnm, hno, rfl, hdf⟩ | ⟨hnm, j, hj, rfl, hdx⟩)
    · skip
      have hfa := hL.trans (nCell_1 hH.tk hnm)
      refine ht_if_ne (tgt := 40) (D 21 rfl) (by decide) (fun hb35 => absurd (by decide) hb35) (fun hb35 => ?_)
      refine ht_iconst (v := 0) (D 22 rfl) (by decide) ?_
      refine ht_iret (D 23 rfl) rfl rfl ?_
      exact Or.inl ⟨_, hfa, rfl, hdf⟩
    · skip
      have hfa := hL.trans (nCell_2 hH.tk hnm hno)
      refine ht_if_ne (tgt := 40) (D 21 rfl) (by decide) (fun hb35 => absurd (by decide) hb35) (fun hb35 => ?_)
      refine ht_iconst (v := 0) (D 22 rfl) (by decide) ?_
      refine ht_iret (D 23 rfl) rfl rfl ?_
      exact Or.inl ⟨_, hfa, rfl, hdf⟩
    · skip
      have hL := hL.trans (nCell_y hH.tk hnm hj)
      obtain ⟨V, U, ice, b, e, k, c, rfl, hH, hnu, h16, h44⟩ := hdx
      have h44 := h44.trans (up2_s _ _ _ _)
      refine ht_if_ne (tgt := 40) (D 21 rfl) (by decide) (fun hb35 => ?_) (fun hb35 => absurd hb35 (by decide))
      refine ht_aload_n (D 24 rfl) rfl rfl ?_
      refine gf_X10_38 rfl (D 25 rfl) hM.k0 hM.q10 ?_
      refine ht_iload_n (D 26 rfl) rfl rfl ?_
      refine ht_aload_n (D 27 rfl) rfl rfl ?_
      refine gm_X10_267 hM rfl (D 28 rfl) ?_
      rw [h44]
      refine hm_ist (o := 10) (n := 10 + tdC s 1) (by decide) (D 29 rfl) hM.k10 hM.n10 (by first | rfl | exact nI_add _ _ | assumption) (by omega) (by decide) ?_
      have hH := hH.wR (o := 10) (i := tdC s 1) rfl (by decide) hc8 (nI j)
      refine ht_aload_n (D 30 rfl) rfl rfl ?_
      refine ht_ldc2 kl_X10_242 (D 31 rfl) ?_
      refine kVX10_needsWord (As := [_]) cl_X10_286 (D 32 rfl) (sr_word hM hH 6) hM.k0 rfl (Nat.le_of_ble_eq_true rfl) rfl (Nat.le_of_ble_eq_true rfl) (by omega) ?_
      rintro _ _ (⟨hno, rfl, hdf⟩ | ⟨hye, rfl, hdx⟩)
      · skip
        have hfa := hL.trans (nWord_n hH.tk hno)
        refine ht_if_ne (tgt := 62) (D 33 rfl) (by decide) (fun hb57 => absurd (by decide) hb57) (fun hb57 => ?_)
        refine ht_iconst (v := 0) (D 34 rfl) (by decide) ?_
        refine ht_iret (D 35 rfl) rfl rfl ?_
        exact Or.inl ⟨_, hfa, rfl, hdf⟩
      · skip
        have hL := hL.trans (nWord_y hH.tk hye)
        obtain ⟨V, U, ice, b, e, k, c, rfl, hH, hnu, h16, h44⟩ := hdx
        refine ht_if_ne (tgt := 62) (D 33 rfl) (by decide) (fun hb57 => ?_) (fun hb57 => absurd hb57 (by decide))
        refine ht_aload_n (D 36 rfl) rfl rfl ?_
        refine ht_ldc2 kl_X10_244 (D 37 rfl) ?_
        refine kVX10_isWord (As := [_]) cl_X10_205 (D 38 rfl) (sm_isWd hM hH.1 7) hM.k0 rfl (Nat.le_of_ble_eq_true rfl) rfl (Nat.le_of_ble_eq_true rfl) (by omega) ?_
        rintro _ _ ⟨rfl, rfl⟩
        refine ht_if_eq (tgt := 86) (D 39 rfl) (by decide) (fun hb69 => ?_) (fun hb69 => ?_)
        · skip
          have hno7 := b01_eq hb69
          have hL := hL.trans (nOth_c hH.tk hno7)
          refine ht_aload_n (D 48 rfl) rfl rfl ?_
          refine kVX10_isKept (As := []) cl_X10_256 (D 49 rfl) (sr_kept hM hH) hM.k0 rfl (Nat.le_of_ble_eq_true rfl) rfl (Nat.le_of_ble_eq_true rfl) (by omega) ?_
          rintro _ _ ⟨⟨rfl, hnk⟩ | ⟨rfl, hnm⟩, rfl⟩
          · skip
            refine ht_if_ne (tgt := 112) (D 50 rfl) (by decide) (fun hb90 => ?_) (fun hb90 => absurd hb90 (by decide))
            have hneq : ∀ i3, nmT T b e k → cnI (asR s 10 (tdC s 1) (nI j)) (pkD T b (e - b)) i3 → ¬ i3 = j := fun i3 q _ => absurd q hnk
            refine ht_aload_n (D 62 rfl) rfl rfl ?_
            refine kVX10_needsCell (As := []) cl_X10_289 (D 63 rfl) (sr_cell hM hH hv0.1) hM.k0 rfl (Nat.le_of_ble_eq_true rfl) rfl (Nat.le_of_ble_eq_true rfl) (by omega) ?_
            rintro _ _ (⟨hnm, rfl, hdf⟩ | ⟨hnm, hno, rfl, hdf⟩ | ⟨hnm, i2, hi2, rfl, hdx⟩)
            · skip
              have hfa := hL.trans (nCell_1 hH.tk hnm)
              refine ht_if_ne (tgt := 121) (D 64 rfl) (by decide) (fun hb116 => absurd (by decide) hb116) (fun hb116 => ?_)
              refine ht_iconst (v := 0) (D 65 rfl) (by decide) ?_
              refine ht_iret (D 66 rfl) rfl rfl ?_
              exact Or.inl ⟨_, hfa, rfl, hdf⟩
            · skip
              have hfa := hL.trans (nCell_2 hH.tk hnm hno)
              refine ht_if_ne (tgt := 121) (D 64 rfl) (by decide) (fun hb116 => absurd (by decide) hb116) (fun hb116 => ?_)
              refine ht_iconst (v := 0) (D 65 rfl) (by decide) ?_
              refine ht_iret (D 66 rfl) rfl rfl ?_
              exact Or.inl ⟨_, hfa, rfl, hdf⟩
            · skip
              have hne2 := hneq i2 hnm hi2
              have hL := hL.trans (nCell_y hH.tk hnm hi2)
              have hL := hL.trans (ifc_n hne2)
              obtain ⟨V, U, ice, b, e, k, c, rfl, hH, hnu, h16, h44⟩ := hdx
              have h44 := h44.trans (up2_s _ _ _ _)
              refine ht_if_ne (tgt := 121) (D 64 rfl) (by decide) (fun hb116 => ?_) (fun hb116 => absurd hb116 (by decide))
              refine ht_aload_n (D 67 rfl) rfl rfl ?_
              refine gf_X10_41 rfl (D 68 rfl) hM.k0 hM.q11 ?_
              refine ht_iload_n (D 69 rfl) rfl rfl ?_
              refine ht_aload_n (D 70 rfl) rfl rfl ?_
              refine gm_X10_267 hM rfl (D 71 rfl) ?_
              rw [h44]
              refine hm_ist (o := 11) (n := 10 + tdC s 1) (by decide) (D 72 rfl) hM.k11 hM.n11 (by first | rfl | exact nI_add _ _ | assumption) (by omega) (by decide) ?_
              have hH := hH.wR (o := 11) (i := tdC s 1) rfl (by decide) hc8 (nI i2)
              refine ht_aload_n (D 73 rfl) rfl rfl ?_
              refine ht_ldc2 kl_X10_246 (D 74 rfl) ?_
              refine kVX10_needsWord (As := [_]) cl_X10_286 (D 75 rfl) (sr_word hM hH 8) hM.k0 rfl (Nat.le_of_ble_eq_true rfl) rfl (Nat.le_of_ble_eq_true rfl) (by omega) ?_
              rintro _ _ (⟨hno, rfl, hdf⟩ | ⟨hye, rfl, hdx⟩)
              · skip
                have hfa := hL.trans (nWord_n hH.tk hno)
                refine ht_if_eq (tgt := 151) (D 76 rfl) (by decide) (fun hb138 => ?_) (fun hb138 => absurd (by decide) hb138)
                refine ht_iconst (v := 0) (D 82 rfl) (by decide) ?_
                refine ht_iret (D 83 rfl) rfl rfl ?_
                exact Or.inl ⟨_, hfa, rfl, hdf⟩
              · skip
                have hL := hL.trans (nWord_y hH.tk hye)
                obtain ⟨V, U, ice, b, e, k, c, rfl, hH, hnu, h16, h44⟩ := hdx
                refine ht_if_eq (tgt := 151) (D 76 rfl) (by decide) (fun hb138 => absurd hb138 (by decide)) (fun hb138 => ?_)
                refine ht_aload_n (D 77 rfl) rfl rfl ?_
                refine ht_iconst (v := 0) (D 78 rfl) (by decide) ?_
                refine ht_bipush (v := 99) (D 79 rfl) (by decide) ?_
                refine kVX10_needsNumber (As := [_, _]) cl_X10_276 (D 80 rfl) (sr_num hM hH 99) hM.k0 rfl (Nat.le_of_ble_eq_true rfl) rfl (Nat.le_of_ble_eq_true rfl) (by omega) ?_
                rintro _ _ (⟨hk2, rfl, hdf⟩ | ⟨hk2, hgt, rfl, hdf⟩ | ⟨hk2, hlq, rfl, hdx⟩)
                · skip
                  have hfa := hL.trans (nNum_1 hH.tk hk2)
                  refine ht_if_ne (tgt := 153) (D 81 rfl) (by decide) (fun hb148 => absurd (by decide) hb148) (fun hb148 => ?_)
                  refine ht_iconst (v := 0) (D 82 rfl) (by decide) ?_
                  refine ht_iret (D 83 rfl) rfl rfl ?_
                  exact Or.inl ⟨_, hfa, rfl, hdf⟩
                · skip
                  have hfa := hL.trans (nNum_4 hH.tk hk2 hgt)
                  refine ht_if_ne (tgt := 153) (D 81 rfl) (by decide) (fun hb148 => absurd (by decide) hb148) (fun hb148 => ?_)
                  refine ht_iconst (v := 0) (D 82 rfl) (by decide) ?_
                  refine ht_iret (D 83 rfl) rfl rfl ?_
                  exact Or.inl ⟨_, hfa, rfl, hdf⟩
                · skip
                  obtain ⟨v, hv, hvx⟩ := dg_le hH.tk hk2 (hi := 99) (by decide) hlq
                  have hL := hL.trans (nNum_y hH.tk hk2 hlq)
                  rw [hvx] at hL hdx
                  obtain ⟨V, U, ice, b, e, k, c, rfl, hH, hnu, h16, h44⟩ := hdx
                  have h44 := h44.trans (up2_s _ _ _ _)
                  refine ht_if_ne (tgt := 153) (D 81 rfl) (by decide) (fun hb148 => ?_) (fun hb148 => absurd hb148 (by decide))
                  refine ht_aload_n (D 84 rfl) rfl rfl ?_
                  refine gf_X10_44 rfl (D 85 rfl) hM.k0 hM.q12 ?_
                  refine ht_iload_n (D 86 rfl) rfl rfl ?_
                  refine ht_aload_n (D 87 rfl) rfl rfl ?_
                  refine gm_X10_267 hM rfl (D 88 rfl) ?_
                  rw [h44]
                  refine hm_ist (o := 12) (n := 10 + tdC s 1) (by decide) (D 89 rfl) hM.k12 hM.n12 (by first | rfl | exact nI_add _ _ | assumption) (by omega) (by decide) ?_
                  have hH := hH.wR (o := 12) (i := tdC s 1) rfl (by decide) hc8 (nI v)
                  refine ht_aload_n (D 90 rfl) rfl rfl ?_
                  refine gf_X10_16 rfl (D 91 rfl) hM.k0 hM.q3 ?_
                  refine ht_iconst (v := 1) (D 92 rfl) (by decide) ?_
                  refine ht_dup2 (D 93 rfl) rfl rfl ?_
                  refine hm_ild (o := 3) (n := 1) (by decide) (D 94 rfl) hM.k3 hM.n3 (by first | rfl | exact nI_add _ _ | assumption) (by omega) (by decide) ?_
                  rw [show up2 V 12 (10 + tdC s 1) (nI v) 3 1 = nI (tdC s 1) from hH.2.1.1.2.1]
                  refine ht_iconst (v := 1) (D 95 rfl) (by decide) ?_
                  refine ht_iadd (D 96 rfl) ?_
                  rw [show nI (tdC s 1) + 1 = nI (tdC s 1 + 1) from nI_i1 _]
                  refine hm_ist (o := 3) (n := 1) (by decide) (D 97 rfl) hM.k3 hM.n3 (by first | rfl | exact nI_add _ _ | assumption) (by omega) (by decide) ?_
                  have hH := hH.wC (i := 1) (by decide) (fun q => absurd q (by decide)) (fun q => absurd q (by decide))
                  refine ht_aload_n (D 98 rfl) rfl rfl ?_
                  refine kVX10_ends (As := []) cl_X10_280 (D 99 rfl) (sr_ends hM hH) hM.k0 rfl (Nat.le_of_ble_eq_true rfl) rfl (Nat.le_of_ble_eq_true rfl) (by omega) ?_
                  rintro _ _ (⟨hns, rfl, hdf⟩ | ⟨hys, rfl, hde⟩)
                  · skip
                    have hfa := hL.trans (nEnd_n hH.tk hns)
                    refine ht_iret (D 100 rfl) rfl rfl ?_
                    exact Or.inl ⟨_, hfa, rfl, hdf⟩
                  · skip
                    have hL := hL.trans (nEnd_y hH.tk hys)
                    refine ht_iret (D 100 rfl) rfl rfl ?_
                    exact Or.inr ⟨_, _, hL, rfl, hde⟩
          · skip
            refine ht_if_ne (tgt := 112) (D 50 rfl) (by decide) (fun hb90 => absurd (by decide) hb90) (fun hb90 => ?_)
            refine ht_aload_n (D 51 rfl) rfl rfl ?_
            refine kVX10_cellNamed (As := []) cl_X10_260 (D 52 rfl) (sr_cellNamed hM hH hv0.1 hnm) hM.k0 rfl (Nat.le_of_ble_eq_true rfl) rfl (Nat.le_of_ble_eq_true rfl) (by omega) ?_
            rintro _ _ ⟨⟨hnc, rfl⟩ | ⟨i2, hi2, rfl⟩, rfl⟩
            · skip
              refine ht_aload_n (D 53 rfl) rfl rfl ?_
              refine gf_X10_38 rfl (D 54 rfl) hM.k0 hM.q10 ?_
              refine ht_iload_n (D 55 rfl) rfl rfl ?_
              refine hm_ild (o := 10) (n := 10 + tdC s 1) (by decide) (D 56 rfl) hM.k10 hM.n10 (by first | rfl | exact nI_add _ _ | assumption) (by omega) (by decide) ?_
              rw [show V 10 (10 + tdC s 1) = nI j from (hH.2.1.2.2.1 10 (tdC s 1) (by decide) hc8 (Or.inl ⟨rfl, rfl⟩)).trans (up2_s _ _ _ _)]
              refine ht_icmp_ne (tgt := 112) (D 57 rfl) (by decide) (fun hb103 => ?_) (fun hb103 => ?_)
              · skip
                have hneq : ∀ i3, nmT T b e k → cnI (asR s 10 (tdC s 1) (nI j)) (pkD T b (e - b)) i3 → ¬ i3 = j := fun i3 _ h3 => absurd h3.2.1 (hnc i3 h3.1)
                refine ht_aload_n (D 62 rfl) rfl rfl ?_
                refine kVX10_needsCell (As := []) cl_X10_289 (D 63 rfl) (sr_cell hM hH hv0.1) hM.k0 rfl (Nat.le_of_ble_eq_true rfl) rfl (Nat.le_of_ble_eq_true rfl) (by omega) ?_
                rintro _ _ (⟨hnm, rfl, hdf⟩ | ⟨hnm, hno, rfl, hdf⟩ | ⟨hnm, i2, hi2, rfl, hdx⟩)
                · skip
                  have hfa := hL.trans (nCell_1 hH.tk hnm)
                  refine ht_if_ne (tgt := 121) (D 64 rfl) (by decide) (fun hb116 => absurd (by decide) hb116) (fun hb116 => ?_)
                  refine ht_iconst (v := 0) (D 65 rfl) (by decide) ?_
                  refine ht_iret (D 66 rfl) rfl rfl ?_
                  exact Or.inl ⟨_, hfa, rfl, hdf⟩
                · skip
                  have hfa := hL.trans (nCell_2 hH.tk hnm hno)
                  refine ht_if_ne (tgt := 121) (D 64 rfl) (by decide) (fun hb116 => absurd (by decide) hb116) (fun hb116 => ?_)
                  refine ht_iconst (v := 0) (D 65 rfl) (by decide) ?_
                  refine ht_iret (D 66 rfl) rfl rfl ?_
                  exact Or.inl ⟨_, hfa, rfl, hdf⟩
                · skip
                  have hne2 := hneq i2 hnm hi2
                  have hL := hL.trans (nCell_y hH.tk hnm hi2)
                  have hL := hL.trans (ifc_n hne2)
                  obtain ⟨V, U, ice, b, e, k, c, rfl, hH, hnu, h16, h44⟩ := hdx
                  have h44 := h44.trans (up2_s _ _ _ _)
                  refine ht_if_ne (tgt := 121) (D 64 rfl) (by decide) (fun hb116 => ?_) (fun hb116 => absurd hb116 (by decide))
                  refine ht_aload_n (D 67 rfl) rfl rfl ?_
                  refine gf_X10_41 rfl (D 68 rfl) hM.k0 hM.q11 ?_
                  refine ht_iload_n (D 69 rfl) rfl rfl ?_
                  refine ht_aload_n (D 70 rfl) rfl rfl ?_
                  refine gm_X10_267 hM rfl (D 71 rfl) ?_
                  rw [h44]
                  refine hm_ist (o := 11) (n := 10 + tdC s 1) (by decide) (D 72 rfl) hM.k11 hM.n11 (by first | rfl | exact nI_add _ _ | assumption) (by omega) (by decide) ?_
                  have hH := hH.wR (o := 11) (i := tdC s 1) rfl (by decide) hc8 (nI i2)
                  refine ht_aload_n (D 73 rfl) rfl rfl ?_
                  refine ht_ldc2 kl_X10_246 (D 74 rfl) ?_
                  refine kVX10_needsWord (As := [_]) cl_X10_286 (D 75 rfl) (sr_word hM hH 8) hM.k0 rfl (Nat.le_of_ble_eq_true rfl) rfl (Nat.le_of_ble_eq_true rfl) (by omega) ?_
                  rintro _ _ (⟨hno, rfl, hdf⟩ | ⟨hye, rfl, hdx⟩)
                  · skip
                    have hfa := hL.trans (nWord_n hH.tk hno)
                    refine ht_if_eq (tgt := 151) (D 76 rfl) (by decide) (fun hb138 => ?_) (fun hb138 => absurd (by decide) hb138)
                    refine ht_iconst (v := 0) (D 82 rfl) (by decide) ?_
                    refine ht_iret (D 83 rfl) rfl rfl ?_
                    exact Or.inl ⟨_, hfa, rfl, hdf⟩
                  · skip
                    have hL := hL.trans (nWord_y hH.tk hye)
                    obtain ⟨V, U, ice, b, e, k, c, rfl, hH, hnu, h16, h44⟩ := hdx
                    refine ht_if_eq (tgt := 151) (D 76 rfl) (by decide) (fun hb138 => absurd hb138 (by decide)) (fun hb138 => ?_)
                    refine ht_aload_n (D 77 rfl) rfl rfl ?_
                    refine ht_iconst (v := 0) (D 78 rfl) (by decide) ?_
                    refine ht_bipush (v := 99) (D 79 rfl) (by decide) ?_
                    refine kVX10_needsNumber (As := [_, _]) cl_X10_276 (D 80 rfl) (sr_num hM hH 99) hM.k0 rfl (Nat.le_of_ble_eq_true rfl) rfl (Nat.le_of_ble_eq_true rfl) (by omega) ?_
                    rintro _ _ (⟨hk2, rfl, hdf⟩ | ⟨hk2, hgt, rfl, hdf⟩ | ⟨hk2, hlq, rfl, hdx⟩)
                    · skip
                      have hfa := hL.trans (nNum_1 hH.tk hk2)
                      refine ht_if_ne (tgt := 153) (D 81 rfl) (by decide) (fun hb148 => absurd (by decide) hb148) (fun hb148 => ?_)
                      refine ht_iconst (v := 0) (D 82 rfl) (by decide) ?_
                      refine ht_iret (D 83 rfl) rfl rfl ?_
                      exact Or.inl ⟨_, hfa, rfl, hdf⟩
                    · skip
                      have hfa := hL.trans (nNum_4 hH.tk hk2 hgt)
                      refine ht_if_ne (tgt := 153) (D 81 rfl) (by decide) (fun hb148 => absurd (by decide) hb148) (fun hb148 => ?_)
                      refine ht_iconst (v := 0) (D 82 rfl) (by decide) ?_
                      refine ht_iret (D 83 rfl) rfl rfl ?_
                      exact Or.inl ⟨_, hfa, rfl, hdf⟩
                    · skip
                      obtain ⟨v, hv, hvx⟩ := dg_le hH.tk hk2 (hi := 99) (by decide) hlq
                      have hL := hL.trans (nNum_y hH.tk hk2 hlq)
                      rw [hvx] at hL hdx
                      obtain ⟨V, U, ice, b, e, k, c, rfl, hH, hnu, h16, h44⟩ := hdx
                      have h44 := h44.trans (up2_s _ _ _ _)
                      refine ht_if_ne (tgt := 153) (D 81 rfl) (by decide) (fun hb148 => ?_) (fun hb148 => absurd hb148 (by decide))
                      refine ht_aload_n (D 84 rfl) rfl rfl ?_
                      refine gf_X10_44 rfl (D 85 rfl) hM.k0 hM.q12 ?_
                      refine ht_iload_n (D 86 rfl) rfl rfl ?_
                      refine ht_aload_n (D 87 rfl) rfl rfl ?_
                      refine gm_X10_267 hM rfl (D 88 rfl) ?_
                      rw [h44]
                      refine hm_ist (o := 12) (n := 10 + tdC s 1) (by decide) (D 89 rfl) hM.k12 hM.n12 (by first | rfl | exact nI_add _ _ | assumption) (by omega) (by decide) ?_
                      have hH := hH.wR (o := 12) (i := tdC s 1) rfl (by decide) hc8 (nI v)
                      refine ht_aload_n (D 90 rfl) rfl rfl ?_
                      refine gf_X10_16 rfl (D 91 rfl) hM.k0 hM.q3 ?_
                      refine ht_iconst (v := 1) (D 92 rfl) (by decide) ?_
                      refine ht_dup2 (D 93 rfl) rfl rfl ?_
                      refine hm_ild (o := 3) (n := 1) (by decide) (D 94 rfl) hM.k3 hM.n3 (by first | rfl | exact nI_add _ _ | assumption) (by omega) (by decide) ?_
                      rw [show up2 V 12 (10 + tdC s 1) (nI v) 3 1 = nI (tdC s 1) from hH.2.1.1.2.1]
                      refine ht_iconst (v := 1) (D 95 rfl) (by decide) ?_
                      refine ht_iadd (D 96 rfl) ?_
                      rw [show nI (tdC s 1) + 1 = nI (tdC s 1 + 1) from nI_i1 _]
                      refine hm_ist (o := 3) (n := 1) (by decide) (D 97 rfl) hM.k3 hM.n3 (by first | rfl | exact nI_add _ _ | assumption) (by omega) (by decide) ?_
                      have hH := hH.wC (i := 1) (by decide) (fun q => absurd q (by decide)) (fun q => absurd q (by decide))
                      refine ht_aload_n (D 98 rfl) rfl rfl ?_
                      refine kVX10_ends (As := []) cl_X10_280 (D 99 rfl) (sr_ends hM hH) hM.k0 rfl (Nat.le_of_ble_eq_true rfl) rfl (Nat.le_of_ble_eq_true rfl) (by omega) ?_
                      rintro _ _ (⟨hns, rfl, hdf⟩ | ⟨hys, rfl, hde⟩)
                      · skip
                        have hfa := hL.trans (nEnd_n hH.tk hns)
                        refine ht_iret (D 100 rfl) rfl rfl ?_
                        exact Or.inl ⟨_, hfa, rfl, hdf⟩
                      · skip
                        have hL := hL.trans (nEnd_y hH.tk hys)
                        refine ht_iret (D 100 rfl) rfl rfl ?_
                        exact Or.inr ⟨_, _, hL, rfl, hde⟩
              · skip
                exact absurd hb103.symm (nI_ge0 (by have := hj.1; omega))
            · skip
              refine ht_aload_n (D 53 rfl) rfl rfl ?_
              refine gf_X10_38 rfl (D 54 rfl) hM.k0 hM.q10 ?_
              refine ht_iload_n (D 55 rfl) rfl rfl ?_
              refine hm_ild (o := 10) (n := 10 + tdC s 1) (by decide) (D 56 rfl) hM.k10 hM.n10 (by first | rfl | exact nI_add _ _ | assumption) (by omega) (by decide) ?_
              rw [show V 10 (10 + tdC s 1) = nI j from (hH.2.1.2.2.1 10 (tdC s 1) (by decide) hc8 (Or.inl ⟨rfl, rfl⟩)).trans (up2_s _ _ _ _)]
              refine ht_icmp_ne (tgt := 112) (D 57 rfl) (by decide) (fun hb103 => ?_) (fun hb103 => ?_)
              · skip
                have hne : ¬ i2 = j := fun q => hb103 (by rw [q])
                have hneq : ∀ i3, nmT T b e k → cnI (asR s 10 (tdC s 1) (nI j)) (pkD T b (e - b)) i3 → ¬ i3 = j := fun i3 _ h3 => by rw [cnI_u h3 hi2]; exact hne
                refine ht_aload_n (D 62 rfl) rfl rfl ?_
                refine kVX10_needsCell (As := []) cl_X10_289 (D 63 rfl) (sr_cell hM hH hv0.1) hM.k0 rfl (Nat.le_of_ble_eq_true rfl) rfl (Nat.le_of_ble_eq_true rfl) (by omega) ?_
                rintro _ _ (⟨hnm, rfl, hdf⟩ | ⟨hnm, hno, rfl, hdf⟩ | ⟨hnm, i2, hi2, rfl, hdx⟩)
                · skip
                  have hfa := hL.trans (nCell_1 hH.tk hnm)
                  refine ht_if_ne (tgt := 121) (D 64 rfl) (by decide) (fun hb116 => absurd (by decide) hb116) (fun hb116 => ?_)
                  refine ht_iconst (v := 0) (D 65 rfl) (by decide) ?_
                  refine ht_iret (D 66 rfl) rfl rfl ?_
                  exact Or.inl ⟨_, hfa, rfl, hdf⟩
                · skip
                  have hfa := hL.trans (nCell_2 hH.tk hnm hno)
                  refine ht_if_ne (tgt := 121) (D 64 rfl) (by decide) (fun hb116 => absurd (by decide) hb116) (fun hb116 => ?_)
                  refine ht_iconst (v := 0) (D 65 rfl) (by decide) ?_
                  refine ht_iret (D 66 rfl) rfl rfl ?_
                  exact Or.inl ⟨_, hfa, rfl, hdf⟩
                · skip
                  have hne2 := hneq i2 hnm hi2
                  have hL := hL.trans (nCell_y hH.tk hnm hi2)
                  have hL := hL.trans (ifc_n hne2)
                  obtain ⟨V, U, ice, b, e, k, c, rfl, hH, hnu, h16, h44⟩ := hdx
                  have h44 := h44.trans (up2_s _ _ _ _)
                  refine ht_if_ne (tgt := 121) (D 64 rfl) (by decide) (fun hb116 => ?_) (fun hb116 => absurd hb116 (by decide))
                  refine ht_aload_n (D 67 rfl) rfl rfl ?_
                  refine gf_X10_41 rfl (D 68 rfl) hM.k0 hM.q11 ?_
                  refine ht_iload_n (D 69 rfl) rfl rfl ?_
                  refine ht_aload_n (D 70 rfl) rfl rfl ?_
                  refine gm_X10_267 hM rfl (D 71 rfl) ?_
                  rw [h44]
                  refine hm_ist (o := 11) (n := 10 + tdC s 1) (by decide) (D 72 rfl) hM.k11 hM.n11 (by first | rfl | exact nI_add _ _ | assumption) (by omega) (by decide) ?_
                  have hH := hH.wR (o := 11) (i := tdC s 1) rfl (by decide) hc8 (nI i2)
                  refine ht_aload_n (D 73 rfl) rfl rfl ?_
                  refine ht_ldc2 kl_X10_246 (D 74 rfl) ?_
                  refine kVX10_needsWord (As := [_]) cl_X10_286 (D 75 rfl) (sr_word hM hH 8) hM.k0 rfl (Nat.le_of_ble_eq_true rfl) rfl (Nat.le_of_ble_eq_true rfl) (by omega) ?_
                  rintro _ _ (⟨hno, rfl, hdf⟩ | ⟨hye, rfl, hdx⟩)
                  · skip
                    have hfa := hL.trans (nWord_n hH.tk hno)
                    refine ht_if_eq (tgt := 151) (D 76 rfl) (by decide) (fun hb138 => ?_) (fun hb138 => absurd (by decide) hb138)
                    refine ht_iconst (v := 0) (D 82 rfl) (by decide) ?_
                    refine ht_iret (D 83 rfl) rfl rfl ?_
                    exact Or.inl ⟨_, hfa, rfl, hdf⟩
                  · skip
                    have hL := hL.trans (nWord_y hH.tk hye)
                    obtain ⟨V, U, ice, b, e, k, c, rfl, hH, hnu, h16, h44⟩ := hdx
                    refine ht_if_eq (tgt := 151) (D 76 rfl) (by decide) (fun hb138 => absurd hb138 (by decide)) (fun hb138 => ?_)
                    refine ht_aload_n (D 77 rfl) rfl rfl ?_
                    refine ht_iconst (v := 0) (D 78 rfl) (by decide) ?_
                    refine ht_bipush (v := 99) (D 79 rfl) (by decide) ?_
                    refine kVX10_needsNumber (As := [_, _]) cl_X10_276 (D 80 rfl) (sr_num hM hH 99) hM.k0 rfl (Nat.le_of_ble_eq_true rfl) rfl (Nat.le_of_ble_eq_true rfl) (by omega) ?_
                    rintro _ _ (⟨hk2, rfl, hdf⟩ | ⟨hk2, hgt, rfl, hdf⟩ | ⟨hk2, hlq, rfl, hdx⟩)
                    · skip
                      have hfa := hL.trans (nNum_1 hH.tk hk2)
                      refine ht_if_ne (tgt := 153) (D 81 rfl) (by decide) (fun hb148 => absurd (by decide) hb148) (fun hb148 => ?_)
                      refine ht_iconst (v := 0) (D 82 rfl) (by decide) ?_
                      refine ht_iret (D 83 rfl) rfl rfl ?_
                      exact Or.inl ⟨_, hfa, rfl, hdf⟩
                    · skip
                      have hfa := hL.trans (nNum_4 hH.tk hk2 hgt)
                      refine ht_if_ne (tgt := 153) (D 81 rfl) (by decide) (fun hb148 => absurd (by decide) hb148) (fun hb148 => ?_)
                      refine ht_iconst (v := 0) (D 82 rfl) (by decide) ?_
                      refine ht_iret (D 83 rfl) rfl rfl ?_
                      exact Or.inl ⟨_, hfa, rfl, hdf⟩
                    · skip
                      obtain ⟨v, hv, hvx⟩ := dg_le hH.tk hk2 (hi := 99) (by decide) hlq
                      have hL := hL.trans (nNum_y hH.tk hk2 hlq)
                      rw [hvx] at hL hdx
                      obtain ⟨V, U, ice, b, e, k, c, rfl, hH, hnu, h16, h44⟩ := hdx
                      have h44 := h44.trans (up2_s _ _ _ _)
                      refine ht_if_ne (tgt := 153) (D 81 rfl) (by decide) (fun hb148 => ?_) (fun hb148 => absurd hb148 (by decide))
                      refine ht_aload_n (D 84 rfl) rfl rfl ?_
                      refine gf_X10_44 rfl (D 85 rfl) hM.k0 hM.q12 ?_
                      refine ht_iload_n (D 86 rfl) rfl rfl ?_
                      refine ht_aload_n (D 87 rfl) rfl rfl ?_
                      refine gm_X10_267 hM rfl (D 88 rfl) ?_
                      rw [h44]
                      refine hm_ist (o := 12) (n := 10 + tdC s 1) (by decide) (D 89 rfl) hM.k12 hM.n12 (by first | rfl | exact nI_add _ _ | assumption) (by omega) (by decide) ?_
                      have hH := hH.wR (o := 12) (i := tdC s 1) rfl (by decide) hc8 (nI v)
                      refine ht_aload_n (D 90 rfl) rfl rfl ?_
                      refine gf_X10_16 rfl (D 91 rfl) hM.k0 hM.q3 ?_
                      refine ht_iconst (v := 1) (D 92 rfl) (by decide) ?_
                      refine ht_dup2 (D 93 rfl) rfl rfl ?_
                      refine hm_ild (o := 3) (n := 1) (by decide) (D 94 rfl) hM.k3 hM.n3 (by first | rfl | exact nI_add _ _ | assumption) (by omega) (by decide) ?_
                      rw [show up2 V 12 (10 + tdC s 1) (nI v) 3 1 = nI (tdC s 1) from hH.2.1.1.2.1]
                      refine ht_iconst (v := 1) (D 95 rfl) (by decide) ?_
                      refine ht_iadd (D 96 rfl) ?_
                      rw [show nI (tdC s 1) + 1 = nI (tdC s 1 + 1) from nI_i1 _]
                      refine hm_ist (o := 3) (n := 1) (by decide) (D 97 rfl) hM.k3 hM.n3 (by first | rfl | exact nI_add _ _ | assumption) (by omega) (by decide) ?_
                      have hH := hH.wC (i := 1) (by decide) (fun q => absurd q (by decide)) (fun q => absurd q (by decide))
                      refine ht_aload_n (D 98 rfl) rfl rfl ?_
                      refine kVX10_ends (As := []) cl_X10_280 (D 99 rfl) (sr_ends hM hH) hM.k0 rfl (Nat.le_of_ble_eq_true rfl) rfl (Nat.le_of_ble_eq_true rfl) (by omega) ?_
                      rintro _ _ (⟨hns, rfl, hdf⟩ | ⟨hys, rfl, hde⟩)
                      · skip
                        have hfa := hL.trans (nEnd_n hH.tk hns)
                        refine ht_iret (D 100 rfl) rfl rfl ?_
                        exact Or.inl ⟨_, hfa, rfl, hdf⟩
                      · skip
                        have hL := hL.trans (nEnd_y hH.tk hys)
                        refine ht_iret (D 100 rfl) rfl rfl ?_
                        exact Or.inr ⟨_, _, hL, rfl, hde⟩
              · skip
                have heq : i2 = j := (nI_eq (by have h9 : i2 < tdC s 0 := hi2.1; omega) (by have := hj.1; have := hv0.1; omega)).mp hb103
                have hfa := (hL.trans (nCell_y hH.tk hnm hi2)).trans (ifc_y heq)
                refine ht_aload_n (D 58 rfl) rfl rfl ?_
                refine ht_iconst (v := 3) (D 59 rfl) (by decide) ?_
                refine kVX10_fails (As := [_]) cl_X10_213 (D 60 rfl) (sr_fails hM hH 3) hM.k0 rfl (Nat.le_of_ble_eq_true rfl) rfl (Nat.le_of_ble_eq_true rfl) (by omega) ?_
                rintro _ σ9 ⟨rfl, hdf⟩
                refine ht_iret (D 61 rfl) rfl rfl ?_
                exact Or.inl ⟨_, hfa, rfl, hdf⟩
        · skip
          have hye7 := b01_ne hb69
          have hL := hL.trans (nOth_o hH.tk hye7)
          refine ht_aload_n (D 40 rfl) rfl rfl ?_
          refine gf_X10_41 rfl (D 41 rfl) hM.k0 hM.q11 ?_
          refine ht_iload_n (D 42 rfl) rfl rfl ?_
          refine ht_iconst (v := -1) (D 43 rfl) (by decide) ?_
          refine hm_ist (o := 11) (n := 10 + tdC s 1) (by decide) (D 44 rfl) hM.k11 hM.n11 (by first | rfl | exact nI_add _ _ | assumption) (by omega) (by decide) ?_
          have hH := hH.wR (o := 11) (i := tdC s 1) rfl (by decide) hc8 (-1)
          refine ht_aload_n (D 45 rfl) rfl rfl ?_
          refine kVX10_nextToken (As := []) cl_X10_220 (D 46 rfl) (sr_next hM hH) hM.k0 rfl (Nat.le_of_ble_eq_true rfl) rfl (Nat.le_of_ble_eq_true rfl) (by omega) ?_
          rintro _ _ ⟨rfl, hdx⟩
          obtain ⟨V, U, ice, b, e, k, c, rfl, hH, hnu, h16, h44⟩ := hdx
          refine ht_goto (tgt := 131) (D 47 rfl) (by decide) ?_
          refine ht_aload_n (D 73 rfl) rfl rfl ?_
          refine ht_ldc2 kl_X10_246 (D 74 rfl) ?_
          refine kVX10_needsWord (As := [_]) cl_X10_286 (D 75 rfl) (sr_word hM hH 8) hM.k0 rfl (Nat.le_of_ble_eq_true rfl) rfl (Nat.le_of_ble_eq_true rfl) (by omega) ?_
          rintro _ _ (⟨hno, rfl, hdf⟩ | ⟨hye, rfl, hdx⟩)
          · skip
            have hfa := hL.trans (nWord_n hH.tk hno)
            refine ht_if_eq (tgt := 151) (D 76 rfl) (by decide) (fun hb138 => ?_) (fun hb138 => absurd (by decide) hb138)
            refine ht_iconst (v := 0) (D 82 rfl) (by decide) ?_
            refine ht_iret (D 83 rfl) rfl rfl ?_
            exact Or.inl ⟨_, hfa, rfl, hdf⟩
          · skip
            have hL := hL.trans (nWord_y hH.tk hye)
            obtain ⟨V, U, ice, b, e, k, c, rfl, hH, hnu, h16, h44⟩ := hdx
            refine ht_if_eq (tgt := 151) (D 76 rfl) (by decide) (fun hb138 => absurd hb138 (by decide)) (fun hb138 => ?_)
            refine ht_aload_n (D 77 rfl) rfl rfl ?_
            refine ht_iconst (v := 0) (D 78 rfl) (by decide) ?_
            refine ht_bipush (v := 99) (D 79 rfl) (by decide) ?_
            refine kVX10_needsNumber (As := [_, _]) cl_X10_276 (D 80 rfl) (sr_num hM hH 99) hM.k0 rfl (Nat.le_of_ble_eq_true rfl) rfl (Nat.le_of_ble_eq_true rfl) (by omega) ?_
            rintro _ _ (⟨hk2, rfl, hdf⟩ | ⟨hk2, hgt, rfl, hdf⟩ | ⟨hk2, hlq, rfl, hdx⟩)
            · skip
              have hfa := hL.trans (nNum_1 hH.tk hk2)
              refine ht_if_ne (tgt := 153) (D 81 rfl) (by decide) (fun hb148 => absurd (by decide) hb148) (fun hb148 => ?_)
              refine ht_iconst (v := 0) (D 82 rfl) (by decide) ?_
              refine ht_iret (D 83 rfl) rfl rfl ?_
              exact Or.inl ⟨_, hfa, rfl, hdf⟩
            · skip
              have hfa := hL.trans (nNum_4 hH.tk hk2 hgt)
              refine ht_if_ne (tgt := 153) (D 81 rfl) (by decide) (fun hb148 => absurd (by decide) hb148) (fun hb148 => ?_)
              refine ht_iconst (v := 0) (D 82 rfl) (by decide) ?_
              refine ht_iret (D 83 rfl) rfl rfl ?_
              exact Or.inl ⟨_, hfa, rfl, hdf⟩
            · skip
              obtain ⟨v, hv, hvx⟩ := dg_le hH.tk hk2 (hi := 99) (by decide) hlq
              have hL := hL.trans (nNum_y hH.tk hk2 hlq)
              rw [hvx] at hL hdx
              obtain ⟨V, U, ice, b, e, k, c, rfl, hH, hnu, h16, h44⟩ := hdx
              have h44 := h44.trans (up2_s _ _ _ _)
              refine ht_if_ne (tgt := 153) (D 81 rfl) (by decide) (fun hb148 => ?_) (fun hb148 => absurd hb148 (by decide))
              refine ht_aload_n (D 84 rfl) rfl rfl ?_
              refine gf_X10_44 rfl (D 85 rfl) hM.k0 hM.q12 ?_
              refine ht_iload_n (D 86 rfl) rfl rfl ?_
              refine ht_aload_n (D 87 rfl) rfl rfl ?_
              refine gm_X10_267 hM rfl (D 88 rfl) ?_
              rw [h44]
              refine hm_ist (o := 12) (n := 10 + tdC s 1) (by decide) (D 89 rfl) hM.k12 hM.n12 (by first | rfl | exact nI_add _ _ | assumption) (by omega) (by decide) ?_
              have hH := hH.wR (o := 12) (i := tdC s 1) rfl (by decide) hc8 (nI v)
              refine ht_aload_n (D 90 rfl) rfl rfl ?_
              refine gf_X10_16 rfl (D 91 rfl) hM.k0 hM.q3 ?_
              refine ht_iconst (v := 1) (D 92 rfl) (by decide) ?_
              refine ht_dup2 (D 93 rfl) rfl rfl ?_
              refine hm_ild (o := 3) (n := 1) (by decide) (D 94 rfl) hM.k3 hM.n3 (by first | rfl | exact nI_add _ _ | assumption) (by omega) (by decide) ?_
              rw [show up2 V 12 (10 + tdC s 1) (nI v) 3 1 = nI (tdC s 1) from hH.2.1.1.2.1]
              refine ht_iconst (v := 1) (D 95 rfl) (by decide) ?_
              refine ht_iadd (D 96 rfl) ?_
              rw [show nI (tdC s 1) + 1 = nI (tdC s 1 + 1) from nI_i1 _]
              refine hm_ist (o := 3) (n := 1) (by decide) (D 97 rfl) hM.k3 hM.n3 (by first | rfl | exact nI_add _ _ | assumption) (by omega) (by decide) ?_
              have hH := hH.wC (i := 1) (by decide) (fun q => absurd q (by decide)) (fun q => absurd q (by decide))
              refine ht_aload_n (D 98 rfl) rfl rfl ?_
              refine kVX10_ends (As := []) cl_X10_280 (D 99 rfl) (sr_ends hM hH) hM.k0 rfl (Nat.le_of_ble_eq_true rfl) rfl (Nat.le_of_ble_eq_true rfl) (by omega) ?_
              rintro _ _ (⟨hns, rfl, hdf⟩ | ⟨hys, rfl, hde⟩)
              · skip
                have hfa := hL.trans (nEnd_n hH.tk hns)
                refine ht_iret (D 100 rfl) rfl rfl ?_
                exact Or.inl ⟨_, hfa, rfl, hdf⟩
              · skip
                have hL := hL.trans (nEnd_y hH.tk hys)
                refine ht_iret (D 100 rfl) rfl rfl ?_
                exact Or.inr ⟨_, _, hL, rfl, hde⟩
  · skip
    have hc8 : ¬ tdC s 1 < 10 := by
      have h9 : tdC s 1 = 10 := (nI_eq (a := tdC s 1) (b := 10) (by omega) (by omega)).mp hb18
      omega
    have hfa : lnDoor T n s b e (nEnd T n) = _ := ifc_n hc8
    refine ht_aload_n (D 13 rfl) rfl rfl ?_
    refine ht_iconst (v := 5) (D 14 rfl) (by decide) ?_
    refine kVX10_fails (As := [_]) cl_X10_213 (D 15 rfl) (sr_fails hM hH 5) hM.k0 rfl (Nat.le_of_ble_eq_true rfl) rfl (Nat.le_of_ble_eq_true rfl) (by omega) ?_
    rintro _ σ9 ⟨rfl, hdf⟩
    refine ht_iret (D 16 rfl) rfl rfl ?_
    exact Or.inl ⟨_, hfa, rfl, hdf⟩
set_option maxRecDepth 100000 in
theorem sr_man (hM : MS σ m) (hH : DS T n V0 U0 s ice p b e k c V U) (hV : TV T n s) : Sp G mX10_readsMan 3 [.ref m] (sv σ m V U) (QM σ m T n V0 U0 (lnMan T n s b e (nEnd T n))) := by
  have D := dat dl_X10_readsMan
  show HT G mX10_readsMan 0 [some (.ref m), none] [] (sv σ m V U) 3 _
  have hv0 := hV.1
  refine ht_bipush (v := 6) (D 0 rfl) (by decide) ?_
  refine ht_aload_n (D 1 rfl) rfl rfl ?_
  refine gf_X10_19 rfl (D 2 rfl) hM.k0 hM.q4 ?_
  refine ht_iconst (v := 1) (D 3 rfl) (by decide) ?_
  refine hm_ild (o := 4) (n := 1) (by decide) (D 4 rfl) hM.k4 hM.n4 (by first | rfl | exact nI_add _ _ | assumption) (by omega) (by decide) ?_
  rw [hH.2.1.1.2.2.1]
  refine ht_iadd (D 5 rfl) ?_
  rw [show (6 : Int32) + nI (tdC s 2) = nI (6 + tdC s 2) from nI_add 6 _]
  refine ht_istore_n (D 6 rfl) rfl (by decide) rfl ?_
  refine ht_aload_n (D 7 rfl) rfl rfl ?_
  refine gf_X10_19 rfl (D 8 rfl) hM.k0 hM.q4 ?_
  refine ht_iconst (v := 1) (D 9 rfl) (by decide) ?_
  refine hm_ild (o := 4) (n := 1) (by decide) (D 10 rfl) hM.k4 hM.n4 (by first | rfl | exact nI_add _ _ | assumption) (by omega) (by decide) ?_
  rw [hH.2.1.1.2.2.1]
  refine ht_bipush (v := 6) (D 11 rfl) (by decide) ?_
  refine ht_icmp_ne (tgt := 27) (D 12 rfl) (by decide) (fun hb18 => ?_) (fun hb18 => ?_)
  · skip
    have hc8 : tdC s 2 < 6 := by
      have h9 : ¬ tdC s 2 = 6 := fun q => hb18 (by rw [q]; rfl)
      omega
    have hL : lnMan T n s b e (nEnd T n) = _ := ifc_y hc8
    refine ht_aload_n (D 17 rfl) rfl rfl ?_
    refine kVX10_nextToken (As := []) cl_X10_220 (D 18 rfl) (sr_next hM hH) hM.k0 rfl (Nat.le_of_ble_eq_true rfl) rfl (Nat.le_of_ble_eq_true rfl) (by omega) ?_
    rintro _ _ ⟨rfl, hdx⟩
    obtain ⟨V, U, ice, b, e, k, c, rfl, hH, hnu, h16, h44⟩ := hdx
    refine ht_aload_n (D 19 rfl) rfl rfl ?_
    refine kVX10_isNew (As := []) cl_X10_283 (D 20 rfl) (sr_new hM hH hv0.1 hv0.2.2.1) hM.k0 rfl (Nat.le_of_ble_eq_true rfl) rfl (Nat.le_of_ble_eq_true rfl) (by omega) ?_
    rintro _ _ (⟨hnm, rfl, hdf⟩ | ⟨hnm, hnw, rfl, hdf⟩ | ⟨hnm, hnw, rfl, rfl⟩)
    · skip
      have hfa := hL.trans (nNew_1 hH.tk hnm)
      refine ht_if_ne (tgt := 40) (D 21 rfl) (by decide) (fun hb35 => absurd (by decide) hb35) (fun hb35 => ?_)
      refine ht_iconst (v := 0) (D 22 rfl) (by decide) ?_
      refine ht_iret (D 23 rfl) rfl rfl ?_
      exact Or.inl ⟨_, hfa, rfl, hdf⟩
    · skip
      have hfa := hL.trans (nNew_3 hH.tk hnm hnw)
      refine ht_if_ne (tgt := 40) (D 21 rfl) (by decide) (fun hb35 => absurd (by decide) hb35) (fun hb35 => ?_)
      refine ht_iconst (v := 0) (D 22 rfl) (by decide) ?_
      refine ht_iret (D 23 rfl) rfl rfl ?_
      exact Or.inl ⟨_, hfa, rfl, hdf⟩
    · skip
      have hL := hL.trans (nNew_y hH.tk hnm hnw)
      have hwq := hH.wq hnm.1
      refine ht_if_ne (tgt := 40) (D 21 rfl) (by decide) (fun hb35 => ?_) (fun hb35 => absurd hb35 (by decide))
      refine ht_aload_n (D 24 rfl) rfl rfl ?_
      refine gf_X10_32 rfl (D 25 rfl) hM.k0 hM.q8 ?_
      refine ht_aload_n (D 26 rfl) rfl rfl ?_
      refine gf_X10_19 rfl (D 27 rfl) hM.k0 hM.q4 ?_
      refine ht_iconst (v := 1) (D 28 rfl) (by decide) ?_
      refine hm_ild (o := 4) (n := 1) (by decide) (D 29 rfl) hM.k4 hM.n4 (by first | rfl | exact nI_add _ _ | assumption) (by omega) (by decide) ?_
      rw [hH.2.1.1.2.2.1]
      refine ht_aload_n (D 30 rfl) rfl rfl ?_
      refine gm_X10_153 hM rfl (D 31 rfl) ?_
      refine hm_lst (o := 8) (n := tdC s 2) (by decide) (D 32 rfl) hM.k8 hM.n8 (by first | rfl | exact nI_add _ _ | assumption) (by omega) (by decide) ?_
      have hU : up2 U 8 (tdC s 2) (U 0 7) 8 (tdC s 2) = U 0 7 := up2_s _ _ _ _
      have hH := hH.wN1 (U 0 7) (pkD T b (e - b))
      refine ht_aload_n (D 33 rfl) rfl rfl ?_
      refine kVX10_nextToken (As := []) cl_X10_220 (D 34 rfl) (sr_next hM hH) hM.k0 rfl (Nat.le_of_ble_eq_true rfl) rfl (Nat.le_of_ble_eq_true rfl) (by omega) ?_
      rintro _ _ ⟨rfl, hdx⟩
      obtain ⟨V, U, ice, b, e, k, c, rfl, hH, hnu, h16, h44⟩ := hdx
      have hU := (hnu 8 (tdC s 2) (by omega)).trans hU
      refine ht_aload_n (D 35 rfl) rfl rfl ?_
      refine ht_ldc2 kl_X10_250 (D 36 rfl) ?_
      refine kVX10_needsWord (As := [_]) cl_X10_286 (D 37 rfl) (sr_word hM hH 10) hM.k0 rfl (Nat.le_of_ble_eq_true rfl) rfl (Nat.le_of_ble_eq_true rfl) (by omega) ?_
      rintro _ _ (⟨hno, rfl, hdf⟩ | ⟨hye, rfl, hdx⟩)
      · skip
        have hfa := hL.trans (nWord_n hH.tk hno)
        refine ht_if_eq (tgt := 76) (D 38 rfl) (by decide) (fun hb66 => ?_) (fun hb66 => absurd (by decide) hb66)
        refine ht_iconst (v := 0) (D 42 rfl) (by decide) ?_
        refine ht_iret (D 43 rfl) rfl rfl ?_
        exact Or.inl ⟨_, hfa, rfl, hdf⟩
      · skip
        have hL := hL.trans (nWord_y hH.tk hye)
        obtain ⟨V, U, ice, b, e, k, c, rfl, hH, hnu, h16, h44⟩ := hdx
        have hU := (hnu 8 (tdC s 2) (by omega)).trans hU
        refine ht_if_eq (tgt := 76) (D 38 rfl) (by decide) (fun hb66 => absurd hb66 (by decide)) (fun hb66 => ?_)
        refine ht_aload_n (D 39 rfl) rfl rfl ?_
        refine kVX10_needsCell (As := []) cl_X10_289 (D 40 rfl) (sr_cell hM hH hv0.1) hM.k0 rfl (Nat.le_of_ble_eq_true rfl) rfl (Nat.le_of_ble_eq_true rfl) (by omega) ?_
        rintro _ _ (⟨hnm, rfl, hdf⟩ | ⟨hnm, hno, rfl, hdf⟩ | ⟨hnm, j, hj, rfl, hdx⟩)
        · skip
          have hfa := hL.trans (nCell_1 hH.tk hnm)
          refine ht_if_ne (tgt := 78) (D 41 rfl) (by decide) (fun hb73 => absurd (by decide) hb73) (fun hb73 => ?_)
          refine ht_iconst (v := 0) (D 42 rfl) (by decide) ?_
          refine ht_iret (D 43 rfl) rfl rfl ?_
          exact Or.inl ⟨_, hfa, rfl, hdf⟩
        · skip
          have hfa := hL.trans (nCell_2 hH.tk hnm hno)
          refine ht_if_ne (tgt := 78) (D 41 rfl) (by decide) (fun hb73 => absurd (by decide) hb73) (fun hb73 => ?_)
          refine ht_iconst (v := 0) (D 42 rfl) (by decide) ?_
          refine ht_iret (D 43 rfl) rfl rfl ?_
          exact Or.inl ⟨_, hfa, rfl, hdf⟩
        · skip
          have hL := hL.trans (nCell_y hH.tk hnm hj)
          obtain ⟨V, U, ice, b, e, k, c, rfl, hH, hnu, h16, h44⟩ := hdx
          have hU := (hnu 8 (tdC s 2) (by omega)).trans hU
          have h44 := h44.trans (up2_s _ _ _ _)
          refine ht_if_ne (tgt := 78) (D 41 rfl) (by decide) (fun hb73 => ?_) (fun hb73 => absurd hb73 (by decide))
          refine ht_aload_n (D 44 rfl) rfl rfl ?_
          refine gf_X10_47 rfl (D 45 rfl) hM.k0 hM.q13 ?_
          refine ht_iload_n (D 46 rfl) rfl rfl ?_
          refine ht_aload_n (D 47 rfl) rfl rfl ?_
          refine gm_X10_267 hM rfl (D 48 rfl) ?_
          rw [h44]
          refine hm_ist (o := 13) (n := 6 + tdC s 2) (by decide) (D 49 rfl) hM.k13 hM.n13 (by first | rfl | exact nI_add _ _ | assumption) (by omega) (by decide) ?_
          have hH := hH.wR (o := 13) (i := tdC s 2) rfl (by decide) hc8 (nI j)
          refine ht_aload_n (D 50 rfl) rfl rfl ?_
          refine ht_ldc2 kl_X10_185 (D 51 rfl) ?_
          refine kVX10_needsWord (As := [_]) cl_X10_286 (D 52 rfl) (sr_word hM hH 11) hM.k0 rfl (Nat.le_of_ble_eq_true rfl) rfl (Nat.le_of_ble_eq_true rfl) (by omega) ?_
          rintro _ _ (⟨hno, rfl, hdf⟩ | ⟨hye, rfl, hdx⟩)
          · skip
            have hfa := hL.trans (nWord_n hH.tk hno)
            refine ht_if_eq (tgt := 108) (D 53 rfl) (by decide) (fun hb95 => ?_) (fun hb95 => absurd (by decide) hb95)
            refine ht_iconst (v := 0) (D 59 rfl) (by decide) ?_
            refine ht_iret (D 60 rfl) rfl rfl ?_
            exact Or.inl ⟨_, hfa, rfl, hdf⟩
          · skip
            have hL := hL.trans (nWord_y hH.tk hye)
            obtain ⟨V, U, ice, b, e, k, c, rfl, hH, hnu, h16, h44⟩ := hdx
            have hU := (hnu 8 (tdC s 2) (by omega)).trans hU
            refine ht_if_eq (tgt := 108) (D 53 rfl) (by decide) (fun hb95 => absurd hb95 (by decide)) (fun hb95 => ?_)
            refine ht_aload_n (D 54 rfl) rfl rfl ?_
            refine ht_iconst (v := 0) (D 55 rfl) (by decide) ?_
            refine ht_bipush (v := 9) (D 56 rfl) (by decide) ?_
            refine kVX10_needsNumber (As := [_, _]) cl_X10_276 (D 57 rfl) (sr_num hM hH 9) hM.k0 rfl (Nat.le_of_ble_eq_true rfl) rfl (Nat.le_of_ble_eq_true rfl) (by omega) ?_
            rintro _ _ (⟨hk2, rfl, hdf⟩ | ⟨hk2, hgt, rfl, hdf⟩ | ⟨hk2, hlq, rfl, hdx⟩)
            · skip
              have hfa := hL.trans (nNum_1 hH.tk hk2)
              refine ht_if_ne (tgt := 110) (D 58 rfl) (by decide) (fun hb105 => absurd (by decide) hb105) (fun hb105 => ?_)
              refine ht_iconst (v := 0) (D 59 rfl) (by decide) ?_
              refine ht_iret (D 60 rfl) rfl rfl ?_
              exact Or.inl ⟨_, hfa, rfl, hdf⟩
            · skip
              have hfa := hL.trans (nNum_4 hH.tk hk2 hgt)
              refine ht_if_ne (tgt := 110) (D 58 rfl) (by decide) (fun hb105 => absurd (by decide) hb105) (fun hb105 => ?_)
              refine ht_iconst (v := 0) (D 59 rfl) (by decide) ?_
              refine ht_iret (D 60 rfl) rfl rfl ?_
              exact Or.inl ⟨_, hfa, rfl, hdf⟩
            · skip
              obtain ⟨v, hv, hvx⟩ := dg_le hH.tk hk2 (hi := 9) (by decide) hlq
              have hL := hL.trans (nNum_y hH.tk hk2 hlq)
              rw [hvx] at hL hdx
              obtain ⟨V, U, ice, b, e, k, c, rfl, hH, hnu, h16, h44⟩ := hdx
              have hU := (hnu 8 (tdC s 2) (by omega)).trans hU
              have h44 := h44.trans (up2_s _ _ _ _)
              refine ht_if_ne (tgt := 110) (D 58 rfl) (by decide) (fun hb105 => ?_) (fun hb105 => absurd hb105 (by decide))
              refine ht_aload_n (D 61 rfl) rfl rfl ?_
              refine gf_X10_50 rfl (D 62 rfl) hM.k0 hM.q14 ?_
              refine ht_iload_n (D 63 rfl) rfl rfl ?_
              refine ht_aload_n (D 64 rfl) rfl rfl ?_
              refine gm_X10_267 hM rfl (D 65 rfl) ?_
              rw [h44]
              refine hm_ist (o := 14) (n := 6 + tdC s 2) (by decide) (D 66 rfl) hM.k14 hM.n14 (by first | rfl | exact nI_add _ _ | assumption) (by omega) (by decide) ?_
              have hH := hH.wR (o := 14) (i := tdC s 2) rfl (by decide) hc8 (nI v)
              refine ht_aload_n (D 67 rfl) rfl rfl ?_
              refine ht_ldc2 kl_X10_252 (D 68 rfl) ?_
              refine kVX10_needsWord (As := [_]) cl_X10_286 (D 69 rfl) (sr_word hM hH 12) hM.k0 rfl (Nat.le_of_ble_eq_true rfl) rfl (Nat.le_of_ble_eq_true rfl) (by omega) ?_
              rintro _ _ (⟨hno, rfl, hdf⟩ | ⟨hye, rfl, hdx⟩)
              · skip
                have hfa := hL.trans (nWord_n hH.tk hno)
                refine ht_if_eq (tgt := 140) (D 70 rfl) (by decide) (fun hb127 => ?_) (fun hb127 => absurd (by decide) hb127)
                refine ht_iconst (v := 0) (D 76 rfl) (by decide) ?_
                refine ht_iret (D 77 rfl) rfl rfl ?_
                exact Or.inl ⟨_, hfa, rfl, hdf⟩
              · skip
                have hL := hL.trans (nWord_y hH.tk hye)
                obtain ⟨V, U, ice, b, e, k, c, rfl, hH, hnu, h16, h44⟩ := hdx
                have hU := (hnu 8 (tdC s 2) (by omega)).trans hU
                refine ht_if_eq (tgt := 140) (D 70 rfl) (by decide) (fun hb127 => absurd hb127 (by decide)) (fun hb127 => ?_)
                refine ht_aload_n (D 71 rfl) rfl rfl ?_
                refine ht_iconst (v := 0) (D 72 rfl) (by decide) ?_
                refine ht_bipush (v := 99) (D 73 rfl) (by decide) ?_
                refine kVX10_needsNumber (As := [_, _]) cl_X10_276 (D 74 rfl) (sr_num hM hH 99) hM.k0 rfl (Nat.le_of_ble_eq_true rfl) rfl (Nat.le_of_ble_eq_true rfl) (by omega) ?_
                rintro _ _ (⟨hk2, rfl, hdf⟩ | ⟨hk2, hgt, rfl, hdf⟩ | ⟨hk2, hlq, rfl, hdx⟩)
                · skip
                  have hfa := hL.trans (nNum_1 hH.tk hk2)
                  refine ht_if_ne (tgt := 142) (D 75 rfl) (by decide) (fun hb137 => absurd (by decide) hb137) (fun hb137 => ?_)
                  refine ht_iconst (v := 0) (D 76 rfl) (by decide) ?_
                  refine ht_iret (D 77 rfl) rfl rfl ?_
                  exact Or.inl ⟨_, hfa, rfl, hdf⟩
                · skip
                  have hfa := hL.trans (nNum_4 hH.tk hk2 hgt)
                  refine ht_if_ne (tgt := 142) (D 75 rfl) (by decide) (fun hb137 => absurd (by decide) hb137) (fun hb137 => ?_)
                  refine ht_iconst (v := 0) (D 76 rfl) (by decide) ?_
                  refine ht_iret (D 77 rfl) rfl rfl ?_
                  exact Or.inl ⟨_, hfa, rfl, hdf⟩
                · skip
                  obtain ⟨u, hu, hux⟩ := dg_le hH.tk hk2 (hi := 99) (by decide) hlq
                  have hL := hL.trans (nNum_y hH.tk hk2 hlq)
                  rw [hux] at hL hdx
                  obtain ⟨V, U, ice, b, e, k, c, rfl, hH, hnu, h16, h44⟩ := hdx
                  have hU := (hnu 8 (tdC s 2) (by omega)).trans hU
                  have h44 := h44.trans (up2_s _ _ _ _)
                  refine ht_if_ne (tgt := 142) (D 75 rfl) (by decide) (fun hb137 => ?_) (fun hb137 => absurd hb137 (by decide))
                  refine ht_aload_n (D 78 rfl) rfl rfl ?_
                  refine gf_X10_53 rfl (D 79 rfl) hM.k0 hM.q15 ?_
                  refine ht_iload_n (D 80 rfl) rfl rfl ?_
                  refine ht_aload_n (D 81 rfl) rfl rfl ?_
                  refine gm_X10_267 hM rfl (D 82 rfl) ?_
                  rw [h44]
                  refine hm_ist (o := 15) (n := 6 + tdC s 2) (by decide) (D 83 rfl) hM.k15 hM.n15 (by first | rfl | exact nI_add _ _ | assumption) (by omega) (by decide) ?_
                  have hH := hH.wR (o := 15) (i := tdC s 2) rfl (by decide) hc8 (nI u)
                  refine ht_aload_n (D 84 rfl) rfl rfl ?_
                  refine gf_X10_19 rfl (D 85 rfl) hM.k0 hM.q4 ?_
                  refine ht_iconst (v := 1) (D 86 rfl) (by decide) ?_
                  refine ht_dup2 (D 87 rfl) rfl rfl ?_
                  refine hm_ild (o := 4) (n := 1) (by decide) (D 88 rfl) hM.k4 hM.n4 (by first | rfl | exact nI_add _ _ | assumption) (by omega) (by decide) ?_
                  rw [show up2 V 15 (6 + tdC s 2) (nI u) 4 1 = nI (tdC s 2) from hH.2.1.1.2.2.1]
                  refine ht_iconst (v := 1) (D 89 rfl) (by decide) ?_
                  refine ht_iadd (D 90 rfl) ?_
                  rw [show nI (tdC s 2) + 1 = nI (tdC s 2 + 1) from nI_i1 _]
                  refine hm_ist (o := 4) (n := 1) (by decide) (D 91 rfl) hM.k4 hM.n4 (by first | rfl | exact nI_add _ _ | assumption) (by omega) (by decide) ?_
                  have hH := hH.wC (i := 2) (by decide) (fun q => absurd q (by decide)) (fun _ => by
                    show Wq (U 8 (tdC s 2)) (up2 (tdN s) 1 (tdC s 2) _ 1 (tdC s 2))
                    rw [up2_s, hU]; exact hwq)
                  refine ht_aload_n (D 92 rfl) rfl rfl ?_
                  refine kVX10_ends (As := []) cl_X10_280 (D 93 rfl) (sr_ends hM hH) hM.k0 rfl (Nat.le_of_ble_eq_true rfl) rfl (Nat.le_of_ble_eq_true rfl) (by omega) ?_
                  rintro _ _ (⟨hns, rfl, hdf⟩ | ⟨hys, rfl, hde⟩)
                  · skip
                    have hfa := hL.trans (nEnd_n hH.tk hns)
                    refine ht_iret (D 94 rfl) rfl rfl ?_
                    exact Or.inl ⟨_, hfa, rfl, hdf⟩
                  · skip
                    have hL := hL.trans (nEnd_y hH.tk hys)
                    refine ht_iret (D 94 rfl) rfl rfl ?_
                    exact Or.inr ⟨_, _, hL, rfl, hde⟩
  · skip
    have hc8 : ¬ tdC s 2 < 6 := by
      have h9 : tdC s 2 = 6 := (nI_eq (a := tdC s 2) (b := 6) (by omega) (by omega)).mp hb18
      omega
    have hfa : lnMan T n s b e (nEnd T n) = _ := ifc_n hc8
    refine ht_aload_n (D 13 rfl) rfl rfl ?_
    refine ht_iconst (v := 5) (D 14 rfl) (by decide) ?_
    refine kVX10_fails (As := [_]) cl_X10_213 (D 15 rfl) (sr_fails hM hH 5) hM.k0 rfl (Nat.le_of_ble_eq_true rfl) rfl (Nat.le_of_ble_eq_true rfl) (by omega) ?_
    rintro _ σ9 ⟨rfl, hdf⟩
    refine ht_iret (D 16 rfl) rfl rfl ?_
    exact Or.inl ⟨_, hfa, rfl, hdf⟩
end S3
