/-! ===== the reference: all lines ===== -/
section S6
variable {G : GG} {σ : Hp} {m : Nat} {V V2 V0 : VT} {U U2 U0 : UT} {T : ST} {n p b e k c : Nat} {ice : Bool} {s : TD}
set_option maxRecDepth 100000 in
theorem sr_line (hM : MS σ m) (hH : DS T n V0 U0 s ice p b e k c V U) (hV : TV T n s) {res : Rl} (hln : Ln T n s b e k res) (x : Int32) {Q : Option Value → Hp → Prop} (hbad : ∀ f σ', res = .inr f → DF σ m V0 U0 f σ' → HT G mX10_readsAll 233 [some (.ref m), some (.int x)] [.int 0] σ' 4 Q) (hgood : ∀ s2 q σ', res = .inl (s2, q) → DE σ m T n V0 U0 s2 q σ' → HT G mX10_readsAll 233 [some (.ref m), some (.int x)] [.int 1] σ' 4 Q) : HT G mX10_readsAll 107 [some (.ref m), some (.int x)] [] (sv σ m V U) 4 Q := by
  have D := dat dl_X10_readsAll
  rcases hln with ⟨hw, hx⟩ | ⟨hw, hx⟩ | ⟨hw, hx⟩ | ⟨hw, hx⟩ | ⟨hw, hx⟩ | ⟨hw, hx⟩ | ⟨hw, hx⟩ | ⟨hw, hx⟩
  · skip
    refine ht_aload_n (D 63 rfl) rfl rfl ?_
    refine ht_ldc2 kl_X10_236 (D 64 rfl) ?_
    refine kVX10_isWord (As := [_]) cl_X10_205 (D 65 rfl) (sm_isWd hM hH.1 0) hM.k0 rfl (Nat.le_of_ble_eq_true rfl) rfl (Nat.le_of_ble_eq_true rfl) (by omega) ?_
    rintro _ _ ⟨rfl, rfl⟩
    refine ht_if_eq (tgt := 125) (D 66 rfl) (by decide) (fun hb114 => ?_) (fun hb114 => ?_)
    · skip
      exact absurd hw (b01_eq hb114)
    · skip
      refine ht_aload_n (D 67 rfl) rfl rfl ?_
      refine ht_iconst (v := 0) (D 68 rfl) (by decide) ?_
      refine kVX10_readsLaw (As := [_]) cl_X10_292 (D 69 rfl) (sr_lawW hM hH hV hx) hM.k0 rfl (Nat.le_of_ble_eq_true rfl) rfl (Nat.le_of_ble_eq_true rfl) (by omega) ?_
      rintro _ _ (⟨f, hrf, rfl, hdf⟩ | ⟨s2, q, hrg, rfl, hde⟩)
      · skip
        refine ht_goto (tgt := 233) (D 70 rfl) (by decide) ?_
        exact hbad f _ (hrf) hdf
      · skip
        refine ht_goto (tgt := 233) (D 70 rfl) (by decide) ?_
        exact hgood s2 q _ (hrg) hde
  · skip
    refine ht_aload_n (D 63 rfl) rfl rfl ?_
    refine ht_ldc2 kl_X10_236 (D 64 rfl) ?_
    refine kVX10_isWord (As := [_]) cl_X10_205 (D 65 rfl) (sm_isWd hM hH.1 0) hM.k0 rfl (Nat.le_of_ble_eq_true rfl) rfl (Nat.le_of_ble_eq_true rfl) (by omega) ?_
    rintro _ _ ⟨rfl, rfl⟩
    refine ht_if_eq (tgt := 125) (D 66 rfl) (by decide) (fun hb114 => ?_) (fun hb114 => ?_)
    · skip
      refine ht_aload_n (D 71 rfl) rfl rfl ?_
      refine ht_ldc2 kl_X10_189 (D 72 rfl) ?_
      refine kVX10_isWord (As := [_]) cl_X10_205 (D 73 rfl) (sm_isWd hM hH.1 1) hM.k0 rfl (Nat.le_of_ble_eq_true rfl) rfl (Nat.le_of_ble_eq_true rfl) (by omega) ?_
      rintro _ _ ⟨rfl, rfl⟩
      refine ht_if_eq (tgt := 143) (D 74 rfl) (by decide) (fun hb132 => ?_) (fun hb132 => ?_)
      · skip
        exact absurd hw (b01_eq hb132)
      · skip
        refine ht_aload_n (D 75 rfl) rfl rfl ?_
        refine ht_iconst (v := 1) (D 76 rfl) (by decide) ?_
        refine kVX10_readsLaw (As := [_]) cl_X10_292 (D 77 rfl) (sr_lawI hM hH hV hx) hM.k0 rfl (Nat.le_of_ble_eq_true rfl) rfl (Nat.le_of_ble_eq_true rfl) (by omega) ?_
        rintro _ _ (⟨f, hrf, rfl, hdf⟩ | ⟨s2, q, hrg, rfl, hde⟩)
        · skip
          refine ht_goto (tgt := 233) (D 78 rfl) (by decide) ?_
          exact hbad f _ (hrf) hdf
        · skip
          refine ht_goto (tgt := 233) (D 78 rfl) (by decide) ?_
          exact hgood s2 q _ (hrg) hde
    · skip
      exact absurd (wB_inj (by decide) (by decide) ((b01_ne hb114).2.symm.trans hw.2)) (by decide)
  · skip
    refine ht_aload_n (D 63 rfl) rfl rfl ?_
    refine ht_ldc2 kl_X10_236 (D 64 rfl) ?_
    refine kVX10_isWord (As := [_]) cl_X10_205 (D 65 rfl) (sm_isWd hM hH.1 0) hM.k0 rfl (Nat.le_of_ble_eq_true rfl) rfl (Nat.le_of_ble_eq_true rfl) (by omega) ?_
    rintro _ _ ⟨rfl, rfl⟩
    refine ht_if_eq (tgt := 125) (D 66 rfl) (by decide) (fun hb114 => ?_) (fun hb114 => ?_)
    · skip
      refine ht_aload_n (D 71 rfl) rfl rfl ?_
      refine ht_ldc2 kl_X10_189 (D 72 rfl) ?_
      refine kVX10_isWord (As := [_]) cl_X10_205 (D 73 rfl) (sm_isWd hM hH.1 1) hM.k0 rfl (Nat.le_of_ble_eq_true rfl) rfl (Nat.le_of_ble_eq_true rfl) (by omega) ?_
      rintro _ _ ⟨rfl, rfl⟩
      refine ht_if_eq (tgt := 143) (D 74 rfl) (by decide) (fun hb132 => ?_) (fun hb132 => ?_)
      · skip
        refine ht_aload_n (D 79 rfl) rfl rfl ?_
        refine ht_ldc2 kl_X10_197 (D 80 rfl) ?_
        refine kVX10_isWord (As := [_]) cl_X10_205 (D 81 rfl) (sm_isWd hM hH.1 2) hM.k0 rfl (Nat.le_of_ble_eq_true rfl) rfl (Nat.le_of_ble_eq_true rfl) (by omega) ?_
        rintro _ _ ⟨rfl, rfl⟩
        refine ht_if_eq (tgt := 160) (D 82 rfl) (by decide) (fun hb150 => ?_) (fun hb150 => ?_)
        · skip
          exact absurd hw (b01_eq hb150)
        · skip
          refine ht_aload_n (D 83 rfl) rfl rfl ?_
          refine kVX10_readsMild (As := []) cl_X10_295 (D 84 rfl) (sr_mild hM hH hV) hM.k0 rfl (Nat.le_of_ble_eq_true rfl) rfl (Nat.le_of_ble_eq_true rfl) (by omega) ?_
          rintro _ _ (⟨f, hrf, rfl, hdf⟩ | ⟨s2, q, hrg, rfl, hde⟩)
          · skip
            refine ht_goto (tgt := 233) (D 85 rfl) (by decide) ?_
            exact hbad f _ (hx.trans hrf) hdf
          · skip
            refine ht_goto (tgt := 233) (D 85 rfl) (by decide) ?_
            exact hgood s2 q _ (hx.trans hrg) hde
      · skip
        exact absurd (wB_inj (by decide) (by decide) ((b01_ne hb132).2.symm.trans hw.2)) (by decide)
    · skip
      exact absurd (wB_inj (by decide) (by decide) ((b01_ne hb114).2.symm.trans hw.2)) (by decide)
  · skip
    refine ht_aload_n (D 63 rfl) rfl rfl ?_
    refine ht_ldc2 kl_X10_236 (D 64 rfl) ?_
    refine kVX10_isWord (As := [_]) cl_X10_205 (D 65 rfl) (sm_isWd hM hH.1 0) hM.k0 rfl (Nat.le_of_ble_eq_true rfl) rfl (Nat.le_of_ble_eq_true rfl) (by omega) ?_
    rintro _ _ ⟨rfl, rfl⟩
    refine ht_if_eq (tgt := 125) (D 66 rfl) (by decide) (fun hb114 => ?_) (fun hb114 => ?_)
    · skip
      refine ht_aload_n (D 71 rfl) rfl rfl ?_
      refine ht_ldc2 kl_X10_189 (D 72 rfl) ?_
      refine kVX10_isWord (As := [_]) cl_X10_205 (D 73 rfl) (sm_isWd hM hH.1 1) hM.k0 rfl (Nat.le_of_ble_eq_true rfl) rfl (Nat.le_of_ble_eq_true rfl) (by omega) ?_
      rintro _ _ ⟨rfl, rfl⟩
      refine ht_if_eq (tgt := 143) (D 74 rfl) (by decide) (fun hb132 => ?_) (fun hb132 => ?_)
      · skip
        refine ht_aload_n (D 79 rfl) rfl rfl ?_
        refine ht_ldc2 kl_X10_197 (D 80 rfl) ?_
        refine kVX10_isWord (As := [_]) cl_X10_205 (D 81 rfl) (sm_isWd hM hH.1 2) hM.k0 rfl (Nat.le_of_ble_eq_true rfl) rfl (Nat.le_of_ble_eq_true rfl) (by omega) ?_
        rintro _ _ ⟨rfl, rfl⟩
        refine ht_if_eq (tgt := 160) (D 82 rfl) (by decide) (fun hb150 => ?_) (fun hb150 => ?_)
        · skip
          refine ht_aload_n (D 86 rfl) rfl rfl ?_
          refine ht_ldc2 kl_X10_238 (D 87 rfl) ?_
          refine kVX10_isWord (As := [_]) cl_X10_205 (D 88 rfl) (sm_isWd hM hH.1 3) hM.k0 rfl (Nat.le_of_ble_eq_true rfl) rfl (Nat.le_of_ble_eq_true rfl) (by omega) ?_
          rintro _ _ ⟨rfl, rfl⟩
          refine ht_if_eq (tgt := 177) (D 89 rfl) (by decide) (fun hb167 => ?_) (fun hb167 => ?_)
          · skip
            exact absurd hw (b01_eq hb167)
          · skip
            refine ht_aload_n (D 90 rfl) rfl rfl ?_
            refine kVX10_readsCell (As := []) cl_X10_298 (D 91 rfl) (sr_rcell hM hH hV) hM.k0 rfl (Nat.le_of_ble_eq_true rfl) rfl (Nat.le_of_ble_eq_true rfl) (by omega) ?_
            rintro _ _ (⟨f, hrf, rfl, hdf⟩ | ⟨s2, q, hrg, rfl, hde⟩)
            · skip
              refine ht_goto (tgt := 233) (D 92 rfl) (by decide) ?_
              exact hbad f _ (hx.trans hrf) hdf
            · skip
              refine ht_goto (tgt := 233) (D 92 rfl) (by decide) ?_
              exact hgood s2 q _ (hx.trans hrg) hde
        · skip
          exact absurd (wB_inj (by decide) (by decide) ((b01_ne hb150).2.symm.trans hw.2)) (by decide)
      · skip
        exact absurd (wB_inj (by decide) (by decide) ((b01_ne hb132).2.symm.trans hw.2)) (by decide)
    · skip
      exact absurd (wB_inj (by decide) (by decide) ((b01_ne hb114).2.symm.trans hw.2)) (by decide)
  · skip
    refine ht_aload_n (D 63 rfl) rfl rfl ?_
    refine ht_ldc2 kl_X10_236 (D 64 rfl) ?_
    refine kVX10_isWord (As := [_]) cl_X10_205 (D 65 rfl) (sm_isWd hM hH.1 0) hM.k0 rfl (Nat.le_of_ble_eq_true rfl) rfl (Nat.le_of_ble_eq_true rfl) (by omega) ?_
    rintro _ _ ⟨rfl, rfl⟩
    refine ht_if_eq (tgt := 125) (D 66 rfl) (by decide) (fun hb114 => ?_) (fun hb114 => ?_)
    · skip
      refine ht_aload_n (D 71 rfl) rfl rfl ?_
      refine ht_ldc2 kl_X10_189 (D 72 rfl) ?_
      refine kVX10_isWord (As := [_]) cl_X10_205 (D 73 rfl) (sm_isWd hM hH.1 1) hM.k0 rfl (Nat.le_of_ble_eq_true rfl) rfl (Nat.le_of_ble_eq_true rfl) (by omega) ?_
      rintro _ _ ⟨rfl, rfl⟩
      refine ht_if_eq (tgt := 143) (D 74 rfl) (by decide) (fun hb132 => ?_) (fun hb132 => ?_)
      · skip
        refine ht_aload_n (D 79 rfl) rfl rfl ?_
        refine ht_ldc2 kl_X10_197 (D 80 rfl) ?_
        refine kVX10_isWord (As := [_]) cl_X10_205 (D 81 rfl) (sm_isWd hM hH.1 2) hM.k0 rfl (Nat.le_of_ble_eq_true rfl) rfl (Nat.le_of_ble_eq_true rfl) (by omega) ?_
        rintro _ _ ⟨rfl, rfl⟩
        refine ht_if_eq (tgt := 160) (D 82 rfl) (by decide) (fun hb150 => ?_) (fun hb150 => ?_)
        · skip
          refine ht_aload_n (D 86 rfl) rfl rfl ?_
          refine ht_ldc2 kl_X10_238 (D 87 rfl) ?_
          refine kVX10_isWord (As := [_]) cl_X10_205 (D 88 rfl) (sm_isWd hM hH.1 3) hM.k0 rfl (Nat.le_of_ble_eq_true rfl) rfl (Nat.le_of_ble_eq_true rfl) (by omega) ?_
          rintro _ _ ⟨rfl, rfl⟩
          refine ht_if_eq (tgt := 177) (D 89 rfl) (by decide) (fun hb167 => ?_) (fun hb167 => ?_)
          · skip
            refine ht_aload_n (D 93 rfl) rfl rfl ?_
            refine ht_ldc2 kl_X10_240 (D 94 rfl) ?_
            refine kVX10_isWord (As := [_]) cl_X10_205 (D 95 rfl) (sm_isWd hM hH.1 5) hM.k0 rfl (Nat.le_of_ble_eq_true rfl) rfl (Nat.le_of_ble_eq_true rfl) (by omega) ?_
            rintro _ _ ⟨rfl, rfl⟩
            refine ht_if_eq (tgt := 194) (D 96 rfl) (by decide) (fun hb184 => ?_) (fun hb184 => ?_)
            · skip
              exact absurd hw (b01_eq hb184)
            · skip
              refine ht_aload_n (D 97 rfl) rfl rfl ?_
              refine kVX10_readsDoor (As := []) cl_X10_301 (D 98 rfl) (sr_door hM hH hV) hM.k0 rfl (Nat.le_of_ble_eq_true rfl) rfl (Nat.le_of_ble_eq_true rfl) (by omega) ?_
              rintro _ _ (⟨f, hrf, rfl, hdf⟩ | ⟨s2, q, hrg, rfl, hde⟩)
              · skip
                refine ht_goto (tgt := 233) (D 99 rfl) (by decide) ?_
                exact hbad f _ (hx.trans hrf) hdf
              · skip
                refine ht_goto (tgt := 233) (D 99 rfl) (by decide) ?_
                exact hgood s2 q _ (hx.trans hrg) hde
          · skip
            exact absurd (wB_inj (by decide) (by decide) ((b01_ne hb167).2.symm.trans hw.2)) (by decide)
        · skip
          exact absurd (wB_inj (by decide) (by decide) ((b01_ne hb150).2.symm.trans hw.2)) (by decide)
      · skip
        exact absurd (wB_inj (by decide) (by decide) ((b01_ne hb132).2.symm.trans hw.2)) (by decide)
    · skip
      exact absurd (wB_inj (by decide) (by decide) ((b01_ne hb114).2.symm.trans hw.2)) (by decide)
  · skip
    refine ht_aload_n (D 63 rfl) rfl rfl ?_
    refine ht_ldc2 kl_X10_236 (D 64 rfl) ?_
    refine kVX10_isWord (As := [_]) cl_X10_205 (D 65 rfl) (sm_isWd hM hH.1 0) hM.k0 rfl (Nat.le_of_ble_eq_true rfl) rfl (Nat.le_of_ble_eq_true rfl) (by omega) ?_
    rintro _ _ ⟨rfl, rfl⟩
    refine ht_if_eq (tgt := 125) (D 66 rfl) (by decide) (fun hb114 => ?_) (fun hb114 => ?_)
    · skip
      refine ht_aload_n (D 71 rfl) rfl rfl ?_
      refine ht_ldc2 kl_X10_189 (D 72 rfl) ?_
      refine kVX10_isWord (As := [_]) cl_X10_205 (D 73 rfl) (sm_isWd hM hH.1 1) hM.k0 rfl (Nat.le_of_ble_eq_true rfl) rfl (Nat.le_of_ble_eq_true rfl) (by omega) ?_
      rintro _ _ ⟨rfl, rfl⟩
      refine ht_if_eq (tgt := 143) (D 74 rfl) (by decide) (fun hb132 => ?_) (fun hb132 => ?_)
      · skip
        refine ht_aload_n (D 79 rfl) rfl rfl ?_
        refine ht_ldc2 kl_X10_197 (D 80 rfl) ?_
        refine kVX10_isWord (As := [_]) cl_X10_205 (D 81 rfl) (sm_isWd hM hH.1 2) hM.k0 rfl (Nat.le_of_ble_eq_true rfl) rfl (Nat.le_of_ble_eq_true rfl) (by omega) ?_
        rintro _ _ ⟨rfl, rfl⟩
        refine ht_if_eq (tgt := 160) (D 82 rfl) (by decide) (fun hb150 => ?_) (fun hb150 => ?_)
        · skip
          refine ht_aload_n (D 86 rfl) rfl rfl ?_
          refine ht_ldc2 kl_X10_238 (D 87 rfl) ?_
          refine kVX10_isWord (As := [_]) cl_X10_205 (D 88 rfl) (sm_isWd hM hH.1 3) hM.k0 rfl (Nat.le_of_ble_eq_true rfl) rfl (Nat.le_of_ble_eq_true rfl) (by omega) ?_
          rintro _ _ ⟨rfl, rfl⟩
          refine ht_if_eq (tgt := 177) (D 89 rfl) (by decide) (fun hb167 => ?_) (fun hb167 => ?_)
          · skip
            refine ht_aload_n (D 93 rfl) rfl rfl ?_
            refine ht_ldc2 kl_X10_240 (D 94 rfl) ?_
            refine kVX10_isWord (As := [_]) cl_X10_205 (D 95 rfl) (sm_isWd hM hH.1 5) hM.k0 rfl (Nat.le_of_ble_eq_true rfl) rfl (Nat.le_of_ble_eq_true rfl) (by omega) ?_
            rintro _ _ ⟨rfl, rfl⟩
            refine ht_if_eq (tgt := 194) (D 96 rfl) (by decide) (fun hb184 => ?_) (fun hb184 => ?_)
            · skip
              refine ht_aload_n (D 100 rfl) rfl rfl ?_
              refine ht_ldc2 kl_X10_248 (D 101 rfl) ?_
              refine kVX10_isWord (As := [_]) cl_X10_205 (D 102 rfl) (sm_isWd hM hH.1 9) hM.k0 rfl (Nat.le_of_ble_eq_true rfl) rfl (Nat.le_of_ble_eq_true rfl) (by omega) ?_
              rintro _ _ ⟨rfl, rfl⟩
              refine ht_if_eq (tgt := 211) (D 103 rfl) (by decide) (fun hb201 => ?_) (fun hb201 => ?_)
              · skip
                exact absurd hw (b01_eq hb201)
              · skip
                refine ht_aload_n (D 104 rfl) rfl rfl ?_
                refine kVX10_readsMan (As := []) cl_X10_304 (D 105 rfl) (sr_man hM hH hV) hM.k0 rfl (Nat.le_of_ble_eq_true rfl) rfl (Nat.le_of_ble_eq_true rfl) (by omega) ?_
                rintro _ _ (⟨f, hrf, rfl, hdf⟩ | ⟨s2, q, hrg, rfl, hde⟩)
                · skip
                  refine ht_goto (tgt := 233) (D 106 rfl) (by decide) ?_
                  exact hbad f _ (hx.trans hrf) hdf
                · skip
                  refine ht_goto (tgt := 233) (D 106 rfl) (by decide) ?_
                  exact hgood s2 q _ (hx.trans hrg) hde
            · skip
              exact absurd (wB_inj (by decide) (by decide) ((b01_ne hb184).2.symm.trans hw.2)) (by decide)
          · skip
            exact absurd (wB_inj (by decide) (by decide) ((b01_ne hb167).2.symm.trans hw.2)) (by decide)
        · skip
          exact absurd (wB_inj (by decide) (by decide) ((b01_ne hb150).2.symm.trans hw.2)) (by decide)
      · skip
        exact absurd (wB_inj (by decide) (by decide) ((b01_ne hb132).2.symm.trans hw.2)) (by decide)
    · skip
      exact absurd (wB_inj (by decide) (by decide) ((b01_ne hb114).2.symm.trans hw.2)) (by decide)
  · skip
    refine ht_aload_n (D 63 rfl) rfl rfl ?_
    refine ht_ldc2 kl_X10_236 (D 64 rfl) ?_
    refine kVX10_isWord (As := [_]) cl_X10_205 (D 65 rfl) (sm_isWd hM hH.1 0) hM.k0 rfl (Nat.le_of_ble_eq_true rfl) rfl (Nat.le_of_ble_eq_true rfl) (by omega) ?_
    rintro _ _ ⟨rfl, rfl⟩
    refine ht_if_eq (tgt := 125) (D 66 rfl) (by decide) (fun hb114 => ?_) (fun hb114 => ?_)
    · skip
      refine ht_aload_n (D 71 rfl) rfl rfl ?_
      refine ht_ldc2 kl_X10_189 (D 72 rfl) ?_
      refine kVX10_isWord (As := [_]) cl_X10_205 (D 73 rfl) (sm_isWd hM hH.1 1) hM.k0 rfl (Nat.le_of_ble_eq_true rfl) rfl (Nat.le_of_ble_eq_true rfl) (by omega) ?_
      rintro _ _ ⟨rfl, rfl⟩
      refine ht_if_eq (tgt := 143) (D 74 rfl) (by decide) (fun hb132 => ?_) (fun hb132 => ?_)
      · skip
        refine ht_aload_n (D 79 rfl) rfl rfl ?_
        refine ht_ldc2 kl_X10_197 (D 80 rfl) ?_
        refine kVX10_isWord (As := [_]) cl_X10_205 (D 81 rfl) (sm_isWd hM hH.1 2) hM.k0 rfl (Nat.le_of_ble_eq_true rfl) rfl (Nat.le_of_ble_eq_true rfl) (by omega) ?_
        rintro _ _ ⟨rfl, rfl⟩
        refine ht_if_eq (tgt := 160) (D 82 rfl) (by decide) (fun hb150 => ?_) (fun hb150 => ?_)
        · skip
          refine ht_aload_n (D 86 rfl) rfl rfl ?_
          refine ht_ldc2 kl_X10_238 (D 87 rfl) ?_
          refine kVX10_isWord (As := [_]) cl_X10_205 (D 88 rfl) (sm_isWd hM hH.1 3) hM.k0 rfl (Nat.le_of_ble_eq_true rfl) rfl (Nat.le_of_ble_eq_true rfl) (by omega) ?_
          rintro _ _ ⟨rfl, rfl⟩
          refine ht_if_eq (tgt := 177) (D 89 rfl) (by decide) (fun hb167 => ?_) (fun hb167 => ?_)
          · skip
            refine ht_aload_n (D 93 rfl) rfl rfl ?_
            refine ht_ldc2 kl_X10_240 (D 94 rfl) ?_
            refine kVX10_isWord (As := [_]) cl_X10_205 (D 95 rfl) (sm_isWd hM hH.1 5) hM.k0 rfl (Nat.le_of_ble_eq_true rfl) rfl (Nat.le_of_ble_eq_true rfl) (by omega) ?_
            rintro _ _ ⟨rfl, rfl⟩
            refine ht_if_eq (tgt := 194) (D 96 rfl) (by decide) (fun hb184 => ?_) (fun hb184 => ?_)
            · skip
              refine ht_aload_n (D 100 rfl) rfl rfl ?_
              refine ht_ldc2 kl_X10_248 (D 101 rfl) ?_
              refine kVX10_isWord (As := [_]) cl_X10_205 (D 102 rfl) (sm_isWd hM hH.1 9) hM.k0 rfl (Nat.le_of_ble_eq_true rfl) rfl (Nat.le_of_ble_eq_true rfl) (by omega) ?_
              rintro _ _ ⟨rfl, rfl⟩
              refine ht_if_eq (tgt := 211) (D 103 rfl) (by decide) (fun hb201 => ?_) (fun hb201 => ?_)
              · skip
                refine ht_aload_n (D 107 rfl) rfl rfl ?_
                refine ht_ldc2 kl_X10_254 (D 108 rfl) ?_
                refine kVX10_isWord (As := [_]) cl_X10_205 (D 109 rfl) (sm_isWd hM hH.1 13) hM.k0 rfl (Nat.le_of_ble_eq_true rfl) rfl (Nat.le_of_ble_eq_true rfl) (by omega) ?_
                rintro _ _ ⟨rfl, rfl⟩
                refine ht_if_eq (tgt := 228) (D 110 rfl) (by decide) (fun hb218 => ?_) (fun hb218 => ?_)
                · skip
                  exact absurd hw (b01_eq hb218)
                · skip
                  refine ht_aload_n (D 111 rfl) rfl rfl ?_
                  refine kVX10_readsGuard (As := []) cl_X10_307 (D 112 rfl) (sr_guard hM hH hV) hM.k0 rfl (Nat.le_of_ble_eq_true rfl) rfl (Nat.le_of_ble_eq_true rfl) (by omega) ?_
                  rintro _ _ (⟨f, hrf, rfl, hdf⟩ | ⟨s2, q, hrg, rfl, hde⟩)
                  · skip
                    refine ht_goto (tgt := 233) (D 113 rfl) (by decide) ?_
                    exact hbad f _ (hx.trans hrf) hdf
                  · skip
                    refine ht_goto (tgt := 233) (D 113 rfl) (by decide) ?_
                    exact hgood s2 q _ (hx.trans hrg) hde
              · skip
                exact absurd (wB_inj (by decide) (by decide) ((b01_ne hb201).2.symm.trans hw.2)) (by decide)
            · skip
              exact absurd (wB_inj (by decide) (by decide) ((b01_ne hb184).2.symm.trans hw.2)) (by decide)
          · skip
            exact absurd (wB_inj (by decide) (by decide) ((b01_ne hb167).2.symm.trans hw.2)) (by decide)
        · skip
          exact absurd (wB_inj (by decide) (by decide) ((b01_ne hb150).2.symm.trans hw.2)) (by decide)
      · skip
        exact absurd (wB_inj (by decide) (by decide) ((b01_ne hb132).2.symm.trans hw.2)) (by decide)
    · skip
      exact absurd (wB_inj (by decide) (by decide) ((b01_ne hb114).2.symm.trans hw.2)) (by decide)
  · skip
    refine ht_aload_n (D 63 rfl) rfl rfl ?_
    refine ht_ldc2 kl_X10_236 (D 64 rfl) ?_
    refine kVX10_isWord (As := [_]) cl_X10_205 (D 65 rfl) (sm_isWd hM hH.1 0) hM.k0 rfl (Nat.le_of_ble_eq_true rfl) rfl (Nat.le_of_ble_eq_true rfl) (by omega) ?_
    rintro _ _ ⟨rfl, rfl⟩
    refine ht_if_eq (tgt := 125) (D 66 rfl) (by decide) (fun hb114 => ?_) (fun hb114 => ?_)
    · skip
      refine ht_aload_n (D 71 rfl) rfl rfl ?_
      refine ht_ldc2 kl_X10_189 (D 72 rfl) ?_
      refine kVX10_isWord (As := [_]) cl_X10_205 (D 73 rfl) (sm_isWd hM hH.1 1) hM.k0 rfl (Nat.le_of_ble_eq_true rfl) rfl (Nat.le_of_ble_eq_true rfl) (by omega) ?_
      rintro _ _ ⟨rfl, rfl⟩
      refine ht_if_eq (tgt := 143) (D 74 rfl) (by decide) (fun hb132 => ?_) (fun hb132 => ?_)
      · skip
        refine ht_aload_n (D 79 rfl) rfl rfl ?_
        refine ht_ldc2 kl_X10_197 (D 80 rfl) ?_
        refine kVX10_isWord (As := [_]) cl_X10_205 (D 81 rfl) (sm_isWd hM hH.1 2) hM.k0 rfl (Nat.le_of_ble_eq_true rfl) rfl (Nat.le_of_ble_eq_true rfl) (by omega) ?_
        rintro _ _ ⟨rfl, rfl⟩
        refine ht_if_eq (tgt := 160) (D 82 rfl) (by decide) (fun hb150 => ?_) (fun hb150 => ?_)
        · skip
          refine ht_aload_n (D 86 rfl) rfl rfl ?_
          refine ht_ldc2 kl_X10_238 (D 87 rfl) ?_
          refine kVX10_isWord (As := [_]) cl_X10_205 (D 88 rfl) (sm_isWd hM hH.1 3) hM.k0 rfl (Nat.le_of_ble_eq_true rfl) rfl (Nat.le_of_ble_eq_true rfl) (by omega) ?_
          rintro _ _ ⟨rfl, rfl⟩
          refine ht_if_eq (tgt := 177) (D 89 rfl) (by decide) (fun hb167 => ?_) (fun hb167 => ?_)
          · skip
            refine ht_aload_n (D 93 rfl) rfl rfl ?_
            refine ht_ldc2 kl_X10_240 (D 94 rfl) ?_
            refine kVX10_isWord (As := [_]) cl_X10_205 (D 95 rfl) (sm_isWd hM hH.1 5) hM.k0 rfl (Nat.le_of_ble_eq_true rfl) rfl (Nat.le_of_ble_eq_true rfl) (by omega) ?_
            rintro _ _ ⟨rfl, rfl⟩
            refine ht_if_eq (tgt := 194) (D 96 rfl) (by decide) (fun hb184 => ?_) (fun hb184 => ?_)
            · skip
              refine ht_aload_n (D 100 rfl) rfl rfl ?_
              refine ht_ldc2 kl_X10_248 (D 101 rfl) ?_
              refine kVX10_isWord (As := [_]) cl_X10_205 (D 102 rfl) (sm_isWd hM hH.1 9) hM.k0 rfl (Nat.le_of_ble_eq_true rfl) rfl (Nat.le_of_ble_eq_true rfl) (by omega) ?_
              rintro _ _ ⟨rfl, rfl⟩
              refine ht_if_eq (tgt := 211) (D 103 rfl) (by decide) (fun hb201 => ?_) (fun hb201 => ?_)
              · skip
                refine ht_aload_n (D 107 rfl) rfl rfl ?_
                refine ht_ldc2 kl_X10_254 (D 108 rfl) ?_
                refine kVX10_isWord (As := [_]) cl_X10_205 (D 109 rfl) (sm_isWd hM hH.1 13) hM.k0 rfl (Nat.le_of_ble_eq_true rfl) rfl (Nat.le_of_ble_eq_true rfl) (by omega) ?_
                rintro _ _ ⟨rfl, rfl⟩
                refine ht_if_eq (tgt := 228) (D 110 rfl) (by decide) (fun hb218 => ?_) (fun hb218 => ?_)
                · skip
                  refine ht_aload_n (D 114 rfl) rfl rfl ?_
                  refine ht_iconst (v := 1) (D 115 rfl) (by decide) ?_
                  refine kVX10_fails (As := [_]) cl_X10_213 (D 116 rfl) (sr_fails hM hH 1) hM.k0 rfl (Nat.le_of_ble_eq_true rfl) rfl (Nat.le_of_ble_eq_true rfl) (by omega) ?_
                  rintro _ σ9 ⟨rfl, hdf⟩
                  exact hbad _ _ hx hdf
                · skip
                  exact absurd (b01_ne hb218) hw.2.2.2.2.2.2
              · skip
                exact absurd (b01_ne hb201) hw.2.2.2.2.2.1
            · skip
              exact absurd (b01_ne hb184) hw.2.2.2.2.1
          · skip
            exact absurd (b01_ne hb167) hw.2.2.2.1
        · skip
          exact absurd (b01_ne hb150) hw.2.2.1
      · skip
        exact absurd (b01_ne hb132) hw.2.1
    · skip
      exact absurd (b01_ne hb114) hw.1
set_option maxRecDepth 100000 in
theorem sr_chain (hM : MS σ m) {res : Rl} (hCh : Chn T n s p res) : ∀ (V : VT) (U : UT) (ice : Bool) (b e k c : Nat) (x : Int32), DS T n V0 U0 s ice p b e k c V U → HT G mX10_readsAll 100 [some (.ref m), some (.int x)] [] (sv σ m V U) 4 (QM σ m T n V0 U0 res) := by
  have D := dat dl_X10_readsAll
  refine hCh (fun s p res => ∀ (V : VT) (U : UT) (ice : Bool) (b e k c : Nat) (x : Int32), DS T n V0 U0 s ice p b e k c V U → HT G mX10_readsAll 100 [some (.ref m), some (.int x)] [] (sv σ m V U) 4 (QM σ m T n V0 U0 res)) ⟨?_, ?_, ?_⟩
  · intro s p b2 e2 hT2 hV V U ice b e k c x hH
    have hk0 : k = 0 := (TK_u hH.tk hT2).2.2
    refine ht_aload_n (D 60 rfl) rfl rfl ?_
    refine gm_X10_160 hM rfl (D 61 rfl) ?_
    rw [hH.1.1.2.2.2.1]
    refine ht_if_eq (tgt := 243) (D 62 rfl) (by decide) (fun hb104 => ?_) (fun hb104 => ?_)
    · skip
      refine ht_iconst (v := 1) (D 123 rfl) (by decide) ?_
      refine ht_iret (D 124 rfl) rfl rfl ?_
      exact Or.inr ⟨_, _, rfl, rfl, _, _, _, _, _, _, _, rfl, hH⟩
    · skip
      exact absurd (by rw [hk0]; rfl) hb104
  · intro s p b2 e2 k2 f hT2 hk2 hV hln V U ice b e k c x hH
    obtain ⟨h91, h92, h93⟩ := TK_u hH.tk hT2
    subst h91
    subst h92
    subst h93
    have hk4 := (TK_le hT2).2.2.2.2.2
    refine ht_aload_n (D 60 rfl) rfl rfl ?_
    refine gm_X10_160 hM rfl (D 61 rfl) ?_
    rw [hH.1.1.2.2.2.1]
    refine ht_if_eq (tgt := 243) (D 62 rfl) (by decide) (fun hb104 => ?_) (fun hb104 => ?_)
    · skip
      exact absurd ((nI_eq (a := k) (b := 0) (by omega) (by omega)).mp hb104) hk2
    · skip
      refine ht_cast (sr_line hM hH hV hln x (fun f2 σ2 hr hdf => ?_) (fun s2 q2 σ2 hr hde => ?_)) rfl rfl rfl
      · cases hr
        refine ht_istore_n (D 117 rfl) rfl (by decide) rfl ?_
        refine ht_iload_n (D 118 rfl) rfl rfl ?_
        refine ht_if_ne (tgt := 240) (D 119 rfl) (by decide) (fun hb235 => absurd (by decide) hb235) (fun hb235 => ?_)
        refine ht_iconst (v := 0) (D 120 rfl) (by decide) ?_
        refine ht_iret (D 121 rfl) rfl rfl ?_
        exact Or.inl ⟨_, rfl, rfl, hdf⟩
      · cases hr
  · intro s p b2 e2 k2 s2 q res hT2 hk2 hV hln hV2 ih V U ice b e k c x hH
    obtain ⟨h91, h92, h93⟩ := TK_u hH.tk hT2
    subst h91
    subst h92
    subst h93
    have hk4 := (TK_le hT2).2.2.2.2.2
    refine ht_aload_n (D 60 rfl) rfl rfl ?_
    refine gm_X10_160 hM rfl (D 61 rfl) ?_
    rw [hH.1.1.2.2.2.1]
    refine ht_if_eq (tgt := 243) (D 62 rfl) (by decide) (fun hb104 => ?_) (fun hb104 => ?_)
    · skip
      exact absurd ((nI_eq (a := k) (b := 0) (by omega) (by omega)).mp hb104) hk2
    · skip
      refine ht_cast (sr_line hM hH hV hln x (fun f2 σ2 hr hdf => ?_) (fun s3 q2 σ2 hr hde => ?_)) rfl rfl rfl
      · cases hr
      · cases hr
        refine ht_istore_n (D 117 rfl) rfl (by decide) rfl ?_
        refine ht_iload_n (D 118 rfl) rfl rfl ?_
        refine ht_if_ne (tgt := 240) (D 119 rfl) (by decide) (fun hb235 => ?_) (fun hb235 => absurd hb235 (by decide))
        refine ht_goto (tgt := 100) (D 122 rfl) (by decide) ?_
        obtain ⟨V, U, ice, b, e, k, c, rfl, hH⟩ := hde
        exact ht_cast (ih V U ice b e k c _ hH) rfl rfl rfl
/-- nothing told yet -/
def tdZ : TD := (fun _ => 0, fun _ _ => 0, fun _ _ => 0, fun _ => none, fun _ _ => False)
theorem TV_z (T : ST) (n : Nat) : TV T n tdZ := ⟨⟨Nat.zero_le _, Nat.zero_le _, Nat.zero_le _, Nat.zero_le _, Nat.zero_le _⟩, ⟨⟨0, by decide, rfl⟩, fun _ _ => rfl⟩, ⟨fun i hi => absurd hi (Nat.not_lt_zero _), fun _ _ => rfl⟩, fun i hi => absurd hi (Nat.not_lt_zero _), ⟨fun i hi => absurd hi (Nat.not_lt_zero _), fun _ _ => ⟨rfl, rfl⟩⟩, fun i hi => absurd hi (Nat.not_lt_zero _), fun i E q => by cases q⟩
set_option maxRecDepth 100000 in
theorem sr_readsAll (hM : MS σ m) (hT : V 1 = T) (hn : V 0 1 = nI n) (hn0 : n ≤ 1000) (hi : V 0 30 = (if ice then 1 else 0)) {res : Rl} (hCh : Chn T n tdZ 0 res) : Sp G mX10_readsAll 4 [.ref m] (sv σ m V U) (QM σ m T n (up2 V 0 1 0) U res) := by
  have D := dat dl_X10_readsAll
  have hV0 : up2 (up2 (up2 (up2 (up2 (up2 (up2 (up2 (up2 (up2 (up2 (up2 (up2 (up2 V 2 1 0) 3 1 0) 4 1 0) 5 1 0) 6 1 0) 0 31 0) 0 29 1000) 18 2 1000) 19 2 1000) 18 3 1000) 19 3 1000) 0 3 (V 0 1)) 0 1 0) 0 4 0 = up2 (up2 (up2 (up2 (up2 (up2 (up2 (up2 (up2 (up2 (up2 (up2 (up2 (up2 V 2 1 0) 3 1 0) 4 1 0) 5 1 0) 6 1 0) 0 31 0) 0 29 1000) 18 2 1000) 19 2 1000) 18 3 1000) 19 3 1000) 0 3 (V 0 1)) 0 1 0) 0 4 0 := rfl
  have hT6 : (up2 (up2 (up2 (up2 (up2 (up2 (up2 (up2 (up2 (up2 (up2 (up2 (up2 (up2 V 2 1 0) 3 1 0) 4 1 0) 5 1 0) 6 1 0) 0 31 0) 0 29 1000) 18 2 1000) 19 2 1000) 18 3 1000) 19 3 1000) 0 3 (V 0 1)) 0 1 0) 0 4 0) 1 = T := by
    funext j; rw [← hT]; simp [up2]
  have h36 : (up2 (up2 (up2 (up2 (up2 (up2 (up2 (up2 (up2 (up2 (up2 (up2 (up2 (up2 V 2 1 0) 3 1 0) 4 1 0) 5 1 0) 6 1 0) 0 31 0) 0 29 1000) 18 2 1000) 19 2 1000) 18 3 1000) 19 3 1000) 0 3 (V 0 1)) 0 1 0) 0 4 0) 0 3 = nI n := by simp [up2, hn]
  have h46 : (up2 (up2 (up2 (up2 (up2 (up2 (up2 (up2 (up2 (up2 (up2 (up2 (up2 (up2 V 2 1 0) 3 1 0) 4 1 0) 5 1 0) 6 1 0) 0 31 0) 0 29 1000) 18 2 1000) 19 2 1000) 18 3 1000) 19 3 1000) 0 3 (V 0 1)) 0 1 0) 0 4 0) 0 4 = nI 0 := by simp [up2]; rfl
  have h30 : (up2 (up2 (up2 (up2 (up2 (up2 (up2 (up2 (up2 (up2 (up2 (up2 (up2 (up2 V 2 1 0) 3 1 0) 4 1 0) 5 1 0) 6 1 0) 0 31 0) 0 29 1000) 18 2 1000) 19 2 1000) 18 3 1000) 19 3 1000) 0 3 (V 0 1)) 0 1 0) 0 4 0) 0 30 = (if ice then 1 else 0) := by simp only [up2]; simp [hi]
  have h29 : (up2 (up2 (up2 (up2 (up2 (up2 (up2 (up2 (up2 (up2 (up2 (up2 (up2 (up2 V 2 1 0) 3 1 0) 4 1 0) 5 1 0) 6 1 0) 0 31 0) 0 29 1000) 18 2 1000) 19 2 1000) 18 3 1000) 19 3 1000) 0 3 (V 0 1)) 0 1 0) 0 4 0) 0 29 = nI 1000 := by simp [up2]; rfl
  have h31 : (up2 (up2 (up2 (up2 (up2 (up2 (up2 (up2 (up2 (up2 (up2 (up2 (up2 (up2 V 2 1 0) 3 1 0) 4 1 0) 5 1 0) 6 1 0) 0 31 0) 0 29 1000) 18 2 1000) 19 2 1000) 18 3 1000) 19 3 1000) 0 3 (V 0 1)) 0 1 0) 0 4 0) 0 31 = nI 0 := by simp [up2]; rfl
  have hz : ∀ o, 2 ≤ o → o ≤ 6 → (up2 (up2 (up2 (up2 (up2 (up2 (up2 (up2 (up2 (up2 (up2 (up2 (up2 (up2 V 2 1 0) 3 1 0) 4 1 0) 5 1 0) 6 1 0) 0 31 0) 0 29 1000) 18 2 1000) 19 2 1000) 18 3 1000) 19 3 1000) 0 3 (V 0 1)) 0 1 0) 0 4 0) o 1 = nI 0 := by
    intro o h1 h2
    have h3 : o = 2 ∨ o = 3 ∨ o = 4 ∨ o = 5 ∨ o = 6 := by omega
    rcases h3 with rfl | rfl | rfl | rfl | rfl <;> (simp [up2]; rfl)
  have hl : ∀ i2, (up2 (up2 (up2 (up2 (up2 (up2 (up2 (up2 (up2 (up2 (up2 (up2 (up2 (up2 V 2 1 0) 3 1 0) 4 1 0) 5 1 0) 6 1 0) 0 31 0) 0 29 1000) 18 2 1000) 19 2 1000) 18 3 1000) 19 3 1000) 0 3 (V 0 1)) 0 1 0) 0 4 0) 18 (lnX i2) = nI 1000 ∧ (up2 (up2 (up2 (up2 (up2 (up2 (up2 (up2 (up2 (up2 (up2 (up2 (up2 (up2 V 2 1 0) 3 1 0) 4 1 0) 5 1 0) 6 1 0) 0 31 0) 0 29 1000) 18 2 1000) 19 2 1000) 18 3 1000) 19 3 1000) 0 3 (V 0 1)) 0 1 0) 0 4 0) 19 (lnX i2) = nI 1000 := by
    intro i2
    cases i2 <;> (simp [up2, lnX]; rfl)
  have h6a : FR1 V (up2 (up2 (up2 (up2 (up2 (up2 (up2 (up2 (up2 (up2 (up2 (up2 V 2 1 0) 3 1 0) 4 1 0) 5 1 0) 6 1 0) 0 31 0) 0 29 1000) 18 2 1000) 19 2 1000) 18 3 1000) 19 3 1000) 0 3 (V 0 1)) := (FR1_t (FR1_t (FR1_t (FR1_t (FR1_t (FR1_t (FR1_t (FR1_t (FR1_t (FR1_t (FR1_t (FR1_w (Or.inr (Or.inl ⟨by decide, by decide, rfl⟩)) 0) (FR1_w (Or.inr (Or.inl ⟨by decide, by decide, rfl⟩)) 0)) (FR1_w (Or.inr (Or.inl ⟨by decide, by decide, rfl⟩)) 0)) (FR1_w (Or.inr (Or.inl ⟨by decide, by decide, rfl⟩)) 0)) (FR1_w (Or.inr (Or.inl ⟨by decide, by decide, rfl⟩)) 0)) (FR1_w (Or.inl ⟨rfl, by decide⟩) _)) (FR1_w (Or.inl ⟨rfl, by decide⟩) _)) (FR1_w (Or.inr (Or.inr (Or.inr (Or.inl ⟨by decide, by decide, by decide, by decide⟩)))) _)) (FR1_w (Or.inr (Or.inr (Or.inr (Or.inl ⟨by decide, by decide, by decide, by decide⟩)))) _)) (FR1_w (Or.inr (Or.inr (Or.inr (Or.inl ⟨by decide, by decide, by decide, by decide⟩)))) _)) (FR1_w (Or.inr (Or.inr (Or.inr (Or.inl ⟨by decide, by decide, by decide, by decide⟩)))) _)) (FR1_w (Or.inl ⟨rfl, by decide⟩) _))
  have h6 : FR1 (up2 V 0 1 0) (up2 (up2 (up2 (up2 (up2 (up2 (up2 (up2 (up2 (up2 (up2 (up2 (up2 (up2 V 2 1 0) 3 1 0) 4 1 0) 5 1 0) 6 1 0) 0 31 0) 0 29 1000) 18 2 1000) 19 2 1000) 18 3 1000) 19 3 1000) 0 3 (V 0 1)) 0 1 0) 0 4 0) := by
    refine FR1_t (V := up2 (up2 (up2 (up2 (up2 (up2 (up2 (up2 (up2 (up2 (up2 (up2 (up2 V 2 1 0) 3 1 0) 4 1 0) 5 1 0) 6 1 0) 0 31 0) 0 29 1000) 18 2 1000) 19 2 1000) 18 3 1000) 19 3 1000) 0 3 (V 0 1)) 0 1 0) ?_ (FR1_w (Or.inl ⟨rfl, by decide⟩) 0)
    intro o i q
    by_cases h : o = 0 ∧ i = 1
    · rw [h.1, h.2, up2_s, up2_s]
    · have e1 : ∀ W : VT, up2 W 0 1 0 o i = W o i := fun W => if_neg h
      rw [e1, e1]
      exact h6a o i q
  show HT G mX10_readsAll 0 [some (.ref m), none] [] (sv σ m V U) 4 _
  refine ht_aload_n (D 0 rfl) rfl rfl ?_
  refine gf_X10_13 rfl (D 1 rfl) hM.k0 hM.q2 ?_
  refine ht_iconst (v := 1) (D 2 rfl) (by decide) ?_
  refine ht_iconst (v := 0) (D 3 rfl) (by decide) ?_
  refine hm_ist (o := 2) (n := 1) (by decide) (D 4 rfl) hM.k2 hM.n2 (by first | rfl | exact nI_add _ _ | assumption) (by omega) (by decide) ?_
  refine ht_aload_n (D 5 rfl) rfl rfl ?_
  refine gf_X10_16 rfl (D 6 rfl) hM.k0 hM.q3 ?_
  refine ht_iconst (v := 1) (D 7 rfl) (by decide) ?_
  refine ht_iconst (v := 0) (D 8 rfl) (by decide) ?_
  refine hm_ist (o := 3) (n := 1) (by decide) (D 9 rfl) hM.k3 hM.n3 (by first | rfl | exact nI_add _ _ | assumption) (by omega) (by decide) ?_
  refine ht_aload_n (D 10 rfl) rfl rfl ?_
  refine gf_X10_19 rfl (D 11 rfl) hM.k0 hM.q4 ?_
  refine ht_iconst (v := 1) (D 12 rfl) (by decide) ?_
  refine ht_iconst (v := 0) (D 13 rfl) (by decide) ?_
  refine hm_ist (o := 4) (n := 1) (by decide) (D 14 rfl) hM.k4 hM.n4 (by first | rfl | exact nI_add _ _ | assumption) (by omega) (by decide) ?_
  refine ht_aload_n (D 15 rfl) rfl rfl ?_
  refine gf_X10_22 rfl (D 16 rfl) hM.k0 hM.q5 ?_
  refine ht_iconst (v := 1) (D 17 rfl) (by decide) ?_
  refine ht_iconst (v := 0) (D 18 rfl) (by decide) ?_
  refine hm_ist (o := 5) (n := 1) (by decide) (D 19 rfl) hM.k5 hM.n5 (by first | rfl | exact nI_add _ _ | assumption) (by omega) (by decide) ?_
  refine ht_aload_n (D 20 rfl) rfl rfl ?_
  refine gf_X10_25 rfl (D 21 rfl) hM.k0 hM.q6 ?_
  refine ht_iconst (v := 1) (D 22 rfl) (by decide) ?_
  refine ht_iconst (v := 0) (D 23 rfl) (by decide) ?_
  refine hm_ist (o := 6) (n := 1) (by decide) (D 24 rfl) hM.k6 hM.n6 (by first | rfl | exact nI_add _ _ | assumption) (by omega) (by decide) ?_
  refine ht_aload_n (D 25 rfl) rfl rfl ?_
  refine ht_iconst (v := 0) (D 26 rfl) (by decide) ?_
  refine pm_X10_273 hM rfl (D 27 rfl) (by first | exact Or.inl rfl | exact Or.inr rfl | assumption) ?_
  refine ht_aload_n (D 28 rfl) rfl rfl ?_
  refine ht_sipush (v := 1000) (D 29 rfl) (by decide) ?_
  refine pm_X10_174 hM rfl (D 30 rfl) ?_
  refine ht_iconst (v := 2) (D 31 rfl) (by decide) ?_
  refine ht_istore_n (D 32 rfl) rfl (by decide) rfl ?_
  refine ht_iload_n (D 33 rfl) rfl rfl ?_
  refine ht_iconst (v := 4) (D 34 rfl) (by decide) ?_
  refine ht_icmp_ge (tgt := 78) (D 35 rfl) (by decide) (fun hb51 => ?_) (fun hb51 => ?_)
  · skip
    exact absurd hb51 (by decide)
  · skip
    refine ht_aload_n (D 36 rfl) rfl rfl ?_
    refine gf_X10_62 rfl (D 37 rfl) hM.k0 hM.q18 ?_
    refine ht_iload_n (D 38 rfl) rfl rfl ?_
    refine ht_sipush (v := 1000) (D 39 rfl) (by decide) ?_
    refine hm_ist (o := 18) (n := 2) (by decide) (D 40 rfl) hM.k18 hM.n18 rfl (by decide) (by decide) ?_
    refine ht_aload_n (D 41 rfl) rfl rfl ?_
    refine gf_X10_65 rfl (D 42 rfl) hM.k0 hM.q19 ?_
    refine ht_iload_n (D 43 rfl) rfl rfl ?_
    refine ht_sipush (v := 1000) (D 44 rfl) (by decide) ?_
    refine hm_ist (o := 19) (n := 2) (by decide) (D 45 rfl) hM.k19 hM.n19 rfl (by decide) (by decide) ?_
    refine ht_iinc (v := nI (2 + 1)) (D 46 rfl) rfl (nI_i1 _) (by decide) rfl ?_
    refine ht_goto (tgt := 49) (D 47 rfl) (by decide) ?_
    refine ht_iload_n (D 33 rfl) rfl rfl ?_
    refine ht_iconst (v := 4) (D 34 rfl) (by decide) ?_
    refine ht_icmp_ge (tgt := 78) (D 35 rfl) (by decide) (fun hb51 => ?_) (fun hb51 => ?_)
    · skip
      exact absurd hb51 (by decide)
    · skip
      refine ht_aload_n (D 36 rfl) rfl rfl ?_
      refine gf_X10_62 rfl (D 37 rfl) hM.k0 hM.q18 ?_
      refine ht_iload_n (D 38 rfl) rfl rfl ?_
      refine ht_sipush (v := 1000) (D 39 rfl) (by decide) ?_
      refine hm_ist (o := 18) (n := 3) (by decide) (D 40 rfl) hM.k18 hM.n18 rfl (by decide) (by decide) ?_
      refine ht_aload_n (D 41 rfl) rfl rfl ?_
      refine gf_X10_65 rfl (D 42 rfl) hM.k0 hM.q19 ?_
      refine ht_iload_n (D 43 rfl) rfl rfl ?_
      refine ht_sipush (v := 1000) (D 44 rfl) (by decide) ?_
      refine hm_ist (o := 19) (n := 3) (by decide) (D 45 rfl) hM.k19 hM.n19 rfl (by decide) (by decide) ?_
      refine ht_iinc (v := nI (3 + 1)) (D 46 rfl) rfl (nI_i1 _) (by decide) rfl ?_
      refine ht_goto (tgt := 49) (D 47 rfl) (by decide) ?_
      refine ht_iload_n (D 33 rfl) rfl rfl ?_
      refine ht_iconst (v := 4) (D 34 rfl) (by decide) ?_
      refine ht_icmp_ge (tgt := 78) (D 35 rfl) (by decide) (fun hb51 => ?_) (fun hb51 => ?_)
      · skip
        refine ht_aload_n (D 48 rfl) rfl rfl ?_
        refine ht_aload_n (D 49 rfl) rfl rfl ?_
        refine gm_X10_141 hM rfl (D 50 rfl) ?_
        refine pm_X10_144 hM rfl (D 51 rfl) ?_
        refine ht_aload_n (D 52 rfl) rfl rfl ?_
        refine ht_iconst (v := 0) (D 53 rfl) (by decide) ?_
        refine pm_X10_141 hM rfl (D 54 rfl) ?_
        refine ht_aload_n (D 55 rfl) rfl rfl ?_
        refine ht_iconst (v := 0) (D 56 rfl) (by decide) ?_
        refine pm_X10_147 hM rfl (D 57 rfl) ?_
        refine ht_aload_n (D 58 rfl) rfl rfl ?_
        refine kVX10_nextToken (As := []) cl_X10_220 (D 59 rfl) (sm_nextToken (G := G) (σ := σ) (U := U) hM (T := T) (n := n) (p := 0) hT6 h36 hn0 h46 (Nat.zero_le _)) hM.k0 rfl (Nat.le_of_ble_eq_true rfl) rfl (Nat.le_of_ble_eq_true rfl) (by omega) ?_
        rintro _ _ ⟨rfl, V2, U2, b2, e2, k2, rfl, hf, hu, hr⟩
        have hD : DS T n (up2 V 0 1 0) U tdZ ice 0 b2 e2 k2 1000 V2 U2 := by
          refine ⟨⟨hr, ?_, ?_, ?_, ?_, by omega, hn0⟩, ⟨⟨?_, ?_, ?_, ?_, ?_⟩, ?_, fun o i _ _ hw => hw.elim, fun g hg => absurd hg (Nat.not_lt_zero _), ⟨fun i hi => absurd hi (Nat.not_lt_zero _), fun i hi => absurd hi (Nat.not_lt_zero _)⟩, fun i2 => ⟨fun _ => ⟨?_, ?_⟩, fun E q => by cases q⟩⟩, Nat.le_refl _, FR1_t h6 (FR1_nf hf), UR1_nu hu⟩
          · rw [hf.1 1 (by decide)]; exact hT6
          · rw [hf.2 3 (by decide) (by decide) (by decide) (by decide)]; exact h36
          · rw [hf.2 30 (by decide) (by decide) (by decide) (by decide)]; exact h30
          · rw [hf.2 29 (by decide) (by decide) (by decide) (by decide)]; exact h29
          · rw [hf.1 2 (by decide)]; exact hz 2 (by decide) (by decide)
          · rw [hf.1 3 (by decide)]; exact hz 3 (by decide) (by decide)
          · rw [hf.1 4 (by decide)]; exact hz 4 (by decide) (by decide)
          · rw [hf.1 5 (by decide)]; exact hz 5 (by decide) (by decide)
          · rw [hf.1 6 (by decide)]; exact hz 6 (by decide) (by decide)
          · rw [hf.2 31 (by decide) (by decide) (by decide) (by decide)]; exact h31
          · rw [hf.1 18 (by decide)]; exact (hl i2).1
          · rw [hf.1 19 (by decide)]; exact (hl i2).2
        exact ht_cast (sr_chain hM hCh V2 U2 ice b2 e2 k2 1000 _ hD) rfl rfl rfl
      · skip
        exact absurd (by decide) hb51
end S6
