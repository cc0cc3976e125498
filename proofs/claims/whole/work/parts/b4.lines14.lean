/-! ===== the reference: guard, law ===== -/
section S4
variable {G : GG} {σ : Hp} {m : Nat} {V V2 V0 : VT} {U U2 U0 : UT} {T : ST} {n p b e k c : Nat} {ice : Bool} {s : TD}
theorem nI_g16 (g l : Nat) : 8 * nI (2 + g) + nI l = nI (16 + (8 * g + l)) := by
  rw [show (8 : Int32) * nI (2 + g) = nI (8 * (2 + g)) from (Int32.ofNat_mul 8 (2 + g)).symm, nI_add]
  exact congrArg nI (by omega)
set_option maxRecDepth 100000 in
theorem sr_guard (hM : MS σ m) (hH : DS T n V0 U0 s ice p b e k c V U) (hV : TV T n s) : Sp G mX10_readsGuard 3 [.ref m] (sv σ m V U) (QM σ m T n V0 U0 (lnGuard T n s b e (nEnd T n))) := by
  have D := dat dl_X10_readsGuard
  have hv0 := hV.1
  have loop : tdC s 3 < 2 → ∀ fu len : Nat, len + fu = 8 → ∀ (x : TD) (V : VT) (U : UT) (ice : Bool) (p2 b2 e2 k2 c2 : Nat), DS T n V0 U0 x ice p2 b2 e2 k2 c2 V U → RdI s (tdC s 3) len x → V 16 (2 + tdC s 3) = nI len → lnGuard T n s b e (nEnd T n) = lnRd T n (tdC s 3) (nEnd T n) fu x len p2 → HT G mX10_readsGuard 36 [some (.ref m), some (.int (nI (2 + tdC s 3)))] [] (sv σ m V U) 3 (QM σ m T n V0 U0 (lnGuard T n s b e (nEnd T n))) := by
    intro hc8 fu
    induction fu with
    | zero =>
      intro len hlf x V U ice p b e k c hH hRd hlen hL
      have hl8 : len = 8 := hlf
      have hx3 : tdC x 3 = tdC s 3 := congrFun hRd.1 3
      have hx0 : tdC x 0 ≤ 8 := by rw [hRd.1]; exact hV.1.1
      refine ht_aload_n (D 24 rfl) rfl rfl ?_
      refine gf_X10_56 rfl (D 25 rfl) hM.k0 hM.q16 ?_
      refine ht_iload_n (D 26 rfl) rfl rfl ?_
      refine hm_ild (o := 16) (n := 2 + tdC s 3) (by decide) (D 27 rfl) hM.k16 hM.n16 (by first | rfl | exact nI_add _ _ | assumption) (by omega) (by decide) ?_
      rw [hlen]
      refine ht_if_eq (tgt := 53) (D 28 rfl) (by decide) (fun hb42 => ?_) (fun hb42 => ?_)
      · skip
        have hl0 : len = 0 := (nI_eq (a := len) (b := 0) (by omega) (by omega)).mp hb42
        have hkw : ¬ len = 0 → k = 1 := fun q => absurd hl0 q
        refine ht_aload_n (D 33 rfl) rfl rfl ?_
        refine kVX10_isKept (As := []) cl_X10_256 (D 34 rfl) (sr_kept hM hH) hM.k0 rfl (Nat.le_of_ble_eq_true rfl) rfl (Nat.le_of_ble_eq_true rfl) (by omega) ?_
        rintro _ _ ⟨⟨rfl, hnk⟩ | ⟨rfl, hnm⟩, rfl⟩
        · skip
          refine ht_if_eq (tgt := 66) (D 35 rfl) (by decide) (fun hb57 => absurd hb57 (by decide)) (fun hb57 => ?_)
          refine ht_aload_n (D 36 rfl) rfl rfl ?_
          refine ht_iconst (v := 1) (D 37 rfl) (by decide) ?_
          refine kVX10_fails (As := [_]) cl_X10_213 (D 38 rfl) (sr_fails hM hH 1) hM.k0 rfl (Nat.le_of_ble_eq_true rfl) rfl (Nat.le_of_ble_eq_true rfl) (by omega) ?_
          rintro _ σ9 ⟨rfl, hdf⟩
          refine ht_iret (D 39 rfl) rfl rfl ?_
          by_cases hl0 : len = 0
          · have hfa := (hL.trans (lnRd_5 hH.tk (Or.inl hl0))).trans (nCell_1 hH.tk hnk)
            exact Or.inl ⟨_, hfa, rfl, hdf⟩
          · have hfa := (hL.trans (lnRd_e hH.tk 0 hl0 hnk)).trans (nEnd_n hH.tk (fun q => by have h9 := hkw hl0; rw [q.1] at h9; exact absurd h9 (by decide)))
            exact Or.inl ⟨_, hfa, rfl, hdf⟩
        · skip
          have hor : len = 0 ∨ nmT T b e k := Or.inr hnm
          refine ht_if_eq (tgt := 66) (D 35 rfl) (by decide) (fun hb57 => ?_) (fun hb57 => absurd (by decide) hb57)
          refine ht_aload_n (D 40 rfl) rfl rfl ?_
          refine kVX10_cellNamed (As := []) cl_X10_260 (D 41 rfl) (sr_cellNamed hM hH hx0 hnm) hM.k0 rfl (Nat.le_of_ble_eq_true rfl) rfl (Nat.le_of_ble_eq_true rfl) (by omega) ?_
          rintro _ _ ⟨⟨hnc, rfl⟩ | ⟨j, hj, rfl⟩, rfl⟩
          · skip
            refine ht_if_ge (tgt := 79) (D 42 rfl) (by decide) (fun hb70 => ?_) (fun hb70 => ?_)
            · skip
              exact absurd hb70 (by decide)
            · skip
              skip
              refine ht_aload_n (D 43 rfl) rfl rfl ?_
              refine ht_iconst (v := 2) (D 44 rfl) (by decide) ?_
              refine kVX10_fails (As := [_]) cl_X10_213 (D 45 rfl) (sr_fails hM hH 2) hM.k0 rfl (Nat.le_of_ble_eq_true rfl) rfl (Nat.le_of_ble_eq_true rfl) (by omega) ?_
              rintro _ σ9 ⟨rfl, hdf⟩
              have hfa := (hL.trans (lnRd_5 hH.tk hor)).trans (nCell_2 hH.tk hnm hnc)
              refine ht_iret (D 46 rfl) rfl rfl ?_
              exact Or.inl ⟨_, hfa, rfl, hdf⟩
          · skip
            refine ht_if_ge (tgt := 79) (D 42 rfl) (by decide) (fun hb70 => ?_) (fun hb70 => ?_)
            · skip
              refine ht_aload_n (D 47 rfl) rfl rfl ?_
              refine gf_X10_56 rfl (D 48 rfl) hM.k0 hM.q16 ?_
              refine ht_iload_n (D 49 rfl) rfl rfl ?_
              refine hm_ild (o := 16) (n := 2 + tdC s 3) (by decide) (D 50 rfl) hM.k16 hM.n16 (by first | rfl | exact nI_add _ _ | assumption) (by omega) (by decide) ?_
              rw [hlen]
              refine ht_bipush (v := 8) (D 51 rfl) (by decide) ?_
              refine ht_icmp_ne (tgt := 96) (D 52 rfl) (by decide) (fun hb87 => ?_) (fun hb87 => ?_)
              · skip
                exact absurd (show nI len = 8 by rw [hl8]; rfl) hb87
              · skip
                refine ht_aload_n (D 53 rfl) rfl rfl ?_
                refine ht_iconst (v := 5) (D 54 rfl) (by decide) ?_
                refine kVX10_fails (As := [_]) cl_X10_213 (D 55 rfl) (sr_fails hM hH 5) hM.k0 rfl (Nat.le_of_ble_eq_true rfl) rfl (Nat.le_of_ble_eq_true rfl) (by omega) ?_
                rintro _ σ9 ⟨rfl, hdf⟩
                have hfa := (hL.trans (lnRd_5 hH.tk hor)).trans (nCell_y hH.tk hnm hj)
                refine ht_iret (D 56 rfl) rfl rfl ?_
                exact Or.inl ⟨_, hfa, rfl, hdf⟩
            · skip
              exact absurd (show (0 : Int32) ≤ nI j from (nI_leI (a := 0) (b := j) (by omega) (by have := hj.1; omega)).mpr (Nat.zero_le _)) hb70
      · skip
        have hl0 : ¬ len = 0 := fun q => hb42 (by rw [q]; rfl)
        refine ht_aload_n (D 29 rfl) rfl rfl ?_
        refine gm_X10_160 hM rfl (D 30 rfl) ?_
        refine ht_iconst (v := 1) (D 31 rfl) (by decide) ?_
        refine ht_icmp_ne (tgt := 133) (D 32 rfl) (by decide) (fun hb50 => ?_) (fun hb50 => ?_)
        · skip
          have hk1 : ¬ k = 1 := fun q => hb50 ((hH.1.k1 (j := 1) (by decide)).mpr q)
          refine ht_aload_n (D 81 rfl) rfl rfl ?_
          refine gf_X10_22 rfl (D 82 rfl) hM.k0 hM.q5 ?_
          refine ht_iconst (v := 1) (D 83 rfl) (by decide) ?_
          refine ht_dup2 (D 84 rfl) rfl rfl ?_
          refine hm_ild (o := 5) (n := 1) (by decide) (D 85 rfl) hM.k5 hM.n5 (by first | rfl | exact nI_add _ _ | assumption) (by omega) (by decide) ?_
          rw [hH.2.1.1.2.2.2.1, hx3]
          refine ht_iconst (v := 1) (D 86 rfl) (by decide) ?_
          refine ht_iadd (D 87 rfl) ?_
          rw [show nI (tdC s 3) + 1 = nI (tdC s 3 + 1) from nI_i1 _]
          refine hm_ist (o := 5) (n := 1) (by decide) (D 88 rfl) hM.k5 hM.n5 (by first | rfl | exact nI_add _ _ | assumption) (by omega) (by decide) ?_
          have hL := hL.trans (lnRd_e hH.tk 0 hl0 (fun q => hk1 q.1))
          have hG := hH.wG (x := nI len) (by rw [hx3]; exact hlen)
          rw [hx3] at hG
          have hH := hG
          refine ht_aload_n (D 89 rfl) rfl rfl ?_
          refine kVX10_ends (As := []) cl_X10_280 (D 90 rfl) (sr_ends hM hH) hM.k0 rfl (Nat.le_of_ble_eq_true rfl) rfl (Nat.le_of_ble_eq_true rfl) (by omega) ?_
          rintro _ _ (⟨hns, rfl, hdf⟩ | ⟨hys, rfl, hde⟩)
          · skip
            have hfa := hL.trans (nEnd_n hH.tk hns)
            refine ht_iret (D 91 rfl) rfl rfl ?_
            exact Or.inl ⟨_, hfa, rfl, hdf⟩
          · skip
            have hL := hL.trans (nEnd_y hH.tk hys)
            refine ht_iret (D 91 rfl) rfl rfl ?_
            exact Or.inr ⟨_, _, hL, rfl, hde⟩
        · skip
          have hk1 : k = 1 := (hH.1.k1 (j := 1) (by decide)).mp hb50
          have hkw : ¬ len = 0 → k = 1 := fun _ => hk1
          refine ht_aload_n (D 33 rfl) rfl rfl ?_
          refine kVX10_isKept (As := []) cl_X10_256 (D 34 rfl) (sr_kept hM hH) hM.k0 rfl (Nat.le_of_ble_eq_true rfl) rfl (Nat.le_of_ble_eq_true rfl) (by omega) ?_
          rintro _ _ ⟨⟨rfl, hnk⟩ | ⟨rfl, hnm⟩, rfl⟩
          · skip
            refine ht_if_eq (tgt := 66) (D 35 rfl) (by decide) (fun hb57 => absurd hb57 (by decide)) (fun hb57 => ?_)
            refine ht_aload_n (D 36 rfl) rfl rfl ?_
            refine ht_iconst (v := 1) (D 37 rfl) (by decide) ?_
            refine kVX10_fails (As := [_]) cl_X10_213 (D 38 rfl) (sr_fails hM hH 1) hM.k0 rfl (Nat.le_of_ble_eq_true rfl) rfl (Nat.le_of_ble_eq_true rfl) (by omega) ?_
            rintro _ σ9 ⟨rfl, hdf⟩
            refine ht_iret (D 39 rfl) rfl rfl ?_
            by_cases hl0 : len = 0
            · have hfa := (hL.trans (lnRd_5 hH.tk (Or.inl hl0))).trans (nCell_1 hH.tk hnk)
              exact Or.inl ⟨_, hfa, rfl, hdf⟩
            · have hfa := (hL.trans (lnRd_e hH.tk 0 hl0 hnk)).trans (nEnd_n hH.tk (fun q => by have h9 := hkw hl0; rw [q.1] at h9; exact absurd h9 (by decide)))
              exact Or.inl ⟨_, hfa, rfl, hdf⟩
          · skip
            have hor : len = 0 ∨ nmT T b e k := Or.inr hnm
            refine ht_if_eq (tgt := 66) (D 35 rfl) (by decide) (fun hb57 => ?_) (fun hb57 => absurd (by decide) hb57)
            refine ht_aload_n (D 40 rfl) rfl rfl ?_
            refine kVX10_cellNamed (As := []) cl_X10_260 (D 41 rfl) (sr_cellNamed hM hH hx0 hnm) hM.k0 rfl (Nat.le_of_ble_eq_true rfl) rfl (Nat.le_of_ble_eq_true rfl) (by omega) ?_
            rintro _ _ ⟨⟨hnc, rfl⟩ | ⟨j, hj, rfl⟩, rfl⟩
            · skip
              refine ht_if_ge (tgt := 79) (D 42 rfl) (by decide) (fun hb70 => ?_) (fun hb70 => ?_)
              · skip
                exact absurd hb70 (by decide)
              · skip
                skip
                refine ht_aload_n (D 43 rfl) rfl rfl ?_
                refine ht_iconst (v := 2) (D 44 rfl) (by decide) ?_
                refine kVX10_fails (As := [_]) cl_X10_213 (D 45 rfl) (sr_fails hM hH 2) hM.k0 rfl (Nat.le_of_ble_eq_true rfl) rfl (Nat.le_of_ble_eq_true rfl) (by omega) ?_
                rintro _ σ9 ⟨rfl, hdf⟩
                have hfa := (hL.trans (lnRd_5 hH.tk hor)).trans (nCell_2 hH.tk hnm hnc)
                refine ht_iret (D 46 rfl) rfl rfl ?_
                exact Or.inl ⟨_, hfa, rfl, hdf⟩
            · skip
              refine ht_if_ge (tgt := 79) (D 42 rfl) (by decide) (fun hb70 => ?_) (fun hb70 => ?_)
              · skip
                refine ht_aload_n (D 47 rfl) rfl rfl ?_
                refine gf_X10_56 rfl (D 48 rfl) hM.k0 hM.q16 ?_
                refine ht_iload_n (D 49 rfl) rfl rfl ?_
                refine hm_ild (o := 16) (n := 2 + tdC s 3) (by decide) (D 50 rfl) hM.k16 hM.n16 (by first | rfl | exact nI_add _ _ | assumption) (by omega) (by decide) ?_
                rw [hlen]
                refine ht_bipush (v := 8) (D 51 rfl) (by decide) ?_
                refine ht_icmp_ne (tgt := 96) (D 52 rfl) (by decide) (fun hb87 => ?_) (fun hb87 => ?_)
                · skip
                  exact absurd (show nI len = 8 by rw [hl8]; rfl) hb87
                · skip
                  refine ht_aload_n (D 53 rfl) rfl rfl ?_
                  refine ht_iconst (v := 5) (D 54 rfl) (by decide) ?_
                  refine kVX10_fails (As := [_]) cl_X10_213 (D 55 rfl) (sr_fails hM hH 5) hM.k0 rfl (Nat.le_of_ble_eq_true rfl) rfl (Nat.le_of_ble_eq_true rfl) (by omega) ?_
                  rintro _ σ9 ⟨rfl, hdf⟩
                  have hfa := (hL.trans (lnRd_5 hH.tk hor)).trans (nCell_y hH.tk hnm hj)
                  refine ht_iret (D 56 rfl) rfl rfl ?_
                  exact Or.inl ⟨_, hfa, rfl, hdf⟩
              · skip
                exact absurd (show (0 : Int32) ≤ nI j from (nI_leI (a := 0) (b := j) (by omega) (by have := hj.1; omega)).mpr (Nat.zero_le _)) hb70
    | succ fu ih =>
      intro len hlf x V U ice p b e k c hH hRd hlen hL
      have hx3 : tdC x 3 = tdC s 3 := congrFun hRd.1 3
      have hx0 : tdC x 0 ≤ 8 := by rw [hRd.1]; exact hV.1.1
      refine ht_aload_n (D 24 rfl) rfl rfl ?_
      refine gf_X10_56 rfl (D 25 rfl) hM.k0 hM.q16 ?_
      refine ht_iload_n (D 26 rfl) rfl rfl ?_
      refine hm_ild (o := 16) (n := 2 + tdC s 3) (by decide) (D 27 rfl) hM.k16 hM.n16 (by first | rfl | exact nI_add _ _ | assumption) (by omega) (by decide) ?_
      rw [hlen]
      refine ht_if_eq (tgt := 53) (D 28 rfl) (by decide) (fun hb42 => ?_) (fun hb42 => ?_)
      · skip
        have hl0 : len = 0 := (nI_eq (a := len) (b := 0) (by omega) (by omega)).mp hb42
        have hkw : ¬ len = 0 → k = 1 := fun q => absurd hl0 q
        refine ht_aload_n (D 33 rfl) rfl rfl ?_
        refine kVX10_isKept (As := []) cl_X10_256 (D 34 rfl) (sr_kept hM hH) hM.k0 rfl (Nat.le_of_ble_eq_true rfl) rfl (Nat.le_of_ble_eq_true rfl) (by omega) ?_
        rintro _ _ ⟨⟨rfl, hnk⟩ | ⟨rfl, hnm⟩, rfl⟩
        · skip
          refine ht_if_eq (tgt := 66) (D 35 rfl) (by decide) (fun hb57 => absurd hb57 (by decide)) (fun hb57 => ?_)
          refine ht_aload_n (D 36 rfl) rfl rfl ?_
          refine ht_iconst (v := 1) (D 37 rfl) (by decide) ?_
          refine kVX10_fails (As := [_]) cl_X10_213 (D 38 rfl) (sr_fails hM hH 1) hM.k0 rfl (Nat.le_of_ble_eq_true rfl) rfl (Nat.le_of_ble_eq_true rfl) (by omega) ?_
          rintro _ σ9 ⟨rfl, hdf⟩
          refine ht_iret (D 39 rfl) rfl rfl ?_
          by_cases hl0 : len = 0
          · have hfa := (hL.trans (lnRd_c hH.tk fu (Or.inl hl0))).trans (nCell_1 hH.tk hnk)
            exact Or.inl ⟨_, hfa, rfl, hdf⟩
          · have hfa := (hL.trans (lnRd_e hH.tk (fu + 1) hl0 hnk)).trans (nEnd_n hH.tk (fun q => by have h9 := hkw hl0; rw [q.1] at h9; exact absurd h9 (by decide)))
            exact Or.inl ⟨_, hfa, rfl, hdf⟩
        · skip
          have hor : len = 0 ∨ nmT T b e k := Or.inr hnm
          refine ht_if_eq (tgt := 66) (D 35 rfl) (by decide) (fun hb57 => ?_) (fun hb57 => absurd (by decide) hb57)
          refine ht_aload_n (D 40 rfl) rfl rfl ?_
          refine kVX10_cellNamed (As := []) cl_X10_260 (D 41 rfl) (sr_cellNamed hM hH hx0 hnm) hM.k0 rfl (Nat.le_of_ble_eq_true rfl) rfl (Nat.le_of_ble_eq_true rfl) (by omega) ?_
          rintro _ _ ⟨⟨hnc, rfl⟩ | ⟨j, hj, rfl⟩, rfl⟩
          · skip
            refine ht_if_ge (tgt := 79) (D 42 rfl) (by decide) (fun hb70 => ?_) (fun hb70 => ?_)
            · skip
              exact absurd hb70 (by decide)
            · skip
              skip
              refine ht_aload_n (D 43 rfl) rfl rfl ?_
              refine ht_iconst (v := 2) (D 44 rfl) (by decide) ?_
              refine kVX10_fails (As := [_]) cl_X10_213 (D 45 rfl) (sr_fails hM hH 2) hM.k0 rfl (Nat.le_of_ble_eq_true rfl) rfl (Nat.le_of_ble_eq_true rfl) (by omega) ?_
              rintro _ σ9 ⟨rfl, hdf⟩
              have hfa := (hL.trans (lnRd_c hH.tk fu hor)).trans (nCell_2 hH.tk hnm hnc)
              refine ht_iret (D 46 rfl) rfl rfl ?_
              exact Or.inl ⟨_, hfa, rfl, hdf⟩
          · skip
            refine ht_if_ge (tgt := 79) (D 42 rfl) (by decide) (fun hb70 => ?_) (fun hb70 => ?_)
            · skip
              refine ht_aload_n (D 47 rfl) rfl rfl ?_
              refine gf_X10_56 rfl (D 48 rfl) hM.k0 hM.q16 ?_
              refine ht_iload_n (D 49 rfl) rfl rfl ?_
              refine hm_ild (o := 16) (n := 2 + tdC s 3) (by decide) (D 50 rfl) hM.k16 hM.n16 (by first | rfl | exact nI_add _ _ | assumption) (by omega) (by decide) ?_
              rw [hlen]
              refine ht_bipush (v := 8) (D 51 rfl) (by decide) ?_
              refine ht_icmp_ne (tgt := 96) (D 52 rfl) (by decide) (fun hb87 => ?_) (fun hb87 => ?_)
              · skip
                refine ht_aload_n (D 57 rfl) rfl rfl ?_
                refine gf_X10_59 rfl (D 58 rfl) hM.k0 hM.q17 ?_
                refine ht_bipush (v := 8) (D 59 rfl) (by decide) ?_
                refine ht_iload_n (D 60 rfl) rfl rfl ?_
                refine ht_imul (D 61 rfl) ?_
                refine ht_aload_n (D 62 rfl) rfl rfl ?_
                refine gf_X10_56 rfl (D 63 rfl) hM.k0 hM.q16 ?_
                refine ht_iload_n (D 64 rfl) rfl rfl ?_
                refine hm_ild (o := 16) (n := 2 + tdC s 3) (by decide) (D 65 rfl) hM.k16 hM.n16 (by first | rfl | exact nI_add _ _ | assumption) (by omega) (by decide) ?_
                rw [hlen]
                refine ht_iadd (D 66 rfl) ?_
                refine ht_aload_n (D 67 rfl) rfl rfl ?_
                refine kVX10_cellNamed (As := []) cl_X10_260 (D 68 rfl) (sr_cellNamed hM hH hx0 hnm) hM.k0 rfl (Nat.le_of_ble_eq_true rfl) rfl (Nat.le_of_ble_eq_true rfl) (by omega) ?_
                rintro _ _ ⟨⟨hnc, rfl⟩ | ⟨j2, hj2, rfl⟩, rfl⟩
                · skip
                  exact absurd hj.2.1 (hnc j hj.1)
                · skip
                  have hjj := cnI_u hj2 hj
                  subst hjj
                  refine hm_ist (o := 17) (n := 16 + (8 * tdC s 3 + len)) (by decide) (D 69 rfl) hM.k17 hM.n17 (nI_g16 _ _) (by omega) (by decide) ?_
                  have hL := (hL.trans (lnRd_c hH.tk fu hor)).trans (nCell_y hH.tk hnm hj2)
                  have hH := hH.wR (o := 17) (i := 8 * tdC s 3 + len) rfl (by decide) (show 8 * tdC s 3 + len < 16 by omega) (nI j2)
                  refine ht_aload_n (D 70 rfl) rfl rfl ?_
                  refine gf_X10_56 rfl (D 71 rfl) hM.k0 hM.q16 ?_
                  refine ht_iload_n (D 72 rfl) rfl rfl ?_
                  refine ht_dup2 (D 73 rfl) rfl rfl ?_
                  refine hm_ild (o := 16) (n := 2 + tdC s 3) (by decide) (D 74 rfl) hM.k16 hM.n16 (by first | rfl | exact nI_add _ _ | assumption) (by omega) (by decide) ?_
                  rw [show up2 V 17 (16 + (8 * tdC s 3 + len)) (nI j2) 16 (2 + tdC s 3) = nI len from (up2_a _ _ (by decide)).trans hlen]
                  refine ht_iconst (v := 1) (D 75 rfl) (by decide) ?_
                  refine ht_iadd (D 76 rfl) ?_
                  rw [show nI len + 1 = nI (len + 1) from nI_i1 _]
                  refine hm_ist (o := 16) (n := 2 + tdC s 3) (by decide) (D 77 rfl) hM.k16 hM.n16 (by first | rfl | exact nI_add _ _ | assumption) (by omega) (by decide) ?_
                  have hlen : up2 (up2 V 17 (16 + (8 * tdC s 3 + len)) (nI j2)) 16 (2 + tdC s 3) (nI (len + 1)) 16 (2 + tdC s 3) = nI (len + 1) := up2_s _ _ _ _
                  have hH := hH.w16 (show tdC (asR x 17 (8 * tdC s 3 + len) (nI j2)) 3 < 2 by rw [show tdC (asR x 17 (8 * tdC s 3 + len) (nI j2)) 3 = tdC s 3 from hx3]; exact hc8) (nI (len + 1))
                  rw [show tdC (asR x 17 (8 * tdC s 3 + len) (nI j2)) 3 = tdC s 3 from hx3] at hH
                  refine ht_aload_n (D 78 rfl) rfl rfl ?_
                  refine kVX10_nextToken (As := []) cl_X10_220 (D 79 rfl) (sr_next hM hH) hM.k0 rfl (Nat.le_of_ble_eq_true rfl) rfl (Nat.le_of_ble_eq_true rfl) (by omega) ?_
                  rintro _ _ ⟨rfl, hdx⟩
                  obtain ⟨V, U, ice, b, e, k, c, rfl, hH, hnu, h16, h44⟩ := hdx
                  have hlen := (congrFun h16 _).trans hlen
                  refine ht_goto (tgt := 36) (D 80 rfl) (by decide) ?_
                  exact ht_cast (ih (len + 1) (by omega) _ _ _ _ _ _ _ _ _ hH (RdI_s hRd (show j2 < tdC s 0 by have h9 := hj2.1; rw [hRd.1] at h9; exact h9)) hlen hL) rfl rfl rfl
              · skip
                exact absurd ((nI_eq (a := len) (b := 8) (by omega) (by omega)).mp hb87) (by omega)
            · skip
              exact absurd (show (0 : Int32) ≤ nI j from (nI_leI (a := 0) (b := j) (by omega) (by have := hj.1; omega)).mpr (Nat.zero_le _)) hb70
      · skip
        have hl0 : ¬ len = 0 := fun q => hb42 (by rw [q]; rfl)
        refine ht_aload_n (D 29 rfl) rfl rfl ?_
        refine gm_X10_160 hM rfl (D 30 rfl) ?_
        refine ht_iconst (v := 1) (D 31 rfl) (by decide) ?_
        refine ht_icmp_ne (tgt := 133) (D 32 rfl) (by decide) (fun hb50 => ?_) (fun hb50 => ?_)
        · skip
          have hk1 : ¬ k = 1 := fun q => hb50 ((hH.1.k1 (j := 1) (by decide)).mpr q)
          refine ht_aload_n (D 81 rfl) rfl rfl ?_
          refine gf_X10_22 rfl (D 82 rfl) hM.k0 hM.q5 ?_
          refine ht_iconst (v := 1) (D 83 rfl) (by decide) ?_
          refine ht_dup2 (D 84 rfl) rfl rfl ?_
          refine hm_ild (o := 5) (n := 1) (by decide) (D 85 rfl) hM.k5 hM.n5 (by first | rfl | exact nI_add _ _ | assumption) (by omega) (by decide) ?_
          rw [hH.2.1.1.2.2.2.1, hx3]
          refine ht_iconst (v := 1) (D 86 rfl) (by decide) ?_
          refine ht_iadd (D 87 rfl) ?_
          rw [show nI (tdC s 3) + 1 = nI (tdC s 3 + 1) from nI_i1 _]
          refine hm_ist (o := 5) (n := 1) (by decide) (D 88 rfl) hM.k5 hM.n5 (by first | rfl | exact nI_add _ _ | assumption) (by omega) (by decide) ?_
          have hL := hL.trans (lnRd_e hH.tk (fu + 1) hl0 (fun q => hk1 q.1))
          have hG := hH.wG (x := nI len) (by rw [hx3]; exact hlen)
          rw [hx3] at hG
          have hH := hG
          refine ht_aload_n (D 89 rfl) rfl rfl ?_
          refine kVX10_ends (As := []) cl_X10_280 (D 90 rfl) (sr_ends hM hH) hM.k0 rfl (Nat.le_of_ble_eq_true rfl) rfl (Nat.le_of_ble_eq_true rfl) (by omega) ?_
          rintro _ _ (⟨hns, rfl, hdf⟩ | ⟨hys, rfl, hde⟩)
          · skip
            have hfa := hL.trans (nEnd_n hH.tk hns)
            refine ht_iret (D 91 rfl) rfl rfl ?_
            exact Or.inl ⟨_, hfa, rfl, hdf⟩
          · skip
            have hL := hL.trans (nEnd_y hH.tk hys)
            refine ht_iret (D 91 rfl) rfl rfl ?_
            exact Or.inr ⟨_, _, hL, rfl, hde⟩
        · skip
          have hk1 : k = 1 := (hH.1.k1 (j := 1) (by decide)).mp hb50
          have hkw : ¬ len = 0 → k = 1 := fun _ => hk1
          refine ht_aload_n (D 33 rfl) rfl rfl ?_
          refine kVX10_isKept (As := []) cl_X10_256 (D 34 rfl) (sr_kept hM hH) hM.k0 rfl (Nat.le_of_ble_eq_true rfl) rfl (Nat.le_of_ble_eq_true rfl) (by omega) ?_
          rintro _ _ ⟨⟨rfl, hnk⟩ | ⟨rfl, hnm⟩, rfl⟩
          · skip
            refine ht_if_eq (tgt := 66) (D 35 rfl) (by decide) (fun hb57 => absurd hb57 (by decide)) (fun hb57 => ?_)
            refine ht_aload_n (D 36 rfl) rfl rfl ?_
            refine ht_iconst (v := 1) (D 37 rfl) (by decide) ?_
            refine kVX10_fails (As := [_]) cl_X10_213 (D 38 rfl) (sr_fails hM hH 1) hM.k0 rfl (Nat.le_of_ble_eq_true rfl) rfl (Nat.le_of_ble_eq_true rfl) (by omega) ?_
            rintro _ σ9 ⟨rfl, hdf⟩
            refine ht_iret (D 39 rfl) rfl rfl ?_
            by_cases hl0 : len = 0
            · have hfa := (hL.trans (lnRd_c hH.tk fu (Or.inl hl0))).trans (nCell_1 hH.tk hnk)
              exact Or.inl ⟨_, hfa, rfl, hdf⟩
            · have hfa := (hL.trans (lnRd_e hH.tk (fu + 1) hl0 hnk)).trans (nEnd_n hH.tk (fun q => by have h9 := hkw hl0; rw [q.1] at h9; exact absurd h9 (by decide)))
              exact Or.inl ⟨_, hfa, rfl, hdf⟩
          · skip
            have hor : len = 0 ∨ nmT T b e k := Or.inr hnm
            refine ht_if_eq (tgt := 66) (D 35 rfl) (by decide) (fun hb57 => ?_) (fun hb57 => absurd (by decide) hb57)
            refine ht_aload_n (D 40 rfl) rfl rfl ?_
            refine kVX10_cellNamed (As := []) cl_X10_260 (D 41 rfl) (sr_cellNamed hM hH hx0 hnm) hM.k0 rfl (Nat.le_of_ble_eq_true rfl) rfl (Nat.le_of_ble_eq_true rfl) (by omega) ?_
            rintro _ _ ⟨⟨hnc, rfl⟩ | ⟨j, hj, rfl⟩, rfl⟩
            · skip
              refine ht_if_ge (tgt := 79) (D 42 rfl) (by decide) (fun hb70 => ?_) (fun hb70 => ?_)
              · skip
                exact absurd hb70 (by decide)
              · skip
                skip
                refine ht_aload_n (D 43 rfl) rfl rfl ?_
                refine ht_iconst (v := 2) (D 44 rfl) (by decide) ?_
                refine kVX10_fails (As := [_]) cl_X10_213 (D 45 rfl) (sr_fails hM hH 2) hM.k0 rfl (Nat.le_of_ble_eq_true rfl) rfl (Nat.le_of_ble_eq_true rfl) (by omega) ?_
                rintro _ σ9 ⟨rfl, hdf⟩
                have hfa := (hL.trans (lnRd_c hH.tk fu hor)).trans (nCell_2 hH.tk hnm hnc)
                refine ht_iret (D 46 rfl) rfl rfl ?_
                exact Or.inl ⟨_, hfa, rfl, hdf⟩
            · skip
              refine ht_if_ge (tgt := 79) (D 42 rfl) (by decide) (fun hb70 => ?_) (fun hb70 => ?_)
              · skip
                refine ht_aload_n (D 47 rfl) rfl rfl ?_
                refine gf_X10_56 rfl (D 48 rfl) hM.k0 hM.q16 ?_
                refine ht_iload_n (D 49 rfl) rfl rfl ?_
                refine hm_ild (o := 16) (n := 2 + tdC s 3) (by decide) (D 50 rfl) hM.k16 hM.n16 (by first | rfl | exact nI_add _ _ | assumption) (by omega) (by decide) ?_
                rw [hlen]
                refine ht_bipush (v := 8) (D 51 rfl) (by decide) ?_
                refine ht_icmp_ne (tgt := 96) (D 52 rfl) (by decide) (fun hb87 => ?_) (fun hb87 => ?_)
                · skip
                  refine ht_aload_n (D 57 rfl) rfl rfl ?_
                  refine gf_X10_59 rfl (D 58 rfl) hM.k0 hM.q17 ?_
                  refine ht_bipush (v := 8) (D 59 rfl) (by decide) ?_
                  refine ht_iload_n (D 60 rfl) rfl rfl ?_
                  refine ht_imul (D 61 rfl) ?_
                  refine ht_aload_n (D 62 rfl) rfl rfl ?_
                  refine gf_X10_56 rfl (D 63 rfl) hM.k0 hM.q16 ?_
                  refine ht_iload_n (D 64 rfl) rfl rfl ?_
                  refine hm_ild (o := 16) (n := 2 + tdC s 3) (by decide) (D 65 rfl) hM.k16 hM.n16 (by first | rfl | exact nI_add _ _ | assumption) (by omega) (by decide) ?_
                  rw [hlen]
                  refine ht_iadd (D 66 rfl) ?_
                  refine ht_aload_n (D 67 rfl) rfl rfl ?_
                  refine kVX10_cellNamed (As := []) cl_X10_260 (D 68 rfl) (sr_cellNamed hM hH hx0 hnm) hM.k0 rfl (Nat.le_of_ble_eq_true rfl) rfl (Nat.le_of_ble_eq_true rfl) (by omega) ?_
                  rintro _ _ ⟨⟨hnc, rfl⟩ | ⟨j2, hj2, rfl⟩, rfl⟩
                  · skip
                    exact absurd hj.2.1 (hnc j hj.1)
                  · skip
                    have hjj := cnI_u hj2 hj
                    subst hjj
                    refine hm_ist (o := 17) (n := 16 + (8 * tdC s 3 + len)) (by decide) (D 69 rfl) hM.k17 hM.n17 (nI_g16 _ _) (by omega) (by decide) ?_
                    have hL := (hL.trans (lnRd_c hH.tk fu hor)).trans (nCell_y hH.tk hnm hj2)
                    have hH := hH.wR (o := 17) (i := 8 * tdC s 3 + len) rfl (by decide) (show 8 * tdC s 3 + len < 16 by omega) (nI j2)
                    refine ht_aload_n (D 70 rfl) rfl rfl ?_
                    refine gf_X10_56 rfl (D 71 rfl) hM.k0 hM.q16 ?_
                    refine ht_iload_n (D 72 rfl) rfl rfl ?_
                    refine ht_dup2 (D 73 rfl) rfl rfl ?_
                    refine hm_ild (o := 16) (n := 2 + tdC s 3) (by decide) (D 74 rfl) hM.k16 hM.n16 (by first | rfl | exact nI_add _ _ | assumption) (by omega) (by decide) ?_
                    rw [show up2 V 17 (16 + (8 * tdC s 3 + len)) (nI j2) 16 (2 + tdC s 3) = nI len from (up2_a _ _ (by decide)).trans hlen]
                    refine ht_iconst (v := 1) (D 75 rfl) (by decide) ?_
                    refine ht_iadd (D 76 rfl) ?_
                    rw [show nI len + 1 = nI (len + 1) from nI_i1 _]
                    refine hm_ist (o := 16) (n := 2 + tdC s 3) (by decide) (D 77 rfl) hM.k16 hM.n16 (by first | rfl | exact nI_add _ _ | assumption) (by omega) (by decide) ?_
                    have hlen : up2 (up2 V 17 (16 + (8 * tdC s 3 + len)) (nI j2)) 16 (2 + tdC s 3) (nI (len + 1)) 16 (2 + tdC s 3) = nI (len + 1) := up2_s _ _ _ _
                    have hH := hH.w16 (show tdC (asR x 17 (8 * tdC s 3 + len) (nI j2)) 3 < 2 by rw [show tdC (asR x 17 (8 * tdC s 3 + len) (nI j2)) 3 = tdC s 3 from hx3]; exact hc8) (nI (len + 1))
                    rw [show tdC (asR x 17 (8 * tdC s 3 + len) (nI j2)) 3 = tdC s 3 from hx3] at hH
                    refine ht_aload_n (D 78 rfl) rfl rfl ?_
                    refine kVX10_nextToken (As := []) cl_X10_220 (D 79 rfl) (sr_next hM hH) hM.k0 rfl (Nat.le_of_ble_eq_true rfl) rfl (Nat.le_of_ble_eq_true rfl) (by omega) ?_
                    rintro _ _ ⟨rfl, hdx⟩
                    obtain ⟨V, U, ice, b, e, k, c, rfl, hH, hnu, h16, h44⟩ := hdx
                    have hlen := (congrFun h16 _).trans hlen
                    refine ht_goto (tgt := 36) (D 80 rfl) (by decide) ?_
                    exact ht_cast (ih (len + 1) (by omega) _ _ _ _ _ _ _ _ _ hH (RdI_s hRd (show j2 < tdC s 0 by have h9 := hj2.1; rw [hRd.1] at h9; exact h9)) hlen hL) rfl rfl rfl
                · skip
                  exact absurd ((nI_eq (a := len) (b := 8) (by omega) (by omega)).mp hb87) (by omega)
              · skip
                exact absurd (show (0 : Int32) ≤ nI j from (nI_leI (a := 0) (b := j) (by omega) (by have := hj.1; omega)).mpr (Nat.zero_le _)) hb70
  show HT G mX10_readsGuard 0 [some (.ref m), none] [] (sv σ m V U) 3 _
  refine ht_iconst (v := 2) (D 0 rfl) (by decide) ?_
  refine ht_aload_n (D 1 rfl) rfl rfl ?_
  refine gf_X10_22 rfl (D 2 rfl) hM.k0 hM.q5 ?_
  refine ht_iconst (v := 1) (D 3 rfl) (by decide) ?_
  refine hm_ild (o := 5) (n := 1) (by decide) (D 4 rfl) hM.k5 hM.n5 (by first | rfl | exact nI_add _ _ | assumption) (by omega) (by decide) ?_
  rw [hH.2.1.1.2.2.2.1]
  refine ht_iadd (D 5 rfl) ?_
  rw [show (2 : Int32) + nI (tdC s 3) = nI (2 + tdC s 3) from nI_add 2 _]
  refine ht_istore_n (D 6 rfl) rfl (by decide) rfl ?_
  refine ht_aload_n (D 7 rfl) rfl rfl ?_
  refine gf_X10_22 rfl (D 8 rfl) hM.k0 hM.q5 ?_
  refine ht_iconst (v := 1) (D 9 rfl) (by decide) ?_
  refine hm_ild (o := 5) (n := 1) (by decide) (D 10 rfl) hM.k5 hM.n5 (by first | rfl | exact nI_add _ _ | assumption) (by omega) (by decide) ?_
  rw [hH.2.1.1.2.2.2.1]
  refine ht_iconst (v := 2) (D 11 rfl) (by decide) ?_
  refine ht_icmp_ne (tgt := 25) (D 12 rfl) (by decide) (fun hb16 => ?_) (fun hb16 => ?_)
  · skip
    have hc8 : tdC s 3 < 2 := by
      have h9 : ¬ tdC s 3 = 2 := fun q => hb16 (by rw [q]; rfl)
      omega
    have hL : lnGuard T n s b e (nEnd T n) = _ := ifc_y hc8
    refine ht_aload_n (D 17 rfl) rfl rfl ?_
    refine kVX10_nextToken (As := []) cl_X10_220 (D 18 rfl) (sr_next hM hH) hM.k0 rfl (Nat.le_of_ble_eq_true rfl) rfl (Nat.le_of_ble_eq_true rfl) (by omega) ?_
    rintro _ _ ⟨rfl, hdx⟩
    obtain ⟨V, U, ice, b, e, k, c, rfl, hH, hnu, h16, h44⟩ := hdx
    refine ht_aload_n (D 19 rfl) rfl rfl ?_
    refine gf_X10_56 rfl (D 20 rfl) hM.k0 hM.q16 ?_
    refine ht_iload_n (D 21 rfl) rfl rfl ?_
    refine ht_iconst (v := 0) (D 22 rfl) (by decide) ?_
    refine hm_ist (o := 16) (n := 2 + tdC s 3) (by decide) (D 23 rfl) hM.k16 hM.n16 (by first | rfl | exact nI_add _ _ | assumption) (by omega) (by decide) ?_
    have hlen : up2 V 16 (2 + tdC s 3) 0 16 (2 + tdC s 3) = nI 0 := up2_s _ _ _ _
    have hH := hH.w16 hc8 0
    exact ht_cast (loop hc8 8 0 (by omega) _ _ _ _ _ _ _ _ _ hH (RdI_0 s _) hlen hL) rfl rfl rfl
  · skip
    have hc8 : ¬ tdC s 3 < 2 := by
      have h9 : tdC s 3 = 2 := (nI_eq (a := tdC s 3) (b := 2) (by omega) (by omega)).mp hb16
      omega
    have hfa : lnGuard T n s b e (nEnd T n) = _ := ifc_n hc8
    refine ht_aload_n (D 13 rfl) rfl rfl ?_
    refine ht_iconst (v := 5) (D 14 rfl) (by decide) ?_
    refine kVX10_fails (As := [_]) cl_X10_213 (D 15 rfl) (sr_fails hM hH 5) hM.k0 rfl (Nat.le_of_ble_eq_true rfl) rfl (Nat.le_of_ble_eq_true rfl) (by omega) ?_
    rintro _ σ9 ⟨rfl, hdf⟩
    refine ht_iret (D 16 rfl) rfl rfl ?_
    exact Or.inl ⟨_, hfa, rfl, hdf⟩
end S4
