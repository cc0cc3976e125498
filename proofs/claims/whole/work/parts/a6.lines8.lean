/-! ===== the class: guard ===== -/
section R6
variable {G : GG} {σ σ0 σ1 σ2 : Hp} {ad : Nat → Nat} {aA aS aV r sA n p b e k S1 : Nat} {T : ST} {s : TD}
theorem FT.cg {x : TD} {f : Int32} (h : FT σ0 S1 x r f σ) (q : tdF x = tdF s) : FT σ0 S1 s r f σ := by
  have e : nFs s = nFs x := by unfold nFs; rw [q]
  refine ⟨h.1, ⟨h.2.1.1, ?_, ?_⟩, h.2.2⟩
  · rw [e]; exact h.2.1.2.1
  · rw [e]; exact h.2.1.2.2
theorem nI_g8 (g l : Nat) : nI g * 8 + nI l = nI (8 * g + l) := by
  rw [show nI g * 8 = nI (8 * g) from by rw [Nat.mul_comm]; exact (Int32.ofNat_mul g 8).symm]
  exact nI_add _ _
set_option maxRecDepth 100000 in
theorem sk_readGuard (hE : NE G) (hB : BK G ad aA aS aV) (hJ : ∀ i j, i < 22 → j < 22 → ad i = ad j → i = j) (hH : CS ad T n σ0 S1 s p b e k r sA σ) (hV : TV T n s) : Sp G mX5_readGuard 7 [.ref r] σ (QL ad T n σ0 S1 s e r sA (fun K res => res = lnGuard T n s b e K)) := by
  have D := dat dl_X5_readGuard
  have hv0 := hV.1
  have loop : tdC s 3 < 2 → ∀ fu len : Nat, len + fu = 8 → ∀ (x : TD) (σ : Hp) (p2 b2 e2 k2 : Nat), CS ad T n σ0 S1 x p2 b2 e2 k2 r sA σ → RdI s (tdC s 3) len x → e ≤ p2 → (∀ K : TD → Nat → Rl, lnGuard T n s b e K = lnRd T n (tdC s 3) K fu x len p2) → HT G mX5_readGuard 28 [some (.ref r), some (.int (nI (tdC s 3))), some (.int (nI len))] [] σ 7 (QL ad T n σ0 S1 s e r sA (fun K res => res = lnGuard T n s b e K)) := by
    intro hc8 fu
    induction fu with
    | zero =>
      intro len hlf x σ p b e k hH hRd hle hL
      have hx0 : tdC x 0 ≤ 8 := by rw [hRd.1]; exact hV.1.1
      refine ht_iload_n (D 16 rfl) rfl rfl ?_
      refine ht_bipush (v := 8) (D 17 rfl) (by decide) ?_
      refine ht_icmp_ge (tgt := 95) (D 18 rfl) (by decide) (fun hb31 => ?_) (fun hb31 => ?_)
      · skip
        refine ht_aload_n (D 49 rfl) rfl rfl ?_
        refine gf_X5_30 rfl (D 50 rfl) hH.1.1.rk hH.1.1.q1 ?_
        refine kVX7_isName (As := []) cl_X5_229 (D 51 rfl) (sc_isName hB hH.1) hH.1.1.tk rfl (Nat.le_of_ble_eq_true rfl) rfl (Nat.le_of_ble_eq_true rfl) (by omega) ?_
        rintro _ σ ⟨⟨rfl, hnm⟩ | ⟨rfl, hnm⟩, rfl⟩
        · skip
          have hL := fun K : TD → Nat → Rl => (hL K).trans (lnRd_5 hH.tk (Or.inr hnm))
          refine ht_if_eq (tgt := 126) (D 52 rfl) (by decide) (fun hb102 => absurd hb102 (by decide)) (fun hb102 => ?_)
          refine ht_aload_n (D 53 rfl) rfl rfl ?_
          refine kVX5_isCellName (As := []) cl_X5_177 (D 54 rfl) (sk_isCellName hB hH hx0) hH.1.1.rk rfl (Nat.le_of_ble_eq_true rfl) rfl (Nat.le_of_ble_eq_true rfl) (by omega) ?_
          rintro _ σ (⟨hnm, rfl, hft⟩ | ⟨hnm, hno, rfl, hft⟩ | ⟨hnm, ⟨j, hj⟩, rfl, rfl⟩)
          · skip
            have hfa := fun K : TD → Nat → Rl => (hL K).trans (nCell_1 hH.tk hnm)
            refine ht_if_eq (tgt := 124) (D 55 rfl) (by decide) (fun hb109 => ?_) (fun hb109 => absurd (by decide) hb109)
            refine ht_iconst (v := 0) (D 62 rfl) (by decide) ?_
            refine ht_iret (D 63 rfl) rfl rfl ?_
            exact Or.inl ⟨_, fun K => (hfa K).symm, rfl, hft.cg hRd.2.2.1⟩
          · skip
            have hfa := fun K : TD → Nat → Rl => (hL K).trans (nCell_2 hH.tk hnm hno)
            refine ht_if_eq (tgt := 124) (D 55 rfl) (by decide) (fun hb109 => ?_) (fun hb109 => absurd (by decide) hb109)
            refine ht_iconst (v := 0) (D 62 rfl) (by decide) ?_
            refine ht_iret (D 63 rfl) rfl rfl ?_
            exact Or.inl ⟨_, fun K => (hfa K).symm, rfl, hft.cg hRd.2.2.1⟩
          · skip
            have hL := fun K : TD → Nat → Rl => (hL K).trans (nCell_y hH.tk hnm hj)
            refine ht_if_eq (tgt := 124) (D 55 rfl) (by decide) (fun hb109 => absurd hb109 (by decide)) (fun hb109 => ?_)
            refine ht_aload_n (D 56 rfl) rfl rfl ?_
            refine ht_iconst (v := 5) (D 57 rfl) (by decide) ?_
            refine kVX5_wrong (As := [_]) cl_X5_109 (D 58 rfl) (sk_wrong hH 5 (by decide)) hH.1.1.rk rfl (Nat.le_of_ble_eq_true rfl) rfl (Nat.le_of_ble_eq_true rfl) (by omega) ?_
            rintro _ σ ⟨rfl, hft⟩
            have hfa := hL
            refine ht_if_eq (tgt := 124) (D 59 rfl) (by decide) (fun hb117 => ?_) (fun hb117 => absurd (by decide) hb117)
            refine ht_iconst (v := 0) (D 62 rfl) (by decide) ?_
            refine ht_iret (D 63 rfl) rfl rfl ?_
            exact Or.inl ⟨_, fun K => (hfa K).symm, rfl, hft.cg hRd.2.2.1⟩
        · skip
          have hL := fun K : TD → Nat → Rl => (hL K).trans (lnRd_e hH.tk 0 (by omega) hnm)
          refine ht_if_eq (tgt := 126) (D 52 rfl) (by decide) (fun hb102 => ?_) (fun hb102 => absurd (by decide) hb102)
          refine ht_aload_n (D 64 rfl) rfl rfl ?_
          refine gf_X5_12 rfl (D 65 rfl) hH.1.1.rk hH.1.1.q0 ?_
          refine gf_X5_235 rfl (D 66 rfl) hH.1.1.lw.k0 hH.1.1.lw.q10 ?_
          refine ht_iload_n (D 67 rfl) rfl rfl ?_
          refine ht_iload_n (D 68 rfl) rfl rfl ?_
          skip
          refine ht_ist (n := tdC s 3) (D 69 rfl) hH.1.1.lw.k10 hH.1.1.lw.n10 (by first | rfl | exact nI_add _ _ | assumption) (by omega) (by first | decide | omega) ?_
          have hH := hH.wR (o := 16) (q := 10) rfl (by decide) (tdC s 3) (nI len)
          refine ht_aload_n (D 70 rfl) rfl rfl ?_
          refine gf_X5_12 rfl (D 71 rfl) hH.1.1.rk hH.1.1.q0 ?_
          refine ht_dup (D 72 rfl) rfl ?_
          refine gf_X5_226 rfl (D 73 rfl) hH.1.1.lw.k0 ?_
          rw [show zI _ (r + 1) 3 = nI (tdC s 3) from hH.2.1.1.2.2.2.1.trans (by rw [show tdC (asR x 16 (tdC s 3) (nI len)) 3 = tdC s 3 from congrFun hRd.1 3])]
          refine ht_iconst (v := 1) (D 74 rfl) (by decide) ?_
          refine ht_iadd (D 75 rfl) ?_
          rw [show nI (tdC s 3) + 1 = nI (tdC s 3 + 1) from nI_i1 _]
          refine pf_X5_226 rfl (D 76 rfl) hH.1.1.lw.k0 ?_
          have hH := hH.wC (i := 3) (by decide) (tdC s 3 + 1)
          refine ht_iconst (v := 1) (D 77 rfl) (by decide) ?_
          refine ht_iret (D 78 rfl) rfl rfl ?_
          refine Or.inr ⟨_, _, fun K => (hL K).symm, hle, rfl, ?_, _, _, _, hH⟩
          exact TV_guard hV hRd hc8 (by omega) (by omega)
      · skip
        exact absurd (show (8 : Int32) ≤ nI len from (nI_leI (a := 8) (b := len) (by omega) (by omega)).mpr (by omega)) hb31
    | succ fu ih =>
      intro len hlf x σ p b e k hH hRd hle hL
      have hx0 : tdC x 0 ≤ 8 := by rw [hRd.1]; exact hV.1.1
      refine ht_iload_n (D 16 rfl) rfl rfl ?_
      refine ht_bipush (v := 8) (D 17 rfl) (by decide) ?_
      refine ht_icmp_ge (tgt := 95) (D 18 rfl) (by decide) (fun hb31 => ?_) (fun hb31 => ?_)
      · skip
        exact absurd ((nI_leI (a := 8) (b := len) (by omega) (by omega)).mp hb31) (by omega)
      · skip
        refine ht_iload_n (D 19 rfl) rfl rfl ?_
        refine ht_if_eq (tgt := 48) (D 20 rfl) (by decide) (fun hb35 => ?_) (fun hb35 => ?_)
        · skip
          have hor : len = 0 ∨ nmT T b e k := Or.inl ((nI_eq (a := len) (b := 0) (by omega) (by omega)).mp hb35)
          refine ht_aload_n (D 25 rfl) rfl rfl ?_
          refine kVX5_isCellName (As := []) cl_X5_177 (D 26 rfl) (sk_isCellName hB hH hx0) hH.1.1.rk rfl (Nat.le_of_ble_eq_true rfl) rfl (Nat.le_of_ble_eq_true rfl) (by omega) ?_
          rintro _ σ (⟨hnm, rfl, hft⟩ | ⟨hnm, hno, rfl, hft⟩ | ⟨hnm, ⟨j, hj⟩, rfl, rfl⟩)
          · skip
            have hfa := fun K : TD → Nat → Rl => ((hL K).trans (lnRd_c hH.tk fu hor)).trans (nCell_1 hH.tk hnm)
            refine ht_if_ne (tgt := 57) (D 27 rfl) (by decide) (fun hb52 => absurd (by decide) hb52) (fun hb52 => ?_)
            refine ht_iconst (v := 0) (D 28 rfl) (by decide) ?_
            refine ht_iret (D 29 rfl) rfl rfl ?_
            exact Or.inl ⟨_, fun K => (hfa K).symm, rfl, hft.cg hRd.2.2.1⟩
          · skip
            have hfa := fun K : TD → Nat → Rl => ((hL K).trans (lnRd_c hH.tk fu hor)).trans (nCell_2 hH.tk hnm hno)
            refine ht_if_ne (tgt := 57) (D 27 rfl) (by decide) (fun hb52 => absurd (by decide) hb52) (fun hb52 => ?_)
            refine ht_iconst (v := 0) (D 28 rfl) (by decide) ?_
            refine ht_iret (D 29 rfl) rfl rfl ?_
            exact Or.inl ⟨_, fun K => (hfa K).symm, rfl, hft.cg hRd.2.2.1⟩
          · skip
            have hL := fun K : TD → Nat → Rl => ((hL K).trans (lnRd_c hH.tk fu hor)).trans (nCell_y hH.tk hnm hj)
            refine ht_if_ne (tgt := 57) (D 27 rfl) (by decide) (fun hb52 => ?_) (fun hb52 => absurd hb52 (by decide))
            refine ht_aload_n (D 30 rfl) rfl rfl ?_
            refine gf_X5_12 rfl (D 31 rfl) hH.1.1.rk hH.1.1.q0 ?_
            refine gf_X5_232 rfl (D 32 rfl) hH.1.1.lw.k0 hH.1.1.lw.q9 ?_
            refine ht_iload_n (D 33 rfl) rfl rfl ?_
            refine ht_bipush (v := 8) (D 34 rfl) (by decide) ?_
            refine ht_imul (D 35 rfl) ?_
            refine ht_iload_n (D 36 rfl) rfl rfl ?_
            refine ht_iadd (D 37 rfl) ?_
            refine ht_aload_n (D 38 rfl) rfl rfl ?_
            refine ht_aload_n (D 39 rfl) rfl rfl ?_
            refine gf_X5_30 rfl (D 40 rfl) hH.1.1.rk hH.1.1.q1 ?_
            refine gf_X5_160 rfl (D 41 rfl) hH.1.1.tk ?_
            refine kVX5_cellNamed (As := [_]) cl_X5_183 (D 42 rfl) (sk_cellNamed hH hx0 hnm.1 hj) hH.1.1.rk rfl (Nat.le_of_ble_eq_true rfl) rfl (Nat.le_of_ble_eq_true rfl) (by omega) ?_
            rintro _ σ ⟨rfl, rfl⟩
            refine ht_ist (n := 8 * tdC s 3 + len) (D 43 rfl) hH.1.1.lw.k9 hH.1.1.lw.n9 (nI_g8 _ _) (by omega) (by first | decide | omega) ?_
            have hH := hH.wR (o := 17) (q := 9) rfl (by decide) (8 * tdC s 3 + len) (nI j)
            refine ht_iinc (v := nI (len + 1)) (D 44 rfl) rfl (nI_i1 _) (by decide) rfl ?_
            refine ht_aload_n (D 45 rfl) rfl rfl ?_
            refine gf_X5_30 rfl (D 46 rfl) hH.1.1.rk hH.1.1.q1 ?_
            refine kVX7_next (As := []) cl_X5_42 (D 47 rfl) (sk_next hE hB hH) hH.1.1.tk rfl (Nat.le_of_ble_eq_true rfl) rfl (Nat.le_of_ble_eq_true rfl) (by omega) ?_
            rintro _ σ ⟨rfl, hce⟩
            have hle := Nat.le_trans hle (Nat.le_trans hH.le.1 hH.le.2.1)
            obtain ⟨b, e, k, hH⟩ := hce
            refine ht_goto (tgt := 28) (D 48 rfl) (by decide) ?_
            exact ht_cast (ih (len + 1) (by omega) _ _ _ _ _ _ hH (RdI_s hRd (by have := hj.1; rw [hRd.1] at this; exact this)) hle hL) rfl rfl rfl
        · skip
          have hl0 : ¬ len = 0 := fun q => hb35 (by rw [q]; rfl)
          refine ht_aload_n (D 21 rfl) rfl rfl ?_
          refine gf_X5_30 rfl (D 22 rfl) hH.1.1.rk hH.1.1.q1 ?_
          refine kVX7_isName (As := []) cl_X5_229 (D 23 rfl) (sc_isName hB hH.1) hH.1.1.tk rfl (Nat.le_of_ble_eq_true rfl) rfl (Nat.le_of_ble_eq_true rfl) (by omega) ?_
          rintro _ σ ⟨⟨rfl, hnm⟩ | ⟨rfl, hnm⟩, rfl⟩
          · skip
            have hor : len = 0 ∨ nmT T b e k := Or.inr hnm
            refine ht_if_eq (tgt := 95) (D 24 rfl) (by decide) (fun hb45 => absurd hb45 (by decide)) (fun hb45 => ?_)
            refine ht_aload_n (D 25 rfl) rfl rfl ?_
            refine kVX5_isCellName (As := []) cl_X5_177 (D 26 rfl) (sk_isCellName hB hH hx0) hH.1.1.rk rfl (Nat.le_of_ble_eq_true rfl) rfl (Nat.le_of_ble_eq_true rfl) (by omega) ?_
            rintro _ σ (⟨hnm, rfl, hft⟩ | ⟨hnm, hno, rfl, hft⟩ | ⟨hnm, ⟨j, hj⟩, rfl, rfl⟩)
            · skip
              have hfa := fun K : TD → Nat → Rl => ((hL K).trans (lnRd_c hH.tk fu hor)).trans (nCell_1 hH.tk hnm)
              refine ht_if_ne (tgt := 57) (D 27 rfl) (by decide) (fun hb52 => absurd (by decide) hb52) (fun hb52 => ?_)
              refine ht_iconst (v := 0) (D 28 rfl) (by decide) ?_
              refine ht_iret (D 29 rfl) rfl rfl ?_
              exact Or.inl ⟨_, fun K => (hfa K).symm, rfl, hft.cg hRd.2.2.1⟩
            · skip
              have hfa := fun K : TD → Nat → Rl => ((hL K).trans (lnRd_c hH.tk fu hor)).trans (nCell_2 hH.tk hnm hno)
              refine ht_if_ne (tgt := 57) (D 27 rfl) (by decide) (fun hb52 => absurd (by decide) hb52) (fun hb52 => ?_)
              refine ht_iconst (v := 0) (D 28 rfl) (by decide) ?_
              refine ht_iret (D 29 rfl) rfl rfl ?_
              exact Or.inl ⟨_, fun K => (hfa K).symm, rfl, hft.cg hRd.2.2.1⟩
            · skip
              have hL := fun K : TD → Nat → Rl => ((hL K).trans (lnRd_c hH.tk fu hor)).trans (nCell_y hH.tk hnm hj)
              refine ht_if_ne (tgt := 57) (D 27 rfl) (by decide) (fun hb52 => ?_) (fun hb52 => absurd hb52 (by decide))
              refine ht_aload_n (D 30 rfl) rfl rfl ?_
              refine gf_X5_12 rfl (D 31 rfl) hH.1.1.rk hH.1.1.q0 ?_
              refine gf_X5_232 rfl (D 32 rfl) hH.1.1.lw.k0 hH.1.1.lw.q9 ?_
              refine ht_iload_n (D 33 rfl) rfl rfl ?_
              refine ht_bipush (v := 8) (D 34 rfl) (by decide) ?_
              refine ht_imul (D 35 rfl) ?_
              refine ht_iload_n (D 36 rfl) rfl rfl ?_
              refine ht_iadd (D 37 rfl) ?_
              refine ht_aload_n (D 38 rfl) rfl rfl ?_
              refine ht_aload_n (D 39 rfl) rfl rfl ?_
              refine gf_X5_30 rfl (D 40 rfl) hH.1.1.rk hH.1.1.q1 ?_
              refine gf_X5_160 rfl (D 41 rfl) hH.1.1.tk ?_
              refine kVX5_cellNamed (As := [_]) cl_X5_183 (D 42 rfl) (sk_cellNamed hH hx0 hnm.1 hj) hH.1.1.rk rfl (Nat.le_of_ble_eq_true rfl) rfl (Nat.le_of_ble_eq_true rfl) (by omega) ?_
              rintro _ σ ⟨rfl, rfl⟩
              refine ht_ist (n := 8 * tdC s 3 + len) (D 43 rfl) hH.1.1.lw.k9 hH.1.1.lw.n9 (nI_g8 _ _) (by omega) (by first | decide | omega) ?_
              have hH := hH.wR (o := 17) (q := 9) rfl (by decide) (8 * tdC s 3 + len) (nI j)
              refine ht_iinc (v := nI (len + 1)) (D 44 rfl) rfl (nI_i1 _) (by decide) rfl ?_
              refine ht_aload_n (D 45 rfl) rfl rfl ?_
              refine gf_X5_30 rfl (D 46 rfl) hH.1.1.rk hH.1.1.q1 ?_
              refine kVX7_next (As := []) cl_X5_42 (D 47 rfl) (sk_next hE hB hH) hH.1.1.tk rfl (Nat.le_of_ble_eq_true rfl) rfl (Nat.le_of_ble_eq_true rfl) (by omega) ?_
              rintro _ σ ⟨rfl, hce⟩
              have hle := Nat.le_trans hle (Nat.le_trans hH.le.1 hH.le.2.1)
              obtain ⟨b, e, k, hH⟩ := hce
              refine ht_goto (tgt := 28) (D 48 rfl) (by decide) ?_
              exact ht_cast (ih (len + 1) (by omega) _ _ _ _ _ _ hH (RdI_s hRd (by have := hj.1; rw [hRd.1] at this; exact this)) hle hL) rfl rfl rfl
          · skip
            have hL := fun K : TD → Nat → Rl => (hL K).trans (lnRd_e hH.tk (fu + 1) hl0 hnm)
            refine ht_if_eq (tgt := 95) (D 24 rfl) (by decide) (fun hb45 => ?_) (fun hb45 => absurd (by decide) hb45)
            refine ht_aload_n (D 49 rfl) rfl rfl ?_
            refine gf_X5_30 rfl (D 50 rfl) hH.1.1.rk hH.1.1.q1 ?_
            refine kVX7_isName (As := []) cl_X5_229 (D 51 rfl) (sc_isName hB hH.1) hH.1.1.tk rfl (Nat.le_of_ble_eq_true rfl) rfl (Nat.le_of_ble_eq_true rfl) (by omega) ?_
            rintro _ σ ⟨⟨rfl, hnm⟩ | ⟨rfl, hnm⟩, rfl⟩
            · skip
              exact absurd hnm (by assumption)
            · skip
              skip
              refine ht_if_eq (tgt := 126) (D 52 rfl) (by decide) (fun hb102 => ?_) (fun hb102 => absurd (by decide) hb102)
              refine ht_aload_n (D 64 rfl) rfl rfl ?_
              refine gf_X5_12 rfl (D 65 rfl) hH.1.1.rk hH.1.1.q0 ?_
              refine gf_X5_235 rfl (D 66 rfl) hH.1.1.lw.k0 hH.1.1.lw.q10 ?_
              refine ht_iload_n (D 67 rfl) rfl rfl ?_
              refine ht_iload_n (D 68 rfl) rfl rfl ?_
              skip
              refine ht_ist (n := tdC s 3) (D 69 rfl) hH.1.1.lw.k10 hH.1.1.lw.n10 (by first | rfl | exact nI_add _ _ | assumption) (by omega) (by first | decide | omega) ?_
              have hH := hH.wR (o := 16) (q := 10) rfl (by decide) (tdC s 3) (nI len)
              refine ht_aload_n (D 70 rfl) rfl rfl ?_
              refine gf_X5_12 rfl (D 71 rfl) hH.1.1.rk hH.1.1.q0 ?_
              refine ht_dup (D 72 rfl) rfl ?_
              refine gf_X5_226 rfl (D 73 rfl) hH.1.1.lw.k0 ?_
              rw [show zI _ (r + 1) 3 = nI (tdC s 3) from hH.2.1.1.2.2.2.1.trans (by rw [show tdC (asR x 16 (tdC s 3) (nI len)) 3 = tdC s 3 from congrFun hRd.1 3])]
              refine ht_iconst (v := 1) (D 74 rfl) (by decide) ?_
              refine ht_iadd (D 75 rfl) ?_
              rw [show nI (tdC s 3) + 1 = nI (tdC s 3 + 1) from nI_i1 _]
              refine pf_X5_226 rfl (D 76 rfl) hH.1.1.lw.k0 ?_
              have hH := hH.wC (i := 3) (by decide) (tdC s 3 + 1)
              refine ht_iconst (v := 1) (D 77 rfl) (by decide) ?_
              refine ht_iret (D 78 rfl) rfl rfl ?_
              refine Or.inr ⟨_, _, fun K => (hL K).symm, hle, rfl, ?_, _, _, _, hH⟩
              exact TV_guard hV hRd hc8 (by omega) (by omega)
  show HT G mX5_readGuard 0 [some (.ref r), none, none] [] σ 7 _
  refine ht_aload_n (D 0 rfl) rfl rfl ?_
  refine gf_X5_12 rfl (D 1 rfl) hH.1.1.rk hH.1.1.q0 ?_
  refine gf_X5_226 rfl (D 2 rfl) hH.1.1.lw.k0 ?_
  rw [hH.2.1.1.2.2.2.1]
  refine ht_istore_n (D 3 rfl) rfl (by decide) rfl ?_
  refine ht_iload_n (D 4 rfl) rfl rfl ?_
  refine ht_iconst (v := 2) (D 5 rfl) (by decide) ?_
  refine ht_icmp_lt (tgt := 19) (D 6 rfl) (by decide) (fun hb10 => ?_) (fun hb10 => ?_)
  · skip
    have hc8 : tdC s 3 < 2 := (nI_ltI (a := tdC s 3) (b := 2) (by omega) (by omega)).mp hb10
    have hL := fun K : TD → Nat → Rl => (show lnGuard T n s b e K = _ from ifc_y hc8)
    refine ht_aload_n (D 11 rfl) rfl rfl ?_
    refine gf_X5_30 rfl (D 12 rfl) hH.1.1.rk hH.1.1.q1 ?_
    refine kVX7_next (As := []) cl_X5_42 (D 13 rfl) (sk_next hE hB hH) hH.1.1.tk rfl (Nat.le_of_ble_eq_true rfl) rfl (Nat.le_of_ble_eq_true rfl) (by omega) ?_
    rintro _ σ ⟨rfl, hce⟩
    have hle := Nat.le_refl e
    obtain ⟨b, e, k, hH⟩ := hce
    refine ht_iconst (v := 0) (D 14 rfl) (by decide) ?_
    refine ht_istore_n (D 15 rfl) rfl (by decide) rfl ?_
    exact ht_cast (loop hc8 8 0 (by omega) _ _ _ _ _ _ hH (RdI_0 s _) hle hL) rfl rfl rfl
  · skip
    have hc8 : ¬ tdC s 3 < 2 := fun q => hb10 ((nI_ltI (a := tdC s 3) (b := 2) (by omega) (by omega)).mpr q)
    have hfa := fun K : TD → Nat → Rl => (show lnGuard T n s b e K = _ from ifc_n hc8)
    refine ht_aload_n (D 7 rfl) rfl rfl ?_
    refine ht_iconst (v := 5) (D 8 rfl) (by decide) ?_
    refine kVX5_wrong (As := [_]) cl_X5_109 (D 9 rfl) (sk_wrong hH 5 (by decide)) hH.1.1.rk rfl (Nat.le_of_ble_eq_true rfl) rfl (Nat.le_of_ble_eq_true rfl) (by omega) ?_
    rintro _ σ ⟨rfl, hft⟩
    refine ht_iret (D 10 rfl) rfl rfl ?_
    exact Or.inl ⟨_, fun K => (hfa K).symm, rfl, hft⟩
end R6
