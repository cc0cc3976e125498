/-! ===== the class: readFormula ===== -/
section R8
variable {G : GG} {σ σ0 σ1 σ2 : Hp} {ad : Nat → Nat} {aA aS aV r sA n p b e k S1 : Nat} {T : ST} {s : TD}
def okN (n : Nat) (f : Int32) : Prop := ∃ (a : Int32) (c : Nat), okA a ∧ c ≤ n ∧ f = a + 16 * nI c
def N0m (n : Nat) (d p : Nat) (r : Rs) : Prop := ∀ f, r = .inr f → okN n f
def NLm (n : Nat) (l d p : Nat) (r : Rs) : Prop := ∀ f, r = .inr f → okN n f
def NOm (n : Nat) (l d : Nat) (u : Bool) (p : Nat) (E0 : EX) (r : Rs) : Prop := ∀ f, r = .inr f → okN n f
theorem okN_a {n p b e k : Nat} {T : ST} (hT : TK T n p b e k) {a : Int32} (ha : okA a) : okN n (a + 16 * nI b) := ⟨a, b, ha, by have := TK_le hT; omega, rfl⟩
theorem ClR_n (T : ST) (n : Nat) (ice : Bool) : ClR T n ice (N0m n) (NLm n) (NOm n) := by
  refine ⟨?_, ?_, ?_, ?_, ?_, ?_, ?_, ?_, ?_, ?_, ?_, ?_, ?_⟩
  · intro d p b e k hT hns f hr
    cases hr
    exact okN_a hT (by decide)
  · intro d p b e k hT hns h5 f hr
    cases hr
    exact okN_a hT (by decide)
  · intro d p b e k E hT hlf hd5 f hr
    cases hr
  · intro d p b e k r hT hW hd5 ih f hr
    cases r with
    | inr f2 => exact ih f (by rw [show f2 = f from Sum.inr.inj hr])
    | inl x => cases hr
  · intro d p b e k f hT hW hd5 ih f2 hr
    cases hr
    exact ih f rfl
  · intro d p b e k q E b2 e2 k2 hT hW hd5 ih hT2 hS2 f hr
    cases hr
  · intro d p b e k q E b2 e2 k2 hT hW hd5 ih hT2 hS2 f hr
    cases hr
    exact okN_a hT2 (by decide)
  · exact fun d p r ih => ih
  · intro l d p f hl ih f2 hr
    cases hr
    exact ih f rfl
  · intro l d p q E r hl ih1 ih2
    exact ih2
  · intro l d u p E b e k hl hT hst f hr
    cases hr
  · intro l d u p E b e k op f hl hT hop hu ih f2 hr
    cases hr
    exact ih f rfl
  · intro l d u p E b e k op q E2 r hl hT hop hu ih1 ih2
    exact ih2
theorem RLv_f {ice : Bool} {l d : Nat} {f : Int32} (h : RLv T n ice l d p (.inr f)) (hn : n ≤ 1000) : okF f := by
  obtain ⟨a, c, h1, h2, h3⟩ := h _ _ _ (ClR_n T n ice) f rfl
  exact ⟨a, c, h1, by omega, h3⟩
set_option maxRecDepth 100000 in
theorem sk_readFW (hE : NE G) (hB : BK G ad aA aS aV) (hJ : ∀ i j, i < 22 → j < 22 → ad i = ad j → i = j) (hH : CS ad T n σ0 S1 s p b e k r sA σ) (hV : TV T n s) (hsA : sA < r) (he : 0 < e) (hr22 : r + 22 ≤ gC G) (hS1 : S1 + 2068 ≤ gS G) : Sp G mX5_readFormula 42 [.ref r, .int 1] σ (QL ad T n σ0 S1 s e r sA (fun K res => lnF T n s false b e K res)) := by
  have D := dat dl_X5_readFormula
  show HT G mX5_readFormula 0 [some (.ref r), some (.int 1), none] [] σ 42 _
  cases hEt : tdF s false with
  | some E =>
    obtain ⟨f, hfq, _⟩ := (hH.2.1.2.2.2.2.1 false).2 E hEt
    refine ht_iload_n (D 0 rfl) rfl rfl ?_
    refine ht_if_eq (tgt := 14) (D 1 rfl) (by decide) (fun hb1 => absurd hb1 (by decide)) (fun hb1 => ?_)
    refine ht_aload_n (D 2 rfl) rfl rfl ?_
    refine gf_X5_12 rfl (D 3 rfl) hH.1.1.rk hH.1.1.q0 ?_
    refine gf_X5_116 rfl (D 4 rfl) hH.1.1.lw.k0 hfq ?_
    refine ht_goto (tgt := 21) (D 5 rfl) (by decide) ?_
    refine ht_ifnull (D 9 rfl) ?_
    refine ht_aload_n (D 10 rfl) rfl rfl ?_
    refine ht_iconst (v := 3) (D 11 rfl) (by decide) ?_
    refine kVX5_wrong (As := [_]) cl_X5_109 (D 12 rfl) (sk_wrong hH 3 (by decide)) hH.1.1.rk rfl (Nat.le_of_ble_eq_true rfl) rfl (Nat.le_of_ble_eq_true rfl) (by omega) ?_
    rintro _ σ ⟨rfl, hft⟩
    refine ht_iret (D 13 rfl) rfl rfl ?_
    exact Or.inl ⟨_, fun K => Or.inl ⟨fun q => (by rw [hEt] at q; cases q), rfl⟩, rfl, hft⟩
  | none =>
    have hfq := (hH.2.1.2.2.2.2.1 false).1 hEt
    have hno := hEt
    refine ht_iload_n (D 0 rfl) rfl rfl ?_
    refine ht_if_eq (tgt := 14) (D 1 rfl) (by decide) (fun hb1 => absurd hb1 (by decide)) (fun hb1 => ?_)
    refine ht_aload_n (D 2 rfl) rfl rfl ?_
    refine gf_X5_12 rfl (D 3 rfl) hH.1.1.rk hH.1.1.q0 ?_
    refine gn_X5_116 rfl (D 4 rfl) hH.1.1.lw.k0 hfq ?_
    refine ht_goto (tgt := 21) (D 5 rfl) (by decide) ?_
    refine ht_ifnullN (tgt := 30) (D 9 rfl) (by decide) ?_
    refine ht_aload_n (D 14 rfl) rfl rfl ?_
    refine ht_iload_n (D 15 rfl) rfl rfl ?_
    refine ht_if_eq (tgt := 39) (D 16 rfl) (by decide) (fun hb32 => absurd hb32 (by decide)) (fun hb32 => ?_)
    refine ht_iconst (v := 0) (D 17 rfl) (by decide) ?_
    refine ht_goto (tgt := 40) (D 18 rfl) (by decide) ?_
    refine pf_X5_123 rfl (D 20 rfl) hH.1.1.rk ?_
    refine ht_aload_n (D 21 rfl) rfl rfl ?_
    refine ht_iload_n (D 22 rfl) rfl rfl ?_
    refine ht_if_eq (tgt := 52) (D 23 rfl) (by decide) (fun hb45 => absurd hb45 (by decide)) (fun hb45 => ?_)
    refine ht_iconst (v := 2) (D 24 rfl) (by decide) ?_
    refine ht_goto (tgt := 54) (D 25 rfl) (by decide) ?_
    refine pf_X5_126 rfl (D 27 rfl) hH.1.1.rk ?_
    refine ht_aload_n (D 28 rfl) rfl rfl ?_
    refine ht_iconst (v := 0) (D 29 rfl) (by decide) ?_
    refine pf_X5_129 rfl (D 30 rfl) hH.1.1.rk ?_
    have hH := ((hH.rI (j := 6) (by decide) 0).rI (j := 7) (by decide) 2).rI (j := 5) (by decide) 0
    refine ht_aload_n (D 31 rfl) rfl rfl ?_
    refine gf_X5_30 rfl (D 32 rfl) hH.1.1.rk hH.1.1.q1 ?_
    refine kVX7_next (As := []) cl_X5_42 (D 33 rfl) (sc_nxL hE hB hH.1) hH.1.1.tk rfl (Nat.le_of_ble_eq_true rfl) rfl (Nat.le_of_ble_eq_true rfl) (by omega) ?_
    rintro _ σ3 ⟨rfl, hnx⟩
    have hr3 : zI σ3 r = zI (wI (wI (wI σ r 6 0) r 7 2) r 5 0) r := (hnx.1.2.2.2.2.1 r (by omega)).1
    have hle0 : e ≤ e := Nat.le_refl e
    obtain ⟨b2, e2, k2, hH⟩ := hH.nx hnx
    have hCH : CH ad T n false e b2 e2 k2 0 r sA σ3 := ⟨hH.1.1, hH.1.2.1, hH.1.2.2.1, by rw [hr3]; exact zI_s _ _ _ _, Nat.zero_le _, by rw [hr3]; exact (zI_k _ _ (by decide)).trans ((zI_k _ _ (by decide)).trans (zI_s _ _ _ _)), by rw [hr3]; exact (zI_k _ _ (by decide)).trans (zI_s _ _ _ _), hH.1.2.2.2⟩
    refine ht_aload_n (D 34 rfl) rfl rfl ?_
    refine ht_iconst (v := 0) (D 35 rfl) (by decide) ?_
    refine ht_iconst (v := 0) (D 36 rfl) (by decide) ?_
    refine kVX5_readLevel (As := [_, _]) cl_X5_132 (D 37 rfl) (sc_readE hE hB hJ hCH) hH.1.1.rk rfl (Nat.le_of_ble_eq_true rfl) rfl (Nat.le_of_ble_eq_true rfl) (by omega) ?_
    rintro _ σ ⟨rs, hR, hQF, ⟨f, rfl, rfl, hf⟩ | ⟨q1, E1, b3, e3, k3, rfl, rfl, hC4, hcd, hz4⟩⟩
    · skip
      have hft : FT σ0 S1 s r f σ := ⟨hf, hH.2.2.lf (LF_q hQF), RLv_f hR hH.n0, by rw [hQF.1.1]; exact hH.1.1.rk⟩
      refine ht_if_ne (tgt := 80) (D 38 rfl) (by decide) (fun hb75 => absurd (by decide) hb75) (fun hb75 => ?_)
      refine ht_iconst (v := 0) (D 39 rfl) (by decide) ?_
      refine ht_iret (D 40 rfl) rfl rfl ?_
      exact Or.inl ⟨f, fun K => Or.inr ⟨hno, .inr f, hR, Or.inl ⟨f, rfl, rfl⟩⟩, rfl, hft⟩
    · skip
      have hH : CS ad T n σ0 S1 s q1 b3 e3 k3 r sA σ := ⟨hC4.cl, hH.2.1.lf (LF_q hQF), hH.2.2.lf (LF_q hQF)⟩
      have hlen := hR _ _ _ (ClR_l T n false) q1 E1 rfl
      have hn0 := hH.n0
      have hle4 := hH.le
      have hnf := (nFs_F (s := s) false E1 hno).2
      have hX := hH.2.2.2.1
      have hSs := hH.2.2.2.2
      have hcl : E1.2.1.length < n := by omega
      have hsL := hH.sq
      have hk0 : zK (nw σ 1 0 2) r = 5 := (nw_K σ 1 0 2 (by omega)).1.trans hH.1.1.rk
      have hk15 : zK (nw σ 1 0 2) (r + 15) = 20 := (nw_K σ 1 0 2 (by omega)).1.trans hH.1.1.sk
      have hn15 : zN (nw σ 1 0 2) (r + 15) = n := (nw_K σ 1 0 2 (by omega)).2.1.trans hH.1.1.sn
      have hq4 : zQ (nw σ 1 0 2) r 4 = some (r + 15) := by
        show va_up (zQ σ) (zX σ) (fun _ => none) r 4 = _
        rw [vaU _ _ (by omega)]; exact hH.1.1.q4
      have h5 : zI (nw σ 1 0 2) r 5 = nI E1.2.1.length := by
        rw [(nw_K σ 1 0 2 (by omega)).2.2]; exact hC4.2.2.2.1.trans (by rw [Nat.zero_add])
      have hX2 : zX (nw σ 1 0 2) = zX σ + 1 := rfl
      have hS2 : zS (nw σ 1 0 2) = zS σ + 2 := rfl
      have lo0 := fmT_lo σ r E1.2.1.length 5 (a := r) (by omega)
      have lo1 := fmT_lo σ r E1.2.1.length 5 (a := r + 1) (by omega)
      have gk0 : zK (fmH (nw σ 1 0 2) (zX σ) (r + 15) E1.2.1.length) r = 5 := lo0.1.trans hH.1.1.rk
      have gk1 : zK (fmH (nw σ 1 0 2) (zX σ) (r + 15) E1.2.1.length) (r + 1) = 2 := lo1.1.trans hH.1.1.lk
      have gq0 : zQ (fmH (nw σ 1 0 2) (zX σ) (r + 15) E1.2.1.length) r 0 = some (r + 1) := by
        have h9 : zQ (fmT σ r E1.2.1.length 5) r 0 = zQ (fmH (nw σ 1 0 2) (zX σ) (r + 15) E1.2.1.length) r 0 := up2_a _ _ (by omega)
        rw [← h9, lo0.2.2.2.2.1 (by omega)]; exact hH.1.1.q0
      refine ht_if_ne (tgt := 80) (D 38 rfl) (by decide) (fun hb75 => ?_) (fun hb75 => absurd hb75 (by decide))
      refine ht_new (ci := 1) (by decide) kk_X5_136 ki_X1 kn_X1 (D 41 rfl) (by omega) (show zS σ + 2 ≤ gS G by omega) ?_
      rw [show (cT 1).2.2 = 2 from rfl]
      refine ht_dup (D 42 rfl) rfl ?_
      refine ht_aload_n (D 43 rfl) rfl rfl ?_
      refine gf_X5_38 rfl (D 44 rfl) hk0 hq4 ?_
      refine ht_aload_n (D 45 rfl) rfl rfl ?_
      refine gf_X5_129 rfl (D 46 rfl) hk0 ?_
      rw [h5]
      refine kIX1_init (As := [_, _]) cl_X5_138 (D 47 rfl) (sc_finit (σ := nw σ 1 0 2) (f := zX σ) (a := r + 15) (n := n) (c := E1.2.1.length) (nw_N σ 1 0 2).1 (by omega) (by omega) hk15 hn15 (by omega) (by omega) hcl hn0 (by omega) (by omega) (by omega) (by omega)) rfl (Nat.le_of_ble_eq_true rfl) rfl (Nat.le_of_ble_eq_true rfl) (by omega) ?_
      rintro _ _ ⟨rfl, rfl⟩
      refine ht_astore_n (D 48 rfl) rfl (by decide) rfl ?_
      refine ht_iload_n (D 49 rfl) rfl rfl ?_
      refine ht_if_eq (tgt := 111) (D 50 rfl) (by decide) (fun hb97 => absurd hb97 (by decide)) (fun hb97 => ?_)
      refine ht_aload_n (D 51 rfl) rfl rfl ?_
      refine gf_X5_12 rfl (D 52 rfl) gk0 gq0 ?_
      refine ht_aload_n (D 53 rfl) rfl rfl ?_
      refine pf_X5_116 (some (zX σ)) rfl (D 54 rfl) gk1 ?_
      refine ht_goto (tgt := 119) (D 55 rfl) (by decide) ?_
      refine ht_iconst (v := 1) (D 60 rfl) (by decide) ?_
      refine ht_iret (D 61 rfl) rfl rfl ?_
      exact Or.inr ⟨_, _, fun K => Or.inr ⟨hno, .inl (q1, E1), hR, Or.inr ⟨q1, E1, rfl, rfl⟩⟩, by omega, rfl, TV_F hV hR, _, _, _, hH.fm hsA hno hcd (by omega)⟩
set_option maxRecDepth 100000 in
theorem sk_readFI (hE : NE G) (hB : BK G ad aA aS aV) (hJ : ∀ i j, i < 22 → j < 22 → ad i = ad j → i = j) (hH : CS ad T n σ0 S1 s p b e k r sA σ) (hV : TV T n s) (hsA : sA < r) (he : 0 < e) (hr22 : r + 22 ≤ gC G) (hS1 : S1 + 2068 ≤ gS G) : Sp G mX5_readFormula 42 [.ref r, .int 0] σ (QL ad T n σ0 S1 s e r sA (fun K res => lnF T n s true b e K res)) := by
  have D := dat dl_X5_readFormula
  show HT G mX5_readFormula 0 [some (.ref r), some (.int 0), none] [] σ 42 _
  cases hEt : tdF s true with
  | some E =>
    obtain ⟨f, hfq, _⟩ := (hH.2.1.2.2.2.2.1 true).2 E hEt
    refine ht_iload_n (D 0 rfl) rfl rfl ?_
    refine ht_if_eq (tgt := 14) (D 1 rfl) (by decide) (fun hb1 => ?_) (fun hb1 => absurd (by decide) hb1)
    refine ht_aload_n (D 6 rfl) rfl rfl ?_
    refine gf_X5_12 rfl (D 7 rfl) hH.1.1.rk hH.1.1.q0 ?_
    refine gf_X5_120 rfl (D 8 rfl) hH.1.1.lw.k0 hfq ?_
    refine ht_ifnull (D 9 rfl) ?_
    refine ht_aload_n (D 10 rfl) rfl rfl ?_
    refine ht_iconst (v := 3) (D 11 rfl) (by decide) ?_
    refine kVX5_wrong (As := [_]) cl_X5_109 (D 12 rfl) (sk_wrong hH 3 (by decide)) hH.1.1.rk rfl (Nat.le_of_ble_eq_true rfl) rfl (Nat.le_of_ble_eq_true rfl) (by omega) ?_
    rintro _ σ ⟨rfl, hft⟩
    refine ht_iret (D 13 rfl) rfl rfl ?_
    exact Or.inl ⟨_, fun K => Or.inl ⟨fun q => (by rw [hEt] at q; cases q), rfl⟩, rfl, hft⟩
  | none =>
    have hfq := (hH.2.1.2.2.2.2.1 true).1 hEt
    have hno := hEt
    refine ht_iload_n (D 0 rfl) rfl rfl ?_
    refine ht_if_eq (tgt := 14) (D 1 rfl) (by decide) (fun hb1 => ?_) (fun hb1 => absurd (by decide) hb1)
    refine ht_aload_n (D 6 rfl) rfl rfl ?_
    refine gf_X5_12 rfl (D 7 rfl) hH.1.1.rk hH.1.1.q0 ?_
    refine gn_X5_120 rfl (D 8 rfl) hH.1.1.lw.k0 hfq ?_
    refine ht_ifnullN (tgt := 30) (D 9 rfl) (by decide) ?_
    refine ht_aload_n (D 14 rfl) rfl rfl ?_
    refine ht_iload_n (D 15 rfl) rfl rfl ?_
    refine ht_if_eq (tgt := 39) (D 16 rfl) (by decide) (fun hb32 => ?_) (fun hb32 => absurd (by decide) hb32)
    refine ht_iconst (v := 3) (D 19 rfl) (by decide) ?_
    refine pf_X5_123 rfl (D 20 rfl) hH.1.1.rk ?_
    refine ht_aload_n (D 21 rfl) rfl rfl ?_
    refine ht_iload_n (D 22 rfl) rfl rfl ?_
    refine ht_if_eq (tgt := 52) (D 23 rfl) (by decide) (fun hb45 => ?_) (fun hb45 => absurd (by decide) hb45)
    refine ht_bipush (v := 8) (D 26 rfl) (by decide) ?_
    refine pf_X5_126 rfl (D 27 rfl) hH.1.1.rk ?_
    refine ht_aload_n (D 28 rfl) rfl rfl ?_
    refine ht_iconst (v := 0) (D 29 rfl) (by decide) ?_
    refine pf_X5_129 rfl (D 30 rfl) hH.1.1.rk ?_
    have hH := ((hH.rI (j := 6) (by decide) 3).rI (j := 7) (by decide) 8).rI (j := 5) (by decide) 0
    refine ht_aload_n (D 31 rfl) rfl rfl ?_
    refine gf_X5_30 rfl (D 32 rfl) hH.1.1.rk hH.1.1.q1 ?_
    refine kVX7_next (As := []) cl_X5_42 (D 33 rfl) (sc_nxL hE hB hH.1) hH.1.1.tk rfl (Nat.le_of_ble_eq_true rfl) rfl (Nat.le_of_ble_eq_true rfl) (by omega) ?_
    rintro _ σ3 ⟨rfl, hnx⟩
    have hr3 : zI σ3 r = zI (wI (wI (wI σ r 6 3) r 7 8) r 5 0) r := (hnx.1.2.2.2.2.1 r (by omega)).1
    have hle0 : e ≤ e := Nat.le_refl e
    obtain ⟨b2, e2, k2, hH⟩ := hH.nx hnx
    have hCH : CH ad T n true e b2 e2 k2 0 r sA σ3 := ⟨hH.1.1, hH.1.2.1, hH.1.2.2.1, by rw [hr3]; exact zI_s _ _ _ _, Nat.zero_le _, by rw [hr3]; exact (zI_k _ _ (by decide)).trans ((zI_k _ _ (by decide)).trans (zI_s _ _ _ _)), by rw [hr3]; exact (zI_k _ _ (by decide)).trans (zI_s _ _ _ _), hH.1.2.2.2⟩
    refine ht_aload_n (D 34 rfl) rfl rfl ?_
    refine ht_iconst (v := 0) (D 35 rfl) (by decide) ?_
    refine ht_iconst (v := 0) (D 36 rfl) (by decide) ?_
    refine kVX5_readLevel (As := [_, _]) cl_X5_132 (D 37 rfl) (sc_readE hE hB hJ hCH) hH.1.1.rk rfl (Nat.le_of_ble_eq_true rfl) rfl (Nat.le_of_ble_eq_true rfl) (by omega) ?_
    rintro _ σ ⟨rs, hR, hQF, ⟨f, rfl, rfl, hf⟩ | ⟨q1, E1, b3, e3, k3, rfl, rfl, hC4, hcd, hz4⟩⟩
    · skip
      have hft : FT σ0 S1 s r f σ := ⟨hf, hH.2.2.lf (LF_q hQF), RLv_f hR hH.n0, by rw [hQF.1.1]; exact hH.1.1.rk⟩
      refine ht_if_ne (tgt := 80) (D 38 rfl) (by decide) (fun hb75 => absurd (by decide) hb75) (fun hb75 => ?_)
      refine ht_iconst (v := 0) (D 39 rfl) (by decide) ?_
      refine ht_iret (D 40 rfl) rfl rfl ?_
      exact Or.inl ⟨f, fun K => Or.inr ⟨hno, .inr f, hR, Or.inl ⟨f, rfl, rfl⟩⟩, rfl, hft⟩
    · skip
      have hH : CS ad T n σ0 S1 s q1 b3 e3 k3 r sA σ := ⟨hC4.cl, hH.2.1.lf (LF_q hQF), hH.2.2.lf (LF_q hQF)⟩
      have hlen := hR _ _ _ (ClR_l T n true) q1 E1 rfl
      have hn0 := hH.n0
      have hle4 := hH.le
      have hnf := (nFs_F (s := s) true E1 hno).2
      have hX := hH.2.2.2.1
      have hSs := hH.2.2.2.2
      have hcl : E1.2.1.length < n := by omega
      have hsL := hH.sq
      have hk0 : zK (nw σ 1 0 2) r = 5 := (nw_K σ 1 0 2 (by omega)).1.trans hH.1.1.rk
      have hk15 : zK (nw σ 1 0 2) (r + 15) = 20 := (nw_K σ 1 0 2 (by omega)).1.trans hH.1.1.sk
      have hn15 : zN (nw σ 1 0 2) (r + 15) = n := (nw_K σ 1 0 2 (by omega)).2.1.trans hH.1.1.sn
      have hq4 : zQ (nw σ 1 0 2) r 4 = some (r + 15) := by
        show va_up (zQ σ) (zX σ) (fun _ => none) r 4 = _
        rw [vaU _ _ (by omega)]; exact hH.1.1.q4
      have h5 : zI (nw σ 1 0 2) r 5 = nI E1.2.1.length := by
        rw [(nw_K σ 1 0 2 (by omega)).2.2]; exact hC4.2.2.2.1.trans (by rw [Nat.zero_add])
      have hX2 : zX (nw σ 1 0 2) = zX σ + 1 := rfl
      have hS2 : zS (nw σ 1 0 2) = zS σ + 2 := rfl
      have lo0 := fmT_lo σ r E1.2.1.length 6 (a := r) (by omega)
      have lo1 := fmT_lo σ r E1.2.1.length 6 (a := r + 1) (by omega)
      have gk0 : zK (fmH (nw σ 1 0 2) (zX σ) (r + 15) E1.2.1.length) r = 5 := lo0.1.trans hH.1.1.rk
      have gk1 : zK (fmH (nw σ 1 0 2) (zX σ) (r + 15) E1.2.1.length) (r + 1) = 2 := lo1.1.trans hH.1.1.lk
      have gq0 : zQ (fmH (nw σ 1 0 2) (zX σ) (r + 15) E1.2.1.length) r 0 = some (r + 1) := by
        have h9 : zQ (fmT σ r E1.2.1.length 6) r 0 = zQ (fmH (nw σ 1 0 2) (zX σ) (r + 15) E1.2.1.length) r 0 := up2_a _ _ (by omega)
        rw [← h9, lo0.2.2.2.2.1 (by omega)]; exact hH.1.1.q0
      refine ht_if_ne (tgt := 80) (D 38 rfl) (by decide) (fun hb75 => ?_) (fun hb75 => absurd hb75 (by decide))
      refine ht_new (ci := 1) (by decide) kk_X5_136 ki_X1 kn_X1 (D 41 rfl) (by omega) (show zS σ + 2 ≤ gS G by omega) ?_
      rw [show (cT 1).2.2 = 2 from rfl]
      refine ht_dup (D 42 rfl) rfl ?_
      refine ht_aload_n (D 43 rfl) rfl rfl ?_
      refine gf_X5_38 rfl (D 44 rfl) hk0 hq4 ?_
      refine ht_aload_n (D 45 rfl) rfl rfl ?_
      refine gf_X5_129 rfl (D 46 rfl) hk0 ?_
      rw [h5]
      refine kIX1_init (As := [_, _]) cl_X5_138 (D 47 rfl) (sc_finit (σ := nw σ 1 0 2) (f := zX σ) (a := r + 15) (n := n) (c := E1.2.1.length) (nw_N σ 1 0 2).1 (by omega) (by omega) hk15 hn15 (by omega) (by omega) hcl hn0 (by omega) (by omega) (by omega) (by omega)) rfl (Nat.le_of_ble_eq_true rfl) rfl (Nat.le_of_ble_eq_true rfl) (by omega) ?_
      rintro _ _ ⟨rfl, rfl⟩
      refine ht_astore_n (D 48 rfl) rfl (by decide) rfl ?_
      refine ht_iload_n (D 49 rfl) rfl rfl ?_
      refine ht_if_eq (tgt := 111) (D 50 rfl) (by decide) (fun hb97 => ?_) (fun hb97 => absurd (by decide) hb97)
      refine ht_aload_n (D 56 rfl) rfl rfl ?_
      refine gf_X5_12 rfl (D 57 rfl) gk0 gq0 ?_
      refine ht_aload_n (D 58 rfl) rfl rfl ?_
      refine pf_X5_120 (some (zX σ)) rfl (D 59 rfl) gk1 ?_
      refine ht_iconst (v := 1) (D 60 rfl) (by decide) ?_
      refine ht_iret (D 61 rfl) rfl rfl ?_
      exact Or.inr ⟨_, _, fun K => Or.inr ⟨hno, .inl (q1, E1), hR, Or.inr ⟨q1, E1, rfl, rfl⟩⟩, by omega, rfl, TV_F hV hR, _, _, _, hH.fm hsA hno hcd (by omega)⟩
end R8
