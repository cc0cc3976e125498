/-! ===== both read a formula ===== -/
section Q4
variable {G : GG} {σ : Hp} {ad : Nat → Nat} {aA aS aV r sA n p b e k c d : Nat} {T : ST} {ice : Bool}
set_option maxRecDepth 100000 in
theorem sc_readLevel4 (hP : ∀ (σ : Hp) (p b e k c : Nat), CH ad T n ice p b e k c r sA σ → Sp G mX5_readPart (6 + 6 * (5 - d)) [.ref r, .int (nI d)] σ (QPr (RPt T n ice d p) ad T n ice c r sA σ)) (hH : CH ad T n ice p b e k c r sA σ) : Sp G mX5_readLevel (6 + 6 * (5 - d) + (1 + (4 - 4))) [.ref r, .int (nI 4), .int (nI d)] σ (QPr (RLv T n ice 4 d p) ad T n ice c r sA σ) := by
  have D := dat dl_X5_readLevel
  show HT G mX5_readLevel 0 [some (.ref r), some (.int (nI 4)), some (.int (nI d)), none, none, none] [] σ (6 + 6 * (5 - d) + (1 + (4 - 4))) _
  refine ht_iload_n (D 0 rfl) rfl rfl ?_
  refine ht_iconst (v := 4) (D 1 rfl) (by decide) ?_
  refine ht_icmp_lt (tgt := 11) (D 2 rfl) (by decide) (fun hb2 => ?_) (fun hb2 => ?_)
  · skip
    exact absurd hb2 (by decide)
  · skip
    refine ht_aload_n (D 3 rfl) rfl rfl ?_
    refine ht_iload_n (D 4 rfl) rfl rfl ?_
    refine kVX5_readPart (As := [_]) cl_X5_242 (D 5 rfl) (hP σ p b e k c hH) hH.1.rk rfl (Nat.le_of_ble_eq_true rfl) rfl (Nat.le_of_ble_eq_true rfl) (by omega) ?_
    rintro _ σ3 ⟨rs, hR, hQF, ⟨f, rfl, rfl, hf⟩ | ⟨q1, E1, b3, e3, k3, rfl, rfl, hrest⟩⟩
    · skip
      refine ht_iret (D 6 rfl) rfl rfl ?_
      exact ⟨.inr f, (ClR_self T n ice).2.2.2.2.2.2.2.1 d p _ hR, hQF, Or.inl ⟨f, rfl, rfl, hf⟩⟩
    · skip
      refine ht_iret (D 6 rfl) rfl rfl ?_
      exact ⟨.inl (q1, E1), (ClR_self T n ice).2.2.2.2.2.2.2.1 d p _ hR, hQF, Or.inr ⟨q1, E1, b3, e3, k3, rfl, rfl, hrest⟩⟩
theorem sc_readAny (hE : NE G) (hB : BK G ad aA aS aV) (hJ : ∀ i j, i < 22 → j < 22 → ad i = ad j → i = j) : ∀ m d, 5 - d = m → d ≤ 5 → (∀ (σ : Hp) (p b e k c : Nat), CH ad T n ice p b e k c r sA σ → Sp G mX5_readPart (6 + 6 * (5 - d)) [.ref r, .int (nI d)] σ (QPr (RPt T n ice d p) ad T n ice c r sA σ)) ∧ ∀ l, l ≤ 4 → ∀ (σ : Hp) (p b e k c : Nat), CH ad T n ice p b e k c r sA σ → Sp G mX5_readLevel (6 + 6 * (5 - d) + (1 + (4 - l))) [.ref r, .int (nI l), .int (nI d)] σ (QPr (RLv T n ice l d p) ad T n ice c r sA σ) := by
  intro m
  induction m with
  | zero =>
    intro d hm hd
    have hP : ∀ (σ : Hp) (p b e k c : Nat), CH ad T n ice p b e k c r sA σ → Sp G mX5_readPart (6 + 6 * (5 - d)) [.ref r, .int (nI d)] σ (QPr (RPt T n ice d p) ad T n ice c r sA σ) := fun σ p b e k c hH => sc_readPart hE hB hJ hd (fun q => absurd q (by omega)) (fun q => absurd q (by omega)) hH
    refine ⟨hP, ?_⟩
    have key : ∀ j l, l ≤ 4 → 4 - l = j → ∀ (σ : Hp) (p b e k c : Nat), CH ad T n ice p b e k c r sA σ → Sp G mX5_readLevel (6 + 6 * (5 - d) + (1 + (4 - l))) [.ref r, .int (nI l), .int (nI d)] σ (QPr (RLv T n ice l d p) ad T n ice c r sA σ) := by
      intro j
      induction j with
      | zero =>
        intro l hl hj σ p b e k c hH
        have h4 : l = 4 := by omega
        subst h4
        exact sc_readLevel4 hP hH
      | succ j ihj =>
        intro l hl hj σ p b e k c hH
        exact sc_readLevel hE hB hJ hd (by omega) (fun _ => ihj (l + 1) (by omega) (by omega)) hH
    exact fun l hl => key (4 - l) l hl rfl
  | succ m ihm =>
    intro d hm hd
    have hih := ihm (d + 1) (by omega) (by omega)
    have hP : ∀ (σ : Hp) (p b e k c : Nat), CH ad T n ice p b e k c r sA σ → Sp G mX5_readPart (6 + 6 * (5 - d)) [.ref r, .int (nI d)] σ (QPr (RPt T n ice d p) ad T n ice c r sA σ) := fun σ p b e k c hH => sc_readPart hE hB hJ hd (fun _ => hih.1) (fun _ => hih.2 0 (by omega)) hH
    refine ⟨hP, ?_⟩
    have key : ∀ j l, l ≤ 4 → 4 - l = j → ∀ (σ : Hp) (p b e k c : Nat), CH ad T n ice p b e k c r sA σ → Sp G mX5_readLevel (6 + 6 * (5 - d) + (1 + (4 - l))) [.ref r, .int (nI l), .int (nI d)] σ (QPr (RLv T n ice l d p) ad T n ice c r sA σ) := by
      intro j
      induction j with
      | zero =>
        intro l hl hj σ p b e k c hH
        have h4 : l = 4 := by omega
        subst h4
        exact sc_readLevel4 hP hH
      | succ j ihj =>
        intro l hl hj σ p b e k c hH
        exact sc_readLevel hE hB hJ hd (by omega) (fun _ => ihj (l + 1) (by omega) (by omega)) hH
    exact fun l hl => key (4 - l) l hl rfl
/-- the class reads a formula -/
theorem sc_readE (hE : NE G) (hB : BK G ad aA aS aV) (hJ : ∀ i j, i < 22 → j < 22 → ad i = ad j → i = j) (hH : CH ad T n ice p b e k c r sA σ) : Sp G mX5_readLevel 41 [.ref r, .int 0, .int 0] σ (QPr (RLv T n ice 0 0 p) ad T n ice c r sA σ) := (sc_readAny hE hB hJ 5 0 rfl (by omega)).2 0 (by omega) σ p b e k c hH
end Q4
section Q5
variable {G : GG} {σ : Hp} {m : Nat} {V : VT} {U : UT} {T : ST} {n p b e k c : Nat} {ice : Bool}
/-- the reference reads a formula and the sign behind it -/
def QRd (σ : Hp) (m : Nat) (V : VT) (U : UT) (T : ST) (n : Nat) (ice : Bool) (c : Nat) (rs : Rs) : Option Value → Hp → Prop := fun rv σ' => ∃ (V2 : VT) (U2 : UT), σ' = sv σ m V2 U2 ∧ FQ c V V2 ∧ NU U U2 ∧ ((∃ f, (rs = .inr f ∨ ∃ q E b2 e2 k2, rs = .inl (q, E) ∧ TK T n q b2 e2 k2 ∧ ¬ isS T b2 k2 59 ∧ f = 1 + 16 * nI b2) ∧ rv = some (.int 0) ∧ V2 0 9 = f) ∨ (∃ q E b2 e2 k2 b3 e3 k3, rs = .inl (q, E) ∧ TK T n q b2 e2 k2 ∧ isS T b2 k2 59 ∧ rv = some (.int 1) ∧ HD T n ice e2 b3 e3 k3 (c + E.1.length) V2 U2 ∧ CDs (V2 20) c E.1))
set_option maxRecDepth 100000 in
set_option maxHeartbeats 1000000 in
theorem sm_reads (hM : MS σ m) (hH : HD T n ice p b e k c V U) {rs : Rs} (hR : RLv T n ice 0 0 p rs) : Sp G mX10_reads 2 [.ref m] (sv σ m V U) (QRd σ m V U T n ice c rs) := by
  have D := dat dl_X10_reads
  have hH0 : HD T n ice p b e k c (up2 V 22 0 0) U := by
    obtain ⟨⟨a1, a2, a3, a4, a5, a6⟩, b1, b2, b3, b4, b5, b6⟩ := hH
    exact ⟨⟨a1, (up2_a _ _ (by decide)).trans a2, (up2_a _ _ (by decide)).trans a3, (up2_a _ _ (by decide)).trans a4, a5, fun q => (up2_a _ _ (by decide)).trans (a6 q)⟩, (up2_o _ _ (by decide)).trans b1, (up2_a _ _ (by decide)).trans b2, (up2_a _ _ (by decide)).trans b3, (up2_a _ _ (by decide)).trans b4, b5, b6⟩
  have hF0 : FQ c V (up2 V 22 0 0) := FQ_2 (FQ_r c V) (Or.inr rfl) 0 0
  show HT G mX10_reads 0 [some (.ref m), none, none, none, none, none] [] (sv σ m V U) 2 _
  refine ht_iconst (v := 0) (D 0 rfl) (by decide) ?_
  refine ht_istore_n (D 1 rfl) rfl (by decide) rfl ?_
  refine ht_iconst (v := 1) (D 2 rfl) (by decide) ?_
  refine ht_istore_n (D 3 rfl) rfl (by decide) rfl ?_
  refine ht_aload_n (D 4 rfl) rfl rfl ?_
  refine gf_X10_74 rfl (D 5 rfl) hM.k0 hM.q22 ?_
  refine ht_iconst (v := 0) (D 6 rfl) (by decide) ?_
  refine ht_iconst (v := 0) (D 7 rfl) (by decide) ?_
  refine hm_zst (o := 22) (n := 0) (by decide) (D 8 rfl) hM.k22 hM.n22 (by first | rfl | exact nI_add _ _ | assumption) (by omega) (by decide) rfl ?_
  refine ht_cast (hR _ _ _ (ClR_m hM) (up2 V 22 0 0) U b e k c none none none _ hH0 (by omega) rfl (fun _ => up2_s _ _ _ _) (fun f hf V2 U2 f1 f2 f3 => ⟨V2, U2, rfl, FQ_t hF0 f1 (Nat.le_refl _), f2, Or.inl ⟨f, Or.inl hf, rfl, f3⟩⟩) (fun q E hr V2 U2 b2 e2 k2 l3 l4 l5 g1 g2 g3 g4 g5 g6 g7 g8 => ?_)) rfl rfl rfl
  refine rd_stop hM g1 (by omega) g8 (fun _ q => absurd q (by omega)) (fun _ h59 V3 U3 b3 e3 k3 x1 x2 x3 x4 => ⟨V3, U3, rfl, FQ_t (FQ_t hF0 g2 (Nat.le_refl _)) x2 (by omega), NU_t g3 x3, Or.inr ⟨q, E, b2, e2, k2, b3, e3, k3, hr, g1.1.1, h59, rfl, x1, by rw [x4]; exact g4⟩⟩) (fun _ h59 => ⟨_, U2, rfl, FQ_t (FQ_t hF0 g2 (Nat.le_refl _)) (FQ_f c V2 _) (Nat.le_refl _), g3, Or.inl ⟨_, Or.inr ⟨q, E, b2, e2, k2, hr, g1.1.1, fun z => h59 ⟨rfl, z⟩, rfl⟩, rfl, up2_s _ _ _ _⟩⟩)
end Q5
