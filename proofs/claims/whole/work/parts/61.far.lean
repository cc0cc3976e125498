/-! ===== how far it is: the class measures as the reference does ===== -/
section Far
variable {V : VT} {cN dN mN gk : Nat} {W : WT}
abbrev w1 : Nat → Nat := fun _ => 1
def fE (W : WT) (n c : Nat) : Int32 := match W c with
  | none => 0
  | some x => if x ≤ n then nI x else 0
theorem opt_pos (hO : Opt V cN dN w1 W) {c x : Nat} (hc : c < cN) (hx : W c = some x) : 1 ≤ x := by
  obtain ⟨d, -, -, y, -, e⟩ := hO.2 c hc x hx
  have : x = 1 + y := e
  omega
/-- in the round n + 1: what is not yet as it will be is 0 and will be n + 1 -/
def fI (W : WT) (cN n : Nat) (F : ST) : Prop := ∀ c, c < cN → F c = fE W n c ∨ (W c = some (n + 1) ∧ F c = nI (n + 1))
theorem fI_lo (hO : Opt V cN dN w1 W) {n : Nat} (hn : n ≤ 8) {F : ST} (h : fI W cN n F) {c : Nat} (hc : c < cN) {m : Nat} (hm : 1 ≤ m) (hmn : m ≤ n) (hF : F c = nI m) : W c = some m := by
  rcases h c hc with e | ⟨e1, e2⟩
  · rw [hF] at e
    unfold fE at e
    cases hw : W c with
    | none => rw [hw] at e; exact absurd e (nI_ne0 (by omega) (by omega))
    | some x =>
      rw [hw] at e
      by_cases hx : x ≤ n
      · have e3 : nI m = nI x := by rw [e]; exact if_pos hx
        rw [(nI_eq (by omega) (by omega)).mp e3]
      · have e3 : nI m = 0 := by rw [e]; exact if_neg hx
        exact absurd e3 (nI_ne0 (by omega) (by omega))
  · rw [hF] at e2
    have := (nI_eq (show m < 2 ^ 31 by omega) (show n + 1 < 2 ^ 31 by omega)).mp e2
    omega
theorem fI_hi {n : Nat} (hn : n ≤ 8) {F : ST} (h : fI W cN n F) {c : Nat} (hc : c < cN) {m : Nat} (hmn : m ≤ n) (hw : W c = some m) : F c = nI m := by
  rcases h c hc with e | ⟨e1, e2⟩
  · rw [e]
    unfold fE
    rw [hw]
    exact if_pos hmn
  · rw [hw] at e1
    have : m = n + 1 := Option.some.inj e1
    omega
theorem fI_up {n : Nat} {F : ST} (h : fI W cN n F) {c : Nat} (hw : W c = some (n + 1)) : fI W cN n (va_up F c (nI (n + 1))) := by
  intro e he
  by_cases q : e = c
  · rw [q, va_sm]; exact Or.inr ⟨hw, rfl⟩
  · rw [va_ne _ _ q]; exact h e he
/-- one side of a door between cells -/
theorem wye_I (hO : Opt V cN dN w1 W) {n : Nat} (hn : n < 8) {F : ST} (h : fI W cN n F) {d p q : Nat} (hd : d < dN) (hp : p < cN) (hq : q < cN) (hl : ld V d (nI p) = nI q) (hc8 : cN ≤ 8) : fI W cN n (wye (n + 1) p q F) ∧ (∀ c, F c = nI (n + 1) → W c = some (n + 1) → c < cN → wye (n + 1) p q F c = nI (n + 1)) ∧ (1 ≤ n → W p = some (n + 1) → W q = some n → wye (n + 1) p q F p = nI (n + 1)) := by
  unfold wye
  by_cases c : F p = 0 ∧ F q = nI (n + 1 - 1) ∧ 1 < n + 1
  · rw [if_pos c]
    obtain ⟨c1, c2, c3⟩ := c
    rw [Nat.add_sub_cancel] at c2
    have wq := fI_lo hO (by omega) h hq (show 1 ≤ n by omega) (Nat.le_refl n) c2
    obtain ⟨x, x1, x2⟩ := hO.1 p hp d hd (by rw [hl]; exact pl_ne hc8 (Or.inr ⟨q, hq, rfl⟩)) n (by rw [hl, wo_c _ (by omega)]; exact wq)
    have x3 : x ≤ 1 + n := x2
    have x4 := opt_pos hO hp x1
    have hxe : x = n + 1 := by
      by_cases hxn : x ≤ n
      · have := fI_hi (by omega) h hp hxn x1
        rw [c1] at this
        exact absurd this.symm (nI_ne0 (by omega) (by omega))
      · omega
    rw [hxe] at x1
    refine ⟨fI_up h x1, fun e he _ _ => ?_, fun _ _ _ => va_sm _ _ _⟩
    by_cases r : e = p
    · rw [r, va_sm]
    · rw [va_ne _ _ r]; exact he
  · rw [if_neg c]
    refine ⟨h, fun e he _ _ => he, fun n1 wp wq => ?_⟩
    have f2 := fI_hi (by omega) h hq (Nat.le_refl n) wq
    rcases h p hp with e | ⟨e1, e2⟩
    · exfalso
      apply c
      refine ⟨?_, by rw [Nat.add_sub_cancel]; exact f2, by omega⟩
      rw [e]
      unfold fE
      rw [wp]
      exact if_neg (by omega)
    · exact e2
theorem wyd_I (hP : PL V cN dN mN gk) (hne : ∀ j, j < dN → ¬ V 10 j = V 11 j) (hO : Opt V cN dN w1 W) {n : Nat} (hn : n < 8) {F : ST} (h : fI W cN n F) {d : Nat} (hd : d < dN) : fI W cN n (wyd V (n + 1) F d) ∧ (∀ c, F c = nI (n + 1) → W c = some (n + 1) → c < cN → wyd V (n + 1) F d c = nI (n + 1)) ∧ ∀ c, c < cN → W c = some (n + 1) → ¬ ld V d (nI c) = -2 → wo W (ld V d (nI c)) = some n → wyd V (n + 1) F d c = nI (n + 1) := by
  have h8 := hP.1.2
  obtain ⟨p, p1, p2⟩ := hP.2.2.2.2.2.1 d hd
  unfold wyd
  rcases hP.2.2.2.2.2.2 d hd with e | ⟨q, q1, q2⟩
  · rw [if_pos (by rw [e]; decide), p2, nI_clamp (by omega)]
    have hlp : ld V d (nI p) = -1 := by rw [← p2, ld_10 (Or.inr trivial)]; exact e
    by_cases c : n + 1 = 1
    · rw [if_pos c]
      have n0 : n = 0 := by omega
      subst n0
      obtain ⟨x, x1, x2⟩ := hO.1 p p1 d hd (by rw [hlp]; decide) 0 (by rw [hlp, wo_o])
      have x3 : x ≤ 1 + 0 := x2
      have x4 := opt_pos hO p1 x1
      have hx : x = 0 + 1 := by omega
      rw [hx] at x1
      refine ⟨fI_up h x1, fun c hc _ _ => ?_, fun c hc wc hl wl => ?_⟩
      · by_cases r : c = p
        · rw [r]; exact va_sm _ _ _
        · exact (va_ne _ _ r).trans hc
      · have hcp : c = p := by
          rcases ld_or hl with ⟨r1, r2⟩ | ⟨r0, r1, r2⟩
          · rw [p2] at r1; exact ((nI_eq (by omega) (by omega)).mp r1).symm
          · rw [e] at r1; exact absurd r1.symm (nI_ge0 (by omega))
        rw [hcp]; exact va_sm _ _ _
    · rw [if_neg c]
      refine ⟨h, fun c hc _ _ => hc, fun c hc wc hl wl => ?_⟩
      exfalso
      rcases ld_or hl with ⟨r1, r2⟩ | ⟨r0, r1, r2⟩
      · rw [r2, e, wo_o] at wl
        have : 0 = n := Option.some.inj wl
        omega
      · rw [e] at r1; exact absurd r1.symm (nI_ge0 (by omega))
  · rw [if_neg (by rw [q2]; exact nI_pos (by omega)), p2, q2, nI_clamp (by omega), nI_clamp (by omega)]
    have hlp : ld V d (nI p) = nI q := by rw [← p2, ld_10 (Or.inr trivial)]; exact q2
    have hlq : ld V d (nI q) = nI p := by rw [← q2, ld_11 (hne d hd)]; exact p2
    obtain ⟨a1, a2, a3⟩ := wye_I hO hn h hd p1 q1 hlp h8
    obtain ⟨b1, b2, b3⟩ := wye_I hO hn a1 hd q1 p1 hlq h8
    refine ⟨b1, fun c hc wc hc2 => b2 c (a2 c hc wc hc2) wc hc2, fun c hc wc hl wl => ?_⟩
    rcases ld_or hl with ⟨r1, r2⟩ | ⟨r0, r1, r2⟩
    · rw [p2] at r1
      have hcp : p = c := (nI_eq (by omega) (by omega)).mp r1
      subst hcp
      rw [hlp, wo_c _ (by omega)] at wl
      have n1 := opt_pos hO q1 wl
      exact b2 p (a3 n1 wc wl) wc hc
    · rw [q2] at r1
      have hcp : q = c := (nI_eq (by omega) (by omega)).mp r1
      subst hcp
      rw [hlq, wo_c _ (by omega)] at wl
      have n1 := opt_pos hO p1 wl
      exact b3 n1 wc wl
theorem wyD_I (hP : PL V cN dN mN gk) (hne : ∀ j, j < dN → ¬ V 10 j = V 11 j) (hO : Opt V cN dN w1 W) {n : Nat} (hn : n < 8) {F : ST} (h : fI W cN n F) : ∀ k, k ≤ dN → fI W cN n (wyD V (n + 1) F k) ∧ ∀ d, d < k → ∀ c, c < cN → W c = some (n + 1) → ¬ ld V d (nI c) = -2 → wo W (ld V d (nI c)) = some n → wyD V (n + 1) F k c = nI (n + 1) := by
  intro k
  induction k with
  | zero => intro _; exact ⟨h, fun d hd => absurd hd (by omega)⟩
  | succ k ih =>
    intro hk
    obtain ⟨i1, i2⟩ := ih (by omega)
    obtain ⟨a1, a2, a3⟩ := wyd_I hP hne hO hn i1 (show k < dN by omega)
    refine ⟨a1, fun d hd c hc wc hl wl => ?_⟩
    show wyd V (n + 1) (wyD V (n + 1) F k) k c = nI (n + 1)
    by_cases e : d = k
    · rw [e] at hl wl; exact a3 c hc wc hl wl
    · exact a2 c (i2 d (by omega) c hc wc hl wl) wc hc
theorem wyN_e (hP : PL V cN dN mN gk) (hne : ∀ j, j < dN → ¬ V 10 j = V 11 j) (hO : Opt V cN dN w1 W) (F : ST) : ∀ n, n ≤ 8 → ∀ c, c < cN → wyN V dN F n c = fE W n c := by
  have h8 := hP.1.2
  intro n
  induction n with
  | zero =>
    intro _ c hc
    show (if c < 8 then 0 else F c) = fE W 0 c
    rw [if_pos (by omega)]
    unfold fE
    cases hw : W c with
    | none => rfl
    | some x =>
      have := opt_pos hO hc hw
      exact (if_neg (by omega)).symm
  | succ n ih =>
    intro hn c hc
    have i0 : fI W cN n (wyN V dN F n) := fun e he => Or.inl (ih (by omega) e he)
    obtain ⟨a1, a2⟩ := wyD_I hP hne hO (show n < 8 by omega) i0 dN (Nat.le_refl _)
    show wyD V (n + 1) (wyN V dN F n) dN c = fE W (n + 1) c
    cases hw : W c with
    | none =>
      rcases a1 c hc with e | ⟨e, -⟩
      · rw [e]; unfold fE; rw [hw]
      · rw [hw] at e; cases e
    | some x =>
      by_cases hx : x ≤ n
      · rw [fI_hi (by omega) a1 hc hx hw]
        unfold fE
        rw [hw]
        exact (if_pos (by omega)).symm
      · by_cases hx2 : x = n + 1
        · subst hx2
          obtain ⟨d, d1, d2, y, y1, y2⟩ := hO.2 c hc _ hw
          have y3 : n + 1 = 1 + y := y2
          rw [a2 d d1 c hc hw d2 (by rw [y1]; congr 1; omega)]
          unfold fE
          rw [hw]
          exact (if_pos (Nat.le_refl _)).symm
        · rcases a1 c hc with e | ⟨e, -⟩
          · rw [e]
            unfold fE
            rw [hw]
            show (if x ≤ n then nI x else 0) = if x ≤ n + 1 then nI x else 0
            rw [if_neg hx, if_neg (by omega)]
          · rw [hw] at e
            exact absurd (Option.some.inj e) hx2
theorem wt_1 (ds : List Nat) : wt w1 ds = ds.length := by
  induction ds with
  | nil => rfl
  | cons d ds ih =>
    show 1 + wt w1 ds = ds.length + 1
    omega
theorem rdN_b8 (hP : PL V cN dN mN gk) (hne : ∀ j, j < dN → ¬ V 10 j = V 11 j) {c x : Nat} (hc : c < cN) (hx : rdN V w1 dN (fun _ => none) cN c = some x) : x ≤ cN := by
  have h8 := hP.1.2
  obtain ⟨⟨ds, d1, d2⟩, -⟩ := rdN_sd hP hne w1 cN c hc x hx
  obtain ⟨ds2, s1, s2, s3⟩ := wk_short (V := V) (cN := cN) (dN := dN) h8 w1 cN (fun _ => false) (cn_all (fun _ _ => rfl)) ds c d1 hc
  obtain ⟨z, z1, z2⟩ := complete hP w1 (fun _ => none) cN ds2 (nI c) s2 s1
  rw [wo_c _ (by omega), hx] at z2
  have : x = z := Option.some.inj z2
  rw [wt_1] at z1
  omega
/-- the reference's measure, told by the least weights -/
theorem far_e (hP : PL V cN dN mN gk) (hne : ∀ j, j < dN → ¬ V 10 j = V 11 j) (F : ST) {c : Nat} (hc : c < cN) : (rdN V w1 dN (fun _ => none) cN c = none ∧ wyN V dN F 8 c = 0) ∨ ∃ x, 1 ≤ x ∧ x ≤ 8 ∧ rdN V w1 dN (fun _ => none) cN c = some x ∧ wyN V dN F 8 c = nI x := by
  have h8 := hP.1.2
  have hO := rdN_opt hP hne w1
  have e := wyN_e hP hne hO F 8 (Nat.le_refl _) c hc
  cases hw : rdN V w1 dN (fun _ => none) cN c with
  | none =>
    left
    refine ⟨rfl, ?_⟩
    rw [e]
    unfold fE
    rw [hw]
  | some x =>
    right
    have b := rdN_b8 hP hne hc hw
    refine ⟨x, opt_pos hO hc hw, by omega, rfl, ?_⟩
    rw [e]
    unfold fE
    rw [hw]
    exact if_pos (by omega)
theorem far_1 (hP : PL V cN dN mN gk) (hne : ∀ j, j < dN → ¬ V 10 j = V 11 j) (F : ST) {j : Nat} (hj : j < dN) (hb : V 11 j = -1) : wyN V dN F 8 (V 10 j).toNatClampNeg = 1 := by
  have h8 := hP.1.2
  obtain ⟨p, p1, p2⟩ := hP.2.2.2.2.2.1 j hj
  have hO := rdN_opt hP hne w1
  have hlp : ld V j (nI p) = -1 := by rw [← p2, ld_10 (Or.inr trivial)]; exact hb
  obtain ⟨x, x1, x2⟩ := hO.1 p p1 j hj (by rw [hlp]; decide) 0 (by rw [hlp, wo_o])
  have x3 : x ≤ 1 + 0 := x2
  have x4 := opt_pos hO p1 x1
  rw [p2, nI_clamp (by omega)]
  rcases far_e hP hne F p1 with ⟨e, -⟩ | ⟨z, -, -, e1, e2⟩
  · rw [x1] at e; cases e
  · rw [x1] at e1
    have : x = z := Option.some.inj e1
    rw [e2, ← this, show x = 1 by omega]
    rfl
end Far
section C19
variable {G : GG} {σ : Hp} {Z : VT} {b : Nat} {V : VT} {cN dN mN gk : Nat}
theorem fC_w {W : WT} {B : Nat} (hR : WR (Z (b + 2)) W B) (h8 : cN ≤ 8) {p : Int32} (hp : Pl cN p) : fC Z b p = enc (wo W p) := by
  unfold fC
  rcases hp with rfl | ⟨n, n1, rfl⟩
  · rw [if_pos rfl, wo_o]; rfl
  · rw [if_neg (nI_ge0 (by omega)), nI_clamp (by omega), wo_c _ (by omega)]
    exact (hR n (by omega)).1
set_option maxRecDepth 100000 in
theorem sc_measureDoor (hB : LwS σ b) (h8 : cN ≤ 8) {W : WT} {B : Nat} (hR : WR (Z (b + 2)) W B) (hB30 : B < 2 ^ 30) {p q : Int32} (hp : Pl cN p) (hq : Pl cN q) : Sp G mX2_measureDoor 1 [.ref b, .int p, .int q] (cv σ Z) (fun rv σ' => rv = none ∧ ∃ Z2 : VT, σ' = cv σ Z2 ∧ Do (b + 2) Z Z2 ∧ WR (Z2 (b + 2)) (rl 1 p q W) (B + 2001)) := by
  have D := dat dl_X2_measureDoor
  show HT G mX2_measureDoor 0 [some (.ref b), some (.int p), some (.int q)] [] (cv σ Z) 1 _
  refine ht_iload_n (D 0 rfl) rfl rfl ?_
  refine ht_iconst (v := -1) (D 1 rfl) (by decide) ?_
  refine ht_icmp_eq (tgt := 14) (D 2 rfl) (by decide) (fun hb2 => ?_) (fun hb2 => ?_)
  · skip
    refine ht_vret (D 8 rfl) rfl ?_
    first
    | exact ⟨rfl, Z, rfl, Do.rf _ _, WR_rl hR h8 hB30 (w := 1) (by omega) hp hq (by rw [if_pos (Or.inl hb2)])⟩
    | exact ⟨rfl, Z, rfl, Do.rf _ _, WR_rl hR h8 hB30 (w := 1) (by omega) hp hq (by rw [if_pos (Or.inr hb11)])⟩
    | (refine ⟨rfl, _, rfl, (Do.rf _ _).up _ _, WR_rl hR h8 hB30 (w := 1) (by omega) hp hq ?_⟩
       rw [if_neg (show ¬ (nI n = -1 ∨ enc (wo W q) = -1) from fun c => c.elim hb2 hb11), up2_row, hcl, if_pos (Or.inl hb22), Int32.add_comm]
       rfl)
    | (have hlt : nI 1 + enc (wo W q) < Z (b + 2) n := by rw [Int32.add_comm]; exact Int32.not_le.mp hb38
       refine ⟨rfl, _, rfl, (Do.rf _ _).up _ _, WR_rl hR h8 hB30 (w := 1) (by omega) hp hq ?_⟩
       rw [if_neg (show ¬ (nI n = -1 ∨ enc (wo W q) = -1) from fun c => c.elim hb2 hb11), up2_row, hcl, if_pos (Or.inr hlt), Int32.add_comm]
       rfl)
    | (have hn9 : ¬ (Z (b + 2) n = -1 ∨ nI 1 + enc (wo W q) < Z (b + 2) n) := fun c => c.elim hb22 (fun z => absurd (show enc (wo W q) + 1 < Z (b + 2) n by rw [Int32.add_comm]; exact z) (Int32.not_lt.mpr hb38))
       refine ⟨rfl, Z, rfl, Do.rf _ _, WR_rl hR h8 hB30 (w := 1) (by omega) hp hq ?_⟩
       rw [if_neg (show ¬ (nI n = -1 ∨ enc (wo W q) = -1) from fun c => c.elim hb2 hb11), hcl, if_neg hn9])
  · skip
    obtain ⟨n, n1, rfl⟩ : ∃ n, n < cN ∧ p = nI n := hp.resolve_left hb2
    have hcl : (nI n).toNatClampNeg = n := nI_clamp (by omega)
    refine ht_aload_n (D 3 rfl) rfl rfl ?_
    refine ht_iload_n (D 4 rfl) rfl rfl ?_
    refine kVX2_farOf (As := [_]) cl_X2_65 (D 5 rfl) (sc_farOf hB (p := q) (hq.imp id (fun ⟨c, c1, c2⟩ => ⟨c, by omega, c2⟩))) hB.k0 rfl (Nat.le_of_ble_eq_true rfl) rfl (Nat.le_of_ble_eq_true rfl) (by omega) ?_
    rintro _ _ ⟨rfl, rfl⟩
    rw [fC_w hR h8 hq]
    refine ht_iconst (v := -1) (D 6 rfl) (by decide) ?_
    refine ht_icmp_ne (tgt := 15) (D 7 rfl) (by decide) (fun hb11 => ?_) (fun hb11 => ?_)
    · skip
      refine ht_aload_n (D 9 rfl) rfl rfl ?_
      refine gf_X2_15 rfl (D 10 rfl) hB.k0 hB.q2 ?_
      refine ht_iload_n (D 11 rfl) rfl rfl ?_
      refine hi_ild (n := n) (D 12 rfl) hB.k2 hB.n2 rfl (by omega) (by first | decide | omega) ?_
      refine ht_iconst (v := -1) (D 13 rfl) (by decide) ?_
      refine ht_icmp_eq (tgt := 41) (D 14 rfl) (by decide) (fun hb22 => ?_) (fun hb22 => ?_)
      · skip
        refine ht_aload_n (D 25 rfl) rfl rfl ?_
        refine gf_X2_15 rfl (D 26 rfl) hB.k0 hB.q2 ?_
        refine ht_iload_n (D 27 rfl) rfl rfl ?_
        refine ht_aload_n (D 28 rfl) rfl rfl ?_
        refine ht_iload_n (D 29 rfl) rfl rfl ?_
        refine kVX2_farOf (As := [_]) cl_X2_65 (D 30 rfl) (sc_farOf hB (p := q) (hq.imp id (fun ⟨c, c1, c2⟩ => ⟨c, by omega, c2⟩))) hB.k0 rfl (Nat.le_of_ble_eq_true rfl) rfl (Nat.le_of_ble_eq_true rfl) (by omega) ?_
        rintro _ _ ⟨rfl, rfl⟩
        rw [fC_w hR h8 hq]
        refine ht_iconst (v := 1) (D 31 rfl) (by decide) ?_
        refine ht_iadd (D 32 rfl) ?_
        refine hi_ist (n := n) (D 33 rfl) hB.k2 hB.n2 rfl (by omega) (by first | decide | omega) ?_
        refine ht_vret (D 34 rfl) rfl ?_
        first
        | exact ⟨rfl, Z, rfl, Do.rf _ _, WR_rl hR h8 hB30 (w := 1) (by omega) hp hq (by rw [if_pos (Or.inl hb2)])⟩
        | exact ⟨rfl, Z, rfl, Do.rf _ _, WR_rl hR h8 hB30 (w := 1) (by omega) hp hq (by rw [if_pos (Or.inr hb11)])⟩
        | (refine ⟨rfl, _, rfl, (Do.rf _ _).up _ _, WR_rl hR h8 hB30 (w := 1) (by omega) hp hq ?_⟩
           rw [if_neg (show ¬ (nI n = -1 ∨ enc (wo W q) = -1) from fun c => c.elim hb2 hb11), up2_row, hcl, if_pos (Or.inl hb22), Int32.add_comm]
           rfl)
        | (have hlt : nI 1 + enc (wo W q) < Z (b + 2) n := by rw [Int32.add_comm]; exact Int32.not_le.mp hb38
           refine ⟨rfl, _, rfl, (Do.rf _ _).up _ _, WR_rl hR h8 hB30 (w := 1) (by omega) hp hq ?_⟩
           rw [if_neg (show ¬ (nI n = -1 ∨ enc (wo W q) = -1) from fun c => c.elim hb2 hb11), up2_row, hcl, if_pos (Or.inr hlt), Int32.add_comm]
           rfl)
        | (have hn9 : ¬ (Z (b + 2) n = -1 ∨ nI 1 + enc (wo W q) < Z (b + 2) n) := fun c => c.elim hb22 (fun z => absurd (show enc (wo W q) + 1 < Z (b + 2) n by rw [Int32.add_comm]; exact z) (Int32.not_lt.mpr hb38))
           refine ⟨rfl, Z, rfl, Do.rf _ _, WR_rl hR h8 hB30 (w := 1) (by omega) hp hq ?_⟩
           rw [if_neg (show ¬ (nI n = -1 ∨ enc (wo W q) = -1) from fun c => c.elim hb2 hb11), hcl, if_neg hn9])
      · skip
        refine ht_aload_n (D 15 rfl) rfl rfl ?_
        refine ht_iload_n (D 16 rfl) rfl rfl ?_
        refine kVX2_farOf (As := [_]) cl_X2_65 (D 17 rfl) (sc_farOf hB (p := q) (hq.imp id (fun ⟨c, c1, c2⟩ => ⟨c, by omega, c2⟩))) hB.k0 rfl (Nat.le_of_ble_eq_true rfl) rfl (Nat.le_of_ble_eq_true rfl) (by omega) ?_
        rintro _ _ ⟨rfl, rfl⟩
        rw [fC_w hR h8 hq]
        refine ht_iconst (v := 1) (D 18 rfl) (by decide) ?_
        refine ht_iadd (D 19 rfl) ?_
        refine ht_aload_n (D 20 rfl) rfl rfl ?_
        refine gf_X2_15 rfl (D 21 rfl) hB.k0 hB.q2 ?_
        refine ht_iload_n (D 22 rfl) rfl rfl ?_
        refine hi_ild (n := n) (D 23 rfl) hB.k2 hB.n2 rfl (by omega) (by first | decide | omega) ?_
        refine ht_icmp_ge (tgt := 54) (D 24 rfl) (by decide) (fun hb38 => ?_) (fun hb38 => ?_)
        · skip
          refine ht_vret (D 34 rfl) rfl ?_
          first
          | exact ⟨rfl, Z, rfl, Do.rf _ _, WR_rl hR h8 hB30 (w := 1) (by omega) hp hq (by rw [if_pos (Or.inl hb2)])⟩
          | exact ⟨rfl, Z, rfl, Do.rf _ _, WR_rl hR h8 hB30 (w := 1) (by omega) hp hq (by rw [if_pos (Or.inr hb11)])⟩
          | (refine ⟨rfl, _, rfl, (Do.rf _ _).up _ _, WR_rl hR h8 hB30 (w := 1) (by omega) hp hq ?_⟩
             rw [if_neg (show ¬ (nI n = -1 ∨ enc (wo W q) = -1) from fun c => c.elim hb2 hb11), up2_row, hcl, if_pos (Or.inl hb22), Int32.add_comm]
             rfl)
          | (have hlt : nI 1 + enc (wo W q) < Z (b + 2) n := by rw [Int32.add_comm]; exact Int32.not_le.mp hb38
             refine ⟨rfl, _, rfl, (Do.rf _ _).up _ _, WR_rl hR h8 hB30 (w := 1) (by omega) hp hq ?_⟩
             rw [if_neg (show ¬ (nI n = -1 ∨ enc (wo W q) = -1) from fun c => c.elim hb2 hb11), up2_row, hcl, if_pos (Or.inr hlt), Int32.add_comm]
             rfl)
          | (have hn9 : ¬ (Z (b + 2) n = -1 ∨ nI 1 + enc (wo W q) < Z (b + 2) n) := fun c => c.elim hb22 (fun z => absurd (show enc (wo W q) + 1 < Z (b + 2) n by rw [Int32.add_comm]; exact z) (Int32.not_lt.mpr hb38))
             refine ⟨rfl, Z, rfl, Do.rf _ _, WR_rl hR h8 hB30 (w := 1) (by omega) hp hq ?_⟩
             rw [if_neg (show ¬ (nI n = -1 ∨ enc (wo W q) = -1) from fun c => c.elim hb2 hb11), hcl, if_neg hn9])
        · skip
          refine ht_aload_n (D 25 rfl) rfl rfl ?_
          refine gf_X2_15 rfl (D 26 rfl) hB.k0 hB.q2 ?_
          refine ht_iload_n (D 27 rfl) rfl rfl ?_
          refine ht_aload_n (D 28 rfl) rfl rfl ?_
          refine ht_iload_n (D 29 rfl) rfl rfl ?_
          refine kVX2_farOf (As := [_]) cl_X2_65 (D 30 rfl) (sc_farOf hB (p := q) (hq.imp id (fun ⟨c, c1, c2⟩ => ⟨c, by omega, c2⟩))) hB.k0 rfl (Nat.le_of_ble_eq_true rfl) rfl (Nat.le_of_ble_eq_true rfl) (by omega) ?_
          rintro _ _ ⟨rfl, rfl⟩
          rw [fC_w hR h8 hq]
          refine ht_iconst (v := 1) (D 31 rfl) (by decide) ?_
          refine ht_iadd (D 32 rfl) ?_
          refine hi_ist (n := n) (D 33 rfl) hB.k2 hB.n2 rfl (by omega) (by first | decide | omega) ?_
          refine ht_vret (D 34 rfl) rfl ?_
          first
          | exact ⟨rfl, Z, rfl, Do.rf _ _, WR_rl hR h8 hB30 (w := 1) (by omega) hp hq (by rw [if_pos (Or.inl hb2)])⟩
          | exact ⟨rfl, Z, rfl, Do.rf _ _, WR_rl hR h8 hB30 (w := 1) (by omega) hp hq (by rw [if_pos (Or.inr hb11)])⟩
          | (refine ⟨rfl, _, rfl, (Do.rf _ _).up _ _, WR_rl hR h8 hB30 (w := 1) (by omega) hp hq ?_⟩
             rw [if_neg (show ¬ (nI n = -1 ∨ enc (wo W q) = -1) from fun c => c.elim hb2 hb11), up2_row, hcl, if_pos (Or.inl hb22), Int32.add_comm]
             rfl)
          | (have hlt : nI 1 + enc (wo W q) < Z (b + 2) n := by rw [Int32.add_comm]; exact Int32.not_le.mp hb38
             refine ⟨rfl, _, rfl, (Do.rf _ _).up _ _, WR_rl hR h8 hB30 (w := 1) (by omega) hp hq ?_⟩
             rw [if_neg (show ¬ (nI n = -1 ∨ enc (wo W q) = -1) from fun c => c.elim hb2 hb11), up2_row, hcl, if_pos (Or.inr hlt), Int32.add_comm]
             rfl)
          | (have hn9 : ¬ (Z (b + 2) n = -1 ∨ nI 1 + enc (wo W q) < Z (b + 2) n) := fun c => c.elim hb22 (fun z => absurd (show enc (wo W q) + 1 < Z (b + 2) n by rw [Int32.add_comm]; exact z) (Int32.not_lt.mpr hb38))
             refine ⟨rfl, Z, rfl, Do.rf _ _, WR_rl hR h8 hB30 (w := 1) (by omega) hp hq ?_⟩
             rw [if_neg (show ¬ (nI n = -1 ∨ enc (wo W q) = -1) from fun c => c.elim hb2 hb11), hcl, if_neg hn9])
    · skip
      refine ht_vret (D 8 rfl) rfl ?_
      first
      | exact ⟨rfl, Z, rfl, Do.rf _ _, WR_rl hR h8 hB30 (w := 1) (by omega) hp hq (by rw [if_pos (Or.inl hb2)])⟩
      | exact ⟨rfl, Z, rfl, Do.rf _ _, WR_rl hR h8 hB30 (w := 1) (by omega) hp hq (by rw [if_pos (Or.inr hb11)])⟩
      | (refine ⟨rfl, _, rfl, (Do.rf _ _).up _ _, WR_rl hR h8 hB30 (w := 1) (by omega) hp hq ?_⟩
         rw [if_neg (show ¬ (nI n = -1 ∨ enc (wo W q) = -1) from fun c => c.elim hb2 hb11), up2_row, hcl, if_pos (Or.inl hb22), Int32.add_comm]
         rfl)
      | (have hlt : nI 1 + enc (wo W q) < Z (b + 2) n := by rw [Int32.add_comm]; exact Int32.not_le.mp hb38
         refine ⟨rfl, _, rfl, (Do.rf _ _).up _ _, WR_rl hR h8 hB30 (w := 1) (by omega) hp hq ?_⟩
         rw [if_neg (show ¬ (nI n = -1 ∨ enc (wo W q) = -1) from fun c => c.elim hb2 hb11), up2_row, hcl, if_pos (Or.inr hlt), Int32.add_comm]
         rfl)
      | (have hn9 : ¬ (Z (b + 2) n = -1 ∨ nI 1 + enc (wo W q) < Z (b + 2) n) := fun c => c.elim hb22 (fun z => absurd (show enc (wo W q) + 1 < Z (b + 2) n by rw [Int32.add_comm]; exact z) (Int32.not_lt.mpr hb38))
         refine ⟨rfl, Z, rfl, Do.rf _ _, WR_rl hR h8 hB30 (w := 1) (by omega) hp hq ?_⟩
         rw [if_neg (show ¬ (nI n = -1 ∨ enc (wo W q) = -1) from fun c => c.elim hb2 hb11), hcl, if_neg hn9])
end C19
