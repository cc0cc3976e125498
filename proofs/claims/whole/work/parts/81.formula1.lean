/-! ===== the reference reads a formula by the rules ===== -/
def SPx (T : ST) (b e k l : Nat) (x : Int32) : Prop := ∀ l2 op, l ≤ l2 → OP T b e k l2 op → l2 = 1 ∧ ¬ x = 0
def M0 (G : GG) (σ : Hp) (m : Nat) (T : ST) (n : Nat) (ice : Bool) (d p : Nat) (r : Rs) : Prop := ∀ (V : VT) (U : UT) (b e k c : Nat) (l3 l4 l5 : Option Value) (Q : Option Value → Hp → Prop), HD T n ice p b e k c V U → d ≤ 5 → (∀ f, r = .inr f → ∀ (V2 : VT) (U2 : UT), FQ c V V2 → NU U U2 → V2 0 9 = f → Q (some (.int 0)) (sv σ m V2 U2)) → (∀ q E, r = .inl (q, E) → ∀ (V2 : VT) (U2 : UT) (b2 e2 k2 : Nat) (l3 l4 l5 : Option Value), HD T n ice q b2 e2 k2 (c + E.1.length) V2 U2 → FQ c V V2 → NU U U2 → CDs (V2 20) c E.1 → (∀ i, i ≤ d → V2 21 i = V 21 i ∧ V2 22 i = V 22 i) → HT G mX10_reads 11 [some (.ref m), some (.int (nI (popO (V 21) d))), some (.int 0), l3, l4, l5] [] (sv σ m V2 U2) 2 Q) → HT G mX10_reads 11 [some (.ref m), some (.int (nI d)), some (.int 1), l3, l4, l5] [] (sv σ m V U) 2 Q
def ML (G : GG) (σ : Hp) (m : Nat) (T : ST) (n : Nat) (ice : Bool) (l d p : Nat) (r : Rs) : Prop := ∀ (V : VT) (U : UT) (b e k c : Nat) (l3 l4 l5 : Option Value) (Q : Option Value → Hp → Prop), HD T n ice p b e k c V U → d ≤ 5 → popO (V 21) d = d → (l ≤ 1 → V 22 d = 0) → (∀ f, r = .inr f → ∀ (V2 : VT) (U2 : UT), FQ c V V2 → NU U U2 → V2 0 9 = f → Q (some (.int 0)) (sv σ m V2 U2)) → (∀ q E, r = .inl (q, E) → ∀ (V2 : VT) (U2 : UT) (b2 e2 k2 : Nat) (l3 l4 l5 : Option Value), HD T n ice q b2 e2 k2 (c + E.1.length) V2 U2 → FQ c V V2 → NU U U2 → CDs (V2 20) c E.1 → (∀ i, i ≤ d → V2 21 i = V 21 i) → (∀ i, i < d → V2 22 i = V 22 i) → (2 ≤ l → V2 22 d = V 22 d) → SPx T b2 e2 k2 l (V2 22 d) → HT G mX10_reads 11 [some (.ref m), some (.int (nI d)), some (.int 0), l3, l4, l5] [] (sv σ m V2 U2) 2 Q) → HT G mX10_reads 11 [some (.ref m), some (.int (nI d)), some (.int 1), l3, l4, l5] [] (sv σ m V U) 2 Q
def MO (G : GG) (σ : Hp) (m : Nat) (T : ST) (n : Nat) (ice : Bool) (l d : Nat) (u : Bool) (p : Nat) (E0 : EX) (r : Rs) : Prop := ∀ (V : VT) (U : UT) (b e k c : Nat) (l3 l4 l5 : Option Value) (Q : Option Value → Hp → Prop), HD T n ice p b e k c V U → d ≤ 5 → popO (V 21) d = d → SPx T b e k (l + 1) (V 22 d) → (l = 1 → (u = true ↔ ¬ V 22 d = 0)) → (∀ f, r = .inr f → ∀ (V2 : VT) (U2 : UT), FQ c V V2 → NU U U2 → V2 0 9 = f → Q (some (.int 0)) (sv σ m V2 U2)) → (∀ q E ext, r = .inl (q, E) → E.1 = E0.1 ++ ext → ∀ (V2 : VT) (U2 : UT) (b2 e2 k2 : Nat) (l3 l4 l5 : Option Value), HD T n ice q b2 e2 k2 (c + ext.length) V2 U2 → FQ c V V2 → NU U U2 → CDs (V2 20) c ext → (∀ i, i ≤ d → V2 21 i = V 21 i) → (∀ i, i < d → V2 22 i = V 22 i) → (2 ≤ l → V2 22 d = V 22 d) → SPx T b2 e2 k2 l (V2 22 d) → HT G mX10_reads 11 [some (.ref m), some (.int (nI d)), some (.int 0), l3, l4, l5] [] (sv σ m V2 U2) 2 Q) → HT G mX10_reads 11 [some (.ref m), some (.int (nI d)), some (.int 0), l3, l4, l5] [] (sv σ m V U) 2 Q
section P9
variable {G : GG} {σ : Hp} {m : Nat} {V : VT} {U : UT} {T : ST} {n p b e k c d : Nat} {ice : Bool} {Q : Option Value → Hp → Prop}
theorem va_up_s (W : ST) (i : Nat) (x : Int32) : va_up W i x i = x := by simp [va_up]
theorem va_up_k (W : ST) {i j : Nat} (x : Int32) (h : j ≠ i) : va_up W i x j = W j := by simp [va_up, h]
theorem rd_op (hM : MS σ m) (hH : HD T n ice p b e k c V U) (hd : d ≤ 5) {l3 l4 l5 : Option Value} {l op : Nat} (hO : OP T b e k l op) (h1 : l = 1 → V 22 d = 0)
    (kk : ∀ (V2 : VT) (U2 : UT) (b2 e2 k2 : Nat) (l3 l4 l5 : Option Value), HD T n ice e b2 e2 k2 (c + 1) V2 U2 → FQ c V V2 → NU U U2 → V2 20 c = nI op → V2 21 = V 21 → (∀ i, i < d → V2 22 i = V 22 i) → (l = 0 → V2 22 d = 0) → (l = 1 → ¬ V2 22 d = 0) → (2 ≤ l → V2 22 d = V 22 d) → HT G mX10_reads 11 [some (.ref m), some (.int (nI d)), some (.int 1), l3, l4, l5] [] (sv σ m V2 U2) 2 Q) : HT G mX10_reads 11 [some (.ref m), some (.int (nI d)), some (.int 0), l3, l4, l5] [] (sv σ m V U) 2 Q := by
  have h41 := OP_sg hO
  refine rd_next hM hH hd ?_ ?_ ?_ ?_ ?_ ?_
  · intro op2 hop V2 U2 b2 e2 k2 l3 l4 l5 g1 g2 g3 g4 g5 g6
    have hq : ∃ l2, OP T b e k l2 op2 ∧ 2 ≤ l2 := by
      rcases hop with q | q | q
      · exact ⟨2, Or.inr (Or.inr (Or.inr (Or.inr (Or.inl ⟨rfl, q⟩)))), by omega⟩
      · exact ⟨2, Or.inr (Or.inr (Or.inr (Or.inr (Or.inr (Or.inl ⟨rfl, q⟩))))), by omega⟩
      · exact ⟨3, Or.inr (Or.inr (Or.inr (Or.inr (Or.inr (Or.inr ⟨rfl, q⟩))))), by omega⟩
    obtain ⟨l2, q1, q2⟩ := hq
    obtain ⟨rfl, rfl⟩ := OP_u hO q1
    exact kk V2 U2 b2 e2 k2 l3 l4 l5 g1 g2 g3 g4 g5 (fun i _ => by rw [g6]) (fun q => absurd q (by omega)) (fun q => absurd q (by omega)) (fun _ => by rw [g6])
  · intro op2 hop _ V2 U2 b2 e2 k2 l3 l4 l5 g1 g2 g3 g4 g5 g6
    have hq : OP T b e k 1 op2 := by
      rcases hop with q | q
      · exact Or.inr (Or.inr (Or.inl ⟨rfl, q⟩))
      · exact Or.inr (Or.inr (Or.inr (Or.inl ⟨rfl, q⟩)))
    obtain ⟨rfl, rfl⟩ := OP_u hO hq
    exact kk V2 U2 b2 e2 k2 l3 l4 l5 g1 g2 g3 g4 g5 (fun i hi => by rw [g6, va_up_k _ _ (by omega)]) (fun q => absurd q (by omega)) (fun _ => by rw [g6, va_up_s]; decide) (fun q => absurd q (by omega))
  · intro op2 hop V2 U2 b2 e2 k2 l3 l4 l5 g1 g2 g3 g4 g5 g6
    have hq : OP T b e k 0 op2 := by
      rcases hop with q | q
      · exact Or.inl ⟨rfl, q⟩
      · exact Or.inr (Or.inl ⟨rfl, q⟩)
    obtain ⟨rfl, rfl⟩ := OP_u hO hq
    exact kk V2 U2 b2 e2 k2 l3 l4 l5 g1 g2 g3 g4 g5 (fun i hi => by rw [g6, va_up_k _ _ (by omega)]) (fun _ => by rw [g6, va_up_s]) (fun q => absurd q (by omega)) (fun q => absurd q (by omega))
  · exact fun q => absurd q h41.1
  · exact fun _ q => absurd q h41.2.1
  · intro n1 n2 n3 n4 n5 n6 _ _
    exfalso
    rcases hO with ⟨_, _, q⟩ | ⟨_, _, q⟩ | ⟨x, _, q⟩ | ⟨x, _, q⟩ | ⟨_, _, q⟩ | ⟨_, _, q⟩ | ⟨_, _, q⟩
    · exact n5 q
    · exact n6 q
    · exact n4 ⟨Or.inl q, h1 x⟩
    · exact n4 ⟨Or.inr q, h1 x⟩
    · exact n1 q
    · exact n2 q
    · exact n3 q
/-- no operator goes on: a closing, the end, or a fault -/
theorem rd_stop (hM : MS σ m) (hH : HD T n ice p b e k c V U) (hd : d ≤ 5) {l3 l4 l5 : Option Value} (hS : SPx T b e k 0 (V 22 d))
    (kcl : isS T b k 41 → 0 < d → ∀ (V2 : VT) (U2 : UT) (b2 e2 k2 : Nat) (l3 l4 l5 : Option Value), HD T n ice e b2 e2 k2 (c + 1) V2 U2 → FQ c V V2 → NU U U2 → V2 20 c = 29 → V2 21 = V 21 → V2 22 = V 22 → HT G mX10_reads 11 [some (.ref m), some (.int (nI (popO (V 21) (d - 1)))), some (.int 0), l3, l4, l5] [] (sv σ m V2 U2) 2 Q)
    (ke : d = 0 → isS T b k 59 → ∀ (V2 : VT) (U2 : UT) (b2 e2 k2 : Nat), HD T n ice e b2 e2 k2 c V2 U2 → FQ c V V2 → NU U U2 → V2 20 = V 20 → Q (some (.int 1)) (sv σ m V2 U2))
    (kf : ¬ (isS T b k 41 ∧ 0 < d) → ¬ (d = 0 ∧ isS T b k 59) → Q (some (.int 0)) (sv σ m (up2 V 0 9 (1 + 16 * nI b)) U)) : HT G mX10_reads 11 [some (.ref m), some (.int (nI d)), some (.int 0), l3, l4, l5] [] (sv σ m V U) 2 Q := by
  refine rd_next hM hH hd ?_ ?_ ?_ kcl ke (fun _ _ _ _ _ _ => kf)
  · intro op hop
    exfalso
    rcases hop with q | q | q
    · have := (hS 2 op (by omega) (Or.inr (Or.inr (Or.inr (Or.inr (Or.inl ⟨rfl, q⟩)))))).1; omega
    · have := (hS 2 op (by omega) (Or.inr (Or.inr (Or.inr (Or.inr (Or.inr (Or.inl ⟨rfl, q⟩))))))).1; omega
    · have := (hS 3 op (by omega) (Or.inr (Or.inr (Or.inr (Or.inr (Or.inr (Or.inr ⟨rfl, q⟩))))))).1; omega
  · intro op hop h0
    exfalso
    rcases hop with q | q
    · exact (hS 1 op (by omega) (Or.inr (Or.inr (Or.inl ⟨rfl, q⟩)))).2 h0
    · exact (hS 1 op (by omega) (Or.inr (Or.inr (Or.inr (Or.inl ⟨rfl, q⟩))))).2 h0
  · intro op hop
    exfalso
    rcases hop with q | q
    · have := (hS 0 op (by omega) (Or.inl ⟨rfl, q⟩)).1; omega
    · have := (hS 0 op (by omega) (Or.inr (Or.inl ⟨rfl, q⟩))).1; omega
theorem FQ_f (c : Nat) (V : VT) (x : Int32) : FQ c V (up2 V 0 9 x) := FQ_0 (FQ_r c V) (by omega) x
theorem popO_1 {O : ST} {d : Nat} (h : O (d + 1) = 1) : popO O (d + 1) = popO O d := if_pos h
theorem popO_2 {O : ST} {d : Nat} (h : ¬ O (d + 1) = 1) : popO O (d + 1) = d + 1 := if_neg h
set_option maxHeartbeats 1000000 in
theorem ClR_m (hM : MS σ m) : ClR T n ice (M0 G σ m T n ice) (ML G σ m T n ice) (MO G σ m T n ice) := by
  refine ⟨?_, ?_, ?_, ?_, ?_, ?_, ?_, ?_, ?_, ?_, ?_, ?_, ?_⟩
  · intro d p b e k hT hns V U b1 e1 k1 c l3 l4 l5 Q hH hd herr hok
    obtain ⟨rfl, rfl, rfl⟩ := TK_u hT hH.1.1
    refine rd_want hM hH hd (fun x hx _ => absurd (Or.inl ⟨x, hx⟩) hns) (fun nt hnt _ => ?_) (fun _ => herr _ rfl _ _ (FQ_f c V _) (NU_r U) (up2_s _ _ _ _)) (fun q _ => absurd q hns)
    cases nt with
    | true => exact absurd (Or.inr (Or.inl hnt)) hns
    | false => exact absurd (Or.inr (Or.inr hnt)) hns
  · intro d p b e k hT hps hd5 V U b1 e1 k1 c l3 l4 l5 Q hH hd herr hok
    obtain ⟨rfl, rfl, rfl⟩ := TK_u hT hH.1.1
    exact rd_want hM hH hd (fun x hx q => absurd q (by omega)) (fun nt hnt q => absurd q (by omega)) (fun q => absurd hps q) (fun _ _ => herr _ rfl _ _ (FQ_f c V _) (NU_r U) (up2_s _ _ _ _))
  · intro d p b e k E hT hlf hd5 V U b1 e1 k1 c l3 l4 l5 Q hH hd herr hok
    obtain ⟨rfl, rfl, rfl⟩ := TK_u hT hH.1.1
    obtain ⟨x, hx, hE⟩ := LFx_c hlf
    refine rd_want hM hH hd (fun y hy _ V2 U2 b2 e2 k2 l3 l4 l5 h1 h2 h3 h4 h5 h6 => hok e E rfl V2 U2 b2 e2 k2 l3 l4 l5 (by rw [hE]; exact h1) h2 h3 (by rw [hE]; exact CDs_one (h4.trans (LFc_u hy hx))) (fun i _ => ⟨by rw [h5], by rw [h6]⟩)) (fun nt hnt _ => ?_) (fun q => absurd (Or.inl ⟨x, hx⟩) q) (fun _ q => absurd q (by omega))
    cases nt with
    | true => exact absurd hnt (LFc_no hx).1
    | false => exact absurd hnt (LFc_no hx).2
  · intro d p b e k r hT hW hd5 ih V U b1 e1 k1 c l3 l4 l5 Q hH hd herr hok
    obtain ⟨rfl, rfl, rfl⟩ := TK_u hT hH.1.1
    refine rd_want hM hH hd (fun y hy _ => absurd hW (LFc_no hy).1) (fun nt hnt _ V2 U2 b2 e2 k2 l3 l4 l5 h1 h2 h3 h4 h5 h6 => ?_) (fun q => absurd (Or.inr (Or.inl hW)) q) (fun _ q => absurd q (by omega))
    cases nt with
    | false => have := hnt.1; have := hW.1; omega
    | true =>
      refine ih V2 U2 b2 e2 k2 (c + 1) l3 l4 l5 Q h1 (by omega) (fun f hf V3 U3 g1 g2 g3 => herr f (by rw [hf]; rfl) V3 U3 (FQ_t h2 g1 (by omega)) (NU_t h3 g2) g3) (fun q E hr V3 U3 b3 e3 k3 l3 l4 l5 g1 g2 g3 g4 g5 => ?_)
      have hp1 : popO (V2 21) (d + 1) = popO (V 21) d := by
        rw [popO_1 (by rw [h5, va_up_s]; rfl)]
        exact popO_cg (fun i hi => by rw [h5, va_up_k _ _ (by omega)])
      rw [hp1]
      refine hok q (ngE E) (by rw [hr]; rfl) V3 U3 b3 e3 k3 l3 l4 l5 (by rw [show c + (ngE E).1.length = c + 1 + E.1.length by show c + (E.1.length + 1) = _; omega]; exact g1) (FQ_t h2 g2 (by omega)) (NU_t h3 g3) (CDs_app (a := [30]) (b := E.1) (CDs_one ((g2.2.2.1 c (by omega)).trans h4)) g4) (fun i hi => ?_)
      have g6 := g5 i (by omega)
      rw [g6.1, g6.2, h5, h6, va_up_k _ _ (by omega), va_up_k _ _ (by omega)]
      exact ⟨rfl, rfl⟩
  · intro d p b e k f hT hW hd5 ih V U b1 e1 k1 c l3 l4 l5 Q hH hd herr hok
    obtain ⟨rfl, rfl, rfl⟩ := TK_u hT hH.1.1
    refine rd_want hM hH hd (fun y hy _ => absurd hW (LFc_no hy).2) (fun nt hnt _ V2 U2 b2 e2 k2 l3 l4 l5 h1 h2 h3 h4 h5 h6 => ?_) (fun q => absurd (Or.inr (Or.inr hW)) q) (fun _ q => absurd q (by omega))
    cases nt with
    | true => have := hnt.1; have := hW.1; omega
    | false =>
      exact ih V2 U2 b2 e2 k2 (c + 1) l3 l4 l5 Q h1 (by omega) (popO_2 (by rw [h5, va_up_s]; decide)) (fun _ => by rw [h6, va_up_s]) (fun f2 hf V3 U3 g1 g2 g3 => herr f2 hf V3 U3 (FQ_t h2 g1 (by omega)) (NU_t h3 g2) g3) (fun q E hr => by cases hr)
  · intro d p b e k q E bb ee kk hT hW hd5 ih hT2 hS2 V U b1 e1 k1 c l3 l4 l5 Q hH hd herr hok
    obtain ⟨rfl, rfl, rfl⟩ := TK_u hT hH.1.1
    refine rd_want hM hH hd (fun y hy _ => absurd hW (LFc_no hy).2) (fun nt hnt _ V2 U2 b2 e2 k2 l3 l4 l5 h1 h2 h3 h4 h5 h6 => ?_) (fun q => absurd (Or.inr (Or.inr hW)) q) (fun _ q => absurd q (by omega))
    cases nt with
    | true => have := hnt.1; have := hW.1; omega
    | false =>
      refine ih V2 U2 b2 e2 k2 (c + 1) l3 l4 l5 Q h1 (by omega) (popO_2 (by rw [h5, va_up_s]; decide)) (fun _ => by rw [h6, va_up_s]) (fun f2 hf => by cases hf) (fun q2 E2 hr V3 U3 b3 e3 k3 l3 l4 l5 g1 g2 g3 g4 g5 g6 g7 g8 => ?_)
      cases hr
      obtain ⟨rfl, rfl, rfl⟩ := TK_u hT2 g1.1.1
      refine rd_stop hM g1 (by omega) g8 (fun _ _ V4 U4 b4 e4 k4 l3 l4 l5 f1 f2 f3 f4 f5 f6 => ?_) (fun q => absurd q (by omega)) (fun q => absurd ⟨hS2, by omega⟩ q)
      have hp1 : popO (V3 21) (d + 1 - 1) = popO (V 21) d := popO_cg (fun i hi => by rw [g5 i (by omega), h5, va_up_k _ _ (by omega)])
      rw [hp1]
      refine hok ee (paE E) rfl V4 U4 b4 e4 k4 l3 l4 l5 (by rw [show c + (paE E).1.length = c + 1 + E.1.length + 1 by show c + ((E.1 ++ [29]).length + 1) = _; rw [List.length_append]; show c + (E.1.length + 1 + 1) = _; omega]; exact f1) (FQ_t (FQ_t h2 g2 (by omega)) f2 (by omega)) (NU_t (NU_t h3 g3) f3) (CDs_app (a := [28]) (b := E.1 ++ [29]) (CDs_one ((f2.2.2.1 c (by omega)).trans ((g2.2.2.1 c (by omega)).trans h4))) (CDs_app (CDs_cg g4 (fun i hi => f2.2.2.1 i hi)) (CDs_one f4))) (fun i hi => ?_)
      rw [f5, f6, g5 i (by omega), g6 i (by omega), h5, h6, va_up_k _ _ (by omega), va_up_k _ _ (by omega)]
      exact ⟨rfl, rfl⟩
  · intro d p b e k q E bb ee kk hT hW hd5 ih hT2 hS2 V U b1 e1 k1 c l3 l4 l5 Q hH hd herr hok
    obtain ⟨rfl, rfl, rfl⟩ := TK_u hT hH.1.1
    refine rd_want hM hH hd (fun y hy _ => absurd hW (LFc_no hy).2) (fun nt hnt _ V2 U2 b2 e2 k2 l3 l4 l5 h1 h2 h3 h4 h5 h6 => ?_) (fun q => absurd (Or.inr (Or.inr hW)) q) (fun _ q => absurd q (by omega))
    cases nt with
    | true => have := hnt.1; have := hW.1; omega
    | false =>
      refine ih V2 U2 b2 e2 k2 (c + 1) l3 l4 l5 Q h1 (by omega) (popO_2 (by rw [h5, va_up_s]; decide)) (fun _ => by rw [h6, va_up_s]) (fun f2 hf => by cases hf) (fun q2 E2 hr V3 U3 b3 e3 k3 l3 l4 l5 g1 g2 g3 g4 g5 g6 g7 g8 => ?_)
      cases hr
      obtain ⟨rfl, rfl, rfl⟩ := TK_u hT2 g1.1.1
      exact rd_stop hM g1 (by omega) g8 (fun q => absurd q hS2) (fun q => absurd q (by omega)) (fun _ _ => herr _ rfl _ _ (FQ_t (FQ_t h2 g2 (by omega)) (FQ_f _ _ _) (Nat.le_refl _) |> fun z => z) (NU_t h3 g3) (up2_s _ _ _ _))
  · intro d p r ih V U b e k c l3 l4 l5 Q hH hd hpo _ herr hok
    refine ih V U b e k c l3 l4 l5 Q hH hd herr (fun q E hr V2 U2 b2 e2 k2 l3 l4 l5 g1 g2 g3 g4 g5 => ?_)
    rw [hpo]
    exact hok q E hr V2 U2 b2 e2 k2 l3 l4 l5 g1 g2 g3 g4 (fun i hi => (g5 i hi).1) (fun i hi => (g5 i (by omega)).2) (fun _ => (g5 d (Nat.le_refl _)).2) (fun l2 op h1 h2 => absurd (OP_l h2) (by omega))
  · intro l d p f hl ih V U b e k c l3 l4 l5 Q hH hd hpo h22 herr hok
    exact ih V U b e k c l3 l4 l5 Q hH hd hpo (fun q => h22 (by omega)) herr (fun q E hr => by cases hr)
  · intro l d p q E r hl ih1 ih2 V U b e k c l3 l4 l5 Q hH hd hpo h22 herr hok
    refine ih1 V U b e k c l3 l4 l5 Q hH hd hpo (fun q => h22 (by omega)) (fun f hf => by cases hf) (fun q2 E2 hr V2 U2 b2 e2 k2 l3 l4 l5 g1 g2 g3 g4 g5 g6 g7 g8 => ?_)
    cases hr
    have hpo2 : popO (V2 21) d = d := (popO_cg g5).trans hpo
    refine ih2 V2 U2 b2 e2 k2 _ l3 l4 l5 Q g1 hd hpo2 g8 (fun h1 => ⟨fun q => Bool.noConfusion q, fun q => absurd (by rw [g7 (by omega)]; exact h22 (by omega)) q⟩) (fun f hf V3 U3 f1 f2 f3 => herr f hf V3 U3 (FQ_t g2 f1 (by omega)) (NU_t g3 f2) f3) (fun q3 E3 ext hr hE V3 U3 b3 e3 k3 l3 l4 l5 f1 f2 f3 f4 f5 f6 f7 f8 => ?_)
    exact hok q3 E3 hr V3 U3 b3 e3 k3 l3 l4 l5 (by rw [hE, List.length_append, ← Nat.add_assoc]; exact f1) (FQ_t g2 f2 (by omega)) (NU_t g3 f3) (by rw [hE]; exact CDs_app (CDs_cg g4 (fun i hi => f2.2.2.1 i hi)) f4) (fun i hi => (f5 i hi).trans (g5 i hi)) (fun i hi => (f6 i hi).trans (g6 i hi)) (fun h2 => (f7 h2).trans (g7 (by omega))) f8
  · intro l d u p E bb ee kk hl hT hst V U b e k c l3 l4 l5 Q hH hd hpo hS h1 herr hok
    obtain ⟨rfl, rfl, rfl⟩ := TK_u hT hH.1.1
    refine hok p E [] rfl (List.append_nil _).symm V U _ _ _ l3 l4 l5 hH (FQ_r c V) (NU_r U) (fun i x hx => by cases hx) (fun _ _ => rfl) (fun _ _ => rfl) (fun _ => rfl) (fun l2 op h2 h3 => ?_)
    by_cases hle : l2 = l
    · subst hle
      rcases hst with ⟨q1, q2⟩ | q
      · exact ⟨q2, (h1 q2).mp q1⟩
      · exact absurd h3 (q op)
    · exact hS l2 op (by omega) h3
  · intro l d u p E bb ee kk op f hl hT hop hu ih V U b e k c l3 l4 l5 Q hH hd hpo hS h1 herr hok
    obtain ⟨rfl, rfl, rfl⟩ := TK_u hT hH.1.1
    refine rd_op hM hH hd hop (fun q => ?_) (fun V2 U2 b2 e2 k2 l3 l4 l5 g1 g2 g3 g4 g5 g6 g7 g8 g9 => ?_)
    · by_cases z : V 22 d = 0
      · exact z
      · exact absurd ⟨(h1 q).mpr z, q⟩ hu
    · exact ih V2 U2 b2 e2 k2 (c + 1) l3 l4 l5 Q g1 hd (by rw [g5]; exact hpo) (fun q => g7 (by omega)) (fun f2 hf V3 U3 f1 f2 f3 => herr _ hf V3 U3 (FQ_t g2 f1 (by omega)) (NU_t g3 f2) f3) (fun q E hr => by cases hr)
  · intro l d u p E bb ee kk op q E2 r hl hT hop hu ih1 ih2 V U b e k c l3 l4 l5 Q hH hd hpo hS h1 herr hok
    obtain ⟨rfl, rfl, rfl⟩ := TK_u hT hH.1.1
    refine rd_op hM hH hd hop (fun q => ?_) (fun V2 U2 b2 e2 k2 l3 l4 l5 g1 g2 g3 g4 g5 g6 g7 g8 g9 => ?_)
    · by_cases z : V 22 d = 0
      · exact z
      · exact absurd ⟨(h1 q).mpr z, q⟩ hu
    · refine ih1 V2 U2 b2 e2 k2 (c + 1) l3 l4 l5 Q g1 hd (by rw [g5]; exact hpo) (fun q => g7 (by omega)) (fun f2 hf => by cases hf) (fun q3 E3 hr V3 U3 b3 e3 k3 l3 l4 l5 f1 f2 f3 f4 f5 f6 f7 f8 => ?_)
      cases hr
      have hpo3 : popO (V3 21) d = d := (popO_cg (fun i hi => by rw [f5 i hi, g5])).trans hpo
      refine ih2 V3 U3 b3 e3 k3 _ l3 l4 l5 Q f1 hd hpo3 f8 (fun q => ⟨fun _ => by rw [f7 (by omega)]; exact g8 q, fun _ => rfl⟩) (fun f4 hf V4 U4 x1 x2 x3 => herr _ hf V4 U4 (FQ_t (FQ_t g2 f2 (by omega)) x1 (by omega)) (NU_t (NU_t g3 f3) x2) x3) (fun q4 E4 ext hr hE V4 U4 b4 e4 k4 l3 l4 l5 x1 x2 x3 x4 x5 x6 x7 x8 => ?_)
      have hlen : c + (nI op :: (E2.1 ++ ext)).length = c + 1 + E2.1.length + ext.length := by
        show c + ((E2.1 ++ ext).length + 1) = _
        rw [List.length_append]
        omega
      refine hok q4 E4 (nI op :: (E2.1 ++ ext)) hr (by rw [hE]; show E.1 ++ (nI op :: E2.1) ++ ext = _; rw [List.append_assoc]; rfl) V4 U4 b4 e4 k4 l3 l4 l5 (by rw [hlen]; exact x1) (FQ_t (FQ_t g2 f2 (by omega)) x2 (by omega)) (NU_t (NU_t g3 f3) x3) (CDs_app (a := [nI op]) (b := E2.1 ++ ext) (CDs_one ((x2.2.2.1 c (by omega)).trans ((f2.2.2.1 c (by omega)).trans g4))) (CDs_app (CDs_cg f4 (fun i hi => x2.2.2.1 i hi)) x4)) (fun i hi => by rw [x5 i hi, f5 i hi, g5]) (fun i hi => by rw [x6 i hi, f6 i hi, g6 i hi]) (fun h2 => by rw [x7 h2, f7 (by omega), g9 h2]) x8
end P9
