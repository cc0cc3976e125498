/-! ===== the class: amnesty, hours, soon, escape ===== -/
section C10
variable {G : GG} {σ : Hp} {Z : VT} {xo b : Nat} {V : VT} {cN dN mN gk : Nat} {gw : Option GWt} {gi : Option GIt}
theorem sc_hr {a : Nat} (hE : NE G) (hW : NW σ Z a b V cN dN mN gk gw gi) (hbr : Z a 2 = -1) {S : ST} (hS : nv dN Z a = S) (hl : LkI S dN) (hm : Mn S cN mN) {h : Nat} (hh : S 80 = nI h) (h31 : h < 2 ^ 31) (md : Int32) : Sp G mX4_passHour 5 [.ref a, .int md] (cv σ Z) (fun rv σ' => rv = none ∧ ∃ Z2 : VT, σ' = cv σ Z2 ∧ Fr (NP σ a b) Z Z2 ∧ nv dN Z2 a = psS V gw gi dN mN gk h md S ∧ Z2 a 2 = -1) := by
  subst hS
  refine ht_mono (sc_passHour hE hW (h := h) hh h31 hm hl md) ?_
  rintro v σ' ⟨h1, Z2, h2, h3, h4, h5⟩
  refine ⟨h1, Z2, h2, h3, ?_, h5.trans hbr⟩
  rw [h4, hbr, psB_e hW.px gw gi hl hm h md]
theorem psS_lk (hX : PX V cN dN mN gk) (gw : Option GWt) (gi : Option GIt) {S : ST} (hl : LkI S dN) (hm : Mn S cN mN) (h : Nat) (md : Int32) : LkI (psS V gw gi dN mN gk h md S) dN := by
  rw [← psB_e hX gw gi hl hm h md]
  exact psB_lk hX gw gi hl h md (-1)
theorem psI_lk (hX : PX V cN dN mN gk) (gw : Option GWt) (gi : Option GIt) {S : ST} (hl : LkI S dN) (hm : Mn S cN mN) (h : Nat) : ∀ k, LkI (psI V gw gi dN mN gk S h k) dN := by
  intro k
  induction k with
  | zero => exact hl
  | succ k ih => exact psS_lk hX gw gi ih (psI_mn hX.1 gw gi h hm k) (h + k) 0
theorem NP.xp {q : Nat} (hq : NP σ (xo + 14) b q) : XP σ xo b q := hq.elim (fun h => Or.inl ⟨by omega, by omega⟩) Or.inr
theorem NP.xt {q : Nat} (hq : NP σ (xo + 30) b q) : XP σ xo b q := hq.elim (fun h => Or.inl ⟨by omega, by omega⟩) Or.inr
set_option maxRecDepth 100000 in
theorem sc_hours (hE : NE G) (hC : CW σ Z xo b V cN dN mN gk gw gi) (hbar : Z (xo + 14) 2 = -1) (hmn : Mn (nv dN Z (xo + 14)) cN mN) (hlk : LkI (nv dN Z (xo + 14)) dN) {h : Nat} (hh : Z (xo + 14) 1 = nI h) (h31 : h < 2 ^ 30) (w : Int32) : Sp G mX9_hours 6 [.ref xo, .int w] (cv σ Z) (QC σ xo b dN Z (aHours V gw gi dN mN gk h (nv dN Z (xo + 14)) w).1 (aHours V gw gi dN mN gk h (nv dN Z (xo + 14)) w).2) := by
  have D := dat dl_X9_hours
  have hX := hC.1
  have hW := hC.2.1
  have h10 := hW.d10
  have h8 := hW.c8
  have h6 := hW.m6
  have h2 := hW.g2
  have loop : ∀ n : Nat, n ≤ 1000 → ∀ r j : Nat, j ≤ n → n - j = r → ∀ Z1 : VT, Fr (NP σ (xo + 14) b) Z Z1 → nv dN Z1 (xo + 14) = psI V gw gi dN mN gk (nv dN Z (xo + 14)) h j → Z1 (xo + 14) 2 = -1 → HT G mX9_hours 15 [some (.ref xo), some (.int (nI n)), some (.int (nI j))] [] (cv σ Z1) 6 (QC σ xo b dN Z (nI (h + n)) (psI V gw gi dN mN gk (nv dN Z (xo + 14)) h n)) := by
    intro n hn r
    induction r using Nat.strongRecOn with
    | _ r ih =>
      intro j hj hr Z1 hf1 hn1 hb1
      have hW1 := hW.keep hf1
      refine ht_iload_n (D 9 rfl) rfl rfl ?_
      refine ht_iload_n (D 10 rfl) rfl rfl ?_
      refine ht_icmp_ge (tgt := 34) (D 11 rfl) (by decide) (fun hb17 => ?_) (fun hb17 => ?_)
      · skip
        have hjk : j = n := by have h3 := (nI_leI (a := n) (b := j) (by omega) (by omega)).mp hb17; omega
        subst hjk
        refine ht_aload_n (D 18 rfl) rfl rfl ?_
        refine gf_X9_24 rfl (D 19 rfl) hX.k0 hX.q1 ?_
        refine gi_X9_169 rfl (D 20 rfl) hX.nt.k0 ?_
        refine ht_iret (D 21 rfl) rfl rfl ?_
        refine QC_n ?_ hf1 hn1 hb1
        have e := congrFun hn1 80
        rw [nv_hour, psI_80 V gw gi dN mN gk (S := nv dN Z (xo + 14)) hh j] at e
        exact e
      · skip
        have hjk : j < n := by have h3 := mt (nI_leI (a := n) (b := j) (by omega) (by omega)).mpr hb17; omega
        refine ht_aload_n (D 12 rfl) rfl rfl ?_
        refine gf_X9_24 rfl (D 13 rfl) hX.k0 hX.q1 ?_
        refine ht_iconst (v := 0) (D 14 rfl) (by decide) ?_
        refine kVX4_passHour (As := [_]) cl_X9_165 (D 15 rfl) (sc_hr hE hW1 hb1 hn1 (psI_lk hW.px gw gi hlk hmn h j) (psI_mn hW.pl gw gi h hmn j) (psI_80 V gw gi dN mN gk (S := nv dN Z (xo + 14)) hh j) (by omega) 0) hX.nt.k0 rfl (Nat.le_of_ble_eq_true rfl) rfl (Nat.le_of_ble_eq_true rfl) (by omega) ?_
        rintro _ _ ⟨rfl, Z2, rfl, hf2, hn2, hb2⟩
        refine ht_iinc (v := nI (j + 1)) (D 16 rfl) rfl (nI_i1 _) (by decide) rfl ?_
        refine ht_goto (tgt := 15) (D 17 rfl) (by decide) ?_
        exact ht_cast (ih (n - (j + 1)) (by omega) (j + 1) (by omega) rfl Z2 (hf1.tr hf2) hn2 hb2) rfl rfl rfl
  show HT G mX9_hours 0 [some (.ref xo), some (.int w), none] [] (cv σ Z) 6 _
  refine ht_iload_n (D 0 rfl) rfl rfl ?_
  refine ht_iconst (v := 1) (D 1 rfl) (by decide) ?_
  refine ht_sipush (v := 1000) (D 2 rfl) (by decide) ?_
  refine kSX9_isWithin (As := [_, _, _]) cl_X9_142 (D 3 rfl) (sc_isWithin _ _ _) rfl (Nat.le_of_ble_eq_true rfl) rfl (Nat.le_of_ble_eq_true rfl) (by omega) ?_
  rintro _ _ ⟨rfl, rfl⟩
  refine ht_if_ne (tgt := 13) (D 4 rfl) (by decide) (fun hb8 => ?_) (fun hb8 => ?_)
  · skip
    have q1 := b01_ne hb8
    obtain ⟨n, hn1, hn2, rfl⟩ := rngW (lo := 1) 1000 (by decide) q1 (by decide)
    refine ht_iconst (v := 0) (D 7 rfl) (by decide) ?_
    refine ht_istore_n (D 8 rfl) rfl (by decide) rfl ?_
    have e : aHours V gw gi dN mN gk h (nv dN Z (xo + 14)) (nI n) = (nI (h + n), psI V gw gi dN mN gk (nv dN Z (xo + 14)) h n) := by unfold aHours; rw [if_pos q1, nI_clamp (by omega)]
    rw [e]
    exact ht_cast (loop n (by omega) n 0 (by omega) (by omega) Z (Fr.rf _ _) rfl hbar) rfl rfl rfl
  · skip
    refine ht_iconst (v := -1) (D 5 rfl) (by decide) ?_
    refine ht_iret (D 6 rfl) rfl rfl ?_
    exact QC_k (by unfold aHours; rw [if_neg (b01_eq hb8)]) (Fr.rf _ _) (by unfold aHours; rw [if_neg (b01_eq hb8)]) hbar
theorem isF_w0 {a f : Nat} {v : Option Nat} : isF (wQ σ a 0 v) b f ↔ isF σ b f := by
  unfold isF
  rw [zQ_wQ, up2_k _ _ (by decide), up2_k _ _ (by decide)]
theorem FmS.w0 {a f n : Nat} {v : Option Nat} (h : FmS σ f n) (hk : zK σ a = 4) : FmS (wQ σ a 0 v) f n := by
  have hne : f ≠ a := fun e => by
    have q := h.1
    rw [e, hk] at q
    exact absurd q (by decide)
  refine ⟨h.1, ?_, ?_, h.2.2.2⟩
  · rw [zQ_wQ, up2_a _ _ hne]; exact h.2.1
  · rw [zQ_wQ, up2_a _ _ hne]; exact h.2.2.1
theorem LW.w0 {a : Nat} {v : Option Nat} (h : LW σ Z b V cN dN mN gk gw gi) (hk : zK σ a = 4) : LW (wQ σ a 0 v) Z b V cN dN mN gk gw gi := by
  obtain ⟨h1, h2, h3, h4, h5, h6⟩ := h
  refine ⟨h1.w0 hk, h2, ?_, ?_, ?_, h6⟩
  · cases gw with
    | none =>
      show zQ (wQ σ a 0 v) b 5 = none
      rw [zQ_wQ, up2_k _ _ (by decide)]; exact h3
    | some g =>
      obtain ⟨f, n, q1, q2, q3⟩ := h3
      exact ⟨f, n, by rw [zQ_wQ, up2_k _ _ (by decide)]; exact q1, q2.w0 hk, q3⟩
  · cases gi with
    | none =>
      show zQ (wQ σ a 0 v) b 6 = none
      rw [zQ_wQ, up2_k _ _ (by decide)]; exact h4
    | some g =>
      obtain ⟨f, n, q1, q2, q3⟩ := h4
      exact ⟨f, n, by rw [zQ_wQ, up2_k _ _ (by decide)]; exact q1, q2.w0 hk, q3⟩
  · intro f hf
    rw [isF_w0] at hf
    refine ⟨(h5 f hf).1, fun f2 hf2 => (h5 f hf).2 f2 (isF_w0.mp hf2)⟩
/-- the trial stands as the night is -/
theorem tr_start (hC : CW σ Z xo b V cN dN mN gk gw gi) {Z2 : VT} (h : CpN Z Z2 (xo + 30) (xo + 14) 10) : NW (wQ σ (xo + 30) 0 (some b)) Z2 (xo + 30) b V cN dN mN gk gw gi ∧ nv dN Z2 (xo + 30) = nv dN Z (xo + 14) ∧ Z2 (xo + 30) 2 = -1 ∧ nv dN Z2 (xo + 14) = nv dN Z (xo + 14) ∧ Z2 (xo + 14) = Z (xo + 14) := by
  obtain ⟨hX, hW, hF⟩ := hC
  have hk : zK σ (xo + 30) = 4 := hX.tr.k0
  refine ⟨⟨hX.tr.w0 hk (b := 0), ?_, ⟨?_, fun f hf => ?_⟩, (hW.lw.w0 hk).keep (fun q q1 q2 => h.1 q ?_) (fun f hf => h.1 _ ?_)⟩, nv_copy h dN, h.2.2.1, nv_fr (fun i i1 _ _ => h.1 _ (by omega)), h.1 _ (by omega)⟩
  · rw [zQ_wQ, up2_s]
  · rcases hF.1 with c | c <;> omega
  · have := hF.2 f (isF_w0.mp hf); omega
  · rcases hF.1 with c | c <;> omega
  · have := hF.2 f (isF_w0.mp hf); omega
theorem QC_m {Z2 : VT} {x r : Int32} {S : ST} (h : x = r) (hf : Fr (XP σ xo b) Z Z2) (hn : nv dN Z2 (xo + 14) = S) (hb : Z2 (xo + 14) 2 = -1) : QC σ xo b dN Z r S (some (.int x)) (cv (wQ σ (xo + 30) 0 (some b)) Z2) := ⟨by rw [h], some b, Z2, rfl, hf, hn, hb⟩
theorem CpN.xp {Z2 : VT} (h : CpN Z Z2 (xo + 30) (xo + 14) 10) : Fr (XP σ xo b) Z Z2 := h.1.mono (fun q hq => Or.inl ⟨by omega, by omega⟩)
theorem XS.w0 {v : Option Nat} (h : XS σ xo) : XS (wQ σ (xo + 30) 0 v) xo := by
  have hk : zK σ (xo + 30) = 4 := h.tr.k0
  have e : ∀ k, zQ (wQ σ (xo + 30) 0 v) xo k = zQ σ xo k := fun k => by rw [zQ_wQ, up2_a _ _ (by omega)]
  have e1 : zQ (wQ σ (xo + 30) 0 v) (xo + 1) 0 = zQ σ (xo + 1) 0 := by rw [zQ_wQ, up2_a _ _ (by omega)]
  obtain ⟨h0, h1, h2, h3, h4, h5, h6, h7, h8, h9⟩ := h
  refine ⟨h0, ?_, ⟨?_, h2.2.w0 hk (b := 0)⟩, ⟨?_, h3.2.w0 hk (b := 0)⟩, ?_, ?_, ?_, ?_, ?_, ?_⟩
  · rw [e, e1]; exact h1
  · rw [e]; exact h2.1
  · rw [e]; exact h3.1
  · rw [e]; exact h4
  · rw [e]; exact h5
  · rw [e]; exact h6
  · rw [e]; exact h7
  · rw [e]; exact h8
  · rw [e]; exact h9
theorem NP.w0 {a a2 q : Nat} {v : Option Nat} : NP (wQ σ a 0 v) a2 b q ↔ NP σ a2 b q := by
  unfold NP
  constructor
  · rintro (c | ⟨f, c1, c2⟩)
    · exact Or.inl c
    · exact Or.inr ⟨f, isF_w0.mp c1, c2⟩
  · rintro (c | ⟨f, c1, c2⟩)
    · exact Or.inl c
    · exact Or.inr ⟨f, isF_w0.mpr c1, c2⟩
/-- what an hour of the trial leaves of the night -/
theorem tr_hour (hC : CW σ Z xo b V cN dN mN gk gw gi) {Z1 Z2 : VT} {v : Option Nat} (hf : Fr (NP (wQ σ (xo + 30) 0 v) (xo + 30) b) Z1 Z2) : Fr (XP σ xo b) Z1 Z2 ∧ nv dN Z2 (xo + 14) = nv dN Z1 (xo + 14) ∧ Z2 (xo + 14) = Z1 (xo + 14) := by
  have key : ∀ i, i < 16 → Z2 (xo + 14 + i) = Z1 (xo + 14 + i) := fun i hi => hf _ (by
    rintro (⟨c1, c2⟩ | ⟨f, c1, c2⟩)
    · omega
    · have := hC.2.2.2 f (isF_w0.mp c1); omega)
  exact ⟨hf.mono (fun q hq => (NP.w0.mp hq).xt), nv_fr (fun i i1 _ _ => key i i1), key 0 (by omega)⟩
theorem so_neg {S : ST} {h d : Nat} : ∀ {t : Nat}, (∀ i, i < t → ¬ psI V gw gi dN mN gk S h i d = 0) → so V gw gi dN mN gk S h d t = -1 := by
  intro t
  induction t with
  | zero => intro _; rfl
  | succ t ih =>
    intro hn
    rw [so_n (fun q => hn t (by omega) q.1)]
    exact ih (fun i hi => hn i (by omega))
theorem so_hit {S : ST} {h d t : Nat} (hn : ∀ i, i < t → ¬ psI V gw gi dN mN gk S h i d = 0) (hz : psI V gw gi dN mN gk S h t d = 0) {n : Nat} (ht : t < n) (hb : n < 2 ^ 31 := by omega) : so V gw gi dN mN gk S h d n = nI t := by
  induction n with
  | zero => omega
  | succ n ih =>
    by_cases e : t = n
    · rw [← e, so_y ⟨hz, by rw [so_neg hn]; decide⟩]
    · have i2 := ih (by omega) (by omega)
      rw [so_n (fun q => by rw [i2] at q; exact nI_pos (by omega) q.2)]
      exact i2
set_option maxRecDepth 100000 in
theorem sc_soon (hE : NE G) (hC : CW σ Z xo b V cN dN mN gk gw gi) (hbar : Z (xo + 14) 2 = -1) (hmn : Mn (nv dN Z (xo + 14)) cN mN) (hlk : LkI (nv dN Z (xo + 14)) dN) {h : Nat} (hh : Z (xo + 14) 1 = nI h) (h31 : h < 2 ^ 30) (x w : Int32) : Sp G mX9_soon 6 [.ref xo, .int x, .int w] (cv σ Z) (QC σ xo b dN Z (aSoon V gw gi dN mN gk h (nv dN Z (xo + 14)) x w) (nv dN Z (xo + 14))) := by
  have D := dat dl_X9_soon
  have hX := hC.1
  have hW := hC.2.1
  have h10 := hW.d10
  have h8 := hW.c8
  have h6 := hW.m6
  have h2 := hW.g2
  have loop : ∀ k n : Nat, k < dN → n ≤ 240 → XS (wQ σ (xo + 30) 0 (some b)) xo → ∀ Z0 : VT, NW (wQ σ (xo + 30) 0 (some b)) Z0 (xo + 30) b V cN dN mN gk gw gi → ∀ r j : Nat, j ≤ n + 1 → n + 1 - j = r → (∀ i, i < j → ¬ psI V gw gi dN mN gk (nv dN Z (xo + 14)) h i k = 0) → ∀ Z1 : VT, Fr (XP σ xo b) Z Z1 → Fr (NP (wQ σ (xo + 30) 0 (some b)) (xo + 30) b) Z0 Z1 → nv dN Z1 (xo + 30) = psI V gw gi dN mN gk (nv dN Z (xo + 14)) h j → Z1 (xo + 30) 2 = -1 → nv dN Z1 (xo + 14) = nv dN Z (xo + 14) → Z1 (xo + 14) 2 = -1 → HT G mX9_soon 39 [some (.ref xo), some (.int (nI k)), some (.int (nI n)), some (.int (nI j))] [] (cv (wQ σ (xo + 30) 0 (some b)) Z1) 6 (QC σ xo b dN Z (so V gw gi dN mN gk (nv dN Z (xo + 14)) h k (n + 1)) (nv dN Z (xo + 14))) := by
    intro k n hk hn hX1 Z0 hT0 r
    induction r using Nat.strongRecOn with
    | _ r ih =>
      intro j hj hr hno Z1 hfx hft hn1 hb1 hnn hbn
      have hT1 := hT0.keep hft
      refine ht_iload_n (D 19 rfl) rfl rfl ?_
      refine ht_iload_n (D 20 rfl) rfl rfl ?_
      refine ht_icmp_gt (tgt := 75) (D 21 rfl) (by decide) (fun hb41 => ?_) (fun hb41 => ?_)
      · skip
        have hjk : n < j := (nI_ltI (by omega) (by omega)).mp hb41
        refine ht_iconst (v := -1) (D 37 rfl) (by decide) ?_
        refine ht_iret (D 38 rfl) rfl rfl ?_
        exact QC_m (by rw [show n + 1 = j by omega]; exact (so_neg hno).symm) hfx hnn hbn
      · skip
        have hjk : ¬ n < j := fun c => hb41 (nI_lt c (by omega))
        refine ht_aload_n (D 22 rfl) rfl rfl ?_
        refine gf_X9_28 rfl (D 23 rfl) hX1.k0 hX1.q2 ?_
        refine gf_X9_100 rfl (D 24 rfl) hX1.tr.k0 hX1.tr.q4 ?_
        refine ht_iload_n (D 25 rfl) rfl rfl ?_
        refine ht_ald (n := k) (Or.inl rfl) (D 26 rfl) hX1.tr.k4 hX1.tr.n4 rfl (by omega) (by decide) (hX1.tr.lq (j := k) (by omega)) ?_
        refine kVX3_isLoose (As := []) cl_X9_179 (D 27 rfl) (sc_isLoose (hX1.tr.lk (j := k) (by omega))) (hX1.tr.lk (j := k) (by omega)) rfl (Nat.le_of_ble_eq_true rfl) rfl (Nat.le_of_ble_eq_true rfl) (by omega) ?_
        rintro _ _ ⟨rfl, rfl⟩
        refine ht_if_eq (tgt := 61) (D 28 rfl) (by decide) (fun hb56 => ?_) (fun hb56 => ?_)
        · skip
          have hz := b01_eq hb56
          rw [← nv_ice dN Z1 (xo + 30) (show k < 10 by omega), hn1] at hz
          refine ht_aload_n (D 31 rfl) rfl rfl ?_
          refine gf_X9_28 rfl (D 32 rfl) hX1.k0 hX1.q2 ?_
          refine ht_iconst (v := 0) (D 33 rfl) (by decide) ?_
          refine kVX4_passHour (As := [_]) cl_X9_165 (D 34 rfl) (sc_hr hE hT1 hb1 hn1 (psI_lk hW.px gw gi hlk hmn h j) (psI_mn hW.pl gw gi h hmn j) (psI_80 V gw gi dN mN gk (S := nv dN Z (xo + 14)) hh j) (by omega) 0) hX1.tr.k0 rfl (Nat.le_of_ble_eq_true rfl) rfl (Nat.le_of_ble_eq_true rfl) (by omega) ?_
          rintro _ _ ⟨rfl, Z2, rfl, hf2, hn2, hb2⟩
          obtain ⟨hfx2, hnn2, hna2⟩ := tr_hour hC hf2
          refine ht_iinc (v := nI (j + 1)) (D 35 rfl) rfl (nI_i1 _) (by decide) rfl ?_
          refine ht_goto (tgt := 39) (D 36 rfl) (by decide) ?_
          exact ht_cast (ih (n + 1 - (j + 1)) (by omega) (j + 1) (by omega) rfl (fun i hi => by by_cases e : i = j; rw [e]; exact hz; exact hno i (by omega)) Z2 (hfx.tr hfx2) (hft.tr hf2) hn2 hb2 (hnn2.trans hnn) (by rw [hna2]; exact hbn)) rfl rfl rfl
        · skip
          have hz := b01_ne hb56
          rw [← nv_ice dN Z1 (xo + 30) (show k < 10 by omega), hn1] at hz
          refine ht_iload_n (D 29 rfl) rfl rfl ?_
          refine ht_iret (D 30 rfl) rfl rfl ?_
          exact QC_m (so_hit hno hz (by omega)).symm hfx hnn hbn
  show HT G mX9_soon 0 [some (.ref xo), some (.int x), some (.int w), none] [] (cv σ Z) 6 _
  refine ht_iload_n (D 0 rfl) rfl rfl ?_
  refine ht_aload_n (D 1 rfl) rfl rfl ?_
  refine gf_X9_24 rfl (D 2 rfl) hX.k0 hX.q1 ?_
  refine gf_X9_75 rfl (D 3 rfl) hX.nt.k0 hW.lq ?_
  refine gi_X9_97 rfl (D 4 rfl) hW.lb.k0 ?_
  rw [hW.nd]
  refine kSX9_isBelow (As := [_, _]) cl_X9_79 (D 5 rfl) (sc_isBelow _ _) rfl (Nat.le_of_ble_eq_true rfl) rfl (Nat.le_of_ble_eq_true rfl) (by omega) ?_
  rintro _ _ ⟨rfl, rfl⟩
  refine ht_if_eq (tgt := 24) (D 6 rfl) (by decide) (fun hb14 => ?_) (fun hb14 => ?_)
  · skip
    have q1 := b01_eq hb14
    refine ht_iconst (v := -1) (D 10 rfl) (by decide) ?_
    refine ht_iret (D 11 rfl) rfl rfl ?_
    first
    | exact QC_t hbar (by unfold aSoon; rw [if_neg (not_and_of_not_left _ q1)])
    | exact QC_t hbar (by unfold aSoon; rw [if_neg (not_and_of_not_right _ q2)])
  · skip
    have q1 := b01_ne hb14
    obtain ⟨k, hk1, rfl⟩ := rng (by omega) q1
    refine ht_iload_n (D 7 rfl) rfl rfl ?_
    refine kSX9_isAhead (As := [_]) cl_X9_172 (D 8 rfl) (sc_isAhead _) rfl (Nat.le_of_ble_eq_true rfl) rfl (Nat.le_of_ble_eq_true rfl) (by omega) ?_
    rintro _ _ ⟨rfl, rfl⟩
    refine ht_if_ne (tgt := 26) (D 9 rfl) (by decide) (fun hb21 => ?_) (fun hb21 => ?_)
    · skip
      have q2 := b01_ne hb21
      obtain ⟨n, hn1, hn2, rfl⟩ := rngW (lo := 1) 240 (by decide) q2 (by decide)
      refine ht_aload_n (D 12 rfl) rfl rfl ?_
      refine gf_X9_28 rfl (D 13 rfl) hX.k0 hX.q2 ?_
      refine ht_aload_n (D 14 rfl) rfl rfl ?_
      refine gf_X9_24 rfl (D 15 rfl) hX.k0 hX.q1 ?_
      refine kVX4_copyFrom (As := [_]) cl_X9_175 (D 16 rfl) (sc_ncopy hX.tr hX.nt hW.lq (by omega)) hX.tr.k0 rfl (Nat.le_of_ble_eq_true rfl) rfl (Nat.le_of_ble_eq_true rfl) (by omega) ?_
      rintro _ _ ⟨rfl, Z0, rfl, hcp⟩
      obtain ⟨hT0, hnt0, hbt0, hnn0, hna0⟩ := tr_start hC hcp
      have hX1 := hX.w0 (v := some b)
      refine ht_iconst (v := 0) (D 17 rfl) (by decide) ?_
      refine ht_istore_n (D 18 rfl) rfl (by decide) rfl ?_
      have e : aSoon V gw gi dN mN gk h (nv dN Z (xo + 14)) (nI k) (nI n) = so V gw gi dN mN gk (nv dN Z (xo + 14)) h k (n + 1) := by unfold aSoon; rw [if_pos ⟨q1, q2⟩, nI_clamp (by omega), nI_clamp (by omega)]
      rw [e]
      exact ht_cast (loop k n hk1 (by omega) hX1 Z0 hT0 (n + 1) 0 (by omega) (by omega) (fun i hi => absurd hi (by omega)) Z0 hcp.xp (Fr.rf _ _) hnt0 hbt0 hnn0 (by rw [hna0]; exact hbar)) rfl rfl rfl
    · skip
      have q2 := b01_eq hb21
      refine ht_iconst (v := -1) (D 10 rfl) (by decide) ?_
      refine ht_iret (D 11 rfl) rfl rfl ?_
      first
      | exact QC_t hbar (by unfold aSoon; rw [if_neg (not_and_of_not_left _ q1)])
      | exact QC_t hbar (by unfold aSoon; rw [if_neg (not_and_of_not_right _ q2)])
set_option maxRecDepth 100000 in
theorem sc_escape (hE : NE G) (hC : CW σ Z xo b V cN dN mN gk gw gi) (hbar : Z (xo + 14) 2 = -1) (hmn : Mn (nv dN Z (xo + 14)) cN mN) (hlk : LkI (nv dN Z (xo + 14)) dN) {h : Nat} (hh : Z (xo + 14) 1 = nI h) (h31 : h < 2 ^ 30) (x w : Int32) : Sp G mX9_escape 6 [.ref xo, .int x, .int w] (cv σ Z) (QC σ xo b dN Z (aEscape V gw gi dN mN gk h (nv dN Z (xo + 14)) x w) (nv dN Z (xo + 14))) := by
  have D := dat dl_X9_escape
  have hX := hC.1
  have hW := hC.2.1
  have h10 := hW.d10
  have h8 := hW.c8
  have h6 := hW.m6
  have h2 := hW.g2
  have loop : ∀ k n : Nat, k < mN → n ≤ 240 → XS (wQ σ (xo + 30) 0 (some b)) xo → ∀ Z0 : VT, NW (wQ σ (xo + 30) 0 (some b)) Z0 (xo + 30) b V cN dN mN gk gw gi → ∀ r j : Nat, j ≤ n → n - j = r → esF V gw gi dN mN gk (nv dN Z (xo + 14)) h k (j + 1) (n - j) = esF V gw gi dN mN gk (nv dN Z (xo + 14)) h k 1 n → ∀ Z1 : VT, Fr (XP σ xo b) Z Z1 → Fr (NP (wQ σ (xo + 30) 0 (some b)) (xo + 30) b) Z0 Z1 → nv dN Z1 (xo + 30) = psI V gw gi dN mN gk (nv dN Z (xo + 14)) h j → Z1 (xo + 30) 2 = -1 → nv dN Z1 (xo + 14) = nv dN Z (xo + 14) → Z1 (xo + 14) 2 = -1 → HT G mX9_escape 30 [some (.ref xo), some (.int (nI k)), some (.int (nI n)), some (.int (nI (j + 1)))] [] (cv (wQ σ (xo + 30) 0 (some b)) Z1) 6 (QC σ xo b dN Z (esF V gw gi dN mN gk (nv dN Z (xo + 14)) h k 1 n) (nv dN Z (xo + 14))) := by
    intro k n hk hn hX1 Z0 hT0 r
    induction r using Nat.strongRecOn with
    | _ r ih =>
      intro j hj hr hes Z1 hfx hft hn1 hb1 hnn hbn
      have hT1 := hT0.keep hft
      refine ht_iload_n (D 16 rfl) rfl rfl ?_
      refine ht_iload_n (D 17 rfl) rfl rfl ?_
      refine ht_icmp_gt (tgt := 64) (D 18 rfl) (by decide) (fun hb32 => ?_) (fun hb32 => ?_)
      · skip
        have hjk : n < j + 1 := (nI_ltI (by omega) (by omega)).mp hb32
        refine ht_iconst (v := -1) (D 34 rfl) (by decide) ?_
        refine ht_iret (D 35 rfl) rfl rfl ?_
        exact QC_m (by rw [← hes, show n - j = 0 by omega]; rfl) hfx hnn hbn
      · skip
        have hjk : ¬ n < j + 1 := fun c => hb32 (nI_lt c (by omega))
        refine ht_aload_n (D 19 rfl) rfl rfl ?_
        refine gf_X9_28 rfl (D 20 rfl) hX1.k0 hX1.q2 ?_
        refine ht_iconst (v := 0) (D 21 rfl) (by decide) ?_
        refine kVX4_passHour (As := [_]) cl_X9_165 (D 22 rfl) (sc_hr hE hT1 hb1 hn1 (psI_lk hW.px gw gi hlk hmn h j) (psI_mn hW.pl gw gi h hmn j) (psI_80 V gw gi dN mN gk (S := nv dN Z (xo + 14)) hh j) (by omega) 0) hX1.tr.k0 rfl (Nat.le_of_ble_eq_true rfl) rfl (Nat.le_of_ble_eq_true rfl) (by omega) ?_
        rintro _ _ ⟨rfl, Z2, rfl, hf2, hn2, hb2⟩
        obtain ⟨hfx2, hnn2, hna2⟩ := tr_hour hC hf2
        refine ht_aload_n (D 23 rfl) rfl rfl ?_
        refine gf_X9_28 rfl (D 24 rfl) hX1.k0 hX1.q2 ?_
        refine gf_X9_131 rfl (D 25 rfl) hX1.tr.k0 hX1.tr.q2 ?_
        refine ht_iload_n (D 26 rfl) rfl rfl ?_
        refine hi_ild (n := k) (D 27 rfl) hX1.tr.k2 hX1.tr.n2 rfl (by omega) (by first | decide | omega) ?_
        refine ht_iconst (v := -1) (D 28 rfl) (by decide) ?_
        refine ht_icmp_ne (tgt := 58) (D 29 rfl) (by decide) (fun hb53 => ?_) (fun hb53 => ?_)
        · skip
          have hz : ¬ psI V gw gi dN mN gk (nv dN Z (xo + 14)) h (j + 1) (68 + k) < 0 := by
            rw [show psI V gw gi dN mN gk (nv dN Z (xo + 14)) h (j + 1) = nv dN Z2 (xo + 30) from hn2.symm]
            have q := psI_mn hW.pl gw gi h hmn (j + 1) k hk
            rw [show psI V gw gi dN mN gk (nv dN Z (xo + 14)) h (j + 1) = nv dN Z2 (xo + 30) from hn2.symm] at q
            rw [nv_man _ _ _ (show k < 6 by omega)] at q ⊢
            rcases q with q | ⟨c, c1, c2⟩
            · exact absurd q hb53
            · rw [c2]; exact nI_pos (by omega)
          refine ht_iinc (v := nI ((j + 1) + 1)) (D 32 rfl) rfl (nI_i1 _) (by decide) rfl ?_
          refine ht_goto (tgt := 30) (D 33 rfl) (by decide) ?_
          exact ht_cast (ih (n - (j + 1)) (by omega) (j + 1) (by omega) rfl (by rw [← hes, show n - j = n - (j + 1) + 1 by omega, esF_n hz]) Z2 (hfx.tr hfx2) (hft.tr hf2) hn2 hb2 (hnn2.trans hnn) (by rw [hna2]; exact hbn)) rfl rfl rfl
        · skip
          have hz : psI V gw gi dN mN gk (nv dN Z (xo + 14)) h (j + 1) (68 + k) < 0 := by
            rw [show psI V gw gi dN mN gk (nv dN Z (xo + 14)) h (j + 1) = nv dN Z2 (xo + 30) from hn2.symm, nv_man _ _ _ (show k < 6 by omega), hb53]
            decide
          refine ht_iload_n (D 30 rfl) rfl rfl ?_
          refine ht_iret (D 31 rfl) rfl rfl ?_
          exact QC_m (by rw [← hes, show n - j = n - (j + 1) + 1 by omega, esF_y hz]) (hfx.tr hfx2) (hnn2.trans hnn) (by rw [hna2]; exact hbn)
  show HT G mX9_escape 0 [some (.ref xo), some (.int x), some (.int w), none] [] (cv σ Z) 6 _
  refine ht_aload_n (D 0 rfl) rfl rfl ?_
  refine ht_iload_n (D 1 rfl) rfl rfl ?_
  refine kVX9_isHeld (As := [_]) cl_X9_154 (D 2 rfl) (sc_isHeld hE hC hbar hmn x) hX.k0 rfl (Nat.le_of_ble_eq_true rfl) rfl (Nat.le_of_ble_eq_true rfl) (by omega) ?_
  rintro _ _ ⟨⟨y, rfl, hy⟩, rfl⟩
  refine ht_if_eq (tgt := 15) (D 3 rfl) (by decide) (fun hb5 => ?_) (fun hb5 => ?_)
  · skip
    have hnh := hd_0 hy hb5
    refine ht_iconst (v := -1) (D 7 rfl) (by decide) ?_
    refine ht_iret (D 8 rfl) rfl rfl ?_
    first
    | exact QC_t hbar (by rw [aEscape_f (not_and_of_not_left _ hnh)])
    | exact QC_t hbar (by rw [aEscape_f (not_and_of_not_right _ q2)])
  · skip
    have hhe := hd_1 hy hb5
    obtain ⟨k, hk1, rfl⟩ := rng (by omega) hhe.1
    refine ht_iload_n (D 4 rfl) rfl rfl ?_
    refine kSX9_isAhead (As := [_]) cl_X9_172 (D 5 rfl) (sc_isAhead _) rfl (Nat.le_of_ble_eq_true rfl) rfl (Nat.le_of_ble_eq_true rfl) (by omega) ?_
    rintro _ _ ⟨rfl, rfl⟩
    refine ht_if_ne (tgt := 17) (D 6 rfl) (by decide) (fun hb12 => ?_) (fun hb12 => ?_)
    · skip
      have q2 := b01_ne hb12
      obtain ⟨n, hn1, hn2, rfl⟩ := rngW (lo := 1) 240 (by decide) q2 (by decide)
      refine ht_aload_n (D 9 rfl) rfl rfl ?_
      refine gf_X9_28 rfl (D 10 rfl) hX.k0 hX.q2 ?_
      refine ht_aload_n (D 11 rfl) rfl rfl ?_
      refine gf_X9_24 rfl (D 12 rfl) hX.k0 hX.q1 ?_
      refine kVX4_copyFrom (As := [_]) cl_X9_175 (D 13 rfl) (sc_ncopy hX.tr hX.nt hW.lq (by omega)) hX.tr.k0 rfl (Nat.le_of_ble_eq_true rfl) rfl (Nat.le_of_ble_eq_true rfl) (by omega) ?_
      rintro _ _ ⟨rfl, Z0, rfl, hcp⟩
      obtain ⟨hT0, hnt0, hbt0, hnn0, hna0⟩ := tr_start hC hcp
      have hX1 := hX.w0 (v := some b)
      refine ht_iconst (v := 1) (D 14 rfl) (by decide) ?_
      refine ht_istore_n (D 15 rfl) rfl (by decide) rfl ?_
      have e : aEscape V gw gi dN mN gk h (nv dN Z (xo + 14)) (nI k) (nI n) = esF V gw gi dN mN gk (nv dN Z (xo + 14)) h k 1 n := by rw [aEscape_t ⟨hhe, q2⟩, nI_clamp (by omega), nI_clamp (by omega)]
      rw [e]
      exact ht_cast (loop k n hk1 (by omega) hX1 Z0 hT0 n 0 (by omega) (by omega) rfl Z0 hcp.xp (Fr.rf _ _) hnt0 hbt0 hnn0 (by rw [hna0]; exact hbar)) rfl rfl rfl
    · skip
      have q2 := b01_eq hb12
      refine ht_iconst (v := -1) (D 7 rfl) (by decide) ?_
      refine ht_iret (D 8 rfl) rfl rfl ?_
      first
      | exact QC_t hbar (by rw [aEscape_f (not_and_of_not_left _ hnh)])
      | exact QC_t hbar (by rw [aEscape_f (not_and_of_not_right _ q2)])
theorem am_a {p q r : Prop} (h : p) : ¬ (¬ p ∧ q ∧ r) := fun z => z.1 h
theorem am_b {p q r : Prop} (h : ¬ q) : ¬ (p ∧ q ∧ r) := fun z => h z.2.1
theorem am_c {p q r : Prop} (h : ¬ r) : ¬ (p ∧ q ∧ r) := fun z => h z.2.2
theorem gcd_is {k n e : Nat} (hn : 0 < n) (h1 : e ∣ k) (h2 : e ∣ n) (h3 : ∀ q, e < q → q ≤ n → ¬ (q ∣ k ∧ q ∣ n)) (he : 0 < e) : Nat.gcd k n = e := by
  have g1 := Nat.gcd_dvd_left k n
  have g2 := Nat.gcd_dvd_right k n
  have g3 : e ∣ Nat.gcd k n := Nat.dvd_gcd h1 h2
  have g4 : Nat.gcd k n ≤ n := Nat.le_of_dvd hn g2
  have g5 : e ≤ Nat.gcd k n := Nat.le_of_dvd (Nat.gcd_pos_of_pos_right k hn) g3
  by_cases c : e < Nat.gcd k n
  · exact absurd ⟨g1, g2⟩ (h3 _ c g4)
  · omega
set_option maxRecDepth 100000 in
theorem sc_amnesty (hE : NE G) (hC : CW σ Z xo b V cN dN mN gk gw gi) (hbar : Z (xo + 14) 2 = -1) (hmn : Mn (nv dN Z (xo + 14)) cN mN) (x w : Int32) : Sp G mX9_amnesty 1 [.ref xo, .int x, .int w] (cv σ Z) (QC σ xo b dN Z (aAmn (nv dN Z (xo + 14)) mN x w) (nv dN Z (xo + 14))) := by
  have D := dat dl_X9_amnesty
  have hX := hC.1
  have hW := hC.2.1
  have h10 := hW.d10
  have h8 := hW.c8
  have h6 := hW.m6
  have h2 := hW.g2
  have loop : ∀ k nh : Nat, k ≤ nh → nh ≤ 6 → 0 < nh → hN (nv dN Z (xo + 14)) mN = nh → (¬ nI (hN (nv dN Z (xo + 14)) mN) = 0 ∧ (0 ≤ nI k ∧ nI k ≤ nI (hN (nv dN Z (xo + 14)) mN)) ∧ (0 ≤ w ∧ w ≤ 1)) → ∀ e : Nat, e ≤ nh → 0 < e → (∀ q, e < q → q ≤ nh → ¬ (q ∣ k ∧ q ∣ nh)) → HT G mX9_amnesty 35 [some (.ref xo), some (.int (nI k)), some (.int w), some (.int (nI nh)), some (.int (nI e))] [] (cv σ Z) 1 (QC σ xo b dN Z (aAmn (nv dN Z (xo + 14)) mN (nI k) w) (nv dN Z (xo + 14))) := by
    intro k nh hk hn6 hn0 hnn hok e
    induction e using Nat.strongRecOn with
    | _ e ih =>
      intro he he0 hinv
      refine ht_iload (D 20 rfl) rfl ?_
      refine ht_iconst (v := 1) (D 21 rfl) (by decide) ?_
      refine ht_icmp_le (tgt := 61) (D 22 rfl) (by decide) (fun hb38 => ?_) (fun hb38 => ?_)
      · skip
        have he1 : e = 1 := by have h3 := (nI_leI (a := e) (b := 1) (by omega) (by omega)).mp hb38; omega
        have hg : Nat.gcd k nh = e := gcd_is (by omega) (by rw [he1]; exact Nat.one_dvd _) (by rw [he1]; exact Nat.one_dvd _) hinv (by omega)
        refine ht_iload_n (D 33 rfl) rfl rfl ?_
        refine ht_if_ne (tgt := 69) (D 34 rfl) (by decide) (fun hb62 => ?_) (fun hb62 => ?_)
        · skip
          refine ht_iload_n (D 37 rfl) rfl rfl ?_
          refine ht_iload (D 38 rfl) rfl ?_
          refine ht_idiv (D 39 rfl) (nI_ne0 (by omega) (by omega)) ?_
          refine ht_iret (D 40 rfl) rfl rfl ?_
          first
          | (have hw0 : w = 0 := hb62
             rw [pk_div (by omega) (by omega) (by omega)]
             exact QC_t hbar (by unfold aAmn; rw [if_pos hok, hnn, if_pos hw0, nI_clamp (by omega), hg]))
          | (have hw0 : ¬ w = 0 := hb62
             rw [pk_div (by omega) (by omega) (by omega)]
             exact QC_t hbar (by unfold aAmn; rw [if_pos hok, hnn, if_neg hw0, nI_clamp (by omega), hg]))
        · skip
          refine ht_iload_n (D 35 rfl) rfl rfl ?_
          refine ht_goto (tgt := 70) (D 36 rfl) (by decide) ?_
          refine ht_iload (D 38 rfl) rfl ?_
          refine ht_idiv (D 39 rfl) (nI_ne0 (by omega) (by omega)) ?_
          refine ht_iret (D 40 rfl) rfl rfl ?_
          first
          | (have hw0 : w = 0 := hb62
             rw [pk_div (by omega) (by omega) (by omega)]
             exact QC_t hbar (by unfold aAmn; rw [if_pos hok, hnn, if_pos hw0, nI_clamp (by omega), hg]))
          | (have hw0 : ¬ w = 0 := hb62
             rw [pk_div (by omega) (by omega) (by omega)]
             exact QC_t hbar (by unfold aAmn; rw [if_pos hok, hnn, if_neg hw0, nI_clamp (by omega), hg]))
      · skip
        have he1 : 1 < e := by have h3 := mt (nI_leI (a := e) (b := 1) (by omega) (by omega)).mpr hb38; omega
        refine ht_iload_n (D 23 rfl) rfl rfl ?_
        refine ht_iload (D 24 rfl) rfl ?_
        refine ht_irem (D 25 rfl) (nI_ne0 (by omega) (by omega)) ?_
        rw [pk_rem (by omega) (by omega) (by omega)]
        refine ht_if_ne (tgt := 55) (D 26 rfl) (by decide) (fun hb45 => ?_) (fun hb45 => ?_)
        · skip
          have hnd : ¬ (e ∣ k ∧ e ∣ nh) := fun q => hb45 (by rw [Nat.mod_eq_zero_of_dvd q.1]; rfl)
          refine ht_iinc (v := nI (e - 1)) (D 31 rfl) rfl (nI_dec (by omega)) (by decide) rfl ?_
          refine ht_goto (tgt := 35) (D 32 rfl) (by decide) ?_
          exact ht_cast (ih (e - 1) (by omega) (by omega) (by omega) (fun q h1 h2 => by by_cases c : q = e; rw [c]; exact hnd; exact hinv q (by omega) h2)) rfl rfl rfl
        · skip
          refine ht_iload_n (D 27 rfl) rfl rfl ?_
          refine ht_iload (D 28 rfl) rfl ?_
          refine ht_irem (D 29 rfl) (nI_ne0 (by omega) (by omega)) ?_
          rw [pk_rem (by omega) (by omega) (by omega)]
          refine ht_if_eq (tgt := 61) (D 30 rfl) (by decide) (fun hb52 => ?_) (fun hb52 => ?_)
          · skip
            have hg : Nat.gcd k nh = e := gcd_is (by omega) (Nat.dvd_of_mod_eq_zero (nI_z hb45 (by have := Nat.mod_lt k (show 0 < e by omega); omega))) (Nat.dvd_of_mod_eq_zero (nI_z hb52 (by have := Nat.mod_lt nh (show 0 < e by omega); omega))) hinv (by omega)
            refine ht_iload_n (D 33 rfl) rfl rfl ?_
            refine ht_if_ne (tgt := 69) (D 34 rfl) (by decide) (fun hb62 => ?_) (fun hb62 => ?_)
            · skip
              refine ht_iload_n (D 37 rfl) rfl rfl ?_
              refine ht_iload (D 38 rfl) rfl ?_
              refine ht_idiv (D 39 rfl) (nI_ne0 (by omega) (by omega)) ?_
              refine ht_iret (D 40 rfl) rfl rfl ?_
              first
              | (have hw0 : w = 0 := hb62
                 rw [pk_div (by omega) (by omega) (by omega)]
                 exact QC_t hbar (by unfold aAmn; rw [if_pos hok, hnn, if_pos hw0, nI_clamp (by omega), hg]))
              | (have hw0 : ¬ w = 0 := hb62
                 rw [pk_div (by omega) (by omega) (by omega)]
                 exact QC_t hbar (by unfold aAmn; rw [if_pos hok, hnn, if_neg hw0, nI_clamp (by omega), hg]))
            · skip
              refine ht_iload_n (D 35 rfl) rfl rfl ?_
              refine ht_goto (tgt := 70) (D 36 rfl) (by decide) ?_
              refine ht_iload (D 38 rfl) rfl ?_
              refine ht_idiv (D 39 rfl) (nI_ne0 (by omega) (by omega)) ?_
              refine ht_iret (D 40 rfl) rfl rfl ?_
              first
              | (have hw0 : w = 0 := hb62
                 rw [pk_div (by omega) (by omega) (by omega)]
                 exact QC_t hbar (by unfold aAmn; rw [if_pos hok, hnn, if_pos hw0, nI_clamp (by omega), hg]))
              | (have hw0 : ¬ w = 0 := hb62
                 rw [pk_div (by omega) (by omega) (by omega)]
                 exact QC_t hbar (by unfold aAmn; rw [if_pos hok, hnn, if_neg hw0, nI_clamp (by omega), hg]))
          · skip
            have hnd : ¬ (e ∣ k ∧ e ∣ nh) := fun q => hb52 (by rw [Nat.mod_eq_zero_of_dvd q.2]; rfl)
            refine ht_iinc (v := nI (e - 1)) (D 31 rfl) rfl (nI_dec (by omega)) (by decide) rfl ?_
            refine ht_goto (tgt := 35) (D 32 rfl) (by decide) ?_
            exact ht_cast (ih (e - 1) (by omega) (by omega) (by omega) (fun q h1 h2 => by by_cases c : q = e; rw [c]; exact hnd; exact hinv q (by omega) h2)) rfl rfl rfl
  show HT G mX9_amnesty 0 [some (.ref xo), some (.int x), some (.int w), none, none] [] (cv σ Z) 1 _
  refine ht_aload_n (D 0 rfl) rfl rfl ?_
  refine gf_X9_24 rfl (D 1 rfl) hX.k0 hX.q1 ?_
  refine kVX4_menHeld (As := []) cl_X9_213 (D 2 rfl) (sc_menHeld hX.nt hW.lq hW.lb hW.nm h6) hX.nt.k0 rfl (Nat.le_of_ble_eq_true rfl) rfl (Nat.le_of_ble_eq_true rfl) (by omega) ?_
  rintro _ _ ⟨rfl, rfl⟩
  rw [hNc_e (T := nv dN Z (xo + 14)) (n := mN) (fun i hi => (nv_man _ _ _ (show i < 6 by omega)).symm) hmn h8 mN (Nat.le_refl _)]
  generalize hnn : hN (nv dN Z (xo + 14)) mN = nh
  have hnh6 : nh ≤ 6 := by rw [← hnn]; exact Nat.le_trans (hN_le _ _) h6
  refine ht_istore_n (D 3 rfl) rfl (by decide) rfl ?_
  refine ht_iload_n (D 4 rfl) rfl rfl ?_
  refine ht_if_eq (tgt := 30) (D 5 rfl) (by decide) (fun hb9 => ?_) (fun hb9 => ?_)
  · skip
    refine ht_iconst (v := -1) (D 16 rfl) (by decide) ?_
    refine ht_iret (D 17 rfl) rfl rfl ?_
    first
    | exact QC_t hbar (by unfold aAmn; rw [hnn, if_neg (am_a hb9)])
    | exact QC_t hbar (by unfold aAmn; rw [hnn, if_neg (am_b q1)])
    | exact QC_t hbar (by unfold aAmn; rw [hnn, if_neg (am_c q2)])
  · skip
    refine ht_iload_n (D 6 rfl) rfl rfl ?_
    refine ht_iconst (v := 0) (D 7 rfl) (by decide) ?_
    refine ht_iload_n (D 8 rfl) rfl rfl ?_
    refine kSX9_isWithin (As := [_, _, _]) cl_X9_142 (D 9 rfl) (sc_isWithin _ _ _) rfl (Nat.le_of_ble_eq_true rfl) rfl (Nat.le_of_ble_eq_true rfl) (by omega) ?_
    rintro _ _ ⟨rfl, rfl⟩
    refine ht_if_eq (tgt := 30) (D 10 rfl) (by decide) (fun hb18 => ?_) (fun hb18 => ?_)
    · skip
      have q1 := b01_eq hb18
      refine ht_iconst (v := -1) (D 16 rfl) (by decide) ?_
      refine ht_iret (D 17 rfl) rfl rfl ?_
      first
      | exact QC_t hbar (by unfold aAmn; rw [hnn, if_neg (am_a hb9)])
      | exact QC_t hbar (by unfold aAmn; rw [hnn, if_neg (am_b q1)])
      | exact QC_t hbar (by unfold aAmn; rw [hnn, if_neg (am_c q2)])
    · skip
      have q1 := b01_ne hb18
      obtain ⟨k, hk1, hk2, rfl⟩ := rngW (lo := 0) nh (by omega) q1 (by decide)
      refine ht_iload_n (D 11 rfl) rfl rfl ?_
      refine ht_iconst (v := 0) (D 12 rfl) (by decide) ?_
      refine ht_iconst (v := 1) (D 13 rfl) (by decide) ?_
      refine kSX9_isWithin (As := [_, _, _]) cl_X9_142 (D 14 rfl) (sc_isWithin _ _ _) rfl (Nat.le_of_ble_eq_true rfl) rfl (Nat.le_of_ble_eq_true rfl) (by omega) ?_
      rintro _ _ ⟨rfl, rfl⟩
      refine ht_if_ne (tgt := 32) (D 15 rfl) (by decide) (fun hb27 => ?_) (fun hb27 => ?_)
      · skip
        have q2 := b01_ne hb27
        refine ht_iload_n (D 18 rfl) rfl rfl ?_
        refine ht_istore (D 19 rfl) (by decide) rfl ?_
        have hn0 : 0 < nh := Nat.pos_of_ne_zero (fun c => hb9 (by rw [c]; rfl))
        exact ht_cast (loop k nh hk1 hnh6 hn0 hnn (by rw [hnn]; exact ⟨hb9, q1, q2⟩) nh (by omega) hn0 (fun q h1 h2 => absurd h1 (by omega))) rfl rfl rfl
      · skip
        have q2 := b01_eq hb27
        refine ht_iconst (v := -1) (D 16 rfl) (by decide) ?_
        refine ht_iret (D 17 rfl) rfl rfl ?_
        first
        | exact QC_t hbar (by unfold aAmn; rw [hnn, if_neg (am_a hb9)])
        | exact QC_t hbar (by unfold aAmn; rw [hnn, if_neg (am_b q1)])
        | exact QC_t hbar (by unfold aAmn; rw [hnn, if_neg (am_c q2)])
end C10
