/-! ===== the class: first, enough ===== -/
section C11
variable {G : GG} {σ : Hp} {Z : VT} {xo b : Nat} {V : VT} {cN dN mN gk : Nat} {gw : Option GWt} {gi : Option GIt}
set_option maxRecDepth 100000 in
theorem sc_fill {q N : Nat} (hq : zK σ q = 20) (hqn : zN σ q = N) (hN : N ≤ 1000) (x : Int32) : Sp G mJ7_fill_53178 0 [.ref q, .int x] (cv σ Z) (fun rv σ' => rv = none ∧ ∃ Z2 : VT, σ' = cv σ Z2 ∧ Do q Z Z2 ∧ ∀ i, i < N → Z2 q i = x) := by
  have D := dat dl_J7_fill_53178
  have loop : ∀ r j : Nat, j ≤ N → N - j = r → ∀ Z1 : VT, Do q Z Z1 → (∀ i, i < j → Z1 q i = x) → HT G mJ7_fill_53178 5 [some (.ref q), some (.int x), some (.int (nI j)), some (.int (nI N))] [] (cv σ Z1) 0 (fun rv σ' => rv = none ∧ ∃ Z2 : VT, σ' = cv σ Z2 ∧ Do q Z Z2 ∧ ∀ i, i < N → Z2 q i = x) := by
    intro r
    induction r using Nat.strongRecOn with
    | _ r ih =>
      intro j hj hr Z1 hd1 hi1
      refine ht_iload_n (D 5 rfl) rfl rfl ?_
      refine ht_iload_n (D 6 rfl) rfl rfl ?_
      refine ht_icmp_ge (tgt := 20) (D 7 rfl) (by decide) (fun hb7 => ?_) (fun hb7 => ?_)
      · skip
        have hjk : j = N := by have h3 := (nI_leI (a := N) (b := j) (by omega) (by omega)).mp hb7; omega
        subst hjk
        refine ht_vret (D 14 rfl) rfl ?_
        exact ⟨rfl, Z1, rfl, hd1, hi1⟩
      · skip
        have hjk : j < N := by have h3 := mt (nI_leI (a := N) (b := j) (by omega) (by omega)).mpr hb7; omega
        refine ht_aload_n (D 8 rfl) rfl rfl ?_
        refine ht_iload_n (D 9 rfl) rfl rfl ?_
        refine ht_iload_n (D 10 rfl) rfl rfl ?_
        refine hi_ist (n := j) (D 11 rfl) hq hqn (by first | rfl | exact nI_add _ _ | assumption) (by omega) (by first | decide | omega) ?_
        refine ht_iinc (v := nI (j + 1)) (D 12 rfl) rfl (nI_i1 _) (by decide) rfl ?_
        refine ht_goto (tgt := 5) (D 13 rfl) (by decide) ?_
        exact ht_cast (ih (N - (j + 1)) (by omega) (j + 1) (by omega) rfl _ (hd1.up _ _) (fun i hi => by by_cases e : i = j; rw [e, up2_s]; rw [up2_at _ _ e]; exact hi1 i (by omega))) rfl rfl rfl
  show HT G mJ7_fill_53178 0 [some (.ref q), some (.int x), none, none] [] (cv σ Z) 0 _
  refine ht_iconst (v := 0) (D 0 rfl) (by decide) ?_
  refine ht_istore_n (D 1 rfl) rfl (by decide) rfl ?_
  refine ht_aload_n (D 2 rfl) rfl rfl ?_
  refine ht_len (by decide) (by decide) (D 3 rfl) hq hqn ?_
  refine ht_istore_n (D 4 rfl) rfl (by decide) rfl ?_
  exact ht_cast (loop N 0 (by omega) (by omega) Z (Do.rf _ _) (fun i hi => absurd hi (by omega))) rfl rfl rfl
def nlF (F : Nat → Nat) (T : ST) (t n d : Nat) : Nat := if n < F d ∧ T d = 0 then t else F d
def nlM (F : Nat → Nat) (T : ST) (n d : Nat) : Bool := decide (n < F d ∧ ¬ T d = 0)
theorem nlM_t {F : Nat → Nat} {T : ST} {n d : Nat} (h : n < F d ∧ ¬ T d = 0) : cn (nlM F T n) (d + 1) = cn (nlM F T n) d + 1 := by
  show cn (nlM F T n) d + (if nlM F T n d = true then 1 else 0) = _
  rw [show nlM F T n d = true from decide_eq_true h]
  rfl
theorem nlM_f {F : Nat → Nat} {T : ST} {n d : Nat} (h : ¬ (n < F d ∧ ¬ T d = 0)) : cn (nlM F T n) (d + 1) = cn (nlM F T n) d := by
  show cn (nlM F T n) d + (if nlM F T n d = true then 1 else 0) = _
  rw [show nlM F T n d = false from decide_eq_false h]
  rfl
set_option maxRecDepth 100000 in
theorem sc_noteLoose (hX : XS σ xo) (hLn : zQ σ (xo + 14) 0 = some b) (hB : LwS σ b) (hnd : Z b 1 = nI dN) (h10 : dN ≤ 10) (hbq : b ≠ xo + 47) {F : Nat → Nat} {T : ST} {t n : Nat} (hn : n ≤ 240) (hF : ∀ d, d < dN → F d ≤ n + 1) (hS : ∀ d, d < dN → Z (xo + 47) d = nI (F d)) (hT : ∀ d, d < dN → Z (xo + 30 + 6 + d) 0 = T d) : Sp G mX9_noteLoose 1 [.ref xo, .int (nI t), .int (nI n)] (cv σ Z) (fun rv σ' => rv = some (.int (nI (cn (nlM F T n) dN))) ∧ ∃ Z2 : VT, σ' = cv σ Z2 ∧ Do (xo + 47) Z Z2 ∧ ∀ d, d < dN → Z2 (xo + 47) d = nI (nlF F T t n d)) := by
  have D := dat dl_X9_noteLoose
  have loop : ∀ r j : Nat, j ≤ dN → dN - j = r → ∀ Z1 : VT, Do (xo + 47) Z Z1 → (∀ d, d < j → d < dN → Z1 (xo + 47) d = nI (nlF F T t n d)) → (∀ d, j ≤ d → d < dN → Z1 (xo + 47) d = nI (F d)) → HT G mX9_noteLoose 5 [some (.ref xo), some (.int (nI t)), some (.int (nI n)), some (.int (nI (cn (nlM F T n) j))), some (.int (nI j))] [] (cv σ Z1) 1 (fun rv σ' => rv = some (.int (nI (cn (nlM F T n) dN))) ∧ ∃ Z2 : VT, σ' = cv σ Z2 ∧ Do (xo + 47) Z Z2 ∧ ∀ d, d < dN → Z2 (xo + 47) d = nI (nlF F T t n d)) := by
    intro r
    induction r using Nat.strongRecOn with
    | _ r ih =>
      intro j hj hr Z1 hd1 hdone hrest
      refine ht_iload (D 4 rfl) rfl ?_
      refine ht_aload_n (D 5 rfl) rfl rfl ?_
      refine gf_X9_24 rfl (D 6 rfl) hX.k0 hX.q1 ?_
      refine gf_X9_75 rfl (D 7 rfl) hX.nt.k0 hLn ?_
      refine gi_X9_97 rfl (D 8 rfl) hB.k0 ?_
      refine ht_icmp_ge (tgt := 67) (D 9 rfl) (by decide) (fun hb17 => ?_) (fun hb17 => ?_)
      · skip
        have hjk : j = dN := by rw [hd1 b hbq, hnd] at hb17; have h3 := (nI_leI (a := dN) (b := j) (by omega) (by omega)).mp hb17; omega
        subst hjk
        refine ht_iload_n (D 32 rfl) rfl rfl ?_
        refine ht_iret (D 33 rfl) rfl rfl ?_
        exact ⟨rfl, Z1, rfl, hd1, fun d hd => hdone d hd hd⟩
      · skip
        have hjk : j < dN := by rw [hd1 b hbq, hnd] at hb17; have h3 := mt (nI_leI (a := dN) (b := j) (by omega) (by omega)).mpr hb17; omega
        have hFj := hF j hjk
        refine ht_aload_n (D 10 rfl) rfl rfl ?_
        refine gf_X9_35 rfl (D 11 rfl) hX.k0 hX.q4 ?_
        refine ht_iload (D 12 rfl) rfl ?_
        refine hi_ild (n := j) (D 13 rfl) hX.k4 hX.n4 (by first | rfl | exact nI_add _ _ | assumption) (by omega) (by first | decide | omega) ?_
        refine ht_iload_n (D 14 rfl) rfl rfl ?_
        refine ht_icmp_le (tgt := 61) (D 15 rfl) (by decide) (fun hb28 => ?_) (fun hb28 => ?_)
        · skip
          rw [hrest j (Nat.le_refl _) hjk] at hb28
          have hle : F j ≤ n := (nI_leI (by omega) (by omega)).mp hb28
          have hcn : cn (nlM F T n) (j + 1) = cn (nlM F T n) j := nlM_f (by omega)
          have hnf : nlF F T t n j = F j := if_neg (by omega)
          refine ht_iinc (v := nI (j + 1)) (D 30 rfl) rfl (nI_i1 _) (by decide) rfl ?_
          refine ht_goto (tgt := 5) (D 31 rfl) (by decide) ?_
          first
          | exact ht_cast (ih (dN - (j + 1)) (by omega) (j + 1) (by omega) rfl Z1 hd1 (fun d h1 h2 => by by_cases e : d = j; rw [e, hnf]; exact hrest j (Nat.le_refl _) hjk; exact hdone d (by omega) h2) (fun d h1 h2 => hrest d (by omega) h2)) (by simp only [List.set, hcn]) rfl rfl
          | exact ht_cast (ih (dN - (j + 1)) (by omega) (j + 1) (by omega) rfl _ (hd1.up _ _) (fun d h1 h2 => by by_cases e : d = j; rw [e, hnf, up2_s]; rw [up2_at _ _ e]; exact hdone d (by omega) h2) (fun d h1 h2 => by rw [up2_at _ _ (show d ≠ j by omega)]; exact hrest d (by omega) h2)) (by simp only [List.set, hcn]) rfl rfl
        · skip
          rw [hrest j (Nat.le_refl _) hjk] at hb28
          have hle : ¬ F j ≤ n := fun c => hb28 (nI_le c (by omega))
          refine ht_aload_n (D 16 rfl) rfl rfl ?_
          refine gf_X9_28 rfl (D 17 rfl) hX.k0 hX.q2 ?_
          refine gf_X9_100 rfl (D 18 rfl) hX.tr.k0 hX.tr.q4 ?_
          refine ht_iload (D 19 rfl) rfl ?_
          refine ht_ald (n := j) (Or.inl rfl) (D 20 rfl) hX.tr.k4 hX.tr.n4 rfl (by omega) (by decide) (hX.tr.lq (j := j) (by omega)) ?_
          refine kVX3_isLoose (As := []) cl_X9_179 (D 21 rfl) (sc_isLoose (hX.tr.lk (j := j) (by omega))) (hX.tr.lk (j := j) (by omega)) rfl (Nat.le_of_ble_eq_true rfl) rfl (Nat.le_of_ble_eq_true rfl) (by omega) ?_
          rintro _ _ ⟨rfl, rfl⟩
          refine ht_if_eq (tgt := 58) (D 22 rfl) (by decide) (fun hb44 => ?_) (fun hb44 => ?_)
          · skip
            have hz := b01_eq hb44
            rw [show Z1 (xo + 30 + 6 + j) = Z (xo + 30 + 6 + j) from hd1 _ (by omega), hT j hjk] at hz
            have hcn : cn (nlM F T n) (j + 1) = cn (nlM F T n) j + 1 := nlM_t ⟨by omega, hz⟩
            have hnf : nlF F T t n j = F j := if_neg (fun c => hz c.2)
            refine ht_iinc (v := nI (cn (nlM F T n) j + 1)) (D 29 rfl) rfl (nI_i1 _) (by decide) rfl ?_
            refine ht_iinc (v := nI (j + 1)) (D 30 rfl) rfl (nI_i1 _) (by decide) rfl ?_
            refine ht_goto (tgt := 5) (D 31 rfl) (by decide) ?_
            first
            | exact ht_cast (ih (dN - (j + 1)) (by omega) (j + 1) (by omega) rfl Z1 hd1 (fun d h1 h2 => by by_cases e : d = j; rw [e, hnf]; exact hrest j (Nat.le_refl _) hjk; exact hdone d (by omega) h2) (fun d h1 h2 => hrest d (by omega) h2)) (by simp only [List.set, hcn]) rfl rfl
            | exact ht_cast (ih (dN - (j + 1)) (by omega) (j + 1) (by omega) rfl _ (hd1.up _ _) (fun d h1 h2 => by by_cases e : d = j; rw [e, hnf, up2_s]; rw [up2_at _ _ e]; exact hdone d (by omega) h2) (fun d h1 h2 => by rw [up2_at _ _ (show d ≠ j by omega)]; exact hrest d (by omega) h2)) (by simp only [List.set, hcn]) rfl rfl
          · skip
            have hz := b01_ne hb44
            rw [show Z1 (xo + 30 + 6 + j) = Z (xo + 30 + 6 + j) from hd1 _ (by omega), hT j hjk] at hz
            have hcn : cn (nlM F T n) (j + 1) = cn (nlM F T n) j := nlM_f (fun c => c.2 hz)
            have hnf : nlF F T t n j = t := if_pos ⟨by omega, hz⟩
            refine ht_aload_n (D 23 rfl) rfl rfl ?_
            refine gf_X9_35 rfl (D 24 rfl) hX.k0 hX.q4 ?_
            refine ht_iload (D 25 rfl) rfl ?_
            refine ht_iload_n (D 26 rfl) rfl rfl ?_
            refine hi_ist (n := j) (D 27 rfl) hX.k4 hX.n4 (by first | rfl | exact nI_add _ _ | assumption) (by omega) (by first | decide | omega) ?_
            refine ht_goto (tgt := 61) (D 28 rfl) (by decide) ?_
            refine ht_iinc (v := nI (j + 1)) (D 30 rfl) rfl (nI_i1 _) (by decide) rfl ?_
            refine ht_goto (tgt := 5) (D 31 rfl) (by decide) ?_
            first
            | exact ht_cast (ih (dN - (j + 1)) (by omega) (j + 1) (by omega) rfl Z1 hd1 (fun d h1 h2 => by by_cases e : d = j; rw [e, hnf]; exact hrest j (Nat.le_refl _) hjk; exact hdone d (by omega) h2) (fun d h1 h2 => hrest d (by omega) h2)) (by simp only [List.set, hcn]) rfl rfl
            | exact ht_cast (ih (dN - (j + 1)) (by omega) (j + 1) (by omega) rfl _ (hd1.up _ _) (fun d h1 h2 => by by_cases e : d = j; rw [e, hnf, up2_s]; rw [up2_at _ _ e]; exact hdone d (by omega) h2) (fun d h1 h2 => by rw [up2_at _ _ (show d ≠ j by omega)]; exact hrest d (by omega) h2)) (by simp only [List.set, hcn]) rfl rfl
  show HT G mX9_noteLoose 0 [some (.ref xo), some (.int (nI t)), some (.int (nI n)), none, none] [] (cv σ Z) 1 _
  refine ht_iconst (v := 0) (D 0 rfl) (by decide) ?_
  refine ht_istore_n (D 1 rfl) rfl (by decide) rfl ?_
  refine ht_iconst (v := 0) (D 2 rfl) (by decide) ?_
  refine ht_istore (D 3 rfl) (by decide) rfl ?_
  exact ht_cast (loop dN 0 (by omega) (by omega) Z (Do.rf _ _) (fun d h1 h2 => absurd h1 (by omega)) (fun d h1 h2 => hS d h2)) rfl rfl rfl
theorem CW.keep (hC : CW σ Z xo b V cN dN mN gk gw gi) {Z2 : VT} (hf : Fr (XP σ xo b) Z Z2) : CW σ Z2 xo b V cN dN mN gk gw gi := by
  obtain ⟨hX, ⟨h1, h2, h3, h4⟩, hF⟩ := hC
  have hA := h4.2.2.2.2.1
  refine ⟨hX, ⟨h1, h2, h3, h4.keep (fun q q1 q2 => hf q ?_) (fun f hf2 => hf _ ?_)⟩, hF⟩
  · rintro (⟨c1, c2⟩ | ⟨f, c1, c2⟩)
    · rcases hF.1 with c | c <;> omega
    · rcases (hA f c1).1 with c | c <;> omega
  · rintro (⟨c1, c2⟩ | ⟨f2, c1, c2⟩)
    · have := hF.2 f hf2; omega
    · rcases (hA f hf2).2 f2 c1 with c | c | c <;> omega
theorem CW.w0 (hC : CW σ Z xo b V cN dN mN gk gw gi) {v : Option Nat} : CW (wQ σ (xo + 30) 0 v) Z xo b V cN dN mN gk gw gi := by
  obtain ⟨hX, ⟨h1, h2, h3, h4⟩, hF⟩ := hC
  have hk : zK σ (xo + 30) = 4 := hX.tr.k0
  refine ⟨hX.w0, ⟨h1.w0 hk (b := 0), ?_, ⟨h3.1, fun f hf => h3.2 f (isF_w0.mp hf)⟩, h4.w0 hk⟩, hF.1, fun f hf => hF.2 f (isF_w0.mp hf)⟩
  rw [zQ_wQ, up2_a _ _ (by omega)]
  exact h2
theorem XP.w0 {q : Nat} {v : Option Nat} : XP (wQ σ (xo + 30) 0 v) xo b q ↔ XP σ xo b q := by
  unfold XP
  constructor
  · rintro (c | ⟨f, c1, c2⟩)
    · exact Or.inl c
    · exact Or.inr ⟨f, isF_w0.mp c1, c2⟩
  · rintro (c | ⟨f, c1, c2⟩)
    · exact Or.inl c
    · exact Or.inr ⟨f, isF_w0.mpr c1, c2⟩
theorem wQ_wQ (a k : Nat) (u v : Option Nat) : wQ (wQ σ a k u) a k v = wQ σ a k v := by
  have e : up2 (up2 (zQ σ) a k u) a k v = up2 (zQ σ) a k v := by
    funext p q
    unfold up2
    split <;> rfl
  show (zK σ, zN σ, zI σ, zJ σ, up2 (up2 (zQ σ) a k u) a k v, zX σ, zS σ) = _
  rw [e]
  rfl
/-! when a door is loose first, so far -/
noncomputable def skF (V : VT) (gw : Option GWt) (gi : Option GIt) (dN mN gk : Nat) (S : ST) (h n t : Nat) : Nat → Nat := fun d => kyF n (so V gw gi dN mN gk S h d t)
theorem skF_le {S : ST} {h n t : Nat} (ht : t ≤ n + 1) (hn : n ≤ 240) (d : Nat) : skF V gw gi dN mN gk S h n t d ≤ n + 1 := by
  unfold skF kyF
  rcases so_rg V gw gi dN mN gk S h d t with e | ⟨t2, e1, e2⟩
  · rw [e, if_pos (by decide)]; exact Nat.le_refl _
  · rw [e2, if_neg (nI_pos (by omega)), nI_clamp (by omega)]; omega
theorem skF_nl {S : ST} {h n t : Nat} (ht : t ≤ n) (hn : n ≤ 240) (d : Nat) : nlF (skF V gw gi dN mN gk S h n t) (psI V gw gi dN mN gk S h t) t n d = skF V gw gi dN mN gk S h n (t + 1) d := by
  unfold nlF skF kyF
  rcases so_rg V gw gi dN mN gk S h d t with e | ⟨t2, e1, e2⟩
  · rw [e, if_pos (show (-1 : Int32) < 0 by decide)]
    by_cases c : psI V gw gi dN mN gk S h t d = 0
    · rw [if_pos ⟨by omega, c⟩, so_y ⟨c, by rw [e]; decide⟩, if_neg (nI_pos (by omega)), nI_clamp (by omega)]
    · rw [if_neg (fun q => c q.2), so_n (fun q => c q.1), e, if_pos (by decide)]
  · rw [e2, if_neg (nI_pos (show t2 < 2 ^ 31 by omega)), nI_clamp (by omega), if_neg (by omega), so_n (fun q => by rw [e2] at q; exact nI_pos (by omega) q.2), e2, if_neg (nI_pos (by omega)), nI_clamp (by omega)]
theorem skF_st {S : ST} {h n t : Nat} (hn : n ≤ 240) {d : Nat} (hd : skF V gw gi dN mN gk S h n t d ≤ n) : ∀ t2, t ≤ t2 → skF V gw gi dN mN gk S h n t2 d = skF V gw gi dN mN gk S h n t d := by
  intro t2
  induction t2 with
  | zero => intro h0; rw [show t = 0 by omega]
  | succ t2 ih =>
    intro h0
    by_cases e : t = t2 + 1
    · rw [e]
    · have i2 := ih (by omega)
      rw [← i2]
      rw [← i2] at hd
      unfold skF at hd ⊢
      rw [so_n (fun q => ?_)]
      unfold kyF at hd
      rw [if_pos q.2] at hd
      omega
theorem soK_sk {S : ST} {h n : Nat} : soK V gw gi dN mN gk S h n = skF V gw gi dN mN gk S h n (n + 1) := rfl
theorem cn_none_of {p : Nat → Bool} {k : Nat} (h : cn p k = 0) : ∀ d, d < k → p d = false := by
  intro d hd
  cases hp : p d with
  | false => rfl
  | true =>
    exfalso
    have q := cn_lt (p := fun _ => false) (q := p) (k := k) (j := d) (fun e _ he => absurd he (by decide)) hd rfl hp
    omega
set_option maxRecDepth 100000 in
theorem sc_findSoonest (hE : NE G) (hC : CW σ Z xo b V cN dN mN gk gw gi) (hbar : Z (xo + 14) 2 = -1) (hmn : Mn (nv dN Z (xo + 14)) cN mN) (hlk : LkI (nv dN Z (xo + 14)) dN) {h : Nat} (hh : Z (xo + 14) 1 = nI h) (h31 : h < 2 ^ 30) {n : Nat} (hn : n ≤ 240) : Sp G mX9_findSoonest 6 [.ref xo, .int (nI n)] (cv σ Z) (fun rv σ' => rv = none ∧ ∃ Z2 : VT, σ' = cv (wQ σ (xo + 30) 0 (some b)) Z2 ∧ Fr (fun q => XP σ xo b q ∧ q ≠ xo + 48) Z Z2 ∧ nv dN Z2 (xo + 14) = nv dN Z (xo + 14) ∧ Z2 (xo + 14) = Z (xo + 14) ∧ ∀ d, d < dN → Z2 (xo + 47) d = nI (soK V gw gi dN mN gk (nv dN Z (xo + 14)) h n d)) := by
  have D := dat dl_X9_findSoonest
  have hX := hC.1
  have hW := hC.2.1
  have h10 := hW.d10
  have h8 := hW.c8
  have h6 := hW.m6
  have h2 := hW.g2
  have hb47 : b ≠ xo + 47 := by rcases hC.2.2.1 with c | c <;> omega
  have loop : XS (wQ σ (xo + 30) 0 (some b)) xo → zQ (wQ σ (xo + 30) 0 (some b)) (xo + 14) 0 = some b → ∀ Z0 : VT, NW (wQ σ (xo + 30) 0 (some b)) Z0 (xo + 30) b V cN dN mN gk gw gi → ∀ r j : Nat, j ≤ n → n - j = r → ∀ (Z1 : VT) (mq : Nat), mq ≤ 10 → (mq = 0 → ∀ d, d < dN → skF V gw gi dN mN gk (nv dN Z (xo + 14)) h n (j + 1) d ≤ n) → Fr (fun q => XP σ xo b q ∧ q ≠ xo + 48) Z Z1 → Fr (fun q => NP (wQ σ (xo + 30) 0 (some b)) (xo + 30) b q ∨ q = xo + 47) Z0 Z1 → nv dN Z1 (xo + 30) = psI V gw gi dN mN gk (nv dN Z (xo + 14)) h j → Z1 (xo + 30) 2 = -1 → nv dN Z1 (xo + 14) = nv dN Z (xo + 14) → Z1 (xo + 14) = Z (xo + 14) → (∀ d, d < dN → Z1 (xo + 47) d = nI (skF V gw gi dN mN gk (nv dN Z (xo + 14)) h n (j + 1) d)) → HT G mX9_findSoonest 30 [some (.ref xo), some (.int (nI n)), some (.int (nI mq)), some (.int (nI (j + 1)))] [] (cv (wQ σ (xo + 30) 0 (some b)) Z1) 6 (fun rv σ' => rv = none ∧ ∃ Z2 : VT, σ' = cv (wQ σ (xo + 30) 0 (some b)) Z2 ∧ Fr (fun q => XP σ xo b q ∧ q ≠ xo + 48) Z Z2 ∧ nv dN Z2 (xo + 14) = nv dN Z (xo + 14) ∧ Z2 (xo + 14) = Z (xo + 14) ∧ ∀ d, d < dN → Z2 (xo + 47) d = nI (soK V gw gi dN mN gk (nv dN Z (xo + 14)) h n d)) := by
    intro hX1 hLn1 Z0 hT0 r
    induction r using Nat.strongRecOn with
    | _ r ih =>
      intro j hj hr Z1 mq hmq hmis hfx hft hn1 hb1 hnn hna hsk
      have hT1 : NW (wQ σ (xo + 30) 0 (some b)) Z1 (xo + 30) b V cN dN mN gk gw gi := by
        obtain ⟨w1, w2, w3, w4⟩ := hT0
        refine ⟨w1, w2, w3, w4.keep (fun q q1 q2 => hft q ?_) (fun f hf => hft _ ?_)⟩
        · rintro ((⟨c1, c2⟩ | ⟨f, c1, c2⟩) | c)
          · rcases w3.1 with c | c <;> omega
          · rcases (w4.2.2.2.2.1 f c1).1 with c | c <;> omega
          · rcases hC.2.2.1 with c | c <;> omega
        · rintro ((⟨c1, c2⟩ | ⟨f2, c1, c2⟩) | c)
          · rcases w3.2 f hf with c | c <;> omega
          · rcases (w4.2.2.2.2.1 f hf).2 f2 c1 with c | c | c <;> omega
          · have := hC.2.2.2 f (isF_w0.mp hf); omega
      refine ht_iload_n (D 18 rfl) rfl rfl ?_
      refine ht_iload_n (D 19 rfl) rfl rfl ?_
      refine ht_icmp_gt (tgt := 60) (D 20 rfl) (by decide) (fun hb32 => ?_) (fun hb32 => ?_)
      · skip
        have hjk : n < j + 1 := (nI_ltI (by omega) (by omega)).mp hb32
        refine ht_vret (D 34 rfl) rfl ?_
        first
        | (have hjn : j = n := by omega
           subst hjn
           exact ⟨rfl, Z1, rfl, hfx, hnn, hna, fun d hd => by rw [hsk d hd]; rfl⟩)
        | (refine ⟨rfl, Z1, rfl, hfx, hnn, hna, fun d hd => ?_⟩
           rw [hsk d hd, soK_sk, skF_st hn (hmis hz d hd) (n + 1) (by omega)])
      · skip
        have hjk : ¬ n < j + 1 := fun c => hb32 (nI_lt c (by omega))
        refine ht_iload_n (D 21 rfl) rfl rfl ?_
        refine ht_if_le (tgt := 60) (D 22 rfl) (by decide) (fun hb36 => ?_) (fun hb36 => ?_)
        · skip
          have hz : mq = 0 := by
            rcases Nat.eq_zero_or_pos mq with e | e
            · exact e
            · exact absurd hb36 (nI_nle e (by omega))
          refine ht_vret (D 34 rfl) rfl ?_
          first
          | (have hjn : j = n := by omega
             subst hjn
             exact ⟨rfl, Z1, rfl, hfx, hnn, hna, fun d hd => by rw [hsk d hd]; rfl⟩)
          | (refine ⟨rfl, Z1, rfl, hfx, hnn, hna, fun d hd => ?_⟩
             rw [hsk d hd, soK_sk, skF_st hn (hmis hz d hd) (n + 1) (by omega)])
        · skip
          refine ht_aload_n (D 23 rfl) rfl rfl ?_
          refine gf_X9_28 rfl (D 24 rfl) hX1.k0 hX1.q2 ?_
          refine ht_iconst (v := 0) (D 25 rfl) (by decide) ?_
          refine kVX4_passHour (As := [_]) cl_X9_165 (D 26 rfl) (sc_hr hE hT1 hb1 hn1 (psI_lk hW.px gw gi hlk hmn h j) (psI_mn hW.pl gw gi h hmn j) (psI_80 V gw gi dN mN gk (S := nv dN Z (xo + 14)) hh j) (by omega) 0) hX1.tr.k0 rfl (Nat.le_of_ble_eq_true rfl) rfl (Nat.le_of_ble_eq_true rfl) (by omega) ?_
          rintro _ _ ⟨rfl, Z2, rfl, hf2, hn2, hb2⟩
          obtain ⟨hfx2, hnn2, hna2⟩ := tr_hour hC hf2
          have hT2 := hT1.keep hf2
          have h47 : Z2 (xo + 47) = Z1 (xo + 47) := hf2 _ (by
            rintro (⟨c1, c2⟩ | ⟨f, c1, c2⟩)
            · omega
            · have := hC.2.2.2 f (isF_w0.mp c1); omega)
          have h48 : Z2 (xo + 48) = Z1 (xo + 48) := hf2 _ (by
            rintro (⟨c1, c2⟩ | ⟨f, c1, c2⟩)
            · omega
            · have := hC.2.2.2 f (isF_w0.mp c1); omega)
          refine ht_aload_n (D 27 rfl) rfl rfl ?_
          refine ht_iload_n (D 28 rfl) rfl rfl ?_
          refine ht_iload_n (D 29 rfl) rfl rfl ?_
          refine kVX9_noteLoose (As := [_, _]) cl_X9_235 (D 30 rfl) (sc_noteLoose hX1 hLn1 hT2.lb hT2.nd h10 hb47 (F := skF V gw gi dN mN gk (nv dN Z (xo + 14)) h n (j + 1)) (T := psI V gw gi dN mN gk (nv dN Z (xo + 14)) h (j + 1)) (t := j + 1) hn (fun d hd => skF_le (by omega) hn d) (fun d hd => by rw [h47]; exact hsk d hd) (fun d hd => by rw [← nv_ice dN Z2 (xo + 30) (show d < 10 by omega), hn2]; rfl)) hX1.k0 rfl (Nat.le_of_ble_eq_true rfl) rfl (Nat.le_of_ble_eq_true rfl) (by omega) ?_
          rintro _ _ ⟨rfl, Z3, rfl, hd3, hs3⟩
          refine ht_istore_n (D 31 rfl) rfl (by decide) rfl ?_
          refine ht_iinc (v := nI ((j + 1) + 1)) (D 32 rfl) rfl (nI_i1 _) (by decide) rfl ?_
          refine ht_goto (tgt := 30) (D 33 rfl) (by decide) ?_
          refine ht_cast (ih (n - (j + 1)) (by omega) (j + 1) (by omega) rfl Z3 (cn (nlM (skF V gw gi dN mN gk (nv dN Z (xo + 14)) h n (j + 1)) (psI V gw gi dN mN gk (nv dN Z (xo + 14)) h (j + 1)) n) dN) (Nat.le_trans (cn_le _ _) h10) (fun hm0 => ?_) ?_ ?_ ?_ ?_ ?_ ?_ ?_) rfl rfl rfl
          · intro d hd
            rw [← skF_nl (by omega) hn d]
            have q := cn_none_of hm0 d hd
            unfold nlM at q
            have q2 := of_decide_eq_false q
            unfold nlF
            by_cases c1 : n < skF V gw gi dN mN gk (nv dN Z (xo + 14)) h n (j + 1) d
            · by_cases c2 : psI V gw gi dN mN gk (nv dN Z (xo + 14)) h (j + 1) d = 0
              · rw [if_pos ⟨c1, c2⟩]; omega
              · exact absurd ⟨c1, c2⟩ q2
            · rw [if_neg (fun q => c1 q.1)]; omega
          · intro q hq
            have hq47 : q ≠ xo + 47 := fun e => hq ⟨Or.inl ⟨by omega, by omega⟩, by omega⟩
            rw [hd3 q hq47]
            by_cases c : q = xo + 48
            · rw [c, h48, ← c]; exact hfx q hq
            · rw [hfx2 q (fun z => hq ⟨z, c⟩)]; exact hfx q hq
          · intro q hq
            rw [hd3 q (fun e => hq (Or.inr e)), hf2 q (fun z => hq (Or.inl z))]
            exact hft q hq
          · rw [show nv dN Z3 (xo + 30) = nv dN Z2 (xo + 30) from nv_fr (fun i i1 _ _ => hd3 _ (by omega)), hn2]
            rfl
          · rw [hd3 _ (by omega)]; exact hb2
          · rw [show nv dN Z3 (xo + 14) = nv dN Z2 (xo + 14) from nv_fr (fun i i1 _ _ => hd3 _ (by omega)), hnn2]; exact hnn
          · rw [hd3 _ (by omega), hna2]; exact hna
          · intro d hd
            rw [hs3 d hd, skF_nl (by omega) hn d]
  show HT G mX9_findSoonest 0 [some (.ref xo), some (.int (nI n)), none, none] [] (cv σ Z) 6 _
  refine ht_aload_n (D 0 rfl) rfl rfl ?_
  refine gf_X9_35 rfl (D 1 rfl) hX.k0 hX.q4 ?_
  refine ht_iload_n (D 2 rfl) rfl rfl ?_
  refine ht_iconst (v := 1) (D 3 rfl) (by decide) ?_
  refine ht_iadd (D 4 rfl) ?_
  rw [nI_1]
  refine kSJ7_fill_53178 (As := [_, _]) cl_X9_229 (D 5 rfl) (sc_fill hX.k4 hX.n4 (by decide) _) rfl (Nat.le_of_ble_eq_true rfl) rfl (Nat.le_of_ble_eq_true rfl) (by omega) ?_
  rintro _ _ ⟨rfl, Zf, rfl, hdf, hif⟩
  have hCf := hC.keep (Z2 := Zf) (fun q hq => hdf q (fun e => hq (Or.inl ⟨by omega, by omega⟩)))
  have hnf : nv dN Zf (xo + 14) = nv dN Z (xo + 14) := nv_fr (fun i i1 _ _ => hdf _ (by omega))
  refine ht_aload_n (D 6 rfl) rfl rfl ?_
  refine gf_X9_28 rfl (D 7 rfl) hX.k0 hX.q2 ?_
  refine ht_aload_n (D 8 rfl) rfl rfl ?_
  refine gf_X9_24 rfl (D 9 rfl) hX.k0 hX.q1 ?_
  refine kVX4_copyFrom (As := [_]) cl_X9_175 (D 10 rfl) (sc_ncopy hX.tr hX.nt hW.lq (by omega)) hX.tr.k0 rfl (Nat.le_of_ble_eq_true rfl) rfl (Nat.le_of_ble_eq_true rfl) (by omega) ?_
  rintro _ _ ⟨rfl, Z0, rfl, hcp⟩
  obtain ⟨hT0, hnt0, hbt0, hnn0, hna0⟩ := tr_start hCf hcp
  have hX1 := hX.w0 (v := some b)
  have hLn1 : zQ (wQ σ (xo + 30) 0 (some b)) (xo + 14) 0 = some b := by rw [zQ_wQ, up2_a _ _ (by omega)]; exact hW.lq
  refine ht_aload_n (D 11 rfl) rfl rfl ?_
  refine ht_iconst (v := 0) (D 12 rfl) (by decide) ?_
  refine ht_iload_n (D 13 rfl) rfl rfl ?_
  refine kVX9_noteLoose (As := [_, _]) cl_X9_235 (D 14 rfl) (sc_noteLoose hX1 hLn1 hT0.lb hT0.nd h10 hb47 (F := skF V gw gi dN mN gk (nv dN Z (xo + 14)) h n 0) (T := psI V gw gi dN mN gk (nv dN Z (xo + 14)) h 0) (t := 0) hn (fun d hd => skF_le (by omega) hn d) (fun d hd => by rw [hcp.1 (xo + 47) (by omega), hif d (by omega)]; rfl) (fun d hd => by rw [← nv_ice dN Z0 (xo + 30) (show d < 10 by omega), hnt0, hnf]; rfl)) hX.k0 rfl (Nat.le_of_ble_eq_true rfl) rfl (Nat.le_of_ble_eq_true rfl) (by omega) ?_
  rintro _ _ ⟨rfl, Z3, rfl, hd3, hs3⟩
  refine ht_istore_n (D 15 rfl) rfl (by decide) rfl ?_
  refine ht_iconst (v := 1) (D 16 rfl) (by decide) ?_
  refine ht_istore_n (D 17 rfl) rfl (by decide) rfl ?_
  refine ht_cast (loop hX1 hLn1 Z0 hT0 n 0 (by omega) (by omega) Z3 (cn (nlM (skF V gw gi dN mN gk (nv dN Z (xo + 14)) h n 0) (psI V gw gi dN mN gk (nv dN Z (xo + 14)) h 0) n) dN) (Nat.le_trans (cn_le _ _) h10) (fun hm0 => ?_) ?_ ?_ ?_ ?_ ?_ ?_ ?_) rfl rfl rfl
  · intro d hd
    rw [← skF_nl (by omega) hn d]
    have q := cn_none_of hm0 d hd
    unfold nlM at q
    have q2 := of_decide_eq_false q
    unfold nlF
    by_cases c1 : n < skF V gw gi dN mN gk (nv dN Z (xo + 14)) h n 0 d
    · by_cases c2 : psI V gw gi dN mN gk (nv dN Z (xo + 14)) h 0 d = 0
      · rw [if_pos ⟨c1, c2⟩]; omega
      · exact absurd ⟨c1, c2⟩ q2
    · rw [if_neg (fun q => c1 q.1)]; omega
  · intro q hq
    have hq47 : q ≠ xo + 47 := fun e => hq ⟨Or.inl ⟨by omega, by omega⟩, by omega⟩
    rw [hd3 q hq47, hcp.1 q (fun c => hq ⟨Or.inl ⟨by omega, by omega⟩, by omega⟩), hdf q hq47]
  · intro q hq
    rw [hd3 q (fun e => hq (Or.inr e))]
  · rw [show nv dN Z3 (xo + 30) = nv dN Z0 (xo + 30) from nv_fr (fun i i1 _ _ => hd3 _ (by omega)), hnt0, hnf]
    rfl
  · rw [hd3 _ (by omega)]; exact hbt0
  · rw [show nv dN Z3 (xo + 14) = nv dN Z0 (xo + 14) from nv_fr (fun i i1 _ _ => hd3 _ (by omega)), hnn0]; exact hnf
  · rw [hd3 _ (by omega), hna0, hdf _ (by omega)]
  · intro d hd
    rw [hs3 d hd, skF_nl (by omega) hn d]
end C11
