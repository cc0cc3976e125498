/-! ===== the reference: orders, first ===== -/
/-- how many below k are so -/
def cn (p : Nat → Bool) : Nat → Nat
  | 0 => 0
  | k + 1 => cn p k + (if p k then 1 else 0)
theorem cn_le (p : Nat → Bool) (k : Nat) : cn p k ≤ k := by
  induction k with
  | zero => exact Nat.le_refl _
  | succ k ih =>
    unfold cn
    split <;> omega
theorem cn_congr {p q : Nat → Bool} {k : Nat} (h : ∀ e, e < k → p e = q e) : cn p k = cn q k := by
  induction k with
  | zero => rfl
  | succ k ih =>
    unfold cn
    rw [ih (fun e he => h e (by omega)), h k (by omega)]
theorem cn_mono {p q : Nat → Bool} {k : Nat} (h : ∀ e, e < k → p e = true → q e = true) : cn p k ≤ cn q k := by
  induction k with
  | zero => exact Nat.le_refl _
  | succ k ih =>
    have h1 := ih (fun e he => h e (by omega))
    unfold cn
    by_cases hp : p k = true
    · rw [if_pos hp, if_pos (h k (by omega) hp)]
      omega
    · rw [if_neg hp]
      omega
theorem cn_lt {p q : Nat → Bool} {k j : Nat} (h : ∀ e, e < k → p e = true → q e = true) (hj : j < k) (hp : p j = false) (hq : q j = true) : cn p k < cn q k := by
  induction k with
  | zero => omega
  | succ k ih =>
    unfold cn
    by_cases e : j = k
    · subst e
      have h1 := cn_mono (p := p) (q := q) (k := j) (fun e he => h e (by omega))
      rw [if_pos hq, hp, if_neg (by decide)]
      omega
    · have h1 := ih (fun e he => h e (by omega)) (by omega)
      by_cases hp2 : p k = true
      · rw [if_pos hp2, if_pos (h k (by omega) hp2)]
        omega
      · rw [if_neg hp2]
        omega
theorem cn_step {p q : Nat → Bool} {k j : Nat} (hj : j < k) (hp : p j = false) (hq : q j = true) (h : ∀ e, e < k → e ≠ j → q e = p e) : cn q k = cn p k + 1 := by
  induction k with
  | zero => omega
  | succ k ih =>
    unfold cn
    by_cases e : j = k
    · subst e
      rw [cn_congr (p := q) (q := p) (fun e he => h e (by omega) (by omega)), if_pos hq, hp, if_neg (by decide)]
    · rw [ih (by omega) (fun e he => h e (by omega)), h k (by omega) (fun q => e q.symm)]
      omega
theorem cn_all {p : Nat → Bool} {k : Nat} (h : ∀ e, e < k → p e = true) : cn p k = k := by
  induction k with
  | zero => rfl
  | succ k ih =>
    unfold cn
    rw [ih (fun e he => h e (by omega)), if_pos (h k (by omega))]
theorem cn_none {p : Nat → Bool} {k : Nat} (h : ∀ e, e < k → p e = false) : cn p k = 0 := by
  induction k with
  | zero => rfl
  | succ k ih =>
    unfold cn
    rw [ih (fun e he => h e (by omega)), h k (by omega)]
    rfl
/-- e comes ahead of (t, j) -/
def bef (K : Nat → Nat) (t j e : Nat) : Bool := decide (K e < t ∨ (K e = t ∧ e < j))
theorem bef_t {K : Nat → Nat} {t j e : Nat} : bef K t j e = true ↔ (K e < t ∨ (K e = t ∧ e < j)) := by
  unfold bef
  exact decide_eq_true_iff
theorem bef_f {K : Nat → Nat} {t j e : Nat} : bef K t j e = false ↔ ¬ (K e < t ∨ (K e = t ∧ e < j)) := by
  unfold bef
  exact decide_eq_false_iff_not
/-- a door's place in the order -/
def rk (K : Nat → Nat) (dN d : Nat) : Nat := cn (bef K (K d) d) dN
theorem rk_inj {K : Nat → Nat} {dN d e : Nat} (hd : d < dN) (he : e < dN) (h : rk K dN d = rk K dN e) : d = e := by
  have key : ∀ d e, d < dN → e < dN → (K d < K e ∨ (K d = K e ∧ d < e)) → rk K dN d < rk K dN e := by
    intro d e hd _ hlt
    refine cn_lt (j := d) (fun x _ hx => ?_) hd (bef_f.mpr (by omega)) (bef_t.mpr hlt)
    rw [bef_t] at hx ⊢
    omega
  by_cases e1 : d = e
  · exact e1
  · by_cases c : K d < K e ∨ (K d = K e ∧ d < e)
    · have := key d e hd he c
      omega
    · have := key e d he hd (by omega)
      omega
def kyF (n : Nat) (v : Int32) : Nat := if v < 0 then n + 1 else v.toNatClampNeg
theorem so_rg (V : VT) (gw : Option GWt) (gi : Option GIt) (dN mN gk : Nat) (S : ST) (h d t : Nat) : so V gw gi dN mN gk S h d t = -1 ∨ ∃ t2, t2 < t ∧ so V gw gi dN mN gk S h d t = nI t2 := by
  induction t with
  | zero => exact Or.inl rfl
  | succ t ih =>
    by_cases c : psI V gw gi dN mN gk S h t d = 0 ∧ so V gw gi dN mN gk S h d t < 0
    · exact Or.inr ⟨t, by omega, so_y c⟩
    · rw [so_n c]
      rcases ih with h9 | ⟨t2, h9, h8⟩
      · exact Or.inl h9
      · exact Or.inr ⟨t2, by omega, h8⟩
def Pr (V V' : VT) : Prop := (∀ o, ¬ (23 ≤ o ∧ o ≤ 34) → o ≠ 37 → o ≠ 38 → V' o = V o) ∧ V' 33 = V 33
theorem Pr.dz {V V' : VT} (h : Pr V V') : Dz V V' := fun o _ q r => h.1 o q (fun e => r (by omega)) (fun e => r (by omega))
theorem Pr.pz {V V' : VT} (h : Pr (tz V) V') : Pz V V' := ⟨fun o h1 h2 h3 => (h.1 o h2 (fun e => h3 (by omega)) (fun e => h3 (by omega))).trans (tz_o V (by omega)), by rw [h.1 0 (by decide) (by decide) (by decide)]; exact ⟨up2_k V 0 (by decide), up2_k V 0 (by decide)⟩⟩
theorem Pq.pr {V V' : VT} (h : Pq V V') : Pr V V' := ⟨fun o a b _ => h.1 o a b, h.2⟩
theorem Pr.up {V V1 : VT} (h : Pr V V1) (k : Nat) (v : Int32) : Pr V (up2 V1 38 k v) := ⟨fun o a b c => (up2_o V1 v c).trans (h.1 o a b c), by rw [up2_o V1 v (by decide)]; exact h.2⟩
noncomputable def soK (V : VT) (gw : Option GWt) (gi : Option GIt) (dN mN gk : Nat) (S : ST) (h n : Nat) : Nat → Nat := fun d => kyF n (so V gw gi dN mN gk S h d (n + 1))
theorem soK_dz {V V' : VT} (hd : Dz V V') (gw : Option GWt) (gi : Option GIt) (dN mN gk : Nat) (S : ST) (h n : Nat) : soK V' gw gi dN mN gk S h n = soK V gw gi dN mN gk S h n := by
  funext d
  unfold soK
  rw [so_dz hd]
section M15
variable {G : GG} {σ : Hp} {m : Nat} {V : VT} {U : UT}
set_option maxRecDepth 100000 in
theorem sm_ord1 (hM : MS σ m) {cN dN mN gk : Nat} (hP : PL V cN dN mN gk) {n t j : Nat} {K : Nat → Nat} {f : Nat → Int32} (hn : n ≤ 240) (ht : t ≤ n + 1) (hjd : j < dN) (hkey : ∀ t j, t ≤ n + 1 → j < dN → ((if n < t then (-1 : Int32) else nI t) = f j ↔ K j = t)) {V1 : VT} (hpr : Pr V V1) (h37 : ∀ d, d < dN → V1 37 d = f d) (hor : (∀ i, i < cn (bef K t j) dN → ∃ d, d < dN ∧ rk K dN d = i ∧ V1 38 i = nI d)) {Q : Option Value → Hp → Prop}
    (kq : ∀ {c : Nat} (V2 : VT), Pr V V2 → (∀ d, d < dN → V2 37 d = f d) → c = cn (bef K t (j + 1)) dN → (∀ i, i < c → ∃ d, d < dN ∧ rk K dN d = i ∧ V2 38 i = nI d) → HT G mX10_orders 19 [some (.ref m), some (.int (nI n)), some (.int (nI c)), some (.int (nI t)), some (.int (nI (j + 1)))] [] (sv σ m V2 U) 7 Q) : HT G mX10_orders 19 [some (.ref m), some (.int (nI n)), some (.int (nI (cn (bef K t j) dN))), some (.int (nI t)), some (.int (nI j))] [] (sv σ m V1 U) 7 Q := by
  have D := dat dl_X10_orders
  have hd10 : dN ≤ 10 := hP.2.1.2
  have hcl : cn (bef K t j) dN ≤ dN := cn_le _ _
  have hkj : ((if n < t then (-1 : Int32) else nI t) = f j) ↔ K j = t := hkey t j (by omega) hjd
  have hnxt : K j = t → (∀ i, i < cn (bef K t j) dN + 1 → ∃ d, d < dN ∧ rk K dN d = i ∧ (up2 V1 38 (cn (bef K t j) dN) (nI j)) 38 i = nI d) := by
    intro hkt i hi
    by_cases e : i = cn (bef K t j) dN
    · refine ⟨j, hjd, ?_, ?_⟩
      · rw [e]
        unfold rk
        rw [hkt]
      · rw [e, up2_s]
    · obtain ⟨d, h1, h2, h3⟩ := hor i (by omega)
      exact ⟨d, h1, h2, by rw [up2_k _ _ e]; exact h3⟩
  refine ht_iload (D 14 rfl) rfl ?_
  refine ht_aload_n (D 15 rfl) rfl rfl ?_
  refine gf_X10_16 rfl (D 16 rfl) hM.k0 hM.q3 ?_
  refine ht_iconst (v := 0) (D 17 rfl) (by decide) ?_
  refine hm_ild (o := 3) (n := 0) (by decide) (D 18 rfl) hM.k3 hM.n3 (by first | rfl | exact nI_add _ _ | assumption) (by omega) (by decide) ?_
  refine ht_icmp_ge (tgt := 70) (D 19 rfl) (by decide) (fun hb27 => ?_) (fun hb27 => ?_)
  · skip
    exact absurd (by rw [hpr.1 3 (by decide) (by decide) (by decide), hP.2.1.1] at hb27; exact (nI_leI (by omega) (by omega)).mp hb27) (by omega)
  · skip
    refine ht_iload_n (D 20 rfl) rfl rfl ?_
    refine ht_iload_n (D 21 rfl) rfl rfl ?_
    refine ht_icmp_le (tgt := 39) (D 22 rfl) (by decide) (fun hb32 => ?_) (fun hb32 => ?_)
    · skip
      have htn : ¬ n < t := by have h9 := (nI_leI (a := t) (b := n) (by omega) (by omega)).mp hb32; omega
      rw [if_neg htn] at hkj
      refine ht_iload_n (D 25 rfl) rfl rfl ?_
      refine ht_aload_n (D 26 rfl) rfl rfl ?_
      refine gf_X10_120 rfl (D 27 rfl) hM.k0 hM.q37 ?_
      refine ht_iload (D 28 rfl) rfl ?_
      refine hm_ild (o := 37) (n := j) (by decide) (D 29 rfl) hM.k37 hM.n37 (by first | rfl | exact nI_add _ _ | assumption) (by omega) (by decide) ?_
      refine ht_icmp_eq (tgt := 53) (D 30 rfl) (by decide) (fun hb47 => ?_) (fun hb47 => ?_)
      · skip
        rw [h37 j hjd] at hb47
        have hkt := hkj.mp hb47
        have hlt : cn (bef K t j) dN < dN := Nat.lt_of_lt_of_le (cn_lt (q := fun _ => true) (j := j) (fun _ _ _ => rfl) hjd (bef_f.mpr (by omega)) rfl) (cn_le _ _)
        refine ht_aload_n (D 32 rfl) rfl rfl ?_
        refine gf_X10_123 rfl (D 33 rfl) hM.k0 hM.q38 ?_
        refine ht_iload_n (D 34 rfl) rfl rfl ?_
        refine ht_iload (D 35 rfl) rfl ?_
        refine hm_ist (o := 38) (n := cn (bef K t j) dN) (by decide) (D 36 rfl) hM.k38 hM.n38 (by first | rfl | exact nI_add _ _ | assumption) (by omega) (by decide) ?_
        refine ht_iinc (v := nI (cn (bef K t j) dN + 1)) (D 37 rfl) rfl (nI_i1 _) (by decide) rfl ?_
        refine ht_iinc (v := nI (j + 1)) (D 38 rfl) rfl (nI_i1 _) (by decide) rfl ?_
        refine ht_goto (tgt := 19) (D 39 rfl) (by decide) ?_
        first | exact kq _ (hpr.up _ _) (fun d hd => by rw [up2_o _ _ (by decide)]; exact h37 d hd) (cn_step hjd (bef_f.mpr (by omega)) (bef_t.mpr (by omega)) (fun e _ he => by rw [Bool.eq_iff_iff, bef_t, bef_t]; omega)).symm (hnxt hkt) | exact kq V1 hpr h37 (cn_congr (fun e _ => by rw [Bool.eq_iff_iff, bef_t, bef_t]; (by_cases e9 : e = j); (subst e9; omega); omega)) hor
      · skip
        rw [h37 j hjd] at hb47
        have hkt : ¬ K j = t := fun q => hb47 (hkj.mpr q)
        refine ht_goto (tgt := 64) (D 31 rfl) (by decide) ?_
        refine ht_iinc (v := nI (j + 1)) (D 38 rfl) rfl (nI_i1 _) (by decide) rfl ?_
        refine ht_goto (tgt := 19) (D 39 rfl) (by decide) ?_
        first | exact kq _ (hpr.up _ _) (fun d hd => by rw [up2_o _ _ (by decide)]; exact h37 d hd) (cn_step hjd (bef_f.mpr (by omega)) (bef_t.mpr (by omega)) (fun e _ he => by rw [Bool.eq_iff_iff, bef_t, bef_t]; omega)).symm (hnxt hkt) | exact kq V1 hpr h37 (cn_congr (fun e _ => by rw [Bool.eq_iff_iff, bef_t, bef_t]; (by_cases e9 : e = j); (subst e9; omega); omega)) hor
    · skip
      have htn : n < t := by have h9 := mt (nI_leI (a := t) (b := n) (by omega) (by omega)).mpr hb32; omega
      rw [if_pos htn] at hkj
      refine ht_iconst (v := -1) (D 23 rfl) (by decide) ?_
      refine ht_goto (tgt := 40) (D 24 rfl) (by decide) ?_
      refine ht_aload_n (D 26 rfl) rfl rfl ?_
      refine gf_X10_120 rfl (D 27 rfl) hM.k0 hM.q37 ?_
      refine ht_iload (D 28 rfl) rfl ?_
      refine hm_ild (o := 37) (n := j) (by decide) (D 29 rfl) hM.k37 hM.n37 (by first | rfl | exact nI_add _ _ | assumption) (by omega) (by decide) ?_
      refine ht_icmp_eq (tgt := 53) (D 30 rfl) (by decide) (fun hb47 => ?_) (fun hb47 => ?_)
      · skip
        rw [h37 j hjd] at hb47
        have hkt := hkj.mp hb47
        have hlt : cn (bef K t j) dN < dN := Nat.lt_of_lt_of_le (cn_lt (q := fun _ => true) (j := j) (fun _ _ _ => rfl) hjd (bef_f.mpr (by omega)) rfl) (cn_le _ _)
        refine ht_aload_n (D 32 rfl) rfl rfl ?_
        refine gf_X10_123 rfl (D 33 rfl) hM.k0 hM.q38 ?_
        refine ht_iload_n (D 34 rfl) rfl rfl ?_
        refine ht_iload (D 35 rfl) rfl ?_
        refine hm_ist (o := 38) (n := cn (bef K t j) dN) (by decide) (D 36 rfl) hM.k38 hM.n38 (by first | rfl | exact nI_add _ _ | assumption) (by omega) (by decide) ?_
        refine ht_iinc (v := nI (cn (bef K t j) dN + 1)) (D 37 rfl) rfl (nI_i1 _) (by decide) rfl ?_
        refine ht_iinc (v := nI (j + 1)) (D 38 rfl) rfl (nI_i1 _) (by decide) rfl ?_
        refine ht_goto (tgt := 19) (D 39 rfl) (by decide) ?_
        first | exact kq _ (hpr.up _ _) (fun d hd => by rw [up2_o _ _ (by decide)]; exact h37 d hd) (cn_step hjd (bef_f.mpr (by omega)) (bef_t.mpr (by omega)) (fun e _ he => by rw [Bool.eq_iff_iff, bef_t, bef_t]; omega)).symm (hnxt hkt) | exact kq V1 hpr h37 (cn_congr (fun e _ => by rw [Bool.eq_iff_iff, bef_t, bef_t]; (by_cases e9 : e = j); (subst e9; omega); omega)) hor
      · skip
        rw [h37 j hjd] at hb47
        have hkt : ¬ K j = t := fun q => hb47 (hkj.mpr q)
        refine ht_goto (tgt := 64) (D 31 rfl) (by decide) ?_
        refine ht_iinc (v := nI (j + 1)) (D 38 rfl) rfl (nI_i1 _) (by decide) rfl ?_
        refine ht_goto (tgt := 19) (D 39 rfl) (by decide) ?_
        first | exact kq _ (hpr.up _ _) (fun d hd => by rw [up2_o _ _ (by decide)]; exact h37 d hd) (cn_step hjd (bef_f.mpr (by omega)) (bef_t.mpr (by omega)) (fun e _ he => by rw [Bool.eq_iff_iff, bef_t, bef_t]; omega)).symm (hnxt hkt) | exact kq V1 hpr h37 (cn_congr (fun e _ => by rw [Bool.eq_iff_iff, bef_t, bef_t]; (by_cases e9 : e = j); (subst e9; omega); omega)) hor
set_option maxRecDepth 100000 in
set_option maxHeartbeats 2000000 in
theorem sm_orders (hM : MS σ m) {cN dN mN gk : Nat} (hP : PL V cN dN mN gk) {gw : Option GWt} {gi : Option GIt} (hW : LnW V gw) (hI : LnI V gi) {h : Nat} (hh : V 33 80 = nI h) (h31 : h < 2 ^ 30) (hmn : Mn (V 33) cN mN) {n : Nat} (hn : n ≤ 240) {K : Nat → Nat} (hKd : K = soK V gw gi dN mN gk (V 33) h n) : Sp G mX10_orders 7 [.ref m, .int (nI n)] (sv σ m V U) (fun rv σ' => rv = none ∧ ∃ V' : VT, σ' = sv σ m V' U ∧ Pr V V' ∧ ∀ i, i < dN → ∃ d, d < dN ∧ rk K dN d = i ∧ V' 38 i = nI d) := by
  have D := dat dl_X10_orders
  have hd10 : dN ≤ 10 := hP.2.1.2
  obtain ⟨f, hf⟩ : ∃ f : Nat → Int32, f = fun d => so V gw gi dN mN gk (V 33) h d (n + 1) := ⟨_, rfl⟩
  have hkf : ∀ j, f j = -1 ∧ K j = n + 1 ∨ ∃ t2, t2 ≤ n ∧ f j = nI t2 ∧ K j = t2 := by
    intro j
    rcases so_rg V gw gi dN mN gk (V 33) h j (n + 1) with h9 | ⟨t2, h9, h8⟩
    · refine Or.inl ⟨by rw [hf]; exact h9, ?_⟩
      rw [hKd]
      unfold soK kyF
      rw [h9, if_pos (by decide)]
    · refine Or.inr ⟨t2, by omega, by rw [hf]; exact h8, ?_⟩
      rw [hKd]
      unfold soK kyF
      rw [h8, if_neg (nI_pos (by omega)), nI_clamp (by omega)]
  have hKn : ∀ e, e < dN → K e < n + 2 := by
    intro e _
    rcases hkf e with h9 | ⟨t2, h9, _, h8⟩ <;> omega
  have hm1 : ∀ k, k < 1000 → ¬ (-1 : Int32) = nI k := by
    intro k hk q
    rw [i_eq, nI_toInt (by omega)] at q
    have : (-1 : Int32).toInt = -1 := rfl
    omega
  have hkey : ∀ t j, t ≤ n + 1 → j < dN → ((if n < t then (-1 : Int32) else nI t) = f j ↔ K j = t) := by
    intro t j ht _
    rcases hkf j with ⟨h9, h8⟩ | ⟨t2, h9, h8, h7⟩
    · rw [h9, h8]
      by_cases c : n < t
      · rw [if_pos c]
        exact ⟨fun _ => by omega, fun _ => rfl⟩
      · rw [if_neg c]
        exact ⟨fun q => absurd q.symm (hm1 t (by omega)), fun q => absurd q (by omega)⟩
    · rw [h8, h7]
      by_cases c : n < t
      · rw [if_pos c]
        exact ⟨fun q => absurd q (hm1 t2 (by omega)), fun q => absurd q (by omega)⟩
      · rw [if_neg c, nI_eq (by omega) (by omega)]
        omega
  have loop : ∀ (r t : Nat) (V1 : VT) (l4 : Option Value) (c : Nat), t + r = n + 2 → Pr V V1 → (∀ d, d < dN → V1 37 d = f d) → c = cn (bef K t 0) dN → (∀ i, i < c → ∃ d, d < dN ∧ rk K dN d = i ∧ V1 38 i = nI d) → HT G mX10_orders 9 [some (.ref m), some (.int (nI n)), some (.int (nI c)), some (.int (nI t)), l4] [] (sv σ m V1 U) 7 (fun rv σ' => rv = none ∧ ∃ V' : VT, σ' = sv σ m V' U ∧ Pr V V' ∧ ∀ i, i < dN → ∃ d, d < dN ∧ rk K dN d = i ∧ V' 38 i = nI d) := by
    intro r
    induction r using Nat.strongRecOn with
    | _ r ih2 =>
      intro t V1 l4 c ht hpr h37 hc hor
      refine ht_iload_n (D 7 rfl) rfl rfl ?_
      refine ht_iload_n (D 8 rfl) rfl rfl ?_
      refine ht_iconst (v := 1) (D 9 rfl) (by decide) ?_
      refine ht_iadd (D 10 rfl) ?_
      rw [show nI n + 1 = nI (n + 1) from nI_1 n]
      refine ht_icmp_gt (tgt := 76) (D 11 rfl) (by decide) (fun hb13 => ?_) (fun hb13 => ?_)
      · skip
        have hr0 : r = 0 := by have h9 := (nI_ltI (a := n + 1) (b := t) (by omega) (by omega)).mp hb13; omega
        subst hr0
        have htn : t = n + 2 := by omega
        subst htn
        refine ht_vret (D 42 rfl) rfl ?_
        exact ⟨rfl, V1, rfl, hpr, fun i hi => hor i (by rw [hc, cn_all (fun e he => bef_t.mpr (Or.inl (hKn e he)))]; exact hi)⟩
      · skip
        obtain ⟨r2, rfl⟩ : ∃ r2, r = r2 + 1 := ⟨r - 1, by have h9 := mt (nI_ltI (a := n + 1) (b := t) (by omega) (by omega)).mpr hb13; omega⟩
        refine ht_iconst (v := 0) (D 12 rfl) (by decide) ?_
        refine ht_istore (D 13 rfl) (by decide) rfl ?_
        have inner : ∀ (q j c : Nat) (V1 : VT), j ≤ dN → dN - j = q → Pr V V1 → (∀ d, d < dN → V1 37 d = f d) → c = cn (bef K t j) dN → (∀ i, i < c → ∃ d, d < dN ∧ rk K dN d = i ∧ V1 38 i = nI d) → HT G mX10_orders 19 [some (.ref m), some (.int (nI n)), some (.int (nI c)), some (.int (nI t)), some (.int (nI j))] [] (sv σ m V1 U) 7 (fun rv σ' => rv = none ∧ ∃ V' : VT, σ' = sv σ m V' U ∧ Pr V V' ∧ ∀ i, i < dN → ∃ d, d < dN ∧ rk K dN d = i ∧ V' 38 i = nI d) := by
          intro q
          induction q using Nat.strongRecOn with
          | _ q ih =>
            intro j c V1 hj hq hpr h37 hc hor
            by_cases hjd : j < dN
            · subst hc
              refine sm_ord1 hM hP hn (by omega) hjd hkey hpr h37 hor (fun V2 h2 h3 h4 h5 => ?_)
              exact ih (dN - (j + 1)) (by omega) (j + 1) _ V2 (by omega) rfl h2 h3 h4 h5
            · have hje : dN = j := by omega
              subst hje
              refine ht_iload (D 14 rfl) rfl ?_
              refine ht_aload_n (D 15 rfl) rfl rfl ?_
              refine gf_X10_16 rfl (D 16 rfl) hM.k0 hM.q3 ?_
              refine ht_iconst (v := 0) (D 17 rfl) (by decide) ?_
              refine hm_ild (o := 3) (n := 0) (by decide) (D 18 rfl) hM.k3 hM.n3 (by first | rfl | exact nI_add _ _ | assumption) (by omega) (by decide) ?_
              refine ht_icmp_ge (tgt := 70) (D 19 rfl) (by decide) (fun hb27 => ?_) (fun hb27 => ?_)
              · skip
                refine ht_iinc (v := nI (t + 1)) (D 40 rfl) rfl (nI_i1 _) (by decide) rfl ?_
                refine ht_goto (tgt := 9) (D 41 rfl) (by decide) ?_
                exact ih2 r2 (by omega) (t + 1) V1 _ _ (by omega) hpr h37 (hc.trans (cn_congr (fun e he => by rw [Bool.eq_iff_iff, bef_t, bef_t]; omega))) hor
              · skip
                exact absurd (by rw [hpr.1 3 (by decide) (by decide) (by decide), hP.2.1.1]; exact nI_le (by omega) (by omega)) hb27
        exact ht_cast (inner dN 0 c V1 (by omega) (by omega) hpr h37 hc hor) rfl rfl rfl
  show HT G mX10_orders 0 [some (.ref m), some (.int (nI n)), none, none, none] [] (sv σ m V U) 7 _
  subst hf
  refine ht_aload_n (D 0 rfl) rfl rfl ?_
  refine ht_iload_n (D 1 rfl) rfl rfl ?_
  refine kVX10_soons (As := [_]) cl_X10_403 (D 2 rfl) (sm_soons hM hP hW hI hh h31 hmn hn) hM.k0 rfl (Nat.le_of_ble_eq_true rfl) rfl (Nat.le_of_ble_eq_true rfl) (by omega) ?_
  rintro rv σ1 ⟨rfl, V2, rfl, hq2, hs2⟩
  refine ht_iconst (v := 0) (D 3 rfl) (by decide) ?_
  refine ht_istore_n (D 4 rfl) rfl (by decide) rfl ?_
  refine ht_iconst (v := 0) (D 5 rfl) (by decide) ?_
  refine ht_istore_n (D 6 rfl) rfl (by decide) rfl ?_
  exact ht_cast (loop (n + 2) 0 V2 none 0 (by omega) hq2.pr hs2 (cn_none (fun e _ => bef_f.mpr (by omega))).symm (fun i hi => absurd hi (by omega))) rfl rfl rfl
def aFirstOk (dN : Nat) (w x : Int32) : Prop := (1 ≤ w ∧ w ≤ 240) ∧ (0 ≤ x ∧ x < nI dN)
set_option maxRecDepth 100000 in
theorem sm_first (hM : MS σ m) {cN dN mN gk : Nat} (hP : PL V cN dN mN gk) {gw : Option GWt} {gi : Option GIt} (hW : LnW V gw) (hI : LnI V gi) {h : Nat} (hh : V 33 80 = nI h) (h31 : h < 2 ^ 30) (hmn : Mn (V 33) cN mN) (w x : Int32) : Sp G mX10_first 8 [.ref m, .int w, .int x] (sv σ m V U) (fun rv σ' => (¬ aFirstOk dN w x ∧ QA σ m V (-1) (V 33) rv σ') ∨ (aFirstOk dN w x ∧ ∃ d, d < dN ∧ rk (soK V gw gi dN mN gk (V 33) h w.toNatClampNeg) dN d = x.toNatClampNeg ∧ QA σ m V (nI d) (V 33) rv σ')) := by
  have D := dat dl_X10_first
  show HT G mX10_first 0 [some (.ref m), some (.int w), some (.int x)] [] (sv σ m V U) 8 _
  have hPt : PL (tz V) cN dN mN gk := hP.dz (tz_dz V)
  have hd10 : dN ≤ 10 := hP.2.1.2
  have hc8 : cN ≤ 8 := hP.1.2
  have hm6 : mN ≤ 6 := hP.2.2.1.2
  refine ht_aload_n (D 0 rfl) rfl rfl ?_
  refine ht_iconst (v := 0) (D 1 rfl) (by decide) ?_
  refine pm_X10_135 hM rfl (D 2 rfl) ?_
  show HT _ _ _ _ _ (sv σ m (tz V) U) _ _
  refine ht_iload_n (D 3 rfl) rfl rfl ?_
  refine kSX10_isSome (As := [_]) cl_X10_400 (D 4 rfl) (sm_isSome w) rfl (Nat.le_of_ble_eq_true rfl) rfl (Nat.le_of_ble_eq_true rfl) (by omega) ?_
  rintro rv σ1 ⟨rfl, rfl⟩
  refine ht_if_eq (tgt := 20) (D 5 rfl) (by decide) (fun hb9 => ?_) (fun hb9 => ?_)
  · skip
    have hng : ¬ aFirstOk dN w x := fun q => b01_eq hb9 q.1
    refine ht_iconst (v := -1) (D 10 rfl) (by decide) ?_
    refine ht_iret (D 11 rfl) rfl rfl ?_
    exact Or.inl ⟨hng, QA_t rfl⟩
  · skip
    have hw9 := b01_ne hb9
    obtain ⟨n, hn1, hn2, rfl⟩ := rngW (lo := 1) 240 (by decide) hw9 (by decide)
    have hnc : (nI n).toNatClampNeg = n := nI_clamp (by omega)
    refine ht_aload_n (D 6 rfl) rfl rfl ?_
    refine ht_iload_n (D 7 rfl) rfl rfl ?_
    refine kVX10_isDoor (As := [_]) cl_X10_337 (D 8 rfl) (sm_isDoor hM x) hM.k0 rfl (Nat.le_of_ble_eq_true rfl) rfl (Nat.le_of_ble_eq_true rfl) (by omega) ?_
    rintro rv σ1 ⟨rfl, rfl⟩
    refine ht_if_ne (tgt := 22) (D 9 rfl) (by decide) (fun hb17 => ?_) (fun hb17 => ?_)
    · skip
      have hq17 := b01_ne hb17
      rw [hPt.2.1.1] at hq17
      obtain ⟨j, hj, rfl⟩ := rng (by omega) hq17
      have hjc : (nI j).toNatClampNeg = j := nI_clamp (by omega)
      have hok : aFirstOk dN (nI n) (nI j) := ⟨hw9, hq17⟩
      refine ht_aload_n (D 12 rfl) rfl rfl ?_
      refine ht_iload_n (D 13 rfl) rfl rfl ?_
      refine kVX10_orders (As := [_]) cl_X10_409 (D 14 rfl) (sm_orders hM hPt (hW.dz (tz_dz V)) (hI.dz (tz_dz V)) (h := h) (by rw [tz_o V (show (33 : Nat) ≠ 0 by decide)]; exact hh) h31 (by rw [tz_o V (show (33 : Nat) ≠ 0 by decide)]; exact hmn) (n := n) hn1 rfl) hM.k0 rfl (Nat.le_of_ble_eq_true rfl) rfl (Nat.le_of_ble_eq_true rfl) (by omega) ?_
      rintro rv σ1 ⟨rfl, V2, rfl, hq2, hs2⟩
      obtain ⟨dq, hd1, hd2, hd3⟩ := hs2 j hj
      rw [soK_dz (tz_dz V), tz_o V (show (33 : Nat) ≠ 0 by decide)] at hd2
      refine ht_aload_n (D 15 rfl) rfl rfl ?_
      refine gf_X10_123 rfl (D 16 rfl) hM.k0 hM.q38 ?_
      refine ht_iload_n (D 17 rfl) rfl rfl ?_
      refine hm_ild (o := 38) (n := j) (by decide) (D 18 rfl) hM.k38 hM.n38 (by first | rfl | exact nI_add _ _ | assumption) (by omega) (by decide) ?_
      refine ht_iret (D 19 rfl) rfl rfl ?_
      exact Or.inr ⟨hok, dq, hd1, by rw [hnc, hjc]; exact hd2, by rw [hd3], V2, U, rfl, hq2.pz, by rw [hq2.2, tz_o V (show (33 : Nat) ≠ 0 by decide)]⟩
    · skip
      have hno := b01_eq hb17
      rw [hPt.2.1.1] at hno
      have hng : ¬ aFirstOk dN (nI n) x := fun q => hno q.2
      refine ht_iconst (v := -1) (D 10 rfl) (by decide) ?_
      refine ht_iret (D 11 rfl) rfl rfl ?_
      exact Or.inl ⟨hng, QA_t rfl⟩
end M15
