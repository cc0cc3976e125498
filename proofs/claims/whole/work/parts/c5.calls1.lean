/-! ===== the calls: the state keeps its bounds; answers alike ===== -/
section T5
variable {G : GG} {τ τ1 τ2 : Hp} {ρ : Nat → Nat} {T : ST} {n xo b k h S9 : Nat} {s : TD} {S : ST}
theorem SI_k (hS : SI S s k h) {S2 : ST} {k2 h2 : Nat} (hk : k ≤ k2) (h1 : Mn S2 (tdC s 0) (tdC s 2)) (h3 : LkI S2 (tdC s 1)) (h4 : ∀ x, x < tdC s 2 → S2 (74 + x) = S (74 + x)) (h5 : ∀ j, j < tdC s 1 → S2 (20 + j) = S (20 + j)) (h6 : S2 80 = nI h2) (h7 : h2 ≤ 1000 * k2) : SI S2 s k2 h2 := ⟨h1, h3, fun x hx => by rw [h4 x hx]; exact hS.2.2.1 x hx, fun j hj => by
  obtain ⟨u, q1, q2⟩ := hS.2.2.2.1 j hj
  exact ⟨u, by omega, by rw [h5 j hj]; exact q2⟩, h6, h7⟩
theorem LkI_cg {S2 : ST} {dN : Nat} (hd : dN ≤ 10) (h : LkI S dN) (e : ∀ i, i < 50 → ¬ (20 ≤ i ∧ i < 30) → S2 i = S i) : LkI S2 dN := by
  intro j hj
  obtain ⟨p, q, r, h1, h2, h3, h4, h5, h6⟩ := h j hj
  exact ⟨p, q, r, by rw [e j (by omega) (by omega)]; exact h1, by rw [e (10 + j) (by omega) (by omega)]; exact h2, h3, by rw [e (30 + j) (by omega) (by omega)]; exact h4, h5, by rw [e (40 + j) (by omega) (by omega)]; exact h6⟩
theorem Mn_cg {S2 : ST} {cN mN : Nat} (h : Mn S cN mN) (e : ∀ x, x < mN → S2 (68 + x) = S (68 + x)) : Mn S2 cN mN := fun x hx => by rw [e x hx]; exact h x hx
theorem SI_pour (hV : TV T n s) (hS : SI S s k h) (x w : Int32) : SI (aPour S (tdC s 1) x w).2 s (k + 1) h := by
  unfold aPour
  by_cases q : (0 ≤ x ∧ x < nI (tdC s 1)) ∧ (0 ≤ w ∧ w ≤ 99)
  · rw [if_pos q]
    have c1 := hV.1.2.1
    have c2 := hV.1.2.2.1
    obtain ⟨j, hj, rfl⟩ := rng (by omega) q.1
    rw [nI_clamp (by omega)]
    have e : ∀ i, i ≠ 10 + j → i ≠ 40 + j → prS S j w i = S i := fun i h1 h2 => by
      unfold prS
      rw [va_up_k _ _ h2, va_up_k _ _ h1]
    exact SI_k hS (by omega) (prS_mn w (by omega) hS.1) (prS_lk c1 hj q.2 hS.2.1) (fun i hi => e _ (by omega) (by omega)) (fun i hi => e _ (by omega) (by omega)) ((e 80 (by omega) (by omega)).trans hS.2.2.2.2.1) (by have := hS.2.2.2.2.2; omega)
  · rw [if_neg q]; exact hS.up (by omega)
theorem SI_stove (hV : TV T n s) (hS : SI S s k h) (x w : Int32) : SI (aStove S (tdC s 0) x w).2 s (k + 1) h := by
  unfold aStove
  by_cases q : (0 ≤ x ∧ x < nI (tdC s 0)) ∧ (0 ≤ w ∧ w ≤ 9)
  · rw [if_pos q]
    have c0 := hV.1.1
    have c1 := hV.1.2.1
    obtain ⟨j, hj, rfl⟩ := rng (by omega) q.1
    rw [nI_clamp (by omega)]
    exact SI_k hS (by omega) (Mn_cg hS.1 (fun i hi => va_up_k _ _ (by omega))) (LkI_cg c1 hS.2.1 (fun i h1 h2 => va_up_k _ _ (by omega))) (fun i hi => va_up_k _ _ (by omega)) (fun i hi => va_up_k _ _ (by omega)) ((va_up_k _ _ (by omega)).trans hS.2.2.2.2.1) (by have := hS.2.2.2.2.2; omega)
  · rw [if_neg q]; exact hS.up (by omega)
theorem SI_pardon (hV : TV T n s) (hS : SI S s k h) (x : Int32) : SI (aPardon S (tdC s 2) x).2 s (k + 1) h := by
  unfold aPardon
  cases Classical.propDecidable (aHeld S (tdC s 2) x) with
  | isFalse q => exact hS.up (by omega)
  | isTrue q =>
    have c1 := hV.1.2.1
    have c2 := hV.1.2.2.1
    obtain ⟨j, hj, rfl⟩ := rng (by omega) q.1
    show SI (va_up S (68 + (nI j).toNatClampNeg) (-1)) s (k + 1) h
    rw [nI_clamp (by omega)]
    refine SI_k hS (by omega) (fun i hi => ?_) (LkI_cg c1 hS.2.1 (fun i h1 h2 => va_up_k _ _ (by omega))) (fun i hi => va_up_k _ _ (by omega)) (fun i hi => va_up_k _ _ (by omega)) ((va_up_k _ _ (by omega)).trans hS.2.2.2.2.1) (by have := hS.2.2.2.2.2; omega)
    by_cases qi : i = j
    · rw [qi, va_up_s]; exact Or.inl rfl
    · rw [va_up_k _ _ (by omega)]; exact hS.1 i hi
theorem slT_o (V : VT) (S : ST) (mN d : Nat) {i : Nat} (h : i ≠ 50 + d) : slT V S mN d i = S i := by
  unfold slT
  split
  · exact va_up_k _ _ h
  · rfl
theorem SI_salt (V : VT) (hV : TV T n s) (hS : SI S s k h) (x y : Int32) : SI (aSalt V S (tdC s 1) (tdC s 2) x y).2 s (k + 1) h := by
  unfold aSalt
  cases Classical.propDecidable (aSaltOk V S (tdC s 1) (tdC s 2) x y) with
  | isFalse q => exact hS.up (by omega)
  | isTrue q =>
    have c1 := hV.1.2.1
    have c2 := hV.1.2.2.1
    obtain ⟨j, hj, rfl⟩ := rng (by omega) q.1.1
    obtain ⟨d, hd, rfl⟩ := rng (by omega) q.2.1
    have q3 := q.2.2.1
    show SI (slT V (slS V S (tdC s 2) (nI j).toNatClampNeg (nI d).toNatClampNeg) (tdC s 2) (nI d).toNatClampNeg) s (k + 1) h
    rw [nI_clamp (by omega)] at q3
    rw [nI_clamp (by omega), nI_clamp (by omega)]
    have e : ∀ i, i ≠ 74 + j → i ≠ 20 + d → i ≠ 50 + d → slT V (slS V S (tdC s 2) j d) (tdC s 2) d i = S i := fun i h1 h2 h3 => by
      rw [slT_o V _ _ _ h3]
      unfold slS
      rw [va_up_k _ _ h2, va_up_k _ _ h1]
    refine ⟨Mn_cg hS.1 (fun i hi => e _ (by omega) (by omega) (by omega)), LkI_cg c1 hS.2.1 (fun i h1 h2 => e _ (by omega) (by omega) (by omega)), fun i hi => ?_, fun i hi => ?_, (e 80 (by omega) (by omega) (by omega)).trans hS.2.2.2.2.1, by have := hS.2.2.2.2.2; omega⟩
    · by_cases qi : i = j
      · obtain ⟨u, u1, u2⟩ := hS.2.2.1 j hj
        rw [qi, slT_o V _ _ _ (by omega)]
        unfold slS
        rw [va_up_k _ _ (by omega), va_up_s, u2]
        have hu : 0 < u := by
          rcases Nat.eq_zero_or_pos u with z | z
          · rw [u2, z] at q3; exact absurd rfl q3
          · exact z
        exact ⟨u - 1, by omega, nI_sub1 hu⟩
      · rw [e _ (by omega) (by omega) (by omega)]; exact hS.2.2.1 i hi
    · by_cases qi : i = d
      · obtain ⟨u, u1, u2⟩ := hS.2.2.2.1 d hd
        rw [qi, slT_o V _ _ _ (by omega)]
        unfold slS
        rw [va_up_s, va_up_k _ _ (by omega), u2]
        exact ⟨u + 1, by omega, nI_1 u⟩
      · obtain ⟨u, u1, u2⟩ := hS.2.2.2.1 i hi
        rw [e _ (by omega) (by omega) (by omega)]; exact ⟨u, by omega, u2⟩
theorem fdS_20 (V : VT) (gi : Option GIt) (dg : Int32) (mN gk h : Nat) (S : ST) {j i : Nat} (hj : j < 10) (hi : i < 10) : fdS V gi dg mN gk h S j (20 + i) = (if i = j then imax 0 (S (20 + j) - 1) else S (20 + i)) := by
  have e : ∀ i, i < 10 → fd2 gi dg (stF V S j) (brF V S mN gk h j) (fd1 V gi dg mN gk h S j) j (20 + i) = S (20 + i) := fun i hi => by
    unfold fd2 trS
    rw [va_up_k _ _ (by omega), va_up_k _ _ (by omega)]
    unfold fd1 trS
    rw [va_up_k _ _ (by omega), va_up_k _ _ (by omega)]
  unfold fdS fd3
  by_cases q : i = j
  · rw [if_pos q, q, va_up_s, e j hj]
  · rw [if_neg q, va_up_k _ _ (by omega), e i hi]
theorem sa_dec {u : Nat} (hu : u < 2 ^ 30) : ∃ v, v ≤ u ∧ imax 0 (nI u - 1) = nI v := by
  rcases Nat.eq_zero_or_pos u with rfl | z
  · exact ⟨0, Nat.le_refl _, by decide⟩
  · rw [nI_sub1 z]
    unfold imax
    by_cases q : (0 : Int32) < nI (u - 1)
    · rw [if_pos q]; exact ⟨u - 1, by omega, rfl⟩
    · rw [if_neg q]; exact ⟨0, by omega, rfl⟩
theorem frS_20 (V : VT) (gi : Option GIt) (dg : Int32) (mN gk h : Nat) {S : ST} {i K : Nat} (hi : i < 10) (hK : K < 2 ^ 30) (hS : ∃ u, u ≤ K ∧ S (20 + i) = nI u) : ∀ j, j ≤ 10 → ∃ u, u ≤ K ∧ frS V gi dg mN gk h S j (20 + i) = nI u := by
  intro j
  induction j with
  | zero => exact fun _ => hS
  | succ j ih =>
    intro hj
    obtain ⟨u, u1, u2⟩ := ih (by omega)
    show ∃ u, u ≤ K ∧ fdS V gi dg mN gk h (frS V gi dg mN gk h S j) j (20 + i) = nI u
    rw [fdS_20 V gi dg mN gk h _ (by omega) hi]
    by_cases q : i = j
    · subst q
      rw [if_pos rfl, u2]
      obtain ⟨v, v1, v2⟩ := sa_dec (u := u) (by omega)
      exact ⟨v, by omega, v2⟩
    · rw [if_neg q]; exact ⟨u, u1, u2⟩
theorem wkN_lo (V : VT) (gk h dN : Nat) (S : ST) {x : Nat} (hx : x < 68) : ∀ k, wkN V gk h dN S k x = S x := by
  intro k
  induction k with
  | zero => rfl
  | succ k ih =>
    show wkS V gk h dN (wkN V gk h dN S k) k x = S x
    rw [wkS_o _ _ _ _ _ (show x ≠ 68 + k by omega), ih]
theorem psI_20 {V : VT} {cN dN mN gk : Nat} (hP : PL V cN dN mN gk) (gw : Option GWt) (gi : Option GIt) (h : Nat) {S : ST} {i K : Nat} (hi : i < 10) (hK : K < 2 ^ 30) (hS : ∃ u, u ≤ K ∧ S (20 + i) = nI u) : ∀ k, ∃ u, u ≤ K ∧ psI V gw gi dN mN gk S h k (20 + i) = nI u := by
  intro k
  induction k with
  | zero => exact hS
  | succ k ih =>
    show ∃ u, u ≤ K ∧ psS V gw gi dN mN gk (h + k) 0 (psI V gw gi dN mN gk S h k) (20 + i) = nI u
    unfold psS
    rw [va_up_k _ _ (by omega), wkN_lo _ _ _ _ _ (by omega)]
    exact frS_20 V gi _ mN gk (h + k) hi hK ih dN hP.2.1.2
theorem psI_74 {V : VT} {cN dN mN gk : Nat} (hP : PL V cN dN mN gk) (gw : Option GWt) (gi : Option GIt) (h : Nat) (S : ST) {x : Nat} (hx : x < 6) : ∀ k, psI V gw gi dN mN gk S h k (74 + x) = S (74 + x) := by
  intro k
  induction k with
  | zero => rfl
  | succ k ih =>
    show psS V gw gi dN mN gk (h + k) 0 (psI V gw gi dN mN gk S h k) (74 + x) = S (74 + x)
    unfold psS
    rw [va_up_k _ _ (by omega), wkN_hi _ _ _ _ _ (by omega) hP.2.2.1.2, frS_hi _ _ _ _ _ _ _ hP.2.1.2 (by omega)]
    exact ih
theorem SI_hours {V : VT} (gw : Option GWt) (gi : Option GIt) (hV : TV T n s) (hX : PX V (tdC s 0) (tdC s 1) (tdC s 2) (tdC s 3)) (hS : SI S s k h) (hk : k ≤ 600) (w : Int32) : ∃ h2, SI (aHours V gw gi (tdC s 1) (tdC s 2) (tdC s 3) h S w).2 s (k + 1) h2 := by
  have hP := hX.1
  unfold aHours
  by_cases q : 1 ≤ w ∧ w ≤ 1000
  · rw [if_pos q]
    have c1 := hV.1.2.1
    have c2 := hV.1.2.2.1
    have hw : w.toNatClampNeg ≤ 1000 := by
      have h2 := q.2
      have h1 := q.1
      simp only [i_lt, i_le] at h1 h2
      have e1 : (1 : Int32).toInt = 1 := by decide
      have e2 : (1000 : Int32).toInt = 1000 := by decide
      rw [e1] at h1
      rw [e2] at h2
      show w.toInt.toNat ≤ 1000
      omega
    refine ⟨h + w.toNatClampNeg, psI_mn hP gw gi h hS.1 _, psI_lk hX gw gi hS.2.1 hS.1 h _, fun x hx => ?_, fun j hj => ?_, psI_80 V gw gi _ _ _ hS.2.2.2.2.1 _, by have := hS.2.2.2.2.2; omega⟩
    · show ∃ u, u ≤ 9 ∧ psI V gw gi (tdC s 1) (tdC s 2) (tdC s 3) S h w.toNatClampNeg (74 + x) = nI u
      rw [psI_74 hP gw gi h S (x := x) (by omega)]; exact hS.2.2.1 x hx
    · obtain ⟨u, u1, u2⟩ := psI_20 hP gw gi h (i := j) (K := k) (by omega) (by omega) (hS.2.2.2.1 j hj) w.toNatClampNeg
      exact ⟨u, by omega, u2⟩
  · rw [if_neg q]; exact ⟨h, hS.up (by omega)⟩
/-! the calls -/
theorem LIc.cw (hL : LIc xo S9 k τ ρ b s T n h) : CW τ (zI τ) xo b (vV τ (xo + 52)) (tdC s 0) (tdC s 1) (tdC s 2) (tdC s 3) (gwO s) (giO s) := NX.cw hL.1.1 hL.2.1.1 hL.2.1.2.1 hL.2.2.1.1 hL.2.1.2.2 hL.2.2.1.2
theorem LIc.nv (hL : LIc xo S9 k τ ρ b s T n h) : nv (tdC s 1) (zI τ) (xo + 14) = vV τ (xo + 52) 33 := hL.2.2.2.1.1
theorem LIc.bar (hL : LIc xo S9 k τ ρ b s T n h) : zI τ (xo + 14) 2 = -1 := hL.2.2.2.1.2.1
theorem LIc.si (hL : LIc xo S9 k τ ρ b s T n h) : SI (vV τ (xo + 52) 33) s k h := hL.2.2.2.1.2.2
theorem LIc.tv (hL : LIc xo S9 k τ ρ b s T n h) : TV T n s := hL.2.1.2.2
theorem LIc.px (hL : LIc xo S9 k τ ρ b s T n h) : PX (vV τ (xo + 52)) (tdC s 0) (tdC s 1) (tdC s 2) (tdC s 3) := hL.2.2.1.1.px hL.tv hL.2.2.1.2
theorem LIc.lnw (hL : LIc xo S9 k τ ρ b s T n h) : LnW (vV τ (xo + 52)) (gwO s) := hL.2.2.1.1.lnw hL.tv
theorem LIc.lni (hL : LIc xo S9 k τ ρ b s T n h) : LnI (vV τ (xo + 52)) (giO s) := hL.2.2.1.1.lni hL.tv
theorem LIc.hr (hL : LIc xo S9 k τ ρ b s T n h) : zI τ (xo + 14) 1 = nI h := by
  have h1 := hL.si.2.2.2.2.1
  rw [← hL.nv, nv_hour] at h1
  exact h1
theorem cl_cell (hE : NE G) (hL : LIc xo S9 k τ ρ b s T n h) (hk : k ≤ 600) (x w : Int32) : Sp G mX9_cell 3 [.ref xo, .int x, .int w] τ (fun rv τ1 => ∃ r, (rv = some (.int r) ∧ zK τ1 (xo + 52) = 9) ∧ Sp G mX10_cell 1 [.ref (xo + 52), .int x, .int w] τ1 (fun rv τ2 => rv = some (.int r) ∧ LI xo S9 (k + 1) τ2)) := by
  have hC := hL.cw
  have hP := hL.px.1
  have hnv := hL.nv
  have hbar := hL.bar
  have hS := hL.si
  have hmn : Mn (nv (tdC s 1) (zI τ) (xo + 14)) (tdC s 0) (tdC s 2) := by rw [hnv]; exact hS.1
  have hlk : LkI (nv (tdC s 1) (zI τ) (xo + 14)) (tdC s 1) := by rw [hnv]; exact hS.2.1
  have hhc := hL.hr
  have hhr := hS.2.2.2.2.1
  have h31 : h < 2 ^ 30 := by have := hS.2.2.2.2.2; omega
  have hc := sc_cell (G := G) hE hC hbar hhc (by omega) x w
  rw [hnv] at hc
  exact li_gen hL (hS.up (by omega)) (ht_mono hc (fun rv σ' q => ⟨_, q, fun σ1 hM1 => sm_cell hM1 hP hhr (by omega) x w⟩))
theorem cl_door (hE : NE G) (hL : LIc xo S9 k τ ρ b s T n h) (hk : k ≤ 600) (x w : Int32) : Sp G mX9_door 1 [.ref xo, .int x, .int w] τ (fun rv τ1 => ∃ r, (rv = some (.int r) ∧ zK τ1 (xo + 52) = 9) ∧ Sp G mX10_door 1 [.ref (xo + 52), .int x, .int w] τ1 (fun rv τ2 => rv = some (.int r) ∧ LI xo S9 (k + 1) τ2)) := by
  have hC := hL.cw
  have hP := hL.px.1
  have hnv := hL.nv
  have hbar := hL.bar
  have hS := hL.si
  have hmn : Mn (nv (tdC s 1) (zI τ) (xo + 14)) (tdC s 0) (tdC s 2) := by rw [hnv]; exact hS.1
  have hlk : LkI (nv (tdC s 1) (zI τ) (xo + 14)) (tdC s 1) := by rw [hnv]; exact hS.2.1
  have hhc := hL.hr
  have hhr := hS.2.2.2.2.1
  have h31 : h < 2 ^ 30 := by have := hS.2.2.2.2.2; omega
  have hc := sc_door (G := G) hE hC hbar x w
  rw [hnv] at hc
  exact li_gen hL (hS.up (by omega)) (ht_mono hc (fun rv σ' q => ⟨_, q, fun σ1 hM1 => sm_door hM1 hP x w⟩))
theorem cl_beside (hE : NE G) (hL : LIc xo S9 k τ ρ b s T n h) (hk : k ≤ 600) (x : Int32) : Sp G mX9_beside 1 [.ref xo, .int x] τ (fun rv τ1 => ∃ r, (rv = some (.int r) ∧ zK τ1 (xo + 52) = 9) ∧ Sp G mX10_beside 1 [.ref (xo + 52), .int x] τ1 (fun rv τ2 => rv = some (.int r) ∧ LI xo S9 (k + 1) τ2)) := by
  have hC := hL.cw
  have hP := hL.px.1
  have hnv := hL.nv
  have hbar := hL.bar
  have hS := hL.si
  have hmn : Mn (nv (tdC s 1) (zI τ) (xo + 14)) (tdC s 0) (tdC s 2) := by rw [hnv]; exact hS.1
  have hlk : LkI (nv (tdC s 1) (zI τ) (xo + 14)) (tdC s 1) := by rw [hnv]; exact hS.2.1
  have hhc := hL.hr
  have hhr := hS.2.2.2.2.1
  have h31 : h < 2 ^ 30 := by have := hS.2.2.2.2.2; omega
  have hc := sc_beside (G := G) hE hC hbar x
  rw [hnv] at hc
  exact li_gen hL (hS.up (by omega)) (ht_mono hc (fun rv σ' q => ⟨_, q, fun σ1 hM1 => sm_beside hM1 hP x⟩))
theorem cl_salted (hE : NE G) (hL : LIc xo S9 k τ ρ b s T n h) (hk : k ≤ 600) (w : Int32) : Sp G mX9_salted 1 [.ref xo, .int w] τ (fun rv τ1 => ∃ r, (rv = some (.int r) ∧ zK τ1 (xo + 52) = 9) ∧ Sp G mX10_salted 1 [.ref (xo + 52), .int w] τ1 (fun rv τ2 => rv = some (.int r) ∧ LI xo S9 (k + 1) τ2)) := by
  have hC := hL.cw
  have hP := hL.px.1
  have hnv := hL.nv
  have hbar := hL.bar
  have hS := hL.si
  have hmn : Mn (nv (tdC s 1) (zI τ) (xo + 14)) (tdC s 0) (tdC s 2) := by rw [hnv]; exact hS.1
  have hlk : LkI (nv (tdC s 1) (zI τ) (xo + 14)) (tdC s 1) := by rw [hnv]; exact hS.2.1
  have hhc := hL.hr
  have hhr := hS.2.2.2.2.1
  have h31 : h < 2 ^ 30 := by have := hS.2.2.2.2.2; omega
  have hc := sc_salted (G := G) hE hC hbar w
  rw [hnv] at hc
  exact li_gen hL (hS.up (by omega)) (ht_mono hc (fun rv σ' q => ⟨_, q, fun σ1 hM1 => sm_salted hM1 hP w⟩))
theorem cl_thaw (hE : NE G) (hL : LIc xo S9 k τ ρ b s T n h) (hk : k ≤ 600) (w : Int32) : Sp G mX9_thaw 4 [.ref xo, .int w] τ (fun rv τ1 => ∃ r, (rv = some (.int r) ∧ zK τ1 (xo + 52) = 9) ∧ Sp G mX10_thaw 4 [.ref (xo + 52), .int w] τ1 (fun rv τ2 => rv = some (.int r) ∧ LI xo S9 (k + 1) τ2)) := by
  have hC := hL.cw
  have hP := hL.px.1
  have hnv := hL.nv
  have hbar := hL.bar
  have hS := hL.si
  have hmn : Mn (nv (tdC s 1) (zI τ) (xo + 14)) (tdC s 0) (tdC s 2) := by rw [hnv]; exact hS.1
  have hlk : LkI (nv (tdC s 1) (zI τ) (xo + 14)) (tdC s 1) := by rw [hnv]; exact hS.2.1
  have hhc := hL.hr
  have hhr := hS.2.2.2.2.1
  have h31 : h < 2 ^ 30 := by have := hS.2.2.2.2.2; omega
  have hc := sc_thaw (G := G) hE hC hbar hhc h31 w
  rw [hnv] at hc
  exact li_gen hL (hS.up (by omega)) (ht_mono hc (fun rv σ' q => ⟨_, q, fun σ1 hM1 => sm_thaw hM1 hL.lnw hhr h31 w⟩))
theorem cl_amnesty (hE : NE G) (hL : LIc xo S9 k τ ρ b s T n h) (hk : k ≤ 600) (x w : Int32) : Sp G mX9_amnesty 1 [.ref xo, .int x, .int w] τ (fun rv τ1 => ∃ r, (rv = some (.int r) ∧ zK τ1 (xo + 52) = 9) ∧ Sp G mX10_amnesty 1 [.ref (xo + 52), .int x, .int w] τ1 (fun rv τ2 => rv = some (.int r) ∧ LI xo S9 (k + 1) τ2)) := by
  have hC := hL.cw
  have hP := hL.px.1
  have hnv := hL.nv
  have hbar := hL.bar
  have hS := hL.si
  have hmn : Mn (nv (tdC s 1) (zI τ) (xo + 14)) (tdC s 0) (tdC s 2) := by rw [hnv]; exact hS.1
  have hlk : LkI (nv (tdC s 1) (zI τ) (xo + 14)) (tdC s 1) := by rw [hnv]; exact hS.2.1
  have hhc := hL.hr
  have hhr := hS.2.2.2.2.1
  have h31 : h < 2 ^ 30 := by have := hS.2.2.2.2.2; omega
  have hc := sc_amnesty (G := G) hE hC hbar hmn x w
  rw [hnv] at hc
  exact li_gen hL (hS.up (by omega)) (ht_mono hc (fun rv σ' q => ⟨_, q, fun σ1 hM1 => sm_amnesty hM1 hP x w⟩))
theorem cl_soon (hE : NE G) (hL : LIc xo S9 k τ ρ b s T n h) (hk : k ≤ 600) (x w : Int32) : Sp G mX9_soon 6 [.ref xo, .int x, .int w] τ (fun rv τ1 => ∃ r, (rv = some (.int r) ∧ zK τ1 (xo + 52) = 9) ∧ Sp G mX10_soon 7 [.ref (xo + 52), .int x, .int w] τ1 (fun rv τ2 => rv = some (.int r) ∧ LI xo S9 (k + 1) τ2)) := by
  have hC := hL.cw
  have hP := hL.px.1
  have hnv := hL.nv
  have hbar := hL.bar
  have hS := hL.si
  have hmn : Mn (nv (tdC s 1) (zI τ) (xo + 14)) (tdC s 0) (tdC s 2) := by rw [hnv]; exact hS.1
  have hlk : LkI (nv (tdC s 1) (zI τ) (xo + 14)) (tdC s 1) := by rw [hnv]; exact hS.2.1
  have hhc := hL.hr
  have hhr := hS.2.2.2.2.1
  have h31 : h < 2 ^ 30 := by have := hS.2.2.2.2.2; omega
  have hc := sc_soon (G := G) hE hC hbar hmn hlk hhc h31 x w
  rw [hnv] at hc
  exact li_gen hL (hS.up (by omega)) (ht_mono hc (fun rv σ' q => ⟨_, q, fun σ1 hM1 => sm_soon hM1 hP hL.lnw hL.lni hhr h31 hS.1 x w⟩))
theorem cl_needs (hE : NE G) (hL : LIc xo S9 k τ ρ b s T n h) (hk : k ≤ 600) (x w : Int32) : Sp G mX9_needs 7 [.ref xo, .int x, .int w] τ (fun rv τ1 => ∃ r, (rv = some (.int r) ∧ zK τ1 (xo + 52) = 9) ∧ Sp G mX10_needs 7 [.ref (xo + 52), .int x, .int w] τ1 (fun rv τ2 => rv = some (.int r) ∧ LI xo S9 (k + 1) τ2)) := by
  have hC := hL.cw
  have hP := hL.px.1
  have hnv := hL.nv
  have hbar := hL.bar
  have hS := hL.si
  have hmn : Mn (nv (tdC s 1) (zI τ) (xo + 14)) (tdC s 0) (tdC s 2) := by rw [hnv]; exact hS.1
  have hlk : LkI (nv (tdC s 1) (zI τ) (xo + 14)) (tdC s 1) := by rw [hnv]; exact hS.2.1
  have hhc := hL.hr
  have hhr := hS.2.2.2.2.1
  have h31 : h < 2 ^ 30 := by have := hS.2.2.2.2.2; omega
  have hsl : ∀ i, i < tdC s 1 → ∃ u, nv (tdC s 1) (zI τ) (xo + 14) (20 + i) = nI u ∧ u < 2 ^ 30 := fun i hi => by
    obtain ⟨u, u1, u2⟩ := hS.2.2.2.1 i hi
    exact ⟨u, by rw [hnv]; exact u2, by omega⟩
  have hc := sc_needs (G := G) hE hC hbar hmn hlk hhc h31 hsl x w
  rw [hnv] at hc
  exact li_gen hL (hS.up (by omega)) (ht_mono hc (fun rv σ' q => ⟨_, q, fun σ1 hM1 => sm_needs hM1 hP hL.lnw hL.lni hhr h31 hS.1 hS.2.1.lk x w⟩))
theorem cl_escape (hE : NE G) (hL : LIc xo S9 k τ ρ b s T n h) (hk : k ≤ 600) (x w : Int32) : Sp G mX9_escape 6 [.ref xo, .int x, .int w] τ (fun rv τ1 => ∃ r, (rv = some (.int r) ∧ zK τ1 (xo + 52) = 9) ∧ Sp G mX10_escape 6 [.ref (xo + 52), .int x, .int w] τ1 (fun rv τ2 => rv = some (.int r) ∧ LI xo S9 (k + 1) τ2)) := by
  have hC := hL.cw
  have hP := hL.px.1
  have hnv := hL.nv
  have hbar := hL.bar
  have hS := hL.si
  have hmn : Mn (nv (tdC s 1) (zI τ) (xo + 14)) (tdC s 0) (tdC s 2) := by rw [hnv]; exact hS.1
  have hlk : LkI (nv (tdC s 1) (zI τ) (xo + 14)) (tdC s 1) := by rw [hnv]; exact hS.2.1
  have hhc := hL.hr
  have hhr := hS.2.2.2.2.1
  have h31 : h < 2 ^ 30 := by have := hS.2.2.2.2.2; omega
  have hc := sc_escape (G := G) hE hC hbar hmn hlk hhc h31 x w
  rw [hnv] at hc
  exact li_gen hL (hS.up (by omega)) (ht_mono hc (fun rv σ' q => ⟨_, q, fun σ1 hM1 => sm_escape hM1 hP hL.lnw hL.lni hhr h31 hS.1 x w⟩))
theorem cl_count (hE : NE G) (hL : LIc xo S9 k τ ρ b s T n h) (hk : k ≤ 600) (w : Int32) : Sp G mX9_count 1 [.ref xo, .int w] τ (fun rv τ1 => ∃ r, (rv = some (.int r) ∧ zK τ1 (xo + 52) = 9) ∧ Sp G mX10_count 1 [.ref (xo + 52), .int w] τ1 (fun rv τ2 => rv = some (.int r) ∧ LI xo S9 (k + 1) τ2)) := by
  have hC := hL.cw
  have hP := hL.px.1
  have hnv := hL.nv
  have hbar := hL.bar
  have hS := hL.si
  have hmn : Mn (nv (tdC s 1) (zI τ) (xo + 14)) (tdC s 0) (tdC s 2) := by rw [hnv]; exact hS.1
  have hlk : LkI (nv (tdC s 1) (zI τ) (xo + 14)) (tdC s 1) := by rw [hnv]; exact hS.2.1
  have hhc := hL.hr
  have hhr := hS.2.2.2.2.1
  have h31 : h < 2 ^ 30 := by have := hS.2.2.2.2.2; omega
  have htp : zI τ (xo + 1) 1 = vV τ (xo + 52) 0 1 := by
    obtain ⟨n0, g1, g2, g3, g4⟩ := hL.2.2.2.2.1
    exact g2.trans g3.symm
  have hc := sc_count (G := G) hE hC hbar hmn htp w
  rw [hnv] at hc
  exact li_gen hL (hS.up (by omega)) (ht_mono hc (fun rv σ' q => ⟨_, q, fun σ1 hM1 => sm_count hM1 hP w⟩))
theorem cl_pour (hE : NE G) (hL : LIc xo S9 k τ ρ b s T n h) (hk : k ≤ 600) (x w : Int32) : Sp G mX9_pour 2 [.ref xo, .int x, .int w] τ (fun rv τ1 => ∃ r, (rv = some (.int r) ∧ zK τ1 (xo + 52) = 9) ∧ Sp G mX10_pour 2 [.ref (xo + 52), .int x, .int w] τ1 (fun rv τ2 => rv = some (.int r) ∧ LI xo S9 (k + 1) τ2)) := by
  have hC := hL.cw
  have hP := hL.px.1
  have hnv := hL.nv
  have hbar := hL.bar
  have hS := hL.si
  have hmn : Mn (nv (tdC s 1) (zI τ) (xo + 14)) (tdC s 0) (tdC s 2) := by rw [hnv]; exact hS.1
  have hlk : LkI (nv (tdC s 1) (zI τ) (xo + 14)) (tdC s 1) := by rw [hnv]; exact hS.2.1
  have hhc := hL.hr
  have hhr := hS.2.2.2.2.1
  have h31 : h < 2 ^ 30 := by have := hS.2.2.2.2.2; omega
  have hc := sc_pour (G := G) hE hC hbar x w
  rw [hnv] at hc
  exact li_gen hL (SI_pour hL.tv hS x w) (ht_mono hc (fun rv σ' q => ⟨_, q, fun σ1 hM1 => sm_pour hM1 hP x w⟩))
theorem cl_stove (hE : NE G) (hL : LIc xo S9 k τ ρ b s T n h) (hk : k ≤ 600) (x w : Int32) : Sp G mX9_stove 1 [.ref xo, .int x, .int w] τ (fun rv τ1 => ∃ r, (rv = some (.int r) ∧ zK τ1 (xo + 52) = 9) ∧ Sp G mX10_stove 1 [.ref (xo + 52), .int x, .int w] τ1 (fun rv τ2 => rv = some (.int r) ∧ LI xo S9 (k + 1) τ2)) := by
  have hC := hL.cw
  have hP := hL.px.1
  have hnv := hL.nv
  have hbar := hL.bar
  have hS := hL.si
  have hmn : Mn (nv (tdC s 1) (zI τ) (xo + 14)) (tdC s 0) (tdC s 2) := by rw [hnv]; exact hS.1
  have hlk : LkI (nv (tdC s 1) (zI τ) (xo + 14)) (tdC s 1) := by rw [hnv]; exact hS.2.1
  have hhc := hL.hr
  have hhr := hS.2.2.2.2.1
  have h31 : h < 2 ^ 30 := by have := hS.2.2.2.2.2; omega
  have hc := sc_stove (G := G) hE hC hbar x w
  rw [hnv] at hc
  exact li_gen hL (SI_stove hL.tv hS x w) (ht_mono hc (fun rv σ' q => ⟨_, q, fun σ1 hM1 => sm_stove hM1 hP x w⟩))
theorem cl_pardon (hE : NE G) (hL : LIc xo S9 k τ ρ b s T n h) (hk : k ≤ 600) (x : Int32) : Sp G mX9_pardon 2 [.ref xo, .int x] τ (fun rv τ1 => ∃ r, (rv = some (.int r) ∧ zK τ1 (xo + 52) = 9) ∧ Sp G mX10_pardon 2 [.ref (xo + 52), .int x] τ1 (fun rv τ2 => rv = some (.int r) ∧ LI xo S9 (k + 1) τ2)) := by
  have hC := hL.cw
  have hP := hL.px.1
  have hnv := hL.nv
  have hbar := hL.bar
  have hS := hL.si
  have hmn : Mn (nv (tdC s 1) (zI τ) (xo + 14)) (tdC s 0) (tdC s 2) := by rw [hnv]; exact hS.1
  have hlk : LkI (nv (tdC s 1) (zI τ) (xo + 14)) (tdC s 1) := by rw [hnv]; exact hS.2.1
  have hhc := hL.hr
  have hhr := hS.2.2.2.2.1
  have h31 : h < 2 ^ 30 := by have := hS.2.2.2.2.2; omega
  have hc := sc_pardon (G := G) hE hC hbar hmn x
  rw [hnv] at hc
  exact li_gen hL (SI_pardon hL.tv hS x) (ht_mono hc (fun rv σ' q => ⟨_, q, fun σ1 hM1 => sm_pardon hM1 hP hS.1 x⟩))
theorem cl_salt (hE : NE G) (hL : LIc xo S9 k τ ρ b s T n h) (hk : k ≤ 600) (x w : Int32) : Sp G mX9_salt 2 [.ref xo, .int x, .int w] τ (fun rv τ1 => ∃ r, (rv = some (.int r) ∧ zK τ1 (xo + 52) = 9) ∧ Sp G mX10_salt 2 [.ref (xo + 52), .int x, .int w] τ1 (fun rv τ2 => rv = some (.int r) ∧ LI xo S9 (k + 1) τ2)) := by
  have hC := hL.cw
  have hP := hL.px.1
  have hnv := hL.nv
  have hbar := hL.bar
  have hS := hL.si
  have hmn : Mn (nv (tdC s 1) (zI τ) (xo + 14)) (tdC s 0) (tdC s 2) := by rw [hnv]; exact hS.1
  have hlk : LkI (nv (tdC s 1) (zI τ) (xo + 14)) (tdC s 1) := by rw [hnv]; exact hS.2.1
  have hhc := hL.hr
  have hhr := hS.2.2.2.2.1
  have h31 : h < 2 ^ 30 := by have := hS.2.2.2.2.2; omega
  have hbag : ∀ i, i < tdC s 2 → ∃ u, u ≤ 9 ∧ nv (tdC s 1) (zI τ) (xo + 14) (74 + i) = nI u := by rw [hnv]; exact hS.2.2.1
  have hc := sc_salt (G := G) hE hC hbar hmn hbag x w
  rw [hnv] at hc
  exact li_gen hL (SI_salt (vV τ (xo + 52)) hL.tv hS x w) (ht_mono hc (fun rv σ' q => ⟨_, q, fun σ1 hM1 => sm_salt hM1 hP hS.1 x w⟩))
theorem cl_hours (hE : NE G) (hL : LIc xo S9 k τ ρ b s T n h) (hk : k ≤ 600) (w : Int32) : Sp G mX9_hours 6 [.ref xo, .int w] τ (fun rv τ1 => ∃ r, (rv = some (.int r) ∧ zK τ1 (xo + 52) = 9) ∧ Sp G mX10_hours 6 [.ref (xo + 52), .int w] τ1 (fun rv τ2 => rv = some (.int r) ∧ LI xo S9 (k + 1) τ2)) := by
  have hC := hL.cw
  have hP := hL.px.1
  have hnv := hL.nv
  have hbar := hL.bar
  have hS := hL.si
  have hmn : Mn (nv (tdC s 1) (zI τ) (xo + 14)) (tdC s 0) (tdC s 2) := by rw [hnv]; exact hS.1
  have hlk : LkI (nv (tdC s 1) (zI τ) (xo + 14)) (tdC s 1) := by rw [hnv]; exact hS.2.1
  have hhc := hL.hr
  have hhr := hS.2.2.2.2.1
  have h31 : h < 2 ^ 30 := by have := hS.2.2.2.2.2; omega
  obtain ⟨h2, h2S⟩ := SI_hours (gwO s) (giO s) hL.tv hL.px hS hk w
  have hc := sc_hours (G := G) hE hC hbar hmn hlk hhc h31 w
  rw [hnv] at hc
  exact li_gen hL h2S (ht_mono hc (fun rv σ' q => ⟨_, q, fun σ1 hM1 => sm_hours hM1 hP hL.lnw hL.lni hhr h31 hS.1 w⟩))
end T5
