/-! ===== the class: orderDoors, first, enough ===== -/
theorem rk_lt_n (K : Nat → Nat) {n d : Nat} (hd : d < n) : rk K n d < n := by
  have q := cn_lt (p := bef K (K d) d) (q := fun _ => true) (k := n) (j := d) (fun _ _ _ => rfl) hd (bef_f.mpr (by omega)) rfl
  rw [cn_all (p := fun _ => true) (fun _ _ => rfl)] at q
  exact q
theorem rk_mono {K : Nat → Nat} {n d e : Nat} (he : e < n) (h : K e < K d ∨ (K e = K d ∧ e < d)) : rk K n e < rk K n d := by
  refine cn_lt (fun x _ hx => ?_) he (bef_f.mpr (by omega)) (bef_t.mpr h)
  have q := bef_t.mp hx
  exact bef_t.mpr (by omega)
theorem rk_succ (K : Nat → Nat) (j d : Nat) : rk K (j + 1) d = rk K j d + (if bef K (K d) d j = true then 1 else 0) := rfl
/-- the doors below j stand in order -/
def OrdI (K : Nat → Nat) (F : ST) (j : Nat) (od : Nat → Nat) : Prop := ∀ i, i < j → od i < j ∧ rk K j (od i) = i ∧ F i = nI (od i)
theorem OrdI.srt {K : Nat → Nat} {F : ST} {j : Nat} {od : Nat → Nat} (h : OrdI K F j od) {i k : Nat} (hik : i ≤ k) (hk : k < j) : K (od i) ≤ K (od k) := by
  by_cases c : K (od i) ≤ K (od k)
  · exact c
  · exfalso
    have q := rk_mono (K := K) (h k hk).1 (d := od i) (Or.inl (by omega))
    rw [(h i (by omega)).2.1, (h k hk).2.1] at q
    omega
theorem OrdI.step {K : Nat → Nat} {F F2 : ST} {j p : Nat} {od : Nat → Nat} (h : OrdI K F j od) (hp : p ≤ j) (h1 : ∀ i, i < p → K (od i) ≤ K j) (h2 : ∀ i, p ≤ i → i < j → K j < K (od i)) (f1 : ∀ i, i < p → F2 i = F i) (f2 : F2 p = nI j) (f3 : ∀ i, p ≤ i → i < j → F2 (i + 1) = F i) : OrdI K F2 (j + 1) (fun i => if i < p then od i else if i = p then j else od (i - 1)) := by
  have r1 : ∀ i, i < p → rk K (j + 1) (od i) = i := fun i hi => by
    have q := h i (by omega)
    have := h1 i hi
    rw [rk_succ, q.2.1, bef_f.mpr (by omega)]
    rfl
  have r2 : ∀ i, p ≤ i → i < j → rk K (j + 1) (od i) = i + 1 := fun i hi hij => by
    have q := h i hij
    have := h2 i hi hij
    rw [rk_succ, q.2.1, bef_t.mpr (Or.inl this)]
    rfl
  have r3 : rk K (j + 1) j = p := by
    have b := rk_lt_n K (show j < j + 1 by omega)
    by_cases c1 : rk K (j + 1) j < p
    · exfalso
      have q := rk_inj (K := K) (dN := j + 1) (d := od (rk K (j + 1) j)) (e := j) (by have := (h _ (show rk K (j + 1) j < j by omega)).1; omega) (by omega) (r1 _ c1)
      have := (h _ (show rk K (j + 1) j < j by omega)).1
      omega
    · by_cases c2 : p < rk K (j + 1) j
      · exfalso
        have q := rk_inj (K := K) (dN := j + 1) (d := od (rk K (j + 1) j - 1)) (e := j) (by have := (h _ (show rk K (j + 1) j - 1 < j by omega)).1; omega) (by omega) (by rw [r2 _ (by omega) (by omega)]; omega)
        have := (h _ (show rk K (j + 1) j - 1 < j by omega)).1
        omega
      · omega
  intro i hi
  by_cases c1 : i < p
  · have q := h i (by omega)
    simp only [if_pos c1]
    exact ⟨by omega, r1 i c1, by rw [f1 i c1]; exact q.2.2⟩
  · by_cases c2 : i = p
    · simp only [if_neg c1, if_pos c2]
      exact ⟨by omega, by rw [c2]; exact r3, by rw [c2]; exact f2⟩
    · have q := h (i - 1) (by omega)
      simp only [if_neg c1, if_neg c2]
      refine ⟨by omega, ?_, ?_⟩
      · rw [r2 (i - 1) (by omega) (by omega)]; omega
      · have z := f3 (i - 1) (by omega) (by omega)
        rw [show i - 1 + 1 = i by omega] at z
        rw [z]; exact q.2.2
section C12
variable {G : GG} {σ : Hp} {Z : VT} {xo b : Nat} {V : VT} {cN dN mN gk : Nat} {gw : Option GWt} {gi : Option GIt}
set_option maxRecDepth 100000 in
theorem sc_insert (hX : XS σ xo) (hLn : zQ σ (xo + 14) 0 = some b) (hB : LwS σ b) {K : Nat → Nat} (h10 : dN ≤ 10) (hK : ∀ d, d < dN → Z (xo + 47) d = nI (K d)) (hKb : ∀ d, d < dN → K d ≤ 1000) {j : Nat} (hjd : j < dN) {od : Nat → Nat} {F : ST} (hod : OrdI K F j od) {Q : Option Value → Hp → Prop}
    (hout : ∀ Z2 : VT, Do (xo + 48) Z Z2 → ∀ od2 : Nat → Nat, OrdI K (Z2 (xo + 48)) (j + 1) od2 → ∀ l3 : Option Value, HT G mX9_orderDoors 2 [some (.ref xo), some (.int (nI (j + 1))), l3] [] (cv σ Z2) 0 Q) :
    ∀ p, p ≤ j → ∀ Z1 : VT, Do (xo + 48) Z Z1 → (∀ i, i < p → Z1 (xo + 48) i = F i) → (∀ i, p ≤ i → i < j → Z1 (xo + 48) (i + 1) = F i) → (∀ i, p ≤ i → i < j → K j < K (od i)) → HT G mX9_orderDoors 18 [some (.ref xo), some (.int (nI j)), some (.int (nI p))] [] (cv σ Z1) 0 Q := by
    have D := dat dl_X9_orderDoors
    intro p
    induction p using Nat.strongRecOn with
    | _ p ihp =>
      intro hpj Z1 hd1 hF1 hF3 hgr
      have hs1 : Z1 (xo + 47) = Z (xo + 47) := hd1 _ (by omega)
      refine ht_iload_n (D 10 rfl) rfl rfl ?_
      refine ht_if_le (tgt := 64) (D 11 rfl) (by decide) (fun hb19 => ?_) (fun hb19 => ?_)
      · skip
        have hp0 : p = 0 := by
          rcases Nat.eq_zero_or_pos p with e | e
          · exact e
          · exact absurd hb19 (nI_nle e (by omega))
        have hcond : ∀ i, i < p → K (od i) ≤ K j := fun i hi => absurd hi (by omega)
        refine ht_aload_n (D 38 rfl) rfl rfl ?_
        refine gf_X9_39 rfl (D 39 rfl) hX.k0 hX.q5 ?_
        refine ht_iload_n (D 40 rfl) rfl rfl ?_
        refine ht_iload_n (D 41 rfl) rfl rfl ?_
        refine hi_ist (n := p) (D 42 rfl) hX.k5 hX.n5 (by first | rfl | exact nI_add _ _ | assumption) (by omega) (by first | decide | omega) ?_
        refine ht_iinc (v := nI (j + 1)) (D 43 rfl) rfl (nI_i1 _) (by decide) rfl ?_
        refine ht_goto (tgt := 2) (D 44 rfl) (by decide) ?_
        refine ht_cast (hout _ (hd1.up _ _) _ (hod.step (F2 := up2 Z1 (xo + 48) p (nI j) (xo + 48)) hpj hcond (fun i h1 h2 => hgr i h1 h2) ?_ ?_ ?_) _) rfl rfl rfl
        · intro i hi
          rw [up2_at _ _ (show i ≠ p by omega)]; exact hF1 i hi
        · exact up2_s _ _ _ _
        · intro i h1 h2
          rw [up2_at _ _ (show i + 1 ≠ p by omega)]; exact hF3 i h1 h2
      · skip
        have hp0 : 0 < p := Nat.pos_of_ne_zero (fun e => hb19 (by rw [e]; exact Int32.le_refl _))
        refine ht_aload_n (D 12 rfl) rfl rfl ?_
        refine gf_X9_35 rfl (D 13 rfl) hX.k0 hX.q4 ?_
        refine ht_aload_n (D 14 rfl) rfl rfl ?_
        refine gf_X9_39 rfl (D 15 rfl) hX.k0 hX.q5 ?_
        refine ht_iload_n (D 16 rfl) rfl rfl ?_
        refine ht_iconst (v := 1) (D 17 rfl) (by decide) ?_
        refine ht_isub (D 18 rfl) ?_
        refine hi_ild (n := (p - 1)) (D 19 rfl) hX.k5 hX.n5 (nI_sub1 (by omega)) (by omega) (by first | decide | omega) ?_
        refine hi_ild (n := (od (p - 1))) (D 20 rfl) hX.k4 hX.n4 ((hF1 (p - 1) (by omega)).trans (hod (p - 1) (by omega)).2.2) (by have := (hod (p - 1) (by omega)).1; omega) (by first | decide | omega) ?_
        rw [hs1, hK (od (p - 1)) (by have := (hod (p - 1) (by omega)).1; omega)]
        refine ht_aload_n (D 21 rfl) rfl rfl ?_
        refine gf_X9_35 rfl (D 22 rfl) hX.k0 hX.q4 ?_
        refine ht_iload_n (D 23 rfl) rfl rfl ?_
        refine hi_ild (n := j) (D 24 rfl) hX.k4 hX.n4 (by first | rfl | exact nI_add _ _ | assumption) (by omega) (by first | decide | omega) ?_
        rw [hs1, hK j hjd]
        refine ht_icmp_le (tgt := 64) (D 25 rfl) (by decide) (fun hb41 => ?_) (fun hb41 => ?_)
        · skip
          have hle : K (od (p - 1)) ≤ K j := (nI_leI (by have := hKb (od (p - 1)) (by have := (hod (p - 1) (by omega)).1; omega); omega) (by have := hKb j hjd; omega)).mp hb41
          have hcond : ∀ i, i < p → K (od i) ≤ K j := fun i hi => Nat.le_trans (hod.srt (show i ≤ p - 1 by omega) (by omega)) hle
          refine ht_aload_n (D 38 rfl) rfl rfl ?_
          refine gf_X9_39 rfl (D 39 rfl) hX.k0 hX.q5 ?_
          refine ht_iload_n (D 40 rfl) rfl rfl ?_
          refine ht_iload_n (D 41 rfl) rfl rfl ?_
          refine hi_ist (n := p) (D 42 rfl) hX.k5 hX.n5 (by first | rfl | exact nI_add _ _ | assumption) (by omega) (by first | decide | omega) ?_
          refine ht_iinc (v := nI (j + 1)) (D 43 rfl) rfl (nI_i1 _) (by decide) rfl ?_
          refine ht_goto (tgt := 2) (D 44 rfl) (by decide) ?_
          refine ht_cast (hout _ (hd1.up _ _) _ (hod.step (F2 := up2 Z1 (xo + 48) p (nI j) (xo + 48)) hpj hcond (fun i h1 h2 => hgr i h1 h2) ?_ ?_ ?_) _) rfl rfl rfl
          · intro i hi
            rw [up2_at _ _ (show i ≠ p by omega)]; exact hF1 i hi
          · exact up2_s _ _ _ _
          · intro i h1 h2
            rw [up2_at _ _ (show i + 1 ≠ p by omega)]; exact hF3 i h1 h2
        · skip
          have hgt : K j < K (od (p - 1)) := by
            have q := mt (nI_leI (a := K (od (p - 1))) (b := K j) (by have := hKb (od (p - 1)) (by have := (hod (p - 1) (by omega)).1; omega); omega) (by have := hKb j hjd; omega)).mpr hb41
            omega
          refine ht_aload_n (D 26 rfl) rfl rfl ?_
          refine gf_X9_39 rfl (D 27 rfl) hX.k0 hX.q5 ?_
          refine ht_iload_n (D 28 rfl) rfl rfl ?_
          refine ht_aload_n (D 29 rfl) rfl rfl ?_
          refine gf_X9_39 rfl (D 30 rfl) hX.k0 hX.q5 ?_
          refine ht_iload_n (D 31 rfl) rfl rfl ?_
          refine ht_iconst (v := 1) (D 32 rfl) (by decide) ?_
          refine ht_isub (D 33 rfl) ?_
          refine hi_ild (n := (p - 1)) (D 34 rfl) hX.k5 hX.n5 (nI_sub1 (by omega)) (by omega) (by first | decide | omega) ?_
          refine hi_ist (n := p) (D 35 rfl) hX.k5 hX.n5 (by first | rfl | exact nI_add _ _ | assumption) (by omega) (by first | decide | omega) ?_
          refine ht_iinc (v := nI (p - 1)) (D 36 rfl) rfl (nI_dec (by omega)) (by decide) rfl ?_
          refine ht_goto (tgt := 18) (D 37 rfl) (by decide) ?_
          refine ht_cast (ihp (p - 1) (by omega) (by omega) _ (hd1.up _ _) ?_ ?_ ?_) rfl rfl rfl
          · intro i hi
            rw [up2_at _ _ (show i ≠ p by omega)]
            exact hF1 i (by omega)
          · intro i h1 h2
            by_cases e : i = p - 1
            · rw [show i + 1 = p by omega, up2_s, hF1 (p - 1) (by omega), e]
            · rw [up2_at _ _ (show i + 1 ≠ p by omega)]
              exact hF3 i (by omega) h2
          · intro i h1 h2
            by_cases e : i = p - 1
            · rw [e]; exact hgt
            · exact hgr i (by omega) h2
set_option maxRecDepth 100000 in
theorem sc_sort (hX : XS σ xo) (hLn : zQ σ (xo + 14) 0 = some b) (hB : LwS σ b) (hnd : Z b 1 = nI dN) (hb48 : b ≠ xo + 48) {K : Nat → Nat} (h10 : dN ≤ 10) (hK : ∀ d, d < dN → Z (xo + 47) d = nI (K d)) (hKb : ∀ d, d < dN → K d ≤ 1000) {Q : Option Value → Hp → Prop} (hend : ∀ Z2 : VT, Do (xo + 48) Z Z2 → ∀ od : Nat → Nat, OrdI K (Z2 (xo + 48)) dN od → Q none (cv σ Z2)) : ∀ r j : Nat, j ≤ dN → dN - j = r → ∀ (Z1 : VT) (od : Nat → Nat) (l3 : Option Value), Do (xo + 48) Z Z1 → OrdI K (Z1 (xo + 48)) j od → HT G mX9_orderDoors 2 [some (.ref xo), some (.int (nI j)), l3] [] (cv σ Z1) 0 Q := by
    have D := dat dl_X9_orderDoors
    intro r
    induction r using Nat.strongRecOn with
    | _ r ih =>
      intro j hj hr Z1 od l3 hd1 hod
      refine ht_iload_n (D 2 rfl) rfl rfl ?_
      refine ht_aload_n (D 3 rfl) rfl rfl ?_
      refine gf_X9_24 rfl (D 4 rfl) hX.k0 hX.q1 ?_
      refine gf_X9_75 rfl (D 5 rfl) hX.nt.k0 hLn ?_
      refine gi_X9_97 rfl (D 6 rfl) hB.k0 ?_
      refine ht_icmp_ge (tgt := 77) (D 7 rfl) (by decide) (fun hb13 => ?_) (fun hb13 => ?_)
      · skip
        have hjk : j = dN := by rw [hd1 b hb48, hnd] at hb13; have h3 := (nI_leI (a := dN) (b := j) (by omega) (by omega)).mp hb13; omega
        subst hjk
        refine ht_vret (D 45 rfl) rfl ?_
        exact hend Z1 hd1 od hod
      · skip
        have hjk : j < dN := by rw [hd1 b hb48, hnd] at hb13; have h3 := mt (nI_leI (a := dN) (b := j) (by omega) (by omega)).mpr hb13; omega
        refine ht_iload_n (D 8 rfl) rfl rfl ?_
        refine ht_istore_n (D 9 rfl) rfl (by decide) rfl ?_
        exact ht_cast (sc_insert hX hLn hB h10 hK hKb hjk hod (fun Z2 h1 od2 h2 l3 => ih (dN - (j + 1)) (by omega) (j + 1) (by omega) rfl Z2 od2 l3 h1 h2) j (Nat.le_refl _) Z1 hd1 (fun _ _ => rfl) (fun i h1 h2 => absurd h1 (by omega)) (fun i h1 h2 => absurd h1 (by omega))) rfl rfl rfl
set_option maxRecDepth 100000 in
theorem sc_orderDoors (hX : XS σ xo) (hLn : zQ σ (xo + 14) 0 = some b) (hB : LwS σ b) (hnd : Z b 1 = nI dN) (hb48 : b ≠ xo + 48) {K : Nat → Nat} (h10 : dN ≤ 10) (hK : ∀ d, d < dN → Z (xo + 47) d = nI (K d)) (hKb : ∀ d, d < dN → K d ≤ 1000) : Sp G mX9_orderDoors 0 [.ref xo] (cv σ Z) (fun rv σ' => rv = none ∧ ∃ Z2 : VT, σ' = cv σ Z2 ∧ Do (xo + 48) Z Z2 ∧ ∃ od : Nat → Nat, OrdI K (Z2 (xo + 48)) dN od) := by
  have D := dat dl_X9_orderDoors
  show HT G mX9_orderDoors 0 [some (.ref xo), none, none] [] (cv σ Z) 0 _
  refine ht_iconst (v := 0) (D 0 rfl) (by decide) ?_
  refine ht_istore_n (D 1 rfl) rfl (by decide) rfl ?_
  exact ht_cast (sc_sort hX hLn hB hnd hb48 h10 hK hKb (fun Z2 h1 od h2 => ⟨rfl, Z2, rfl, h1, od, h2⟩) dN 0 (by omega) (by omega) Z (fun i => i) none (Do.rf _ _) (fun i hi => absurd hi (by omega))) rfl rfl rfl
theorem od_tr {Z1 Z2 : VT} (hf : Fr (fun q => XP σ xo b q ∧ q ≠ xo + 48) Z Z1) (hn : nv dN Z1 (xo + 14) = nv dN Z (xo + 14)) (ha : Z1 (xo + 14) = Z (xo + 14)) (hd : Do (xo + 48) Z1 Z2) : Fr (XP σ xo b) Z Z2 ∧ nv dN Z2 (xo + 14) = nv dN Z (xo + 14) ∧ Z2 (xo + 14) = Z (xo + 14) := by
  refine ⟨fun q hq => ?_, ?_, ?_⟩
  · by_cases e : q = xo + 48
    · exact absurd (Or.inl ⟨by omega, by omega⟩) hq
    · rw [hd q e, hf q (fun c => hq c.1)]
  · rw [show nv dN Z2 (xo + 14) = nv dN Z1 (xo + 14) from nv_fr (fun i i1 _ _ => hd _ (by omega)), hn]
  · rw [hd _ (by omega), ha]
set_option maxRecDepth 100000 in
theorem sc_first (hE : NE G) (hC : CW σ Z xo b V cN dN mN gk gw gi) (hbar : Z (xo + 14) 2 = -1) (hmn : Mn (nv dN Z (xo + 14)) cN mN) (hlk : LkI (nv dN Z (xo + 14)) dN) {h : Nat} (hh : Z (xo + 14) 1 = nI h) (h31 : h < 2 ^ 30) (w x : Int32) : Sp G mX9_first 8 [.ref xo, .int w, .int x] (cv σ Z) (fun rv σ' => (¬ aFirstOk dN w x ∧ QC σ xo b dN Z (-1) (nv dN Z (xo + 14)) rv σ') ∨ (aFirstOk dN w x ∧ ∃ d, d < dN ∧ rk (soK V gw gi dN mN gk (nv dN Z (xo + 14)) h w.toNatClampNeg) dN d = x.toNatClampNeg ∧ QC σ xo b dN Z (nI d) (nv dN Z (xo + 14)) rv σ')) := by
  have D := dat dl_X9_first
  show HT G mX9_first 0 [some (.ref xo), some (.int w), some (.int x)] [] (cv σ Z) 8 _
  have hX := hC.1
  have hW := hC.2.1
  have h10 := hW.d10
  have h8 := hW.c8
  have h6 := hW.m6
  have h2 := hW.g2
  refine ht_iload_n (D 0 rfl) rfl rfl ?_
  refine kSX9_isAhead (As := [_]) cl_X9_172 (D 1 rfl) (sc_isAhead _) rfl (Nat.le_of_ble_eq_true rfl) rfl (Nat.le_of_ble_eq_true rfl) (by omega) ?_
  rintro _ _ ⟨rfl, rfl⟩
  refine ht_if_eq (tgt := 24) (D 2 rfl) (by decide) (fun hb4 => ?_) (fun hb4 => ?_)
  · skip
    have q1 := b01_eq hb4
    refine ht_iconst (v := -1) (D 10 rfl) (by decide) ?_
    refine ht_iret (D 11 rfl) rfl rfl ?_
    first
    | exact Or.inl ⟨not_and_of_not_left _ q1, QC_t hbar rfl⟩
    | exact Or.inl ⟨not_and_of_not_right _ q2, QC_t hbar rfl⟩
  · skip
    have q1 := b01_ne hb4
    obtain ⟨n, hn1, hn2, rfl⟩ := rngW (lo := 1) 240 (by decide) q1 (by decide)
    refine ht_iload_n (D 3 rfl) rfl rfl ?_
    refine ht_aload_n (D 4 rfl) rfl rfl ?_
    refine gf_X9_24 rfl (D 5 rfl) hX.k0 hX.q1 ?_
    refine gf_X9_75 rfl (D 6 rfl) hX.nt.k0 hW.lq ?_
    refine gi_X9_97 rfl (D 7 rfl) hW.lb.k0 ?_
    rw [hW.nd]
    refine kSX9_isBelow (As := [_, _]) cl_X9_79 (D 8 rfl) (sc_isBelow _ _) rfl (Nat.le_of_ble_eq_true rfl) rfl (Nat.le_of_ble_eq_true rfl) (by omega) ?_
    rintro _ _ ⟨rfl, rfl⟩
    refine ht_if_ne (tgt := 26) (D 9 rfl) (by decide) (fun hb21 => ?_) (fun hb21 => ?_)
    · skip
      have q2 := b01_ne hb21
      obtain ⟨k, hk1, rfl⟩ := rng (by omega) q2
      refine ht_aload_n (D 12 rfl) rfl rfl ?_
      refine ht_iload_n (D 13 rfl) rfl rfl ?_
      refine kVX9_findSoonest (As := [_]) cl_X9_192 (D 14 rfl) (sc_findSoonest hE hC hbar hmn hlk hh h31 hn1) hX.k0 rfl (Nat.le_of_ble_eq_true rfl) rfl (Nat.le_of_ble_eq_true rfl) (by omega) ?_
      rintro _ _ ⟨rfl, Zs, rfl, hfs, hns, has, hss⟩
      have hCs := (hC.keep (Z2 := Zs) (hfs.mono (fun q hq => hq.1))).w0 (v := some b)
      have hX1 := hCs.1
      refine ht_aload_n (D 15 rfl) rfl rfl ?_
      refine kVX9_orderDoors (As := []) cl_X9_195 (D 16 rfl) (sc_orderDoors hCs.1 hCs.2.1.lq hCs.2.1.lb hCs.2.1.nd (by rcases hC.2.2.1 with c | c <;> omega) h10 hss (fun d hd => by rw [soK_sk]; have := skF_le (V := V) (gw := gw) (gi := gi) (dN := dN) (mN := mN) (gk := gk) (S := nv dN Z (xo + 14)) (h := h) (Nat.le_refl (n + 1)) hn1 d; omega)) hX1.k0 rfl (Nat.le_of_ble_eq_true rfl) rfl (Nat.le_of_ble_eq_true rfl) (by omega) ?_
      rintro _ _ ⟨rfl, Z1, rfl, hdo, od, hod⟩
      obtain ⟨hf1, hn3, ha1⟩ := od_tr hfs hns has hdo
      obtain ⟨o1, o2, o3⟩ := hod k hk1
      refine ht_aload_n (D 17 rfl) rfl rfl ?_
      refine gf_X9_39 rfl (D 18 rfl) hX1.k0 hX1.q5 ?_
      refine ht_iload_n (D 19 rfl) rfl rfl ?_
      refine hi_ild (n := k) (D 20 rfl) hX1.k5 hX1.n5 rfl (by omega) (by first | decide | omega) ?_
      refine ht_iret (D 21 rfl) rfl rfl ?_
      refine Or.inr ⟨⟨q1, q2⟩, od k, o1, ?_, QC_m o3 hf1 hn3 (by rw [ha1]; exact hbar)⟩
      rw [nI_clamp (by omega), nI_clamp (by omega)]
      exact o2
    · skip
      have q2 := b01_eq hb21
      refine ht_iconst (v := -1) (D 10 rfl) (by decide) ?_
      refine ht_iret (D 11 rfl) rfl rfl ?_
      first
      | exact Or.inl ⟨not_and_of_not_left _ q1, QC_t hbar rfl⟩
      | exact Or.inl ⟨not_and_of_not_right _ q2, QC_t hbar rfl⟩
end C12
