/-! ===== the class: plan ===== -/
def enc (o : Option Nat) : Int32 := match o with
  | none => -1
  | some x => nI x
def WR (F : ST) (W : WT) (B : Nat) : Prop := ∀ c, c < 8 → F c = enc (W c) ∧ ∀ x, W c = some x → x ≤ B
theorem WR_wo {F : ST} {W : WT} {B : Nat} (h : WR F W B) {cN : Nat} (h8 : cN ≤ 8) {p : Int32} (hp : Pl cN p) : ∀ x, wo W p = some x → x ≤ B := by
  intro x hx
  rcases hp with rfl | ⟨n, n1, rfl⟩
  · rw [wo_o] at hx; cases hx; omega
  · rw [wo_c _ (by omega)] at hx; exact (h n (by omega)).2 x hx
theorem enc_m {o : Option Nat} {B : Nat} (hB : ∀ x, o = some x → x ≤ B) (hb : B < 2 ^ 31) : enc o = -1 ↔ o = none := by
  cases o with
  | none => exact ⟨fun _ => rfl, fun _ => rfl⟩
  | some x => exact ⟨fun h => absurd h (nI_ge0 (by have := hB x rfl; omega)), fun h => by cases h⟩
theorem WR_rl {F : ST} {W : WT} {B : Nat} (h : WR F W B) {cN : Nat} (h8 : cN ≤ 8) (hB : B < 2 ^ 30) {w : Nat} (hw : w ≤ 2001) {p q : Int32} (hp : Pl cN p) (hq : Pl cN q) {F2 : ST}
    (hF : F2 = (if p = -1 ∨ enc (wo W q) = -1 then F else if F p.toNatClampNeg = -1 ∨ nI w + enc (wo W q) < F p.toNatClampNeg then va_up F p.toNatClampNeg (nI w + enc (wo W q)) else F)) : WR F2 (rl w p q W) (B + 2001) := by
  have wk : WR F W (B + 2001) := fun c hc => ⟨(h c hc).1, fun x hx => by have := (h c hc).2 x hx; omega⟩
  rcases hp with rfl | ⟨n, n1, rfl⟩
  · rw [rl_out, hF, if_pos (Or.inl rfl)]; exact wk
  · have hqb := WR_wo h h8 hq
    rw [nI_clamp (by omega)] at hF
    obtain ⟨f1, f2⟩ := h n (by omega)
    rcases rl_cases w (show n < 2 ^ 31 by omega) q W with ⟨e, hh⟩ | ⟨y, hy, e, hz⟩
    · have hF3 : F2 = F := by
        rcases hh with hh | ⟨y, z, h1, h2, h3⟩
        · rw [hF, hh, if_pos (show nI n = -1 ∨ enc none = -1 from Or.inr rfl)]
        · rw [hF, h1]
          have hy := hqb y h1
          have hz := f2 z h2
          rw [if_neg (fun c => c.elim (nI_ge0 (by omega)) (nI_ge0 (by omega))), if_neg]
          rw [f1, h2]
          rintro (c | c)
          · exact nI_ge0 (by omega) c
          · show False
            have c2 : nI w + nI y < nI z := c
            rw [nI_add, nI_ltI (by omega) (by omega)] at c2
            omega
      rw [e, hF3]; exact wk
    · have hyb := hqb y hy
      have hF3 : F2 = va_up F n (nI (w + y)) := by
        rw [hF, hy]
        rw [if_neg (fun c => c.elim (nI_ge0 (by omega)) (nI_ge0 (by omega))), if_pos]
        · show va_up F n (nI w + nI y) = _
          rw [nI_add]
        · rw [f1]
          cases hn : W n with
          | none => exact Or.inl rfl
          | some z =>
            right
            have := f2 z hn
            show nI w + nI y < nI z
            rw [nI_add, nI_ltI (by omega) (by omega)]
            exact hz z hn
      rw [e, hF3]
      intro c hc
      by_cases c1 : c = n
      · rw [c1, va_sm, va_sm]
        exact ⟨rfl, fun x hx => by cases hx; omega⟩
      · rw [va_ne _ _ c1, va_ne _ _ c1]
        exact wk c hc
section C17
variable {G : GG} {σ : Hp} {Z : VT} {xo b : Nat} {V : VT} {cN dN mN gk : Nat} {gw : Option GWt} {gi : Option GIt}
set_option maxRecDepth 100000 in
theorem sc_doorWeight (hC : CW σ Z xo b V cN dN mN gk gw gi) {pcs : Nat → Nat} (hpc : ∀ d, d < dN → Z (xo + 14 + 6 + d) 0 = nI (pcs d) ∧ pcs d ≤ 99) {d : Nat} (hd : d < dN) : Sp G mX9_doorWeight 0 [.ref xo, .int (nI d)] (cv σ Z) (fun rv σ' => rv = some (.int (nI (wd pcs d))) ∧ σ' = cv σ Z) := by
  have D := dat dl_X9_doorWeight
  show HT G mX9_doorWeight 0 [some (.ref xo), some (.int (nI d))] [] (cv σ Z) 0 _
  have hX := hC.1
  have hW := hC.2.1
  have h10 := hW.d10
  have h8 := hW.c8
  have hp99 := (hpc d hd).2
  refine ht_aload_n (D 0 rfl) rfl rfl ?_
  refine gf_X9_24 rfl (D 1 rfl) hX.k0 hX.q1 ?_
  refine gf_X9_100 rfl (D 2 rfl) hX.nt.k0 hX.nt.q4 ?_
  refine ht_iload_n (D 3 rfl) rfl rfl ?_
  refine ht_ald (n := d) (Or.inl rfl) (D 4 rfl) hX.nt.k4 hX.nt.n4 rfl (by omega) (by decide) (hX.nt.lq (j := d) (by omega)) ?_
  refine gi_X9_104 rfl (D 5 rfl) (hX.nt.lk (j := d) (by omega)) ?_
  rw [(hpc d hd).1]
  refine ht_iconst (v := 5) (D 6 rfl) (by decide) ?_
  refine ht_iadd (D 7 rfl) ?_
  refine ht_iconst (v := 1) (D 8 rfl) (by decide) ?_
  refine ht_isub (D 9 rfl) ?_
  refine ht_iconst (v := 5) (D 10 rfl) (by decide) ?_
  refine ht_idiv (D 11 rfl) (by decide) ?_
  refine ht_bipush (v := 100) (D 12 rfl) (by decide) ?_
  refine ht_imul (D 13 rfl) ?_
  refine ht_iconst (v := 1) (D 14 rfl) (by decide) ?_
  refine ht_iadd (D 15 rfl) ?_
  have e5 : nI (pcs d) + 5 - 1 = nI (pcs d + 4) := by rw [show (5 : Int32) = nI 5 from rfl, nI_add, show pcs d + 5 = pcs d + 4 + 1 by omega, nI_pred]
  rw [e5, show (5 : Int32) = nI 5 from rfl, pk_div (by omega) (by decide) (by decide), show (100 : Int32) = nI 100 from rfl, pk_mul, nI_1]
  refine ht_iret (D 16 rfl) rfl rfl ?_
  exact ⟨by rw [Nat.mul_comm], rfl⟩
set_option maxRecDepth 100000 in
theorem sc_weightOf (hC : CW σ Z xo b V cN dN mN gk gw gi) {W : WT} {B : Nat} (hR : WR (Z (xo + 51)) W B) {p : Int32} (hp : Pl cN p) : Sp G mX9_weightOf 0 [.ref xo, .int p] (cv σ Z) (fun rv σ' => rv = some (.int (enc (wo W p))) ∧ σ' = cv σ Z) := by
  have D := dat dl_X9_weightOf
  show HT G mX9_weightOf 0 [some (.ref xo), some (.int p)] [] (cv σ Z) 0 _
  have hX := hC.1
  have hW := hC.2.1
  have h10 := hW.d10
  have h8 := hW.c8
  refine ht_iload_n (D 0 rfl) rfl rfl ?_
  refine ht_iconst (v := -1) (D 1 rfl) (by decide) ?_
  refine ht_icmp_ne (tgt := 9) (D 2 rfl) (by decide) (fun hb2 => ?_) (fun hb2 => ?_)
  · skip
    obtain ⟨n, n1, rfl⟩ : ∃ n, n < cN ∧ p = nI n := hp.resolve_left hb2
    refine ht_aload_n (D 5 rfl) rfl rfl ?_
    refine gf_X9_48 rfl (D 6 rfl) hX.k0 hX.q8 ?_
    refine ht_iload_n (D 7 rfl) rfl rfl ?_
    refine hi_ild (n := n) (D 8 rfl) hX.k8 hX.n8 rfl (by omega) (by first | decide | omega) ?_
    refine ht_iret (D 9 rfl) rfl rfl ?_
    first
    | exact ⟨by rw [wo_o]; rfl, rfl⟩
    | exact ⟨by rw [wo_c _ (by omega), (hR n (by omega)).1], rfl⟩
  · skip
    subst hb2
    refine ht_iconst (v := 0) (D 3 rfl) (by decide) ?_
    refine ht_goto (tgt := 15) (D 4 rfl) (by decide) ?_
    refine ht_iret (D 9 rfl) rfl rfl ?_
    first
    | exact ⟨by rw [wo_o]; rfl, rfl⟩
    | exact ⟨by rw [wo_c _ (by omega), (hR n (by omega)).1], rfl⟩
set_option maxRecDepth 100000 in
theorem sc_weighDoor (hC : CW σ Z xo b V cN dN mN gk gw gi) {pcs : Nat → Nat} (hpc : ∀ d, d < dN → Z (xo + 14 + 6 + d) 0 = nI (pcs d) ∧ pcs d ≤ 99) {W : WT} {B : Nat} (hR : WR (Z (xo + 51)) W B) (hB : B < 2 ^ 30) {d : Nat} (hd : d < dN) {p q : Int32} (hp : Pl cN p) (hq : Pl cN q) : Sp G mX9_weighDoor 1 [.ref xo, .int (nI d), .int p, .int q] (cv σ Z) (fun rv σ' => rv = none ∧ ∃ Z2 : VT, σ' = cv σ Z2 ∧ Do (xo + 51) Z Z2 ∧ WR (Z2 (xo + 51)) (rl (wd pcs d) p q W) (B + 2001)) := by
  have D := dat dl_X9_weighDoor
  show HT G mX9_weighDoor 0 [some (.ref xo), some (.int (nI d)), some (.int p), some (.int q), none] [] (cv σ Z) 1 _
  have hX := hC.1
  have hW := hC.2.1
  have h10 := hW.d10
  have h8 := hW.c8
  have hwd : wd pcs d ≤ 2001 := by have := (hpc d hd).2; unfold wd sc; omega
  refine ht_iload_n (D 0 rfl) rfl rfl ?_
  refine ht_iconst (v := -1) (D 1 rfl) (by decide) ?_
  refine ht_icmp_eq (tgt := 14) (D 2 rfl) (by decide) (fun hb2 => ?_) (fun hb2 => ?_)
  · skip
    refine ht_vret (D 8 rfl) rfl ?_
    first
    | exact ⟨rfl, Z, rfl, Do.rf _ _, WR_rl hR h8 hB hwd hp hq (by rw [if_pos (Or.inl hb2)])⟩
    | exact ⟨rfl, Z, rfl, Do.rf _ _, WR_rl hR h8 hB hwd hp hq (by rw [if_pos (Or.inr hb11)])⟩
    | (refine ⟨rfl, _, rfl, (Do.rf _ _).up _ _, WR_rl hR h8 hB hwd hp hq ?_⟩
       rw [if_neg (show ¬ (nI n = -1 ∨ enc (wo W q) = -1) from fun c => c.elim hb2 hb11), up2_row, hcl, if_pos (Or.inl hb35)])
    | (refine ⟨rfl, _, rfl, (Do.rf _ _).up _ _, WR_rl hR h8 hB hwd hp hq ?_⟩
       rw [if_neg (show ¬ (nI n = -1 ∨ enc (wo W q) = -1) from fun c => c.elim hb2 hb11), up2_row, hcl, if_pos (Or.inr (Int32.not_le.mp hb46))])
    | (refine ⟨rfl, Z, rfl, Do.rf _ _, WR_rl hR h8 hB hwd hp hq ?_⟩
       have hn9 : ¬ (Z (xo + 51) n = -1 ∨ nI (wd pcs d) + enc (wo W q) < Z (xo + 51) n) := fun c => c.elim hb35 (Int32.not_lt.mpr hb46)
       rw [if_neg (show ¬ (nI n = -1 ∨ enc (wo W q) = -1) from fun c => c.elim hb2 hb11), hcl, if_neg hn9])
  · skip
    obtain ⟨n, n1, rfl⟩ : ∃ n, n < cN ∧ p = nI n := hp.resolve_left hb2
    have hcl : (nI n).toNatClampNeg = n := nI_clamp (by omega)
    refine ht_aload_n (D 3 rfl) rfl rfl ?_
    refine ht_iload_n (D 4 rfl) rfl rfl ?_
    refine kVX9_weightOf (As := [_]) cl_X9_261 (D 5 rfl) (sc_weightOf hC hR hq) hX.k0 rfl (Nat.le_of_ble_eq_true rfl) rfl (Nat.le_of_ble_eq_true rfl) (by omega) ?_
    rintro _ _ ⟨rfl, rfl⟩
    refine ht_iconst (v := -1) (D 6 rfl) (by decide) ?_
    refine ht_icmp_ne (tgt := 15) (D 7 rfl) (by decide) (fun hb11 => ?_) (fun hb11 => ?_)
    · skip
      refine ht_aload_n (D 9 rfl) rfl rfl ?_
      refine ht_iload_n (D 10 rfl) rfl rfl ?_
      refine kVX9_doorWeight (As := [_]) cl_X9_264 (D 11 rfl) (sc_doorWeight hC hpc hd) hX.k0 rfl (Nat.le_of_ble_eq_true rfl) rfl (Nat.le_of_ble_eq_true rfl) (by omega) ?_
      rintro _ _ ⟨rfl, rfl⟩
      refine ht_aload_n (D 12 rfl) rfl rfl ?_
      refine ht_iload_n (D 13 rfl) rfl rfl ?_
      refine kVX9_weightOf (As := [_]) cl_X9_261 (D 14 rfl) (sc_weightOf hC hR hq) hX.k0 rfl (Nat.le_of_ble_eq_true rfl) rfl (Nat.le_of_ble_eq_true rfl) (by omega) ?_
      rintro _ _ ⟨rfl, rfl⟩
      refine ht_iadd (D 15 rfl) ?_
      refine ht_istore (D 16 rfl) (by decide) rfl ?_
      refine ht_aload_n (D 17 rfl) rfl rfl ?_
      refine gf_X9_48 rfl (D 18 rfl) hX.k0 hX.q8 ?_
      refine ht_iload_n (D 19 rfl) rfl rfl ?_
      refine hi_ild (n := n) (D 20 rfl) hX.k8 hX.n8 rfl (by omega) (by first | decide | omega) ?_
      refine ht_iconst (v := -1) (D 21 rfl) (by decide) ?_
      refine ht_icmp_eq (tgt := 49) (D 22 rfl) (by decide) (fun hb35 => ?_) (fun hb35 => ?_)
      · skip
        refine ht_aload_n (D 29 rfl) rfl rfl ?_
        refine gf_X9_48 rfl (D 30 rfl) hX.k0 hX.q8 ?_
        refine ht_iload_n (D 31 rfl) rfl rfl ?_
        refine ht_iload (D 32 rfl) rfl ?_
        refine hi_ist (n := n) (D 33 rfl) hX.k8 hX.n8 rfl (by omega) (by first | decide | omega) ?_
        refine ht_vret (D 34 rfl) rfl ?_
        first
        | exact ⟨rfl, Z, rfl, Do.rf _ _, WR_rl hR h8 hB hwd hp hq (by rw [if_pos (Or.inl hb2)])⟩
        | exact ⟨rfl, Z, rfl, Do.rf _ _, WR_rl hR h8 hB hwd hp hq (by rw [if_pos (Or.inr hb11)])⟩
        | (refine ⟨rfl, _, rfl, (Do.rf _ _).up _ _, WR_rl hR h8 hB hwd hp hq ?_⟩
           rw [if_neg (show ¬ (nI n = -1 ∨ enc (wo W q) = -1) from fun c => c.elim hb2 hb11), up2_row, hcl, if_pos (Or.inl hb35)])
        | (refine ⟨rfl, _, rfl, (Do.rf _ _).up _ _, WR_rl hR h8 hB hwd hp hq ?_⟩
           rw [if_neg (show ¬ (nI n = -1 ∨ enc (wo W q) = -1) from fun c => c.elim hb2 hb11), up2_row, hcl, if_pos (Or.inr (Int32.not_le.mp hb46))])
        | (refine ⟨rfl, Z, rfl, Do.rf _ _, WR_rl hR h8 hB hwd hp hq ?_⟩
           have hn9 : ¬ (Z (xo + 51) n = -1 ∨ nI (wd pcs d) + enc (wo W q) < Z (xo + 51) n) := fun c => c.elim hb35 (Int32.not_lt.mpr hb46)
           rw [if_neg (show ¬ (nI n = -1 ∨ enc (wo W q) = -1) from fun c => c.elim hb2 hb11), hcl, if_neg hn9])
      · skip
        refine ht_iload (D 23 rfl) rfl ?_
        refine ht_aload_n (D 24 rfl) rfl rfl ?_
        refine gf_X9_48 rfl (D 25 rfl) hX.k0 hX.q8 ?_
        refine ht_iload_n (D 26 rfl) rfl rfl ?_
        refine hi_ild (n := n) (D 27 rfl) hX.k8 hX.n8 rfl (by omega) (by first | decide | omega) ?_
        refine ht_icmp_ge (tgt := 57) (D 28 rfl) (by decide) (fun hb46 => ?_) (fun hb46 => ?_)
        · skip
          refine ht_vret (D 34 rfl) rfl ?_
          first
          | exact ⟨rfl, Z, rfl, Do.rf _ _, WR_rl hR h8 hB hwd hp hq (by rw [if_pos (Or.inl hb2)])⟩
          | exact ⟨rfl, Z, rfl, Do.rf _ _, WR_rl hR h8 hB hwd hp hq (by rw [if_pos (Or.inr hb11)])⟩
          | (refine ⟨rfl, _, rfl, (Do.rf _ _).up _ _, WR_rl hR h8 hB hwd hp hq ?_⟩
             rw [if_neg (show ¬ (nI n = -1 ∨ enc (wo W q) = -1) from fun c => c.elim hb2 hb11), up2_row, hcl, if_pos (Or.inl hb35)])
          | (refine ⟨rfl, _, rfl, (Do.rf _ _).up _ _, WR_rl hR h8 hB hwd hp hq ?_⟩
             rw [if_neg (show ¬ (nI n = -1 ∨ enc (wo W q) = -1) from fun c => c.elim hb2 hb11), up2_row, hcl, if_pos (Or.inr (Int32.not_le.mp hb46))])
          | (refine ⟨rfl, Z, rfl, Do.rf _ _, WR_rl hR h8 hB hwd hp hq ?_⟩
             have hn9 : ¬ (Z (xo + 51) n = -1 ∨ nI (wd pcs d) + enc (wo W q) < Z (xo + 51) n) := fun c => c.elim hb35 (Int32.not_lt.mpr hb46)
             rw [if_neg (show ¬ (nI n = -1 ∨ enc (wo W q) = -1) from fun c => c.elim hb2 hb11), hcl, if_neg hn9])
        · skip
          refine ht_aload_n (D 29 rfl) rfl rfl ?_
          refine gf_X9_48 rfl (D 30 rfl) hX.k0 hX.q8 ?_
          refine ht_iload_n (D 31 rfl) rfl rfl ?_
          refine ht_iload (D 32 rfl) rfl ?_
          refine hi_ist (n := n) (D 33 rfl) hX.k8 hX.n8 rfl (by omega) (by first | decide | omega) ?_
          refine ht_vret (D 34 rfl) rfl ?_
          first
          | exact ⟨rfl, Z, rfl, Do.rf _ _, WR_rl hR h8 hB hwd hp hq (by rw [if_pos (Or.inl hb2)])⟩
          | exact ⟨rfl, Z, rfl, Do.rf _ _, WR_rl hR h8 hB hwd hp hq (by rw [if_pos (Or.inr hb11)])⟩
          | (refine ⟨rfl, _, rfl, (Do.rf _ _).up _ _, WR_rl hR h8 hB hwd hp hq ?_⟩
             rw [if_neg (show ¬ (nI n = -1 ∨ enc (wo W q) = -1) from fun c => c.elim hb2 hb11), up2_row, hcl, if_pos (Or.inl hb35)])
          | (refine ⟨rfl, _, rfl, (Do.rf _ _).up _ _, WR_rl hR h8 hB hwd hp hq ?_⟩
             rw [if_neg (show ¬ (nI n = -1 ∨ enc (wo W q) = -1) from fun c => c.elim hb2 hb11), up2_row, hcl, if_pos (Or.inr (Int32.not_le.mp hb46))])
          | (refine ⟨rfl, Z, rfl, Do.rf _ _, WR_rl hR h8 hB hwd hp hq ?_⟩
             have hn9 : ¬ (Z (xo + 51) n = -1 ∨ nI (wd pcs d) + enc (wo W q) < Z (xo + 51) n) := fun c => c.elim hb35 (Int32.not_lt.mpr hb46)
             rw [if_neg (show ¬ (nI n = -1 ∨ enc (wo W q) = -1) from fun c => c.elim hb2 hb11), hcl, if_neg hn9])
    · skip
      refine ht_vret (D 8 rfl) rfl ?_
      first
      | exact ⟨rfl, Z, rfl, Do.rf _ _, WR_rl hR h8 hB hwd hp hq (by rw [if_pos (Or.inl hb2)])⟩
      | exact ⟨rfl, Z, rfl, Do.rf _ _, WR_rl hR h8 hB hwd hp hq (by rw [if_pos (Or.inr hb11)])⟩
      | (refine ⟨rfl, _, rfl, (Do.rf _ _).up _ _, WR_rl hR h8 hB hwd hp hq ?_⟩
         rw [if_neg (show ¬ (nI n = -1 ∨ enc (wo W q) = -1) from fun c => c.elim hb2 hb11), up2_row, hcl, if_pos (Or.inl hb35)])
      | (refine ⟨rfl, _, rfl, (Do.rf _ _).up _ _, WR_rl hR h8 hB hwd hp hq ?_⟩
         rw [if_neg (show ¬ (nI n = -1 ∨ enc (wo W q) = -1) from fun c => c.elim hb2 hb11), up2_row, hcl, if_pos (Or.inr (Int32.not_le.mp hb46))])
      | (refine ⟨rfl, Z, rfl, Do.rf _ _, WR_rl hR h8 hB hwd hp hq ?_⟩
         have hn9 : ¬ (Z (xo + 51) n = -1 ∨ nI (wd pcs d) + enc (wo W q) < Z (xo + 51) n) := fun c => c.elim hb35 (Int32.not_lt.mpr hb46)
         rw [if_neg (show ¬ (nI n = -1 ∨ enc (wo W q) = -1) from fun c => c.elim hb2 hb11), hcl, if_neg hn9])
set_option maxRecDepth 100000 in
theorem sc_weighWays (hC : CW σ Z xo b V cN dN mN gk gw gi) {pcs : Nat → Nat} (hpc : ∀ d, d < dN → Z (xo + 14 + 6 + d) 0 = nI (pcs d) ∧ pcs d ≤ 99) : Sp G mX9_weighWays 2 [.ref xo] (cv σ Z) (fun rv σ' => rv = none ∧ ∃ Z2 : VT, σ' = cv σ Z2 ∧ Do (xo + 51) Z Z2 ∧ WR (Z2 (xo + 51)) (rdN V (wd pcs) dN (fun _ => none) cN) 400000) := by
  have D := dat dl_X9_weighWays
  have hX := hC.1
  have hW := hC.2.1
  have h10 := hW.d10
  have h8 := hW.c8
  have ck : ∀ Z1 : VT, Do (xo + 51) Z Z1 → CW σ Z1 xo b V cN dN mN gk gw gi ∧ ∀ d, d < dN → Z1 (xo + 14 + 6 + d) 0 = nI (pcs d) ∧ pcs d ≤ 99 := fun Z1 h1 => ⟨hC.keep (fun q hq => h1 q (fun e => hq (Or.inl ⟨by omega, by omega⟩))), fun d hd => by rw [h1 _ (by omega)]; exact hpc d hd⟩
  have loop : ∀ r i : Nat, i ≤ cN → cN - i = r → ∀ (Z0 : VT) (l2 : Option Value), Do (xo + 51) Z Z0 → WR (Z0 (xo + 51)) (rdN V (wd pcs) dN (fun _ => none) i) (40020 * i) → HT G mX9_weighWays 10 [some (.ref xo), some (.int (nI i)), l2] [] (cv σ Z0) 2 (fun rv σ' => rv = none ∧ ∃ Z2 : VT, σ' = cv σ Z2 ∧ Do (xo + 51) Z Z2 ∧ WR (Z2 (xo + 51)) (rdN V (wd pcs) dN (fun _ => none) cN) 400000) := by
    intro r
    induction r using Nat.strongRecOn with
    | _ r ih =>
      intro i hi hr Z0 l2 hd0 hR0
      obtain ⟨hC0, hpc0⟩ := ck Z0 hd0
      have inner : i < cN → ∀ r j : Nat, j ≤ dN → dN - j = r → ∀ Z1 : VT, Do (xo + 51) Z Z1 → WR (Z1 (xo + 51)) (rdD V (wd pcs) (rdN V (wd pcs) dN (fun _ => none) i) j) (40020 * i + 4002 * j) → HT G mX9_weighWays 26 [some (.ref xo), some (.int (nI i)), some (.int (nI j))] [] (cv σ Z1) 2 (fun rv σ' => rv = none ∧ ∃ Z2 : VT, σ' = cv σ Z2 ∧ Do (xo + 51) Z Z2 ∧ WR (Z2 (xo + 51)) (rdN V (wd pcs) dN (fun _ => none) cN) 400000) := by
        intro hik r
        induction r using Nat.strongRecOn with
        | _ r ihj =>
          intro j hj hr Z1 hd1 hR1
          obtain ⟨hC1, hpc1⟩ := ck Z1 hd1
          refine ht_iload_n (D 14 rfl) rfl rfl ?_
          refine ht_aload_n (D 15 rfl) rfl rfl ?_
          refine gf_X9_24 rfl (D 16 rfl) hC1.1.k0 hC1.1.q1 ?_
          refine gf_X9_75 rfl (D 17 rfl) hC1.1.nt.k0 hC1.2.1.lq ?_
          refine gi_X9_97 rfl (D 18 rfl) hC1.2.1.lb.k0 ?_
          refine ht_icmp_ge (tgt := 104) (D 19 rfl) (by decide) (fun hb37 => ?_) (fun hb37 => ?_)
          · skip
            have hjk : j = dN := by rw [hC1.2.1.nd] at hb37; have h3 := (nI_leI (a := dN) (b := j) (by omega) (by omega)).mp hb37; omega
            refine ht_iinc (v := nI (i + 1)) (D 52 rfl) rfl (nI_i1 _) (by decide) rfl ?_
            refine ht_goto (tgt := 10) (D 53 rfl) (by decide) ?_
            subst hjk
            exact ht_cast (ih (cN - (i + 1)) (by omega) (i + 1) (by omega) rfl Z1 _ hd1 (fun c hc => ⟨(hR1 c hc).1, fun x hx => by have := (hR1 c hc).2 x hx; omega⟩)) rfl rfl rfl
          · skip
            have hjk : j < dN := by rw [hC1.2.1.nd] at hb37; have h3 := mt (nI_leI (a := dN) (b := j) (by omega) (by omega)).mpr hb37; omega
            refine ht_aload_n (D 20 rfl) rfl rfl ?_
            refine ht_iload_n (D 21 rfl) rfl rfl ?_
            refine ht_aload_n (D 22 rfl) rfl rfl ?_
            refine gf_X9_24 rfl (D 23 rfl) hC1.1.k0 hC1.1.q1 ?_
            refine gf_X9_75 rfl (D 24 rfl) hC1.1.nt.k0 hC1.2.1.lq ?_
            refine gf_X9_115 rfl (D 25 rfl) hC1.2.1.lb.k0 hC1.2.1.lb.q3 ?_
            refine ht_iload_n (D 26 rfl) rfl rfl ?_
            refine hi_ild (n := j) (D 27 rfl) hC1.2.1.lb.k3 hC1.2.1.lb.n3 (by first | rfl | exact nI_add _ _ | assumption) (by omega) (by first | decide | omega) ?_
            refine ht_aload_n (D 28 rfl) rfl rfl ?_
            refine gf_X9_24 rfl (D 29 rfl) hC1.1.k0 hC1.1.q1 ?_
            refine gf_X9_75 rfl (D 30 rfl) hC1.1.nt.k0 hC1.2.1.lq ?_
            refine gf_X9_118 rfl (D 31 rfl) hC1.2.1.lb.k0 hC1.2.1.lb.q4 ?_
            refine ht_iload_n (D 32 rfl) rfl rfl ?_
            refine hi_ild (n := j) (D 33 rfl) hC1.2.1.lb.k4 hC1.2.1.lb.n4 (by first | rfl | exact nI_add _ _ | assumption) (by omega) (by first | decide | omega) ?_
            rw [(hC1.2.1.lr.2.1 j hjk).1, (hC1.2.1.lr.2.1 j hjk).2]
            refine kVX9_weighDoor (As := [_, _, _]) cl_X9_258 (D 34 rfl) (sc_weighDoor hC1 hpc1 hR1 (by omega) hjk (p := V 10 j) (q := V 11 j) (hW.pl.p10 hjk) (hW.pl.p11 hjk)) hC1.1.k0 rfl (Nat.le_of_ble_eq_true rfl) rfl (Nat.le_of_ble_eq_true rfl) (by omega) ?_
            rintro _ _ ⟨rfl, Z2, rfl, hd2, hR2⟩
            have hC2 := hC1.keep (Z2 := Z2) (fun q hq => hd2 q (fun e => hq (Or.inl ⟨by omega, by omega⟩)))
            have hpc2 : ∀ d, d < dN → Z2 (xo + 14 + 6 + d) 0 = nI (pcs d) ∧ pcs d ≤ 99 := fun d hd => by rw [hd2 _ (by omega)]; exact hpc1 d hd
            refine ht_aload_n (D 35 rfl) rfl rfl ?_
            refine ht_iload_n (D 36 rfl) rfl rfl ?_
            refine ht_aload_n (D 37 rfl) rfl rfl ?_
            refine gf_X9_24 rfl (D 38 rfl) hC2.1.k0 hC2.1.q1 ?_
            refine gf_X9_75 rfl (D 39 rfl) hC2.1.nt.k0 hC2.2.1.lq ?_
            refine gf_X9_118 rfl (D 40 rfl) hC2.2.1.lb.k0 hC2.2.1.lb.q4 ?_
            refine ht_iload_n (D 41 rfl) rfl rfl ?_
            refine hi_ild (n := j) (D 42 rfl) hC2.2.1.lb.k4 hC2.2.1.lb.n4 (by first | rfl | exact nI_add _ _ | assumption) (by omega) (by first | decide | omega) ?_
            refine ht_aload_n (D 43 rfl) rfl rfl ?_
            refine gf_X9_24 rfl (D 44 rfl) hC2.1.k0 hC2.1.q1 ?_
            refine gf_X9_75 rfl (D 45 rfl) hC2.1.nt.k0 hC2.2.1.lq ?_
            refine gf_X9_115 rfl (D 46 rfl) hC2.2.1.lb.k0 hC2.2.1.lb.q3 ?_
            refine ht_iload_n (D 47 rfl) rfl rfl ?_
            refine hi_ild (n := j) (D 48 rfl) hC2.2.1.lb.k3 hC2.2.1.lb.n3 (by first | rfl | exact nI_add _ _ | assumption) (by omega) (by first | decide | omega) ?_
            rw [(hC2.2.1.lr.2.1 j hjk).1, (hC2.2.1.lr.2.1 j hjk).2]
            refine kVX9_weighDoor (As := [_, _, _]) cl_X9_258 (D 49 rfl) (sc_weighDoor hC2 hpc2 hR2 (by omega) hjk (p := V 11 j) (q := V 10 j) (hW.pl.p11 hjk) (hW.pl.p10 hjk)) hC2.1.k0 rfl (Nat.le_of_ble_eq_true rfl) rfl (Nat.le_of_ble_eq_true rfl) (by omega) ?_
            rintro _ _ ⟨rfl, Z3, rfl, hd3, hR3⟩
            refine ht_iinc (v := nI (j + 1)) (D 50 rfl) rfl (nI_i1 _) (by decide) rfl ?_
            refine ht_goto (tgt := 26) (D 51 rfl) (by decide) ?_
            exact ht_cast (ihj (dN - (j + 1)) (by omega) (j + 1) (by omega) rfl Z3 (hd1.tr (fun q hq => (hd3 q hq).trans (hd2 q hq))) (by rw [show 40020 * i + 4002 * (j + 1) = 40020 * i + 4002 * j + 2001 + 2001 by omega]; exact hR3)) rfl rfl rfl
      refine ht_iload_n (D 6 rfl) rfl rfl ?_
      refine ht_aload_n (D 7 rfl) rfl rfl ?_
      refine gf_X9_24 rfl (D 8 rfl) hC0.1.k0 hC0.1.q1 ?_
      refine gf_X9_75 rfl (D 9 rfl) hC0.1.nt.k0 hC0.2.1.lq ?_
      refine gi_X9_76 rfl (D 10 rfl) hC0.2.1.lb.k0 ?_
      refine ht_icmp_ge (tgt := 110) (D 11 rfl) (by decide) (fun hb21 => ?_) (fun hb21 => ?_)
      · skip
        have hik : i = cN := by rw [hC0.2.1.nc] at hb21; have h3 := (nI_leI (a := cN) (b := i) (by omega) (by omega)).mp hb21; omega
        subst hik
        refine ht_vret (D 54 rfl) rfl ?_
        exact ⟨rfl, Z0, rfl, hd0, fun c hc => ⟨(hR0 c hc).1, fun x hx => by have := (hR0 c hc).2 x hx; omega⟩⟩
      · skip
        have hik : i < cN := by rw [hC0.2.1.nc] at hb21; have h3 := mt (nI_leI (a := cN) (b := i) (by omega) (by omega)).mpr hb21; omega
        refine ht_iconst (v := 0) (D 12 rfl) (by decide) ?_
        refine ht_istore_n (D 13 rfl) rfl (by decide) rfl ?_
        exact ht_cast (inner hik dN 0 (by omega) (by omega) Z0 hd0 hR0) rfl rfl rfl
  show HT G mX9_weighWays 0 [some (.ref xo), none, none] [] (cv σ Z) 2 _
  refine ht_aload_n (D 0 rfl) rfl rfl ?_
  refine gf_X9_48 rfl (D 1 rfl) hX.k0 hX.q8 ?_
  refine ht_iconst (v := -1) (D 2 rfl) (by decide) ?_
  refine kSJ7_fill_53178 (As := [_, _]) cl_X9_229 (D 3 rfl) (sc_fill hX.k8 hX.n8 (by decide) (-1)) rfl (Nat.le_of_ble_eq_true rfl) rfl (Nat.le_of_ble_eq_true rfl) (by omega) ?_
  rintro _ _ ⟨rfl, Z0, rfl, hd0, hi0⟩
  refine ht_iconst (v := 0) (D 4 rfl) (by decide) ?_
  refine ht_istore_n (D 5 rfl) rfl (by decide) rfl ?_
  exact ht_cast (loop cN 0 (by omega) (by omega) Z0 none hd0 (fun c hc => ⟨hi0 c hc, fun x hx => by cases hx⟩)) rfl rfl rfl
set_option maxRecDepth 100000 in
theorem sc_firstDoorOfWay (hC : CW σ Z xo b V cN dN mN gk gw gi) {pcs : Nat → Nat} (hpc : ∀ d, d < dN → Z (xo + 14 + 6 + d) 0 = nI (pcs d) ∧ pcs d ≤ 99) {W : WT} (hR : WR (Z (xo + 51)) W 400000) {n x e0 : Nat} (hn : n < cN) (hx : W n = some x) (he0 : e0 < dN) (hg : gdP V (wd pcs) W (nI n) e0) (hle : ∀ e, e < e0 → ¬ gdP V (wd pcs) W (nI n) e) : Sp G mX9_firstDoorOfWay 1 [.ref xo, .int (nI n)] (cv σ Z) (fun rv σ' => rv = some (.int (nI e0)) ∧ σ' = cv σ Z) := by
  have D := dat dl_X9_firstDoorOfWay
  have hX := hC.1
  have hW := hC.2.1
  have h10 := hW.d10
  have h8 := hW.c8
  have loop : ∀ r j : Nat, j ≤ dN → dN - j = r → (∀ e, e < j → ¬ gdP V (wd pcs) W (nI n) e) → ∀ l3 : Option Value, HT G mX9_firstDoorOfWay 2 [some (.ref xo), some (.int (nI n)), some (.int (nI j)), l3] [] (cv σ Z) 1 (fun rv σ' => rv = some (.int (nI e0)) ∧ σ' = cv σ Z) := by
    intro r
    induction r using Nat.strongRecOn with
    | _ r ih =>
      intro j hj hr hno l3
      refine ht_iload_n (D 2 rfl) rfl rfl ?_
      refine ht_aload_n (D 3 rfl) rfl rfl ?_
      refine gf_X9_24 rfl (D 4 rfl) hX.k0 hX.q1 ?_
      refine gf_X9_75 rfl (D 5 rfl) hX.nt.k0 hW.lq ?_
      refine gi_X9_97 rfl (D 6 rfl) hW.lb.k0 ?_
      refine ht_icmp_ge (tgt := 72) (D 7 rfl) (by decide) (fun hb13 => ?_) (fun hb13 => ?_)
      · skip
        have hjk : j = dN := by rw [hW.nd] at hb13; have h3 := (nI_leI (a := dN) (b := j) (by omega) (by omega)).mp hb13; omega
        exact absurd hg (hno e0 (by omega))
      · skip
        have hjk : j < dN := by rw [hW.nd] at hb13; have h3 := mt (nI_leI (a := dN) (b := j) (by omega) (by omega)).mpr hb13; omega
        refine ht_aload_n (D 8 rfl) rfl rfl ?_
        refine gf_X9_24 rfl (D 9 rfl) hX.k0 hX.q1 ?_
        refine gf_X9_75 rfl (D 10 rfl) hX.nt.k0 hW.lq ?_
        refine ht_iload_n (D 11 rfl) rfl rfl ?_
        refine ht_iload_n (D 12 rfl) rfl rfl ?_
        refine kVX2_across (As := [_, _]) cl_X9_158 (D 13 rfl) (sc_across hW.lb (show j < 10 by omega) (nI n)) hW.lb.k0 rfl (Nat.le_of_ble_eq_true rfl) rfl (Nat.le_of_ble_eq_true rfl) (by omega) ?_
        rintro _ _ ⟨rfl, rfl⟩
        rw [acr_e hW hjk]
        refine ht_istore_n (D 14 rfl) rfl (by decide) rfl ?_
        refine ht_iload_n (D 15 rfl) rfl rfl ?_
        refine ht_bipush (v := -2) (D 16 rfl) (by decide) ?_
        refine ht_icmp_eq (tgt := 66) (D 17 rfl) (by decide) (fun hb32 => ?_) (fun hb32 => ?_)
        · skip
          have hnj : ¬ gdP V (wd pcs) W (nI n) j := fun q => q.1 hb32
          refine ht_iinc (v := nI (j + 1)) (D 37 rfl) rfl (nI_i1 _) (by decide) rfl ?_
          refine ht_goto (tgt := 2) (D 38 rfl) (by decide) ?_
          exact ht_cast (ih (dN - (j + 1)) (by omega) (j + 1) (by omega) rfl (fun e he => by by_cases c : e = j; rw [c]; exact hnj; exact hno e (by omega)) _) rfl rfl rfl
        · skip
          have hpl : Pl cN (ld V j (nI n)) := by
            rcases ld_cases hW.pl hjk (nI n) with q | q | q
            · exact absurd q hb32
            · exact Or.inl q
            · exact Or.inr q
          have hbd := WR_wo hR h8 hpl
          refine ht_aload_n (D 18 rfl) rfl rfl ?_
          refine ht_iload_n (D 19 rfl) rfl rfl ?_
          refine kVX9_weightOf (As := [_]) cl_X9_261 (D 20 rfl) (sc_weightOf hC hR hpl) hX.k0 rfl (Nat.le_of_ble_eq_true rfl) rfl (Nat.le_of_ble_eq_true rfl) (by omega) ?_
          rintro _ _ ⟨rfl, rfl⟩
          refine ht_iconst (v := -1) (D 21 rfl) (by decide) ?_
          refine ht_icmp_eq (tgt := 66) (D 22 rfl) (by decide) (fun hb41 => ?_) (fun hb41 => ?_)
          · skip
            have hnone := (enc_m hbd (by omega)).mp hb41
            have hnj : ¬ gdP V (wd pcs) W (nI n) j := fun q => by obtain ⟨-, y, y1, -⟩ := q; rw [hnone] at y1; cases y1
            refine ht_iinc (v := nI (j + 1)) (D 37 rfl) rfl (nI_i1 _) (by decide) rfl ?_
            refine ht_goto (tgt := 2) (D 38 rfl) (by decide) ?_
            exact ht_cast (ih (dN - (j + 1)) (by omega) (j + 1) (by omega) rfl (fun e he => by by_cases c : e = j; rw [c]; exact hnj; exact hno e (by omega)) _) rfl rfl rfl
          · skip
            obtain ⟨y, hy⟩ : ∃ y, wo W (ld V j (nI n)) = some y := by
              cases hq : wo W (ld V j (nI n)) with
              | none => exact absurd ((enc_m hbd (by omega)).mpr hq) hb41
              | some y => exact ⟨y, rfl⟩
            have hyb := hbd y hy
            have hwd : wd pcs j ≤ 2001 := by have := (hpc j hjk).2; unfold wd sc; omega
            have hxb := (hR n (by omega)).2 x hx
            refine ht_aload_n (D 23 rfl) rfl rfl ?_
            refine ht_iload_n (D 24 rfl) rfl rfl ?_
            refine kVX9_doorWeight (As := [_]) cl_X9_264 (D 25 rfl) (sc_doorWeight hC hpc hjk) hX.k0 rfl (Nat.le_of_ble_eq_true rfl) rfl (Nat.le_of_ble_eq_true rfl) (by omega) ?_
            rintro _ _ ⟨rfl, rfl⟩
            refine ht_aload_n (D 26 rfl) rfl rfl ?_
            refine ht_iload_n (D 27 rfl) rfl rfl ?_
            refine kVX9_weightOf (As := [_]) cl_X9_261 (D 28 rfl) (sc_weightOf hC hR hpl) hX.k0 rfl (Nat.le_of_ble_eq_true rfl) rfl (Nat.le_of_ble_eq_true rfl) (by omega) ?_
            rintro _ _ ⟨rfl, rfl⟩
            refine ht_iadd (D 29 rfl) ?_
            refine ht_aload_n (D 30 rfl) rfl rfl ?_
            refine gf_X9_48 rfl (D 31 rfl) hX.k0 hX.q8 ?_
            refine ht_iload_n (D 32 rfl) rfl rfl ?_
            refine hi_ild (n := n) (D 33 rfl) hX.k8 hX.n8 rfl (by omega) (by first | decide | omega) ?_
            refine ht_icmp_ne (tgt := 66) (D 34 rfl) (by decide) (fun hb61 => ?_) (fun hb61 => ?_)
            · skip
              have hnj : ¬ gdP V (wd pcs) W (nI n) j := fun q => by
                obtain ⟨-, y2, y3, y4⟩ := q
                rw [hy] at y3
                cases y3
                rw [wo_c _ (by omega), hx] at y4
                apply hb61
                rw [hy, (hR n (by omega)).1, hx, Option.some.inj y4]
                exact nI_add _ _
              refine ht_iinc (v := nI (j + 1)) (D 37 rfl) rfl (nI_i1 _) (by decide) rfl ?_
              refine ht_goto (tgt := 2) (D 38 rfl) (by decide) ?_
              exact ht_cast (ih (dN - (j + 1)) (by omega) (j + 1) (by omega) rfl (fun e he => by by_cases c : e = j; rw [c]; exact hnj; exact hno e (by omega)) _) rfl rfl rfl
            · skip
              have hyj : gdP V (wd pcs) W (nI n) j := by
                refine ⟨hb32, y, hy, ?_⟩
                rw [wo_c _ (by omega), hx]
                rw [hy, (hR n (by omega)).1, hx] at hb61
                have z : nI (wd pcs j) + nI y = nI x := hb61
                rw [nI_add, nI_eq (by omega) (by omega)] at z
                rw [z]
              refine ht_iload_n (D 35 rfl) rfl rfl ?_
              refine ht_iret (D 36 rfl) rfl rfl ?_
              have hee : e0 = j := by
                by_cases c : e0 < j
                · exact absurd hg (hno e0 c)
                · by_cases c2 : j < e0
                  · exact absurd hyj (hle j c2)
                  · omega
              exact ⟨by rw [hee], rfl⟩
  show HT G mX9_firstDoorOfWay 0 [some (.ref xo), some (.int (nI n)), none, none] [] (cv σ Z) 1 _
  refine ht_iconst (v := 0) (D 0 rfl) (by decide) ?_
  refine ht_istore_n (D 1 rfl) rfl (by decide) rfl ?_
  exact ht_cast (loop dN 0 (by omega) (by omega) (fun e he => absurd he (by omega)) none) rfl rfl rfl
set_option maxRecDepth 100000 in
theorem sc_doorOfWay (hC : CW σ Z xo b V cN dN mN gk gw gi) {pcs : Nat → Nat} (hpc : ∀ d, d < dN → Z (xo + 14 + 6 + d) 0 = nI (pcs d) ∧ pcs d ≤ 99) {W : WT} (hR : WR (Z (xo + 51)) W 400000) {i : Nat} (hi : i < 100) {ds : List Nat} {c : Int32} (hgp : GP V cN dN (wd pcs) W ds c) (hl : i < ds.length) : Sp G mX9_doorOfWay 2 [.ref xo, .int c, .int (nI i)] (cv σ Z) (fun rv σ' => rv = some (.int (nI (ds.getD i 0))) ∧ σ' = cv σ Z) := by
  have D := dat dl_X9_doorOfWay
  have hX := hC.1
  have hW := hC.2.1
  have h10 := hW.d10
  have h8 := hW.c8
  obtain ⟨res, hresd⟩ : ∃ res, res = ds.getD i 0 := ⟨_, rfl⟩
  rw [← hresd]
  have loop : ∀ (ds : List Nat) (c2 : Int32) (j : Nat) (l5 : Option Value), GP V cN dN (wd pcs) W ds c2 → i < j + ds.length → j ≤ i → ds.getD (i - j) 0 = res → HT G mX9_doorOfWay 5 [some (.ref xo), some (.int c), some (.int (nI i)), some (.int c2), some (.int (nI j)), l5] [] (cv σ Z) 2 (fun rv σ' => rv = some (.int (nI res)) ∧ σ' = cv σ Z) := by
    intro ds
    induction ds with
    | nil => intro c2 j l5 _ h1 h2 _; simp only [List.length_nil] at h1; omega
    | cons d ds ih =>
      intro c2 j l5 hg hl hji hres
      have hwo := gp_wo h8 (d :: ds) c2 hg
      obtain ⟨⟨n, n1, n2⟩, ⟨g2, g3, g4⟩, g5⟩ := hg
      subst n2
      rw [wo_c _ (by omega)] at hwo
      have hxn := hwo
      refine ht_iload (D 4 rfl) rfl ?_
      refine ht_iload_n (D 5 rfl) rfl rfl ?_
      refine ht_icmp_gt (tgt := 58) (D 6 rfl) (by decide) (fun hb8 => ?_) (fun hb8 => ?_)
      · skip
        exact absurd hb8 (nI_nlt (by omega) (by omega))
      · skip
        refine ht_iload_n (D 7 rfl) rfl rfl ?_
        refine ht_iconst (v := -1) (D 8 rfl) (by decide) ?_
        refine ht_icmp_eq (tgt := 58) (D 9 rfl) (by decide) (fun hb13 => ?_) (fun hb13 => ?_)
        · skip
          exact absurd hb13 (nI_ge0 (by omega))
        · skip
          refine ht_aload_n (D 10 rfl) rfl rfl ?_
          refine ht_iload_n (D 11 rfl) rfl rfl ?_
          refine kVX9_firstDoorOfWay (As := [_]) cl_X9_267 (D 12 rfl) (sc_firstDoorOfWay hC hpc hR n1 hxn g2 g3 g4) hX.k0 rfl (Nat.le_of_ble_eq_true rfl) rfl (Nat.le_of_ble_eq_true rfl) (by omega) ?_
          rintro _ _ ⟨rfl, rfl⟩
          refine ht_istore (D 13 rfl) (by decide) rfl ?_
          refine ht_iload (D 14 rfl) rfl ?_
          refine ht_iconst (v := -1) (D 15 rfl) (by decide) ?_
          refine ht_icmp_eq (tgt := 35) (D 16 rfl) (by decide) (fun hb26 => ?_) (fun hb26 => ?_)
          · skip
            exact absurd hb26 (nI_ge0 (by omega))
          · skip
            refine ht_iload (D 17 rfl) rfl ?_
            refine ht_iload_n (D 18 rfl) rfl rfl ?_
            refine ht_icmp_ne (tgt := 38) (D 19 rfl) (by decide) (fun hb32 => ?_) (fun hb32 => ?_)
            · skip
              have hji : j ≠ i := fun e => hb32 (by rw [e])
              refine ht_aload_n (D 22 rfl) rfl rfl ?_
              refine gf_X9_24 rfl (D 23 rfl) hX.k0 hX.q1 ?_
              refine gf_X9_75 rfl (D 24 rfl) hX.nt.k0 hW.lq ?_
              refine ht_iload (D 25 rfl) rfl ?_
              refine ht_iload_n (D 26 rfl) rfl rfl ?_
              refine kVX2_across (As := [_, _]) cl_X9_158 (D 27 rfl) (sc_across hW.lb (show d < 10 by omega) (nI n)) hW.lb.k0 rfl (Nat.le_of_ble_eq_true rfl) rfl (Nat.le_of_ble_eq_true rfl) (by omega) ?_
              rintro _ _ ⟨rfl, rfl⟩
              rw [acr_e hW g2]
              refine ht_istore_n (D 28 rfl) rfl (by decide) rfl ?_
              refine ht_iinc (v := nI (j + 1)) (D 29 rfl) rfl (nI_i1 _) (by decide) rfl ?_
              refine ht_goto (tgt := 5) (D 30 rfl) (by decide) ?_
              exact ht_cast (ih (ld V d (nI n)) (j + 1) _ g5 (by simp only [List.length_cons] at hl; omega) (by omega) (by rw [← hres, show i - j = i - (j + 1) + 1 by omega]; rfl)) rfl rfl rfl
            · skip
              have hji : j = i := (nI_eq (by omega) (by omega)).mp hb32
              refine ht_iload (D 20 rfl) rfl ?_
              refine ht_iret (D 21 rfl) rfl rfl ?_
              subst hji
              exact ⟨by rw [← hres, Nat.sub_self]; rfl, rfl⟩
  show HT G mX9_doorOfWay 0 [some (.ref xo), some (.int c), some (.int (nI i)), none, none, none] [] (cv σ Z) 2 _
  refine ht_iload_n (D 0 rfl) rfl rfl ?_
  refine ht_istore_n (D 1 rfl) rfl (by decide) rfl ?_
  refine ht_iconst (v := 0) (D 2 rfl) (by decide) ?_
  refine ht_istore (D 3 rfl) (by decide) rfl ?_
  exact ht_cast (loop ds c 0 none hgp (by omega) (by omega) hresd.symm) rfl rfl rfl
end C17
