/-! ===== the class: its world, plain answers ===== -/
def XS (σ : Hp) (xo : Nat) : Prop := zK σ xo = 8 ∧ (zQ σ xo 0 = some (xo + 1) ∧ zK σ (xo + 1) = 6 ∧ zQ σ (xo + 1) 0 = some (xo + 2) ∧ zK σ (xo + 2) = 22 ∧ zN σ (xo + 2) = 1000) ∧ (zQ σ xo 1 = some (xo + 14) ∧ NtS σ (xo + 14)) ∧ (zQ σ xo 2 = some (xo + 30) ∧ NtS σ (xo + 30)) ∧ (zQ σ xo 3 = some (xo + 46) ∧ zK σ (xo + 46) = 25 ∧ zN σ (xo + 46) = 4) ∧ (zQ σ xo 4 = some (xo + 47) ∧ zK σ (xo + 47) = 20 ∧ zN σ (xo + 47) = 10) ∧ (zQ σ xo 5 = some (xo + 48) ∧ zK σ (xo + 48) = 20 ∧ zN σ (xo + 48) = 10) ∧ (zQ σ xo 6 = some (xo + 49) ∧ zK σ (xo + 49) = 20 ∧ zN σ (xo + 49) = 240) ∧ (zQ σ xo 7 = some (xo + 50) ∧ zK σ (xo + 50) = 20 ∧ zN σ (xo + 50) = 240) ∧ (zQ σ xo 8 = some (xo + 51) ∧ zK σ (xo + 51) = 20 ∧ zN σ (xo + 51) = 8)
theorem XS.k0 {σ : Hp} {xo : Nat} (h : XS σ xo) : zK σ xo = 8 := h.1
theorem XS.qt {σ : Hp} {xo : Nat} (h : XS σ xo) : zQ σ xo 0 = some (xo + 1) := h.2.1.1
theorem XS.kt {σ : Hp} {xo : Nat} (h : XS σ xo) : zK σ (xo + 1) = 6 := h.2.1.2.1
theorem XS.qs {σ : Hp} {xo : Nat} (h : XS σ xo) : zQ σ (xo + 1) 0 = some (xo + 2) := h.2.1.2.2.1
theorem XS.ks {σ : Hp} {xo : Nat} (h : XS σ xo) : zK σ (xo + 2) = 22 := h.2.1.2.2.2.1
theorem XS.ns {σ : Hp} {xo : Nat} (h : XS σ xo) : zN σ (xo + 2) = 1000 := h.2.1.2.2.2.2
theorem XS.q1 {σ : Hp} {xo : Nat} (h : XS σ xo) : zQ σ xo 1 = some (xo + 14) := h.2.2.1.1
theorem XS.nt {σ : Hp} {xo : Nat} (h : XS σ xo) : NtS σ (xo + 14) := h.2.2.1.2
theorem XS.q2 {σ : Hp} {xo : Nat} (h : XS σ xo) : zQ σ xo 2 = some (xo + 30) := h.2.2.2.1.1
theorem XS.tr {σ : Hp} {xo : Nat} (h : XS σ xo) : NtS σ (xo + 30) := h.2.2.2.1.2
theorem XS.q3 {σ : Hp} {xo : Nat} (h : XS σ xo) : zQ σ xo 3 = some (xo + 46) := h.2.2.2.2.1.1
theorem XS.k3 {σ : Hp} {xo : Nat} (h : XS σ xo) : zK σ (xo + 46) = 25 := h.2.2.2.2.1.2.1
theorem XS.n3 {σ : Hp} {xo : Nat} (h : XS σ xo) : zN σ (xo + 46) = 4 := h.2.2.2.2.1.2.2
theorem XS.q4 {σ : Hp} {xo : Nat} (h : XS σ xo) : zQ σ xo 4 = some (xo + 47) := h.2.2.2.2.2.1.1
theorem XS.k4 {σ : Hp} {xo : Nat} (h : XS σ xo) : zK σ (xo + 47) = 20 := h.2.2.2.2.2.1.2.1
theorem XS.n4 {σ : Hp} {xo : Nat} (h : XS σ xo) : zN σ (xo + 47) = 10 := h.2.2.2.2.2.1.2.2
theorem XS.q5 {σ : Hp} {xo : Nat} (h : XS σ xo) : zQ σ xo 5 = some (xo + 48) := h.2.2.2.2.2.2.1.1
theorem XS.k5 {σ : Hp} {xo : Nat} (h : XS σ xo) : zK σ (xo + 48) = 20 := h.2.2.2.2.2.2.1.2.1
theorem XS.n5 {σ : Hp} {xo : Nat} (h : XS σ xo) : zN σ (xo + 48) = 10 := h.2.2.2.2.2.2.1.2.2
theorem XS.q6 {σ : Hp} {xo : Nat} (h : XS σ xo) : zQ σ xo 6 = some (xo + 49) := h.2.2.2.2.2.2.2.1.1
theorem XS.k6 {σ : Hp} {xo : Nat} (h : XS σ xo) : zK σ (xo + 49) = 20 := h.2.2.2.2.2.2.2.1.2.1
theorem XS.n6 {σ : Hp} {xo : Nat} (h : XS σ xo) : zN σ (xo + 49) = 240 := h.2.2.2.2.2.2.2.1.2.2
theorem XS.q7 {σ : Hp} {xo : Nat} (h : XS σ xo) : zQ σ xo 7 = some (xo + 50) := h.2.2.2.2.2.2.2.2.1.1
theorem XS.k7 {σ : Hp} {xo : Nat} (h : XS σ xo) : zK σ (xo + 50) = 20 := h.2.2.2.2.2.2.2.2.1.2.1
theorem XS.n7 {σ : Hp} {xo : Nat} (h : XS σ xo) : zN σ (xo + 50) = 240 := h.2.2.2.2.2.2.2.2.1.2.2
theorem XS.q8 {σ : Hp} {xo : Nat} (h : XS σ xo) : zQ σ xo 8 = some (xo + 51) := h.2.2.2.2.2.2.2.2.2.1
theorem XS.k8 {σ : Hp} {xo : Nat} (h : XS σ xo) : zK σ (xo + 51) = 20 := h.2.2.2.2.2.2.2.2.2.2.1
theorem XS.n8 {σ : Hp} {xo : Nat} (h : XS σ xo) : zN σ (xo + 51) = 8 := h.2.2.2.2.2.2.2.2.2.2.2
/-- where a law and its formulas may lie -/
def FarL (σ : Hp) (xo b : Nat) : Prop := (b = xo + 3 ∨ xo + 52 ≤ b) ∧ ∀ f, isF σ b f → xo + 52 ≤ f
def CW (σ : Hp) (Z : VT) (xo b : Nat) (V : VT) (cN dN mN gk : Nat) (gw : Option GWt) (gi : Option GIt) : Prop := XS σ xo ∧ NW σ Z (xo + 14) b V cN dN mN gk gw gi ∧ FarL σ xo b
/-- what a call may write -/
def XP (σ : Hp) (xo b q : Nat) : Prop := (xo + 14 ≤ q ∧ q < xo + 52) ∨ ∃ f, isF σ b f ∧ q = f + 1
def QC (σ : Hp) (xo b dN : Nat) (Z : VT) (r : Int32) (S : ST) : Option Value → Hp → Prop := fun rv σ' => rv = some (.int r) ∧ ∃ (t : Option Nat) (Z2 : VT), σ' = cv (wQ σ (xo + 30) 0 t) Z2 ∧ Fr (XP σ xo b) Z Z2 ∧ nv dN Z2 (xo + 14) = S ∧ Z2 (xo + 14) 2 = -1
theorem wQ_id (σ : Hp) (a k : Nat) : wQ σ a k (zQ σ a k) = σ := by
  have e : up2 (zQ σ) a k (zQ σ a k) = zQ σ := by
    funext p q
    unfold up2
    split
    · rename_i h
      rw [h.1, h.2]
    · rfl
  show (zK σ, zN σ, zI σ, zJ σ, up2 (zQ σ) a k (zQ σ a k), zX σ, zS σ) = σ
  rw [e]
  rfl
theorem QC_k {σ : Hp} {xo b dN : Nat} {Z Z2 : VT} {x r : Int32} {S : ST} (h : x = r) (hf : Fr (XP σ xo b) Z Z2) (hn : nv dN Z2 (xo + 14) = S) (hb : Z2 (xo + 14) 2 = -1) : QC σ xo b dN Z r S (some (.int x)) (cv σ Z2) := ⟨by rw [h], zQ σ (xo + 30) 0, Z2, by rw [wQ_id], hf, hn, hb⟩
theorem QC_t {σ : Hp} {xo b dN : Nat} {Z : VT} {x r : Int32} (hb : Z (xo + 14) 2 = -1) (h : x = r) : QC σ xo b dN Z r (nv dN Z (xo + 14)) (some (.int x)) (cv σ Z) := QC_k h (Fr.rf _ _) rfl hb
theorem QC_n {σ : Hp} {xo b dN : Nat} {Z Z2 : VT} {x r : Int32} {S : ST} (h : x = r) (hf : Fr (NP σ (xo + 14) b) Z Z2) (hn : nv dN Z2 (xo + 14) = S) (hb : Z2 (xo + 14) 2 = -1) : QC σ xo b dN Z r S (some (.int x)) (cv σ Z2) := QC_k h (hf.mono (fun q hq => hq.elim (fun h => Or.inl ⟨by omega, by omega⟩) Or.inr)) hn hb
section C8
variable {G : GG} {σ : Hp} {Z : VT} {xo b : Nat} {V : VT} {cN dN mN gk : Nat} {gw : Option GWt} {gi : Option GIt}
set_option maxRecDepth 100000 in
theorem sc_isHeld (hE : NE G) (hC : CW σ Z xo b V cN dN mN gk gw gi) (hbar : Z (xo + 14) 2 = -1) (hmn : Mn (nv dN Z (xo + 14)) cN mN) (x : Int32) : Sp G mX9_isHeld 1 [.ref xo, .int x] (cv σ Z) (fun rv σ' => (∃ y : Int32, rv = some (.int y) ∧ ((y = 1 ∧ aHeld (nv dN Z (xo + 14)) mN x) ∨ (y = 0 ∧ ¬ aHeld (nv dN Z (xo + 14)) mN x))) ∧ σ' = cv σ Z) := by
  have D := dat dl_X9_isHeld
  show HT G mX9_isHeld 0 [some (.ref xo), some (.int x)] [] (cv σ Z) 1 _
  have hX := hC.1
  have hW := hC.2.1
  have h10 := hW.d10
  have h8 := hW.c8
  have h6 := hW.m6
  have h2 := hW.g2
  refine ht_iload_n (D 0 rfl) rfl rfl ?_
  refine ht_aload_n (D 1 rfl) rfl rfl ?_
  refine gf_X9_24 rfl (D 2 rfl) hX.k0 hX.q1 ?_
  refine gf_X9_75 rfl (D 3 rfl) hX.nt.k0 hW.lq ?_
  refine gi_X9_121 rfl (D 4 rfl) hW.lb.k0 ?_
  rw [hW.nm]
  refine kSX9_isBelow (As := [_, _]) cl_X9_79 (D 5 rfl) (sc_isBelow _ _) rfl (Nat.le_of_ble_eq_true rfl) rfl (Nat.le_of_ble_eq_true rfl) (by omega) ?_
  rintro _ _ ⟨rfl, rfl⟩
  refine ht_if_eq (tgt := 34) (D 6 rfl) (by decide) (fun hb14 => ?_) (fun hb14 => ?_)
  · skip
    have q1 := b01_eq hb14
    refine ht_iconst (v := 0) (D 16 rfl) (by decide) ?_
    refine ht_iret (D 17 rfl) rfl rfl ?_
    first
    | exact ⟨⟨0, rfl, Or.inr ⟨rfl, fun q => q1 q.1⟩⟩, rfl⟩
    | exact ⟨⟨0, rfl, Or.inr ⟨rfl, fun q => by
        have q2 := q.2
        rw [nI_clamp (by omega), nv_man _ _ _ (show k < 6 by omega), hb27] at q2
        exact absurd q2 (by decide)⟩⟩, rfl⟩
    | exact ⟨⟨1, rfl, Or.inl ⟨rfl, q1, by
        have q2 := hmn k hk1
        rw [nI_clamp (by omega)]
        rw [nv_man _ _ _ (show k < 6 by omega)] at q2 ⊢
        rcases q2 with q2 | ⟨c, c1, c2⟩
        · exact absurd q2 hb27
        · rw [c2]; exact nI_pos' (by omega)⟩⟩, rfl⟩
  · skip
    have q1 := b01_ne hb14
    obtain ⟨k, hk1, rfl⟩ := rng (by omega) q1
    refine ht_aload_n (D 7 rfl) rfl rfl ?_
    refine gf_X9_24 rfl (D 8 rfl) hX.k0 hX.q1 ?_
    refine gf_X9_131 rfl (D 9 rfl) hX.nt.k0 hX.nt.q2 ?_
    refine ht_iload_n (D 10 rfl) rfl rfl ?_
    refine hi_ild (n := k) (D 11 rfl) hX.nt.k2 hX.nt.n2 rfl (by omega) (by first | decide | omega) ?_
    refine ht_iconst (v := -1) (D 12 rfl) (by decide) ?_
    refine ht_icmp_eq (tgt := 34) (D 13 rfl) (by decide) (fun hb27 => ?_) (fun hb27 => ?_)
    · skip
      refine ht_iconst (v := 0) (D 16 rfl) (by decide) ?_
      refine ht_iret (D 17 rfl) rfl rfl ?_
      first
      | exact ⟨⟨0, rfl, Or.inr ⟨rfl, fun q => q1 q.1⟩⟩, rfl⟩
      | exact ⟨⟨0, rfl, Or.inr ⟨rfl, fun q => by
          have q2 := q.2
          rw [nI_clamp (by omega), nv_man _ _ _ (show k < 6 by omega), hb27] at q2
          exact absurd q2 (by decide)⟩⟩, rfl⟩
      | exact ⟨⟨1, rfl, Or.inl ⟨rfl, q1, by
          have q2 := hmn k hk1
          rw [nI_clamp (by omega)]
          rw [nv_man _ _ _ (show k < 6 by omega)] at q2 ⊢
          rcases q2 with q2 | ⟨c, c1, c2⟩
          · exact absurd q2 hb27
          · rw [c2]; exact nI_pos' (by omega)⟩⟩, rfl⟩
    · skip
      refine ht_iconst (v := 1) (D 14 rfl) (by decide) ?_
      refine ht_goto (tgt := 35) (D 15 rfl) (by decide) ?_
      refine ht_iret (D 17 rfl) rfl rfl ?_
      first
      | exact ⟨⟨0, rfl, Or.inr ⟨rfl, fun q => q1 q.1⟩⟩, rfl⟩
      | exact ⟨⟨0, rfl, Or.inr ⟨rfl, fun q => by
          have q2 := q.2
          rw [nI_clamp (by omega), nv_man _ _ _ (show k < 6 by omega), hb27] at q2
          exact absurd q2 (by decide)⟩⟩, rfl⟩
      | exact ⟨⟨1, rfl, Or.inl ⟨rfl, q1, by
          have q2 := hmn k hk1
          rw [nI_clamp (by omega)]
          rw [nv_man _ _ _ (show k < 6 by omega)] at q2 ⊢
          rcases q2 with q2 | ⟨c, c1, c2⟩
          · exact absurd q2 hb27
          · rw [c2]; exact nI_pos' (by omega)⟩⟩, rfl⟩
theorem sw_out {w : Int32} {hi : Int32} {n : Nat} (h0 : 0 ≤ w) (h1 : w ≤ hi) (hn : hi = nI n ∧ n < 100) (h : ∀ k : Nat, k ≤ n → ¬ w = nI k) : False := by
  obtain ⟨j, hj, e⟩ := nI_of (x := w) (Int32.not_lt.mpr h0)
  rw [hn.1, e] at h1
  exact h j ((nI_leI hj (by omega)).mp h1) e
set_option maxRecDepth 100000 in
theorem sc_door (hE : NE G) (hC : CW σ Z xo b V cN dN mN gk gw gi) (hbar : Z (xo + 14) 2 = -1)  (x w : Int32) : Sp G mX9_door 1 [.ref xo, .int x, .int w] (cv σ Z) (QC σ xo b dN Z (aDoor V (nv dN Z (xo + 14)) dN x w) (nv dN Z (xo + 14))) := by
  have D := dat dl_X9_door
  show HT G mX9_door 0 [some (.ref xo), some (.int x), some (.int w)] [] (cv σ Z) 1 _
  have hX := hC.1
  have hW := hC.2.1
  have h10 := hW.d10
  have h8 := hW.c8
  have h6 := hW.m6
  have h2 := hW.g2
  refine ht_iload_n (D 0 rfl) rfl rfl ?_
  refine ht_aload_n (D 1 rfl) rfl rfl ?_
  refine gf_X9_24 rfl (D 2 rfl) hX.k0 hX.q1 ?_
  refine gf_X9_75 rfl (D 3 rfl) hX.nt.k0 hW.lq ?_
  refine gi_X9_97 rfl (D 4 rfl) hW.lb.k0 ?_
  rw [hW.nd]
  refine kSX9_isBelow (As := [_, _]) cl_X9_79 (D 5 rfl) (sc_isBelow _ _) rfl (Nat.le_of_ble_eq_true rfl) rfl (Nat.le_of_ble_eq_true rfl) (by omega) ?_
  rintro _ _ ⟨rfl, rfl⟩
  refine ht_if_ne (tgt := 19) (D 6 rfl) (by decide) (fun hb14 => ?_) (fun hb14 => ?_)
  · skip
    have q1 := b01_ne hb14
    obtain ⟨k, hk1, rfl⟩ := rng (by omega) q1
    refine ht_iload_n (D 9 rfl) rfl rfl ?_
    by_cases hs20_0 : w = 0
    · skip
      refine ht_tableIn (off := 36) (tgt := 56) (D 10 rfl) (by rw [hs20_0]; decide) (by rw [hs20_0]; decide) (by rw [hs20_0]; rfl) (by decide) ?_
      refine ht_aload_n (D 11 rfl) rfl rfl ?_
      refine gf_X9_24 rfl (D 12 rfl) hX.k0 hX.q1 ?_
      refine gf_X9_100 rfl (D 13 rfl) hX.nt.k0 hX.nt.q4 ?_
      refine ht_iload_n (D 14 rfl) rfl rfl ?_
      refine ht_ald (n := k) (Or.inl rfl) (D 15 rfl) hX.nt.k4 hX.nt.n4 rfl (by omega) (by decide) (hX.nt.lq (j := k) (by omega)) ?_
      refine gi_X9_104 rfl (D 16 rfl) (hX.nt.lk (j := k) (by omega)) ?_
      refine ht_iret (D 17 rfl) rfl rfl ?_
      exact QC_t hbar (by unfold aDoor; rw [if_pos ⟨q1, by rw [hs20_0]; decide⟩, hs20_0, nI_clamp (by omega)]; rw [if_pos rfl]; exact (nv_ice _ _ _ (by omega)).symm)
    · skip
      by_cases hs20_1 : w = 1
      · skip
        refine ht_tableIn (off := 49) (tgt := 69) (D 10 rfl) (by rw [hs20_1]; decide) (by rw [hs20_1]; decide) (by rw [hs20_1]; rfl) (by decide) ?_
        refine ht_aload_n (D 18 rfl) rfl rfl ?_
        refine gf_X9_24 rfl (D 19 rfl) hX.k0 hX.q1 ?_
        refine gf_X9_100 rfl (D 20 rfl) hX.nt.k0 hX.nt.q4 ?_
        refine ht_iload_n (D 21 rfl) rfl rfl ?_
        refine ht_ald (n := k) (Or.inl rfl) (D 22 rfl) hX.nt.k4 hX.nt.n4 rfl (by omega) (by decide) (hX.nt.lq (j := k) (by omega)) ?_
        refine gi_X9_109 rfl (D 23 rfl) (hX.nt.lk (j := k) (by omega)) ?_
        refine ht_iret (D 24 rfl) rfl rfl ?_
        exact QC_t hbar (by unfold aDoor; rw [if_pos ⟨q1, by rw [hs20_1]; decide⟩, hs20_1, nI_clamp (by omega)]; rw [if_neg (by decide), if_pos rfl]; exact (nv_wat _ _ _ (by omega)).symm)
      · skip
        by_cases hs20_2 : w = 2
        · skip
          refine ht_tableIn (off := 62) (tgt := 82) (D 10 rfl) (by rw [hs20_2]; decide) (by rw [hs20_2]; decide) (by rw [hs20_2]; rfl) (by decide) ?_
          refine ht_aload_n (D 25 rfl) rfl rfl ?_
          refine gf_X9_24 rfl (D 26 rfl) hX.k0 hX.q1 ?_
          refine gf_X9_100 rfl (D 27 rfl) hX.nt.k0 hX.nt.q4 ?_
          refine ht_iload_n (D 28 rfl) rfl rfl ?_
          refine ht_ald (n := k) (Or.inl rfl) (D 29 rfl) hX.nt.k4 hX.nt.n4 rfl (by omega) (by decide) (hX.nt.lq (j := k) (by omega)) ?_
          refine gi_X9_112 rfl (D 30 rfl) (hX.nt.lk (j := k) (by omega)) ?_
          refine ht_iret (D 31 rfl) rfl rfl ?_
          exact QC_t hbar (by unfold aDoor; rw [if_pos ⟨q1, by rw [hs20_2]; decide⟩, hs20_2, nI_clamp (by omega)]; rw [if_neg (by decide), if_neg (by decide), if_pos rfl]; exact (nv_slt _ _ _ (by omega)).symm)
        · skip
          by_cases hs20_3 : w = 3
          · skip
            refine ht_tableIn (off := 75) (tgt := 95) (D 10 rfl) (by rw [hs20_3]; decide) (by rw [hs20_3]; decide) (by rw [hs20_3]; rfl) (by decide) ?_
            refine ht_aload_n (D 32 rfl) rfl rfl ?_
            refine gf_X9_24 rfl (D 33 rfl) hX.k0 hX.q1 ?_
            refine gf_X9_75 rfl (D 34 rfl) hX.nt.k0 hW.lq ?_
            refine gf_X9_115 rfl (D 35 rfl) hW.lb.k0 hW.lb.q3 ?_
            refine ht_iload_n (D 36 rfl) rfl rfl ?_
            refine hi_ild (n := k) (D 37 rfl) hW.lb.k3 hW.lb.n3 rfl (by omega) (by first | decide | omega) ?_
            refine ht_iret (D 38 rfl) rfl rfl ?_
            exact QC_t hbar (by unfold aDoor; rw [if_pos ⟨q1, by rw [hs20_3]; decide⟩, hs20_3, nI_clamp (by omega)]; rw [if_neg (by decide), if_neg (by decide), if_neg (by decide), if_pos rfl]; exact (hW.lr.2.1 k hk1).1)
          · skip
            by_cases hs20_4 : w = 4
            · skip
              refine ht_tableIn (off := 88) (tgt := 108) (D 10 rfl) (by rw [hs20_4]; decide) (by rw [hs20_4]; decide) (by rw [hs20_4]; rfl) (by decide) ?_
              refine ht_aload_n (D 39 rfl) rfl rfl ?_
              refine gf_X9_24 rfl (D 40 rfl) hX.k0 hX.q1 ?_
              refine gf_X9_75 rfl (D 41 rfl) hX.nt.k0 hW.lq ?_
              refine gf_X9_118 rfl (D 42 rfl) hW.lb.k0 hW.lb.q4 ?_
              refine ht_iload_n (D 43 rfl) rfl rfl ?_
              refine hi_ild (n := k) (D 44 rfl) hW.lb.k4 hW.lb.n4 rfl (by omega) (by first | decide | omega) ?_
              refine ht_iret (D 45 rfl) rfl rfl ?_
              exact QC_t hbar (by unfold aDoor; rw [if_pos ⟨q1, by rw [hs20_4]; decide⟩, hs20_4, nI_clamp (by omega)]; rw [if_neg (by decide), if_neg (by decide), if_neg (by decide), if_neg (by decide)]; exact (hW.lr.2.1 k hk1).2)
            · skip
              refine ht_tableOut (tgt := 121) (D 10 rfl) (tb_out (lo := 0) (n := 5) (fun k hk => ?_)) (by decide) ?_
              · (have hk9 : k = 0 ∨ k = 1 ∨ k = 2 ∨ k = 3 ∨ k = 4 := by omega)
                rcases hk9 with rfl | rfl | rfl | rfl | rfl <;> assumption
              refine ht_iconst (v := -1) (D 46 rfl) (by decide) ?_
              refine ht_iret (D 47 rfl) rfl rfl ?_
              exact QC_t hbar (by unfold aDoor; rw [if_neg (fun q => sw_out q.2.1 q.2.2 (n := 4) (by decide) (fun k hk => by (have hk9 : k = 0 ∨ k = 1 ∨ k = 2 ∨ k = 3 ∨ k = 4 := by omega); rcases hk9 with rfl | rfl | rfl | rfl | rfl <;> assumption))])
  · skip
    refine ht_iconst (v := -1) (D 7 rfl) (by decide) ?_
    refine ht_iret (D 8 rfl) rfl rfl ?_
    exact QC_t hbar (by unfold aDoor; rw [if_neg (fun q => b01_eq hb14 q.1)])
theorem mI2_one {S T : ST} {c : Int32} (hc : 0 ≤ c) {n : Nat} (h : ∀ i, i < n → S i = T (68 + i)) (k : Nat) (hk : k ≤ n) : mI2 S c (-1) k = mIn T c k := by
  induction k with
  | zero => rfl
  | succ k ih =>
    simp only [mI2, mIn]
    rw [ih (by omega), h k (by omega)]
    by_cases e : T (68 + k) = c
    · rw [if_pos ⟨Or.inl e, fun q => by rw [← e, q] at hc; exact absurd hc (by decide)⟩, if_pos ⟨hc, e⟩]
    · rw [if_neg (fun q => q.1.elim e q.2), if_neg (fun q => e q.2)]
set_option maxRecDepth 100000 in
theorem sc_cell (hE : NE G) (hC : CW σ Z xo b V cN dN mN gk gw gi) (hbar : Z (xo + 14) 2 = -1) {h : Nat} (hh : Z (xo + 14) 1 = nI h) (h31 : h < 2 ^ 31) (x w : Int32) : Sp G mX9_cell 3 [.ref xo, .int x, .int w] (cv σ Z) (QC σ xo b dN Z (aCell V (nv dN Z (xo + 14)) cN mN gk h x w) (nv dN Z (xo + 14))) := by
  have D := dat dl_X9_cell
  show HT G mX9_cell 0 [some (.ref xo), some (.int x), some (.int w)] [] (cv σ Z) 3 _
  have hX := hC.1
  have hW := hC.2.1
  have h10 := hW.d10
  have h8 := hW.c8
  have h6 := hW.m6
  have h2 := hW.g2
  refine ht_iload_n (D 0 rfl) rfl rfl ?_
  refine ht_aload_n (D 1 rfl) rfl rfl ?_
  refine gf_X9_24 rfl (D 2 rfl) hX.k0 hX.q1 ?_
  refine gf_X9_75 rfl (D 3 rfl) hX.nt.k0 hW.lq ?_
  refine gi_X9_76 rfl (D 4 rfl) hW.lb.k0 ?_
  rw [hW.nc]
  refine kSX9_isBelow (As := [_, _]) cl_X9_79 (D 5 rfl) (sc_isBelow _ _) rfl (Nat.le_of_ble_eq_true rfl) rfl (Nat.le_of_ble_eq_true rfl) (by omega) ?_
  rintro _ _ ⟨rfl, rfl⟩
  refine ht_if_ne (tgt := 19) (D 6 rfl) (by decide) (fun hb14 => ?_) (fun hb14 => ?_)
  · skip
    have q1 := b01_ne hb14
    obtain ⟨k, hk1, rfl⟩ := rng (by omega) q1
    refine ht_iload_n (D 9 rfl) rfl rfl ?_
    by_cases hs20_0 : w = 0
    · skip
      refine ht_tableIn (off := 32) (tgt := 52) (D 10 rfl) (by rw [hs20_0]; decide) (by rw [hs20_0]; decide) (by rw [hs20_0]; rfl) (by decide) ?_
      refine ht_aload_n (D 11 rfl) rfl rfl ?_
      refine gf_X9_24 rfl (D 12 rfl) hX.k0 hX.q1 ?_
      refine gf_X9_83 rfl (D 13 rfl) hX.nt.k0 hX.nt.q1 ?_
      refine ht_iload_n (D 14 rfl) rfl rfl ?_
      refine hi_ild (n := k) (D 15 rfl) hX.nt.k1 hX.nt.n1 rfl (by omega) (by first | decide | omega) ?_
      refine ht_iret (D 16 rfl) rfl rfl ?_
      exact QC_t hbar (by unfold aCell; rw [if_pos ⟨q1, by rw [hs20_0]; decide⟩, hs20_0, nI_clamp (by omega)]; rw [if_pos (by decide), if_pos rfl]; exact (nv_stv _ _ _ (by omega)).symm)
    · skip
      by_cases hs20_1 : w = 1
      · skip
        refine ht_tableIn (off := 42) (tgt := 62) (D 10 rfl) (by rw [hs20_1]; decide) (by rw [hs20_1]; decide) (by rw [hs20_1]; rfl) (by decide) ?_
        refine ht_aload_n (D 17 rfl) rfl rfl ?_
        refine gf_X9_24 rfl (D 18 rfl) hX.k0 hX.q1 ?_
        refine ht_iload_n (D 19 rfl) rfl rfl ?_
        refine ht_iconst (v := -1) (D 20 rfl) (by decide) ?_
        refine kVX4_menIn (As := [_, _]) cl_X9_86 (D 21 rfl) (sc_menIn hX.nt hW.lq hW.lb hW.nm h6 _ _) hX.nt.k0 rfl (Nat.le_of_ble_eq_true rfl) rfl (Nat.le_of_ble_eq_true rfl) (by omega) ?_
        rintro _ _ ⟨rfl, rfl⟩
        refine ht_iret (D 22 rfl) rfl rfl ?_
        exact QC_t hbar (by unfold aCell; rw [if_pos ⟨q1, by rw [hs20_1]; decide⟩, hs20_1, if_pos (by decide), if_neg (by decide)]; exact mI2_one (nI_pos' (by omega)) (fun i hi => (nv_man _ _ _ (by omega)).symm) _ (Nat.le_refl _))
      · skip
        by_cases hs20_2 : w = 2
        · skip
          refine ht_tableIn (off := 52) (tgt := 72) (D 10 rfl) (by rw [hs20_2]; decide) (by rw [hs20_2]; decide) (by rw [hs20_2]; rfl) (by decide) ?_
          refine ht_aload_n (D 23 rfl) rfl rfl ?_
          refine gf_X9_24 rfl (D 24 rfl) hX.k0 hX.q1 ?_
          refine ht_iload_n (D 25 rfl) rfl rfl ?_
          refine kVX4_guardsIn (As := [_]) cl_X9_90 (D 26 rfl) (sc_guardsIn hX.nt hW.lq hW.lb hW.ng h2 hW.rr hh h31 _) hX.nt.k0 rfl (Nat.le_of_ble_eq_true rfl) rfl (Nat.le_of_ble_eq_true rfl) (by omega) ?_
          rintro _ _ ⟨rfl, rfl⟩
          refine ht_iret (D 27 rfl) rfl rfl ?_
          exact QC_t hbar (by unfold aCell; rw [if_pos ⟨q1, by rw [hs20_2]; decide⟩, hs20_2, if_neg (by decide), if_pos rfl, gNc_e hW _ _ _ (Nat.le_refl _)])
        · skip
          by_cases hs20_3 : w = 3
          · skip
            refine ht_tableIn (off := 61) (tgt := 81) (D 10 rfl) (by rw [hs20_3]; decide) (by rw [hs20_3]; decide) (by rw [hs20_3]; rfl) (by decide) ?_
            refine ht_aload_n (D 28 rfl) rfl rfl ?_
            refine gf_X9_24 rfl (D 29 rfl) hX.k0 hX.q1 ?_
            refine gf_X9_75 rfl (D 30 rfl) hX.nt.k0 hW.lq ?_
            refine ht_iload_n (D 31 rfl) rfl rfl ?_
            refine kVX2_farOf (As := [_]) cl_X9_94 (D 32 rfl) (sc_farOf hW.lb (p := nI k) (Or.inr ⟨k, by omega, rfl⟩)) hW.lb.k0 rfl (Nat.le_of_ble_eq_true rfl) rfl (Nat.le_of_ble_eq_true rfl) (by omega) ?_
            rintro _ _ ⟨rfl, rfl⟩
            refine ht_iret (D 33 rfl) rfl rfl ?_
            exact QC_t hbar (by unfold aCell; rw [if_pos ⟨q1, by rw [hs20_3]; decide⟩, hs20_3, if_neg (by decide), if_neg (by decide), fC_e hW (Or.inr ⟨k, hk1, rfl⟩)]; unfold fV; rw [if_neg (nI_ge0 (by omega))])
          · skip
            refine ht_tableOut (tgt := 93) (D 10 rfl) (tb_out (lo := 0) (n := 4) (fun k hk => ?_)) (by decide) ?_
            · (have hk9 : k = 0 ∨ k = 1 ∨ k = 2 ∨ k = 3 := by omega)
              rcases hk9 with rfl | rfl | rfl | rfl <;> assumption
            refine ht_iconst (v := -1) (D 34 rfl) (by decide) ?_
            refine ht_iret (D 35 rfl) rfl rfl ?_
            exact QC_t hbar (by unfold aCell; rw [if_neg (fun q => sw_out q.2.1 q.2.2 (n := 3) (by decide) (fun k hk => by (have hk9 : k = 0 ∨ k = 1 ∨ k = 2 ∨ k = 3 := by omega); rcases hk9 with rfl | rfl | rfl | rfl <;> assumption))])
  · skip
    refine ht_iconst (v := -1) (D 7 rfl) (by decide) ?_
    refine ht_iret (D 8 rfl) rfl rfl ?_
    exact QC_t hbar (by unfold aCell; rw [if_neg (fun q => b01_eq hb14 q.1)])
set_option maxRecDepth 100000 in
theorem sc_beside (hE : NE G) (hC : CW σ Z xo b V cN dN mN gk gw gi) (hbar : Z (xo + 14) 2 = -1)  (x : Int32) : Sp G mX9_beside 1 [.ref xo, .int x] (cv σ Z) (QC σ xo b dN Z (aBeside (nv dN Z (xo + 14)) dN x) (nv dN Z (xo + 14))) := by
  have D := dat dl_X9_beside
  show HT G mX9_beside 0 [some (.ref xo), some (.int x)] [] (cv σ Z) 1 _
  have hX := hC.1
  have hW := hC.2.1
  have h10 := hW.d10
  have h8 := hW.c8
  have h6 := hW.m6
  have h2 := hW.g2
  refine ht_iload_n (D 0 rfl) rfl rfl ?_
  refine ht_aload_n (D 1 rfl) rfl rfl ?_
  refine gf_X9_24 rfl (D 2 rfl) hX.k0 hX.q1 ?_
  refine gf_X9_75 rfl (D 3 rfl) hX.nt.k0 hW.lq ?_
  refine gi_X9_97 rfl (D 4 rfl) hW.lb.k0 ?_
  rw [hW.nd]
  refine kSX9_isBelow (As := [_, _]) cl_X9_79 (D 5 rfl) (sc_isBelow _ _) rfl (Nat.le_of_ble_eq_true rfl) rfl (Nat.le_of_ble_eq_true rfl) (by omega) ?_
  rintro _ _ ⟨rfl, rfl⟩
  refine ht_if_eq (tgt := 32) (D 6 rfl) (by decide) (fun hb14 => ?_) (fun hb14 => ?_)
  · skip
    refine ht_iconst (v := -1) (D 14 rfl) (by decide) ?_
    refine ht_iret (D 15 rfl) rfl rfl ?_
    first
    | exact QC_t hbar (by unfold aBeside; rw [if_neg (b01_eq hb14)])
    | exact QC_t hbar (by unfold aBeside; rw [if_pos q1, nI_clamp (by omega), nv_bes _ _ _ (show k < 10 by omega), if_pos hk1]; grind)
  · skip
    have q1 := b01_ne hb14
    obtain ⟨k, hk1, rfl⟩ := rng (by omega) q1
    refine ht_aload_n (D 7 rfl) rfl rfl ?_
    refine gf_X9_24 rfl (D 8 rfl) hX.k0 hX.q1 ?_
    refine gf_X9_100 rfl (D 9 rfl) hX.nt.k0 hX.nt.q4 ?_
    refine ht_iload_n (D 10 rfl) rfl rfl ?_
    refine ht_ald (n := k) (Or.inl rfl) (D 11 rfl) hX.nt.k4 hX.nt.n4 rfl (by omega) (by decide) (hX.nt.lq (j := k) (by omega)) ?_
    refine gi_X9_210 rfl (D 12 rfl) (hX.nt.lk (j := k) (by omega)) ?_
    refine ht_goto (tgt := 33) (D 13 rfl) (by decide) ?_
    refine ht_iret (D 15 rfl) rfl rfl ?_
    first
    | exact QC_t hbar (by unfold aBeside; rw [if_neg (b01_eq hb14)])
    | exact QC_t hbar (by unfold aBeside; rw [if_pos q1, nI_clamp (by omega), nv_bes _ _ _ (show k < 10 by omega), if_pos hk1]; grind)
theorem nv_wat1 (dN : Nat) (Z : VT) (a : Nat) {k : Nat} (hk : k < 10) (v : Int32) : nv dN (up2 Z (a + 6 + k) 1 (Z (a + 6 + k) 1 + v)) a = va_up (va_up (nv dN Z a) (10 + k) (nv dN Z a (10 + k) + v)) (40 + k) (nv dN Z a (40 + k) + v) := by
  have kq : ∀ q, q ≠ a + 6 + k → up2 Z (a + 6 + k) 1 (Z (a + 6 + k) 1 + v) q = Z q := fun q hq => up2_o _ _ hq
  refine nv_ext (fun i hi => ?_) (fun i hi => ?_) (fun i hi => ?_) ?_ (fun i hi => ?_)
  · by_cases c : i = k
    · subst c
      rw [va_ne _ _ (show i ≠ 40 + i by omega), va_ne _ _ (show i ≠ 10 + i by omega), va_ne _ _ (show 10 + i ≠ 40 + i by omega), va_sm, va_ne _ _ (show 20 + i ≠ 40 + i by omega), va_ne _ _ (show 20 + i ≠ 10 + i by omega), va_ne _ _ (show 30 + i ≠ 40 + i by omega), va_ne _ _ (show 30 + i ≠ 10 + i by omega), va_sm, va_ne _ _ (show 50 + i ≠ 40 + i by omega), va_ne _ _ (show 50 + i ≠ 10 + i by omega)]
      rw [nv_ice _ _ _ hi, nv_wat _ _ _ hi, nv_slt _ _ _ hi, nv_bar _ _ _ hi, nv_bwa _ _ _ hi, nv_bes _ _ _ hi, nv_ice _ _ _ hi, nv_wat _ _ _ hi, nv_slt _ _ _ hi, nv_bar _ _ _ hi, nv_bwa _ _ _ hi, nv_bes _ _ _ hi, up2_s, up2_at _ _ (show 0 ≠ 1 by decide), up2_at _ _ (show 2 ≠ 1 by decide), up2_at _ _ (show 3 ≠ 1 by decide), up2_at _ _ (show 4 ≠ 1 by decide)]
      exact ⟨rfl, rfl, rfl, rfl, by grind, rfl⟩
    · rw [va_ne _ _ (show i ≠ 40 + k by omega), va_ne _ _ (show i ≠ 10 + k by omega), va_ne _ _ (show 10 + i ≠ 40 + k by omega), va_ne _ _ (show 10 + i ≠ 10 + k by omega), va_ne _ _ (show 20 + i ≠ 40 + k by omega), va_ne _ _ (show 20 + i ≠ 10 + k by omega), va_ne _ _ (show 30 + i ≠ 40 + k by omega), va_ne _ _ (show 30 + i ≠ 10 + k by omega), va_ne _ _ (show 40 + i ≠ 40 + k by omega), va_ne _ _ (show 40 + i ≠ 10 + k by omega), va_ne _ _ (show 50 + i ≠ 40 + k by omega), va_ne _ _ (show 50 + i ≠ 10 + k by omega)]
      rw [nv_ice _ _ _ hi, nv_wat _ _ _ hi, nv_slt _ _ _ hi, nv_bar _ _ _ hi, nv_bwa _ _ _ hi, nv_bes _ _ _ hi, nv_ice _ _ _ hi, nv_wat _ _ _ hi, nv_slt _ _ _ hi, nv_bar _ _ _ hi, nv_bwa _ _ _ hi, nv_bes _ _ _ hi, kq (a + 6 + i) (by omega)]
      exact ⟨rfl, rfl, rfl, rfl, rfl, rfl⟩
  · rw [va_ne _ _ (by omega), va_ne _ _ (by omega), nv_stv _ _ _ hi, nv_stv _ _ _ hi, kq _ (by omega)]
  · rw [va_ne _ _ (by omega), va_ne _ _ (by omega), va_ne _ _ (by omega), va_ne _ _ (by omega), nv_man _ _ _ hi, nv_man _ _ _ hi, nv_bag _ _ _ hi, nv_bag _ _ _ hi, kq (a + 2) (by omega), kq (a + 3) (by omega)]
    exact ⟨rfl, rfl⟩
  · rw [va_ne _ _ (by omega), va_ne _ _ (by omega), nv_hour, nv_hour, kq _ (by omega)]
  · rw [va_ne _ _ (by omega), va_ne _ _ (by omega), nv_hi _ _ _ hi, nv_hi _ _ _ hi]
theorem tkW_e (dN : Nat) (Z : VT) (a : Nat) {k : Nat} (hk : k < 10) (w : Int32) : tkW Z (a + 6 + k) w = pr (nv dN Z a) k w := by
  unfold tkW pr
  rw [nv_ice _ _ _ hk, nv_wat _ _ _ hk]
  congr 1
  grind
theorem nv_pour (dN : Nat) (Z : VT) (a : Nat) {k : Nat} (hk : k < 10) (w : Int32) : nv dN (up2 Z (a + 6 + k) 1 (Z (a + 6 + k) 1 + tkW Z (a + 6 + k) w)) a = prS (nv dN Z a) k w := by
  rw [nv_wat1 _ _ _ hk, tkW_e dN Z a hk w]
  rfl
set_option maxRecDepth 100000 in
theorem sc_pour (hE : NE G) (hC : CW σ Z xo b V cN dN mN gk gw gi) (hbar : Z (xo + 14) 2 = -1)  (x w : Int32) : Sp G mX9_pour 2 [.ref xo, .int x, .int w] (cv σ Z) (QC σ xo b dN Z ((aPour (nv dN Z (xo + 14)) dN x w).1) ((aPour (nv dN Z (xo + 14)) dN x w).2)) := by
  have D := dat dl_X9_pour
  show HT G mX9_pour 0 [some (.ref xo), some (.int x), some (.int w)] [] (cv σ Z) 2 _
  have hX := hC.1
  have hW := hC.2.1
  have h10 := hW.d10
  have h8 := hW.c8
  have h6 := hW.m6
  have h2 := hW.g2
  refine ht_iload_n (D 0 rfl) rfl rfl ?_
  refine ht_aload_n (D 1 rfl) rfl rfl ?_
  refine gf_X9_24 rfl (D 2 rfl) hX.k0 hX.q1 ?_
  refine gf_X9_75 rfl (D 3 rfl) hX.nt.k0 hW.lq ?_
  refine gi_X9_97 rfl (D 4 rfl) hW.lb.k0 ?_
  rw [hW.nd]
  refine kSX9_isBelow (As := [_, _]) cl_X9_79 (D 5 rfl) (sc_isBelow _ _) rfl (Nat.le_of_ble_eq_true rfl) rfl (Nat.le_of_ble_eq_true rfl) (by omega) ?_
  rintro _ _ ⟨rfl, rfl⟩
  refine ht_if_eq (tgt := 27) (D 6 rfl) (by decide) (fun hb14 => ?_) (fun hb14 => ?_)
  · skip
    refine ht_iconst (v := -1) (D 12 rfl) (by decide) ?_
    refine ht_iret (D 13 rfl) rfl rfl ?_
    first
    | exact QC_k (by unfold aPour; rw [if_neg (fun q => b01_eq hb14 q.1)]) (Fr.rf _ _) (by unfold aPour; rw [if_neg (fun q => b01_eq hb14 q.1)]) hbar
    | (have q9 : ¬ (0 ≤ w ∧ w ≤ 99) := b01_eq hb24
       exact QC_k (by unfold aPour; rw [if_neg (fun q => q9 q.2)]) (Fr.rf _ _) (by unfold aPour; rw [if_neg (fun q => q9 q.2)]) hbar)
  · skip
    have q1 := b01_ne hb14
    obtain ⟨k, hk1, rfl⟩ := rng (by omega) q1
    refine ht_iload_n (D 7 rfl) rfl rfl ?_
    refine ht_iconst (v := 0) (D 8 rfl) (by decide) ?_
    refine ht_bipush (v := 99) (D 9 rfl) (by decide) ?_
    refine kSX9_isWithin (As := [_, _, _]) cl_X9_142 (D 10 rfl) (sc_isWithin _ _ _) rfl (Nat.le_of_ble_eq_true rfl) rfl (Nat.le_of_ble_eq_true rfl) (by omega) ?_
    rintro _ _ ⟨rfl, rfl⟩
    refine ht_if_ne (tgt := 29) (D 11 rfl) (by decide) (fun hb24 => ?_) (fun hb24 => ?_)
    · skip
      have q2 := b01_ne hb24
      refine ht_aload_n (D 14 rfl) rfl rfl ?_
      refine gf_X9_24 rfl (D 15 rfl) hX.k0 hX.q1 ?_
      refine gf_X9_100 rfl (D 16 rfl) hX.nt.k0 hX.nt.q4 ?_
      refine ht_iload_n (D 17 rfl) rfl rfl ?_
      refine ht_ald (n := k) (Or.inl rfl) (D 18 rfl) hX.nt.k4 hX.nt.n4 rfl (by omega) (by decide) (hX.nt.lq (j := k) (by omega)) ?_
      refine ht_iload_n (D 19 rfl) rfl rfl ?_
      refine kVX3_takeWater (As := [_]) cl_X9_151 (D 20 rfl) (sc_takeWater (hX.nt.lk (j := k) (by omega)) w) (hX.nt.lk (j := k) (by omega)) rfl (Nat.le_of_ble_eq_true rfl) rfl (Nat.le_of_ble_eq_true rfl) (by omega) ?_
      rintro _ _ ⟨rfl, rfl⟩
      refine ht_iret (D 21 rfl) rfl rfl ?_
      have q9 : (0 ≤ nI k ∧ nI k < nI dN) ∧ (0 ≤ w ∧ w ≤ 99) := ⟨q1, q2⟩
      refine QC_n (by unfold aPour; rw [if_pos q9, nI_clamp (by omega)]; exact tkW_e dN Z (xo + 14) (by omega) w) ((Fr.rf _ _).up _ (Or.inl ⟨by omega, by omega⟩)) ?_ ?_
      · unfold aPour
        rw [if_pos q9, nI_clamp (by omega)]
        exact nv_pour dN Z (xo + 14) (by omega) w
      · rw [up2_o _ _ (by omega)]; exact hbar
    · skip
      refine ht_iconst (v := -1) (D 12 rfl) (by decide) ?_
      refine ht_iret (D 13 rfl) rfl rfl ?_
      first
      | exact QC_k (by unfold aPour; rw [if_neg (fun q => b01_eq hb14 q.1)]) (Fr.rf _ _) (by unfold aPour; rw [if_neg (fun q => b01_eq hb14 q.1)]) hbar
      | (have q9 : ¬ (0 ≤ w ∧ w ≤ 99) := b01_eq hb24
         exact QC_k (by unfold aPour; rw [if_neg (fun q => q9 q.2)]) (Fr.rf _ _) (by unfold aPour; rw [if_neg (fun q => q9 q.2)]) hbar)
end C8
