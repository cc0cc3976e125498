/-! ===== the reference: ways, mark ===== -/
def Do (r : Nat) (V V' : VT) : Prop := ∀ o, o ≠ r → V' o = V o
theorem Do.rf (r : Nat) (V : VT) : Do r V V := fun _ _ => rfl
theorem Do.tr {r : Nat} {V V1 V2 : VT} (h1 : Do r V V1) (h2 : Do r V1 V2) : Do r V V2 := fun o h => (h2 o h).trans (h1 o h)
theorem Do.up {r : Nat} {V V1 : VT} (h : Do r V V1) (p : Nat) (x : Int32) : Do r V (up2 V1 r p x) := fun o h1 => (up2_o V1 x h1).trans (h o h1)
theorem up2_row (V : VT) (r p : Nat) (x : Int32) : up2 V r p x r = va_up (V r) p x := by
  funext i
  unfold up2 va_up
  by_cases e : i = p
  · rw [if_pos ⟨rfl, e⟩, if_pos e]
  · rw [if_neg (fun q => e q.2), if_neg e]
theorem va_up_id {α : Type} (f : Nat → α) (p : Nat) : va_up f p (f p) = f := by
  funext i
  unfold va_up
  by_cases e : i = p
  · rw [if_pos e, e]
  · rw [if_neg e]
def wye (n a b : Nat) (F : ST) : ST := if F a = 0 ∧ F b = nI (n - 1) ∧ 1 < n then va_up F a (nI n) else F
def wyd (V : VT) (n : Nat) (F : ST) (j : Nat) : ST := if V 11 j < 0 then (if n = 1 then va_up F (V 10 j).toNatClampNeg 1 else F) else wye n (V 11 j).toNatClampNeg (V 10 j).toNatClampNeg (wye n (V 10 j).toNatClampNeg (V 11 j).toNatClampNeg F)
def wyD (V : VT) (n : Nat) (F : ST) : Nat → ST
  | 0 => F
  | k + 1 => wyd V n (wyD V n F k) k
def wyN (V : VT) (dN : Nat) (F : ST) : Nat → ST
  | 0 => fun i => if i < 8 then 0 else F i
  | k + 1 => wyD V (k + 1) (wyN V dN F k) dN
section M14
variable {G : GG} {σ : Hp} {m : Nat} {V : VT} {U : UT}
theorem sm_wayh1 (hM : MS σ m) {n j a b : Nat} (hn1 : 1 ≤ n) (hn : n < 9) (hj : j < 10) (ha : a < 8) (hb : b < 8) {V2 : VT} (hd2 : Do 36 V V2) {Q : Option Value → Hp → Prop} (kq : ∀ V3 : VT, Do 36 V V3 → V3 36 = wye n a b (V2 36) → HT G mX10_ways 119 [some (.ref m), some (.int (nI n)), some (.int (nI j)), some (.int (nI a)), some (.int (nI b))] [] (sv σ m V3 U) 1 Q) : HT G mX10_ways 85 [some (.ref m), some (.int (nI n)), some (.int (nI j)), some (.int (nI a)), some (.int (nI b))] [] (sv σ m V2 U) 1 Q := by
  have D := dat dl_X10_ways
  refine ht_aload_n (D 51 rfl) rfl rfl ?_
  refine gf_X10_117 rfl (D 52 rfl) hM.k0 hM.q36 ?_
  refine ht_iload_n (D 53 rfl) rfl rfl ?_
  refine hm_ild (o := 36) (n := a) (by decide) (D 54 rfl) hM.k36 hM.n36 (by first | rfl | exact nI_add _ _ | assumption) (by omega) (by decide) ?_
  refine ht_if_ne (tgt := 119) (D 55 rfl) (by decide) (fun hb91 => ?_) (fun hb91 => ?_)
  · skip
    have hno : ¬ (V2 36 a = 0 ∧ V2 36 b = nI (n - 1) ∧ 1 < n) := fun q => hb91 q.1
    first | exact kq V2 hd2 (by unfold wye; rw [if_neg hno]) | exact kq _ (hd2.up _ _) (by rw [up2_row]; unfold wye; rw [if_pos hye])
  · skip
    refine ht_aload_n (D 56 rfl) rfl rfl ?_
    refine gf_X10_117 rfl (D 57 rfl) hM.k0 hM.q36 ?_
    refine ht_iload (D 58 rfl) rfl ?_
    refine hm_ild (o := 36) (n := b) (by decide) (D 59 rfl) hM.k36 hM.n36 (by first | rfl | exact nI_add _ _ | assumption) (by omega) (by decide) ?_
    refine ht_iload_n (D 60 rfl) rfl rfl ?_
    refine ht_iconst (v := 1) (D 61 rfl) (by decide) ?_
    refine ht_isub (D 62 rfl) ?_
    rw [show nI n - 1 = nI (n - 1) from pk_sub (a := n) (b := 1) hn1]
    refine ht_icmp_ne (tgt := 119) (D 63 rfl) (by decide) (fun hb104 => ?_) (fun hb104 => ?_)
    · skip
      have hno : ¬ (V2 36 a = 0 ∧ V2 36 b = nI (n - 1) ∧ 1 < n) := fun q => hb104 q.2.1
      first | exact kq V2 hd2 (by unfold wye; rw [if_neg hno]) | exact kq _ (hd2.up _ _) (by rw [up2_row]; unfold wye; rw [if_pos hye])
    · skip
      refine ht_iload_n (D 64 rfl) rfl rfl ?_
      refine ht_iconst (v := 1) (D 65 rfl) (by decide) ?_
      refine ht_icmp_le (tgt := 119) (D 66 rfl) (by decide) (fun hb109 => ?_) (fun hb109 => ?_)
      · skip
        have hno : ¬ (V2 36 a = 0 ∧ V2 36 b = nI (n - 1) ∧ 1 < n) := fun q => absurd ((nI_leI (a := n) (b := 1) (by omega) (by omega)).mp hb109) (by omega)
        first | exact kq V2 hd2 (by unfold wye; rw [if_neg hno]) | exact kq _ (hd2.up _ _) (by rw [up2_row]; unfold wye; rw [if_pos hye])
      · skip
        have hye : V2 36 a = 0 ∧ V2 36 b = nI (n - 1) ∧ 1 < n := ⟨hb91, hb104, by have h9 := mt (nI_leI (a := n) (b := 1) (by omega) (by omega)).mpr hb109; omega⟩
        refine ht_aload_n (D 67 rfl) rfl rfl ?_
        refine gf_X10_117 rfl (D 68 rfl) hM.k0 hM.q36 ?_
        refine ht_iload_n (D 69 rfl) rfl rfl ?_
        refine ht_iload_n (D 70 rfl) rfl rfl ?_
        refine hm_ist (o := 36) (n := a) (by decide) (D 71 rfl) hM.k36 hM.n36 (by first | rfl | exact nI_add _ _ | assumption) (by omega) (by decide) ?_
        first | exact kq V2 hd2 (by unfold wye; rw [if_neg hno]) | exact kq _ (hd2.up _ _) (by rw [up2_row]; unfold wye; rw [if_pos hye])
theorem sm_wayh2 (hM : MS σ m) {n j a b : Nat} (hn1 : 1 ≤ n) (hn : n < 9) (hj : j < 10) (ha : a < 8) (hb : b < 8) {V2 : VT} (hd2 : Do 36 V V2) {Q : Option Value → Hp → Prop} (kq : ∀ V3 : VT, Do 36 V V3 → V3 36 = wye n b a (V2 36) → HT G mX10_ways 154 [some (.ref m), some (.int (nI n)), some (.int (nI j)), some (.int (nI a)), some (.int (nI b))] [] (sv σ m V3 U) 1 Q) : HT G mX10_ways 119 [some (.ref m), some (.int (nI n)), some (.int (nI j)), some (.int (nI a)), some (.int (nI b))] [] (sv σ m V2 U) 1 Q := by
  have D := dat dl_X10_ways
  refine ht_aload_n (D 72 rfl) rfl rfl ?_
  refine gf_X10_117 rfl (D 73 rfl) hM.k0 hM.q36 ?_
  refine ht_iload (D 74 rfl) rfl ?_
  refine hm_ild (o := 36) (n := b) (by decide) (D 75 rfl) hM.k36 hM.n36 (by first | rfl | exact nI_add _ _ | assumption) (by omega) (by decide) ?_
  refine ht_if_ne (tgt := 154) (D 76 rfl) (by decide) (fun hb126 => ?_) (fun hb126 => ?_)
  · skip
    have hno : ¬ (V2 36 b = 0 ∧ V2 36 a = nI (n - 1) ∧ 1 < n) := fun q => hb126 q.1
    first | exact kq V2 hd2 (by unfold wye; rw [if_neg hno]) | exact kq _ (hd2.up _ _) (by rw [up2_row]; unfold wye; rw [if_pos hye])
  · skip
    refine ht_aload_n (D 77 rfl) rfl rfl ?_
    refine gf_X10_117 rfl (D 78 rfl) hM.k0 hM.q36 ?_
    refine ht_iload_n (D 79 rfl) rfl rfl ?_
    refine hm_ild (o := 36) (n := a) (by decide) (D 80 rfl) hM.k36 hM.n36 (by first | rfl | exact nI_add _ _ | assumption) (by omega) (by decide) ?_
    refine ht_iload_n (D 81 rfl) rfl rfl ?_
    refine ht_iconst (v := 1) (D 82 rfl) (by decide) ?_
    refine ht_isub (D 83 rfl) ?_
    rw [show nI n - 1 = nI (n - 1) from pk_sub (a := n) (b := 1) hn1]
    refine ht_icmp_ne (tgt := 154) (D 84 rfl) (by decide) (fun hb138 => ?_) (fun hb138 => ?_)
    · skip
      have hno : ¬ (V2 36 b = 0 ∧ V2 36 a = nI (n - 1) ∧ 1 < n) := fun q => hb138 q.2.1
      first | exact kq V2 hd2 (by unfold wye; rw [if_neg hno]) | exact kq _ (hd2.up _ _) (by rw [up2_row]; unfold wye; rw [if_pos hye])
    · skip
      refine ht_iload_n (D 85 rfl) rfl rfl ?_
      refine ht_iconst (v := 1) (D 86 rfl) (by decide) ?_
      refine ht_icmp_le (tgt := 154) (D 87 rfl) (by decide) (fun hb143 => ?_) (fun hb143 => ?_)
      · skip
        have hno : ¬ (V2 36 b = 0 ∧ V2 36 a = nI (n - 1) ∧ 1 < n) := fun q => absurd ((nI_leI (a := n) (b := 1) (by omega) (by omega)).mp hb143) (by omega)
        first | exact kq V2 hd2 (by unfold wye; rw [if_neg hno]) | exact kq _ (hd2.up _ _) (by rw [up2_row]; unfold wye; rw [if_pos hye])
      · skip
        have hye : V2 36 b = 0 ∧ V2 36 a = nI (n - 1) ∧ 1 < n := ⟨hb126, hb138, by have h9 := mt (nI_leI (a := n) (b := 1) (by omega) (by omega)).mpr hb143; omega⟩
        refine ht_aload_n (D 88 rfl) rfl rfl ?_
        refine gf_X10_117 rfl (D 89 rfl) hM.k0 hM.q36 ?_
        refine ht_iload (D 90 rfl) rfl ?_
        refine ht_iload_n (D 91 rfl) rfl rfl ?_
        refine hm_ist (o := 36) (n := b) (by decide) (D 92 rfl) hM.k36 hM.n36 (by first | rfl | exact nI_add _ _ | assumption) (by omega) (by decide) ?_
        first | exact kq V2 hd2 (by unfold wye; rw [if_neg hno]) | exact kq _ (hd2.up _ _) (by rw [up2_row]; unfold wye; rw [if_pos hye])
set_option maxRecDepth 100000 in
theorem sm_way1 (hM : MS σ m) {cN dN mN gk : Nat} (hP : PL V cN dN mN gk) {n j : Nat} (hn1 : 1 ≤ n) (hn : n < 9) (hjd : j < dN) {V1 : VT} (hd1 : Do 36 V V1) {l3 l4 : Option Value} {Q : Option Value → Hp → Prop} (kq : ∀ (V2 : VT) (l3 l4 : Option Value), Do 36 V V2 → V2 36 = wyd V n (V1 36) j → HT G mX10_ways 31 [some (.ref m), some (.int (nI n)), some (.int (nI (j + 1))), l3, l4] [] (sv σ m V2 U) 1 Q) : HT G mX10_ways 31 [some (.ref m), some (.int (nI n)), some (.int (nI j)), l3, l4] [] (sv σ m V1 U) 1 Q := by
  have D := dat dl_X10_ways
  have hd10 : dN ≤ 10 := hP.2.1.2
  have hc8 : cN ≤ 8 := hP.1.2
  obtain ⟨a, ha1, hja⟩ := hP.2.2.2.2.2.1 j hjd
  have hac : (V 10 j).toNatClampNeg = a := by rw [hja, nI_clamp (by omega)]
  have nx : ∀ (V2 : VT) (l3 l4 : Option Value), Do 36 V V2 → V2 36 = wyd V n (V1 36) j → HT G mX10_ways 154 [some (.ref m), some (.int (nI n)), some (.int (nI j)), l3, l4] [] (sv σ m V2 U) 1 Q := by
    intro V2 l3 l4 h2 h3
    refine ht_iinc (v := nI (j + 1)) (D 93 rfl) rfl (nI_i1 _) (by decide) rfl ?_
    refine ht_goto (tgt := 31) (D 94 rfl) (by decide) ?_
    exact kq V2 _ _ h2 h3
  refine ht_iload_n (D 19 rfl) rfl rfl ?_
  refine ht_aload_n (D 20 rfl) rfl rfl ?_
  refine gf_X10_16 rfl (D 21 rfl) hM.k0 hM.q3 ?_
  refine ht_iconst (v := 0) (D 22 rfl) (by decide) ?_
  refine hm_ild (o := 3) (n := 0) (by decide) (D 23 rfl) hM.k3 hM.n3 (by first | rfl | exact nI_add _ _ | assumption) (by omega) (by decide) ?_
  refine ht_icmp_ge (tgt := 160) (D 24 rfl) (by decide) (fun hb38 => ?_) (fun hb38 => ?_)
  · skip
    exact absurd (by rw [hd1 3 (by decide), hP.2.1.1] at hb38; exact (nI_leI (by omega) (by omega)).mp hb38) (by omega)
  · skip
    refine ht_aload_n (D 25 rfl) rfl rfl ?_
    refine gf_X10_38 rfl (D 26 rfl) hM.k0 hM.q10 ?_
    refine ht_iload_n (D 27 rfl) rfl rfl ?_
    refine hm_ild (o := 10) (n := j) (by decide) (D 28 rfl) hM.k10 hM.n10 (by first | rfl | exact nI_add _ _ | assumption) (by omega) (by decide) ?_
    rw [hd1 10 (by decide), hja]
    refine ht_istore_n (D 29 rfl) rfl (by decide) rfl ?_
    refine ht_aload_n (D 30 rfl) rfl rfl ?_
    refine gf_X10_41 rfl (D 31 rfl) hM.k0 hM.q11 ?_
    refine ht_iload_n (D 32 rfl) rfl rfl ?_
    refine hm_ild (o := 11) (n := j) (by decide) (D 33 rfl) hM.k11 hM.n11 (by first | rfl | exact nI_add _ _ | assumption) (by omega) (by decide) ?_
    rw [hd1 11 (by decide)]
    refine ht_istore (D 34 rfl) (by decide) rfl ?_
    refine ht_iload (D 35 rfl) rfl ?_
    refine ht_if_ge (tgt := 85) (D 36 rfl) (by decide) (fun hb58 => ?_) (fun hb58 => ?_)
    · skip
      obtain ⟨b, hb1, hb2⟩ : ∃ b, b < cN ∧ V 11 j = nI b := by
        rcases hP.2.2.2.2.2.2 j hjd with h9 | h9
        · rw [h9] at hb58
          exact absurd hb58 (by decide)
        · exact h9
      rw [hb2]
      have hbc : (V 11 j).toNatClampNeg = b := by rw [hb2, nI_clamp (by omega)]
      have hn11 : ¬ V 11 j < 0 := by simp only [i_lt, i_le] at hb58 ⊢; omega
      refine sm_wayh1 hM hn1 hn (by omega) (by omega) (by omega) hd1 (fun V3 h3 h4 => ?_)
      refine sm_wayh2 hM hn1 hn (by omega) (by omega) (by omega) h3 (fun V4 h5 h6 => ?_)
      refine nx V4 _ _ h5 ?_
      rw [h6, h4]
      unfold wyd
      rw [if_neg hn11, hac, hbc]
    · skip
      have hn11 : V 11 j < 0 := by simp only [i_lt, i_le] at hb58 ⊢; omega
      refine ht_aload_n (D 37 rfl) rfl rfl ?_
      refine gf_X10_117 rfl (D 38 rfl) hM.k0 hM.q36 ?_
      refine ht_iload_n (D 39 rfl) rfl rfl ?_
      refine ht_iload_n (D 40 rfl) rfl rfl ?_
      refine ht_iconst (v := 1) (D 41 rfl) (by decide) ?_
      refine ht_icmp_ne (tgt := 75) (D 42 rfl) (by decide) (fun hb68 => ?_) (fun hb68 => ?_)
      · skip
        have hne : ¬ n = 1 := fun q => hb68 (by rw [q]; rfl)
        refine ht_aload_n (D 45 rfl) rfl rfl ?_
        refine gf_X10_117 rfl (D 46 rfl) hM.k0 hM.q36 ?_
        refine ht_iload_n (D 47 rfl) rfl rfl ?_
        refine hm_ild (o := 36) (n := _) (by decide) (D 48 rfl) hM.k36 hM.n36 (by first | rfl | exact nI_add _ _ | assumption) (by omega) (by decide) ?_
        refine hm_ist (o := 36) (n := _) (by decide) (D 49 rfl) hM.k36 hM.n36 (by first | rfl | exact nI_add _ _ | assumption) (by omega) (by decide) ?_
        refine ht_goto (tgt := 154) (D 50 rfl) (by decide) ?_
        first | exact nx _ _ _ (hd1.up _ _) (by rw [up2_row]; unfold wyd; rw [if_pos hn11, if_pos hne, hac]) | exact nx _ _ _ (hd1.up _ _) (by rw [up2_row, va_up_id]; unfold wyd; rw [if_pos hn11, if_neg hne])
      · skip
        have hne : n = 1 := (nI_eq (a := n) (b := 1) (by omega) (by omega)).mp hb68
        refine ht_iconst (v := 1) (D 43 rfl) (by decide) ?_
        refine ht_goto (tgt := 81) (D 44 rfl) (by decide) ?_
        refine hm_ist (o := 36) (n := _) (by decide) (D 49 rfl) hM.k36 hM.n36 (by first | rfl | exact nI_add _ _ | assumption) (by omega) (by decide) ?_
        refine ht_goto (tgt := 154) (D 50 rfl) (by decide) ?_
        first | exact nx _ _ _ (hd1.up _ _) (by rw [up2_row]; unfold wyd; rw [if_pos hn11, if_pos hne, hac]) | exact nx _ _ _ (hd1.up _ _) (by rw [up2_row, va_up_id]; unfold wyd; rw [if_pos hn11, if_neg hne])
set_option maxRecDepth 100000 in
set_option maxHeartbeats 2000000 in
theorem sm_ways (hM : MS σ m) {cN dN mN gk : Nat} (hP : PL V cN dN mN gk) : Sp G mX10_ways 1 [.ref m] (sv σ m V U) (fun rv σ' => rv = none ∧ ∃ V' : VT, σ' = sv σ m V' U ∧ Do 36 V V' ∧ V' 36 = wyN V dN (V 36) 8) := by
  have D := dat dl_X10_ways
  have hd10 : dN ≤ 10 := hP.2.1.2
  have loop2 : ∀ (r k : Nat) (V1 : VT) (l2 l3 l4 : Option Value), k + r = 8 → Do 36 V V1 → V1 36 = wyN V dN (V 36) k → HT G mX10_ways 23 [some (.ref m), some (.int (nI (k + 1))), l2, l3, l4] [] (sv σ m V1 U) 1 (fun rv σ' => rv = none ∧ ∃ V' : VT, σ' = sv σ m V' U ∧ Do 36 V V' ∧ V' 36 = wyN V dN (V 36) 8) := by
    intro r
    induction r using Nat.strongRecOn with
    | _ r ih2 =>
      intro k V1 l2 l3 l4 ht hd1 h36
      refine ht_iload_n (D 14 rfl) rfl rfl ?_
      refine ht_bipush (v := 9) (D 15 rfl) (by decide) ?_
      refine ht_icmp_ge (tgt := 166) (D 16 rfl) (by decide) (fun hb26 => ?_) (fun hb26 => ?_)
      · skip
        have hr0 : r = 0 := by have h9 := (nI_leI (a := 9) (b := k + 1) (by omega) (by omega)).mp hb26; omega
        subst hr0
        have hk8 : k = 8 := by omega
        subst hk8
        refine ht_vret (D 97 rfl) rfl ?_
        exact ⟨rfl, V1, rfl, hd1, h36⟩
      · skip
        obtain ⟨r2, rfl⟩ : ∃ r2, r = r2 + 1 := ⟨r - 1, by have h9 := mt (nI_leI (a := 9) (b := k + 1) (by omega) (by omega)).mpr hb26; omega⟩
        refine ht_iconst (v := 0) (D 17 rfl) (by decide) ?_
        refine ht_istore_n (D 18 rfl) rfl (by decide) rfl ?_
        have inner : ∀ (q j : Nat) (V1 : VT) (l3 l4 : Option Value), j ≤ dN → dN - j = q → Do 36 V V1 → V1 36 = wyD V (k + 1) (wyN V dN (V 36) k) j → HT G mX10_ways 31 [some (.ref m), some (.int (nI (k + 1))), some (.int (nI j)), l3, l4] [] (sv σ m V1 U) 1 (fun rv σ' => rv = none ∧ ∃ V' : VT, σ' = sv σ m V' U ∧ Do 36 V V' ∧ V' 36 = wyN V dN (V 36) 8) := by
          intro q
          induction q using Nat.strongRecOn with
          | _ q ih =>
            intro j V1 l3 l4 hj hq hd1 h36
            by_cases hjd : j < dN
            · refine sm_way1 hM hP (by omega) (by omega) hjd hd1 (fun V2 l3 l4 h2 h3 => ?_)
              exact ih (dN - (j + 1)) (by omega) (j + 1) V2 _ _ (by omega) rfl h2 (by rw [h3, h36]; rfl)
            · have hje : dN = j := by omega
              subst hje
              refine ht_iload_n (D 19 rfl) rfl rfl ?_
              refine ht_aload_n (D 20 rfl) rfl rfl ?_
              refine gf_X10_16 rfl (D 21 rfl) hM.k0 hM.q3 ?_
              refine ht_iconst (v := 0) (D 22 rfl) (by decide) ?_
              refine hm_ild (o := 3) (n := 0) (by decide) (D 23 rfl) hM.k3 hM.n3 (by first | rfl | exact nI_add _ _ | assumption) (by omega) (by decide) ?_
              refine ht_icmp_ge (tgt := 160) (D 24 rfl) (by decide) (fun hb38 => ?_) (fun hb38 => ?_)
              · skip
                refine ht_iinc (v := nI ((k + 1) + 1)) (D 95 rfl) rfl (nI_i1 _) (by decide) rfl ?_
                refine ht_goto (tgt := 23) (D 96 rfl) (by decide) ?_
                exact ih2 r2 (by omega) (k + 1) V1 _ _ _ (by omega) hd1 h36
              · skip
                exact absurd (by rw [hd1 3 (by decide), hP.2.1.1]; exact nI_le (by omega) (by omega)) hb38
        exact ht_cast (inner dN 0 V1 _ _ (by omega) (by omega) hd1 h36) rfl rfl rfl
  have loop1 : ∀ (r j : Nat) (V1 : VT), j ≤ 8 → 8 - j = r → Do 36 V V1 → (V1 36 = fun i => if i < j then 0 else V 36 i) → HT G mX10_ways 2 [some (.ref m), some (.int (nI j)), none, none, none] [] (sv σ m V1 U) 1 (fun rv σ' => rv = none ∧ ∃ V' : VT, σ' = sv σ m V' U ∧ Do 36 V V' ∧ V' 36 = wyN V dN (V 36) 8) := by
    intro r
    induction r using Nat.strongRecOn with
    | _ r ih =>
      intro j V1 hj hr hd1 h36
      refine ht_iload_n (D 2 rfl) rfl rfl ?_
      refine ht_bipush (v := 8) (D 3 rfl) (by decide) ?_
      refine ht_icmp_ge (tgt := 21) (D 4 rfl) (by decide) (fun hb5 => ?_) (fun hb5 => ?_)
      · skip
        have hjk : 8 = j := by have h9 := (nI_leI (a := 8) (b := j) (by omega) (by omega)).mp hb5; omega
        subst hjk
        refine ht_iconst (v := 1) (D 12 rfl) (by decide) ?_
        refine ht_istore_n (D 13 rfl) rfl (by decide) rfl ?_
        exact ht_cast (loop2 8 0 V1 none none none (by omega) hd1 h36) rfl rfl rfl
      · skip
        have hjk : j < 8 := by have h9 := mt (nI_leI (a := 8) (b := j) (by omega) (by omega)).mpr hb5; omega
        refine ht_aload_n (D 5 rfl) rfl rfl ?_
        refine gf_X10_117 rfl (D 6 rfl) hM.k0 hM.q36 ?_
        refine ht_iload_n (D 7 rfl) rfl rfl ?_
        refine ht_iconst (v := 0) (D 8 rfl) (by decide) ?_
        refine hm_ist (o := 36) (n := j) (by decide) (D 9 rfl) hM.k36 hM.n36 (by first | rfl | exact nI_add _ _ | assumption) (by omega) (by decide) ?_
        refine ht_iinc (v := nI (j + 1)) (D 10 rfl) rfl (nI_i1 _) (by decide) rfl ?_
        refine ht_goto (tgt := 2) (D 11 rfl) (by decide) ?_
        refine ih (8 - (j + 1)) (by omega) (j + 1) _ (by omega) rfl (hd1.up _ _) ?_
        rw [up2_row, h36]
        funext i
        show (if i = j then (0 : Int32) else if i < j then 0 else V 36 i) = if i < j + 1 then 0 else V 36 i
        by_cases e1 : i = j
        · rw [if_pos e1, if_pos (by omega)]
        · rw [if_neg e1]
          by_cases e2 : i < j
          · rw [if_pos e2, if_pos (by omega)]
          · rw [if_neg e2, if_neg (by omega)]
  show HT G mX10_ways 0 [some (.ref m), none, none, none, none] [] (sv σ m V U) 1 _
  refine ht_iconst (v := 0) (D 0 rfl) (by decide) ?_
  refine ht_istore_n (D 1 rfl) rfl (by decide) rfl ?_
  exact ht_cast (loop1 8 0 V (by omega) (by omega) (Do.rf 36 V) (by funext i; rw [if_neg (by omega)])) rfl rfl rfl
def mkI (V : VT) (x : Nat) : VT := up2 (tz V) 41 x 1
def mkB (V : VT) (x : Nat) : VT := cpR (lyF (mkI V x) (2 + x) 0) 35 (96 * x) 33 0 96
def mkL (V : VT) (x : Nat) : VT := cpR (lyF (mkI V x) 0 (2 + x)) 33 0 35 (96 * x) 96
def aMarkOk (V : VT) (x y : Int32) : Prop := (0 ≤ x ∧ x ≤ 3) ∧ ¬ (¬ y = 0 ∧ V 41 x.toNatClampNeg = 0)
set_option maxRecDepth 100000 in
theorem sm_mark (hM : MS σ m) (x y : Int32) {cN dN mN gk : Nat} (hPb : aMarkOk V x y → ¬ y = 0 → PL (mkB V x.toNatClampNeg) cN dN mN gk) : Sp G mX10_mark 2 [.ref m, .int x, .int y] (sv σ m V U) (fun rv σ' => (¬ aMarkOk V x y ∧ QA σ m V 0 (V 33) rv σ') ∨ (aMarkOk V x y ∧ ¬ y = 0 ∧ rv = some (.int 1) ∧ ∃ V' : VT, σ' = sv σ m V' U ∧ Do 36 (mkB V x.toNatClampNeg) V' ∧ V' 36 = wyN (mkB V x.toNatClampNeg) dN (mkB V x.toNatClampNeg 36) 8) ∨ (aMarkOk V x y ∧ y = 0 ∧ rv = some (.int 1) ∧ σ' = sv σ m (mkL V x.toNatClampNeg) U)) := by
  have D := dat dl_X10_mark
  show HT G mX10_mark 0 [some (.ref m), some (.int x), some (.int y)] [] (sv σ m V U) 2 _
  refine ht_aload_n (D 0 rfl) rfl rfl ?_
  refine ht_iconst (v := 0) (D 1 rfl) (by decide) ?_
  refine pm_X10_135 hM rfl (D 2 rfl) ?_
  show HT _ _ _ _ _ (sv σ m (tz V) U) _ _
  refine ht_iload_n (D 3 rfl) rfl rfl ?_
  refine ht_iconst (v := 0) (D 4 rfl) (by decide) ?_
  refine ht_iconst (v := 3) (D 5 rfl) (by decide) ?_
  refine kSX10_within (As := [_, _, _]) cl_X10_263 (D 6 rfl) (sm_within _ _ _) rfl (Nat.le_of_ble_eq_true rfl) rfl (Nat.le_of_ble_eq_true rfl) (by omega) ?_
  rintro rv σ1 ⟨rfl, rfl⟩
  refine ht_if_eq (tgt := 27) (D 7 rfl) (by decide) (fun hb11 => ?_) (fun hb11 => ?_)
  · skip
    have hng : ¬ aMarkOk V x y := fun q => b01_eq hb11 q.1
    refine ht_iconst (v := 0) (D 15 rfl) (by decide) ?_
    refine ht_iret (D 16 rfl) rfl rfl ?_
    exact Or.inl ⟨hng, QA_t rfl⟩
  · skip
    have hq9 := b01_ne hb11
    obtain ⟨n, hn1, hn2, rfl⟩ := rngW (lo := 0) 3 (by decide) hq9 (by decide)
    have hnc : (nI n).toNatClampNeg = n := nI_clamp (by omega)
    rw [hnc] at hPb ⊢
    refine ht_iload_n (D 8 rfl) rfl rfl ?_
    refine ht_if_eq (tgt := 29) (D 9 rfl) (by decide) (fun hb15 => ?_) (fun hb15 => ?_)
    · skip
      have hok : aMarkOk V (nI n) y := ⟨hq9, fun q => q.1 hb15⟩
      refine ht_aload_n (D 17 rfl) rfl rfl ?_
      refine gf_X10_132 rfl (D 18 rfl) hM.k0 hM.q41 ?_
      refine ht_iload_n (D 19 rfl) rfl rfl ?_
      refine ht_iconst (v := 1) (D 20 rfl) (by decide) ?_
      refine hm_zst (o := 41) (n := n) (by decide) (D 21 rfl) hM.k41 hM.n41 (by first | rfl | exact nI_add _ _ | assumption) (by omega) (by decide) rfl ?_
      show HT G mX10_mark 36 [some (.ref m), some (.int (nI n)), some (.int y)] [] (sv σ m (mkI V n) U) 2 _
      refine ht_iload_n (D 22 rfl) rfl rfl ?_
      refine ht_if_eq (tgt := 70) (D 23 rfl) (by decide) (fun hb37 => ?_) (fun hb37 => ?_)
      · skip
        have hy0 : y = 0 := hb37
        refine ht_aload_n (D 43 rfl) rfl rfl ?_
        refine ht_iconst (v := 0) (D 44 rfl) (by decide) ?_
        refine ht_iconst (v := 2) (D 45 rfl) (by decide) ?_
        refine ht_iload_n (D 46 rfl) rfl rfl ?_
        refine ht_iadd (D 47 rfl) ?_
        rw [show (2 : Int32) = nI 2 from rfl, nI_add]
        refine kVX10_lays (As := [_, _]) cl_X10_317 (D 48 rfl) (sm_lays hM (p := 0) (q := 2 + n) (by omega) (by omega) (by omega)) hM.k0 rfl (Nat.le_of_ble_eq_true rfl) rfl (Nat.le_of_ble_eq_true rfl) (by omega) ?_
        rintro rv σ1 ⟨rfl, rfl⟩
        refine ht_aload_n (D 49 rfl) rfl rfl ?_
        refine gf_X10_108 rfl (D 50 rfl) hM.k0 hM.q33 ?_
        refine ht_iconst (v := 0) (D 51 rfl) (by decide) ?_
        refine ht_aload_n (D 52 rfl) rfl rfl ?_
        refine gf_X10_114 rfl (D 53 rfl) hM.k0 hM.q35 ?_
        refine ht_bipush (v := 96) (D 54 rfl) (by decide) ?_
        refine ht_iload_n (D 55 rfl) rfl rfl ?_
        refine ht_imul (D 56 rfl) ?_
        rw [show (96 : Int32) = nI 96 from rfl, pk_mul]
        refine kSX10_copies (As := [_, _, _, _]) cl_X10_396 (D 57 rfl) (sm_copies_33_35 hM (a := 0) (b := 96 * n) (by decide) (by omega)) rfl (Nat.le_of_ble_eq_true rfl) rfl (Nat.le_of_ble_eq_true rfl) (by omega) ?_
        rintro rv σ1 ⟨rfl, rfl⟩
        refine ht_iconst (v := 1) (D 58 rfl) (by decide) ?_
        refine ht_iret (D 59 rfl) rfl rfl ?_
        exact Or.inr (Or.inr ⟨hok, hy0, rfl, rfl⟩)
      · skip
        have hyn : ¬ y = 0 := hb37
        refine ht_aload_n (D 24 rfl) rfl rfl ?_
        refine ht_iconst (v := 2) (D 25 rfl) (by decide) ?_
        refine ht_iload_n (D 26 rfl) rfl rfl ?_
        refine ht_iadd (D 27 rfl) ?_
        refine ht_iconst (v := 0) (D 28 rfl) (by decide) ?_
        show HT G mX10_mark 45 [some (.ref m), some (.int (nI n)), some (.int y)] [.int (nI 0), .int (2 + nI n), .ref m] (sv σ m (mkI V n) U) 2 _
        rw [show (2 : Int32) = nI 2 from rfl, nI_add]
        refine kVX10_lays (As := [_, _]) cl_X10_317 (D 29 rfl) (sm_lays hM (p := 2 + n) (q := 0) (by omega) (by decide) (by omega)) hM.k0 rfl (Nat.le_of_ble_eq_true rfl) rfl (Nat.le_of_ble_eq_true rfl) (by omega) ?_
        rintro rv σ1 ⟨rfl, rfl⟩
        refine ht_aload_n (D 30 rfl) rfl rfl ?_
        refine gf_X10_114 rfl (D 31 rfl) hM.k0 hM.q35 ?_
        refine ht_bipush (v := 96) (D 32 rfl) (by decide) ?_
        refine ht_iload_n (D 33 rfl) rfl rfl ?_
        refine ht_imul (D 34 rfl) ?_
        refine ht_aload_n (D 35 rfl) rfl rfl ?_
        refine gf_X10_108 rfl (D 36 rfl) hM.k0 hM.q33 ?_
        refine ht_iconst (v := 0) (D 37 rfl) (by decide) ?_
        rw [show (96 : Int32) = nI 96 from rfl, pk_mul]
        refine kSX10_copies (As := [_, _, _, _]) cl_X10_396 (D 38 rfl) (sm_copies_35_33 hM (a := 96 * n) (b := 0) (by omega) (by decide)) rfl (Nat.le_of_ble_eq_true rfl) rfl (Nat.le_of_ble_eq_true rfl) (by omega) ?_
        rintro rv σ1 ⟨rfl, rfl⟩
        refine ht_aload_n (D 39 rfl) rfl rfl ?_
        refine kVX10_ways (As := []) cl_X10_321 (D 40 rfl) (sm_ways hM (V := mkB V n) (hPb hok hyn)) hM.k0 rfl (Nat.le_of_ble_eq_true rfl) rfl (Nat.le_of_ble_eq_true rfl) (by omega) ?_
        rintro rv σ1 ⟨rfl, V2, rfl, h5, h6⟩
        refine ht_iconst (v := 1) (D 41 rfl) (by decide) ?_
        refine ht_iret (D 42 rfl) rfl rfl ?_
        exact Or.inr (Or.inl ⟨hok, hyn, rfl, V2, rfl, h5, h6⟩)
    · skip
      refine ht_aload_n (D 10 rfl) rfl rfl ?_
      refine gf_X10_132 rfl (D 11 rfl) hM.k0 hM.q41 ?_
      refine ht_iload_n (D 12 rfl) rfl rfl ?_
      refine hm_zld (o := 41) (n := n) (by decide) (D 13 rfl) hM.k41 hM.n41 (by first | rfl | exact nI_add _ _ | assumption) (by omega) (by decide) ?_
      refine ht_if_ne (tgt := 29) (D 14 rfl) (by decide) (fun hb24 => ?_) (fun hb24 => ?_)
      · skip
        have hok : aMarkOk V (nI n) y := ⟨hq9, fun q => hb24 (by have q2 := q.2; rw [hnc] at q2; exact (congrFun (tz_o V (by decide)) n).trans q2)⟩
        refine ht_aload_n (D 17 rfl) rfl rfl ?_
        refine gf_X10_132 rfl (D 18 rfl) hM.k0 hM.q41 ?_
        refine ht_iload_n (D 19 rfl) rfl rfl ?_
        refine ht_iconst (v := 1) (D 20 rfl) (by decide) ?_
        refine hm_zst (o := 41) (n := n) (by decide) (D 21 rfl) hM.k41 hM.n41 (by first | rfl | exact nI_add _ _ | assumption) (by omega) (by decide) rfl ?_
        show HT G mX10_mark 36 [some (.ref m), some (.int (nI n)), some (.int y)] [] (sv σ m (mkI V n) U) 2 _
        refine ht_iload_n (D 22 rfl) rfl rfl ?_
        refine ht_if_eq (tgt := 70) (D 23 rfl) (by decide) (fun hb37 => ?_) (fun hb37 => ?_)
        · skip
          have hy0 : y = 0 := hb37
          refine ht_aload_n (D 43 rfl) rfl rfl ?_
          refine ht_iconst (v := 0) (D 44 rfl) (by decide) ?_
          refine ht_iconst (v := 2) (D 45 rfl) (by decide) ?_
          refine ht_iload_n (D 46 rfl) rfl rfl ?_
          refine ht_iadd (D 47 rfl) ?_
          rw [show (2 : Int32) = nI 2 from rfl, nI_add]
          refine kVX10_lays (As := [_, _]) cl_X10_317 (D 48 rfl) (sm_lays hM (p := 0) (q := 2 + n) (by omega) (by omega) (by omega)) hM.k0 rfl (Nat.le_of_ble_eq_true rfl) rfl (Nat.le_of_ble_eq_true rfl) (by omega) ?_
          rintro rv σ1 ⟨rfl, rfl⟩
          refine ht_aload_n (D 49 rfl) rfl rfl ?_
          refine gf_X10_108 rfl (D 50 rfl) hM.k0 hM.q33 ?_
          refine ht_iconst (v := 0) (D 51 rfl) (by decide) ?_
          refine ht_aload_n (D 52 rfl) rfl rfl ?_
          refine gf_X10_114 rfl (D 53 rfl) hM.k0 hM.q35 ?_
          refine ht_bipush (v := 96) (D 54 rfl) (by decide) ?_
          refine ht_iload_n (D 55 rfl) rfl rfl ?_
          refine ht_imul (D 56 rfl) ?_
          rw [show (96 : Int32) = nI 96 from rfl, pk_mul]
          refine kSX10_copies (As := [_, _, _, _]) cl_X10_396 (D 57 rfl) (sm_copies_33_35 hM (a := 0) (b := 96 * n) (by decide) (by omega)) rfl (Nat.le_of_ble_eq_true rfl) rfl (Nat.le_of_ble_eq_true rfl) (by omega) ?_
          rintro rv σ1 ⟨rfl, rfl⟩
          refine ht_iconst (v := 1) (D 58 rfl) (by decide) ?_
          refine ht_iret (D 59 rfl) rfl rfl ?_
          exact Or.inr (Or.inr ⟨hok, hy0, rfl, rfl⟩)
        · skip
          have hyn : ¬ y = 0 := hb37
          refine ht_aload_n (D 24 rfl) rfl rfl ?_
          refine ht_iconst (v := 2) (D 25 rfl) (by decide) ?_
          refine ht_iload_n (D 26 rfl) rfl rfl ?_
          refine ht_iadd (D 27 rfl) ?_
          refine ht_iconst (v := 0) (D 28 rfl) (by decide) ?_
          show HT G mX10_mark 45 [some (.ref m), some (.int (nI n)), some (.int y)] [.int (nI 0), .int (2 + nI n), .ref m] (sv σ m (mkI V n) U) 2 _
          rw [show (2 : Int32) = nI 2 from rfl, nI_add]
          refine kVX10_lays (As := [_, _]) cl_X10_317 (D 29 rfl) (sm_lays hM (p := 2 + n) (q := 0) (by omega) (by decide) (by omega)) hM.k0 rfl (Nat.le_of_ble_eq_true rfl) rfl (Nat.le_of_ble_eq_true rfl) (by omega) ?_
          rintro rv σ1 ⟨rfl, rfl⟩
          refine ht_aload_n (D 30 rfl) rfl rfl ?_
          refine gf_X10_114 rfl (D 31 rfl) hM.k0 hM.q35 ?_
          refine ht_bipush (v := 96) (D 32 rfl) (by decide) ?_
          refine ht_iload_n (D 33 rfl) rfl rfl ?_
          refine ht_imul (D 34 rfl) ?_
          refine ht_aload_n (D 35 rfl) rfl rfl ?_
          refine gf_X10_108 rfl (D 36 rfl) hM.k0 hM.q33 ?_
          refine ht_iconst (v := 0) (D 37 rfl) (by decide) ?_
          rw [show (96 : Int32) = nI 96 from rfl, pk_mul]
          refine kSX10_copies (As := [_, _, _, _]) cl_X10_396 (D 38 rfl) (sm_copies_35_33 hM (a := 96 * n) (b := 0) (by omega) (by decide)) rfl (Nat.le_of_ble_eq_true rfl) rfl (Nat.le_of_ble_eq_true rfl) (by omega) ?_
          rintro rv σ1 ⟨rfl, rfl⟩
          refine ht_aload_n (D 39 rfl) rfl rfl ?_
          refine kVX10_ways (As := []) cl_X10_321 (D 40 rfl) (sm_ways hM (V := mkB V n) (hPb hok hyn)) hM.k0 rfl (Nat.le_of_ble_eq_true rfl) rfl (Nat.le_of_ble_eq_true rfl) (by omega) ?_
          rintro rv σ1 ⟨rfl, V2, rfl, h5, h6⟩
          refine ht_iconst (v := 1) (D 41 rfl) (by decide) ?_
          refine ht_iret (D 42 rfl) rfl rfl ?_
          exact Or.inr (Or.inl ⟨hok, hyn, rfl, V2, rfl, h5, h6⟩)
      · skip
        have hng : ¬ aMarkOk V (nI n) y := fun q => q.2 ⟨hb15, by rw [hnc]; exact (congrFun (tz_o V (by decide)) n).symm.trans hb24⟩
        refine ht_iconst (v := 0) (D 15 rfl) (by decide) ?_
        refine ht_iret (D 16 rfl) rfl rfl ?_
        exact Or.inl ⟨hng, QA_t rfl⟩
end M14
