/-! ===== the class: measureFar, feed ===== -/
section C20
variable {G : GG} {σ : Hp} {Z : VT} {xo b : Nat} {V : VT} {cN dN mN gk : Nat} {gw : Option GWt} {gi : Option GIt}
set_option maxRecDepth 100000 in
theorem sc_measureFar (hB : LwS σ b) (hP : PL V cN dN mN gk) (hc0 : Z b 0 = nI cN) (hd0 : Z b 1 = nI dN) (hdr : ∀ j, j < dN → Z (b + 3) j = V 10 j ∧ Z (b + 4) j = V 11 j) : Sp G mX2_measureFar 2 [.ref b] (cv σ Z) (fun rv σ' => rv = none ∧ ∃ Z2 : VT, σ' = cv σ Z2 ∧ Do (b + 2) Z Z2 ∧ WR (Z2 (b + 2)) (rdN V w1 dN (fun _ => none) cN) 400000) := by
  have D := dat dl_X2_measureFar
  have h8 := hP.1.2
  have h10 := hP.2.1.2
  have loop : ∀ r i : Nat, i ≤ cN → cN - i = r → ∀ (Z0 : VT) (l2 : Option Value), Do (b + 2) Z Z0 → WR (Z0 (b + 2)) (rdN V w1 dN (fun _ => none) i) (40020 * i) → HT G mX2_measureFar 10 [some (.ref b), some (.int (nI i)), l2] [] (cv σ Z0) 2 (fun rv σ' => rv = none ∧ ∃ Z2 : VT, σ' = cv σ Z2 ∧ Do (b + 2) Z Z2 ∧ WR (Z2 (b + 2)) (rdN V w1 dN (fun _ => none) cN) 400000) := by
    intro r
    induction r using Nat.strongRecOn with
    | _ r ih =>
      intro i hi hr Z0 l2 hdz hR0
      have inner : i < cN → ∀ r j : Nat, j ≤ dN → dN - j = r → ∀ Z1 : VT, Do (b + 2) Z Z1 → WR (Z1 (b + 2)) (rdD V w1 (rdN V w1 dN (fun _ => none) i) j) (40020 * i + 4002 * j) → HT G mX2_measureFar 20 [some (.ref b), some (.int (nI i)), some (.int (nI j))] [] (cv σ Z1) 2 (fun rv σ' => rv = none ∧ ∃ Z2 : VT, σ' = cv σ Z2 ∧ Do (b + 2) Z Z2 ∧ WR (Z2 (b + 2)) (rdN V w1 dN (fun _ => none) cN) 400000) := by
        intro hik r
        induction r using Nat.strongRecOn with
        | _ r ihj =>
          intro j hj hr Z1 hd1 hR1
          refine ht_iload_n (D 12 rfl) rfl rfl ?_
          refine ht_aload_n (D 13 rfl) rfl rfl ?_
          refine gi_X2_58 rfl (D 14 rfl) hB.k0 ?_
          refine ht_icmp_ge (tgt := 66) (D 15 rfl) (by decide) (fun hb25 => ?_) (fun hb25 => ?_)
          · skip
            have hjk : j = dN := by rw [hd1 b (by omega), hd0] at hb25; have h3 := (nI_leI (a := dN) (b := j) (by omega) (by omega)).mp hb25; omega
            refine ht_iinc (v := nI (i + 1)) (D 38 rfl) rfl (nI_i1 _) (by decide) rfl ?_
            refine ht_goto (tgt := 10) (D 39 rfl) (by decide) ?_
            subst hjk
            exact ht_cast (ih (cN - (i + 1)) (by omega) (i + 1) (by omega) rfl Z1 _ hd1 (fun c hc => ⟨(hR1 c hc).1, fun x hx => by have := (hR1 c hc).2 x hx; omega⟩)) rfl rfl rfl
          · skip
            have hjk : j < dN := by rw [hd1 b (by omega), hd0] at hb25; have h3 := mt (nI_leI (a := dN) (b := j) (by omega) (by omega)).mpr hb25; omega
            refine ht_aload_n (D 16 rfl) rfl rfl ?_
            refine ht_aload_n (D 17 rfl) rfl rfl ?_
            refine gf_X2_18 rfl (D 18 rfl) hB.k0 hB.q3 ?_
            refine ht_iload_n (D 19 rfl) rfl rfl ?_
            refine hi_ild (n := j) (D 20 rfl) hB.k3 hB.n3 (by first | rfl | exact nI_add _ _ | assumption) (by omega) (by first | decide | omega) ?_
            refine ht_aload_n (D 21 rfl) rfl rfl ?_
            refine gf_X2_21 rfl (D 22 rfl) hB.k0 hB.q4 ?_
            refine ht_iload_n (D 23 rfl) rfl rfl ?_
            refine hi_ild (n := j) (D 24 rfl) hB.k4 hB.n4 (by first | rfl | exact nI_add _ _ | assumption) (by omega) (by first | decide | omega) ?_
            rw [hd1 _ (show b + 3 ≠ b + 2 by omega), hd1 _ (show b + 4 ≠ b + 2 by omega), (hdr j hjk).1, (hdr j hjk).2]
            refine kVX2_measureDoor (As := [_, _]) cl_X2_61 (D 25 rfl) (sc_measureDoor hB h8 hR1 (by omega) (p := V 10 j) (q := V 11 j) (hP.p10 hjk) (hP.p11 hjk)) hB.k0 rfl (Nat.le_of_ble_eq_true rfl) rfl (Nat.le_of_ble_eq_true rfl) (by omega) ?_
            rintro _ _ ⟨rfl, Z2, rfl, hd2, hR2⟩
            refine ht_aload_n (D 26 rfl) rfl rfl ?_
            refine ht_aload_n (D 27 rfl) rfl rfl ?_
            refine gf_X2_21 rfl (D 28 rfl) hB.k0 hB.q4 ?_
            refine ht_iload_n (D 29 rfl) rfl rfl ?_
            refine hi_ild (n := j) (D 30 rfl) hB.k4 hB.n4 (by first | rfl | exact nI_add _ _ | assumption) (by omega) (by first | decide | omega) ?_
            refine ht_aload_n (D 31 rfl) rfl rfl ?_
            refine gf_X2_18 rfl (D 32 rfl) hB.k0 hB.q3 ?_
            refine ht_iload_n (D 33 rfl) rfl rfl ?_
            refine hi_ild (n := j) (D 34 rfl) hB.k3 hB.n3 (by first | rfl | exact nI_add _ _ | assumption) (by omega) (by first | decide | omega) ?_
            rw [hd2 _ (show b + 4 ≠ b + 2 by omega), hd2 _ (show b + 3 ≠ b + 2 by omega), hd1 _ (show b + 3 ≠ b + 2 by omega), hd1 _ (show b + 4 ≠ b + 2 by omega), (hdr j hjk).1, (hdr j hjk).2]
            refine kVX2_measureDoor (As := [_, _]) cl_X2_61 (D 35 rfl) (sc_measureDoor hB h8 hR2 (by omega) (p := V 11 j) (q := V 10 j) (hP.p11 hjk) (hP.p10 hjk)) hB.k0 rfl (Nat.le_of_ble_eq_true rfl) rfl (Nat.le_of_ble_eq_true rfl) (by omega) ?_
            rintro _ _ ⟨rfl, Z3, rfl, hd3, hR3⟩
            refine ht_iinc (v := nI (j + 1)) (D 36 rfl) rfl (nI_i1 _) (by decide) rfl ?_
            refine ht_goto (tgt := 20) (D 37 rfl) (by decide) ?_
            exact ht_cast (ihj (dN - (j + 1)) (by omega) (j + 1) (by omega) rfl Z3 (hd1.tr (fun q hq => (hd3 q hq).trans (hd2 q hq))) (by rw [show 40020 * i + 4002 * (j + 1) = 40020 * i + 4002 * j + 2001 + 2001 by omega]; exact hR3)) rfl rfl rfl
      refine ht_iload_n (D 6 rfl) rfl rfl ?_
      refine ht_aload_n (D 7 rfl) rfl rfl ?_
      refine gi_X2_54 rfl (D 8 rfl) hB.k0 ?_
      refine ht_icmp_ge (tgt := 72) (D 9 rfl) (by decide) (fun hb15 => ?_) (fun hb15 => ?_)
      · skip
        have hik : i = cN := by rw [hdz b (by omega), hc0] at hb15; have h3 := (nI_leI (a := cN) (b := i) (by omega) (by omega)).mp hb15; omega
        subst hik
        refine ht_vret (D 40 rfl) rfl ?_
        exact ⟨rfl, Z0, rfl, hdz, fun c hc => ⟨(hR0 c hc).1, fun x hx => by have := (hR0 c hc).2 x hx; omega⟩⟩
      · skip
        have hik : i < cN := by rw [hdz b (by omega), hc0] at hb15; have h3 := mt (nI_leI (a := cN) (b := i) (by omega) (by omega)).mpr hb15; omega
        refine ht_iconst (v := 0) (D 10 rfl) (by decide) ?_
        refine ht_istore_n (D 11 rfl) rfl (by decide) rfl ?_
        exact ht_cast (inner hik dN 0 (by omega) (by omega) Z0 hdz hR0) rfl rfl rfl
  show HT G mX2_measureFar 0 [some (.ref b), none, none] [] (cv σ Z) 2 _
  refine ht_aload_n (D 0 rfl) rfl rfl ?_
  refine gf_X2_15 rfl (D 1 rfl) hB.k0 hB.q2 ?_
  refine ht_iconst (v := -1) (D 2 rfl) (by decide) ?_
  refine kSJ7_fill_53178 (As := [_, _]) cl_X2_48 (D 3 rfl) (sc_fill hB.k2 hB.n2 (by decide) (-1)) rfl (Nat.le_of_ble_eq_true rfl) rfl (Nat.le_of_ble_eq_true rfl) (by omega) ?_
  rintro _ _ ⟨rfl, Z0, rfl, hdz, hi0⟩
  refine ht_iconst (v := 0) (D 4 rfl) (by decide) ?_
  refine ht_istore_n (D 5 rfl) rfl (by decide) rfl ?_
  exact ht_cast (loop cN 0 (by omega) (by omega) Z0 none hdz (fun c hc => ⟨hi0 c hc, fun x hx => by cases hx⟩)) rfl rfl rfl
def adB (w : Int64) (q : ST × Nat) : Nat → ST × Nat
  | 0 => q
  | k + 1 => tpS (adB w q k) (byM w k)
theorem byM_8 (w : Int64) : ∀ k, k < 16 → byM w (k + 8) = byM w k := by
  intro k hk
  have e : nI (k + 8) &&& 7 = nI k &&& 7 := by
    have key : ∀ j : Fin 16, nI (j.val + 8) &&& 7 = nI j.val &&& 7 := by decide
    exact key ⟨k, hk⟩
  unfold byM
  rw [e]
theorem fdT_a (p q r : Int64) (s : ST × Nat) : ∀ k, k ≤ 8 → fdT p q r s k = adB p s k := by
  intro k
  induction k with
  | zero => intro _; rfl
  | succ k ih =>
    intro hk
    show tpS (fdT p q r s k) (byM (wSel p q r k) k) = tpS (adB p s k) (byM p k)
    rw [ih (by omega)]
    unfold wSel
    rw [if_pos (by omega)]
theorem fdT_b (p q r : Int64) (s : ST × Nat) : ∀ k, k ≤ 8 → fdT p q r s (k + 8) = adB q (adB p s 8) k := by
  intro k
  induction k with
  | zero => intro _; exact fdT_a p q r s 8 (Nat.le_refl _)
  | succ k ih =>
    intro hk
    rw [show k + 1 + 8 = (k + 8) + 1 by omega]
    show tpS (fdT p q r s (k + 8)) (byM (wSel p q r (k + 8)) (k + 8)) = tpS (adB q (adB p s 8) k) (byM q k)
    rw [ih (by omega), byM_8 _ k (by omega)]
    unfold wSel
    rw [if_neg (by omega), if_pos (by omega)]
theorem fdT_c (p q r : Int64) (s : ST × Nat) : ∀ k, k ≤ 8 → fdT p q r s (k + 16) = adB r (adB q (adB p s 8) 8) k := by
  intro k
  induction k with
  | zero => intro _; exact fdT_b p q r s 8 (Nat.le_refl _)
  | succ k ih =>
    intro hk
    rw [show k + 1 + 16 = (k + 16) + 1 by omega]
    show tpS (fdT p q r s (k + 16)) (byM (wSel p q r (k + 16)) (k + 16)) = tpS (adB r (adB q (adB p s 8) 8) k) (byM r k)
    rw [ih (by omega), show k + 16 = (k + 8) + 8 by omega, byM_8 _ (k + 8) (by omega), byM_8 _ k (by omega)]
    unfold wSel
    rw [if_neg (by omega), if_neg (by omega)]
theorem adB_le (w : Int64) {q : ST × Nat} (h : q.2 ≤ 1000) : ∀ k, (adB w q k).2 ≤ 1000 := by
  intro k
  induction k with
  | zero => exact h
  | succ k ih =>
    show (tpS (adB w q k) (byM w k)).2 ≤ 1000
    unfold tpS
    split
    · rename_i c; show (adB w q k).2 + 1 ≤ 1000; have := c.1; omega
    · exact ih
def byC (w : Int64) (s : Int32) : Int32 := (w >>> (s.toInt64 &&& 63)).toInt32 &&& 255
theorem byC_e (w : Int64) : ∀ k : Fin 8, byC w (nI (56 - 8 * k.val)) = byM w k.val := by
  intro k
  have key : ∀ s : Nat, s ≤ 56 → ((w.toBitVec.sshiftRight s).setWidth 32 &&& 255#32) = ((w.toBitVec >>> s) &&& 255#64).setWidth 32 := by
    intro s hs
    apply BitVec.eq_of_getLsbD_eq
    intro i hi
    have h255 : (255#32).getLsbD i = decide (i < 8) := by
      have q : ∀ j : Fin 32, (255#32).getLsbD j.val = decide (j.val < 8) := by decide
      exact q ⟨i, hi⟩
    have h255b : (255#64).getLsbD i = decide (i < 8) := by
      have q : ∀ j : Fin 32, (255#64).getLsbD j.val = decide (j.val < 8) := by decide
      exact q ⟨i, hi⟩
    rw [BitVec.getLsbD_and, BitVec.getLsbD_setWidth, BitVec.getLsbD_setWidth, BitVec.getLsbD_and, h255, h255b, BitVec.getLsbD_ushiftRight, BitVec.getLsbD_sshiftRight]
    by_cases c : i < 8
    · have c1 : i < 32 := hi
      have c2 : s + i < 64 := by omega
      have c3 : ¬ 64 ≤ i := by omega
      simp [c, c1, c2, c3]
    · simp [c]
  have hk := k.isLt
  have e1 : (nI (56 - 8 * k.val)).toInt64 &&& 63 = Int64.ofNat (56 - 8 * k.val) := by
    have q : ∀ j : Fin 8, (nI (56 - 8 * j.val)).toInt64 &&& 63 = Int64.ofNat (56 - 8 * j.val) := by decide
    exact q k
  have e2 : ((56 - 8 * (nI k.val &&& 7)).toInt64.toUInt64 &&& Int64.toUInt64 63) = UInt64.ofNat (56 - 8 * k.val) := by
    have q : ∀ j : Fin 8, ((56 - 8 * (nI j.val &&& 7)).toInt64.toUInt64 &&& Int64.toUInt64 63) = UInt64.ofNat (56 - 8 * j.val) := by decide
    exact q k
  unfold byC byM
  rw [e1, e2]
  apply Int32.toBitVec_inj.mp
  have f1 : (w >>> Int64.ofNat (56 - 8 * k.val)).toBitVec = w.toBitVec.sshiftRight (56 - 8 * k.val) := by
    rw [Int64.toBitVec_shiftRight]
    have q : ∀ j : Fin 8, ((Int64.ofNat (56 - 8 * j.val)).toBitVec.smod 64).toNat = 56 - 8 * j.val := by decide
    show w.toBitVec.sshiftRight' _ = _
    unfold BitVec.sshiftRight'
    rw [q k]
  have f2 : (w.toUInt64 >>> UInt64.ofNat (56 - 8 * k.val)).toBitVec = w.toBitVec >>> (56 - 8 * k.val) := by
    rw [UInt64.toBitVec_shiftRight]
    have q : ∀ j : Fin 8, ((UInt64.ofNat (56 - 8 * j.val)).toBitVec % 64).toNat = 56 - 8 * j.val := by decide
    show w.toBitVec >>> _ = _
    rw [BitVec.ushiftRight_eq', q k]
  show (w >>> Int64.ofNat (56 - 8 * k.val)).toBitVec.signExtend 32 &&& 255#32 = ((w.toUInt64 >>> UInt64.ofNat (56 - 8 * k.val)).toBitVec &&& 255#64).signExtend 32
  rw [f1, f2, BitVec.signExtend_eq_setWidth_of_le _ (by decide), BitVec.signExtend_eq_setWidth_of_le _ (by decide)]
  exact key _ (by omega)
def shF (k : Nat) : Int32 := if k < 8 then nI (56 - 8 * k) else -8
theorem shF_s {k : Nat} (hk : k < 8) : shF k + Int32.ofInt (-8) = shF (k + 1) := by
  have q : ∀ j : Fin 8, shF j.val + Int32.ofInt (-8) = shF (j.val + 1) := by decide
  exact q ⟨k, hk⟩
theorem shF_lt {k : Nat} (hk : k ≤ 8) : shF k < 0 ↔ k = 8 := by
  have q : ∀ j : Fin 9, shF j.val < 0 ↔ j.val = 8 := by decide
  exact q ⟨k, by omega⟩
theorem i2b_id {s : Int32} (h : s = 10 ∨ (32 ≤ s ∧ s ≤ 126)) : s.toInt8.toInt32 = s ∧ narrow .byte (.int s) = .int s := by
  have h0 : 0 ≤ s.toInt ∧ s.toInt ≤ 126 := by
    rcases h with rfl | ⟨h1, h2⟩
    · decide
    · rw [i_le] at h1 h2
      have z1 : (32 : Int32).toInt = 32 := rfl
      have z2 : (126 : Int32).toInt = 126 := rfl
      omega
  have e : s = nI s.toInt.toNat := xi_nat h0.1
  have q : ∀ j : Fin 127, (nI j.val).toInt8.toInt32 = nI j.val := by decide
  have e1 : s.toInt8.toInt32 = s := by
    have := q ⟨s.toInt.toNat, by omega⟩
    rw [← e] at this
    exact this
  refine ⟨e1, ?_⟩
  show Value.int s.toInt8.toInt32 = .int s
  rw [e1]
set_option maxRecDepth 100000 in
theorem sc_addBytes (hE : NE G) {t s : Nat} (hK : zK σ t = 6) (hQ : zQ σ t 0 = some s) (hKs : zK σ s = 22) (hNs : zN σ s = 1000) (hts : s ≠ t) (w : Int64) {n : Nat} (hn : Z t 1 = nI n) (hn2 : n ≤ 1000) : Sp G mX6_addBytes 1 [.ref t, .long w] (cv σ Z) (fun rv σ' => rv = none ∧ ∃ Z2 : VT, σ' = cv σ Z2 ∧ (∀ r, r ≠ t → r ≠ s → Z2 r = Z r) ∧ Z2 s = (adB w (Z s, n) 8).1 ∧ Z2 t 1 = nI (adB w (Z s, n) 8).2) := by
  have D := dat dl_X6_addBytes
  have loop : ∀ r k : Nat, k ≤ 8 → 8 - k = r → ∀ (Z1 : VT) (l4 l5 : Option Value), (∀ r, r ≠ t → r ≠ s → Z1 r = Z r) → Z1 s = (adB w (Z s, n) k).1 → Z1 t 1 = nI (adB w (Z s, n) k).2 → HT G mX6_addBytes 3 [some (.ref t), some (.long w), none, some (.int (shF k)), l4, l5] [] (cv σ Z1) 1 (fun rv σ' => rv = none ∧ ∃ Z2 : VT, σ' = cv σ Z2 ∧ (∀ r, r ≠ t → r ≠ s → Z2 r = Z r) ∧ Z2 s = (adB w (Z s, n) 8).1 ∧ Z2 t 1 = nI (adB w (Z s, n) 8).2) := by
    intro r
    induction r using Nat.strongRecOn with
    | _ r ih =>
      intro k hk hr Z1 l4 l5 h0 h2 h1
      have hle := adB_le w (q := (Z s, n)) hn2 k
      refine ht_iload_n (D 2 rfl) rfl rfl ?_
      refine ht_if_lt (tgt := 86) (D 3 rfl) (by decide) (fun hb4 => ?_) (fun hb4 => ?_)
      · skip
        have hk8 : k = 8 := (shF_lt hk).mp hb4
        subst hk8
        refine ht_vret (D 44 rfl) rfl ?_
        exact ⟨rfl, Z1, rfl, h0, h2, h1⟩
      · skip
        have hk8 : k < 8 := by have := mt (shF_lt hk).mpr hb4; omega
        refine ht_lload_n (D 4 rfl) rfl rfl ?_
        refine ht_iload_n (D 5 rfl) rfl rfl ?_
        refine ht_lshr (D 6 rfl) ?_
        refine ht_l2i (D 7 rfl) ?_
        refine ht_sipush (v := 255) (D 8 rfl) (by decide) ?_
        refine ht_iand (D 9 rfl) ?_
        rw [show (w >>> ((shF k).toInt64 &&& 63)).toInt32 &&& 255 = byM w k from by rw [← byC_e w ⟨k, hk8⟩]; unfold shF; rw [if_pos hk8]; rfl]
        refine ht_topi (fun sg hsg => ?_)
        refine ht_istore (D 10 rfl) (by decide) rfl ?_
        refine ht_iload (D 11 rfl) rfl ?_
        refine ht_bipush (v := 10) (D 12 rfl) (by decide) ?_
        refine ht_icmp_eq (tgt := 36) (D 13 rfl) (by decide) (fun hb21 => ?_) (fun hb21 => ?_)
        · skip
          have htk : sg = 10 ∨ (32 ≤ sg ∧ sg ≤ 126) := Or.inl hb21
          refine ht_iconst (v := 1) (D 19 rfl) (by decide) ?_
          refine ht_goto (tgt := 41) (D 20 rfl) (by decide) ?_
          refine ht_istore (D 22 rfl) (by decide) rfl ?_
          refine ht_iload (D 23 rfl) rfl ?_
          refine ht_if_eq (tgt := 80) (D 24 rfl) (by decide) (fun hb45 => absurd hb45 (by decide)) (fun hb45 => ?_)
          refine ht_aload_n (D 25 rfl) rfl rfl ?_
          refine gi_X6_19 rfl (D 26 rfl) hK ?_
          refine ht_sipush (v := 1000) (D 27 rfl) (by decide) ?_
          refine ht_icmp_ge (tgt := 80) (D 28 rfl) (by decide) (fun hb55 => ?_) (fun hb55 => ?_)
          · skip
            have hnt : ¬ tpOk (adB w (Z s, n) k).2 (byM w k) := fun q => by
              rw [h1] at hb55
              have := (nI_leI (a := 1000) (b := (adB w (Z s, n) k).2) (by omega) (by omega)).mp hb55
              have := q.1
              omega
            have hst : adB w (Z s, n) (k + 1) = adB w (Z s, n) k := tpS_n hnt
            refine ht_iinc (v := shF (k + 1)) (D 42 rfl) rfl (shF_s hk8) (by decide) rfl ?_
            refine ht_goto (tgt := 3) (D 43 rfl) (by decide) ?_
            first
            | (refine ht_cast (ih (8 - (k + 1)) (by omega) (k + 1) (by omega) rfl Z1 _ _ h0 ?_ ?_) rfl rfl rfl
               · rw [hst]; exact h2
               · rw [hst]; exact h1)
            | (refine ht_cast (ih (8 - (k + 1)) (by omega) (k + 1) (by omega) rfl _ _ _ ?_ ?_ ?_) rfl rfl rfl
               · intro r r1 r2
                 rw [up2_o _ _ r1, up2_o _ _ r2]; exact h0 r r1 r2
               · rw [hst, up2_o _ _ hts, up2_row, h2]
               · rw [hst, up2_s, up2_o _ _ (fun e => hts e.symm), h1]
                 exact nI_1 _)
          · skip
            have hlt : (adB w (Z s, n) k).2 < 1000 := by
              rw [h1] at hb55
              have := mt (nI_leI (a := 1000) (b := (adB w (Z s, n) k).2) (by omega) (by omega)).mpr hb55
              omega
            have hst : adB w (Z s, n) (k + 1) = (va_up (adB w (Z s, n) k).1 (adB w (Z s, n) k).2 sg, (adB w (Z s, n) k).2 + 1) := by rw [hsg]; exact tpS_y ⟨hlt, by rw [← hsg]; exact htk⟩
            refine ht_aload_n (D 29 rfl) rfl rfl ?_
            refine gf_X6_9 rfl (D 30 rfl) hK hQ ?_
            refine ht_aload_n (D 31 rfl) rfl rfl ?_
            refine gi_X6_19 rfl (D 32 rfl) hK ?_
            refine ht_iload (D 33 rfl) rfl ?_
            refine ht_i2b (D 34 rfl) ?_
            rw [(i2b_id htk).1]
            refine hi_bst (n := (adB w (Z s, n) k).2) (D 35 rfl) hKs hNs h1 hlt (by first | decide | omega) (i2b_id htk).2 ?_
            refine ht_aload_n (D 36 rfl) rfl rfl ?_
            refine ht_dup (D 37 rfl) rfl ?_
            refine gi_X6_19 rfl (D 38 rfl) hK ?_
            refine ht_iconst (v := 1) (D 39 rfl) (by decide) ?_
            refine ht_iadd (D 40 rfl) ?_
            refine pi_X6_19 rfl (D 41 rfl) hK ?_
            refine ht_iinc (v := shF (k + 1)) (D 42 rfl) rfl (shF_s hk8) (by decide) rfl ?_
            refine ht_goto (tgt := 3) (D 43 rfl) (by decide) ?_
            first
            | (refine ht_cast (ih (8 - (k + 1)) (by omega) (k + 1) (by omega) rfl Z1 _ _ h0 ?_ ?_) rfl rfl rfl
               · rw [hst]; exact h2
               · rw [hst]; exact h1)
            | (refine ht_cast (ih (8 - (k + 1)) (by omega) (k + 1) (by omega) rfl _ _ _ ?_ ?_ ?_) rfl rfl rfl
               · intro r r1 r2
                 rw [up2_o _ _ r1, up2_o _ _ r2]; exact h0 r r1 r2
               · rw [hst, up2_o _ _ hts, up2_row, h2]
               · rw [hst, up2_s, up2_o _ _ (fun e => hts e.symm), h1]
                 exact nI_1 _)
        · skip
          refine ht_iload (D 14 rfl) rfl ?_
          refine ht_bipush (v := 32) (D 15 rfl) (by decide) ?_
          refine ht_bipush (v := 126) (D 16 rfl) (by decide) ?_
          refine kNX9_isWithin (As := [_, _, _]) hE.X6_13 (D 17 rfl) (sc_isWithin _ _ _) rfl (Nat.le_of_ble_eq_true rfl) rfl (Nat.le_of_ble_eq_true rfl) (by omega) ?_
          rintro _ _ ⟨rfl, rfl⟩
          refine ht_if_eq (tgt := 40) (D 18 rfl) (by decide) (fun hb33 => ?_) (fun hb33 => ?_)
          · skip
            have hnt : ¬ tpOk (adB w (Z s, n) k).2 (byM w k) := fun q => by
              rw [← hsg] at q
              exact q.2.elim hb21 (b01_eq hb33)
            have hst : adB w (Z s, n) (k + 1) = adB w (Z s, n) k := tpS_n hnt
            refine ht_iconst (v := 0) (D 21 rfl) (by decide) ?_
            refine ht_istore (D 22 rfl) (by decide) rfl ?_
            refine ht_iload (D 23 rfl) rfl ?_
            refine ht_if_eq (tgt := 80) (D 24 rfl) (by decide) (fun hb45 => ?_) (fun hb45 => absurd (by decide) hb45)
            refine ht_iinc (v := shF (k + 1)) (D 42 rfl) rfl (shF_s hk8) (by decide) rfl ?_
            refine ht_goto (tgt := 3) (D 43 rfl) (by decide) ?_
            first
            | (refine ht_cast (ih (8 - (k + 1)) (by omega) (k + 1) (by omega) rfl Z1 _ _ h0 ?_ ?_) rfl rfl rfl
               · rw [hst]; exact h2
               · rw [hst]; exact h1)
            | (refine ht_cast (ih (8 - (k + 1)) (by omega) (k + 1) (by omega) rfl _ _ _ ?_ ?_ ?_) rfl rfl rfl
               · intro r r1 r2
                 rw [up2_o _ _ r1, up2_o _ _ r2]; exact h0 r r1 r2
               · rw [hst, up2_o _ _ hts, up2_row, h2]
               · rw [hst, up2_s, up2_o _ _ (fun e => hts e.symm), h1]
                 exact nI_1 _)
          · skip
            have htk : sg = 10 ∨ (32 ≤ sg ∧ sg ≤ 126) := Or.inr (b01_ne hb33)
            refine ht_iconst (v := 1) (D 19 rfl) (by decide) ?_
            refine ht_goto (tgt := 41) (D 20 rfl) (by decide) ?_
            refine ht_istore (D 22 rfl) (by decide) rfl ?_
            refine ht_iload (D 23 rfl) rfl ?_
            refine ht_if_eq (tgt := 80) (D 24 rfl) (by decide) (fun hb45 => absurd hb45 (by decide)) (fun hb45 => ?_)
            refine ht_aload_n (D 25 rfl) rfl rfl ?_
            refine gi_X6_19 rfl (D 26 rfl) hK ?_
            refine ht_sipush (v := 1000) (D 27 rfl) (by decide) ?_
            refine ht_icmp_ge (tgt := 80) (D 28 rfl) (by decide) (fun hb55 => ?_) (fun hb55 => ?_)
            · skip
              have hnt : ¬ tpOk (adB w (Z s, n) k).2 (byM w k) := fun q => by
                rw [h1] at hb55
                have := (nI_leI (a := 1000) (b := (adB w (Z s, n) k).2) (by omega) (by omega)).mp hb55
                have := q.1
                omega
              have hst : adB w (Z s, n) (k + 1) = adB w (Z s, n) k := tpS_n hnt
              refine ht_iinc (v := shF (k + 1)) (D 42 rfl) rfl (shF_s hk8) (by decide) rfl ?_
              refine ht_goto (tgt := 3) (D 43 rfl) (by decide) ?_
              first
              | (refine ht_cast (ih (8 - (k + 1)) (by omega) (k + 1) (by omega) rfl Z1 _ _ h0 ?_ ?_) rfl rfl rfl
                 · rw [hst]; exact h2
                 · rw [hst]; exact h1)
              | (refine ht_cast (ih (8 - (k + 1)) (by omega) (k + 1) (by omega) rfl _ _ _ ?_ ?_ ?_) rfl rfl rfl
                 · intro r r1 r2
                   rw [up2_o _ _ r1, up2_o _ _ r2]; exact h0 r r1 r2
                 · rw [hst, up2_o _ _ hts, up2_row, h2]
                 · rw [hst, up2_s, up2_o _ _ (fun e => hts e.symm), h1]
                   exact nI_1 _)
            · skip
              have hlt : (adB w (Z s, n) k).2 < 1000 := by
                rw [h1] at hb55
                have := mt (nI_leI (a := 1000) (b := (adB w (Z s, n) k).2) (by omega) (by omega)).mpr hb55
                omega
              have hst : adB w (Z s, n) (k + 1) = (va_up (adB w (Z s, n) k).1 (adB w (Z s, n) k).2 sg, (adB w (Z s, n) k).2 + 1) := by rw [hsg]; exact tpS_y ⟨hlt, by rw [← hsg]; exact htk⟩
              refine ht_aload_n (D 29 rfl) rfl rfl ?_
              refine gf_X6_9 rfl (D 30 rfl) hK hQ ?_
              refine ht_aload_n (D 31 rfl) rfl rfl ?_
              refine gi_X6_19 rfl (D 32 rfl) hK ?_
              refine ht_iload (D 33 rfl) rfl ?_
              refine ht_i2b (D 34 rfl) ?_
              rw [(i2b_id htk).1]
              refine hi_bst (n := (adB w (Z s, n) k).2) (D 35 rfl) hKs hNs h1 hlt (by first | decide | omega) (i2b_id htk).2 ?_
              refine ht_aload_n (D 36 rfl) rfl rfl ?_
              refine ht_dup (D 37 rfl) rfl ?_
              refine gi_X6_19 rfl (D 38 rfl) hK ?_
              refine ht_iconst (v := 1) (D 39 rfl) (by decide) ?_
              refine ht_iadd (D 40 rfl) ?_
              refine pi_X6_19 rfl (D 41 rfl) hK ?_
              refine ht_iinc (v := shF (k + 1)) (D 42 rfl) rfl (shF_s hk8) (by decide) rfl ?_
              refine ht_goto (tgt := 3) (D 43 rfl) (by decide) ?_
              first
              | (refine ht_cast (ih (8 - (k + 1)) (by omega) (k + 1) (by omega) rfl Z1 _ _ h0 ?_ ?_) rfl rfl rfl
                 · rw [hst]; exact h2
                 · rw [hst]; exact h1)
              | (refine ht_cast (ih (8 - (k + 1)) (by omega) (k + 1) (by omega) rfl _ _ _ ?_ ?_ ?_) rfl rfl rfl
                 · intro r r1 r2
                   rw [up2_o _ _ r1, up2_o _ _ r2]; exact h0 r r1 r2
                 · rw [hst, up2_o _ _ hts, up2_row, h2]
                 · rw [hst, up2_s, up2_o _ _ (fun e => hts e.symm), h1]
                   exact nI_1 _)
  show HT G mX6_addBytes 0 [some (.ref t), some (.long w), none, none, none, none] [] (cv σ Z) 1 _
  refine ht_bipush (v := 56) (D 0 rfl) (by decide) ?_
  refine ht_istore_n (D 1 rfl) rfl (by decide) rfl ?_
  exact ht_cast (loop 8 0 (by omega) (by omega) Z none none (fun r _ _ => rfl) rfl hn) rfl rfl rfl
set_option maxRecDepth 100000 in
theorem sc_feed (hE : NE G) (hX : XS σ xo) (p q r : Int64) {n : Nat} (hn : Z (xo + 1) 1 = nI n) (hn2 : n ≤ 1000) : Sp G mX9_feed 2 [.ref xo, .long p, .long q, .long r] (cv σ Z) (fun rv σ' => rv = some (.int (nI (fdT p q r (Z (xo + 2), n) 24).2)) ∧ ∃ Z2 : VT, σ' = cv σ Z2 ∧ (∀ z, z ≠ xo + 1 → z ≠ xo + 2 → Z2 z = Z z) ∧ Z2 (xo + 2) = (fdT p q r (Z (xo + 2), n) 24).1 ∧ Z2 (xo + 1) 1 = nI (fdT p q r (Z (xo + 2), n) 24).2) := by
  have D := dat dl_X9_feed
  show HT G mX9_feed 0 [some (.ref xo), some (.long p), none, some (.long q), none, some (.long r), none] [] (cv σ Z) 2 _
  refine ht_aload_n (D 0 rfl) rfl rfl ?_
  refine gf_X9_12 rfl (D 1 rfl) hX.k0 hX.qt ?_
  refine ht_lload_n (D 2 rfl) rfl rfl ?_
  refine kVX6_addBytes (As := [_]) cl_X9_51 (D 3 rfl) (sc_addBytes hE hX.kt hX.qs hX.ks hX.ns (by omega) p hn hn2) hX.kt rfl (Nat.le_of_ble_eq_true rfl) rfl (Nat.le_of_ble_eq_true rfl) (by omega) ?_
  rintro _ _ ⟨rfl, Z1, rfl, h10, h12, h11⟩
  have l1 := adB_le p (q := (Z (xo + 2), n)) hn2 8
  refine ht_aload_n (D 4 rfl) rfl rfl ?_
  refine gf_X9_12 rfl (D 5 rfl) hX.k0 hX.qt ?_
  refine ht_lload_n (D 6 rfl) rfl rfl ?_
  refine kVX6_addBytes (As := [_]) cl_X9_51 (D 7 rfl) (sc_addBytes hE hX.kt hX.qs hX.ks hX.ns (by omega) q h11 l1) hX.kt rfl (Nat.le_of_ble_eq_true rfl) rfl (Nat.le_of_ble_eq_true rfl) (by omega) ?_
  rintro _ _ ⟨rfl, Z2, rfl, h20, h22, h21⟩
  rw [h12] at h22 h21
  have l2 := adB_le q (q := adB p (Z (xo + 2), n) 8) l1 8
  refine ht_aload_n (D 8 rfl) rfl rfl ?_
  refine gf_X9_12 rfl (D 9 rfl) hX.k0 hX.qt ?_
  refine ht_lload (D 10 rfl) rfl ?_
  refine kVX6_addBytes (As := [_]) cl_X9_51 (D 11 rfl) (sc_addBytes hE hX.kt hX.qs hX.ks hX.ns (by omega) r h21 l2) hX.kt rfl (Nat.le_of_ble_eq_true rfl) rfl (Nat.le_of_ble_eq_true rfl) (by omega) ?_
  rintro _ _ ⟨rfl, Z3, rfl, h30, h32, h31⟩
  rw [h22] at h32 h31
  refine ht_aload_n (D 12 rfl) rfl rfl ?_
  refine gf_X9_12 rfl (D 13 rfl) hX.k0 hX.qt ?_
  refine gi_X9_55 rfl (D 14 rfl) hX.kt ?_
  refine ht_iret (D 15 rfl) rfl rfl ?_
  refine ⟨?_, Z3, rfl, fun z z1 z2 => by rw [h30 z z1 z2, h20 z z1 z2, h10 z z1 z2], ?_, ?_⟩
  · rw [h31, ← fdT_c p q r (Z (xo + 2), n) 8 (Nat.le_refl _)]
  · rw [h32, ← fdT_c p q r (Z (xo + 2), n) 8 (Nat.le_refl _)]
  · rw [h31, ← fdT_c p q r (Z (xo + 2), n) 8 (Nat.le_refl _)]
end C20
