/-! ===== the class: its small questions ===== -/
section C1
variable {G : GG} {σ : Hp} {a b : Nat} {Z : VT}
theorem b01_nar (p : Prop) [Decidable p] : narrow .boolean (.int (b01 p)) = .int (b01 p) := by
  by_cases c : p
  · rw [b01_t c]; rfl
  · rw [b01_f c]; rfl
theorem xor_pos {h r : Nat} (hh : h < 2 ^ 31) (hr : r < 2 ^ 31) : 0 ≤ nI h ^^^ nI r := by
  have e : nI h ^^^ nI r = nI (h ^^^ r) := by
    apply Int32.toBitVec_inj.mp
    show BitVec.ofNat 32 h ^^^ BitVec.ofNat 32 r = BitVec.ofNat 32 (h ^^^ r)
    apply BitVec.eq_of_toNat_eq
    rw [BitVec.toNat_xor, BitVec.toNat_ofNat, BitVec.toNat_ofNat, BitVec.toNat_ofNat, Nat.mod_eq_of_lt (show h < 2 ^ 32 by omega), Nat.mod_eq_of_lt (show r < 2 ^ 32 by omega), Nat.mod_eq_of_lt (Nat.lt_of_lt_of_le (Nat.xor_lt_two_pow hh hr) (by decide))]
  rw [e]
  exact nI_pos' (Nat.xor_lt_two_pow hh hr)
set_option maxRecDepth 100000 in
theorem sc_isWithin (x lo hi : Int32) : Sp G mX9_isWithin 0 [.int x, .int lo, .int hi] σ (fun rv σ' => rv = some (.int (b01 (lo ≤ x ∧ x ≤ hi))) ∧ σ' = σ) := by
  have D := dat dl_X9_isWithin
  show HT G mX9_isWithin 0 [some (.int x), some (.int lo), some (.int hi)] [] σ 0 _
  refine ht_iload_n (D 0 rfl) rfl rfl ?_
  refine ht_iload_n (D 1 rfl) rfl rfl ?_
  refine ht_icmp_lt (tgt := 14) (D 2 rfl) (by decide) (fun hb2 => ?_) (fun hb2 => ?_)
  · skip
    refine ht_iconst (v := 0) (D 8 rfl) (by decide) ?_
    refine ht_iret (D 9 rfl) rfl rfl ?_
    exact ⟨by first | rw [b01_t (by (simp only [i_lt, i_le] at *; (have hz0 : (0 : Int32).toInt = 0 := rfl); omega))] | rw [b01_f (by (simp only [i_lt, i_le] at *; (have hz0 : (0 : Int32).toInt = 0 := rfl); omega))], rfl⟩
  · skip
    refine ht_iload_n (D 3 rfl) rfl rfl ?_
    refine ht_iload_n (D 4 rfl) rfl rfl ?_
    refine ht_icmp_gt (tgt := 14) (D 5 rfl) (by decide) (fun hb7 => ?_) (fun hb7 => ?_)
    · skip
      refine ht_iconst (v := 0) (D 8 rfl) (by decide) ?_
      refine ht_iret (D 9 rfl) rfl rfl ?_
      exact ⟨by first | rw [b01_t (by (simp only [i_lt, i_le] at *; (have hz0 : (0 : Int32).toInt = 0 := rfl); omega))] | rw [b01_f (by (simp only [i_lt, i_le] at *; (have hz0 : (0 : Int32).toInt = 0 := rfl); omega))], rfl⟩
    · skip
      refine ht_iconst (v := 1) (D 6 rfl) (by decide) ?_
      refine ht_goto (tgt := 15) (D 7 rfl) (by decide) ?_
      refine ht_iret (D 9 rfl) rfl rfl ?_
      exact ⟨by first | rw [b01_t (by (simp only [i_lt, i_le] at *; (have hz0 : (0 : Int32).toInt = 0 := rfl); omega))] | rw [b01_f (by (simp only [i_lt, i_le] at *; (have hz0 : (0 : Int32).toInt = 0 := rfl); omega))], rfl⟩
set_option maxRecDepth 100000 in
theorem sc_isBelow (x n : Int32) : Sp G mX9_isBelow 0 [.int x, .int n] σ (fun rv σ' => rv = some (.int (b01 (0 ≤ x ∧ x < n))) ∧ σ' = σ) := by
  have D := dat dl_X9_isBelow
  show HT G mX9_isBelow 0 [some (.int x), some (.int n)] [] σ 0 _
  refine ht_iload_n (D 0 rfl) rfl rfl ?_
  refine ht_if_lt (tgt := 13) (D 1 rfl) (by decide) (fun hb1 => ?_) (fun hb1 => ?_)
  · skip
    refine ht_iconst (v := 0) (D 7 rfl) (by decide) ?_
    refine ht_iret (D 8 rfl) rfl rfl ?_
    exact ⟨by first | rw [b01_t (by (simp only [i_lt, i_le] at *; (have hz0 : (0 : Int32).toInt = 0 := rfl); omega))] | rw [b01_f (by (simp only [i_lt, i_le] at *; (have hz0 : (0 : Int32).toInt = 0 := rfl); omega))], rfl⟩
  · skip
    refine ht_iload_n (D 2 rfl) rfl rfl ?_
    refine ht_iload_n (D 3 rfl) rfl rfl ?_
    refine ht_icmp_ge (tgt := 13) (D 4 rfl) (by decide) (fun hb6 => ?_) (fun hb6 => ?_)
    · skip
      refine ht_iconst (v := 0) (D 7 rfl) (by decide) ?_
      refine ht_iret (D 8 rfl) rfl rfl ?_
      exact ⟨by first | rw [b01_t (by (simp only [i_lt, i_le] at *; (have hz0 : (0 : Int32).toInt = 0 := rfl); omega))] | rw [b01_f (by (simp only [i_lt, i_le] at *; (have hz0 : (0 : Int32).toInt = 0 := rfl); omega))], rfl⟩
    · skip
      refine ht_iconst (v := 1) (D 5 rfl) (by decide) ?_
      refine ht_goto (tgt := 14) (D 6 rfl) (by decide) ?_
      refine ht_iret (D 8 rfl) rfl rfl ?_
      exact ⟨by first | rw [b01_t (by (simp only [i_lt, i_le] at *; (have hz0 : (0 : Int32).toInt = 0 := rfl); omega))] | rw [b01_f (by (simp only [i_lt, i_le] at *; (have hz0 : (0 : Int32).toInt = 0 := rfl); omega))], rfl⟩
set_option maxRecDepth 100000 in
theorem sc_isAhead (x : Int32) : Sp G mX9_isAhead 1 [.int x] σ (fun rv σ' => rv = some (.int (b01 (1 ≤ x ∧ x ≤ 240))) ∧ σ' = σ) := by
  have D := dat dl_X9_isAhead
  show HT G mX9_isAhead 0 [some (.int x)] [] σ 1 _
  refine ht_iload_n (D 0 rfl) rfl rfl ?_
  refine ht_iconst (v := 1) (D 1 rfl) (by decide) ?_
  refine ht_sipush (v := 240) (D 2 rfl) (by decide) ?_
  refine kSX9_isWithin (As := [_, _, _]) cl_X9_142 (D 3 rfl) (sc_isWithin x 1 240) rfl (Nat.le_of_ble_eq_true rfl) rfl (Nat.le_of_ble_eq_true rfl) (by omega) ?_
  rintro _ _ ⟨rfl, rfl⟩
  refine ht_iret (D 4 rfl) rfl (b01_nar _) ?_
  exact ⟨rfl, rfl⟩
set_option maxRecDepth 100000 in
theorem sc_held {q : Nat} (hq : zK σ q = 3) : Sp G mX3_held 0 [.ref q] (cv σ Z) (fun rv σ' => rv = some (.int (Z q 0 + Z q 1)) ∧ σ' = cv σ Z) := by
  have D := dat dl_X3_held
  show HT G mX3_held 0 [some (.ref q)] [] (cv σ Z) 0 _
  refine ht_aload_n (D 0 rfl) rfl rfl ?_
  refine gi_X3_9 rfl (D 1 rfl) hq ?_
  refine ht_aload_n (D 2 rfl) rfl rfl ?_
  refine gi_X3_15 rfl (D 3 rfl) hq ?_
  refine ht_iadd (D 4 rfl) ?_
  refine ht_iret (D 5 rfl) rfl rfl ?_
  exact ⟨rfl, rfl⟩
set_option maxRecDepth 100000 in
theorem sc_isLoose {q : Nat} (hq : zK σ q = 3) : Sp G mX3_isLoose 0 [.ref q] (cv σ Z) (fun rv σ' => rv = some (.int (b01 (Z q 0 = 0))) ∧ σ' = cv σ Z) := by
  have D := dat dl_X3_isLoose
  show HT G mX3_isLoose 0 [some (.ref q)] [] (cv σ Z) 0 _
  refine ht_aload_n (D 0 rfl) rfl rfl ?_
  refine gi_X3_9 rfl (D 1 rfl) hq ?_
  refine ht_if_ne (tgt := 11) (D 2 rfl) (by decide) (fun hb4 => ?_) (fun hb4 => ?_)
  · skip
    refine ht_iconst (v := 0) (D 5 rfl) (by decide) ?_
    refine ht_iret (D 6 rfl) rfl rfl ?_
    exact ⟨by first | rw [b01_t (by assumption)] | rw [b01_f (by assumption)], rfl⟩
  · skip
    refine ht_iconst (v := 1) (D 3 rfl) (by decide) ?_
    refine ht_goto (tgt := 12) (D 4 rfl) (by decide) ?_
    refine ht_iret (D 6 rfl) rfl rfl ?_
    exact ⟨by first | rw [b01_t (by assumption)] | rw [b01_f (by assumption)], rfl⟩
set_option maxRecDepth 100000 in
theorem sc_saltBehind {q : Nat} (hq : zK σ q = 3) (x : Int32) : Sp G mX3_saltBehind 1 [.ref q, .int x] (cv σ Z) (fun rv σ' => rv = some (.int (imax 0 (Z q 2 - x))) ∧ σ' = cv σ Z) := by
  have D := dat dl_X3_saltBehind
  show HT G mX3_saltBehind 0 [some (.ref q), some (.int x)] [] (cv σ Z) 1 _
  refine ht_iconst (v := 0) (D 0 rfl) (by decide) ?_
  refine ht_aload_n (D 1 rfl) rfl rfl ?_
  refine gi_X3_18 rfl (D 2 rfl) hq ?_
  refine ht_iload_n (D 3 rfl) rfl rfl ?_
  refine ht_isub (D 4 rfl) ?_
  refine ht_mmax mm_X3_27 mm_smax mm_ini mm_cmax (D 5 rfl) (Nat.le_of_ble_eq_true rfl) (by omega) ?_
  refine ht_iret (D 6 rfl) rfl rfl ?_
  exact ⟨rfl, rfl⟩
def tkW (Z : VT) (q : Nat) (w : Int32) : Int32 := imin w (99 - (Z q 0 + Z q 1))
set_option maxRecDepth 100000 in
theorem sc_takeWater {q : Nat} (hq : zK σ q = 3) (w : Int32) : Sp G mX3_takeWater 1 [.ref q, .int w] (cv σ Z) (fun rv σ' => rv = some (.int (tkW Z q w)) ∧ σ' = cv σ (up2 Z q 1 (Z q 1 + tkW Z q w))) := by
  have D := dat dl_X3_takeWater
  show HT G mX3_takeWater 0 [some (.ref q), some (.int w), none] [] (cv σ Z) 1 _
  refine ht_iload_n (D 0 rfl) rfl rfl ?_
  refine ht_bipush (v := 99) (D 1 rfl) (by decide) ?_
  refine ht_aload_n (D 2 rfl) rfl rfl ?_
  refine kVX3_held (As := []) cl_X3_33 (D 3 rfl) (sc_held (Z := Z) hq) hq rfl (Nat.le_of_ble_eq_true rfl) rfl (Nat.le_of_ble_eq_true rfl) (by omega) ?_
  rintro _ _ ⟨rfl, rfl⟩
  refine ht_isub (D 4 rfl) ?_
  refine ht_mmin mm_X3_37 mm_smin mm_ini mm_cmin (D 5 rfl) (Nat.le_of_ble_eq_true rfl) (by omega) ?_
  refine ht_istore_n (D 6 rfl) rfl (by decide) rfl ?_
  refine ht_aload_n (D 7 rfl) rfl rfl ?_
  refine ht_dup (D 8 rfl) rfl ?_
  refine gi_X3_15 rfl (D 9 rfl) hq ?_
  refine ht_iload_n (D 10 rfl) rfl rfl ?_
  refine ht_iadd (D 11 rfl) ?_
  refine pi_X3_15 rfl (D 12 rfl) hq ?_
  refine ht_iload_n (D 13 rfl) rfl rfl ?_
  refine ht_iret (D 14 rfl) rfl rfl ?_
  exact ⟨rfl, rfl⟩
set_option maxRecDepth 100000 in
theorem sc_atMost (k x : Int32) : Sp G mX4_atMost 1 [.int k, .int x] σ (fun rv σ' => rv = some (.int (imax (-k) (imin k x))) ∧ σ' = σ) := by
  have D := dat dl_X4_atMost
  show HT G mX4_atMost 0 [some (.int k), some (.int x)] [] σ 1 _
  refine ht_iload_n (D 0 rfl) rfl rfl ?_
  refine ht_ineg (D 1 rfl) ?_
  refine ht_iload_n (D 2 rfl) rfl rfl ?_
  refine ht_iload_n (D 3 rfl) rfl rfl ?_
  refine ht_mmin mm_X4_140 mm_smin mm_ini mm_cmin (D 4 rfl) (Nat.le_of_ble_eq_true rfl) (by omega) ?_
  refine ht_mmax mm_X4_177 mm_smax mm_ini mm_cmax (D 5 rfl) (Nat.le_of_ble_eq_true rfl) (by omega) ?_
  refine ht_iret (D 6 rfl) rfl rfl ?_
  exact ⟨rfl, rfl⟩
def acr (Z : VT) (b j : Nat) (c : Int32) : Int32 := if Z (b + 3) j = c then Z (b + 4) j else if Z (b + 4) j = c then Z (b + 3) j else -2
set_option maxRecDepth 100000 in
theorem sc_across (hB : LwS σ b) {j : Nat} (hj : j < 10) (c : Int32) : Sp G mX2_across 0 [.ref b, .int (nI j), .int c] (cv σ Z) (fun rv σ' => rv = some (.int (acr Z b j c)) ∧ σ' = cv σ Z) := by
  have D := dat dl_X2_across
  show HT G mX2_across 0 [some (.ref b), some (.int (nI j)), some (.int c)] [] (cv σ Z) 0 _
  refine ht_aload_n (D 0 rfl) rfl rfl ?_
  refine gf_X2_18 rfl (D 1 rfl) hB.k0 hB.q3 ?_
  refine ht_iload_n (D 2 rfl) rfl rfl ?_
  refine hi_ild (n := j) (D 3 rfl) hB.k3 hB.n3 (by first | rfl | exact nI_add _ _ | assumption) (by omega) (by decide) ?_
  refine ht_iload_n (D 4 rfl) rfl rfl ?_
  refine ht_icmp_ne (tgt := 17) (D 5 rfl) (by decide) (fun hb7 => ?_) (fun hb7 => ?_)
  · skip
    refine ht_aload_n (D 11 rfl) rfl rfl ?_
    refine gf_X2_21 rfl (D 12 rfl) hB.k0 hB.q4 ?_
    refine ht_iload_n (D 13 rfl) rfl rfl ?_
    refine hi_ild (n := j) (D 14 rfl) hB.k4 hB.n4 (by first | rfl | exact nI_add _ _ | assumption) (by omega) (by decide) ?_
    refine ht_iload_n (D 15 rfl) rfl rfl ?_
    refine ht_icmp_ne (tgt := 36) (D 16 rfl) (by decide) (fun hb24 => ?_) (fun hb24 => ?_)
    · skip
      refine ht_bipush (v := -2) (D 22 rfl) (by decide) ?_
      refine ht_iret (D 23 rfl) rfl rfl ?_
      exact ⟨by unfold acr; simp only [*, if_true, if_false], rfl⟩
    · skip
      refine ht_aload_n (D 17 rfl) rfl rfl ?_
      refine gf_X2_18 rfl (D 18 rfl) hB.k0 hB.q3 ?_
      refine ht_iload_n (D 19 rfl) rfl rfl ?_
      refine hi_ild (n := j) (D 20 rfl) hB.k3 hB.n3 (by first | rfl | exact nI_add _ _ | assumption) (by omega) (by decide) ?_
      refine ht_goto (tgt := 38) (D 21 rfl) (by decide) ?_
      refine ht_iret (D 23 rfl) rfl rfl ?_
      exact ⟨by unfold acr; simp only [*, if_true, if_false], rfl⟩
  · skip
    refine ht_aload_n (D 6 rfl) rfl rfl ?_
    refine gf_X2_21 rfl (D 7 rfl) hB.k0 hB.q4 ?_
    refine ht_iload_n (D 8 rfl) rfl rfl ?_
    refine hi_ild (n := j) (D 9 rfl) hB.k4 hB.n4 (by first | rfl | exact nI_add _ _ | assumption) (by omega) (by decide) ?_
    refine ht_iret (D 10 rfl) rfl rfl ?_
    exact ⟨by unfold acr; simp only [*, if_true, if_false], rfl⟩
def fC (Z : VT) (b : Nat) (p : Int32) : Int32 := if p = -1 then 0 else Z (b + 2) p.toNatClampNeg
set_option maxRecDepth 100000 in
theorem sc_farOf (hB : LwS σ b) {p : Int32} (hp : p = -1 ∨ ∃ c, c < 8 ∧ p = nI c) : Sp G mX2_farOf 0 [.ref b, .int p] (cv σ Z) (fun rv σ' => rv = some (.int (fC Z b p)) ∧ σ' = cv σ Z) := by
  have D := dat dl_X2_farOf
  show HT G mX2_farOf 0 [some (.ref b), some (.int p)] [] (cv σ Z) 0 _
  refine ht_iload_n (D 0 rfl) rfl rfl ?_
  refine ht_iconst (v := -1) (D 1 rfl) (by decide) ?_
  refine ht_icmp_ne (tgt := 9) (D 2 rfl) (by decide) (fun hb2 => ?_) (fun hb2 => ?_)
  · skip
    obtain ⟨c, hc1, hc2⟩ : ∃ c, c < 8 ∧ p = nI c := by
      rcases hp with h | h
      · exact absurd h (by assumption)
      · exact h
    refine ht_aload_n (D 5 rfl) rfl rfl ?_
    refine gf_X2_15 rfl (D 6 rfl) hB.k0 hB.q2 ?_
    refine ht_iload_n (D 7 rfl) rfl rfl ?_
    refine hi_ild (n := c) (D 8 rfl) hB.k2 hB.n2 hc2 (by omega) (by decide) ?_
    refine ht_iret (D 9 rfl) rfl rfl ?_
    exact ⟨by unfold fC; first | rw [if_pos (by assumption)] | (rw [if_neg (by assumption), hc2, nI_clamp (by omega)]), rfl⟩
  · skip
    refine ht_iconst (v := 0) (D 3 rfl) (by decide) ?_
    refine ht_goto (tgt := 15) (D 4 rfl) (by decide) ?_
    refine ht_iret (D 9 rfl) rfl rfl ?_
    exact ⟨by unfold fC; first | rw [if_pos (by assumption)] | (rw [if_neg (by assumption), hc2, nI_clamp (by omega)]), rfl⟩
theorem sc_floorMod {h r : Nat} (hh : h < 2 ^ 31) (hr : 0 < r) (hr8 : r ≤ 8) : Sp G mJ9_floorMod_7cf53 0 [.int (nI h), .int (nI r)] σ (fun rv σ' => rv = some (.int (nI (h % r))) ∧ σ' = σ) := by
  have D := dat dl_J9_floorMod_7cf53
  show HT G mJ9_floorMod_7cf53 0 [some (.int (nI h)), some (.int (nI r)), none] [] σ 0 _
  refine ht_iload_n (D 0 rfl) rfl rfl ?_
  refine ht_iload_n (D 1 rfl) rfl rfl ?_
  refine ht_irem (D 2 rfl) (nI_ne0 hr (by omega)) ?_
  rw [pk_rem (by omega) (by omega) (by omega)]
  refine ht_istore_n (D 3 rfl) rfl (by decide) rfl ?_
  refine ht_iload_n (D 4 rfl) rfl rfl ?_
  refine ht_iload_n (D 5 rfl) rfl rfl ?_
  refine ht_ixor (D 6 rfl) ?_
  refine ht_if_ge (tgt := 18) (D 7 rfl) (by decide) (fun hb7 => ?_) (fun hb7 => ?_)
  · skip
    refine ht_iload_n (D 14 rfl) rfl rfl ?_
    refine ht_iret (D 15 rfl) rfl rfl ?_
    exact ⟨rfl, rfl⟩
  · skip
    exact absurd (xor_pos hh (show r < 2 ^ 31 by omega)) hb7
def gPc (Z : VT) (b g h : Nat) : Int32 := Z (b + 9) (8 * g + h % (Z (b + 10) g).toNatClampNeg)
set_option maxRecDepth 100000 in
theorem sc_guardCell (hB : LwS σ b) {g r h : Nat} (hg : g < 2) (hr1 : Z (b + 10) g = nI r) (hr2 : 0 < r) (hr3 : r ≤ 8) (hh : h < 2 ^ 31) : Sp G mX2_guardCell 1 [.ref b, .int (nI g), .int (nI h)] (cv σ Z) (fun rv σ' => rv = some (.int (gPc Z b g h)) ∧ σ' = cv σ Z) := by
  have D := dat dl_X2_guardCell
  show HT G mX2_guardCell 0 [some (.ref b), some (.int (nI g)), some (.int (nI h)), none] [] (cv σ Z) 1 _
  refine ht_aload_n (D 0 rfl) rfl rfl ?_
  refine gf_X2_39 rfl (D 1 rfl) hB.k0 hB.q10 ?_
  refine ht_iload_n (D 2 rfl) rfl rfl ?_
  refine hi_ild (n := g) (D 3 rfl) hB.k10 hB.n10 (by first | rfl | exact nI_add _ _ | assumption) (by omega) (by decide) ?_
  refine ht_istore_n (D 4 rfl) rfl (by decide) rfl ?_
  rw [hr1]
  refine ht_iload_n (D 5 rfl) rfl rfl ?_
  refine ht_if_le (tgt := 29) (D 6 rfl) (by decide) (fun hb8 => ?_) (fun hb8 => ?_)
  · skip
    exact absurd hb8 (nI_nle hr2 (by omega))
  · skip
    refine ht_aload_n (D 7 rfl) rfl rfl ?_
    refine gf_X2_36 rfl (D 8 rfl) hB.k0 hB.q9 ?_
    refine ht_iload_n (D 9 rfl) rfl rfl ?_
    refine ht_bipush (v := 8) (D 10 rfl) (by decide) ?_
    refine ht_imul (D 11 rfl) ?_
    refine ht_iload_n (D 12 rfl) rfl rfl ?_
    refine ht_iload_n (D 13 rfl) rfl rfl ?_
    refine kSJ9_floorMod_7cf53 (As := [_, _]) cl_X2_42 (D 14 rfl) (sc_floorMod (h := h) (r := r) hh hr2 hr3) rfl (Nat.le_of_ble_eq_true rfl) rfl (Nat.le_of_ble_eq_true rfl) (by omega) ?_
    rintro _ _ ⟨rfl, rfl⟩
    refine ht_iadd (D 15 rfl) ?_
    refine hi_ild (n := 8 * g + h % r) (D 16 rfl) hB.k9 hB.n9 (by rw [show (8 : Int32) = nI 8 from rfl, pk_mul, nI_add, Nat.mul_comm]) (by have := Nat.mod_lt h hr2; omega) (by decide) ?_
    refine ht_goto (tgt := 31) (D 17 rfl) (by decide) ?_
    refine ht_iret (D 19 rfl) rfl rfl ?_
    exact ⟨by unfold gPc; rw [hr1, nI_clamp (by omega)], rfl⟩
def gNc (Z : VT) (b : Nat) (c : Int32) (h : Nat) : Nat → Nat
  | 0 => 0
  | k + 1 => gNc Z b c h k + (if gPc Z b k h = c then 1 else 0)
set_option maxRecDepth 100000 in
theorem sc_guardsIn (hN : NtS σ a) (hL : zQ σ a 0 = some b) (hB : LwS σ b) {k : Nat} (hk : Z b 3 = nI k) (hk2 : k ≤ 2) (hrr : ∀ g, g < k → ∃ r, Z (b + 10) g = nI r ∧ 0 < r ∧ r ≤ 8) {h : Nat} (hh : Z a 1 = nI h) (h31 : h < 2 ^ 31) (c : Int32) : Sp G mX4_guardsIn 2 [.ref a, .int c] (cv σ Z) (fun rv σ' => rv = some (.int (nI (gNc Z b c h k))) ∧ σ' = cv σ Z) := by
  have D := dat dl_X4_guardsIn
  have loop : ∀ r j : Nat, j ≤ k → k - j = r → HT G mX4_guardsIn 4 [some (.ref a), some (.int c), some (.int (nI (gNc Z b c h j))), some (.int (nI j))] [] (cv σ Z) 2 (fun rv σ' => rv = some (.int (nI (gNc Z b c h k))) ∧ σ' = cv σ Z) := by
    intro r
    induction r using Nat.strongRecOn with
    | _ r ih =>
      intro j hj hr
      refine ht_iload_n (D 4 rfl) rfl rfl ?_
      refine ht_aload_n (D 5 rfl) rfl rfl ?_
      refine gf_X4_31 rfl (D 6 rfl) hN.k0 hL ?_
      refine gi_X4_67 rfl (D 7 rfl) hB.k0 ?_
      refine ht_icmp_ge (tgt := 45) (D 8 rfl) (by decide) (fun hb12 => ?_) (fun hb12 => ?_)
      · skip
        have hjk : j = k := by rw [hk] at hb12; have h3 := (nI_leI (a := k) (b := j) (by omega) (by omega)).mp hb12; omega
        subst hjk
        refine ht_iload_n (D 25 rfl) rfl rfl ?_
        refine ht_iret (D 26 rfl) rfl rfl ?_
        exact ⟨rfl, rfl⟩
      · skip
        have hjk : j < k := by rw [hk] at hb12; have h3 := mt (nI_leI (a := k) (b := j) (by omega) (by omega)).mpr hb12; omega
        obtain ⟨r, hr1, hr2, hr3⟩ := hrr j hjk
        refine ht_iload_n (D 9 rfl) rfl rfl ?_
        refine ht_aload_n (D 10 rfl) rfl rfl ?_
        refine gf_X4_31 rfl (D 11 rfl) hN.k0 hL ?_
        refine ht_iload_n (D 12 rfl) rfl rfl ?_
        refine ht_aload_n (D 13 rfl) rfl rfl ?_
        refine gi_X4_39 rfl (D 14 rfl) hN.k0 ?_
        rw [hh]
        refine kVX2_guardCell (As := [_, _]) cl_X4_70 (D 15 rfl) (sc_guardCell hB (g := j) (r := r) (h := h) (by omega) hr1 hr2 hr3 h31) hB.k0 rfl (Nat.le_of_ble_eq_true rfl) rfl (Nat.le_of_ble_eq_true rfl) (by omega) ?_
        rintro _ _ ⟨rfl, rfl⟩
        refine ht_iload_n (D 16 rfl) rfl rfl ?_
        refine ht_icmp_ne (tgt := 36) (D 17 rfl) (by decide) (fun hb29 => ?_) (fun hb29 => ?_)
        · skip
          refine ht_iconst (v := 0) (D 20 rfl) (by decide) ?_
          refine ht_iadd (D 21 rfl) ?_
          refine ht_istore_n (D 22 rfl) rfl (by decide) rfl ?_
          refine ht_iinc (v := nI (j + 1)) (D 23 rfl) rfl (nI_i1 _) (by decide) rfl ?_
          refine ht_goto (tgt := 4) (D 24 rfl) (by decide) ?_
          exact ht_cast (ih (k - (j + 1)) (by omega) (j + 1) (by omega) rfl) (by simp only [List.set, gNc]; first | (rw [if_pos (by assumption), ← nI_add (gNc Z b c h j) 1]; rfl) | (rw [if_neg (by assumption), Nat.add_zero]; exact congrArg (fun z => [some (Value.ref a), some (Value.int c), some (Value.int z), some (Value.int (nI (j + 1)))]) (Int32.add_zero _))) rfl rfl
        · skip
          refine ht_iconst (v := 1) (D 18 rfl) (by decide) ?_
          refine ht_goto (tgt := 37) (D 19 rfl) (by decide) ?_
          refine ht_iadd (D 21 rfl) ?_
          refine ht_istore_n (D 22 rfl) rfl (by decide) rfl ?_
          refine ht_iinc (v := nI (j + 1)) (D 23 rfl) rfl (nI_i1 _) (by decide) rfl ?_
          refine ht_goto (tgt := 4) (D 24 rfl) (by decide) ?_
          exact ht_cast (ih (k - (j + 1)) (by omega) (j + 1) (by omega) rfl) (by simp only [List.set, gNc]; first | (rw [if_pos (by assumption), ← nI_add (gNc Z b c h j) 1]; rfl) | (rw [if_neg (by assumption), Nat.add_zero]; exact congrArg (fun z => [some (Value.ref a), some (Value.int c), some (Value.int z), some (Value.int (nI (j + 1)))]) (Int32.add_zero _))) rfl rfl
  show HT G mX4_guardsIn 0 [some (.ref a), some (.int c), none, none] [] (cv σ Z) 2 _
  refine ht_iconst (v := 0) (D 0 rfl) (by decide) ?_
  refine ht_istore_n (D 1 rfl) rfl (by decide) rfl ?_
  refine ht_iconst (v := 0) (D 2 rfl) (by decide) ?_
  refine ht_istore_n (D 3 rfl) rfl (by decide) rfl ?_
  exact ht_cast (loop k 0 (by omega) (by omega)) rfl rfl rfl
def mI2 (S : ST) (c e : Int32) : Nat → Int32
  | 0 => 0
  | k + 1 => mI2 S c e k ||| (if (S k = c ∨ S k = e) ∧ ¬ S k = -1 then 1 <<< (nI k &&& 31) else 0)
set_option maxRecDepth 100000 in
theorem sc_menIn (hN : NtS σ a) (hL : zQ σ a 0 = some b) (hB : LwS σ b) {k : Nat} (hk : Z b 2 = nI k) (hk6 : k ≤ 6) (c e : Int32) : Sp G mX4_menIn 0 [.ref a, .int c, .int e] (cv σ Z) (fun rv σ' => rv = some (.int (mI2 (Z (a + 2)) c e k)) ∧ σ' = cv σ Z) := by
  have D := dat dl_X4_menIn
  have loop : ∀ r j : Nat, j ≤ k → k - j = r → ∀ l5 : Option Value, HT G mX4_menIn 5 [some (.ref a), some (.int c), some (.int e), some (.int (mI2 (Z (a + 2)) c e j)), some (.int (nI j)), l5] [] (cv σ Z) 0 (fun rv σ' => rv = some (.int (mI2 (Z (a + 2)) c e k)) ∧ σ' = cv σ Z) := by
    intro r
    induction r using Nat.strongRecOn with
    | _ r ih =>
      intro j hj hr l5
      refine ht_iload (D 4 rfl) rfl ?_
      refine ht_aload_n (D 5 rfl) rfl rfl ?_
      refine gf_X4_31 rfl (D 6 rfl) hN.k0 hL ?_
      refine gi_X4_64 rfl (D 7 rfl) hB.k0 ?_
      refine ht_icmp_ge (tgt := 75) (D 8 rfl) (by decide) (fun hb14 => ?_) (fun hb14 => ?_)
      · skip
        have hjk : j = k := by rw [hk] at hb14; have h3 := (nI_leI (a := k) (b := j) (by omega) (by omega)).mp hb14; omega
        subst hjk
        refine ht_iload_n (D 41 rfl) rfl rfl ?_
        refine ht_iret (D 42 rfl) rfl rfl ?_
        exact ⟨rfl, rfl⟩
      · skip
        have hjk : j < k := by rw [hk] at hb14; have h3 := mt (nI_leI (a := k) (b := j) (by omega) (by omega)).mpr hb14; omega
        refine ht_aload_n (D 9 rfl) rfl rfl ?_
        refine gf_X4_15 rfl (D 10 rfl) hN.k0 hN.q2 ?_
        refine ht_iload (D 11 rfl) rfl ?_
        refine hi_ild (n := j) (D 12 rfl) hN.k2 hN.n2 (by first | rfl | exact nI_add _ _ | assumption) (by omega) (by decide) ?_
        refine ht_iload_n (D 13 rfl) rfl rfl ?_
        refine ht_icmp_eq (tgt := 39) (D 14 rfl) (by decide) (fun hb25 => ?_) (fun hb25 => ?_)
        · skip
          refine ht_iconst (v := 1) (D 21 rfl) (by decide) ?_
          refine ht_goto (tgt := 44) (D 22 rfl) (by decide) ?_
          refine ht_istore (D 24 rfl) (by decide) rfl ?_
          refine ht_iload (D 25 rfl) rfl ?_
          refine ht_if_eq (tgt := 69) (D 26 rfl) (by decide) (fun hb48 => absurd hb48 (by decide)) (fun hb48 => ?_)
          refine ht_aload_n (D 27 rfl) rfl rfl ?_
          refine gf_X4_15 rfl (D 28 rfl) hN.k0 hN.q2 ?_
          refine ht_iload (D 29 rfl) rfl ?_
          refine hi_ild (n := j) (D 30 rfl) hN.k2 hN.n2 (by first | rfl | exact nI_add _ _ | assumption) (by omega) (by decide) ?_
          refine ht_iconst (v := -1) (D 31 rfl) (by decide) ?_
          refine ht_icmp_eq (tgt := 69) (D 32 rfl) (by decide) (fun hb59 => ?_) (fun hb59 => ?_)
          · skip
            refine ht_iinc (v := nI (j + 1)) (D 39 rfl) rfl (nI_i1 _) (by decide) rfl ?_
            refine ht_goto (tgt := 5) (D 40 rfl) (by decide) ?_
            exact ht_cast (ih (k - (j + 1)) (by omega) (j + 1) (by omega) rfl _) (by simp only [List.set, mI2]; first | rw [if_pos ⟨Or.inl (by assumption), by assumption⟩] | rw [if_pos ⟨Or.inr (by assumption), by assumption⟩] | rw [if_neg (fun q => by first | exact absurd (by assumption) q.2 | exact q.1.elim (by assumption) (by assumption)), Int32.or_zero]) rfl rfl
          · skip
            refine ht_iload_n (D 33 rfl) rfl rfl ?_
            refine ht_iconst (v := 1) (D 34 rfl) (by decide) ?_
            refine ht_iload (D 35 rfl) rfl ?_
            refine ht_ishl (D 36 rfl) ?_
            refine ht_ior (D 37 rfl) ?_
            refine ht_istore_n (D 38 rfl) rfl (by decide) rfl ?_
            refine ht_iinc (v := nI (j + 1)) (D 39 rfl) rfl (nI_i1 _) (by decide) rfl ?_
            refine ht_goto (tgt := 5) (D 40 rfl) (by decide) ?_
            exact ht_cast (ih (k - (j + 1)) (by omega) (j + 1) (by omega) rfl _) (by simp only [List.set, mI2]; first | rw [if_pos ⟨Or.inl (by assumption), by assumption⟩] | rw [if_pos ⟨Or.inr (by assumption), by assumption⟩] | rw [if_neg (fun q => by first | exact absurd (by assumption) q.2 | exact q.1.elim (by assumption) (by assumption)), Int32.or_zero]) rfl rfl
        · skip
          refine ht_aload_n (D 15 rfl) rfl rfl ?_
          refine gf_X4_15 rfl (D 16 rfl) hN.k0 hN.q2 ?_
          refine ht_iload (D 17 rfl) rfl ?_
          refine hi_ild (n := j) (D 18 rfl) hN.k2 hN.n2 (by first | rfl | exact nI_add _ _ | assumption) (by omega) (by decide) ?_
          refine ht_iload_n (D 19 rfl) rfl rfl ?_
          refine ht_icmp_ne (tgt := 43) (D 20 rfl) (by decide) (fun hb36 => ?_) (fun hb36 => ?_)
          · skip
            refine ht_iconst (v := 0) (D 23 rfl) (by decide) ?_
            refine ht_istore (D 24 rfl) (by decide) rfl ?_
            refine ht_iload (D 25 rfl) rfl ?_
            refine ht_if_eq (tgt := 69) (D 26 rfl) (by decide) (fun hb48 => ?_) (fun hb48 => absurd (by decide) hb48)
            refine ht_iinc (v := nI (j + 1)) (D 39 rfl) rfl (nI_i1 _) (by decide) rfl ?_
            refine ht_goto (tgt := 5) (D 40 rfl) (by decide) ?_
            exact ht_cast (ih (k - (j + 1)) (by omega) (j + 1) (by omega) rfl _) (by simp only [List.set, mI2]; first | rw [if_pos ⟨Or.inl (by assumption), by assumption⟩] | rw [if_pos ⟨Or.inr (by assumption), by assumption⟩] | rw [if_neg (fun q => by first | exact absurd (by assumption) q.2 | exact q.1.elim (by assumption) (by assumption)), Int32.or_zero]) rfl rfl
          · skip
            refine ht_iconst (v := 1) (D 21 rfl) (by decide) ?_
            refine ht_goto (tgt := 44) (D 22 rfl) (by decide) ?_
            refine ht_istore (D 24 rfl) (by decide) rfl ?_
            refine ht_iload (D 25 rfl) rfl ?_
            refine ht_if_eq (tgt := 69) (D 26 rfl) (by decide) (fun hb48 => absurd hb48 (by decide)) (fun hb48 => ?_)
            refine ht_aload_n (D 27 rfl) rfl rfl ?_
            refine gf_X4_15 rfl (D 28 rfl) hN.k0 hN.q2 ?_
            refine ht_iload (D 29 rfl) rfl ?_
            refine hi_ild (n := j) (D 30 rfl) hN.k2 hN.n2 (by first | rfl | exact nI_add _ _ | assumption) (by omega) (by decide) ?_
            refine ht_iconst (v := -1) (D 31 rfl) (by decide) ?_
            refine ht_icmp_eq (tgt := 69) (D 32 rfl) (by decide) (fun hb59 => ?_) (fun hb59 => ?_)
            · skip
              refine ht_iinc (v := nI (j + 1)) (D 39 rfl) rfl (nI_i1 _) (by decide) rfl ?_
              refine ht_goto (tgt := 5) (D 40 rfl) (by decide) ?_
              exact ht_cast (ih (k - (j + 1)) (by omega) (j + 1) (by omega) rfl _) (by simp only [List.set, mI2]; first | rw [if_pos ⟨Or.inl (by assumption), by assumption⟩] | rw [if_pos ⟨Or.inr (by assumption), by assumption⟩] | rw [if_neg (fun q => by first | exact absurd (by assumption) q.2 | exact q.1.elim (by assumption) (by assumption)), Int32.or_zero]) rfl rfl
            · skip
              refine ht_iload_n (D 33 rfl) rfl rfl ?_
              refine ht_iconst (v := 1) (D 34 rfl) (by decide) ?_
              refine ht_iload (D 35 rfl) rfl ?_
              refine ht_ishl (D 36 rfl) ?_
              refine ht_ior (D 37 rfl) ?_
              refine ht_istore_n (D 38 rfl) rfl (by decide) rfl ?_
              refine ht_iinc (v := nI (j + 1)) (D 39 rfl) rfl (nI_i1 _) (by decide) rfl ?_
              refine ht_goto (tgt := 5) (D 40 rfl) (by decide) ?_
              exact ht_cast (ih (k - (j + 1)) (by omega) (j + 1) (by omega) rfl _) (by simp only [List.set, mI2]; first | rw [if_pos ⟨Or.inl (by assumption), by assumption⟩] | rw [if_pos ⟨Or.inr (by assumption), by assumption⟩] | rw [if_neg (fun q => by first | exact absurd (by assumption) q.2 | exact q.1.elim (by assumption) (by assumption)), Int32.or_zero]) rfl rfl
  show HT G mX4_menIn 0 [some (.ref a), some (.int c), some (.int e), none, none, none] [] (cv σ Z) 0 _
  refine ht_iconst (v := 0) (D 0 rfl) (by decide) ?_
  refine ht_istore_n (D 1 rfl) rfl (by decide) rfl ?_
  refine ht_iconst (v := 0) (D 2 rfl) (by decide) ?_
  refine ht_istore (D 3 rfl) (by decide) rfl ?_
  exact ht_cast (loop k 0 (by omega) (by omega) _) rfl rfl rfl
def hNc (S : ST) : Nat → Nat
  | 0 => 0
  | k + 1 => hNc S k + (if S k = -1 then 0 else 1)
set_option maxRecDepth 100000 in
theorem sc_menHeld (hN : NtS σ a) (hL : zQ σ a 0 = some b) (hB : LwS σ b) {k : Nat} (hk : Z b 2 = nI k) (hk6 : k ≤ 6) : Sp G mX4_menHeld 0 [.ref a] (cv σ Z) (fun rv σ' => rv = some (.int (nI (hNc (Z (a + 2)) k))) ∧ σ' = cv σ Z) := by
  have D := dat dl_X4_menHeld
  have loop : ∀ r j : Nat, j ≤ k → k - j = r → HT G mX4_menHeld 4 [some (.ref a), some (.int (nI (hNc (Z (a + 2)) j))), some (.int (nI j))] [] (cv σ Z) 0 (fun rv σ' => rv = some (.int (nI (hNc (Z (a + 2)) k))) ∧ σ' = cv σ Z) := by
    intro r
    induction r using Nat.strongRecOn with
    | _ r ih =>
      intro j hj hr
      refine ht_iload_n (D 4 rfl) rfl rfl ?_
      refine ht_aload_n (D 5 rfl) rfl rfl ?_
      refine gf_X4_31 rfl (D 6 rfl) hN.k0 hL ?_
      refine gi_X4_64 rfl (D 7 rfl) hB.k0 ?_
      refine ht_icmp_ge (tgt := 39) (D 8 rfl) (by decide) (fun hb12 => ?_) (fun hb12 => ?_)
      · skip
        have hjk : j = k := by rw [hk] at hb12; have h3 := (nI_leI (a := k) (b := j) (by omega) (by omega)).mp hb12; omega
        subst hjk
        refine ht_iload_n (D 23 rfl) rfl rfl ?_
        refine ht_iret (D 24 rfl) rfl rfl ?_
        exact ⟨rfl, rfl⟩
      · skip
        have hjk : j < k := by rw [hk] at hb12; have h3 := mt (nI_leI (a := k) (b := j) (by omega) (by omega)).mpr hb12; omega
        refine ht_iload_n (D 9 rfl) rfl rfl ?_
        refine ht_aload_n (D 10 rfl) rfl rfl ?_
        refine gf_X4_15 rfl (D 11 rfl) hN.k0 hN.q2 ?_
        refine ht_iload_n (D 12 rfl) rfl rfl ?_
        refine hi_ild (n := j) (D 13 rfl) hN.k2 hN.n2 (by first | rfl | exact nI_add _ _ | assumption) (by omega) (by decide) ?_
        refine ht_iconst (v := -1) (D 14 rfl) (by decide) ?_
        refine ht_icmp_eq (tgt := 30) (D 15 rfl) (by decide) (fun hb23 => ?_) (fun hb23 => ?_)
        · skip
          refine ht_iconst (v := 0) (D 18 rfl) (by decide) ?_
          refine ht_iadd (D 19 rfl) ?_
          refine ht_istore_n (D 20 rfl) rfl (by decide) rfl ?_
          refine ht_iinc (v := nI (j + 1)) (D 21 rfl) rfl (nI_i1 _) (by decide) rfl ?_
          refine ht_goto (tgt := 4) (D 22 rfl) (by decide) ?_
          exact ht_cast (ih (k - (j + 1)) (by omega) (j + 1) (by omega) rfl) (by simp only [List.set, hNc]; first | (rw [if_neg (by assumption), ← nI_add (hNc (Z (a + 2)) j) 1]; rfl) | (rw [if_pos (by assumption), Nat.add_zero]; exact congrArg (fun z => [some (Value.ref a), some (Value.int z), some (Value.int (nI (j + 1)))]) (Int32.add_zero _))) rfl rfl
        · skip
          refine ht_iconst (v := 1) (D 16 rfl) (by decide) ?_
          refine ht_goto (tgt := 31) (D 17 rfl) (by decide) ?_
          refine ht_iadd (D 19 rfl) ?_
          refine ht_istore_n (D 20 rfl) rfl (by decide) rfl ?_
          refine ht_iinc (v := nI (j + 1)) (D 21 rfl) rfl (nI_i1 _) (by decide) rfl ?_
          refine ht_goto (tgt := 4) (D 22 rfl) (by decide) ?_
          exact ht_cast (ih (k - (j + 1)) (by omega) (j + 1) (by omega) rfl) (by simp only [List.set, hNc]; first | (rw [if_neg (by assumption), ← nI_add (hNc (Z (a + 2)) j) 1]; rfl) | (rw [if_pos (by assumption), Nat.add_zero]; exact congrArg (fun z => [some (Value.ref a), some (Value.int z), some (Value.int (nI (j + 1)))]) (Int32.add_zero _))) rfl rfl
  show HT G mX4_menHeld 0 [some (.ref a), none, none] [] (cv σ Z) 0 _
  refine ht_iconst (v := 0) (D 0 rfl) (by decide) ?_
  refine ht_istore_n (D 1 rfl) rfl (by decide) rfl ?_
  refine ht_iconst (v := 0) (D 2 rfl) (by decide) ?_
  refine ht_istore_n (D 3 rfl) rfl (by decide) rfl ?_
  exact ht_cast (loop k 0 (by omega) (by omega)) rfl rfl rfl
def anC (Z : VT) (a : Nat) : Nat → Bool
  | 0 => false
  | k + 1 => anC Z a k || decide (Z (a + 6 + k) 0 = 0)
theorem anC_t {Z : VT} {a j k : Nat} (h : j < k) (h0 : Z (a + 6 + j) 0 = 0) : anC Z a k = true := by
  induction k with
  | zero => omega
  | succ k ih =>
    simp only [anC, Bool.or_eq_true, decide_eq_true_eq]
    by_cases e : j = k
    · rw [← e]; exact Or.inr h0
    · exact Or.inl (ih (by omega))
theorem anC_f {Z : VT} {a k : Nat} (h : ∀ j, j < k → ¬ Z (a + 6 + j) 0 = 0) : anC Z a k = false := by
  induction k with
  | zero => rfl
  | succ k ih =>
    simp only [anC, Bool.or_eq_false_iff, decide_eq_false_iff_not]
    exact ⟨ih (fun j hj => h j (by omega)), h k (by omega)⟩
-- someLoose
set_option maxRecDepth 100000 in
theorem sc_someLoose (hN : NtS σ a) (hL : zQ σ a 0 = some b) (hB : LwS σ b) {k : Nat} (hk : Z b 1 = nI k) (hk10 : k ≤ 10) : Sp G mX4_someLoose 1 [.ref a] (cv σ Z) (fun rv σ' => rv = some (.int (b01 (anC Z a k = true))) ∧ σ' = cv σ Z) := by
  have D := dat dl_X4_someLoose
  have loop : ∀ r j : Nat, j ≤ k → k - j = r → (∀ j2, j2 < j → ¬ Z (a + 6 + j2) 0 = 0) → HT G mX4_someLoose 2 [some (.ref a), some (.int (nI j))] [] (cv σ Z) 1 (fun rv σ' => rv = some (.int (b01 (anC Z a k = true))) ∧ σ' = cv σ Z) := by
    intro r
    induction r using Nat.strongRecOn with
    | _ r ih =>
      intro j hj hr hno
      refine ht_iload_n (D 2 rfl) rfl rfl ?_
      refine ht_aload_n (D 3 rfl) rfl rfl ?_
      refine gf_X4_31 rfl (D 4 rfl) hN.k0 hL ?_
      refine gi_X4_74 rfl (D 5 rfl) hB.k0 ?_
      refine ht_icmp_ge (tgt := 33) (D 6 rfl) (by decide) (fun hb10 => ?_) (fun hb10 => ?_)
      · skip
        have hjk : j = k := by rw [hk] at hb10; have h3 := (nI_leI (a := k) (b := j) (by omega) (by omega)).mp hb10; omega
        subst hjk
        refine ht_iconst (v := 0) (D 17 rfl) (by decide) ?_
        refine ht_iret (D 18 rfl) rfl rfl ?_
        exact ⟨by first | rw [b01_t (anC_t hjk (b01_ne (by assumption)))] | rw [b01_f (by rw [anC_f hno]; decide)], rfl⟩
      · skip
        have hjk : j < k := by rw [hk] at hb10; have h3 := mt (nI_leI (a := k) (b := j) (by omega) (by omega)).mpr hb10; omega
        refine ht_aload_n (D 7 rfl) rfl rfl ?_
        refine gf_X4_23 rfl (D 8 rfl) hN.k0 hN.q4 ?_
        refine ht_iload_n (D 9 rfl) rfl rfl ?_
        refine ht_ald (n := j) (Or.inl rfl) (D 10 rfl) hN.k4 hN.n4 rfl (by omega) (by decide) (hN.lq (j := j) (by omega)) ?_
        refine kVX3_isLoose (As := []) cl_X4_77 (D 11 rfl) (sc_isLoose (hN.lk (j := j) (by omega))) (hN.lk (j := j) (by omega)) rfl (Nat.le_of_ble_eq_true rfl) rfl (Nat.le_of_ble_eq_true rfl) (by omega) ?_
        rintro _ _ ⟨rfl, rfl⟩
        refine ht_if_eq (tgt := 27) (D 12 rfl) (by decide) (fun hb22 => ?_) (fun hb22 => ?_)
        · skip
          refine ht_iinc (v := nI (j + 1)) (D 15 rfl) rfl (nI_i1 _) (by decide) rfl ?_
          refine ht_goto (tgt := 2) (D 16 rfl) (by decide) ?_
          exact ht_cast (ih (k - (j + 1)) (by omega) (j + 1) (by omega) rfl (fun j2 h2 => by by_cases e : j2 = j; rw [e]; exact b01_eq (by assumption); exact hno j2 (by omega))) rfl rfl rfl
        · skip
          refine ht_iconst (v := 1) (D 13 rfl) (by decide) ?_
          refine ht_iret (D 14 rfl) rfl rfl ?_
          exact ⟨by first | rw [b01_t (anC_t hjk (b01_ne (by assumption)))] | rw [b01_f (by rw [anC_f hno]; decide)], rfl⟩
  show HT G mX4_someLoose 0 [some (.ref a), none] [] (cv σ Z) 1 _
  refine ht_iconst (v := 0) (D 0 rfl) (by decide) ?_
  refine ht_istore_n (D 1 rfl) rfl (by decide) rfl ?_
  exact ht_cast (loop k 0 (by omega) (by omega) (fun j2 h2 => by omega)) rfl rfl rfl
def stC (Z : VT) (a b j : Nat) : Int32 := Z (a + 1) (Z (b + 3) j).toNatClampNeg + (if Z (b + 4) j = -1 then 0 else Z (a + 1) (Z (b + 4) j).toNatClampNeg)
set_option maxRecDepth 100000 in
theorem sc_stoveAt (hN : NtS σ a) (hL : zQ σ a 0 = some b) (hB : LwS σ b) {j : Nat} (hj : j < 10) {p : Nat} (hp : Z (b + 3) j = nI p) (hp8 : p < 8) (he : Z (b + 4) j = -1 ∨ ∃ e, e < 8 ∧ Z (b + 4) j = nI e) : Sp G mX4_stoveAt 0 [.ref a, .int (nI j)] (cv σ Z) (fun rv σ' => rv = some (.int (stC Z a b j)) ∧ σ' = cv σ Z) := by
  have D := dat dl_X4_stoveAt
  show HT G mX4_stoveAt 0 [some (.ref a), some (.int (nI j)), none] [] (cv σ Z) 0 _
  refine ht_aload_n (D 0 rfl) rfl rfl ?_
  refine gf_X4_31 rfl (D 1 rfl) hN.k0 hL ?_
  refine gf_X4_103 rfl (D 2 rfl) hB.k0 hB.q4 ?_
  refine ht_iload_n (D 3 rfl) rfl rfl ?_
  refine hi_ild (n := j) (D 4 rfl) hB.k4 hB.n4 (by first | rfl | exact nI_add _ _ | assumption) (by omega) (by decide) ?_
  refine ht_istore_n (D 5 rfl) rfl (by decide) rfl ?_
  refine ht_aload_n (D 6 rfl) rfl rfl ?_
  refine gf_X4_9 rfl (D 7 rfl) hN.k0 hN.q1 ?_
  refine ht_aload_n (D 8 rfl) rfl rfl ?_
  refine gf_X4_31 rfl (D 9 rfl) hN.k0 hL ?_
  refine gf_X4_100 rfl (D 10 rfl) hB.k0 hB.q3 ?_
  refine ht_iload_n (D 11 rfl) rfl rfl ?_
  refine hi_ild (n := j) (D 12 rfl) hB.k3 hB.n3 (by first | rfl | exact nI_add _ _ | assumption) (by omega) (by decide) ?_
  refine hi_ild (n := p) (D 13 rfl) hN.k1 hN.n1 hp (by omega) (by decide) ?_
  refine ht_iload_n (D 14 rfl) rfl rfl ?_
  refine ht_iconst (v := -1) (D 15 rfl) (by decide) ?_
  refine ht_icmp_ne (tgt := 33) (D 16 rfl) (by decide) (fun hb26 => ?_) (fun hb26 => ?_)
  · skip
    obtain ⟨e, he1, he2⟩ : ∃ e, e < 8 ∧ Z (b + 4) j = nI e := by
      rcases he with h | h
      · exact absurd h (by assumption)
      · exact h
    refine ht_aload_n (D 19 rfl) rfl rfl ?_
    refine gf_X4_9 rfl (D 20 rfl) hN.k0 hN.q1 ?_
    refine ht_iload_n (D 21 rfl) rfl rfl ?_
    refine hi_ild (n := e) (D 22 rfl) hN.k1 hN.n1 he2 (by omega) (by decide) ?_
    refine ht_iadd (D 23 rfl) ?_
    refine ht_iret (D 24 rfl) rfl rfl ?_
    exact ⟨by unfold stC; first | rw [if_pos (by assumption), hp, nI_clamp (by omega)] | (rw [if_neg (by assumption), hp, he2, nI_clamp (by omega), nI_clamp (by omega)]), rfl⟩
  · skip
    refine ht_iconst (v := 0) (D 17 rfl) (by decide) ?_
    refine ht_goto (tgt := 39) (D 18 rfl) (by decide) ?_
    refine ht_iadd (D 23 rfl) ?_
    refine ht_iret (D 24 rfl) rfl rfl ?_
    exact ⟨by unfold stC; first | rw [if_pos (by assumption), hp, nI_clamp (by omega)] | (rw [if_neg (by assumption), hp, he2, nI_clamp (by omega), nI_clamp (by omega)]), rfl⟩
def bS (x n : Int32) : Int32 := (x.toUInt32 >>> (n.toUInt32 &&& Int32.toUInt32 31)).toInt32
def bc1 (x : Int32) : Int32 := x - (bS x 1 &&& 1431655765)
def bc2 (x : Int32) : Int32 := (x &&& 858993459) + (bS x 2 &&& 858993459)
def bc3 (x : Int32) : Int32 := (x + bS x 4) &&& 252645135
def bc4 (x : Int32) : Int32 := x + bS x 8
def bc5 (x : Int32) : Int32 := x + bS x 16
def bcV (x : Int32) : Int32 := bc5 (bc4 (bc3 (bc2 (bc1 x)))) &&& 63
set_option maxRecDepth 100000 in
theorem sc_bitCount (x : Int32) : Sp G mJ6_bitCount_0f7a4 0 [.int x] σ (fun rv σ' => rv = some (.int (bcV x)) ∧ σ' = σ) := by
  have D := dat dl_J6_bitCount_0f7a4
  show HT G mJ6_bitCount_0f7a4 0 [some (.int x)] [] σ 0 _
  refine ht_iload_n (D 0 rfl) rfl rfl ?_
  refine ht_iload_n (D 1 rfl) rfl rfl ?_
  refine ht_iconst (v := 1) (D 2 rfl) (by decide) ?_
  refine ht_iushr (D 3 rfl) ?_
  refine ht_ldcw kc_J6_265 (D 4 rfl) ?_
  refine ht_iand (D 5 rfl) ?_
  refine ht_isub (D 6 rfl) ?_
  refine ht_istore_n (D 7 rfl) rfl (by decide) rfl ?_
  refine ht_iload_n (D 8 rfl) rfl rfl ?_
  refine ht_ldcw kc_J6_266 (D 9 rfl) ?_
  refine ht_iand (D 10 rfl) ?_
  refine ht_iload_n (D 11 rfl) rfl rfl ?_
  refine ht_iconst (v := 2) (D 12 rfl) (by decide) ?_
  refine ht_iushr (D 13 rfl) ?_
  refine ht_ldcw kc_J6_266 (D 14 rfl) ?_
  refine ht_iand (D 15 rfl) ?_
  refine ht_iadd (D 16 rfl) ?_
  refine ht_istore_n (D 17 rfl) rfl (by decide) rfl ?_
  refine ht_iload_n (D 18 rfl) rfl rfl ?_
  refine ht_iload_n (D 19 rfl) rfl rfl ?_
  refine ht_iconst (v := 4) (D 20 rfl) (by decide) ?_
  refine ht_iushr (D 21 rfl) ?_
  refine ht_iadd (D 22 rfl) ?_
  refine ht_ldcw kc_J6_267 (D 23 rfl) ?_
  refine ht_iand (D 24 rfl) ?_
  refine ht_istore_n (D 25 rfl) rfl (by decide) rfl ?_
  refine ht_iload_n (D 26 rfl) rfl rfl ?_
  refine ht_iload_n (D 27 rfl) rfl rfl ?_
  refine ht_bipush (v := 8) (D 28 rfl) (by decide) ?_
  refine ht_iushr (D 29 rfl) ?_
  refine ht_iadd (D 30 rfl) ?_
  refine ht_istore_n (D 31 rfl) rfl (by decide) rfl ?_
  refine ht_iload_n (D 32 rfl) rfl rfl ?_
  refine ht_iload_n (D 33 rfl) rfl rfl ?_
  refine ht_bipush (v := 16) (D 34 rfl) (by decide) ?_
  refine ht_iushr (D 35 rfl) ?_
  refine ht_iadd (D 36 rfl) ?_
  refine ht_istore_n (D 37 rfl) rfl (by decide) rfl ?_
  refine ht_iload_n (D 38 rfl) rfl rfl ?_
  refine ht_bipush (v := 63) (D 39 rfl) (by decide) ?_
  refine ht_iand (D 40 rfl) ?_
  refine ht_iret (D 41 rfl) rfl rfl ?_
  exact ⟨rfl, rfl⟩
end C1
