/-! ===== the reference: its small questions ===== -/
section M1
variable {G : GG} {σ : Hp} {m : Nat} {V : VT} {U : UT}
set_option maxRecDepth 100000 in
theorem sm_within (x lo hi : Int32) : Sp G mX10_within 0 [.int x, .int lo, .int hi] (sv σ m V U) (fun rv σ' => rv = some (.int (b01 (lo ≤ x ∧ x ≤ hi))) ∧ σ' = sv σ m V U) := by
  have D := dat dl_X10_within
  show HT G mX10_within 0 [some (.int x), some (.int lo), some (.int hi)] [] (sv σ m V U) 0 _
  refine ht_iload_n (D 0 rfl) rfl rfl ?_
  refine ht_iload_n (D 1 rfl) rfl rfl ?_
  refine ht_icmp_lt (tgt := 14) (D 2 rfl) (by decide) (fun hb2 => ?_) (fun hb2 => ?_)
  · skip
    refine ht_iconst (v := 0) (D 8 rfl) (by decide) ?_
    refine ht_iret (D 9 rfl) rfl rfl ?_
    exact ⟨by first | rw [b01_t (by (simp only [i_lt, i_le] at *; (have hz0 : (0 : Int32).toInt = 0 := rfl); omega))] | rw [b01_f (by (simp only [i_lt, i_le] at *; (have hz0 : (0 : Int32).toInt = 0 := rfl); omega))], rfl⟩
  · skip
    refine ht_iload_n (D 3 rfl) rfl rfl ?_
    refine ht_iload_n (D 4 rfl) rfl rfl ?_
    refine ht_icmp_gt (tgt := 14) (D 5 rfl) (by decide) (fun hb7 => ?_) (fun hb7 => ?_)
    · skip
      refine ht_iconst (v := 0) (D 8 rfl) (by decide) ?_
      refine ht_iret (D 9 rfl) rfl rfl ?_
      exact ⟨by first | rw [b01_t (by (simp only [i_lt, i_le] at *; (have hz0 : (0 : Int32).toInt = 0 := rfl); omega))] | rw [b01_f (by (simp only [i_lt, i_le] at *; (have hz0 : (0 : Int32).toInt = 0 := rfl); omega))], rfl⟩
    · skip
      refine ht_iconst (v := 1) (D 6 rfl) (by decide) ?_
      refine ht_goto (tgt := 15) (D 7 rfl) (by decide) ?_
      refine ht_iret (D 9 rfl) rfl rfl ?_
      exact ⟨by first | rw [b01_t (by (simp only [i_lt, i_le] at *; (have hz0 : (0 : Int32).toInt = 0 := rfl); omega))] | rw [b01_f (by (simp only [i_lt, i_le] at *; (have hz0 : (0 : Int32).toInt = 0 := rfl); omega))], rfl⟩
set_option maxRecDepth 100000 in
theorem sm_between (x lo hi : Int32) : Sp G mX10_between 0 [.int x, .int lo, .int hi] (sv σ m V U) (fun rv σ' => rv = some (.int (if x < lo then lo else if hi < x then hi else x)) ∧ σ' = sv σ m V U) := by
  have D := dat dl_X10_between
  show HT G mX10_between 0 [some (.int x), some (.int lo), some (.int hi)] [] (sv σ m V U) 0 _
  refine ht_iload_n (D 0 rfl) rfl rfl ?_
  refine ht_iload_n (D 1 rfl) rfl rfl ?_
  refine ht_icmp_ge (tgt := 9) (D 2 rfl) (by decide) (fun hb2 => ?_) (fun hb2 => ?_)
  · skip
    refine ht_iload_n (D 5 rfl) rfl rfl ?_
    refine ht_iload_n (D 6 rfl) rfl rfl ?_
    refine ht_icmp_le (tgt := 18) (D 7 rfl) (by decide) (fun hb11 => ?_) (fun hb11 => ?_)
    · skip
      refine ht_iload_n (D 10 rfl) rfl rfl ?_
      refine ht_iret (D 11 rfl) rfl rfl ?_
      exact ⟨by (repeat' split) <;> first | rfl | (exfalso; (simp only [i_lt, i_le] at *; (have hz0 : (0 : Int32).toInt = 0 := rfl); omega)), rfl⟩
    · skip
      refine ht_iload_n (D 8 rfl) rfl rfl ?_
      refine ht_goto (tgt := 19) (D 9 rfl) (by decide) ?_
      refine ht_iret (D 11 rfl) rfl rfl ?_
      exact ⟨by (repeat' split) <;> first | rfl | (exfalso; (simp only [i_lt, i_le] at *; (have hz0 : (0 : Int32).toInt = 0 := rfl); omega)), rfl⟩
  · skip
    refine ht_iload_n (D 3 rfl) rfl rfl ?_
    refine ht_goto (tgt := 19) (D 4 rfl) (by decide) ?_
    refine ht_iret (D 11 rfl) rfl rfl ?_
    exact ⟨by (repeat' split) <;> first | rfl | (exfalso; (simp only [i_lt, i_le] at *; (have hz0 : (0 : Int32).toInt = 0 := rfl); omega)), rfl⟩
set_option maxRecDepth 100000 in
theorem sm_thrown (hM : MS σ m) : Sp G mX10_thrown 0 [.ref m] (sv σ m V U) (fun rv σ' => rv = some (.int (V 0 0)) ∧ σ' = sv σ m V U) := by
  have D := dat dl_X10_thrown
  show HT G mX10_thrown 0 [some (.ref m)] [] (sv σ m V U) 0 _
  refine ht_aload_n (D 0 rfl) rfl rfl ?_
  refine gm_X10_135 hM rfl (D 1 rfl) ?_
  refine ht_iret (D 2 rfl) rfl rfl ?_
  exact ⟨rfl, rfl⟩
set_option maxRecDepth 100000 in
theorem sm_isCell (hM : MS σ m) (x : Int32) : Sp G mX10_isCell 0 [.ref m, .int x] (sv σ m V U) (fun rv σ' => rv = some (.int (b01 (0 ≤ x ∧ x < V 2 0))) ∧ σ' = sv σ m V U) := by
  have D := dat dl_X10_isCell
  show HT G mX10_isCell 0 [some (.ref m), some (.int x)] [] (sv σ m V U) 0 _
  refine ht_iload_n (D 0 rfl) rfl rfl ?_
  refine ht_if_lt (tgt := 18) (D 1 rfl) (by decide) (fun hb1 => ?_) (fun hb1 => ?_)
  · skip
    refine ht_iconst (v := 0) (D 10 rfl) (by decide) ?_
    refine ht_iret (D 11 rfl) rfl rfl ?_
    exact ⟨by first | rw [b01_t (by (simp only [i_lt, i_le] at *; (have hz0 : (0 : Int32).toInt = 0 := rfl); omega))] | rw [b01_f (by (simp only [i_lt, i_le] at *; (have hz0 : (0 : Int32).toInt = 0 := rfl); omega))], rfl⟩
  · skip
    refine ht_iload_n (D 2 rfl) rfl rfl ?_
    refine ht_aload_n (D 3 rfl) rfl rfl ?_
    refine gf_X10_13 rfl (D 4 rfl) hM.k0 hM.q2 ?_
    refine ht_iconst (v := 0) (D 5 rfl) (by decide) ?_
    refine hm_ild (o := 2) (n := 0) (by decide) (D 6 rfl) hM.k2 hM.n2 (by first | rfl | exact nI_add _ _ | assumption) (by omega) (by decide) ?_
    refine ht_icmp_ge (tgt := 18) (D 7 rfl) (by decide) (fun hb11 => ?_) (fun hb11 => ?_)
    · skip
      refine ht_iconst (v := 0) (D 10 rfl) (by decide) ?_
      refine ht_iret (D 11 rfl) rfl rfl ?_
      exact ⟨by first | rw [b01_t (by (simp only [i_lt, i_le] at *; (have hz0 : (0 : Int32).toInt = 0 := rfl); omega))] | rw [b01_f (by (simp only [i_lt, i_le] at *; (have hz0 : (0 : Int32).toInt = 0 := rfl); omega))], rfl⟩
    · skip
      refine ht_iconst (v := 1) (D 8 rfl) (by decide) ?_
      refine ht_goto (tgt := 19) (D 9 rfl) (by decide) ?_
      refine ht_iret (D 11 rfl) rfl rfl ?_
      exact ⟨by first | rw [b01_t (by (simp only [i_lt, i_le] at *; (have hz0 : (0 : Int32).toInt = 0 := rfl); omega))] | rw [b01_f (by (simp only [i_lt, i_le] at *; (have hz0 : (0 : Int32).toInt = 0 := rfl); omega))], rfl⟩
set_option maxRecDepth 100000 in
theorem sm_isDoor (hM : MS σ m) (x : Int32) : Sp G mX10_isDoor 0 [.ref m, .int x] (sv σ m V U) (fun rv σ' => rv = some (.int (b01 (0 ≤ x ∧ x < V 3 0))) ∧ σ' = sv σ m V U) := by
  have D := dat dl_X10_isDoor
  show HT G mX10_isDoor 0 [some (.ref m), some (.int x)] [] (sv σ m V U) 0 _
  refine ht_iload_n (D 0 rfl) rfl rfl ?_
  refine ht_if_lt (tgt := 18) (D 1 rfl) (by decide) (fun hb1 => ?_) (fun hb1 => ?_)
  · skip
    refine ht_iconst (v := 0) (D 10 rfl) (by decide) ?_
    refine ht_iret (D 11 rfl) rfl rfl ?_
    exact ⟨by first | rw [b01_t (by (simp only [i_lt, i_le] at *; (have hz0 : (0 : Int32).toInt = 0 := rfl); omega))] | rw [b01_f (by (simp only [i_lt, i_le] at *; (have hz0 : (0 : Int32).toInt = 0 := rfl); omega))], rfl⟩
  · skip
    refine ht_iload_n (D 2 rfl) rfl rfl ?_
    refine ht_aload_n (D 3 rfl) rfl rfl ?_
    refine gf_X10_16 rfl (D 4 rfl) hM.k0 hM.q3 ?_
    refine ht_iconst (v := 0) (D 5 rfl) (by decide) ?_
    refine hm_ild (o := 3) (n := 0) (by decide) (D 6 rfl) hM.k3 hM.n3 (by first | rfl | exact nI_add _ _ | assumption) (by omega) (by decide) ?_
    refine ht_icmp_ge (tgt := 18) (D 7 rfl) (by decide) (fun hb11 => ?_) (fun hb11 => ?_)
    · skip
      refine ht_iconst (v := 0) (D 10 rfl) (by decide) ?_
      refine ht_iret (D 11 rfl) rfl rfl ?_
      exact ⟨by first | rw [b01_t (by (simp only [i_lt, i_le] at *; (have hz0 : (0 : Int32).toInt = 0 := rfl); omega))] | rw [b01_f (by (simp only [i_lt, i_le] at *; (have hz0 : (0 : Int32).toInt = 0 := rfl); omega))], rfl⟩
    · skip
      refine ht_iconst (v := 1) (D 8 rfl) (by decide) ?_
      refine ht_goto (tgt := 19) (D 9 rfl) (by decide) ?_
      refine ht_iret (D 11 rfl) rfl rfl ?_
      exact ⟨by first | rw [b01_t (by (simp only [i_lt, i_le] at *; (have hz0 : (0 : Int32).toInt = 0 := rfl); omega))] | rw [b01_f (by (simp only [i_lt, i_le] at *; (have hz0 : (0 : Int32).toInt = 0 := rfl); omega))], rfl⟩
set_option maxRecDepth 100000 in
theorem sm_isMan (hM : MS σ m) (x : Int32) : Sp G mX10_isMan 0 [.ref m, .int x] (sv σ m V U) (fun rv σ' => rv = some (.int (b01 (0 ≤ x ∧ x < V 4 0))) ∧ σ' = sv σ m V U) := by
  have D := dat dl_X10_isMan
  show HT G mX10_isMan 0 [some (.ref m), some (.int x)] [] (sv σ m V U) 0 _
  refine ht_iload_n (D 0 rfl) rfl rfl ?_
  refine ht_if_lt (tgt := 18) (D 1 rfl) (by decide) (fun hb1 => ?_) (fun hb1 => ?_)
  · skip
    refine ht_iconst (v := 0) (D 10 rfl) (by decide) ?_
    refine ht_iret (D 11 rfl) rfl rfl ?_
    exact ⟨by first | rw [b01_t (by (simp only [i_lt, i_le] at *; (have hz0 : (0 : Int32).toInt = 0 := rfl); omega))] | rw [b01_f (by (simp only [i_lt, i_le] at *; (have hz0 : (0 : Int32).toInt = 0 := rfl); omega))], rfl⟩
  · skip
    refine ht_iload_n (D 2 rfl) rfl rfl ?_
    refine ht_aload_n (D 3 rfl) rfl rfl ?_
    refine gf_X10_19 rfl (D 4 rfl) hM.k0 hM.q4 ?_
    refine ht_iconst (v := 0) (D 5 rfl) (by decide) ?_
    refine hm_ild (o := 4) (n := 0) (by decide) (D 6 rfl) hM.k4 hM.n4 (by first | rfl | exact nI_add _ _ | assumption) (by omega) (by decide) ?_
    refine ht_icmp_ge (tgt := 18) (D 7 rfl) (by decide) (fun hb11 => ?_) (fun hb11 => ?_)
    · skip
      refine ht_iconst (v := 0) (D 10 rfl) (by decide) ?_
      refine ht_iret (D 11 rfl) rfl rfl ?_
      exact ⟨by first | rw [b01_t (by (simp only [i_lt, i_le] at *; (have hz0 : (0 : Int32).toInt = 0 := rfl); omega))] | rw [b01_f (by (simp only [i_lt, i_le] at *; (have hz0 : (0 : Int32).toInt = 0 := rfl); omega))], rfl⟩
    · skip
      refine ht_iconst (v := 1) (D 8 rfl) (by decide) ?_
      refine ht_goto (tgt := 19) (D 9 rfl) (by decide) ?_
      refine ht_iret (D 11 rfl) rfl rfl ?_
      exact ⟨by first | rw [b01_t (by (simp only [i_lt, i_le] at *; (have hz0 : (0 : Int32).toInt = 0 := rfl); omega))] | rw [b01_f (by (simp only [i_lt, i_le] at *; (have hz0 : (0 : Int32).toInt = 0 := rfl); omega))], rfl⟩
abbrev ST : Type := Nat → Int32
def mIn (S : ST) (c : Int32) : Nat → Int32
  | 0 => 0
  | k + 1 => mIn S c k ||| (if 0 ≤ c ∧ S (68 + k) = c then 1 <<< (nI k &&& 31) else 0)
set_option maxRecDepth 100000 in
theorem sm_menIn (hM : MS σ m) {k : Nat} (hk : V 4 0 = nI k) (hk6 : k ≤ 6) (c : Int32) : Sp G mX10_menIn 0 [.ref m, .int c] (sv σ m V U) (fun rv σ' => rv = some (.int (mIn (V 33) c k)) ∧ σ' = sv σ m V U) := by
  have D := dat dl_X10_menIn
  have loop : ∀ r j : Nat, j ≤ k → k - j = r → HT G mX10_menIn 4 [some (.ref m), some (.int c), some (.int (mIn (V 33) c j)), some (.int (nI j))] [] (sv σ m V U) 0 (fun rv σ' => rv = some (.int (mIn (V 33) c k)) ∧ σ' = sv σ m V U) := by
    intro r
    induction r using Nat.strongRecOn with
    | _ r ih =>
      intro j hj hr
      refine ht_iload_n (D 4 rfl) rfl rfl ?_
      refine ht_aload_n (D 5 rfl) rfl rfl ?_
      refine gf_X10_19 rfl (D 6 rfl) hM.k0 hM.q4 ?_
      refine ht_iconst (v := 0) (D 7 rfl) (by decide) ?_
      refine hm_ild (o := 4) (n := 0) (by decide) (D 8 rfl) hM.k4 hM.n4 (by first | rfl | exact nI_add _ _ | assumption) (by omega) (by decide) ?_
      refine ht_icmp_ge (tgt := 47) (D 9 rfl) (by decide) (fun hb11 => ?_) (fun hb11 => ?_)
      · skip
        have hjk : j = k := by rw [hk] at hb11; have h3 := (nI_leI (a := k) (b := j) (by omega) (by omega)).mp hb11; omega
        subst hjk
        refine ht_iload_n (D 30 rfl) rfl rfl ?_
        refine ht_iret (D 31 rfl) rfl rfl ?_
        exact ⟨rfl, rfl⟩
      · skip
        have hjk : j < k := by rw [hk] at hb11; have h3 := mt (nI_leI (a := k) (b := j) (by omega) (by omega)).mpr hb11; omega
        refine ht_iload_n (D 10 rfl) rfl rfl ?_
        refine ht_iload_n (D 11 rfl) rfl rfl ?_
        refine ht_if_lt (tgt := 38) (D 12 rfl) (by decide) (fun hb16 => ?_) (fun hb16 => ?_)
        · skip
          refine ht_iconst (v := 0) (D 25 rfl) (by decide) ?_
          refine ht_ior (D 26 rfl) ?_
          refine ht_istore_n (D 27 rfl) rfl (by decide) rfl ?_
          refine ht_iinc (v := nI (j + 1)) (D 28 rfl) rfl (nI_i1 _) (by decide) rfl ?_
          refine ht_goto (tgt := 4) (D 29 rfl) (by decide) ?_
          exact ht_cast (ih (k - (j + 1)) (by omega) (j + 1) (by omega) rfl) (by simp only [List.set, mIn]; first | rw [if_pos ⟨by (simp only [i_lt, i_le] at *; (have hz0 : (0 : Int32).toInt = 0 := rfl); omega), by assumption⟩] | rw [if_neg (fun q => by first | exact absurd q.2 (by assumption) | exact absurd q.1 (by (simp only [i_lt, i_le] at *; (have hz0 : (0 : Int32).toInt = 0 := rfl); omega)))]) rfl rfl
        · skip
          refine ht_aload_n (D 13 rfl) rfl rfl ?_
          refine gf_X10_108 rfl (D 14 rfl) hM.k0 hM.q33 ?_
          refine ht_bipush (v := 68) (D 15 rfl) (by decide) ?_
          refine ht_iload_n (D 16 rfl) rfl rfl ?_
          refine ht_iadd (D 17 rfl) ?_
          refine hm_ild (o := 33) (n := (68 + j)) (by decide) (D 18 rfl) hM.k33 hM.n33 (by first | rfl | exact nI_add _ _ | assumption) (by omega) (by decide) ?_
          refine ht_iload_n (D 19 rfl) rfl rfl ?_
          refine ht_icmp_ne (tgt := 38) (D 20 rfl) (by decide) (fun hb29 => ?_) (fun hb29 => ?_)
          · skip
            refine ht_iconst (v := 0) (D 25 rfl) (by decide) ?_
            refine ht_ior (D 26 rfl) ?_
            refine ht_istore_n (D 27 rfl) rfl (by decide) rfl ?_
            refine ht_iinc (v := nI (j + 1)) (D 28 rfl) rfl (nI_i1 _) (by decide) rfl ?_
            refine ht_goto (tgt := 4) (D 29 rfl) (by decide) ?_
            exact ht_cast (ih (k - (j + 1)) (by omega) (j + 1) (by omega) rfl) (by simp only [List.set, mIn]; first | rw [if_pos ⟨by (simp only [i_lt, i_le] at *; (have hz0 : (0 : Int32).toInt = 0 := rfl); omega), by assumption⟩] | rw [if_neg (fun q => by first | exact absurd q.2 (by assumption) | exact absurd q.1 (by (simp only [i_lt, i_le] at *; (have hz0 : (0 : Int32).toInt = 0 := rfl); omega)))]) rfl rfl
          · skip
            refine ht_iconst (v := 1) (D 21 rfl) (by decide) ?_
            refine ht_iload_n (D 22 rfl) rfl rfl ?_
            refine ht_ishl (D 23 rfl) ?_
            refine ht_goto (tgt := 39) (D 24 rfl) (by decide) ?_
            refine ht_ior (D 26 rfl) ?_
            refine ht_istore_n (D 27 rfl) rfl (by decide) rfl ?_
            refine ht_iinc (v := nI (j + 1)) (D 28 rfl) rfl (nI_i1 _) (by decide) rfl ?_
            refine ht_goto (tgt := 4) (D 29 rfl) (by decide) ?_
            exact ht_cast (ih (k - (j + 1)) (by omega) (j + 1) (by omega) rfl) (by simp only [List.set, mIn]; first | rw [if_pos ⟨by (simp only [i_lt, i_le] at *; (have hz0 : (0 : Int32).toInt = 0 := rfl); omega), by assumption⟩] | rw [if_neg (fun q => by first | exact absurd q.2 (by assumption) | exact absurd q.1 (by (simp only [i_lt, i_le] at *; (have hz0 : (0 : Int32).toInt = 0 := rfl); omega)))]) rfl rfl
  show HT G mX10_menIn 0 [some (.ref m), some (.int c), none, none] [] (sv σ m V U) 0 _
  refine ht_iconst (v := 0) (D 0 rfl) (by decide) ?_
  refine ht_istore_n (D 1 rfl) rfl (by decide) rfl ?_
  refine ht_iconst (v := 0) (D 2 rfl) (by decide) ?_
  refine ht_istore_n (D 3 rfl) rfl (by decide) rfl ?_
  exact ht_cast (loop k 0 (by omega) (by omega)) rfl rfl rfl
def gPos (V : VT) (g h : Nat) : Int32 := V 17 (8 * g + h % (V 16 g).toNatClampNeg)
def gN (V : VT) (c : Int32) (h : Nat) : Nat → Nat
  | 0 => 0
  | k + 1 => gN V c h k + (if 0 ≤ c ∧ gPos V k h = c then 1 else 0)
theorem gN_mono (V : VT) (c : Int32) (h : Nat) {j k : Nat} (hjk : j ≤ k) : gN V c h j ≤ gN V c h k := by
  induction k with
  | zero => rw [show j = 0 by omega]; exact Nat.le_refl _
  | succ k ih =>
    by_cases e : j = k + 1
    · rw [e]; exact Nat.le_refl _
    · have h1 := ih (by omega)
      simp only [gN]
      omega
set_option maxRecDepth 100000 in
theorem sm_guardsIn (hM : MS σ m) {k : Nat} (hk : V 5 0 = nI k) (hk2 : k ≤ 2) (hrr : ∀ g, g < k → ∃ r, V 16 g = nI r ∧ 0 < r ∧ r ≤ 8) {h : Nat} (hh : h < 2 ^ 31) (c : Int32) : Sp G mX10_guardsIn 0 [.ref m, .int c, .int (nI h)] (sv σ m V U) (fun rv σ' => rv = some (.int (nI (gN V c h k))) ∧ σ' = sv σ m V U) := by
  have D := dat dl_X10_guardsIn
  have loop : ∀ r j : Nat, j ≤ k → k - j = r → HT G mX10_guardsIn 5 [some (.ref m), some (.int c), some (.int (nI h)), some (.int (nI (gN V c h j))), some (.int (nI j))] [] (sv σ m V U) 0 (fun rv σ' => rv = some (.int (nI (gN V c h k))) ∧ σ' = sv σ m V U) := by
    intro r
    induction r using Nat.strongRecOn with
    | _ r ih =>
      intro j hj hr
      refine ht_iload (D 4 rfl) rfl ?_
      refine ht_aload_n (D 5 rfl) rfl rfl ?_
      refine gf_X10_22 rfl (D 6 rfl) hM.k0 hM.q5 ?_
      refine ht_iconst (v := 0) (D 7 rfl) (by decide) ?_
      refine hm_ild (o := 5) (n := 0) (by decide) (D 8 rfl) hM.k5 hM.n5 (by first | rfl | exact nI_add _ _ | assumption) (by omega) (by decide) ?_
      refine ht_icmp_ge (tgt := 58) (D 9 rfl) (by decide) (fun hb13 => ?_) (fun hb13 => ?_)
      · skip
        have hjk : j = k := by rw [hk] at hb13; have h3 := (nI_leI (a := k) (b := j) (by omega) (by omega)).mp hb13; omega
        subst hjk
        refine ht_iload_n (D 35 rfl) rfl rfl ?_
        refine ht_iret (D 36 rfl) rfl rfl ?_
        exact ⟨rfl, rfl⟩
      · skip
        have hjk : j < k := by rw [hk] at hb13; have h3 := mt (nI_leI (a := k) (b := j) (by omega) (by omega)).mpr hb13; omega
        refine ht_iload_n (D 10 rfl) rfl rfl ?_
        refine ht_iload_n (D 11 rfl) rfl rfl ?_
        refine ht_if_lt (tgt := 49) (D 12 rfl) (by decide) (fun hb18 => ?_) (fun hb18 => ?_)
        · skip
          refine ht_iconst (v := 0) (D 30 rfl) (by decide) ?_
          refine ht_iadd (D 31 rfl) ?_
          refine ht_istore_n (D 32 rfl) rfl (by decide) rfl ?_
          refine ht_iinc (v := nI (j + 1)) (D 33 rfl) rfl (nI_i1 _) (by decide) rfl ?_
          refine ht_goto (tgt := 5) (D 34 rfl) (by decide) ?_
          exact ht_cast (ih (k - (j + 1)) (by omega) (j + 1) (by omega) rfl) (by simp only [List.set, gN]; first | (rw [if_pos ⟨by (simp only [i_lt, i_le] at *; (have hz0 : (0 : Int32).toInt = 0 := rfl); omega), by rw [hgp]; assumption⟩, ← nI_add (gN V c h j) 1]; rfl) | (rw [if_neg (fun q => by first | exact absurd q.1 (by (simp only [i_lt, i_le] at *; (have hz0 : (0 : Int32).toInt = 0 := rfl); omega)) | exact absurd (hgp.symm.trans q.2) (by assumption)), Nat.add_zero]; exact congrArg (fun z => [some (Value.ref m), some (Value.int c), some (Value.int (nI h)), some (Value.int z), some (Value.int (nI (j + 1)))]) (Int32.add_zero _))) rfl rfl
        · skip
          refine ht_aload_n (D 13 rfl) rfl rfl ?_
          refine gf_X10_59 rfl (D 14 rfl) hM.k0 hM.q17 ?_
          refine ht_bipush (v := 8) (D 15 rfl) (by decide) ?_
          refine ht_iload (D 16 rfl) rfl ?_
          refine ht_imul (D 17 rfl) ?_
          refine ht_iload_n (D 18 rfl) rfl rfl ?_
          obtain ⟨r, hr1, hr2, hr3⟩ := hrr j hjk
          refine ht_aload_n (D 19 rfl) rfl rfl ?_
          refine gf_X10_56 rfl (D 20 rfl) hM.k0 hM.q16 ?_
          refine ht_iload (D 21 rfl) rfl ?_
          refine hm_ild (o := 16) (n := j) (by decide) (D 22 rfl) hM.k16 hM.n16 (by first | rfl | exact nI_add _ _ | assumption) (by omega) (by decide) ?_
          rw [hr1]
          refine ht_irem (D 23 rfl) (nI_ne0 hr2 (by omega)) ?_
          rw [pk_rem (by omega) (by omega) (by omega)]
          refine ht_iadd (D 24 rfl) ?_
          refine hm_ild (o := 17) (n := 8 * j + h % r) (by decide) (D 25 rfl) hM.k17 hM.n17 (by rw [show (8 : Int32) = nI 8 from rfl, pk_mul, nI_add]) (by have := Nat.mod_lt h hr2; omega) (by decide) ?_
          refine ht_iload_n (D 26 rfl) rfl rfl ?_
          refine ht_icmp_ne (tgt := 49) (D 27 rfl) (by decide) (fun hb42 => ?_) (fun hb42 => ?_)
          · skip
            have hgp : gPos V j h = V 17 (8 * j + h % r) := by unfold gPos; rw [hr1, nI_clamp (by omega)]
            refine ht_iconst (v := 0) (D 30 rfl) (by decide) ?_
            refine ht_iadd (D 31 rfl) ?_
            refine ht_istore_n (D 32 rfl) rfl (by decide) rfl ?_
            refine ht_iinc (v := nI (j + 1)) (D 33 rfl) rfl (nI_i1 _) (by decide) rfl ?_
            refine ht_goto (tgt := 5) (D 34 rfl) (by decide) ?_
            exact ht_cast (ih (k - (j + 1)) (by omega) (j + 1) (by omega) rfl) (by simp only [List.set, gN]; first | (rw [if_pos ⟨by (simp only [i_lt, i_le] at *; (have hz0 : (0 : Int32).toInt = 0 := rfl); omega), by rw [hgp]; assumption⟩, ← nI_add (gN V c h j) 1]; rfl) | (rw [if_neg (fun q => by first | exact absurd q.1 (by (simp only [i_lt, i_le] at *; (have hz0 : (0 : Int32).toInt = 0 := rfl); omega)) | exact absurd (hgp.symm.trans q.2) (by assumption)), Nat.add_zero]; exact congrArg (fun z => [some (Value.ref m), some (Value.int c), some (Value.int (nI h)), some (Value.int z), some (Value.int (nI (j + 1)))]) (Int32.add_zero _))) rfl rfl
          · skip
            have hgp : gPos V j h = V 17 (8 * j + h % r) := by unfold gPos; rw [hr1, nI_clamp (by omega)]
            refine ht_iconst (v := 1) (D 28 rfl) (by decide) ?_
            refine ht_goto (tgt := 50) (D 29 rfl) (by decide) ?_
            refine ht_iadd (D 31 rfl) ?_
            refine ht_istore_n (D 32 rfl) rfl (by decide) rfl ?_
            refine ht_iinc (v := nI (j + 1)) (D 33 rfl) rfl (nI_i1 _) (by decide) rfl ?_
            refine ht_goto (tgt := 5) (D 34 rfl) (by decide) ?_
            exact ht_cast (ih (k - (j + 1)) (by omega) (j + 1) (by omega) rfl) (by simp only [List.set, gN]; first | (rw [if_pos ⟨by (simp only [i_lt, i_le] at *; (have hz0 : (0 : Int32).toInt = 0 := rfl); omega), by rw [hgp]; assumption⟩, ← nI_add (gN V c h j) 1]; rfl) | (rw [if_neg (fun q => by first | exact absurd q.1 (by (simp only [i_lt, i_le] at *; (have hz0 : (0 : Int32).toInt = 0 := rfl); omega)) | exact absurd (hgp.symm.trans q.2) (by assumption)), Nat.add_zero]; exact congrArg (fun z => [some (Value.ref m), some (Value.int c), some (Value.int (nI h)), some (Value.int z), some (Value.int (nI (j + 1)))]) (Int32.add_zero _))) rfl rfl
  show HT G mX10_guardsIn 0 [some (.ref m), some (.int c), some (.int (nI h)), none, none] [] (sv σ m V U) 0 _
  refine ht_iconst (v := 0) (D 0 rfl) (by decide) ?_
  refine ht_istore_n (D 1 rfl) rfl (by decide) rfl ?_
  refine ht_iconst (v := 0) (D 2 rfl) (by decide) ?_
  refine ht_istore (D 3 rfl) (by decide) rfl ?_
  exact ht_cast (loop k 0 (by omega) (by omega)) rfl rfl rfl
set_option maxRecDepth 100000 in
theorem sm_hasGuard (hM : MS σ m) {k : Nat} (hk : V 5 0 = nI k) (hk2 : k ≤ 2) (hrr : ∀ g, g < k → ∃ r, V 16 g = nI r ∧ 0 < r ∧ r ≤ 8) {h : Nat} (hh : h < 2 ^ 31) (c : Int32) : Sp G mX10_hasGuard 0 [.ref m, .int c, .int (nI h)] (sv σ m V U) (fun rv σ' => rv = some (.int (b01 (0 < gN V c h k))) ∧ σ' = sv σ m V U) := by
  have D := dat dl_X10_hasGuard
  have loop : ∀ r j : Nat, j ≤ k → k - j = r → gN V c h j = 0 → HT G mX10_hasGuard 2 [some (.ref m), some (.int c), some (.int (nI h)), some (.int (nI j))] [] (sv σ m V U) 0 (fun rv σ' => rv = some (.int (b01 (0 < gN V c h k))) ∧ σ' = sv σ m V U) := by
    intro r
    induction r using Nat.strongRecOn with
    | _ r ih =>
      intro j hj hr hg0
      refine ht_iload_n (D 2 rfl) rfl rfl ?_
      refine ht_aload_n (D 3 rfl) rfl rfl ?_
      refine gf_X10_22 rfl (D 4 rfl) hM.k0 hM.q5 ?_
      refine ht_iconst (v := 0) (D 5 rfl) (by decide) ?_
      refine hm_ild (o := 5) (n := 0) (by decide) (D 6 rfl) hM.k5 hM.n5 (by first | rfl | exact nI_add _ _ | assumption) (by omega) (by decide) ?_
      refine ht_icmp_ge (tgt := 46) (D 7 rfl) (by decide) (fun hb9 => ?_) (fun hb9 => ?_)
      · skip
        have hjk : j = k := by rw [hk] at hb9; have h3 := (nI_leI (a := k) (b := j) (by omega) (by omega)).mp hb9; omega
        subst hjk
        refine ht_iconst (v := 0) (D 29 rfl) (by decide) ?_
        refine ht_iret (D 30 rfl) rfl rfl ?_
        exact ⟨by rw [b01_f (by omega)], rfl⟩
      · skip
        have hjk : j < k := by rw [hk] at hb9; have h3 := mt (nI_leI (a := k) (b := j) (by omega) (by omega)).mpr hb9; omega
        refine ht_iload_n (D 8 rfl) rfl rfl ?_
        refine ht_if_lt (tgt := 40) (D 9 rfl) (by decide) (fun hb13 => ?_) (fun hb13 => ?_)
        · skip
          refine ht_iinc (v := nI (j + 1)) (D 27 rfl) rfl (nI_i1 _) (by decide) rfl ?_
          refine ht_goto (tgt := 2) (D 28 rfl) (by decide) ?_
          exact ht_cast (ih (k - (j + 1)) (by omega) (j + 1) (by omega) rfl (by simp only [gN]; rw [if_neg (fun q => by first | exact absurd q.1 (by (simp only [i_lt, i_le] at *; (have hz0 : (0 : Int32).toInt = 0 := rfl); omega)) | exact absurd (hgp.symm.trans q.2) (by assumption))]; omega)) rfl rfl rfl
        · skip
          refine ht_aload_n (D 10 rfl) rfl rfl ?_
          refine gf_X10_59 rfl (D 11 rfl) hM.k0 hM.q17 ?_
          refine ht_bipush (v := 8) (D 12 rfl) (by decide) ?_
          refine ht_iload_n (D 13 rfl) rfl rfl ?_
          refine ht_imul (D 14 rfl) ?_
          obtain ⟨r, hr1, hr2, hr3⟩ := hrr j hjk
          refine ht_iload_n (D 15 rfl) rfl rfl ?_
          refine ht_aload_n (D 16 rfl) rfl rfl ?_
          refine gf_X10_56 rfl (D 17 rfl) hM.k0 hM.q16 ?_
          refine ht_iload_n (D 18 rfl) rfl rfl ?_
          refine hm_ild (o := 16) (n := j) (by decide) (D 19 rfl) hM.k16 hM.n16 (by first | rfl | exact nI_add _ _ | assumption) (by omega) (by decide) ?_
          rw [hr1]
          refine ht_irem (D 20 rfl) (nI_ne0 hr2 (by omega)) ?_
          rw [pk_rem (by omega) (by omega) (by omega)]
          refine ht_iadd (D 21 rfl) ?_
          refine hm_ild (o := 17) (n := 8 * j + h % r) (by decide) (D 22 rfl) hM.k17 hM.n17 (by rw [show (8 : Int32) = nI 8 from rfl, pk_mul, nI_add]) (by have := Nat.mod_lt h hr2; omega) (by decide) ?_
          refine ht_iload_n (D 23 rfl) rfl rfl ?_
          refine ht_icmp_ne (tgt := 40) (D 24 rfl) (by decide) (fun hb35 => ?_) (fun hb35 => ?_)
          · skip
            have hgp : gPos V j h = V 17 (8 * j + h % r) := by unfold gPos; rw [hr1, nI_clamp (by omega)]
            refine ht_iinc (v := nI (j + 1)) (D 27 rfl) rfl (nI_i1 _) (by decide) rfl ?_
            refine ht_goto (tgt := 2) (D 28 rfl) (by decide) ?_
            exact ht_cast (ih (k - (j + 1)) (by omega) (j + 1) (by omega) rfl (by simp only [gN]; rw [if_neg (fun q => by first | exact absurd q.1 (by (simp only [i_lt, i_le] at *; (have hz0 : (0 : Int32).toInt = 0 := rfl); omega)) | exact absurd (hgp.symm.trans q.2) (by assumption))]; omega)) rfl rfl rfl
          · skip
            have hgp : gPos V j h = V 17 (8 * j + h % r) := by unfold gPos; rw [hr1, nI_clamp (by omega)]
            refine ht_iconst (v := 1) (D 25 rfl) (by decide) ?_
            refine ht_iret (D 26 rfl) rfl rfl ?_
            exact ⟨by rw [b01_t (by have h4 := gN_mono V c h (j := j + 1) (k := k) (by omega); simp only [gN] at h4; rw [if_pos ⟨by (simp only [i_lt, i_le] at *; (have hz0 : (0 : Int32).toInt = 0 := rfl); omega), by rw [hgp]; assumption⟩] at h4; omega)], rfl⟩
  show HT G mX10_hasGuard 0 [some (.ref m), some (.int c), some (.int (nI h)), none] [] (sv σ m V U) 0 _
  refine ht_iconst (v := 0) (D 0 rfl) (by decide) ?_
  refine ht_istore_n (D 1 rfl) rfl (by decide) rfl ?_
  exact ht_cast (loop k 0 (by omega) (by omega) rfl) rfl rfl rfl
def bC (x : Int32) : Nat → Int32
  | 0 => 0
  | k + 1 => bC x k + (x >>> (nI k &&& 31) &&& 1)
set_option maxRecDepth 100000 in
theorem sm_bits (x : Int32) : Sp G mX10_bits 0 [.int x] (sv σ m V U) (fun rv σ' => rv = some (.int (bC x 6)) ∧ σ' = sv σ m V U) := by
  have D := dat dl_X10_bits
  have loop : ∀ r j : Nat, j ≤ 6 → 6 - j = r → HT G mX10_bits 4 [some (.int x), some (.int (bC x j)), some (.int (nI j))] [] (sv σ m V U) 0 (fun rv σ' => rv = some (.int (bC x 6)) ∧ σ' = sv σ m V U) := by
    intro r
    induction r using Nat.strongRecOn with
    | _ r ih =>
      intro j hj hr
      refine ht_iload_n (D 4 rfl) rfl rfl ?_
      refine ht_bipush (v := 6) (D 5 rfl) (by decide) ?_
      refine ht_icmp_ge (tgt := 24) (D 6 rfl) (by decide) (fun hb7 => ?_) (fun hb7 => ?_)
      · skip
        have hjk : j = 6 := by have h3 := (nI_leI (a := 6) (b := j) (by omega) (by omega)).mp hb7; omega
        subst hjk
        refine ht_iload_n (D 17 rfl) rfl rfl ?_
        refine ht_iret (D 18 rfl) rfl rfl ?_
        exact ⟨rfl, rfl⟩
      · skip
        have hjk : j < 6 := by have h3 := mt (nI_leI (a := 6) (b := j) (by omega) (by omega)).mpr hb7; omega
        refine ht_iload_n (D 7 rfl) rfl rfl ?_
        refine ht_iload_n (D 8 rfl) rfl rfl ?_
        refine ht_iload_n (D 9 rfl) rfl rfl ?_
        refine ht_ishr (D 10 rfl) ?_
        refine ht_iconst (v := 1) (D 11 rfl) (by decide) ?_
        refine ht_iand (D 12 rfl) ?_
        refine ht_iadd (D 13 rfl) ?_
        refine ht_istore_n (D 14 rfl) rfl (by decide) rfl ?_
        refine ht_iinc (v := nI (j + 1)) (D 15 rfl) rfl (nI_i1 _) (by decide) rfl ?_
        refine ht_goto (tgt := 4) (D 16 rfl) (by decide) ?_
        exact ht_cast (ih (6 - (j + 1)) (by omega) (j + 1) (by omega) rfl) rfl rfl rfl
  show HT G mX10_bits 0 [some (.int x), none, none] [] (sv σ m V U) 0 _
  refine ht_iconst (v := 0) (D 0 rfl) (by decide) ?_
  refine ht_istore_n (D 1 rfl) rfl (by decide) rfl ?_
  refine ht_iconst (v := 0) (D 2 rfl) (by decide) ?_
  refine ht_istore_n (D 3 rfl) rfl (by decide) rfl ?_
  exact ht_cast (loop 6 0 (by omega) (by omega)) rfl rfl rfl
def ld (V : VT) (j : Nat) (c : Int32) : Int32 := if V 10 j = c then V 11 j else if V 11 j = c then V 10 j else -2
set_option maxRecDepth 100000 in
theorem sm_leads (hM : MS σ m) {j : Nat} (hj : j < 60) (c : Int32) : Sp G mX10_leads 0 [.ref m, .int (nI j), .int c] (sv σ m V U) (fun rv σ' => rv = some (.int (ld V j c)) ∧ σ' = sv σ m V U) := by
  have D := dat dl_X10_leads
  show HT G mX10_leads 0 [some (.ref m), some (.int (nI j)), some (.int c)] [] (sv σ m V U) 0 _
  refine ht_aload_n (D 0 rfl) rfl rfl ?_
  refine gf_X10_38 rfl (D 1 rfl) hM.k0 hM.q10 ?_
  refine ht_iload_n (D 2 rfl) rfl rfl ?_
  refine hm_ild (o := 10) (n := j) (by decide) (D 3 rfl) hM.k10 hM.n10 (by first | rfl | exact nI_add _ _ | assumption) (by omega) (by decide) ?_
  refine ht_iload_n (D 4 rfl) rfl rfl ?_
  refine ht_icmp_ne (tgt := 19) (D 5 rfl) (by decide) (fun hb7 => ?_) (fun hb7 => ?_)
  · skip
    refine ht_aload_n (D 11 rfl) rfl rfl ?_
    refine gf_X10_41 rfl (D 12 rfl) hM.k0 hM.q11 ?_
    refine ht_iload_n (D 13 rfl) rfl rfl ?_
    refine hm_ild (o := 11) (n := j) (by decide) (D 14 rfl) hM.k11 hM.n11 (by first | rfl | exact nI_add _ _ | assumption) (by omega) (by decide) ?_
    refine ht_iload_n (D 15 rfl) rfl rfl ?_
    refine ht_icmp_ne (tgt := 38) (D 16 rfl) (by decide) (fun hb26 => ?_) (fun hb26 => ?_)
    · skip
      refine ht_bipush (v := -2) (D 22 rfl) (by decide) ?_
      refine ht_iret (D 23 rfl) rfl rfl ?_
      exact ⟨by unfold ld; simp only [*, if_true, if_false], rfl⟩
    · skip
      refine ht_aload_n (D 17 rfl) rfl rfl ?_
      refine gf_X10_38 rfl (D 18 rfl) hM.k0 hM.q10 ?_
      refine ht_iload_n (D 19 rfl) rfl rfl ?_
      refine hm_ild (o := 10) (n := j) (by decide) (D 20 rfl) hM.k10 hM.n10 (by first | rfl | exact nI_add _ _ | assumption) (by omega) (by decide) ?_
      refine ht_goto (tgt := 40) (D 21 rfl) (by decide) ?_
      refine ht_iret (D 23 rfl) rfl rfl ?_
      exact ⟨by unfold ld; simp only [*, if_true, if_false], rfl⟩
  · skip
    refine ht_aload_n (D 6 rfl) rfl rfl ?_
    refine gf_X10_41 rfl (D 7 rfl) hM.k0 hM.q11 ?_
    refine ht_iload_n (D 8 rfl) rfl rfl ?_
    refine hm_ild (o := 11) (n := j) (by decide) (D 9 rfl) hM.k11 hM.n11 (by first | rfl | exact nI_add _ _ | assumption) (by omega) (by decide) ?_
    refine ht_goto (tgt := 40) (D 10 rfl) (by decide) ?_
    refine ht_iret (D 23 rfl) rfl rfl ?_
    exact ⟨by unfold ld; simp only [*, if_true, if_false], rfl⟩
def fO (V : VT) (p : Int32) : Int32 := if p < 0 then 0 else V 36 p.toNatClampNeg
set_option maxRecDepth 100000 in
theorem sm_farOf (hM : MS σ m) {p : Int32} (hp : p < 0 ∨ ∃ c, c < 8 ∧ p = nI c) : Sp G mX10_farOf 0 [.ref m, .int p] (sv σ m V U) (fun rv σ' => rv = some (.int (fO V p)) ∧ σ' = sv σ m V U) := by
  have D := dat dl_X10_farOf
  show HT G mX10_farOf 0 [some (.ref m), some (.int p)] [] (sv σ m V U) 0 _
  refine ht_iload_n (D 0 rfl) rfl rfl ?_
  refine ht_if_ge (tgt := 8) (D 1 rfl) (by decide) (fun hb1 => ?_) (fun hb1 => ?_)
  · skip
    obtain ⟨c, hc1, hc2⟩ : ∃ c, c < 8 ∧ p = nI c := by
      rcases hp with h | h
      · exact absurd h (by (simp only [i_lt, i_le] at *; (have hz0 : (0 : Int32).toInt = 0 := rfl); omega))
      · exact h
    refine ht_aload_n (D 4 rfl) rfl rfl ?_
    refine gf_X10_117 rfl (D 5 rfl) hM.k0 hM.q36 ?_
    refine ht_iload_n (D 6 rfl) rfl rfl ?_
    refine hm_ild (o := 36) (n := c) (by decide) (D 7 rfl) hM.k36 hM.n36 hc2 (by omega) (by decide) ?_
    refine ht_iret (D 8 rfl) rfl rfl ?_
    exact ⟨by unfold fO; first | rw [if_pos (by (simp only [i_lt, i_le] at *; (have hz0 : (0 : Int32).toInt = 0 := rfl); omega))] | (rw [if_neg (by (simp only [i_lt, i_le] at *; (have hz0 : (0 : Int32).toInt = 0 := rfl); omega)), hc2, nI_clamp (by omega)]), rfl⟩
  · skip
    refine ht_iconst (v := 0) (D 2 rfl) (by decide) ?_
    refine ht_goto (tgt := 14) (D 3 rfl) (by decide) ?_
    refine ht_iret (D 8 rfl) rfl rfl ?_
    exact ⟨by unfold fO; first | rw [if_pos (by (simp only [i_lt, i_le] at *; (have hz0 : (0 : Int32).toInt = 0 := rfl); omega))] | (rw [if_neg (by (simp only [i_lt, i_le] at *; (have hz0 : (0 : Int32).toInt = 0 := rfl); omega)), hc2, nI_clamp (by omega)]), rfl⟩
def hN (S : ST) : Nat → Nat
  | 0 => 0
  | k + 1 => hN S k + (if 0 ≤ S (68 + k) then 1 else 0)
set_option maxRecDepth 100000 in
theorem sm_held (hM : MS σ m) {k : Nat} (hk : V 4 0 = nI k) (hk6 : k ≤ 6) : Sp G mX10_held 0 [.ref m] (sv σ m V U) (fun rv σ' => rv = some (.int (nI (hN (V 33) k))) ∧ σ' = sv σ m V U) := by
  have D := dat dl_X10_held
  have loop : ∀ r j : Nat, j ≤ k → k - j = r → HT G mX10_held 4 [some (.ref m), some (.int (nI (hN (V 33) j))), some (.int (nI j))] [] (sv σ m V U) 0 (fun rv σ' => rv = some (.int (nI (hN (V 33) k))) ∧ σ' = sv σ m V U) := by
    intro r
    induction r using Nat.strongRecOn with
    | _ r ih =>
      intro j hj hr
      refine ht_iload_n (D 4 rfl) rfl rfl ?_
      refine ht_aload_n (D 5 rfl) rfl rfl ?_
      refine gf_X10_19 rfl (D 6 rfl) hM.k0 hM.q4 ?_
      refine ht_iconst (v := 0) (D 7 rfl) (by decide) ?_
      refine hm_ild (o := 4) (n := 0) (by decide) (D 8 rfl) hM.k4 hM.n4 (by first | rfl | exact nI_add _ _ | assumption) (by omega) (by decide) ?_
      refine ht_icmp_ge (tgt := 40) (D 9 rfl) (by decide) (fun hb11 => ?_) (fun hb11 => ?_)
      · skip
        have hjk : j = k := by rw [hk] at hb11; have h3 := (nI_leI (a := k) (b := j) (by omega) (by omega)).mp hb11; omega
        subst hjk
        refine ht_iload_n (D 25 rfl) rfl rfl ?_
        refine ht_iret (D 26 rfl) rfl rfl ?_
        exact ⟨rfl, rfl⟩
      · skip
        have hjk : j < k := by rw [hk] at hb11; have h3 := mt (nI_leI (a := k) (b := j) (by omega) (by omega)).mpr hb11; omega
        refine ht_iload_n (D 10 rfl) rfl rfl ?_
        refine ht_aload_n (D 11 rfl) rfl rfl ?_
        refine gf_X10_108 rfl (D 12 rfl) hM.k0 hM.q33 ?_
        refine ht_bipush (v := 68) (D 13 rfl) (by decide) ?_
        refine ht_iload_n (D 14 rfl) rfl rfl ?_
        refine ht_iadd (D 15 rfl) ?_
        refine hm_ild (o := 33) (n := (68 + j)) (by decide) (D 16 rfl) hM.k33 hM.n33 (by first | rfl | exact nI_add _ _ | assumption) (by omega) (by decide) ?_
        refine ht_if_lt (tgt := 31) (D 17 rfl) (by decide) (fun hb24 => ?_) (fun hb24 => ?_)
        · skip
          refine ht_iconst (v := 0) (D 20 rfl) (by decide) ?_
          refine ht_iadd (D 21 rfl) ?_
          refine ht_istore_n (D 22 rfl) rfl (by decide) rfl ?_
          refine ht_iinc (v := nI (j + 1)) (D 23 rfl) rfl (nI_i1 _) (by decide) rfl ?_
          refine ht_goto (tgt := 4) (D 24 rfl) (by decide) ?_
          exact ht_cast (ih (k - (j + 1)) (by omega) (j + 1) (by omega) rfl) (by simp only [List.set, hN]; first | (rw [if_pos (by (simp only [i_lt, i_le] at *; (have hz0 : (0 : Int32).toInt = 0 := rfl); omega)), ← nI_add (hN (V 33) j) 1]; rfl) | (rw [if_neg (by (simp only [i_lt, i_le] at *; (have hz0 : (0 : Int32).toInt = 0 := rfl); omega)), Nat.add_zero]; exact congrArg (fun z => [some (Value.ref m), some (Value.int z), some (Value.int (nI (j + 1)))]) (Int32.add_zero _))) rfl rfl
        · skip
          refine ht_iconst (v := 1) (D 18 rfl) (by decide) ?_
          refine ht_goto (tgt := 32) (D 19 rfl) (by decide) ?_
          refine ht_iadd (D 21 rfl) ?_
          refine ht_istore_n (D 22 rfl) rfl (by decide) rfl ?_
          refine ht_iinc (v := nI (j + 1)) (D 23 rfl) rfl (nI_i1 _) (by decide) rfl ?_
          refine ht_goto (tgt := 4) (D 24 rfl) (by decide) ?_
          exact ht_cast (ih (k - (j + 1)) (by omega) (j + 1) (by omega) rfl) (by simp only [List.set, hN]; first | (rw [if_pos (by (simp only [i_lt, i_le] at *; (have hz0 : (0 : Int32).toInt = 0 := rfl); omega)), ← nI_add (hN (V 33) j) 1]; rfl) | (rw [if_neg (by (simp only [i_lt, i_le] at *; (have hz0 : (0 : Int32).toInt = 0 := rfl); omega)), Nat.add_zero]; exact congrArg (fun z => [some (Value.ref m), some (Value.int z), some (Value.int (nI (j + 1)))]) (Int32.add_zero _))) rfl rfl
  show HT G mX10_held 0 [some (.ref m), none, none] [] (sv σ m V U) 0 _
  refine ht_iconst (v := 0) (D 0 rfl) (by decide) ?_
  refine ht_istore_n (D 1 rfl) rfl (by decide) rfl ?_
  refine ht_iconst (v := 0) (D 2 rfl) (by decide) ?_
  refine ht_istore_n (D 3 rfl) rfl (by decide) rfl ?_
  exact ht_cast (loop k 0 (by omega) (by omega)) rfl rfl rfl
def imin (x y : Int32) : Int32 := if y < x then y else x
def imax (x y : Int32) : Int32 := if x < y then y else x
def sS (V : VT) (S : ST) : VT := fun o => if o = 33 then S else V o
theorem sS_s (V : VT) (S : ST) : sS V S 33 = S := if_pos rfl
theorem sS_o (V : VT) (S : ST) {o : Nat} (h : o ≠ 33) : sS V S o = V o := if_neg h
theorem sS_sS (V : VT) (S S' : ST) : sS (sS V S) S' = sS V S' := by
  funext o
  unfold sS
  split <;> rfl
theorem sS_id (V : VT) : sS V (V 33) = V := by
  funext o
  unfold sS
  split
  · rename_i h; rw [h]
  · rfl
theorem up2_33 (V : VT) (p : Nat) (x : Int32) : up2 V 33 p x = sS V (va_up (V 33) p x) := by
  funext o j
  unfold up2 sS va_up
  by_cases h : o = 33
  · subst h
    simp
  · simp [h]
def tn (S : ST) (p q : Nat) (v : Int32) : Int32 := if 0 < v then imin v (S q) else -(imin (-v) (S p))
def trS (S : ST) (p q : Nat) (v : Int32) : ST := va_up (va_up S p (S p + tn S p q v)) q (S q - tn S p q v)
def pr (S : ST) (j : Nat) (w : Int32) : Int32 := imin w (99 - S j - S (10 + j))
def prS (S : ST) (j : Nat) (w : Int32) : ST := va_up (va_up S (10 + j) (S (10 + j) + pr S j w)) (40 + j) (S (40 + j) + pr S j w)
set_option maxRecDepth 100000 in
theorem sm_turns (hM : MS σ m) {p q : Nat} (hp : p < 96) (hq : q < 96) (hpq : q ≠ p) (v : Int32) : Sp G mX10_turns 1 [.ref m, .int (nI p), .int (nI q), .int v] (sv σ m V U) (fun rv σ' => rv = none ∧ σ' = sv σ m (sS V (trS (V 33) p q v)) U) := by
  have D := dat dl_X10_turns
  show HT G mX10_turns 0 [some (.ref m), some (.int (nI p)), some (.int (nI q)), some (.int v), none] [] (sv σ m V U) 1 _
  refine ht_iload_n (D 0 rfl) rfl rfl ?_
  refine ht_if_le (tgt := 17) (D 1 rfl) (by decide) (fun hb1 => ?_) (fun hb1 => ?_)
  · skip
    refine ht_iload_n (D 9 rfl) rfl rfl ?_
    refine ht_ineg (D 10 rfl) ?_
    refine ht_aload_n (D 11 rfl) rfl rfl ?_
    refine gf_X10_108 rfl (D 12 rfl) hM.k0 hM.q33 ?_
    refine ht_iload_n (D 13 rfl) rfl rfl ?_
    refine hm_ild (o := 33) (n := p) (by decide) (D 14 rfl) hM.k33 hM.n33 (by first | rfl | exact nI_add _ _ | assumption) (by omega) (by decide) ?_
    refine ht_mmin mm_X10_350 mm_smin mm_ini mm_cmin (D 15 rfl) (Nat.le_of_ble_eq_true rfl) (by omega) ?_
    refine ht_ineg (D 16 rfl) ?_
    refine ht_istore (D 17 rfl) (by decide) rfl ?_
    refine ht_aload_n (D 18 rfl) rfl rfl ?_
    refine gf_X10_108 rfl (D 19 rfl) hM.k0 hM.q33 ?_
    refine ht_iload_n (D 20 rfl) rfl rfl ?_
    refine ht_dup2 (D 21 rfl) rfl rfl ?_
    refine hm_ild (o := 33) (n := p) (by decide) (D 22 rfl) hM.k33 hM.n33 (by first | rfl | exact nI_add _ _ | assumption) (by omega) (by decide) ?_
    refine ht_iload (D 23 rfl) rfl ?_
    refine ht_iadd (D 24 rfl) ?_
    refine hm_ist (o := 33) (n := p) (by decide) (D 25 rfl) hM.k33 hM.n33 (by first | rfl | exact nI_add _ _ | assumption) (by omega) (by decide) ?_
    refine ht_aload_n (D 26 rfl) rfl rfl ?_
    refine gf_X10_108 rfl (D 27 rfl) hM.k0 hM.q33 ?_
    refine ht_iload_n (D 28 rfl) rfl rfl ?_
    refine ht_dup2 (D 29 rfl) rfl rfl ?_
    refine hm_ild (o := 33) (n := q) (by decide) (D 30 rfl) hM.k33 hM.n33 (by first | rfl | exact nI_add _ _ | assumption) (by omega) (by decide) ?_
    refine ht_iload (D 31 rfl) rfl ?_
    refine ht_isub (D 32 rfl) ?_
    refine hm_ist (o := 33) (n := q) (by decide) (D 33 rfl) hM.k33 hM.n33 (by first | rfl | exact nI_add _ _ | assumption) (by omega) (by decide) ?_
    refine ht_vret (D 34 rfl) rfl ?_
    refine ⟨rfl, ?_⟩
    unfold trS tn
    first | rw [if_pos (show (0 : Int32) < v by (simp only [i_lt, i_le] at *; (have hz0 : (0 : Int32).toInt = 0 := rfl); omega))] | rw [if_neg (show ¬ (0 : Int32) < v by (simp only [i_lt, i_le] at *; (have hz0 : (0 : Int32).toInt = 0 := rfl); omega))]
    rw [up2_k V _ hpq, up2_33, up2_33, sS_sS, sS_s]
    rfl
  · skip
    refine ht_iload_n (D 2 rfl) rfl rfl ?_
    refine ht_aload_n (D 3 rfl) rfl rfl ?_
    refine gf_X10_108 rfl (D 4 rfl) hM.k0 hM.q33 ?_
    refine ht_iload_n (D 5 rfl) rfl rfl ?_
    refine hm_ild (o := 33) (n := q) (by decide) (D 6 rfl) hM.k33 hM.n33 (by first | rfl | exact nI_add _ _ | assumption) (by omega) (by decide) ?_
    refine ht_mmin mm_X10_350 mm_smin mm_ini mm_cmin (D 7 rfl) (Nat.le_of_ble_eq_true rfl) (by omega) ?_
    refine ht_goto (tgt := 29) (D 8 rfl) (by decide) ?_
    refine ht_istore (D 17 rfl) (by decide) rfl ?_
    refine ht_aload_n (D 18 rfl) rfl rfl ?_
    refine gf_X10_108 rfl (D 19 rfl) hM.k0 hM.q33 ?_
    refine ht_iload_n (D 20 rfl) rfl rfl ?_
    refine ht_dup2 (D 21 rfl) rfl rfl ?_
    refine hm_ild (o := 33) (n := p) (by decide) (D 22 rfl) hM.k33 hM.n33 (by first | rfl | exact nI_add _ _ | assumption) (by omega) (by decide) ?_
    refine ht_iload (D 23 rfl) rfl ?_
    refine ht_iadd (D 24 rfl) ?_
    refine hm_ist (o := 33) (n := p) (by decide) (D 25 rfl) hM.k33 hM.n33 (by first | rfl | exact nI_add _ _ | assumption) (by omega) (by decide) ?_
    refine ht_aload_n (D 26 rfl) rfl rfl ?_
    refine gf_X10_108 rfl (D 27 rfl) hM.k0 hM.q33 ?_
    refine ht_iload_n (D 28 rfl) rfl rfl ?_
    refine ht_dup2 (D 29 rfl) rfl rfl ?_
    refine hm_ild (o := 33) (n := q) (by decide) (D 30 rfl) hM.k33 hM.n33 (by first | rfl | exact nI_add _ _ | assumption) (by omega) (by decide) ?_
    refine ht_iload (D 31 rfl) rfl ?_
    refine ht_isub (D 32 rfl) ?_
    refine hm_ist (o := 33) (n := q) (by decide) (D 33 rfl) hM.k33 hM.n33 (by first | rfl | exact nI_add _ _ | assumption) (by omega) (by decide) ?_
    refine ht_vret (D 34 rfl) rfl ?_
    refine ⟨rfl, ?_⟩
    unfold trS tn
    first | rw [if_pos (show (0 : Int32) < v by (simp only [i_lt, i_le] at *; (have hz0 : (0 : Int32).toInt = 0 := rfl); omega))] | rw [if_neg (show ¬ (0 : Int32) < v by (simp only [i_lt, i_le] at *; (have hz0 : (0 : Int32).toInt = 0 := rfl); omega))]
    rw [up2_k V _ hpq, up2_33, up2_33, sS_sS, sS_s]
    rfl
set_option maxRecDepth 100000 in
theorem sm_poursIn (hM : MS σ m) {j : Nat} (hj : j < 10) (w : Int32) : Sp G mX10_poursIn 1 [.ref m, .int (nI j), .int w] (sv σ m V U) (fun rv σ' => rv = some (.int (pr (V 33) j w)) ∧ σ' = sv σ m (sS V (prS (V 33) j w)) U) := by
  have D := dat dl_X10_poursIn
  show HT G mX10_poursIn 0 [some (.ref m), some (.int (nI j)), some (.int w), none] [] (sv σ m V U) 1 _
  refine ht_iload_n (D 0 rfl) rfl rfl ?_
  refine ht_bipush (v := 99) (D 1 rfl) (by decide) ?_
  refine ht_aload_n (D 2 rfl) rfl rfl ?_
  refine gf_X10_108 rfl (D 3 rfl) hM.k0 hM.q33 ?_
  refine ht_iload_n (D 4 rfl) rfl rfl ?_
  refine hm_ild (o := 33) (n := j) (by decide) (D 5 rfl) hM.k33 hM.n33 (by first | rfl | exact nI_add _ _ | assumption) (by omega) (by decide) ?_
  refine ht_isub (D 6 rfl) ?_
  refine ht_aload_n (D 7 rfl) rfl rfl ?_
  refine gf_X10_108 rfl (D 8 rfl) hM.k0 hM.q33 ?_
  refine ht_bipush (v := 10) (D 9 rfl) (by decide) ?_
  refine ht_iload_n (D 10 rfl) rfl rfl ?_
  refine ht_iadd (D 11 rfl) ?_
  refine hm_ild (o := 33) (n := (10 + j)) (by decide) (D 12 rfl) hM.k33 hM.n33 (by first | rfl | exact nI_add _ _ | assumption) (by omega) (by decide) ?_
  refine ht_isub (D 13 rfl) ?_
  refine ht_mmin mm_X10_350 mm_smin mm_ini mm_cmin (D 14 rfl) (Nat.le_of_ble_eq_true rfl) (by omega) ?_
  refine ht_istore_n (D 15 rfl) rfl (by decide) rfl ?_
  refine ht_aload_n (D 16 rfl) rfl rfl ?_
  refine gf_X10_108 rfl (D 17 rfl) hM.k0 hM.q33 ?_
  refine ht_bipush (v := 10) (D 18 rfl) (by decide) ?_
  refine ht_iload_n (D 19 rfl) rfl rfl ?_
  refine ht_iadd (D 20 rfl) ?_
  refine ht_dup2 (D 21 rfl) rfl rfl ?_
  refine hm_ild (o := 33) (n := (10 + j)) (by decide) (D 22 rfl) hM.k33 hM.n33 (by first | rfl | exact nI_add _ _ | assumption) (by omega) (by decide) ?_
  refine ht_iload_n (D 23 rfl) rfl rfl ?_
  refine ht_iadd (D 24 rfl) ?_
  refine hm_ist (o := 33) (n := (10 + j)) (by decide) (D 25 rfl) hM.k33 hM.n33 (by first | rfl | exact nI_add _ _ | assumption) (by omega) (by decide) ?_
  refine ht_aload_n (D 26 rfl) rfl rfl ?_
  refine gf_X10_108 rfl (D 27 rfl) hM.k0 hM.q33 ?_
  refine ht_bipush (v := 40) (D 28 rfl) (by decide) ?_
  refine ht_iload_n (D 29 rfl) rfl rfl ?_
  refine ht_iadd (D 30 rfl) ?_
  refine ht_dup2 (D 31 rfl) rfl rfl ?_
  refine hm_ild (o := 33) (n := (40 + j)) (by decide) (D 32 rfl) hM.k33 hM.n33 (by first | rfl | exact nI_add _ _ | assumption) (by omega) (by decide) ?_
  refine ht_iload_n (D 33 rfl) rfl rfl ?_
  refine ht_iadd (D 34 rfl) ?_
  refine hm_ist (o := 33) (n := (40 + j)) (by decide) (D 35 rfl) hM.k33 hM.n33 (by first | rfl | exact nI_add _ _ | assumption) (by omega) (by decide) ?_
  refine ht_iload_n (D 36 rfl) rfl rfl ?_
  refine ht_iret (D 37 rfl) rfl rfl ?_
  exact ⟨rfl, by unfold prS; rw [up2_k V _ (by omega), up2_33, up2_33, sS_sS, sS_s]; rfl⟩
end M1
