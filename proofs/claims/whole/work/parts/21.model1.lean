/-! ===== the reference: its small questions ===== -/
section M1
variable {G : GG} {σ : Hp} {m : Nat} {V : VT} {U : UT}
set_option maxRecDepth 100000 in
theorem sm_within (x lo hi : Int32) : Sp G mX10_within 0 [.int x, .int lo, .int hi] (sv σ m V U) (fun v σ' => v = some (.int (b01 (lo ≤ x ∧ x ≤ hi))) ∧ σ' = sv σ m V U) := by
  have D := dat dl_X10_within
  show HT G mX10_within 0 [some (.int x), some (.int lo), some (.int hi)] [] (sv σ m V U) 0 _
  refine ht_iload_n (D 0 rfl) rfl rfl ?_
  refine ht_iload_n (D 1 rfl) rfl rfl ?_
  refine ht_icmp_lt (tgt := 14) (D 2 rfl) (by decide) (fun hb2 => ?_) (fun hb2 => ?_)
  · skip
    refine ht_iconst (v := 0) (D 8 rfl) (by decide) ?_
    refine ht_iret (D 9 rfl) rfl rfl ?_
    exact ⟨by first | rw [b01_t (by (simp only [i_lt, i_le] at *; (have hz0 : (0 : Int32).toInt = 0 := rfl); omega))] | rw [b01_f (by (simp only [i_lt, i_le] at *; (have hz0 : (0 : Int32).toInt = 0 := rfl); omega))], rfl⟩
  · skip
    refine ht_iload_n (D 3 rfl) rfl rfl ?_
    refine ht_iload_n (D 4 rfl) rfl rfl ?_
    refine ht_icmp_gt (tgt := 14) (D 5 rfl) (by decide) (fun hb7 => ?_) (fun hb7 => ?_)
    · skip
      refine ht_iconst (v := 0) (D 8 rfl) (by decide) ?_
      refine ht_iret (D 9 rfl) rfl rfl ?_
      exact ⟨by first | rw [b01_t (by (simp only [i_lt, i_le] at *; (have hz0 : (0 : Int32).toInt = 0 := rfl); omega))] | rw [b01_f (by (simp only [i_lt, i_le] at *; (have hz0 : (0 : Int32).toInt = 0 := rfl); omega))], rfl⟩
    · skip
      refine ht_iconst (v := 1) (D 6 rfl) (by decide) ?_
      refine ht_goto (tgt := 15) (D 7 rfl) (by decide) ?_
      refine ht_iret (D 9 rfl) rfl rfl ?_
      exact ⟨by first | rw [b01_t (by (simp only [i_lt, i_le] at *; (have hz0 : (0 : Int32).toInt = 0 := rfl); omega))] | rw [b01_f (by (simp only [i_lt, i_le] at *; (have hz0 : (0 : Int32).toInt = 0 := rfl); omega))], rfl⟩
set_option maxRecDepth 100000 in
theorem sm_between (x lo hi : Int32) : Sp G mX10_between 0 [.int x, .int lo, .int hi] (sv σ m V U) (fun v σ' => v = some (.int (if x < lo then lo else if hi < x then hi else x)) ∧ σ' = sv σ m V U) := by
  have D := dat dl_X10_between
  show HT G mX10_between 0 [some (.int x), some (.int lo), some (.int hi)] [] (sv σ m V U) 0 _
  refine ht_iload_n (D 0 rfl) rfl rfl ?_
  refine ht_iload_n (D 1 rfl) rfl rfl ?_
  refine ht_icmp_ge (tgt := 9) (D 2 rfl) (by decide) (fun hb2 => ?_) (fun hb2 => ?_)
  · skip
    refine ht_iload_n (D 5 rfl) rfl rfl ?_
    refine ht_iload_n (D 6 rfl) rfl rfl ?_
    refine ht_icmp_le (tgt := 18) (D 7 rfl) (by decide) (fun hb11 => ?_) (fun hb11 => ?_)
    · skip
      refine ht_iload_n (D 10 rfl) rfl rfl ?_
      refine ht_iret (D 11 rfl) rfl rfl ?_
      exact ⟨by (repeat' split) <;> first | rfl | (exfalso; (simp only [i_lt, i_le] at *; (have hz0 : (0 : Int32).toInt = 0 := rfl); omega)), rfl⟩
    · skip
      refine ht_iload_n (D 8 rfl) rfl rfl ?_
      refine ht_goto (tgt := 19) (D 9 rfl) (by decide) ?_
      refine ht_iret (D 11 rfl) rfl rfl ?_
      exact ⟨by (repeat' split) <;> first | rfl | (exfalso; (simp only [i_lt, i_le] at *; (have hz0 : (0 : Int32).toInt = 0 := rfl); omega)), rfl⟩
  · skip
    refine ht_iload_n (D 3 rfl) rfl rfl ?_
    refine ht_goto (tgt := 19) (D 4 rfl) (by decide) ?_
    refine ht_iret (D 11 rfl) rfl rfl ?_
    exact ⟨by (repeat' split) <;> first | rfl | (exfalso; (simp only [i_lt, i_le] at *; (have hz0 : (0 : Int32).toInt = 0 := rfl); omega)), rfl⟩
set_option maxRecDepth 100000 in
theorem sm_thrown (hM : MS σ m) : Sp G mX10_thrown 0 [.ref m] (sv σ m V U) (fun v σ' => v = some (.int (V 0 0)) ∧ σ' = sv σ m V U) := by
  have D := dat dl_X10_thrown
  show HT G mX10_thrown 0 [some (.ref m)] [] (sv σ m V U) 0 _
  refine ht_aload_n (D 0 rfl) rfl rfl ?_
  refine gm_X10_135 hM rfl (D 1 rfl) ?_
  refine ht_iret (D 2 rfl) rfl rfl ?_
  exact ⟨rfl, rfl⟩
set_option maxRecDepth 100000 in
theorem sm_isCell (hM : MS σ m) (x : Int32) : Sp G mX10_isCell 0 [.ref m, .int x] (sv σ m V U) (fun v σ' => v = some (.int (b01 (0 ≤ x ∧ x < V 2 0))) ∧ σ' = sv σ m V U) := by
  have D := dat dl_X10_isCell
  show HT G mX10_isCell 0 [some (.ref m), some (.int x)] [] (sv σ m V U) 0 _
  refine ht_iload_n (D 0 rfl) rfl rfl ?_
  refine ht_if_lt (tgt := 18) (D 1 rfl) (by decide) (fun hb1 => ?_) (fun hb1 => ?_)
  · skip
    refine ht_iconst (v := 0) (D 10 rfl) (by decide) ?_
    refine ht_iret (D 11 rfl) rfl rfl ?_
    exact ⟨by first | rw [b01_t (by (simp only [i_lt, i_le] at *; (have hz0 : (0 : Int32).toInt = 0 := rfl); omega))] | rw [b01_f (by (simp only [i_lt, i_le] at *; (have hz0 : (0 : Int32).toInt = 0 := rfl); omega))], rfl⟩
  · skip
    refine ht_iload_n (D 2 rfl) rfl rfl ?_
    refine ht_aload_n (D 3 rfl) rfl rfl ?_
    refine gf_X10_13 rfl (D 4 rfl) hM.k0 hM.q2 ?_
    refine ht_iconst (v := 0) (D 5 rfl) (by decide) ?_
    refine hm_ild (o := 2) (n := 0) (by decide) (D 6 rfl) hM.k2 hM.n2 (by first | rfl | exact nI_add _ _ | assumption) (by omega) (by decide) ?_
    refine ht_icmp_ge (tgt := 18) (D 7 rfl) (by decide) (fun hb11 => ?_) (fun hb11 => ?_)
    · skip
      refine ht_iconst (v := 0) (D 10 rfl) (by decide) ?_
      refine ht_iret (D 11 rfl) rfl rfl ?_
      exact ⟨by first | rw [b01_t (by (simp only [i_lt, i_le] at *; (have hz0 : (0 : Int32).toInt = 0 := rfl); omega))] | rw [b01_f (by (simp only [i_lt, i_le] at *; (have hz0 : (0 : Int32).toInt = 0 := rfl); omega))], rfl⟩
    · skip
      refine ht_iconst (v := 1) (D 8 rfl) (by decide) ?_
      refine ht_goto (tgt := 19) (D 9 rfl) (by decide) ?_
      refine ht_iret (D 11 rfl) rfl rfl ?_
      exact ⟨by first | rw [b01_t (by (simp only [i_lt, i_le] at *; (have hz0 : (0 : Int32).toInt = 0 := rfl); omega))] | rw [b01_f (by (simp only [i_lt, i_le] at *; (have hz0 : (0 : Int32).toInt = 0 := rfl); omega))], rfl⟩
set_option maxRecDepth 100000 in
theorem sm_isDoor (hM : MS σ m) (x : Int32) : Sp G mX10_isDoor 0 [.ref m, .int x] (sv σ m V U) (fun v σ' => v = some (.int (b01 (0 ≤ x ∧ x < V 3 0))) ∧ σ' = sv σ m V U) := by
  have D := dat dl_X10_isDoor
  show HT G mX10_isDoor 0 [some (.ref m), some (.int x)] [] (sv σ m V U) 0 _
  refine ht_iload_n (D 0 rfl) rfl rfl ?_
  refine ht_if_lt (tgt := 18) (D 1 rfl) (by decide) (fun hb1 => ?_) (fun hb1 => ?_)
  · skip
    refine ht_iconst (v := 0) (D 10 rfl) (by decide) ?_
    refine ht_iret (D 11 rfl) rfl rfl ?_
    exact ⟨by first | rw [b01_t (by (simp only [i_lt, i_le] at *; (have hz0 : (0 : Int32).toInt = 0 := rfl); omega))] | rw [b01_f (by (simp only [i_lt, i_le] at *; (have hz0 : (0 : Int32).toInt = 0 := rfl); omega))], rfl⟩
  · skip
    refine ht_iload_n (D 2 rfl) rfl rfl ?_
    refine ht_aload_n (D 3 rfl) rfl rfl ?_
    refine gf_X10_16 rfl (D 4 rfl) hM.k0 hM.q3 ?_
    refine ht_iconst (v := 0) (D 5 rfl) (by decide) ?_
    refine hm_ild (o := 3) (n := 0) (by decide) (D 6 rfl) hM.k3 hM.n3 (by first | rfl | exact nI_add _ _ | assumption) (by omega) (by decide) ?_
    refine ht_icmp_ge (tgt := 18) (D 7 rfl) (by decide) (fun hb11 => ?_) (fun hb11 => ?_)
    · skip
      refine ht_iconst (v := 0) (D 10 rfl) (by decide) ?_
      refine ht_iret (D 11 rfl) rfl rfl ?_
      exact ⟨by first | rw [b01_t (by (simp only [i_lt, i_le] at *; (have hz0 : (0 : Int32).toInt = 0 := rfl); omega))] | rw [b01_f (by (simp only [i_lt, i_le] at *; (have hz0 : (0 : Int32).toInt = 0 := rfl); omega))], rfl⟩
    · skip
      refine ht_iconst (v := 1) (D 8 rfl) (by decide) ?_
      refine ht_goto (tgt := 19) (D 9 rfl) (by decide) ?_
      refine ht_iret (D 11 rfl) rfl rfl ?_
      exact ⟨by first | rw [b01_t (by (simp only [i_lt, i_le] at *; (have hz0 : (0 : Int32).toInt = 0 := rfl); omega))] | rw [b01_f (by (simp only [i_lt, i_le] at *; (have hz0 : (0 : Int32).toInt = 0 := rfl); omega))], rfl⟩
set_option maxRecDepth 100000 in
theorem sm_isMan (hM : MS σ m) (x : Int32) : Sp G mX10_isMan 0 [.ref m, .int x] (sv σ m V U) (fun v σ' => v = some (.int (b01 (0 ≤ x ∧ x < V 4 0))) ∧ σ' = sv σ m V U) := by
  have D := dat dl_X10_isMan
  show HT G mX10_isMan 0 [some (.ref m), some (.int x)] [] (sv σ m V U) 0 _
  refine ht_iload_n (D 0 rfl) rfl rfl ?_
  refine ht_if_lt (tgt := 18) (D 1 rfl) (by decide) (fun hb1 => ?_) (fun hb1 => ?_)
  · skip
    refine ht_iconst (v := 0) (D 10 rfl) (by decide) ?_
    refine ht_iret (D 11 rfl) rfl rfl ?_
    exact ⟨by first | rw [b01_t (by (simp only [i_lt, i_le] at *; (have hz0 : (0 : Int32).toInt = 0 := rfl); omega))] | rw [b01_f (by (simp only [i_lt, i_le] at *; (have hz0 : (0 : Int32).toInt = 0 := rfl); omega))], rfl⟩
  · skip
    refine ht_iload_n (D 2 rfl) rfl rfl ?_
    refine ht_aload_n (D 3 rfl) rfl rfl ?_
    refine gf_X10_19 rfl (D 4 rfl) hM.k0 hM.q4 ?_
    refine ht_iconst (v := 0) (D 5 rfl) (by decide) ?_
    refine hm_ild (o := 4) (n := 0) (by decide) (D 6 rfl) hM.k4 hM.n4 (by first | rfl | exact nI_add _ _ | assumption) (by omega) (by decide) ?_
    refine ht_icmp_ge (tgt := 18) (D 7 rfl) (by decide) (fun hb11 => ?_) (fun hb11 => ?_)
    · skip
      refine ht_iconst (v := 0) (D 10 rfl) (by decide) ?_
      refine ht_iret (D 11 rfl) rfl rfl ?_
      exact ⟨by first | rw [b01_t (by (simp only [i_lt, i_le] at *; (have hz0 : (0 : Int32).toInt = 0 := rfl); omega))] | rw [b01_f (by (simp only [i_lt, i_le] at *; (have hz0 : (0 : Int32).toInt = 0 := rfl); omega))], rfl⟩
    · skip
      refine ht_iconst (v := 1) (D 8 rfl) (by decide) ?_
      refine ht_goto (tgt := 19) (D 9 rfl) (by decide) ?_
      refine ht_iret (D 11 rfl) rfl rfl ?_
      exact ⟨by first | rw [b01_t (by (simp only [i_lt, i_le] at *; (have hz0 : (0 : Int32).toInt = 0 := rfl); omega))] | rw [b01_f (by (simp only [i_lt, i_le] at *; (have hz0 : (0 : Int32).toInt = 0 := rfl); omega))], rfl⟩
def mIn (V : VT) (c : Int32) : Nat → Int32
  | 0 => 0
  | k + 1 => mIn V c k ||| (if 0 ≤ c ∧ V 33 (68 + k) = c then 1 <<< (nI k &&& 31) else 0)
set_option maxRecDepth 100000 in
theorem sm_menIn (hM : MS σ m) {k : Nat} (hk : V 4 0 = nI k) (hk6 : k ≤ 6) (c : Int32) : Sp G mX10_menIn 0 [.ref m, .int c] (sv σ m V U) (fun v σ' => v = some (.int (mIn V c k)) ∧ σ' = sv σ m V U) := by
  have D := dat dl_X10_menIn
  have loop : ∀ r j : Nat, j ≤ k → k - j = r → HT G mX10_menIn 4 [some (.ref m), some (.int c), some (.int (mIn V c j)), some (.int (nI j))] [] (sv σ m V U) 0 (fun v σ' => v = some (.int (mIn V c k)) ∧ σ' = sv σ m V U) := by
    intro r
    induction r using Nat.strongRecOn with
    | _ r ih =>
      intro j hj hr
      refine ht_iload_n (D 4 rfl) rfl rfl ?_
      refine ht_aload_n (D 5 rfl) rfl rfl ?_
      refine gf_X10_19 rfl (D 6 rfl) hM.k0 hM.q4 ?_
      refine ht_iconst (v := 0) (D 7 rfl) (by decide) ?_
      refine hm_ild (o := 4) (n := 0) (by decide) (D 8 rfl) hM.k4 hM.n4 (by first | rfl | exact nI_add _ _ | assumption) (by omega) (by decide) ?_
      refine ht_icmp_ge (tgt := 47) (D 9 rfl) (by decide) (fun hb11 => ?_) (fun hb11 => ?_)
      · skip
        have hjk : j = k := by rw [hk] at hb11; have h3 := (nI_leI (a := k) (b := j) (by omega) (by omega)).mp hb11; omega
        subst hjk
        refine ht_iload_n (D 30 rfl) rfl rfl ?_
        refine ht_iret (D 31 rfl) rfl rfl ?_
        exact ⟨rfl, rfl⟩
      · skip
        have hjk : j < k := by rw [hk] at hb11; have h3 := mt (nI_leI (a := k) (b := j) (by omega) (by omega)).mpr hb11; omega
        refine ht_iload_n (D 10 rfl) rfl rfl ?_
        refine ht_iload_n (D 11 rfl) rfl rfl ?_
        refine ht_if_lt (tgt := 38) (D 12 rfl) (by decide) (fun hb16 => ?_) (fun hb16 => ?_)
        · skip
          refine ht_iconst (v := 0) (D 25 rfl) (by decide) ?_
          refine ht_ior (D 26 rfl) ?_
          refine ht_istore_n (D 27 rfl) rfl (by decide) rfl ?_
          refine ht_iinc (v := nI (j + 1)) (D 28 rfl) rfl (nI_i1 _) (by decide) rfl ?_
          refine ht_goto (tgt := 4) (D 29 rfl) (by decide) ?_
          exact ht_cast (ih (k - (j + 1)) (by omega) (j + 1) (by omega) rfl) (by simp only [List.set, mIn]; first | rw [if_pos ⟨by (simp only [i_lt, i_le] at *; (have hz0 : (0 : Int32).toInt = 0 := rfl); omega), by assumption⟩] | rw [if_neg (fun q => by first | exact absurd q.2 (by assumption) | exact absurd q.1 (by (simp only [i_lt, i_le] at *; (have hz0 : (0 : Int32).toInt = 0 := rfl); omega)))]) rfl rfl
        · skip
          refine ht_aload_n (D 13 rfl) rfl rfl ?_
          refine gf_X10_108 rfl (D 14 rfl) hM.k0 hM.q33 ?_
          refine ht_bipush (v := 68) (D 15 rfl) (by decide) ?_
          refine ht_iload_n (D 16 rfl) rfl rfl ?_
          refine ht_iadd (D 17 rfl) ?_
          refine hm_ild (o := 33) (n := (68 + j)) (by decide) (D 18 rfl) hM.k33 hM.n33 (by first | rfl | exact nI_add _ _ | assumption) (by omega) (by decide) ?_
          refine ht_iload_n (D 19 rfl) rfl rfl ?_
          refine ht_icmp_ne (tgt := 38) (D 20 rfl) (by decide) (fun hb29 => ?_) (fun hb29 => ?_)
          · skip
            refine ht_iconst (v := 0) (D 25 rfl) (by decide) ?_
            refine ht_ior (D 26 rfl) ?_
            refine ht_istore_n (D 27 rfl) rfl (by decide) rfl ?_
            refine ht_iinc (v := nI (j + 1)) (D 28 rfl) rfl (nI_i1 _) (by decide) rfl ?_
            refine ht_goto (tgt := 4) (D 29 rfl) (by decide) ?_
            exact ht_cast (ih (k - (j + 1)) (by omega) (j + 1) (by omega) rfl) (by simp only [List.set, mIn]; first | rw [if_pos ⟨by (simp only [i_lt, i_le] at *; (have hz0 : (0 : Int32).toInt = 0 := rfl); omega), by assumption⟩] | rw [if_neg (fun q => by first | exact absurd q.2 (by assumption) | exact absurd q.1 (by (simp only [i_lt, i_le] at *; (have hz0 : (0 : Int32).toInt = 0 := rfl); omega)))]) rfl rfl
          · skip
            refine ht_iconst (v := 1) (D 21 rfl) (by decide) ?_
            refine ht_iload_n (D 22 rfl) rfl rfl ?_
            refine ht_ishl (D 23 rfl) ?_
            refine ht_goto (tgt := 39) (D 24 rfl) (by decide) ?_
            refine ht_ior (D 26 rfl) ?_
            refine ht_istore_n (D 27 rfl) rfl (by decide) rfl ?_
            refine ht_iinc (v := nI (j + 1)) (D 28 rfl) rfl (nI_i1 _) (by decide) rfl ?_
            refine ht_goto (tgt := 4) (D 29 rfl) (by decide) ?_
            exact ht_cast (ih (k - (j + 1)) (by omega) (j + 1) (by omega) rfl) (by simp only [List.set, mIn]; first | rw [if_pos ⟨by (simp only [i_lt, i_le] at *; (have hz0 : (0 : Int32).toInt = 0 := rfl); omega), by assumption⟩] | rw [if_neg (fun q => by first | exact absurd q.2 (by assumption) | exact absurd q.1 (by (simp only [i_lt, i_le] at *; (have hz0 : (0 : Int32).toInt = 0 := rfl); omega)))]) rfl rfl
  show HT G mX10_menIn 0 [some (.ref m), some (.int c), none, none] [] (sv σ m V U) 0 _
  refine ht_iconst (v := 0) (D 0 rfl) (by decide) ?_
  refine ht_istore_n (D 1 rfl) rfl (by decide) rfl ?_
  refine ht_iconst (v := 0) (D 2 rfl) (by decide) ?_
  refine ht_istore_n (D 3 rfl) rfl (by decide) rfl ?_
  exact ht_cast (loop k 0 (by omega) (by omega)) rfl rfl rfl
end M1
