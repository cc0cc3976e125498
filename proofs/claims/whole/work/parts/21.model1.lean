/-! ===== the reference: its small questions ===== -/
section M1
variable {G : GG} {σ : Hp} {m : Nat} {V : VT} {U : UT}
set_option maxRecDepth 100000 in
theorem sm_within (x lo hi : Int32) : Sp G mX10_within 0 [.int x, .int lo, .int hi] (sv σ m V U) (fun v σ' => v = some (.int (b01 (lo ≤ x ∧ x ≤ hi))) ∧ σ' = sv σ m V U) := by
  have D := dat dl_X10_within
  show HT G mX10_within 0 [some (.int x), some (.int lo), some (.int hi)] [] (sv σ m V U) 0 _
  refine ht_iload_n (D 0 rfl) rfl rfl ?_
  refine ht_iload_n (D 1 rfl) rfl rfl ?_
  refine ht_icmp_lt (tgt := 14) (D 2 rfl) (by decide) (fun hb2 => ?_) (fun hb2 => ?_)
  · skip
    refine ht_iconst (v := 0) (D 8 rfl) (by decide) ?_
    refine ht_iret (D 9 rfl) rfl rfl ?_
    exact ⟨by first | rw [b01_t (by (simp only [i_lt, i_le] at *; (have hz0 : (0 : Int32).toInt = 0 := rfl); omega))] | rw [b01_f (by (simp only [i_lt, i_le] at *; (have hz0 : (0 : Int32).toInt = 0 := rfl); omega))], rfl⟩
  · skip
    refine ht_iload_n (D 3 rfl) rfl rfl ?_
    refine ht_iload_n (D 4 rfl) rfl rfl ?_
    refine ht_icmp_gt (tgt := 14) (D 5 rfl) (by decide) (fun hb7 => ?_) (fun hb7 => ?_)
    · skip
      refine ht_iconst (v := 0) (D 8 rfl) (by decide) ?_
      refine ht_iret (D 9 rfl) rfl rfl ?_
      exact ⟨by first | rw [b01_t (by (simp only [i_lt, i_le] at *; (have hz0 : (0 : Int32).toInt = 0 := rfl); omega))] | rw [b01_f (by (simp only [i_lt, i_le] at *; (have hz0 : (0 : Int32).toInt = 0 := rfl); omega))], rfl⟩
    · skip
      refine ht_iconst (v := 1) (D 6 rfl) (by decide) ?_
      refine ht_goto (tgt := 15) (D 7 rfl) (by decide) ?_
      refine ht_iret (D 9 rfl) rfl rfl ?_
      exact ⟨by first | rw [b01_t (by (simp only [i_lt, i_le] at *; (have hz0 : (0 : Int32).toInt = 0 := rfl); omega))] | rw [b01_f (by (simp only [i_lt, i_le] at *; (have hz0 : (0 : Int32).toInt = 0 := rfl); omega))], rfl⟩
set_option maxRecDepth 100000 in
theorem sm_between (x lo hi : Int32) : Sp G mX10_between 0 [.int x, .int lo, .int hi] (sv σ m V U) (fun v σ' => v = some (.int (if x < lo then lo else if hi < x then hi else x)) ∧ σ' = sv σ m V U) := by
  have D := dat dl_X10_between
  show HT G mX10_between 0 [some (.int x), some (.int lo), some (.int hi)] [] (sv σ m V U) 0 _
  refine ht_iload_n (D 0 rfl) rfl rfl ?_
  refine ht_iload_n (D 1 rfl) rfl rfl ?_
  refine ht_icmp_ge (tgt := 9) (D 2 rfl) (by decide) (fun hb2 => ?_) (fun hb2 => ?_)
  · skip
    refine ht_iload_n (D 5 rfl) rfl rfl ?_
    refine ht_iload_n (D 6 rfl) rfl rfl ?_
    refine ht_icmp_le (tgt := 18) (D 7 rfl) (by decide) (fun hb11 => ?_) (fun hb11 => ?_)
    · skip
      refine ht_iload_n (D 10 rfl) rfl rfl ?_
      refine ht_iret (D 11 rfl) rfl rfl ?_
      exact ⟨by simp only [*, if_true, if_false], rfl⟩
    · skip
      refine ht_iload_n (D 8 rfl) rfl rfl ?_
      refine ht_goto (tgt := 19) (D 9 rfl) (by decide) ?_
      refine ht_iret (D 11 rfl) rfl rfl ?_
      exact ⟨by simp only [*, if_true, if_false], rfl⟩
  · skip
    refine ht_iload_n (D 3 rfl) rfl rfl ?_
    refine ht_goto (tgt := 19) (D 4 rfl) (by decide) ?_
    refine ht_iret (D 11 rfl) rfl rfl ?_
    exact ⟨by simp only [*, if_true, if_false], rfl⟩
set_option maxRecDepth 100000 in
theorem sm_thrown (hM : MS σ m) : Sp G mX10_thrown 0 [.ref m] (sv σ m V U) (fun v σ' => v = some (.int (V 0 0)) ∧ σ' = sv σ m V U) := by
  have D := dat dl_X10_thrown
  show HT G mX10_thrown 0 [some (.ref m)] [] (sv σ m V U) 0 _
  refine ht_aload_n (D 0 rfl) rfl rfl ?_
  refine gm_X10_135 hM rfl (D 1 rfl) ?_
  refine ht_iret (D 2 rfl) rfl rfl ?_
  exact ⟨rfl, rfl⟩
set_option maxRecDepth 100000 in
theorem sm_isCell (hM : MS σ m) (x : Int32) : Sp G mX10_isCell 0 [.ref m, .int x] (sv σ m V U) (fun v σ' => v = some (.int (b01 (0 ≤ x ∧ x < V 2 0))) ∧ σ' = sv σ m V U) := by
  have D := dat dl_X10_isCell
  show HT G mX10_isCell 0 [some (.ref m), some (.int x)] [] (sv σ m V U) 0 _
  refine ht_iload_n (D 0 rfl) rfl rfl ?_
  refine ht_if_lt (tgt := 18) (D 1 rfl) (by decide) (fun hb1 => ?_) (fun hb1 => ?_)
  · skip
    refine ht_iconst (v := 0) (D 10 rfl) (by decide) ?_
    refine ht_iret (D 11 rfl) rfl rfl ?_
    exact ⟨by first | rw [b01_t (by (simp only [i_lt, i_le] at *; (have hz0 : (0 : Int32).toInt = 0 := rfl); omega))] | rw [b01_f (by (simp only [i_lt, i_le] at *; (have hz0 : (0 : Int32).toInt = 0 := rfl); omega))], rfl⟩
  · skip
    refine ht_iload_n (D 2 rfl) rfl rfl ?_
    refine ht_aload_n (D 3 rfl) rfl rfl ?_
    refine gf_X10_13 rfl (D 4 rfl) hM.k0 hM.q2 ?_
    refine ht_iconst (v := 0) (D 5 rfl) (by decide) ?_
    refine hm_ild (o := 2) (n := 0) (by decide) (D 6 rfl) hM.k2 hM.n2 (by first | rfl | exact nI_add _ _ | assumption) (by omega) (by decide) ?_
    refine ht_icmp_ge (tgt := 18) (D 7 rfl) (by decide) (fun hb11 => ?_) (fun hb11 => ?_)
    · skip
      refine ht_iconst (v := 0) (D 10 rfl) (by decide) ?_
      refine ht_iret (D 11 rfl) rfl rfl ?_
      exact ⟨by first | rw [b01_t (by (simp only [i_lt, i_le] at *; (have hz0 : (0 : Int32).toInt = 0 := rfl); omega))] | rw [b01_f (by (simp only [i_lt, i_le] at *; (have hz0 : (0 : Int32).toInt = 0 := rfl); omega))], rfl⟩
    · skip
      refine ht_iconst (v := 1) (D 8 rfl) (by decide) ?_
      refine ht_goto (tgt := 19) (D 9 rfl) (by decide) ?_
      refine ht_iret (D 11 rfl) rfl rfl ?_
      exact ⟨by first | rw [b01_t (by (simp only [i_lt, i_le] at *; (have hz0 : (0 : Int32).toInt = 0 := rfl); omega))] | rw [b01_f (by (simp only [i_lt, i_le] at *; (have hz0 : (0 : Int32).toInt = 0 := rfl); omega))], rfl⟩
set_option maxRecDepth 100000 in
theorem sm_isDoor (hM : MS σ m) (x : Int32) : Sp G mX10_isDoor 0 [.ref m, .int x] (sv σ m V U) (fun v σ' => v = some (.int (b01 (0 ≤ x ∧ x < V 3 0))) ∧ σ' = sv σ m V U) := by
  have D := dat dl_X10_isDoor
  show HT G mX10_isDoor 0 [some (.ref m), some (.int x)] [] (sv σ m V U) 0 _
  refine ht_iload_n (D 0 rfl) rfl rfl ?_
  refine ht_if_lt (tgt := 18) (D 1 rfl) (by decide) (fun hb1 => ?_) (fun hb1 => ?_)
  · skip
    refine ht_iconst (v := 0) (D 10 rfl) (by decide) ?_
    refine ht_iret (D 11 rfl) rfl rfl ?_
    exact ⟨by first | rw [b01_t (by (simp only [i_lt, i_le] at *; (have hz0 : (0 : Int32).toInt = 0 := rfl); omega))] | rw [b01_f (by (simp only [i_lt, i_le] at *; (have hz0 : (0 : Int32).toInt = 0 := rfl); omega))], rfl⟩
  · skip
    refine ht_iload_n (D 2 rfl) rfl rfl ?_
    refine ht_aload_n (D 3 rfl) rfl rfl ?_
    refine gf_X10_16 rfl (D 4 rfl) hM.k0 hM.q3 ?_
    refine ht_iconst (v := 0) (D 5 rfl) (by decide) ?_
    refine hm_ild (o := 3) (n := 0) (by decide) (D 6 rfl) hM.k3 hM.n3 (by first | rfl | exact nI_add _ _ | assumption) (by omega) (by decide) ?_
    refine ht_icmp_ge (tgt := 18) (D 7 rfl) (by decide) (fun hb11 => ?_) (fun hb11 => ?_)
    · skip
      refine ht_iconst (v := 0) (D 10 rfl) (by decide) ?_
      refine ht_iret (D 11 rfl) rfl rfl ?_
      exact ⟨by first | rw [b01_t (by (simp only [i_lt, i_le] at *; (have hz0 : (0 : Int32).toInt = 0 := rfl); omega))] | rw [b01_f (by (simp only [i_lt, i_le] at *; (have hz0 : (0 : Int32).toInt = 0 := rfl); omega))], rfl⟩
    · skip
      refine ht_iconst (v := 1) (D 8 rfl) (by decide) ?_
      refine ht_goto (tgt := 19) (D 9 rfl) (by decide) ?_
      refine ht_iret (D 11 rfl) rfl rfl ?_
      exact ⟨by first | rw [b01_t (by (simp only [i_lt, i_le] at *; (have hz0 : (0 : Int32).toInt = 0 := rfl); omega))] | rw [b01_f (by (simp only [i_lt, i_le] at *; (have hz0 : (0 : Int32).toInt = 0 := rfl); omega))], rfl⟩
set_option maxRecDepth 100000 in
theorem sm_isMan (hM : MS σ m) (x : Int32) : Sp G mX10_isMan 0 [.ref m, .int x] (sv σ m V U) (fun v σ' => v = some (.int (b01 (0 ≤ x ∧ x < V 4 0))) ∧ σ' = sv σ m V U) := by
  have D := dat dl_X10_isMan
  show HT G mX10_isMan 0 [some (.ref m), some (.int x)] [] (sv σ m V U) 0 _
  refine ht_iload_n (D 0 rfl) rfl rfl ?_
  refine ht_if_lt (tgt := 18) (D 1 rfl) (by decide) (fun hb1 => ?_) (fun hb1 => ?_)
  · skip
    refine ht_iconst (v := 0) (D 10 rfl) (by decide) ?_
    refine ht_iret (D 11 rfl) rfl rfl ?_
    exact ⟨by first | rw [b01_t (by (simp only [i_lt, i_le] at *; (have hz0 : (0 : Int32).toInt = 0 := rfl); omega))] | rw [b01_f (by (simp only [i_lt, i_le] at *; (have hz0 : (0 : Int32).toInt = 0 := rfl); omega))], rfl⟩
  · skip
    refine ht_iload_n (D 2 rfl) rfl rfl ?_
    refine ht_aload_n (D 3 rfl) rfl rfl ?_
    refine gf_X10_19 rfl (D 4 rfl) hM.k0 hM.q4 ?_
    refine ht_iconst (v := 0) (D 5 rfl) (by decide) ?_
    refine hm_ild (o := 4) (n := 0) (by decide) (D 6 rfl) hM.k4 hM.n4 (by first | rfl | exact nI_add _ _ | assumption) (by omega) (by decide) ?_
    refine ht_icmp_ge (tgt := 18) (D 7 rfl) (by decide) (fun hb11 => ?_) (fun hb11 => ?_)
    · skip
      refine ht_iconst (v := 0) (D 10 rfl) (by decide) ?_
      refine ht_iret (D 11 rfl) rfl rfl ?_
      exact ⟨by first | rw [b01_t (by (simp only [i_lt, i_le] at *; (have hz0 : (0 : Int32).toInt = 0 := rfl); omega))] | rw [b01_f (by (simp only [i_lt, i_le] at *; (have hz0 : (0 : Int32).toInt = 0 := rfl); omega))], rfl⟩
    · skip
      refine ht_iconst (v := 1) (D 8 rfl) (by decide) ?_
      refine ht_goto (tgt := 19) (D 9 rfl) (by decide) ?_
      refine ht_iret (D 11 rfl) rfl rfl ?_
      exact ⟨by first | rw [b01_t (by (simp only [i_lt, i_le] at *; (have hz0 : (0 : Int32).toInt = 0 := rfl); omega))] | rw [b01_f (by (simp only [i_lt, i_le] at *; (have hz0 : (0 : Int32).toInt = 0 := rfl); omega))], rfl⟩
end M1
