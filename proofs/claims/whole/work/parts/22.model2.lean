/-! ===== the reference: its evaluator of codes ===== -/
section M2
variable {G : GG} {σ : Hp} {m : Nat} {V : VT} {U : UT}
def opF (V : VT) (d : Nat) : VT := up2 (up2 (up2 (up2 (up2 V 24 d 0) 26 d 0) 27 d 0) 28 d 20) 30 d 0
def smF (V : VT) (d : Nat) : VT := up2 (up2 V 27 d (if V 28 d = 21 then V 27 d - V 29 d else V 27 d + V 29 d)) 30 d 0
def tv1 (V : VT) (d : Nat) : Int32 := if V 26 d = 24 then (if V 25 d < V 27 d then 1 else 0) else V 27 d
def tv2 (V : VT) (d : Nat) : Int32 := if V 26 d = 25 then (if V 25 d = V 27 d then 1 else 0) else tv1 V d
def tv3 (V : VT) (d : Nat) : Int32 := if V 24 d = 26 then (if V 23 d ≠ 0 ∧ tv2 V d ≠ 0 then 1 else 0) else tv2 V d
def tv4 (V : VT) (d : Nat) : Int32 := if V 24 d = 27 then (if V 23 d ≠ 0 ∨ tv3 V d ≠ 0 then 1 else 0) else tv3 V d
def tsF (V : VT) (d : Nat) : VT := up2 (up2 (up2 (up2 (smF V d) 23 d (tv4 (smF V d) d)) 26 d 0) 27 d 0) 28 d 20
def popN (V : VT) : Nat → Int32 → Nat × Int32
  | 0, v => (0, v)
  | d + 1, v => if V 31 (d + 1) = 1 then popN V d (if v = 0 then 1 else 0) else (d + 1, v)
theorem popN_le (V : VT) (d : Nat) (v : Int32) : (popN V d v).1 ≤ d := by
  induction d generalizing v with
  | zero => exact Nat.le_refl 0
  | succ d ih =>
    unfold popN
    split
    · exact Nat.le_succ_of_le (ih _)
    · exact Nat.le_refl _
def ppF (V : VT) (d : Nat) (v : Int32) : VT × Nat := (up2 V 29 (popN V d v).1 (if V 30 (popN V d v).1 = 0 then (popN V d v).2 else V 29 (popN V d v).1 * (popN V d v).2), (popN V d v).1)
def stE (V : VT) (d : Nat) (c : Int32) : Option (VT × Nat) :=
  if c = 28 ∨ c = 30 then (if d < 6 then some (opF (up2 V 31 (d + 1) (if c = 30 then 1 else 0)) (d + 1), d + 1) else none)
  else if c = 20 ∨ c = 21 then some (up2 (smF V d) 28 d c, d)
  else if c = 22 then some (up2 V 30 d c, d)
  else if c = 24 ∨ c = 25 then some (up2 (up2 (up2 (up2 (smF V d) 25 d (smF V d 27 d)) 26 d c) 27 d 0) 28 d 20, d)
  else if c = 26 ∨ c = 27 then some (up2 (tsF V d) 24 d c, d)
  else if c = 29 then (match d with
    | 0 => none
    | e + 1 => some (ppF (tsF V (e + 1)) e (tsF V (e + 1) 23 (e + 1))))
  else if 100 ≤ c then some (ppF V d (c - 100))
  else if 20 ≤ c then some (ppF V d 0)
  else if 0 ≤ c then some (ppF V d (V 32 c.toNatClampNeg)) else none
def evL (V : VT) (d k : Nat) : Nat → Option (VT × Nat)
  | 0 => some (V, d)
  | n + 1 => match stE V d (V 20 k) with
    | none => none
    | some q => evL q.1 q.2 (k + 1) n
set_option maxRecDepth 100000 in
theorem sm_opens (hM : MS σ m) {d : Nat} (hd : d < 7) : Sp G mX10_opens 0 [.ref m, .int (nI d)] (sv σ m V U) (fun rv σ' => rv = none ∧ σ' = sv σ m (opF V d) U) := by
  have D := dat dl_X10_opens
  show HT G mX10_opens 0 [some (.ref m), some (.int (nI d))] [] (sv σ m V U) 0 _
  refine ht_aload_n (D 0 rfl) rfl rfl ?_
  refine gf_X10_81 rfl (D 1 rfl) hM.k0 hM.q24 ?_
  refine ht_iload_n (D 2 rfl) rfl rfl ?_
  refine ht_iconst (v := 0) (D 3 rfl) (by decide) ?_
  refine hm_ist (o := 24) (n := d) (by decide) (D 4 rfl) hM.k24 hM.n24 (by first | rfl | exact nI_add _ _ | assumption) (by omega) (by decide) ?_
  refine ht_aload_n (D 5 rfl) rfl rfl ?_
  refine gf_X10_87 rfl (D 6 rfl) hM.k0 hM.q26 ?_
  refine ht_iload_n (D 7 rfl) rfl rfl ?_
  refine ht_iconst (v := 0) (D 8 rfl) (by decide) ?_
  refine hm_ist (o := 26) (n := d) (by decide) (D 9 rfl) hM.k26 hM.n26 (by first | rfl | exact nI_add _ _ | assumption) (by omega) (by decide) ?_
  refine ht_aload_n (D 10 rfl) rfl rfl ?_
  refine gf_X10_90 rfl (D 11 rfl) hM.k0 hM.q27 ?_
  refine ht_iload_n (D 12 rfl) rfl rfl ?_
  refine ht_iconst (v := 0) (D 13 rfl) (by decide) ?_
  refine hm_ist (o := 27) (n := d) (by decide) (D 14 rfl) hM.k27 hM.n27 (by first | rfl | exact nI_add _ _ | assumption) (by omega) (by decide) ?_
  refine ht_aload_n (D 15 rfl) rfl rfl ?_
  refine gf_X10_93 rfl (D 16 rfl) hM.k0 hM.q28 ?_
  refine ht_iload_n (D 17 rfl) rfl rfl ?_
  refine ht_bipush (v := 20) (D 18 rfl) (by decide) ?_
  refine hm_ist (o := 28) (n := d) (by decide) (D 19 rfl) hM.k28 hM.n28 (by first | rfl | exact nI_add _ _ | assumption) (by omega) (by decide) ?_
  refine ht_aload_n (D 20 rfl) rfl rfl ?_
  refine gf_X10_99 rfl (D 21 rfl) hM.k0 hM.q30 ?_
  refine ht_iload_n (D 22 rfl) rfl rfl ?_
  refine ht_iconst (v := 0) (D 23 rfl) (by decide) ?_
  refine hm_ist (o := 30) (n := d) (by decide) (D 24 rfl) hM.k30 hM.n30 (by first | rfl | exact nI_add _ _ | assumption) (by omega) (by decide) ?_
  refine ht_vret (D 25 rfl) rfl ?_
  exact ⟨rfl, rfl⟩
set_option maxRecDepth 100000 in
theorem sm_sums (hM : MS σ m) {d : Nat} (hd : d < 7) : Sp G mX10_sums 0 [.ref m, .int (nI d)] (sv σ m V U) (fun rv σ' => rv = none ∧ σ' = sv σ m (smF V d) U) := by
  have D := dat dl_X10_sums
  show HT G mX10_sums 0 [some (.ref m), some (.int (nI d))] [] (sv σ m V U) 0 _
  refine ht_aload_n (D 0 rfl) rfl rfl ?_
  refine gf_X10_90 rfl (D 1 rfl) hM.k0 hM.q27 ?_
  refine ht_iload_n (D 2 rfl) rfl rfl ?_
  refine ht_aload_n (D 3 rfl) rfl rfl ?_
  refine gf_X10_93 rfl (D 4 rfl) hM.k0 hM.q28 ?_
  refine ht_iload_n (D 5 rfl) rfl rfl ?_
  refine hm_ild (o := 28) (n := d) (by decide) (D 6 rfl) hM.k28 hM.n28 (by first | rfl | exact nI_add _ _ | assumption) (by omega) (by decide) ?_
  refine ht_bipush (v := 21) (D 7 rfl) (by decide) ?_
  refine ht_icmp_ne (tgt := 32) (D 8 rfl) (by decide) (fun hb13 => ?_) (fun hb13 => ?_)
  · skip
    refine ht_aload_n (D 19 rfl) rfl rfl ?_
    refine gf_X10_90 rfl (D 20 rfl) hM.k0 hM.q27 ?_
    refine ht_iload_n (D 21 rfl) rfl rfl ?_
    refine hm_ild (o := 27) (n := d) (by decide) (D 22 rfl) hM.k27 hM.n27 (by first | rfl | exact nI_add _ _ | assumption) (by omega) (by decide) ?_
    refine ht_aload_n (D 23 rfl) rfl rfl ?_
    refine gf_X10_96 rfl (D 24 rfl) hM.k0 hM.q29 ?_
    refine ht_iload_n (D 25 rfl) rfl rfl ?_
    refine hm_ild (o := 29) (n := d) (by decide) (D 26 rfl) hM.k29 hM.n29 (by first | rfl | exact nI_add _ _ | assumption) (by omega) (by decide) ?_
    refine ht_iadd (D 27 rfl) ?_
    refine hm_ist (o := 27) (n := d) (by decide) (D 28 rfl) hM.k27 hM.n27 (by first | rfl | exact nI_add _ _ | assumption) (by omega) (by decide) ?_
    refine ht_aload_n (D 29 rfl) rfl rfl ?_
    refine gf_X10_99 rfl (D 30 rfl) hM.k0 hM.q30 ?_
    refine ht_iload_n (D 31 rfl) rfl rfl ?_
    refine ht_iconst (v := 0) (D 32 rfl) (by decide) ?_
    refine hm_ist (o := 30) (n := d) (by decide) (D 33 rfl) hM.k30 hM.n30 (by first | rfl | exact nI_add _ _ | assumption) (by omega) (by decide) ?_
    refine ht_vret (D 34 rfl) rfl ?_
    exact ⟨rfl, by unfold smF; first | rw [if_pos (by assumption)] | rw [if_neg (by assumption)]⟩
  · skip
    refine ht_aload_n (D 9 rfl) rfl rfl ?_
    refine gf_X10_90 rfl (D 10 rfl) hM.k0 hM.q27 ?_
    refine ht_iload_n (D 11 rfl) rfl rfl ?_
    refine hm_ild (o := 27) (n := d) (by decide) (D 12 rfl) hM.k27 hM.n27 (by first | rfl | exact nI_add _ _ | assumption) (by omega) (by decide) ?_
    refine ht_aload_n (D 13 rfl) rfl rfl ?_
    refine gf_X10_96 rfl (D 14 rfl) hM.k0 hM.q29 ?_
    refine ht_iload_n (D 15 rfl) rfl rfl ?_
    refine hm_ild (o := 29) (n := d) (by decide) (D 16 rfl) hM.k29 hM.n29 (by first | rfl | exact nI_add _ _ | assumption) (by omega) (by decide) ?_
    refine ht_isub (D 17 rfl) ?_
    refine ht_goto (tgt := 45) (D 18 rfl) (by decide) ?_
    refine hm_ist (o := 27) (n := d) (by decide) (D 28 rfl) hM.k27 hM.n27 (by first | rfl | exact nI_add _ _ | assumption) (by omega) (by decide) ?_
    refine ht_aload_n (D 29 rfl) rfl rfl ?_
    refine gf_X10_99 rfl (D 30 rfl) hM.k0 hM.q30 ?_
    refine ht_iload_n (D 31 rfl) rfl rfl ?_
    refine ht_iconst (v := 0) (D 32 rfl) (by decide) ?_
    refine hm_ist (o := 30) (n := d) (by decide) (D 33 rfl) hM.k30 hM.n30 (by first | rfl | exact nI_add _ _ | assumption) (by omega) (by decide) ?_
    refine ht_vret (D 34 rfl) rfl ?_
    exact ⟨rfl, by unfold smF; first | rw [if_pos (by assumption)] | rw [if_neg (by assumption)]⟩
set_option maxRecDepth 100000 in
theorem sm_tests (hM : MS σ m) {d : Nat} (hd : d < 7) : Sp G mX10_tests 1 [.ref m, .int (nI d)] (sv σ m V U) (fun rv σ' => rv = none ∧ σ' = sv σ m (tsF V d) U) := by
  have D := dat dl_X10_tests
  show HT G mX10_tests 0 [some (.ref m), some (.int (nI d)), none] [] (sv σ m V U) 1 _
  refine ht_aload_n (D 0 rfl) rfl rfl ?_
  refine ht_iload_n (D 1 rfl) rfl rfl ?_
  refine kVX10_sums (As := [_]) cl_X10_227 (D 2 rfl) (sm_sums hM hd) hM.k0 rfl (Nat.le_of_ble_eq_true rfl) rfl (Nat.le_of_ble_eq_true rfl) (by omega) ?_
  rintro rv σ1 ⟨rfl, rfl⟩
  generalize hV1 : smF V d = V1
  refine ht_aload_n (D 3 rfl) rfl rfl ?_
  refine gf_X10_90 rfl (D 4 rfl) hM.k0 hM.q27 ?_
  refine ht_iload_n (D 5 rfl) rfl rfl ?_
  refine hm_ild (o := 27) (n := d) (by decide) (D 6 rfl) hM.k27 hM.n27 (by first | rfl | exact nI_add _ _ | assumption) (by omega) (by decide) ?_
  refine ht_istore_n (D 7 rfl) rfl (by decide) rfl ?_
  have h136 : ∀ x : Int32, x = tv4 V1 d → HT G mX10_tests 136 [some (.ref m), some (.int (nI d)), some (.int x)] [] (sv σ m V1 U) 1 (fun rv σ' => rv = none ∧ σ' = sv σ m (tsF V d) U) := by
    intro x hx
    refine ht_aload_n (D 80 rfl) rfl rfl ?_
    refine gf_X10_78 rfl (D 81 rfl) hM.k0 hM.q23 ?_
    refine ht_iload_n (D 82 rfl) rfl rfl ?_
    refine ht_iload_n (D 83 rfl) rfl rfl ?_
    refine hm_ist (o := 23) (n := d) (by decide) (D 84 rfl) hM.k23 hM.n23 (by first | rfl | exact nI_add _ _ | assumption) (by omega) (by decide) ?_
    refine ht_aload_n (D 85 rfl) rfl rfl ?_
    refine gf_X10_87 rfl (D 86 rfl) hM.k0 hM.q26 ?_
    refine ht_iload_n (D 87 rfl) rfl rfl ?_
    refine ht_iconst (v := 0) (D 88 rfl) (by decide) ?_
    refine hm_ist (o := 26) (n := d) (by decide) (D 89 rfl) hM.k26 hM.n26 (by first | rfl | exact nI_add _ _ | assumption) (by omega) (by decide) ?_
    refine ht_aload_n (D 90 rfl) rfl rfl ?_
    refine gf_X10_90 rfl (D 91 rfl) hM.k0 hM.q27 ?_
    refine ht_iload_n (D 92 rfl) rfl rfl ?_
    refine ht_iconst (v := 0) (D 93 rfl) (by decide) ?_
    refine hm_ist (o := 27) (n := d) (by decide) (D 94 rfl) hM.k27 hM.n27 (by first | rfl | exact nI_add _ _ | assumption) (by omega) (by decide) ?_
    refine ht_aload_n (D 95 rfl) rfl rfl ?_
    refine gf_X10_93 rfl (D 96 rfl) hM.k0 hM.q28 ?_
    refine ht_iload_n (D 97 rfl) rfl rfl ?_
    refine ht_bipush (v := 20) (D 98 rfl) (by decide) ?_
    refine hm_ist (o := 28) (n := d) (by decide) (D 99 rfl) hM.k28 hM.n28 (by first | rfl | exact nI_add _ _ | assumption) (by omega) (by decide) ?_
    refine ht_vret (D 100 rfl) rfl ?_
    exact ⟨rfl, by unfold tsF; rw [hV1, ← hx]⟩
  have h106 : ∀ x : Int32, x = tv3 V1 d → HT G mX10_tests 106 [some (.ref m), some (.int (nI d)), some (.int x)] [] (sv σ m V1 U) 1 (fun rv σ' => rv = none ∧ σ' = sv σ m (tsF V d) U) := by
    intro x hx
    refine ht_aload_n (D 63 rfl) rfl rfl ?_
    refine gf_X10_81 rfl (D 64 rfl) hM.k0 hM.q24 ?_
    refine ht_iload_n (D 65 rfl) rfl rfl ?_
    refine hm_ild (o := 24) (n := d) (by decide) (D 66 rfl) hM.k24 hM.n24 (by first | rfl | exact nI_add _ _ | assumption) (by omega) (by decide) ?_
    refine ht_bipush (v := 27) (D 67 rfl) (by decide) ?_
    refine ht_icmp_ne (tgt := 136) (D 68 rfl) (by decide) (fun hb114 => ?_) (fun hb114 => ?_)
    · skip
      exact h136 _ (by unfold tv4; rw [← hx]; clear hx; simp [*])
    · skip
      refine ht_aload_n (D 69 rfl) rfl rfl ?_
      refine gf_X10_78 rfl (D 70 rfl) hM.k0 hM.q23 ?_
      refine ht_iload_n (D 71 rfl) rfl rfl ?_
      refine hm_ild (o := 23) (n := d) (by decide) (D 72 rfl) hM.k23 hM.n23 (by first | rfl | exact nI_add _ _ | assumption) (by omega) (by decide) ?_
      refine ht_if_ne (tgt := 130) (D 73 rfl) (by decide) (fun hb123 => ?_) (fun hb123 => ?_)
      · skip
        refine ht_iconst (v := 1) (D 76 rfl) (by decide) ?_
        refine ht_goto (tgt := 135) (D 77 rfl) (by decide) ?_
        refine ht_istore_n (D 79 rfl) rfl (by decide) rfl ?_
        exact h136 _ (by unfold tv4; rw [← hx]; clear hx; simp [*])
      · skip
        refine ht_iload_n (D 74 rfl) rfl rfl ?_
        refine ht_if_eq (tgt := 134) (D 75 rfl) (by decide) (fun hb127 => ?_) (fun hb127 => ?_)
        · skip
          refine ht_iconst (v := 0) (D 78 rfl) (by decide) ?_
          refine ht_istore_n (D 79 rfl) rfl (by decide) rfl ?_
          exact h136 _ (by unfold tv4; rw [← hx]; clear hx; simp [*])
        · skip
          refine ht_iconst (v := 1) (D 76 rfl) (by decide) ?_
          refine ht_goto (tgt := 135) (D 77 rfl) (by decide) ?_
          refine ht_istore_n (D 79 rfl) rfl (by decide) rfl ?_
          exact h136 _ (by unfold tv4; rw [← hx]; clear hx; simp [*])
  have h76 : ∀ x : Int32, x = tv2 V1 d → HT G mX10_tests 76 [some (.ref m), some (.int (nI d)), some (.int x)] [] (sv σ m V1 U) 1 (fun rv σ' => rv = none ∧ σ' = sv σ m (tsF V d) U) := by
    intro x hx
    refine ht_aload_n (D 46 rfl) rfl rfl ?_
    refine gf_X10_81 rfl (D 47 rfl) hM.k0 hM.q24 ?_
    refine ht_iload_n (D 48 rfl) rfl rfl ?_
    refine hm_ild (o := 24) (n := d) (by decide) (D 49 rfl) hM.k24 hM.n24 (by first | rfl | exact nI_add _ _ | assumption) (by omega) (by decide) ?_
    refine ht_bipush (v := 26) (D 50 rfl) (by decide) ?_
    refine ht_icmp_ne (tgt := 106) (D 51 rfl) (by decide) (fun hb84 => ?_) (fun hb84 => ?_)
    · skip
      exact h106 _ (by unfold tv3; rw [← hx]; clear hx; simp [*])
    · skip
      refine ht_aload_n (D 52 rfl) rfl rfl ?_
      refine gf_X10_78 rfl (D 53 rfl) hM.k0 hM.q23 ?_
      refine ht_iload_n (D 54 rfl) rfl rfl ?_
      refine hm_ild (o := 23) (n := d) (by decide) (D 55 rfl) hM.k23 hM.n23 (by first | rfl | exact nI_add _ _ | assumption) (by omega) (by decide) ?_
      refine ht_if_eq (tgt := 104) (D 56 rfl) (by decide) (fun hb93 => ?_) (fun hb93 => ?_)
      · skip
        refine ht_iconst (v := 0) (D 61 rfl) (by decide) ?_
        refine ht_istore_n (D 62 rfl) rfl (by decide) rfl ?_
        exact h106 _ (by unfold tv3; rw [← hx]; clear hx; simp [*])
      · skip
        refine ht_iload_n (D 57 rfl) rfl rfl ?_
        refine ht_if_eq (tgt := 104) (D 58 rfl) (by decide) (fun hb97 => ?_) (fun hb97 => ?_)
        · skip
          refine ht_iconst (v := 0) (D 61 rfl) (by decide) ?_
          refine ht_istore_n (D 62 rfl) rfl (by decide) rfl ?_
          exact h106 _ (by unfold tv3; rw [← hx]; clear hx; simp [*])
        · skip
          refine ht_iconst (v := 1) (D 59 rfl) (by decide) ?_
          refine ht_goto (tgt := 105) (D 60 rfl) (by decide) ?_
          refine ht_istore_n (D 62 rfl) rfl (by decide) rfl ?_
          exact h106 _ (by unfold tv3; rw [← hx]; clear hx; simp [*])
  have h44 : ∀ x : Int32, x = tv1 V1 d → HT G mX10_tests 44 [some (.ref m), some (.int (nI d)), some (.int x)] [] (sv σ m V1 U) 1 (fun rv σ' => rv = none ∧ σ' = sv σ m (tsF V d) U) := by
    intro x hx
    refine ht_aload_n (D 27 rfl) rfl rfl ?_
    refine gf_X10_87 rfl (D 28 rfl) hM.k0 hM.q26 ?_
    refine ht_iload_n (D 29 rfl) rfl rfl ?_
    refine hm_ild (o := 26) (n := d) (by decide) (D 30 rfl) hM.k26 hM.n26 (by first | rfl | exact nI_add _ _ | assumption) (by omega) (by decide) ?_
    refine ht_bipush (v := 25) (D 31 rfl) (by decide) ?_
    refine ht_icmp_ne (tgt := 76) (D 32 rfl) (by decide) (fun hb52 => ?_) (fun hb52 => ?_)
    · skip
      exact h76 _ (by unfold tv2; rw [← hx]; clear hx; simp [*])
    · skip
      refine ht_aload_n (D 33 rfl) rfl rfl ?_
      refine gf_X10_84 rfl (D 34 rfl) hM.k0 hM.q25 ?_
      refine ht_iload_n (D 35 rfl) rfl rfl ?_
      refine hm_ild (o := 25) (n := d) (by decide) (D 36 rfl) hM.k25 hM.n25 (by first | rfl | exact nI_add _ _ | assumption) (by omega) (by decide) ?_
      refine ht_aload_n (D 37 rfl) rfl rfl ?_
      refine gf_X10_90 rfl (D 38 rfl) hM.k0 hM.q27 ?_
      refine ht_iload_n (D 39 rfl) rfl rfl ?_
      refine hm_ild (o := 27) (n := d) (by decide) (D 40 rfl) hM.k27 hM.n27 (by first | rfl | exact nI_add _ _ | assumption) (by omega) (by decide) ?_
      refine ht_icmp_ne (tgt := 74) (D 41 rfl) (by decide) (fun hb67 => ?_) (fun hb67 => ?_)
      · skip
        refine ht_iconst (v := 0) (D 44 rfl) (by decide) ?_
        refine ht_istore_n (D 45 rfl) rfl (by decide) rfl ?_
        exact h76 _ (by unfold tv2; rw [← hx]; clear hx; simp [*])
      · skip
        refine ht_iconst (v := 1) (D 42 rfl) (by decide) ?_
        refine ht_goto (tgt := 75) (D 43 rfl) (by decide) ?_
        refine ht_istore_n (D 45 rfl) rfl (by decide) rfl ?_
        exact h76 _ (by unfold tv2; rw [← hx]; clear hx; simp [*])
  refine ht_aload_n (D 8 rfl) rfl rfl ?_
  refine gf_X10_87 rfl (D 9 rfl) hM.k0 hM.q26 ?_
  refine ht_iload_n (D 10 rfl) rfl rfl ?_
  refine hm_ild (o := 26) (n := d) (by decide) (D 11 rfl) hM.k26 hM.n26 (by first | rfl | exact nI_add _ _ | assumption) (by omega) (by decide) ?_
  refine ht_bipush (v := 24) (D 12 rfl) (by decide) ?_
  refine ht_icmp_ne (tgt := 44) (D 13 rfl) (by decide) (fun hb20 => ?_) (fun hb20 => ?_)
  · skip
    exact h44 _ (by unfold tv1; simp [*])
  · skip
    refine ht_aload_n (D 14 rfl) rfl rfl ?_
    refine gf_X10_84 rfl (D 15 rfl) hM.k0 hM.q25 ?_
    refine ht_iload_n (D 16 rfl) rfl rfl ?_
    refine hm_ild (o := 25) (n := d) (by decide) (D 17 rfl) hM.k25 hM.n25 (by first | rfl | exact nI_add _ _ | assumption) (by omega) (by decide) ?_
    refine ht_aload_n (D 18 rfl) rfl rfl ?_
    refine gf_X10_90 rfl (D 19 rfl) hM.k0 hM.q27 ?_
    refine ht_iload_n (D 20 rfl) rfl rfl ?_
    refine hm_ild (o := 27) (n := d) (by decide) (D 21 rfl) hM.k27 hM.n27 (by first | rfl | exact nI_add _ _ | assumption) (by omega) (by decide) ?_
    refine ht_icmp_ge (tgt := 42) (D 22 rfl) (by decide) (fun hb35 => ?_) (fun hb35 => ?_)
    · skip
      refine ht_iconst (v := 0) (D 25 rfl) (by decide) ?_
      refine ht_istore_n (D 26 rfl) rfl (by decide) rfl ?_
      exact h44 _ (by unfold tv1; simp [*])
    · skip
      refine ht_iconst (v := 1) (D 23 rfl) (by decide) ?_
      refine ht_goto (tgt := 43) (D 24 rfl) (by decide) ?_
      refine ht_istore_n (D 26 rfl) rfl (by decide) rfl ?_
      exact h44 _ (by unfold tv1; simp [*])
theorem popN_s (V : VT) (d : Nat) (v : Int32) (h : V 31 (d + 1) = 1) : popN V (d + 1) v = popN V d (if v = 0 then 1 else 0) := by
  conv => lhs; unfold popN
  rw [if_pos h]
theorem up2_o {α : Type} (f : Nat → Nat → α) {a k : Nat} (v : α) {b : Nat} (h : b ≠ a) : up2 f a k v b = f b := by
  funext j
  exact up2_a f v h
def Kp (V V' : VT) : Prop := ∀ o, ¬ (23 ≤ o ∧ o ≤ 31) → V' o = V o
theorem Kp.rf (V : VT) : Kp V V := fun _ _ => rfl
theorem Kp.tr {V V1 V2 : VT} (h1 : Kp V V1) (h2 : Kp V1 V2) : Kp V V2 := fun o h => (h2 o h).trans (h1 o h)
theorem Kp.up {V V1 : VT} (h1 : Kp V V1) {a k : Nat} (v : Int32) (ha : 23 ≤ a ∧ a ≤ 31) : Kp V (up2 V1 a k v) := fun o h => (up2_o V1 v (show o ≠ a from fun e => h (by rw [e]; exact ha))).trans (h1 o h)
theorem opF_kp (V : VT) (d : Nat) : Kp V (opF V d) := (((((Kp.rf V).up _ (by decide)).up _ (by decide)).up _ (by decide)).up _ (by decide)).up _ (by decide)
theorem smF_kp (V : VT) (d : Nat) : Kp V (smF V d) := ((Kp.rf V).up _ (by decide)).up _ (by decide)
theorem tsF_kp (V : VT) (d : Nat) : Kp V (tsF V d) := ((((smF_kp V d).up _ (by decide)).up _ (by decide)).up _ (by decide)).up _ (by decide)
theorem ppF_kp (V : VT) (d : Nat) (v : Int32) : Kp V (ppF V d v).1 := (Kp.rf V).up _ (by decide)
theorem stE_kp {V : VT} {d : Nat} {c : Int32} {q : VT × Nat} (hd : d ≤ 6) (h : stE V d c = some q) : Kp V q.1 ∧ q.2 ≤ 6 := by
  unfold stE at h
  repeat' split at h
  all_goals first
    | (cases h; done)
    | (cases h; exact ⟨((Kp.rf V).up _ (by decide)).tr (opF_kp _ _), by show _ + 1 ≤ 6; omega⟩)
    | (cases h; exact ⟨(smF_kp V d).up _ (by decide), hd⟩)
    | (cases h; exact ⟨(Kp.rf V).up _ (by decide), hd⟩)
    | (cases h; exact ⟨((((smF_kp V d).up _ (by decide)).up _ (by decide)).up _ (by decide)).up _ (by decide), hd⟩)
    | (cases h; exact ⟨(tsF_kp V d).up _ (by decide), hd⟩)
    | (cases h; exact ⟨(tsF_kp V _).tr (ppF_kp _ _ _), Nat.le_trans (popN_le _ _ _) (by omega)⟩)
    | (cases h; exact ⟨ppF_kp _ _ _, Nat.le_trans (popN_le _ _ _) hd⟩)
theorem evL_kp {n : Nat} : ∀ {V : VT} {d k : Nat} {q : VT × Nat}, d ≤ 6 → evL V d k n = some q → Kp V q.1 ∧ q.2 ≤ 6 := by
  induction n with
  | zero => intro V d k q hd h; cases h; exact ⟨Kp.rf V, hd⟩
  | succ n ih =>
    intro V d k q hd h
    unfold evL at h
    split at h
    · cases h
    · rename_i q1 hq1
      obtain ⟨a1, a2⟩ := stE_kp hd hq1
      obtain ⟨b1, b2⟩ := ih a2 h
      exact ⟨a1.tr b1, b2⟩
set_option maxRecDepth 100000 in
set_option maxHeartbeats 4000000 in
theorem sm_worked (hM : MS σ m) {ln f n : Nat} (hln : ln < 12) (hf : V 18 ln = nI f) (ht : V 19 ln = nI (f + n)) (hb : f + n ≤ 6000) {V' : VT} {e : Nat} (he : evL (opF V 0) 0 f n = some (V', e)) : Sp G mX10_worked 2 [.ref m, .int (nI ln)] (sv σ m V U) (fun rv σ' => rv = some (.int (tsF V' 0 23 0)) ∧ σ' = sv σ m (tsF V' 0) U) := by
  have D := dat dl_X10_worked
  have loop : ∀ (r k : Nat) (V : VT) (d : Nat) (l4 l5 : Option Value), k + r = f + n → d ≤ 6 → V 19 ln = nI (f + n) → evL V d k r = some (V', e) → HT G mX10_worked 14 [some (.ref m), some (.int (nI ln)), some (.int (nI d)), some (.int (nI k)), l4, l5] [] (sv σ m V U) 2 (fun rv σ' => rv = some (.int (tsF V' 0 23 0)) ∧ σ' = sv σ m (tsF V' 0) U) := by
    intro r
    induction r with
    | zero =>
      intro k V d l4 l5 hkn hd6 ht he
      have he2 : V = V' := by
        have h9 : some (V, d) = some (V', e) := he
        cases h9
        rfl
      subst he2
      refine ht_iload_n (D 10 rfl) rfl rfl ?_
      refine ht_aload_n (D 11 rfl) rfl rfl ?_
      refine gf_X10_65 rfl (D 12 rfl) hM.k0 hM.q19 ?_
      refine ht_iload_n (D 13 rfl) rfl rfl ?_
      refine hm_ild (o := 19) (n := ln) (by decide) (D 14 rfl) hM.k19 hM.n19 (by first | rfl | exact nI_add _ _ | assumption) (by omega) (by decide) ?_
      refine ht_icmp_ge (tgt := 335) (D 15 rfl) (by decide) (fun hb21 => ?_) (fun hb21 => ?_)
      · skip
        refine ht_aload_n (D 178 rfl) rfl rfl ?_
        refine ht_iconst (v := 0) (D 179 rfl) (by decide) ?_
        refine kVX10_tests (As := [_]) cl_X10_233 (D 180 rfl) (sm_tests hM (d := 0) (by omega)) hM.k0 rfl (Nat.le_of_ble_eq_true rfl) rfl (Nat.le_of_ble_eq_true rfl) (by omega) ?_
        rintro rv σ1 ⟨rfl, rfl⟩
        refine ht_aload_n (D 181 rfl) rfl rfl ?_
        refine gf_X10_78 rfl (D 182 rfl) hM.k0 hM.q23 ?_
        refine ht_iconst (v := 0) (D 183 rfl) (by decide) ?_
        refine hm_ild (o := 23) (n := 0) (by decide) (D 184 rfl) hM.k23 hM.n23 (by first | rfl | exact nI_add _ _ | assumption) (by omega) (by decide) ?_
        refine ht_iret (D 185 rfl) rfl rfl ?_
        exact ⟨rfl, rfl⟩
      · skip
        exact absurd (by rw [ht]; exact nI_le (by omega) (by omega)) hb21
    | succ r ih =>
      intro k V d l4 l5 hkn hd6 ht he
      obtain ⟨q, hq, he1⟩ : ∃ q, stE V d (V 20 k) = some q ∧ evL q.1 q.2 (k + 1) r = some (V', e) := by
        simp only [evL] at he
        split at he
        · cases he
        · exact ⟨_, by assumption, he⟩
      obtain ⟨c, hcc⟩ : ∃ c, V 20 k = c := ⟨_, rfl⟩
      rw [hcc] at hq
      have nx : ∀ (V2 : VT) (d2 : Nat) (l4 l5 : Option Value), stE V d c = some (V2, d2) → HT G mX10_worked 329 [some (.ref m), some (.int (nI ln)), some (.int (nI d2)), some (.int (nI k)), l4, l5] [] (sv σ m V2 U) 2 (fun rv σ' => rv = some (.int (tsF V' 0 23 0)) ∧ σ' = sv σ m (tsF V' 0) U) := by
        intro V2 d2 l4 l5 h2
        rw [hq] at h2
        cases h2
        refine ht_iinc (v := nI (k + 1)) (D 176 rfl) rfl (nI_i1 _) (by decide) rfl ?_
        refine ht_goto (tgt := 14) (D 177 rfl) (by decide) ?_
        exact ih (k + 1) V2 d2 l4 l5 (by omega) (stE_kp hd6 hq).2 (by rw [show V2 19 = V 19 from (stE_kp hd6 hq).1 19 (by decide)]; exact ht) he1
      have tl : ∀ (Vx : VT) (d2 : Nat) (v : Int32), d2 ≤ 6 → popN Vx d2 v = (d2, v) → stE V d c = some (ppF Vx d2 v) → HT G mX10_worked 300 [some (.ref m), some (.int (nI ln)), some (.int (nI d2)), some (.int (nI k)), some (.int c), some (.int v)] [] (sv σ m Vx U) 2 (fun rv σ' => rv = some (.int (tsF V' 0 23 0)) ∧ σ' = sv σ m (tsF V' 0) U) := by
        intro Vx d2 v h6 hp hs
        refine ht_aload_n (D 159 rfl) rfl rfl ?_
        refine gf_X10_96 rfl (D 160 rfl) hM.k0 hM.q29 ?_
        refine ht_iload_n (D 161 rfl) rfl rfl ?_
        refine ht_aload_n (D 162 rfl) rfl rfl ?_
        refine gf_X10_99 rfl (D 163 rfl) hM.k0 hM.q30 ?_
        refine ht_iload_n (D 164 rfl) rfl rfl ?_
        refine hm_ild (o := 30) (n := d2) (by decide) (D 165 rfl) hM.k30 hM.n30 (by first | rfl | exact nI_add _ _ | assumption) (by omega) (by decide) ?_
        refine ht_if_ne (tgt := 319) (D 166 rfl) (by decide) (fun hb311 => ?_) (fun hb311 => ?_)
        · skip
          refine ht_aload_n (D 169 rfl) rfl rfl ?_
          refine gf_X10_96 rfl (D 170 rfl) hM.k0 hM.q29 ?_
          refine ht_iload_n (D 171 rfl) rfl rfl ?_
          refine hm_ild (o := 29) (n := d2) (by decide) (D 172 rfl) hM.k29 hM.n29 (by first | rfl | exact nI_add _ _ | assumption) (by omega) (by decide) ?_
          refine ht_iload (D 173 rfl) rfl ?_
          refine ht_imul (D 174 rfl) ?_
          refine hm_ist (o := 29) (n := d2) (by decide) (D 175 rfl) hM.k29 hM.n29 (by first | rfl | exact nI_add _ _ | assumption) (by omega) (by decide) ?_
          exact nx _ _ _ _ (by rw [hs]; unfold ppF; rw [hp]; simp [*])
        · skip
          refine ht_iload (D 167 rfl) rfl ?_
          refine ht_goto (tgt := 328) (D 168 rfl) (by decide) ?_
          refine hm_ist (o := 29) (n := d2) (by decide) (D 175 rfl) hM.k29 hM.n29 (by first | rfl | exact nI_add _ _ | assumption) (by omega) (by decide) ?_
          exact nx _ _ _ _ (by rw [hs]; unfold ppF; rw [hp]; simp [*])
      have pop : ∀ (Vx : VT) (d2 : Nat) (v : Int32), d2 ≤ 6 → stE V d c = some (ppF Vx d2 v) → HT G mX10_worked 268 [some (.ref m), some (.int (nI ln)), some (.int (nI d2)), some (.int (nI k)), some (.int c), some (.int v)] [] (sv σ m Vx U) 2 (fun rv σ' => rv = some (.int (tsF V' 0 23 0)) ∧ σ' = sv σ m (tsF V' 0) U) := by
        intro Vx d2
        induction d2 with
        | zero =>
          intro v h6 hs
          refine ht_iload_n (D 143 rfl) rfl rfl ?_
          refine ht_if_le (tgt := 300) (D 144 rfl) (by decide) (fun hb269 => ?_) (fun hb269 => ?_)
          · skip
            exact tl Vx 0 v (by omega) rfl hs
          · skip
            exact absurd (by decide : nI 0 ≤ 0) hb269
        | succ d2 ihp =>
          intro v h6 hs
          refine ht_iload_n (D 143 rfl) rfl rfl ?_
          refine ht_if_le (tgt := 300) (D 144 rfl) (by decide) (fun hb269 => ?_) (fun hb269 => ?_)
          · skip
            exact absurd hb269 (nI_nle (by omega) (by omega))
          · skip
            refine ht_aload_n (D 145 rfl) rfl rfl ?_
            refine gf_X10_102 rfl (D 146 rfl) hM.k0 hM.q31 ?_
            refine ht_iload_n (D 147 rfl) rfl rfl ?_
            refine hm_ild (o := 31) (n := (d2 + 1)) (by decide) (D 148 rfl) hM.k31 hM.n31 (by first | rfl | exact nI_add _ _ | assumption) (by omega) (by decide) ?_
            refine ht_iconst (v := 1) (D 149 rfl) (by decide) ?_
            refine ht_icmp_ne (tgt := 300) (D 150 rfl) (by decide) (fun hb279 => ?_) (fun hb279 => ?_)
            · skip
              exact tl Vx (d2 + 1) v h6 (by unfold popN; rw [if_neg (by assumption)]) hs
            · skip
              refine ht_iload (D 151 rfl) rfl ?_
              refine ht_if_ne (tgt := 291) (D 152 rfl) (by decide) (fun hb284 => ?_) (fun hb284 => ?_)
              · skip
                refine ht_iconst (v := 0) (D 155 rfl) (by decide) ?_
                refine ht_istore (D 156 rfl) (by decide) rfl ?_
                refine ht_iinc (v := nI d2) (D 157 rfl) rfl (pk_m1 d2) (by decide) rfl ?_
                refine ht_goto (tgt := 268) (D 158 rfl) (by decide) ?_
                exact ihp _ (by omega) (by rw [hs]; unfold ppF; rw [popN_s Vx d2 v (by assumption)]; simp [*])
              · skip
                refine ht_iconst (v := 1) (D 153 rfl) (by decide) ?_
                refine ht_goto (tgt := 292) (D 154 rfl) (by decide) ?_
                refine ht_istore (D 156 rfl) (by decide) rfl ?_
                refine ht_iinc (v := nI d2) (D 157 rfl) rfl (pk_m1 d2) (by decide) rfl ?_
                refine ht_goto (tgt := 268) (D 158 rfl) (by decide) ?_
                exact ihp _ (by omega) (by rw [hs]; unfold ppF; rw [popN_s Vx d2 v (by assumption)]; simp [*])
      refine ht_iload_n (D 10 rfl) rfl rfl ?_
      refine ht_aload_n (D 11 rfl) rfl rfl ?_
      refine gf_X10_65 rfl (D 12 rfl) hM.k0 hM.q19 ?_
      refine ht_iload_n (D 13 rfl) rfl rfl ?_
      refine hm_ild (o := 19) (n := ln) (by decide) (D 14 rfl) hM.k19 hM.n19 (by first | rfl | exact nI_add _ _ | assumption) (by omega) (by decide) ?_
      refine ht_icmp_ge (tgt := 335) (D 15 rfl) (by decide) (fun hb21 => ?_) (fun hb21 => ?_)
      · skip
        exact absurd (by rw [ht] at hb21; exact (nI_leI (by omega) (by omega)).mp hb21) (by omega)
      · skip
        refine ht_aload_n (D 16 rfl) rfl rfl ?_
        refine gf_X10_68 rfl (D 17 rfl) hM.k0 hM.q20 ?_
        refine ht_iload_n (D 18 rfl) rfl rfl ?_
        refine hm_ild (o := 20) (n := k) (by decide) (D 19 rfl) hM.k20 hM.n20 (by first | rfl | exact nI_add _ _ | assumption) (by omega) (by decide) ?_
        rw [hcc]
        refine ht_istore (D 20 rfl) (by decide) rfl ?_
        refine ht_iload (D 21 rfl) rfl ?_
        refine ht_bipush (v := 28) (D 22 rfl) (by decide) ?_
        refine ht_icmp_eq (tgt := 46) (D 23 rfl) (by decide) (fun hb36 => ?_) (fun hb36 => ?_)
        · skip
          have hd5 : d < 6 := by
            rcases Nat.lt_or_ge d 6 with h9 | h9
            · exact h9
            · exfalso
              unfold stE at hq
              simp [*, Nat.not_lt.mpr h9] at hq
          refine ht_iinc (v := nI (d + 1)) (D 27 rfl) rfl (nI_i1 _) (by decide) rfl ?_
          refine ht_aload_n (D 28 rfl) rfl rfl ?_
          refine gf_X10_102 rfl (D 29 rfl) hM.k0 hM.q31 ?_
          refine ht_iload_n (D 30 rfl) rfl rfl ?_
          refine ht_iload (D 31 rfl) rfl ?_
          refine ht_bipush (v := 30) (D 32 rfl) (by decide) ?_
          refine ht_icmp_ne (tgt := 65) (D 33 rfl) (by decide) (fun hb58 => ?_) (fun hb58 => ?_)
          · skip
            refine ht_iconst (v := 0) (D 36 rfl) (by decide) ?_
            refine hm_ist (o := 31) (n := (d + 1)) (by decide) (D 37 rfl) hM.k31 hM.n31 (by first | rfl | exact nI_add _ _ | assumption) (by omega) (by decide) ?_
            refine ht_aload_n (D 38 rfl) rfl rfl ?_
            refine ht_iload_n (D 39 rfl) rfl rfl ?_
            refine kVX10_opens (As := [_]) cl_X10_230 (D 40 rfl) (sm_opens hM (d := d + 1) (by omega)) hM.k0 rfl (Nat.le_of_ble_eq_true rfl) rfl (Nat.le_of_ble_eq_true rfl) (by omega) ?_
            rintro rv σ1 ⟨rfl, rfl⟩
            refine ht_goto (tgt := 329) (D 41 rfl) (by decide) ?_
            exact nx _ _ _ _ (by first | (unfold stE; simp [*]; done) | (exfalso; first | exact hb58 (by assumption) | (rw [hb36] at hb58; exact absurd hb58 (by decide))))
          · skip
            refine ht_iconst (v := 1) (D 34 rfl) (by decide) ?_
            refine ht_goto (tgt := 66) (D 35 rfl) (by decide) ?_
            refine hm_ist (o := 31) (n := (d + 1)) (by decide) (D 37 rfl) hM.k31 hM.n31 (by first | rfl | exact nI_add _ _ | assumption) (by omega) (by decide) ?_
            refine ht_aload_n (D 38 rfl) rfl rfl ?_
            refine ht_iload_n (D 39 rfl) rfl rfl ?_
            refine kVX10_opens (As := [_]) cl_X10_230 (D 40 rfl) (sm_opens hM (d := d + 1) (by omega)) hM.k0 rfl (Nat.le_of_ble_eq_true rfl) rfl (Nat.le_of_ble_eq_true rfl) (by omega) ?_
            rintro rv σ1 ⟨rfl, rfl⟩
            refine ht_goto (tgt := 329) (D 41 rfl) (by decide) ?_
            exact nx _ _ _ _ (by first | (unfold stE; simp [*]; done) | (exfalso; first | exact hb58 (by assumption) | (rw [hb36] at hb58; exact absurd hb58 (by decide))))
        · skip
          refine ht_iload (D 24 rfl) rfl ?_
          refine ht_bipush (v := 30) (D 25 rfl) (by decide) ?_
          refine ht_icmp_ne (tgt := 75) (D 26 rfl) (by decide) (fun hb43 => ?_) (fun hb43 => ?_)
          · skip
            refine ht_iload (D 42 rfl) rfl ?_
            refine ht_bipush (v := 20) (D 43 rfl) (by decide) ?_
            refine ht_icmp_eq (tgt := 89) (D 44 rfl) (by decide) (fun hb79 => ?_) (fun hb79 => ?_)
            · skip
              refine ht_aload_n (D 48 rfl) rfl rfl ?_
              refine ht_iload_n (D 49 rfl) rfl rfl ?_
              refine kVX10_sums (As := [_]) cl_X10_227 (D 50 rfl) (sm_sums hM (d := d) (by omega)) hM.k0 rfl (Nat.le_of_ble_eq_true rfl) rfl (Nat.le_of_ble_eq_true rfl) (by omega) ?_
              rintro rv σ1 ⟨rfl, rfl⟩
              refine ht_aload_n (D 51 rfl) rfl rfl ?_
              refine gf_X10_93 rfl (D 52 rfl) hM.k0 hM.q28 ?_
              refine ht_iload_n (D 53 rfl) rfl rfl ?_
              refine ht_iload (D 54 rfl) rfl ?_
              refine hm_ist (o := 28) (n := d) (by decide) (D 55 rfl) hM.k28 hM.n28 (by first | rfl | exact nI_add _ _ | assumption) (by omega) (by decide) ?_
              refine ht_goto (tgt := 329) (D 56 rfl) (by decide) ?_
              exact nx _ _ _ _ (by first | (unfold stE; simp [*]; done) | (exfalso; first | exact hb58 (by assumption) | (rw [hb36] at hb58; exact absurd hb58 (by decide))))
            · skip
              refine ht_iload (D 45 rfl) rfl ?_
              refine ht_bipush (v := 21) (D 46 rfl) (by decide) ?_
              refine ht_icmp_ne (tgt := 105) (D 47 rfl) (by decide) (fun hb86 => ?_) (fun hb86 => ?_)
              · skip
                refine ht_iload (D 57 rfl) rfl ?_
                refine ht_bipush (v := 22) (D 58 rfl) (by decide) ?_
                refine ht_icmp_ne (tgt := 123) (D 59 rfl) (by decide) (fun hb109 => ?_) (fun hb109 => ?_)
                · skip
                  refine ht_iload (D 66 rfl) rfl ?_
                  refine ht_bipush (v := 24) (D 67 rfl) (by decide) ?_
                  refine ht_icmp_eq (tgt := 137) (D 68 rfl) (by decide) (fun hb127 => ?_) (fun hb127 => ?_)
                  · skip
                    refine ht_aload_n (D 72 rfl) rfl rfl ?_
                    refine ht_iload_n (D 73 rfl) rfl rfl ?_
                    refine kVX10_sums (As := [_]) cl_X10_227 (D 74 rfl) (sm_sums hM (d := d) (by omega)) hM.k0 rfl (Nat.le_of_ble_eq_true rfl) rfl (Nat.le_of_ble_eq_true rfl) (by omega) ?_
                    rintro rv σ1 ⟨rfl, rfl⟩
                    refine ht_aload_n (D 75 rfl) rfl rfl ?_
                    refine gf_X10_84 rfl (D 76 rfl) hM.k0 hM.q25 ?_
                    refine ht_iload_n (D 77 rfl) rfl rfl ?_
                    refine ht_aload_n (D 78 rfl) rfl rfl ?_
                    refine gf_X10_90 rfl (D 79 rfl) hM.k0 hM.q27 ?_
                    refine ht_iload_n (D 80 rfl) rfl rfl ?_
                    refine hm_ild (o := 27) (n := d) (by decide) (D 81 rfl) hM.k27 hM.n27 (by first | rfl | exact nI_add _ _ | assumption) (by omega) (by decide) ?_
                    refine hm_ist (o := 25) (n := d) (by decide) (D 82 rfl) hM.k25 hM.n25 (by first | rfl | exact nI_add _ _ | assumption) (by omega) (by decide) ?_
                    refine ht_aload_n (D 83 rfl) rfl rfl ?_
                    refine gf_X10_87 rfl (D 84 rfl) hM.k0 hM.q26 ?_
                    refine ht_iload_n (D 85 rfl) rfl rfl ?_
                    refine ht_iload (D 86 rfl) rfl ?_
                    refine hm_ist (o := 26) (n := d) (by decide) (D 87 rfl) hM.k26 hM.n26 (by first | rfl | exact nI_add _ _ | assumption) (by omega) (by decide) ?_
                    refine ht_aload_n (D 88 rfl) rfl rfl ?_
                    refine gf_X10_90 rfl (D 89 rfl) hM.k0 hM.q27 ?_
                    refine ht_iload_n (D 90 rfl) rfl rfl ?_
                    refine ht_iconst (v := 0) (D 91 rfl) (by decide) ?_
                    refine hm_ist (o := 27) (n := d) (by decide) (D 92 rfl) hM.k27 hM.n27 (by first | rfl | exact nI_add _ _ | assumption) (by omega) (by decide) ?_
                    refine ht_aload_n (D 93 rfl) rfl rfl ?_
                    refine gf_X10_93 rfl (D 94 rfl) hM.k0 hM.q28 ?_
                    refine ht_iload_n (D 95 rfl) rfl rfl ?_
                    refine ht_bipush (v := 20) (D 96 rfl) (by decide) ?_
                    refine hm_ist (o := 28) (n := d) (by decide) (D 97 rfl) hM.k28 hM.n28 (by first | rfl | exact nI_add _ _ | assumption) (by omega) (by decide) ?_
                    refine ht_goto (tgt := 329) (D 98 rfl) (by decide) ?_
                    exact nx _ _ _ _ (by first | (unfold stE; simp [*]; done) | (exfalso; first | exact hb58 (by assumption) | (rw [hb36] at hb58; exact absurd hb58 (by decide))))
                  · skip
                    refine ht_iload (D 69 rfl) rfl ?_
                    refine ht_bipush (v := 25) (D 70 rfl) (by decide) ?_
                    refine ht_icmp_ne (tgt := 180) (D 71 rfl) (by decide) (fun hb134 => ?_) (fun hb134 => ?_)
                    · skip
                      refine ht_iload (D 99 rfl) rfl ?_
                      refine ht_bipush (v := 26) (D 100 rfl) (by decide) ?_
                      refine ht_icmp_eq (tgt := 194) (D 101 rfl) (by decide) (fun hb184 => ?_) (fun hb184 => ?_)
                      · skip
                        refine ht_aload_n (D 105 rfl) rfl rfl ?_
                        refine ht_iload_n (D 106 rfl) rfl rfl ?_
                        refine kVX10_tests (As := [_]) cl_X10_233 (D 107 rfl) (sm_tests hM (d := d) (by omega)) hM.k0 rfl (Nat.le_of_ble_eq_true rfl) rfl (Nat.le_of_ble_eq_true rfl) (by omega) ?_
                        rintro rv σ1 ⟨rfl, rfl⟩
                        refine ht_aload_n (D 108 rfl) rfl rfl ?_
                        refine gf_X10_81 rfl (D 109 rfl) hM.k0 hM.q24 ?_
                        refine ht_iload_n (D 110 rfl) rfl rfl ?_
                        refine ht_iload (D 111 rfl) rfl ?_
                        refine hm_ist (o := 24) (n := d) (by decide) (D 112 rfl) hM.k24 hM.n24 (by first | rfl | exact nI_add _ _ | assumption) (by omega) (by decide) ?_
                        refine ht_goto (tgt := 329) (D 113 rfl) (by decide) ?_
                        exact nx _ _ _ _ (by first | (unfold stE; simp [*]; done) | (exfalso; first | exact hb58 (by assumption) | (rw [hb36] at hb58; exact absurd hb58 (by decide))))
                      · skip
                        refine ht_iload (D 102 rfl) rfl ?_
                        refine ht_bipush (v := 27) (D 103 rfl) (by decide) ?_
                        refine ht_icmp_ne (tgt := 210) (D 104 rfl) (by decide) (fun hb191 => ?_) (fun hb191 => ?_)
                        · skip
                          refine ht_iload (D 114 rfl) rfl ?_
                          refine ht_bipush (v := 100) (D 115 rfl) (by decide) ?_
                          refine ht_icmp_lt (tgt := 225) (D 116 rfl) (by decide) (fun hb214 => ?_) (fun hb214 => ?_)
                          · skip
                            have h100 : ¬ (100 : Int32) ≤ c := by simp only [i_lt, i_le] at hb214 ⊢; omega
                            refine ht_iload (D 121 rfl) rfl ?_
                            refine ht_bipush (v := 20) (D 122 rfl) (by decide) ?_
                            refine ht_icmp_ge (tgt := 242) (D 123 rfl) (by decide) (fun hb229 => ?_) (fun hb229 => ?_)
                            · skip
                              refine ht_iconst (v := 0) (D 129 rfl) (by decide) ?_
                              refine ht_istore (D 130 rfl) (by decide) rfl ?_
                              refine ht_iload (D 131 rfl) rfl ?_
                              refine ht_bipush (v := 29) (D 132 rfl) (by decide) ?_
                              refine ht_icmp_ne (tgt := 268) (D 133 rfl) (by decide) (fun hb249 => ?_) (fun hb249 => ?_)
                              · skip
                                exact pop _ _ _ (by omega) (by unfold stE; simp [*])
                              · skip
                                have hd0 : d ≠ 0 := by
                                  rintro rfl
                                  unfold stE at hq
                                  simp [*] at hq
                                obtain ⟨e2, rfl⟩ : ∃ e2, d = e2 + 1 := ⟨d - 1, by omega⟩
                                refine ht_aload_n (D 134 rfl) rfl rfl ?_
                                refine ht_iload_n (D 135 rfl) rfl rfl ?_
                                refine kVX10_tests (As := [_]) cl_X10_233 (D 136 rfl) (sm_tests hM (d := e2 + 1) (by omega)) hM.k0 rfl (Nat.le_of_ble_eq_true rfl) rfl (Nat.le_of_ble_eq_true rfl) (by omega) ?_
                                rintro rv σ1 ⟨rfl, rfl⟩
                                refine ht_aload_n (D 137 rfl) rfl rfl ?_
                                refine gf_X10_78 rfl (D 138 rfl) hM.k0 hM.q23 ?_
                                refine ht_iload_n (D 139 rfl) rfl rfl ?_
                                refine hm_ild (o := 23) (n := (e2 + 1)) (by decide) (D 140 rfl) hM.k23 hM.n23 (by first | rfl | exact nI_add _ _ | assumption) (by omega) (by decide) ?_
                                refine ht_istore (D 141 rfl) (by decide) rfl ?_
                                refine ht_iinc (v := nI e2) (D 142 rfl) rfl (pk_m1 e2) (by decide) rfl ?_
                                exact pop _ _ _ (by omega) (by unfold stE; simp [*])
                            · skip
                              refine ht_aload_n (D 124 rfl) rfl rfl ?_
                              refine gf_X10_105 rfl (D 125 rfl) hM.k0 hM.q32 ?_
                              have h29 : ¬ c = 29 := by
                                rintro rfl
                                exact hb229 (by decide)
                              have h20 : ¬ (20 : Int32) ≤ c := hb229
                              obtain ⟨jc, hjc1, hjc3, hcn, h0c⟩ : ∃ jc, jc < 20 ∧ nI jc = c ∧ c.toNatClampNeg = jc ∧ 0 ≤ c := by
                                rcases pk_ix c (n := 20) (by decide) with h9 | h9 | ⟨jc, h9, h8⟩
                                · exfalso
                                  have h0 : ¬ (0 : Int32) ≤ c := by simp only [i_lt, i_le] at h9 ⊢; omega
                                  unfold stE at hq
                                  simp [*] at hq
                                  done
                                · exact absurd h9 hb229
                                · exact ⟨jc, h9, h8.symm, by rw [h8, nI_clamp (by omega)], by rw [h8]; exact nI_pos' (by omega)⟩
                              refine ht_iload (D 126 rfl) rfl ?_
                              refine hm_ild (o := 32) (n := jc) (by decide) (D 127 rfl) hM.k32 hM.n32 hjc3.symm (by omega) (by decide) ?_
                              refine ht_goto (tgt := 243) (D 128 rfl) (by decide) ?_
                              refine ht_istore (D 130 rfl) (by decide) rfl ?_
                              refine ht_iload (D 131 rfl) rfl ?_
                              refine ht_bipush (v := 29) (D 132 rfl) (by decide) ?_
                              refine ht_icmp_ne (tgt := 268) (D 133 rfl) (by decide) (fun hb249 => ?_) (fun hb249 => ?_)
                              · skip
                                exact pop _ _ _ (by omega) (by unfold stE; simp [*])
                              · skip
                                have hd0 : d ≠ 0 := by
                                  rintro rfl
                                  unfold stE at hq
                                  simp [*] at hq
                                obtain ⟨e2, rfl⟩ : ∃ e2, d = e2 + 1 := ⟨d - 1, by omega⟩
                                refine ht_aload_n (D 134 rfl) rfl rfl ?_
                                refine ht_iload_n (D 135 rfl) rfl rfl ?_
                                refine kVX10_tests (As := [_]) cl_X10_233 (D 136 rfl) (sm_tests hM (d := e2 + 1) (by omega)) hM.k0 rfl (Nat.le_of_ble_eq_true rfl) rfl (Nat.le_of_ble_eq_true rfl) (by omega) ?_
                                rintro rv σ1 ⟨rfl, rfl⟩
                                refine ht_aload_n (D 137 rfl) rfl rfl ?_
                                refine gf_X10_78 rfl (D 138 rfl) hM.k0 hM.q23 ?_
                                refine ht_iload_n (D 139 rfl) rfl rfl ?_
                                refine hm_ild (o := 23) (n := (e2 + 1)) (by decide) (D 140 rfl) hM.k23 hM.n23 (by first | rfl | exact nI_add _ _ | assumption) (by omega) (by decide) ?_
                                refine ht_istore (D 141 rfl) (by decide) rfl ?_
                                refine ht_iinc (v := nI e2) (D 142 rfl) rfl (pk_m1 e2) (by decide) rfl ?_
                                exact pop _ _ _ (by omega) (by unfold stE; simp [*])
                          · skip
                            have h100 : (100 : Int32) ≤ c := by simp only [i_lt, i_le] at hb214 ⊢; omega
                            refine ht_iload (D 117 rfl) rfl ?_
                            refine ht_bipush (v := 100) (D 118 rfl) (by decide) ?_
                            refine ht_isub (D 119 rfl) ?_
                            refine ht_goto (tgt := 243) (D 120 rfl) (by decide) ?_
                            refine ht_istore (D 130 rfl) (by decide) rfl ?_
                            refine ht_iload (D 131 rfl) rfl ?_
                            refine ht_bipush (v := 29) (D 132 rfl) (by decide) ?_
                            refine ht_icmp_ne (tgt := 268) (D 133 rfl) (by decide) (fun hb249 => ?_) (fun hb249 => ?_)
                            · skip
                              exact pop _ _ _ (by omega) (by unfold stE; simp [*])
                            · skip
                              have hd0 : d ≠ 0 := by
                                rintro rfl
                                unfold stE at hq
                                simp [*] at hq
                              obtain ⟨e2, rfl⟩ : ∃ e2, d = e2 + 1 := ⟨d - 1, by omega⟩
                              refine ht_aload_n (D 134 rfl) rfl rfl ?_
                              refine ht_iload_n (D 135 rfl) rfl rfl ?_
                              refine kVX10_tests (As := [_]) cl_X10_233 (D 136 rfl) (sm_tests hM (d := e2 + 1) (by omega)) hM.k0 rfl (Nat.le_of_ble_eq_true rfl) rfl (Nat.le_of_ble_eq_true rfl) (by omega) ?_
                              rintro rv σ1 ⟨rfl, rfl⟩
                              refine ht_aload_n (D 137 rfl) rfl rfl ?_
                              refine gf_X10_78 rfl (D 138 rfl) hM.k0 hM.q23 ?_
                              refine ht_iload_n (D 139 rfl) rfl rfl ?_
                              refine hm_ild (o := 23) (n := (e2 + 1)) (by decide) (D 140 rfl) hM.k23 hM.n23 (by first | rfl | exact nI_add _ _ | assumption) (by omega) (by decide) ?_
                              refine ht_istore (D 141 rfl) (by decide) rfl ?_
                              refine ht_iinc (v := nI e2) (D 142 rfl) rfl (pk_m1 e2) (by decide) rfl ?_
                              exact pop _ _ _ (by omega) (by unfold stE; simp [*])
                        · skip
                          refine ht_aload_n (D 105 rfl) rfl rfl ?_
                          refine ht_iload_n (D 106 rfl) rfl rfl ?_
                          refine kVX10_tests (As := [_]) cl_X10_233 (D 107 rfl) (sm_tests hM (d := d) (by omega)) hM.k0 rfl (Nat.le_of_ble_eq_true rfl) rfl (Nat.le_of_ble_eq_true rfl) (by omega) ?_
                          rintro rv σ1 ⟨rfl, rfl⟩
                          refine ht_aload_n (D 108 rfl) rfl rfl ?_
                          refine gf_X10_81 rfl (D 109 rfl) hM.k0 hM.q24 ?_
                          refine ht_iload_n (D 110 rfl) rfl rfl ?_
                          refine ht_iload (D 111 rfl) rfl ?_
                          refine hm_ist (o := 24) (n := d) (by decide) (D 112 rfl) hM.k24 hM.n24 (by first | rfl | exact nI_add _ _ | assumption) (by omega) (by decide) ?_
                          refine ht_goto (tgt := 329) (D 113 rfl) (by decide) ?_
                          exact nx _ _ _ _ (by first | (unfold stE; simp [*]; done) | (exfalso; first | exact hb58 (by assumption) | (rw [hb36] at hb58; exact absurd hb58 (by decide))))
                    · skip
                      refine ht_aload_n (D 72 rfl) rfl rfl ?_
                      refine ht_iload_n (D 73 rfl) rfl rfl ?_
                      refine kVX10_sums (As := [_]) cl_X10_227 (D 74 rfl) (sm_sums hM (d := d) (by omega)) hM.k0 rfl (Nat.le_of_ble_eq_true rfl) rfl (Nat.le_of_ble_eq_true rfl) (by omega) ?_
                      rintro rv σ1 ⟨rfl, rfl⟩
                      refine ht_aload_n (D 75 rfl) rfl rfl ?_
                      refine gf_X10_84 rfl (D 76 rfl) hM.k0 hM.q25 ?_
                      refine ht_iload_n (D 77 rfl) rfl rfl ?_
                      refine ht_aload_n (D 78 rfl) rfl rfl ?_
                      refine gf_X10_90 rfl (D 79 rfl) hM.k0 hM.q27 ?_
                      refine ht_iload_n (D 80 rfl) rfl rfl ?_
                      refine hm_ild (o := 27) (n := d) (by decide) (D 81 rfl) hM.k27 hM.n27 (by first | rfl | exact nI_add _ _ | assumption) (by omega) (by decide) ?_
                      refine hm_ist (o := 25) (n := d) (by decide) (D 82 rfl) hM.k25 hM.n25 (by first | rfl | exact nI_add _ _ | assumption) (by omega) (by decide) ?_
                      refine ht_aload_n (D 83 rfl) rfl rfl ?_
                      refine gf_X10_87 rfl (D 84 rfl) hM.k0 hM.q26 ?_
                      refine ht_iload_n (D 85 rfl) rfl rfl ?_
                      refine ht_iload (D 86 rfl) rfl ?_
                      refine hm_ist (o := 26) (n := d) (by decide) (D 87 rfl) hM.k26 hM.n26 (by first | rfl | exact nI_add _ _ | assumption) (by omega) (by decide) ?_
                      refine ht_aload_n (D 88 rfl) rfl rfl ?_
                      refine gf_X10_90 rfl (D 89 rfl) hM.k0 hM.q27 ?_
                      refine ht_iload_n (D 90 rfl) rfl rfl ?_
                      refine ht_iconst (v := 0) (D 91 rfl) (by decide) ?_
                      refine hm_ist (o := 27) (n := d) (by decide) (D 92 rfl) hM.k27 hM.n27 (by first | rfl | exact nI_add _ _ | assumption) (by omega) (by decide) ?_
                      refine ht_aload_n (D 93 rfl) rfl rfl ?_
                      refine gf_X10_93 rfl (D 94 rfl) hM.k0 hM.q28 ?_
                      refine ht_iload_n (D 95 rfl) rfl rfl ?_
                      refine ht_bipush (v := 20) (D 96 rfl) (by decide) ?_
                      refine hm_ist (o := 28) (n := d) (by decide) (D 97 rfl) hM.k28 hM.n28 (by first | rfl | exact nI_add _ _ | assumption) (by omega) (by decide) ?_
                      refine ht_goto (tgt := 329) (D 98 rfl) (by decide) ?_
                      exact nx _ _ _ _ (by first | (unfold stE; simp [*]; done) | (exfalso; first | exact hb58 (by assumption) | (rw [hb36] at hb58; exact absurd hb58 (by decide))))
                · skip
                  refine ht_aload_n (D 60 rfl) rfl rfl ?_
                  refine gf_X10_99 rfl (D 61 rfl) hM.k0 hM.q30 ?_
                  refine ht_iload_n (D 62 rfl) rfl rfl ?_
                  refine ht_iload (D 63 rfl) rfl ?_
                  refine hm_ist (o := 30) (n := d) (by decide) (D 64 rfl) hM.k30 hM.n30 (by first | rfl | exact nI_add _ _ | assumption) (by omega) (by decide) ?_
                  refine ht_goto (tgt := 329) (D 65 rfl) (by decide) ?_
                  exact nx _ _ _ _ (by first | (unfold stE; simp [*]; done) | (exfalso; first | exact hb58 (by assumption) | (rw [hb36] at hb58; exact absurd hb58 (by decide))))
              · skip
                refine ht_aload_n (D 48 rfl) rfl rfl ?_
                refine ht_iload_n (D 49 rfl) rfl rfl ?_
                refine kVX10_sums (As := [_]) cl_X10_227 (D 50 rfl) (sm_sums hM (d := d) (by omega)) hM.k0 rfl (Nat.le_of_ble_eq_true rfl) rfl (Nat.le_of_ble_eq_true rfl) (by omega) ?_
                rintro rv σ1 ⟨rfl, rfl⟩
                refine ht_aload_n (D 51 rfl) rfl rfl ?_
                refine gf_X10_93 rfl (D 52 rfl) hM.k0 hM.q28 ?_
                refine ht_iload_n (D 53 rfl) rfl rfl ?_
                refine ht_iload (D 54 rfl) rfl ?_
                refine hm_ist (o := 28) (n := d) (by decide) (D 55 rfl) hM.k28 hM.n28 (by first | rfl | exact nI_add _ _ | assumption) (by omega) (by decide) ?_
                refine ht_goto (tgt := 329) (D 56 rfl) (by decide) ?_
                exact nx _ _ _ _ (by first | (unfold stE; simp [*]; done) | (exfalso; first | exact hb58 (by assumption) | (rw [hb36] at hb58; exact absurd hb58 (by decide))))
          · skip
            have hd5 : d < 6 := by
              rcases Nat.lt_or_ge d 6 with h9 | h9
              · exact h9
              · exfalso
                unfold stE at hq
                simp [*, Nat.not_lt.mpr h9] at hq
            refine ht_iinc (v := nI (d + 1)) (D 27 rfl) rfl (nI_i1 _) (by decide) rfl ?_
            refine ht_aload_n (D 28 rfl) rfl rfl ?_
            refine gf_X10_102 rfl (D 29 rfl) hM.k0 hM.q31 ?_
            refine ht_iload_n (D 30 rfl) rfl rfl ?_
            refine ht_iload (D 31 rfl) rfl ?_
            refine ht_bipush (v := 30) (D 32 rfl) (by decide) ?_
            refine ht_icmp_ne (tgt := 65) (D 33 rfl) (by decide) (fun hb58 => ?_) (fun hb58 => ?_)
            · skip
              refine ht_iconst (v := 0) (D 36 rfl) (by decide) ?_
              refine hm_ist (o := 31) (n := (d + 1)) (by decide) (D 37 rfl) hM.k31 hM.n31 (by first | rfl | exact nI_add _ _ | assumption) (by omega) (by decide) ?_
              refine ht_aload_n (D 38 rfl) rfl rfl ?_
              refine ht_iload_n (D 39 rfl) rfl rfl ?_
              refine kVX10_opens (As := [_]) cl_X10_230 (D 40 rfl) (sm_opens hM (d := d + 1) (by omega)) hM.k0 rfl (Nat.le_of_ble_eq_true rfl) rfl (Nat.le_of_ble_eq_true rfl) (by omega) ?_
              rintro rv σ1 ⟨rfl, rfl⟩
              refine ht_goto (tgt := 329) (D 41 rfl) (by decide) ?_
              exact nx _ _ _ _ (by first | (unfold stE; simp [*]; done) | (exfalso; first | exact hb58 (by assumption) | (rw [hb36] at hb58; exact absurd hb58 (by decide))))
            · skip
              refine ht_iconst (v := 1) (D 34 rfl) (by decide) ?_
              refine ht_goto (tgt := 66) (D 35 rfl) (by decide) ?_
              refine hm_ist (o := 31) (n := (d + 1)) (by decide) (D 37 rfl) hM.k31 hM.n31 (by first | rfl | exact nI_add _ _ | assumption) (by omega) (by decide) ?_
              refine ht_aload_n (D 38 rfl) rfl rfl ?_
              refine ht_iload_n (D 39 rfl) rfl rfl ?_
              refine kVX10_opens (As := [_]) cl_X10_230 (D 40 rfl) (sm_opens hM (d := d + 1) (by omega)) hM.k0 rfl (Nat.le_of_ble_eq_true rfl) rfl (Nat.le_of_ble_eq_true rfl) (by omega) ?_
              rintro rv σ1 ⟨rfl, rfl⟩
              refine ht_goto (tgt := 329) (D 41 rfl) (by decide) ?_
              exact nx _ _ _ _ (by first | (unfold stE; simp [*]; done) | (exfalso; first | exact hb58 (by assumption) | (rw [hb36] at hb58; exact absurd hb58 (by decide))))
  show HT G mX10_worked 0 [some (.ref m), some (.int (nI ln)), none, none, none, none] [] (sv σ m V U) 2 _
  refine ht_iconst (v := 0) (D 0 rfl) (by decide) ?_
  refine ht_istore_n (D 1 rfl) rfl (by decide) rfl ?_
  refine ht_aload_n (D 2 rfl) rfl rfl ?_
  refine ht_iconst (v := 0) (D 3 rfl) (by decide) ?_
  refine kVX10_opens (As := [_]) cl_X10_230 (D 4 rfl) (sm_opens hM (d := 0) (by omega)) hM.k0 rfl (Nat.le_of_ble_eq_true rfl) rfl (Nat.le_of_ble_eq_true rfl) (by omega) ?_
  rintro rv σ1 ⟨rfl, rfl⟩
  refine ht_aload_n (D 5 rfl) rfl rfl ?_
  refine gf_X10_62 rfl (D 6 rfl) hM.k0 hM.q18 ?_
  refine ht_iload_n (D 7 rfl) rfl rfl ?_
  refine hm_ild (o := 18) (n := ln) (by decide) (D 8 rfl) hM.k18 hM.n18 (by first | rfl | exact nI_add _ _ | assumption) (by omega) (by decide) ?_
  rw [show opF V 0 18 ln = V 18 ln from congrFun (opF_kp V 0 18 (by decide)) ln, hf]
  refine ht_istore_n (D 9 rfl) rfl (by decide) rfl ?_
  exact ht_cast (loop n f (opF V 0) 0 none none rfl (by omega) (by rw [opF_kp V 0 19 (by decide)]; exact ht) he) rfl rfl rfl
end M2
