/-! ===== the reference: walks, an hour passes ===== -/
def wok (V : VT) (S : ST) (c : Int32) (gk h d : Nat) : Prop := ¬ ld V d c = -2 ∧ ¬ 0 < S d ∧ ¬ 0 < gN V (ld V d c) h gk ∧ (ld V d c < 0 ∨ (0 < V 36 (ld V d c).toNatClampNeg ∧ V 36 (ld V d c).toNatClampNeg < V 36 c.toNatClampNeg))
noncomputable def wst (V : VT) (S : ST) (c : Int32) (gk h d : Nat) (b : Option Nat) : Option Nat := (Classical.propDecidable (wok V S c gk h d)).casesOn (fun _ => b) (fun _ => match b with
  | none => some d
  | some b0 => if fO V (ld V b0 c) ≤ fO V (ld V d c) then b else some d)
theorem wst_f {V : VT} {S : ST} {c : Int32} {gk h d : Nat} (b : Option Nat) (hn : ¬ wok V S c gk h d) : wst V S c gk h d b = b := by
  unfold wst
  cases Classical.propDecidable (wok V S c gk h d) with
  | isTrue hy => exact absurd hy hn
  | isFalse _ => rfl
theorem wst_n {V : VT} {S : ST} {c : Int32} {gk h d : Nat} (hy : wok V S c gk h d) : wst V S c gk h d none = some d := by
  unfold wst
  cases Classical.propDecidable (wok V S c gk h d) with
  | isTrue _ => rfl
  | isFalse hn => exact absurd hy hn
theorem wst_s {V : VT} {S : ST} {c : Int32} {gk h d b0 : Nat} (hy : wok V S c gk h d) : wst V S c gk h d (some b0) = if fO V (ld V b0 c) ≤ fO V (ld V d c) then some b0 else some d := by
  unfold wst
  cases Classical.propDecidable (wok V S c gk h d) with
  | isTrue _ => rfl
  | isFalse hn => exact absurd hy hn
noncomputable def wb (V : VT) (S : ST) (c : Int32) (gk h : Nat) : Nat → Option Nat
  | 0 => none
  | d + 1 => wst V S c gk h d (wb V S c gk h d)
theorem wst_lt {V : VT} {S : ST} {c : Int32} {gk h d : Nat} {b : Option Nat} (hb : ∀ b0, b = some b0 → b0 < d) : ∀ b0, wst V S c gk h d b = some b0 → b0 < d + 1 := by
  intro b0 he
  by_cases hy : wok V S c gk h d
  · cases b with
    | none => rw [wst_n hy] at he; cases he; omega
    | some b1 =>
      rw [wst_s hy] at he
      have := hb b1 rfl
      split at he <;> (cases he; omega)
  · rw [wst_f b hy] at he
    have := hb b0 he
    omega
def bI (b : Option Nat) : Int32 := match b with
  | none => -1
  | some d => nI d
noncomputable def wkS (V : VT) (gk h dN : Nat) (S : ST) (mm : Nat) : ST := if S (68 + mm) < 0 ∨ nI (h / 24) < V 15 mm ∨ 0 < gN V (S (68 + mm)) h gk then S else match wb V S (S (68 + mm)) gk h dN with
  | none => S
  | some b => va_up S (68 + mm) (ld V b (S (68 + mm)))
theorem ld_cases {V : VT} {cN dN mN gk : Nat} (hP : PL V cN dN mN gk) {j : Nat} (hj : j < dN) (c : Int32) : ld V j c = -2 ∨ ld V j c = -1 ∨ ∃ t, t < cN ∧ ld V j c = nI t := by
  unfold ld
  split
  · exact Or.inr (hP.2.2.2.2.2.2 j hj)
  · split
    · exact Or.inr (Or.inr (hP.2.2.2.2.2.1 j hj))
    · exact Or.inl rfl
section M5
variable {G : GG} {σ : Hp} {m : Nat} {V : VT} {U : UT}
theorem farok {V : VT} {cN dN mN gk : Nat} (hP : PL V cN dN mN gk) {j : Nat} {c : Int32} (hj : j < dN) (hb : ¬ ld V j c = -2) : ld V j c < 0 ∨ ∃ q, q < 8 ∧ ld V j c = nI q := by
  rcases ld_cases hP hj c with h9 | h9 | ⟨t, h9, h8⟩
  · exact absurd h9 hb
  · exact Or.inl (by rw [h9]; decide)
  · have := hP.1.2
    exact Or.inr ⟨t, by omega, h8⟩
set_option maxRecDepth 100000 in
set_option maxHeartbeats 4000000 in
theorem sm_walks (hM : MS σ m) {cN dN mN gk : Nat} (hP : PL V cN dN mN gk) {mm : Nat} (hmm : mm < mN) {h : Nat} (hh : V 33 80 = nI h) (h31 : h < 2 ^ 31) (hman : V 33 (68 + mm) = -1 ∨ ∃ c, c < cN ∧ V 33 (68 + mm) = nI c) : Sp G mX10_walks 1 [.ref m, .int (nI mm)] (sv σ m V U) (fun rv σ' => rv = none ∧ σ' = sv σ m (sS V (wkS V gk h dN (V 33) mm)) U) := by
  have D := dat dl_X10_walks
  have hd10 : dN ≤ 10 := hP.2.1.2
  have hc8 : cN ≤ 8 := hP.1.2
  have hm6 : mN ≤ 6 := hP.2.2.1.2
  show HT G mX10_walks 0 [some (.ref m), some (.int (nI mm)), none, none, none, none, none, none] [] (sv σ m V U) 1 _
  refine ht_aload_n (D 0 rfl) rfl rfl ?_
  refine gf_X10_108 rfl (D 1 rfl) hM.k0 hM.q33 ?_
  refine ht_bipush (v := 68) (D 2 rfl) (by decide) ?_
  refine ht_iload_n (D 3 rfl) rfl rfl ?_
  refine ht_iadd (D 4 rfl) ?_
  refine hm_ild (o := 33) (n := (68 + mm)) (by decide) (D 5 rfl) hM.k33 hM.n33 (by first | rfl | exact nI_add _ _ | assumption) (by omega) (by decide) ?_
  generalize hcd : V 33 (68 + mm) = c at hman ⊢
  refine ht_istore_n (D 6 rfl) rfl (by decide) rfl ?_
  refine ht_aload_n (D 7 rfl) rfl rfl ?_
  refine gf_X10_108 rfl (D 8 rfl) hM.k0 hM.q33 ?_
  refine ht_bipush (v := 80) (D 9 rfl) (by decide) ?_
  refine hm_ild (o := 33) (n := 80) (by decide) (D 10 rfl) hM.k33 hM.n33 (by first | rfl | exact nI_add _ _ | assumption) (by omega) (by decide) ?_
  rw [hh]
  refine ht_istore_n (D 11 rfl) rfl (by decide) rfl ?_
  refine ht_iload_n (D 12 rfl) rfl rfl ?_
  refine ht_if_lt (tgt := 44) (D 13 rfl) (by decide) (fun hb19 => ?_) (fun hb19 => ?_)
  · skip
    refine ht_vret (D 27 rfl) rfl ?_
    refine ⟨rfl, ?_⟩
    rw [show wkS V gk h dN (V 33) mm = V 33 from if_pos (by rw [hcd]; exact Or.inl hb19)]
    exact (congrArg (fun z => sv σ m z U) (sS_id V)).symm
  · skip
    obtain ⟨cc, hcc1, hcc3⟩ : ∃ cc, cc < cN ∧ c = nI cc := by
      rcases hman with h9 | h9
      · rw [h9] at hb19
        exact absurd (by decide) hb19
      · exact h9
    subst hcc3
    have hcc2 := hcd
    refine ht_iload_n (D 14 rfl) rfl rfl ?_
    refine ht_bipush (v := 24) (D 15 rfl) (by decide) ?_
    refine ht_idiv (D 16 rfl) (by decide) ?_
    rw [show (24 : Int32) = nI 24 from rfl, pk_div h31 (by decide) (by decide)]
    refine ht_aload_n (D 17 rfl) rfl rfl ?_
    refine gf_X10_53 rfl (D 18 rfl) hM.k0 hM.q15 ?_
    refine ht_iload_n (D 19 rfl) rfl rfl ?_
    refine hm_ild (o := 15) (n := mm) (by decide) (D 20 rfl) hM.k15 hM.n15 (by first | rfl | exact nI_add _ _ | assumption) (by omega) (by decide) ?_
    refine ht_icmp_lt (tgt := 44) (D 21 rfl) (by decide) (fun hb32 => ?_) (fun hb32 => ?_)
    · skip
      refine ht_vret (D 27 rfl) rfl ?_
      refine ⟨rfl, ?_⟩
      rw [show wkS V gk h dN (V 33) mm = V 33 from if_pos (by rw [hcd]; exact Or.inr (Or.inl hb32))]
      exact (congrArg (fun z => sv σ m z U) (sS_id V)).symm
    · skip
      refine ht_aload_n (D 22 rfl) rfl rfl ?_
      refine ht_iload_n (D 23 rfl) rfl rfl ?_
      refine ht_iload_n (D 24 rfl) rfl rfl ?_
      refine kVX10_hasGuard (As := [_, _]) cl_X10_381 (D 25 rfl) (sm_hasGuard hM hP.2.2.2.1.1 hP.2.2.2.1.2 hP.2.2.2.2.1 h31 _) hM.k0 rfl (Nat.le_of_ble_eq_true rfl) rfl (Nat.le_of_ble_eq_true rfl) (by omega) ?_
      rintro rv σ1 ⟨rfl, rfl⟩
      refine ht_if_eq (tgt := 45) (D 26 rfl) (by decide) (fun hb41 => ?_) (fun hb41 => ?_)
      · skip
        refine ht_iconst (v := -1) (D 28 rfl) (by decide) ?_
        refine ht_istore (D 29 rfl) (by decide) rfl ?_
        refine ht_iconst (v := 0) (D 30 rfl) (by decide) ?_
        refine ht_istore (D 31 rfl) (by decide) rfl ?_
        have hwk : wkS V gk h dN (V 33) mm = match wb V (V 33) (nI cc) gk h dN with | none => V 33 | some b => va_up (V 33) (68 + mm) (ld V b (V 33 (68 + mm))) := by
          unfold wkS
          rw [if_neg (by rw [hcc2]; rintro (q | q | q); exact nI_pos (by omega) q; exact hb32 q; exact (b01_eq hb41) q), hcc2]
        have farok2 : ∀ b0, b0 < dN → ld V b0 (nI cc) < 0 ∨ ∃ c, c < 8 ∧ ld V b0 (nI cc) = nI c := by
          intro b0 hb0
          rcases ld_cases hP hb0 (nI cc) with h9 | h9 | ⟨t, h9, h8⟩
          · exact Or.inl (by rw [h9]; decide)
          · exact Or.inl (by rw [h9]; decide)
          · exact Or.inr ⟨t, by omega, h8⟩
        have loop : ∀ (r j : Nat) (l6 l7 : Option Value), j ≤ dN → dN - j = r → ∀ b : Option Nat, b = wb V (V 33) (nI cc) gk h j → (∀ b0, b = some b0 → b0 < j) → HT G mX10_walks 51 [some (.ref m), some (.int (nI mm)), some (.int (nI cc)), some (.int (nI h)), some (.int (bI b)), some (.int (nI j)), l6, l7] [] (sv σ m V U) 1 (fun rv σ' => rv = none ∧ σ' = sv σ m (sS V (wkS V gk h dN (V 33) mm)) U) := by
          intro r
          induction r using Nat.strongRecOn with
          | _ r ih =>
            intro j l6 l7 hj hr b hb hbl
            by_cases hjd : j < dN
            · skip
              have nx : ∀ (l6 l7 : Option Value) (b2 : Option Nat), b2 = wst V (V 33) (nI cc) gk h j b → HT G mX10_walks 176 [some (.ref m), some (.int (nI mm)), some (.int (nI cc)), some (.int (nI h)), some (.int (bI b2)), some (.int (nI j)), l6, l7] [] (sv σ m V U) 1 (fun rv σ' => rv = none ∧ σ' = sv σ m (sS V (wkS V gk h dN (V 33) mm)) U) := by
                intro l6 l7 b2 hb2
                subst hb2
                have hb2 : wst V (V 33) (nI cc) gk h j b = wb V (V 33) (nI cc) gk h (j + 1) := by rw [hb]; rfl
                generalize hbb : wst V (V 33) (nI cc) gk h j b = b2 at hb2 ⊢
                have hbl2 : ∀ b0, b2 = some b0 → b0 < j + 1 := by rw [← hbb]; exact wst_lt hbl
                refine ht_iinc (v := nI (j + 1)) (D 94 rfl) rfl (nI_i1 _) (by decide) rfl ?_
                refine ht_goto (tgt := 51) (D 95 rfl) (by decide) ?_
                exact ih (dN - (j + 1)) (by omega) (j + 1) l6 l7 (by omega) rfl b2 hb2 hbl2
              cases b with
              | none =>
                show HT G mX10_walks 51 [some (.ref m), some (.int (nI mm)), some (.int (nI cc)), some (.int (nI h)), some (.int (-1)), some (.int (nI j)), l6, l7] [] (sv σ m V U) 1 _
                refine ht_iload (D 32 rfl) rfl ?_
                refine ht_aload_n (D 33 rfl) rfl rfl ?_
                refine gf_X10_16 rfl (D 34 rfl) hM.k0 hM.q3 ?_
                refine ht_iconst (v := 0) (D 35 rfl) (by decide) ?_
                refine hm_ild (o := 3) (n := 0) (by decide) (D 36 rfl) hM.k3 hM.n3 (by first | rfl | exact nI_add _ _ | assumption) (by omega) (by decide) ?_
                refine ht_icmp_ge (tgt := 182) (D 37 rfl) (by decide) (fun hb59 => ?_) (fun hb59 => ?_)
                · skip
                  exact absurd (by rw [hP.2.1.1] at hb59; exact (nI_leI (by omega) (by omega)).mp hb59) (by omega)
                · skip
                  refine ht_aload_n (D 38 rfl) rfl rfl ?_
                  refine ht_iload (D 39 rfl) rfl ?_
                  refine ht_iload_n (D 40 rfl) rfl rfl ?_
                  refine kVX10_leads (As := [_, _]) cl_X10_361 (D 41 rfl) (sm_leads hM (j := j) (by omega) _) hM.k0 rfl (Nat.le_of_ble_eq_true rfl) rfl (Nat.le_of_ble_eq_true rfl) (by omega) ?_
                  rintro rv σ1 ⟨rfl, rfl⟩
                  refine ht_istore (D 42 rfl) (by decide) rfl ?_
                  refine ht_iload (D 43 rfl) rfl ?_
                  refine ht_bipush (v := -2) (D 44 rfl) (by decide) ?_
                  refine ht_icmp_eq (tgt := 176) (D 45 rfl) (by decide) (fun hb75 => ?_) (fun hb75 => ?_)
                  · skip
                    exact nx _ _ _ (wst_f _ (fun q => q.1 hb75)).symm
                  · skip
                    refine ht_aload_n (D 46 rfl) rfl rfl ?_
                    refine gf_X10_108 rfl (D 47 rfl) hM.k0 hM.q33 ?_
                    refine ht_iload (D 48 rfl) rfl ?_
                    refine hm_ild (o := 33) (n := j) (by decide) (D 49 rfl) hM.k33 hM.n33 (by first | rfl | exact nI_add _ _ | assumption) (by omega) (by decide) ?_
                    refine ht_if_gt (tgt := 176) (D 50 rfl) (by decide) (fun hb85 => ?_) (fun hb85 => ?_)
                    · skip
                      exact nx _ _ _ (wst_f _ (fun q => q.2.1 hb85)).symm
                    · skip
                      refine ht_aload_n (D 51 rfl) rfl rfl ?_
                      refine ht_iload (D 52 rfl) rfl ?_
                      refine ht_iload_n (D 53 rfl) rfl rfl ?_
                      refine kVX10_hasGuard (As := [_, _]) cl_X10_381 (D 54 rfl) (sm_hasGuard hM hP.2.2.2.1.1 hP.2.2.2.1.2 hP.2.2.2.2.1 h31 _) hM.k0 rfl (Nat.le_of_ble_eq_true rfl) rfl (Nat.le_of_ble_eq_true rfl) (by omega) ?_
                      rintro rv σ1 ⟨rfl, rfl⟩
                      refine ht_if_eq (tgt := 101) (D 55 rfl) (by decide) (fun hb95 => ?_) (fun hb95 => ?_)
                      · skip
                        refine ht_iload (D 57 rfl) rfl ?_
                        refine ht_if_lt (tgt := 132) (D 58 rfl) (by decide) (fun hb103 => ?_) (fun hb103 => ?_)
                        · skip
                          have hy : wok V (V 33) (nI cc) gk h j := ⟨hb75, hb85, b01_eq hb95, Or.inl hb103⟩
                          refine ht_iconst (v := 1) (D 73 rfl) (by decide) ?_
                          refine ht_goto (tgt := 137) (D 74 rfl) (by decide) ?_
                          refine ht_istore (D 76 rfl) (by decide) rfl ?_
                          refine ht_iload (D 77 rfl) rfl ?_
                          refine ht_if_eq (tgt := 176) (D 78 rfl) (by decide) (fun hb141 => absurd hb141 (by decide)) (fun hb141 => ?_)
                          refine ht_iload (D 79 rfl) rfl ?_
                          refine ht_if_lt (tgt := 172) (D 80 rfl) (by decide) (fun hb146 => ?_) (fun hb146 => ?_)
                          · skip
                            refine ht_iload (D 92 rfl) rfl ?_
                            refine ht_istore (D 93 rfl) (by decide) rfl ?_
                            first | exact nx _ _ _ (wst_f _ hn).symm | exact nx _ _ _ (wst_n hy).symm | exact nx _ _ _ ((wst_s hy).trans (if_pos hfo)).symm | exact nx _ _ _ ((wst_s hy).trans (if_neg hfo)).symm
                          · skip
                            exact absurd (by decide) hb146
                        · skip
                          obtain ⟨t, ht1, ht2⟩ : ∃ t, t < cN ∧ ld V j (nI cc) = nI t := by
                            rcases ld_cases hP hjd (nI cc) with h9 | h9 | h9
                            · exact absurd h9 hb75
                            · rw [h9] at hb103
                              exact absurd (by decide) hb103
                            · exact h9
                          have htc : (ld V j (nI cc)).toNatClampNeg = t := by rw [ht2, nI_clamp (by omega)]
                          have hcc9 : (nI cc).toNatClampNeg = cc := nI_clamp (by omega)
                          refine ht_aload_n (D 59 rfl) rfl rfl ?_
                          refine gf_X10_117 rfl (D 60 rfl) hM.k0 hM.q36 ?_
                          refine ht_iload (D 61 rfl) rfl ?_
                          refine hm_ild (o := 36) (n := t) (by decide) (D 62 rfl) hM.k36 hM.n36 ht2 (by omega) (by decide) ?_
                          refine ht_if_le (tgt := 136) (D 63 rfl) (by decide) (fun hb113 => ?_) (fun hb113 => ?_)
                          · skip
                            have hn : ¬ wok V (V 33) (nI cc) gk h j := by
                              rintro ⟨-, -, -, q | q⟩
                              · exact hb103 q
                              · have q1 := q.1
                                rw [htc] at q1
                                simp only [i_lt, i_le] at q1 hb113
                                omega
                            refine ht_iconst (v := 0) (D 75 rfl) (by decide) ?_
                            refine ht_istore (D 76 rfl) (by decide) rfl ?_
                            refine ht_iload (D 77 rfl) rfl ?_
                            refine ht_if_eq (tgt := 176) (D 78 rfl) (by decide) (fun hb141 => ?_) (fun hb141 => absurd (by decide) hb141)
                            first | exact nx _ _ _ (wst_f _ hn).symm | exact nx _ _ _ (wst_n hy).symm | exact nx _ _ _ ((wst_s hy).trans (if_pos hfo)).symm | exact nx _ _ _ ((wst_s hy).trans (if_neg hfo)).symm
                          · skip
                            refine ht_aload_n (D 64 rfl) rfl rfl ?_
                            refine gf_X10_117 rfl (D 65 rfl) hM.k0 hM.q36 ?_
                            refine ht_iload (D 66 rfl) rfl ?_
                            refine hm_ild (o := 36) (n := t) (by decide) (D 67 rfl) hM.k36 hM.n36 ht2 (by omega) (by decide) ?_
                            refine ht_aload_n (D 68 rfl) rfl rfl ?_
                            refine gf_X10_117 rfl (D 69 rfl) hM.k0 hM.q36 ?_
                            refine ht_iload_n (D 70 rfl) rfl rfl ?_
                            refine hm_ild (o := 36) (n := cc) (by decide) (D 71 rfl) hM.k36 hM.n36 (by first | rfl | exact nI_add _ _ | assumption) (by omega) (by decide) ?_
                            refine ht_icmp_ge (tgt := 136) (D 72 rfl) (by decide) (fun hb129 => ?_) (fun hb129 => ?_)
                            · skip
                              have hn : ¬ wok V (V 33) (nI cc) gk h j := by
                                rintro ⟨-, -, -, q | q⟩
                                · exact hb103 q
                                · have q1 := q.2
                                  rw [htc, hcc9] at q1
                                  simp only [i_lt, i_le] at q1 hb129
                                  omega
                              refine ht_iconst (v := 0) (D 75 rfl) (by decide) ?_
                              refine ht_istore (D 76 rfl) (by decide) rfl ?_
                              refine ht_iload (D 77 rfl) rfl ?_
                              refine ht_if_eq (tgt := 176) (D 78 rfl) (by decide) (fun hb141 => ?_) (fun hb141 => absurd (by decide) hb141)
                              first | exact nx _ _ _ (wst_f _ hn).symm | exact nx _ _ _ (wst_n hy).symm | exact nx _ _ _ ((wst_s hy).trans (if_pos hfo)).symm | exact nx _ _ _ ((wst_s hy).trans (if_neg hfo)).symm
                            · skip
                              have hy : wok V (V 33) (nI cc) gk h j := ⟨hb75, hb85, b01_eq hb95, Or.inr ⟨by rw [htc]; simp only [i_lt, i_le] at hb113 ⊢; omega, by rw [htc, hcc9]; simp only [i_lt, i_le] at hb129 ⊢; omega⟩⟩
                              refine ht_iconst (v := 1) (D 73 rfl) (by decide) ?_
                              refine ht_goto (tgt := 137) (D 74 rfl) (by decide) ?_
                              refine ht_istore (D 76 rfl) (by decide) rfl ?_
                              refine ht_iload (D 77 rfl) rfl ?_
                              refine ht_if_eq (tgt := 176) (D 78 rfl) (by decide) (fun hb141 => absurd hb141 (by decide)) (fun hb141 => ?_)
                              refine ht_iload (D 79 rfl) rfl ?_
                              refine ht_if_lt (tgt := 172) (D 80 rfl) (by decide) (fun hb146 => ?_) (fun hb146 => ?_)
                              · skip
                                refine ht_iload (D 92 rfl) rfl ?_
                                refine ht_istore (D 93 rfl) (by decide) rfl ?_
                                first | exact nx _ _ _ (wst_f _ hn).symm | exact nx _ _ _ (wst_n hy).symm | exact nx _ _ _ ((wst_s hy).trans (if_pos hfo)).symm | exact nx _ _ _ ((wst_s hy).trans (if_neg hfo)).symm
                              · skip
                                exact absurd (by decide) hb146
                      · skip
                        refine ht_goto (tgt := 176) (D 56 rfl) (by decide) ?_
                        exact nx _ _ _ (wst_f _ (fun q => q.2.2.1 (b01_ne hb95))).symm
              | some b0 =>
                have hb0 : b0 < dN := Nat.lt_trans (hbl b0 rfl) hjd
                show HT G mX10_walks 51 [some (.ref m), some (.int (nI mm)), some (.int (nI cc)), some (.int (nI h)), some (.int (nI b0)), some (.int (nI j)), l6, l7] [] (sv σ m V U) 1 _
                refine ht_iload (D 32 rfl) rfl ?_
                refine ht_aload_n (D 33 rfl) rfl rfl ?_
                refine gf_X10_16 rfl (D 34 rfl) hM.k0 hM.q3 ?_
                refine ht_iconst (v := 0) (D 35 rfl) (by decide) ?_
                refine hm_ild (o := 3) (n := 0) (by decide) (D 36 rfl) hM.k3 hM.n3 (by first | rfl | exact nI_add _ _ | assumption) (by omega) (by decide) ?_
                refine ht_icmp_ge (tgt := 182) (D 37 rfl) (by decide) (fun hb59 => ?_) (fun hb59 => ?_)
                · skip
                  exact absurd (by rw [hP.2.1.1] at hb59; exact (nI_leI (by omega) (by omega)).mp hb59) (by omega)
                · skip
                  refine ht_aload_n (D 38 rfl) rfl rfl ?_
                  refine ht_iload (D 39 rfl) rfl ?_
                  refine ht_iload_n (D 40 rfl) rfl rfl ?_
                  refine kVX10_leads (As := [_, _]) cl_X10_361 (D 41 rfl) (sm_leads hM (j := j) (by omega) _) hM.k0 rfl (Nat.le_of_ble_eq_true rfl) rfl (Nat.le_of_ble_eq_true rfl) (by omega) ?_
                  rintro rv σ1 ⟨rfl, rfl⟩
                  refine ht_istore (D 42 rfl) (by decide) rfl ?_
                  refine ht_iload (D 43 rfl) rfl ?_
                  refine ht_bipush (v := -2) (D 44 rfl) (by decide) ?_
                  refine ht_icmp_eq (tgt := 176) (D 45 rfl) (by decide) (fun hb75 => ?_) (fun hb75 => ?_)
                  · skip
                    exact nx _ _ _ (wst_f _ (fun q => q.1 hb75)).symm
                  · skip
                    refine ht_aload_n (D 46 rfl) rfl rfl ?_
                    refine gf_X10_108 rfl (D 47 rfl) hM.k0 hM.q33 ?_
                    refine ht_iload (D 48 rfl) rfl ?_
                    refine hm_ild (o := 33) (n := j) (by decide) (D 49 rfl) hM.k33 hM.n33 (by first | rfl | exact nI_add _ _ | assumption) (by omega) (by decide) ?_
                    refine ht_if_gt (tgt := 176) (D 50 rfl) (by decide) (fun hb85 => ?_) (fun hb85 => ?_)
                    · skip
                      exact nx _ _ _ (wst_f _ (fun q => q.2.1 hb85)).symm
                    · skip
                      refine ht_aload_n (D 51 rfl) rfl rfl ?_
                      refine ht_iload (D 52 rfl) rfl ?_
                      refine ht_iload_n (D 53 rfl) rfl rfl ?_
                      refine kVX10_hasGuard (As := [_, _]) cl_X10_381 (D 54 rfl) (sm_hasGuard hM hP.2.2.2.1.1 hP.2.2.2.1.2 hP.2.2.2.2.1 h31 _) hM.k0 rfl (Nat.le_of_ble_eq_true rfl) rfl (Nat.le_of_ble_eq_true rfl) (by omega) ?_
                      rintro rv σ1 ⟨rfl, rfl⟩
                      refine ht_if_eq (tgt := 101) (D 55 rfl) (by decide) (fun hb95 => ?_) (fun hb95 => ?_)
                      · skip
                        refine ht_iload (D 57 rfl) rfl ?_
                        refine ht_if_lt (tgt := 132) (D 58 rfl) (by decide) (fun hb103 => ?_) (fun hb103 => ?_)
                        · skip
                          have hy : wok V (V 33) (nI cc) gk h j := ⟨hb75, hb85, b01_eq hb95, Or.inl hb103⟩
                          refine ht_iconst (v := 1) (D 73 rfl) (by decide) ?_
                          refine ht_goto (tgt := 137) (D 74 rfl) (by decide) ?_
                          refine ht_istore (D 76 rfl) (by decide) rfl ?_
                          refine ht_iload (D 77 rfl) rfl ?_
                          refine ht_if_eq (tgt := 176) (D 78 rfl) (by decide) (fun hb141 => absurd hb141 (by decide)) (fun hb141 => ?_)
                          refine ht_iload (D 79 rfl) rfl ?_
                          refine ht_if_lt (tgt := 172) (D 80 rfl) (by decide) (fun hb146 => ?_) (fun hb146 => ?_)
                          · skip
                            exact absurd hb146 (nI_pos (by omega))
                          · skip
                            refine ht_aload_n (D 81 rfl) rfl rfl ?_
                            refine ht_iload (D 82 rfl) rfl ?_
                            refine kVX10_farOf (As := [_]) cl_X10_384 (D 83 rfl) (sm_farOf hM (farok hP (by omega) hb75)) hM.k0 rfl (Nat.le_of_ble_eq_true rfl) rfl (Nat.le_of_ble_eq_true rfl) (by omega) ?_
                            rintro rv σ1 ⟨rfl, rfl⟩
                            refine ht_aload_n (D 84 rfl) rfl rfl ?_
                            refine ht_aload_n (D 85 rfl) rfl rfl ?_
                            refine ht_iload (D 86 rfl) rfl ?_
                            refine ht_iload_n (D 87 rfl) rfl rfl ?_
                            refine kVX10_leads (As := [_, _]) cl_X10_361 (D 88 rfl) (sm_leads hM (j := b0) (by omega) _) hM.k0 rfl (Nat.le_of_ble_eq_true rfl) rfl (Nat.le_of_ble_eq_true rfl) (by omega) ?_
                            rintro rv σ1 ⟨rfl, rfl⟩
                            refine kVX10_farOf (As := [_]) cl_X10_384 (D 89 rfl) (sm_farOf hM (farok2 b0 hb0)) hM.k0 rfl (Nat.le_of_ble_eq_true rfl) rfl (Nat.le_of_ble_eq_true rfl) (by omega) ?_
                            rintro rv σ1 ⟨rfl, rfl⟩
                            refine ht_icmp_lt (tgt := 172) (D 90 rfl) (by decide) (fun hb166 => ?_) (fun hb166 => ?_)
                            · skip
                              have hfo : ¬ fO V (ld V b0 (nI cc)) ≤ fO V (ld V j (nI cc)) := by simp only [i_lt, i_le] at hb166 ⊢; omega
                              refine ht_iload (D 92 rfl) rfl ?_
                              refine ht_istore (D 93 rfl) (by decide) rfl ?_
                              first | exact nx _ _ _ (wst_f _ hn).symm | exact nx _ _ _ (wst_n hy).symm | exact nx _ _ _ ((wst_s hy).trans (if_pos hfo)).symm | exact nx _ _ _ ((wst_s hy).trans (if_neg hfo)).symm
                            · skip
                              have hfo : fO V (ld V b0 (nI cc)) ≤ fO V (ld V j (nI cc)) := by simp only [i_lt, i_le] at hb166 ⊢; omega
                              refine ht_goto (tgt := 176) (D 91 rfl) (by decide) ?_
                              first | exact nx _ _ _ (wst_f _ hn).symm | exact nx _ _ _ (wst_n hy).symm | exact nx _ _ _ ((wst_s hy).trans (if_pos hfo)).symm | exact nx _ _ _ ((wst_s hy).trans (if_neg hfo)).symm
                        · skip
                          obtain ⟨t, ht1, ht2⟩ : ∃ t, t < cN ∧ ld V j (nI cc) = nI t := by
                            rcases ld_cases hP hjd (nI cc) with h9 | h9 | h9
                            · exact absurd h9 hb75
                            · rw [h9] at hb103
                              exact absurd (by decide) hb103
                            · exact h9
                          have htc : (ld V j (nI cc)).toNatClampNeg = t := by rw [ht2, nI_clamp (by omega)]
                          have hcc9 : (nI cc).toNatClampNeg = cc := nI_clamp (by omega)
                          refine ht_aload_n (D 59 rfl) rfl rfl ?_
                          refine gf_X10_117 rfl (D 60 rfl) hM.k0 hM.q36 ?_
                          refine ht_iload (D 61 rfl) rfl ?_
                          refine hm_ild (o := 36) (n := t) (by decide) (D 62 rfl) hM.k36 hM.n36 ht2 (by omega) (by decide) ?_
                          refine ht_if_le (tgt := 136) (D 63 rfl) (by decide) (fun hb113 => ?_) (fun hb113 => ?_)
                          · skip
                            have hn : ¬ wok V (V 33) (nI cc) gk h j := by
                              rintro ⟨-, -, -, q | q⟩
                              · exact hb103 q
                              · have q1 := q.1
                                rw [htc] at q1
                                simp only [i_lt, i_le] at q1 hb113
                                omega
                            refine ht_iconst (v := 0) (D 75 rfl) (by decide) ?_
                            refine ht_istore (D 76 rfl) (by decide) rfl ?_
                            refine ht_iload (D 77 rfl) rfl ?_
                            refine ht_if_eq (tgt := 176) (D 78 rfl) (by decide) (fun hb141 => ?_) (fun hb141 => absurd (by decide) hb141)
                            first | exact nx _ _ _ (wst_f _ hn).symm | exact nx _ _ _ (wst_n hy).symm | exact nx _ _ _ ((wst_s hy).trans (if_pos hfo)).symm | exact nx _ _ _ ((wst_s hy).trans (if_neg hfo)).symm
                          · skip
                            refine ht_aload_n (D 64 rfl) rfl rfl ?_
                            refine gf_X10_117 rfl (D 65 rfl) hM.k0 hM.q36 ?_
                            refine ht_iload (D 66 rfl) rfl ?_
                            refine hm_ild (o := 36) (n := t) (by decide) (D 67 rfl) hM.k36 hM.n36 ht2 (by omega) (by decide) ?_
                            refine ht_aload_n (D 68 rfl) rfl rfl ?_
                            refine gf_X10_117 rfl (D 69 rfl) hM.k0 hM.q36 ?_
                            refine ht_iload_n (D 70 rfl) rfl rfl ?_
                            refine hm_ild (o := 36) (n := cc) (by decide) (D 71 rfl) hM.k36 hM.n36 (by first | rfl | exact nI_add _ _ | assumption) (by omega) (by decide) ?_
                            refine ht_icmp_ge (tgt := 136) (D 72 rfl) (by decide) (fun hb129 => ?_) (fun hb129 => ?_)
                            · skip
                              have hn : ¬ wok V (V 33) (nI cc) gk h j := by
                                rintro ⟨-, -, -, q | q⟩
                                · exact hb103 q
                                · have q1 := q.2
                                  rw [htc, hcc9] at q1
                                  simp only [i_lt, i_le] at q1 hb129
                                  omega
                              refine ht_iconst (v := 0) (D 75 rfl) (by decide) ?_
                              refine ht_istore (D 76 rfl) (by decide) rfl ?_
                              refine ht_iload (D 77 rfl) rfl ?_
                              refine ht_if_eq (tgt := 176) (D 78 rfl) (by decide) (fun hb141 => ?_) (fun hb141 => absurd (by decide) hb141)
                              first | exact nx _ _ _ (wst_f _ hn).symm | exact nx _ _ _ (wst_n hy).symm | exact nx _ _ _ ((wst_s hy).trans (if_pos hfo)).symm | exact nx _ _ _ ((wst_s hy).trans (if_neg hfo)).symm
                            · skip
                              have hy : wok V (V 33) (nI cc) gk h j := ⟨hb75, hb85, b01_eq hb95, Or.inr ⟨by rw [htc]; simp only [i_lt, i_le] at hb113 ⊢; omega, by rw [htc, hcc9]; simp only [i_lt, i_le] at hb129 ⊢; omega⟩⟩
                              refine ht_iconst (v := 1) (D 73 rfl) (by decide) ?_
                              refine ht_goto (tgt := 137) (D 74 rfl) (by decide) ?_
                              refine ht_istore (D 76 rfl) (by decide) rfl ?_
                              refine ht_iload (D 77 rfl) rfl ?_
                              refine ht_if_eq (tgt := 176) (D 78 rfl) (by decide) (fun hb141 => absurd hb141 (by decide)) (fun hb141 => ?_)
                              refine ht_iload (D 79 rfl) rfl ?_
                              refine ht_if_lt (tgt := 172) (D 80 rfl) (by decide) (fun hb146 => ?_) (fun hb146 => ?_)
                              · skip
                                exact absurd hb146 (nI_pos (by omega))
                              · skip
                                refine ht_aload_n (D 81 rfl) rfl rfl ?_
                                refine ht_iload (D 82 rfl) rfl ?_
                                refine kVX10_farOf (As := [_]) cl_X10_384 (D 83 rfl) (sm_farOf hM (farok hP (by omega) hb75)) hM.k0 rfl (Nat.le_of_ble_eq_true rfl) rfl (Nat.le_of_ble_eq_true rfl) (by omega) ?_
                                rintro rv σ1 ⟨rfl, rfl⟩
                                refine ht_aload_n (D 84 rfl) rfl rfl ?_
                                refine ht_aload_n (D 85 rfl) rfl rfl ?_
                                refine ht_iload (D 86 rfl) rfl ?_
                                refine ht_iload_n (D 87 rfl) rfl rfl ?_
                                refine kVX10_leads (As := [_, _]) cl_X10_361 (D 88 rfl) (sm_leads hM (j := b0) (by omega) _) hM.k0 rfl (Nat.le_of_ble_eq_true rfl) rfl (Nat.le_of_ble_eq_true rfl) (by omega) ?_
                                rintro rv σ1 ⟨rfl, rfl⟩
                                refine kVX10_farOf (As := [_]) cl_X10_384 (D 89 rfl) (sm_farOf hM (farok2 b0 hb0)) hM.k0 rfl (Nat.le_of_ble_eq_true rfl) rfl (Nat.le_of_ble_eq_true rfl) (by omega) ?_
                                rintro rv σ1 ⟨rfl, rfl⟩
                                refine ht_icmp_lt (tgt := 172) (D 90 rfl) (by decide) (fun hb166 => ?_) (fun hb166 => ?_)
                                · skip
                                  have hfo : ¬ fO V (ld V b0 (nI cc)) ≤ fO V (ld V j (nI cc)) := by simp only [i_lt, i_le] at hb166 ⊢; omega
                                  refine ht_iload (D 92 rfl) rfl ?_
                                  refine ht_istore (D 93 rfl) (by decide) rfl ?_
                                  first | exact nx _ _ _ (wst_f _ hn).symm | exact nx _ _ _ (wst_n hy).symm | exact nx _ _ _ ((wst_s hy).trans (if_pos hfo)).symm | exact nx _ _ _ ((wst_s hy).trans (if_neg hfo)).symm
                                · skip
                                  have hfo : fO V (ld V b0 (nI cc)) ≤ fO V (ld V j (nI cc)) := by simp only [i_lt, i_le] at hb166 ⊢; omega
                                  refine ht_goto (tgt := 176) (D 91 rfl) (by decide) ?_
                                  first | exact nx _ _ _ (wst_f _ hn).symm | exact nx _ _ _ (wst_n hy).symm | exact nx _ _ _ ((wst_s hy).trans (if_pos hfo)).symm | exact nx _ _ _ ((wst_s hy).trans (if_neg hfo)).symm
                      · skip
                        refine ht_goto (tgt := 176) (D 56 rfl) (by decide) ?_
                        exact nx _ _ _ (wst_f _ (fun q => q.2.2.1 (b01_ne hb95))).symm
            · have hje : j = dN := by omega
              subst hje
              cases b with
              | none =>
                show HT G mX10_walks 51 [some (.ref m), some (.int (nI mm)), some (.int (nI cc)), some (.int (nI h)), some (.int (-1)), some (.int (nI j)), l6, l7] [] (sv σ m V U) 1 _
                refine ht_iload (D 32 rfl) rfl ?_
                refine ht_aload_n (D 33 rfl) rfl rfl ?_
                refine gf_X10_16 rfl (D 34 rfl) hM.k0 hM.q3 ?_
                refine ht_iconst (v := 0) (D 35 rfl) (by decide) ?_
                refine hm_ild (o := 3) (n := 0) (by decide) (D 36 rfl) hM.k3 hM.n3 (by first | rfl | exact nI_add _ _ | assumption) (by omega) (by decide) ?_
                refine ht_icmp_ge (tgt := 182) (D 37 rfl) (by decide) (fun hb59 => ?_) (fun hb59 => ?_)
                · skip
                  refine ht_iload (D 96 rfl) rfl ?_
                  refine ht_if_lt (tgt := 203) (D 97 rfl) (by decide) (fun hb184 => ?_) (fun hb184 => ?_)
                  · skip
                    refine ht_vret (D 108 rfl) rfl ?_
                    refine ⟨rfl, ?_⟩
                    rw [hwk]
                    rw [← hb]
                    exact (congrArg (fun z => sv σ m z U) (sS_id V)).symm
                  · skip
                    exact absurd (by decide) hb184
                · skip
                  exact absurd (by rw [hP.2.1.1]; exact nI_le (by omega) (by omega)) hb59
              | some b0 =>
                have hb0 : b0 < j := hbl b0 rfl
                show HT G mX10_walks 51 [some (.ref m), some (.int (nI mm)), some (.int (nI cc)), some (.int (nI h)), some (.int (nI b0)), some (.int (nI j)), l6, l7] [] (sv σ m V U) 1 _
                refine ht_iload (D 32 rfl) rfl ?_
                refine ht_aload_n (D 33 rfl) rfl rfl ?_
                refine gf_X10_16 rfl (D 34 rfl) hM.k0 hM.q3 ?_
                refine ht_iconst (v := 0) (D 35 rfl) (by decide) ?_
                refine hm_ild (o := 3) (n := 0) (by decide) (D 36 rfl) hM.k3 hM.n3 (by first | rfl | exact nI_add _ _ | assumption) (by omega) (by decide) ?_
                refine ht_icmp_ge (tgt := 182) (D 37 rfl) (by decide) (fun hb59 => ?_) (fun hb59 => ?_)
                · skip
                  refine ht_iload (D 96 rfl) rfl ?_
                  refine ht_if_lt (tgt := 203) (D 97 rfl) (by decide) (fun hb184 => ?_) (fun hb184 => ?_)
                  · skip
                    exact absurd hb184 (nI_pos (by omega))
                  · skip
                    refine ht_aload_n (D 98 rfl) rfl rfl ?_
                    refine gf_X10_108 rfl (D 99 rfl) hM.k0 hM.q33 ?_
                    refine ht_bipush (v := 68) (D 100 rfl) (by decide) ?_
                    refine ht_iload_n (D 101 rfl) rfl rfl ?_
                    refine ht_iadd (D 102 rfl) ?_
                    refine ht_aload_n (D 103 rfl) rfl rfl ?_
                    refine ht_iload (D 104 rfl) rfl ?_
                    refine ht_iload_n (D 105 rfl) rfl rfl ?_
                    refine kVX10_leads (As := [_, _]) cl_X10_361 (D 106 rfl) (sm_leads hM (j := b0) (by omega) _) hM.k0 rfl (Nat.le_of_ble_eq_true rfl) rfl (Nat.le_of_ble_eq_true rfl) (by omega) ?_
                    rintro rv σ1 ⟨rfl, rfl⟩
                    refine hm_ist (o := 33) (n := (68 + mm)) (by decide) (D 107 rfl) hM.k33 hM.n33 (by first | rfl | exact nI_add _ _ | assumption) (by omega) (by decide) ?_
                    refine ht_vret (D 108 rfl) rfl ?_
                    refine ⟨rfl, ?_⟩
                    rw [hwk]
                    rw [← hb, up2_33]
                    show _ = sv σ m (sS V (va_up (V 33) (68 + mm) (ld V b0 (V 33 (68 + mm))))) U
                    rw [hcc2]
                · skip
                  exact absurd (by rw [hP.2.1.1]; exact nI_le (by omega) (by omega)) hb59
        exact ht_cast (loop dN 0 none none (by omega) (by omega) none rfl (fun _ h => by cases h)) rfl rfl rfl
      · skip
        refine ht_vret (D 27 rfl) rfl ?_
        refine ⟨rfl, ?_⟩
        rw [show wkS V gk h dN (V 33) mm = V 33 from if_pos (by rw [hcd]; exact Or.inr (Or.inr (b01_ne hb41)))]
        exact (congrArg (fun z => sv σ m z U) (sS_id V)).symm
def Mn (S : ST) (cN mN : Nat) : Prop := ∀ x, x < mN → S (68 + x) = -1 ∨ ∃ c, c < cN ∧ S (68 + x) = nI c
theorem fdS_hi (V : VT) (gi : Option GIt) (dg : Int32) (mN gk h : Nat) (S : ST) {j x : Nat} (hj : j < 10) (hx : 50 ≤ x) : fdS V gi dg mN gk h S j x = S x := by
  unfold fdS fd3 fd2 fd1 trS va_up
  simp only [show ¬ (x = 20 + j) by omega, show ¬ (x = 40 + j) by omega, show ¬ (x = 30 + j) by omega, show ¬ (x = 10 + j) by omega, show ¬ (x = j) by omega, if_false]
theorem frS_hi (V : VT) (gi : Option GIt) (dg : Int32) (mN gk h : Nat) (S : ST) {k x : Nat} (hk : k ≤ 10) (hx : 50 ≤ x) : frS V gi dg mN gk h S k x = S x := by
  induction k with
  | zero => rfl
  | succ k ih =>
    show fdS V gi dg mN gk h (frS V gi dg mN gk h S k) k x = S x
    rw [fdS_hi _ _ _ _ _ _ _ (by omega) hx, ih (by omega)]
theorem wst_ok {V : VT} {S : ST} {c : Int32} {gk h d : Nat} {b : Option Nat} {b0 : Nat} (hb : ∀ b0, b = some b0 → ¬ ld V b0 c = -2) (he : wst V S c gk h d b = some b0) : ¬ ld V b0 c = -2 := by
  by_cases hy : wok V S c gk h d
  · cases b with
    | none => rw [wst_n hy] at he; cases he; exact hy.1
    | some b1 =>
      rw [wst_s hy] at he
      split at he
      · cases he; exact hb _ rfl
      · cases he; exact hy.1
  · rw [wst_f b hy] at he
    exact hb b0 he
theorem wb_ok (V : VT) (S : ST) (c : Int32) (gk h : Nat) {k b0 : Nat} (he : wb V S c gk h k = some b0) : b0 < k ∧ ¬ ld V b0 c = -2 := by
  induction k generalizing b0 with
  | zero => cases he
  | succ k ih => exact ⟨wst_lt (fun b1 h1 => (ih h1).1) b0 he, wst_ok (fun b1 h1 => (ih h1).2) he⟩
theorem wkS_o (V : VT) (gk h dN : Nat) (S : ST) {mm x : Nat} (hx : x ≠ 68 + mm) : wkS V gk h dN S mm x = S x := by
  unfold wkS
  split
  · rfl
  · cases hb : wb V S (S (68 + mm)) gk h dN with
    | none => rfl
    | some b => simp [va_up, hx]
theorem wkS_mn {V : VT} {cN dN mN gk : Nat} (hP : PL V cN dN mN gk) (h : Nat) {S : ST} (hm : Mn S cN mN) (mm : Nat) : Mn (wkS V gk h dN S mm) cN mN := by
  intro x hx
  by_cases e : x = mm
  · subst e
    unfold wkS
    split
    · exact hm x hx
    · cases hb : wb V S (S (68 + x)) gk h dN with
      | none => exact hm x hx
      | some b =>
        have hk := wb_ok V S _ gk h hb
        show va_up S (68 + x) (ld V b (S (68 + x))) (68 + x) = -1 ∨ ∃ c, c < cN ∧ va_up S (68 + x) (ld V b (S (68 + x))) (68 + x) = nI c
        have e2 : va_up S (68 + x) (ld V b (S (68 + x))) (68 + x) = ld V b (S (68 + x)) := by simp [va_up]
        rw [e2]
        rcases ld_cases hP hk.1 (S (68 + x)) with h9 | h9 | h9
        · exact absurd h9 hk.2
        · exact Or.inl h9
        · exact Or.inr h9
  · rw [wkS_o V gk h dN S (show 68 + x ≠ 68 + mm by omega)]
    exact hm x hx
theorem wb_dy {V V' : VT} (hd : Dy V V') (S : ST) (c : Int32) (gk h k : Nat) : wb V' S c gk h k = wb V S c gk h k := by
  have hw : ∀ d, wok V' S c gk h d ↔ wok V S c gk h d := by
    intro d
    unfold wok
    rw [ld_dy hd, gN_dy hd, hd 36 (by decide)]
  induction k with
  | zero => rfl
  | succ k ih =>
    show wst V' S c gk h k (wb V' S c gk h k) = wst V S c gk h k (wb V S c gk h k)
    rw [ih]
    by_cases hy : wok V S c gk h k
    · cases wb V S c gk h k with
      | none => rw [wst_n hy, wst_n ((hw k).mpr hy)]
      | some b => rw [wst_s hy, wst_s ((hw k).mpr hy), ld_dy hd, fO_dy hd]
    · rw [wst_f _ hy, wst_f _ (fun q => hy ((hw k).mp q))]
theorem wkS_dy {V V' : VT} (hd : Dy V V') (gk h dN : Nat) (S : ST) (mm : Nat) : wkS V' gk h dN S mm = wkS V gk h dN S mm := by
  unfold wkS
  rw [hd 15 (by decide), gN_dy hd, wb_dy hd, ld_dy hd]
noncomputable def wkN (V : VT) (gk h dN : Nat) (S : ST) : Nat → ST
  | 0 => S
  | k + 1 => wkS V gk h dN (wkN V gk h dN S k) k
noncomputable def psS (V : VT) (gw : Option GWt) (gi : Option GIt) (dN mN gk h : Nat) (md : Int32) (S : ST) : ST := va_up (wkN V gk h dN (frS V gi (dgF gw h md) mN gk h S dN) mN) 80 (nI (h + 1))
theorem wkN_80 (V : VT) (gk h dN : Nat) (S : ST) {k : Nat} (hk : k ≤ 6) : wkN V gk h dN S k 80 = S 80 := by
  induction k with
  | zero => rfl
  | succ k ih =>
    show wkS V gk h dN (wkN V gk h dN S k) k 80 = S 80
    rw [wkS_o _ _ _ _ _ (show 80 ≠ 68 + k by omega), ih (by omega)]
theorem wkN_mn {V : VT} {cN dN mN gk : Nat} (hP : PL V cN dN mN gk) (h : Nat) {S : ST} (hm : Mn S cN mN) (k : Nat) : Mn (wkN V gk h dN S k) cN mN := by
  induction k with
  | zero => exact hm
  | succ k ih => exact wkS_mn hP h ih k
set_option maxRecDepth 100000 in
set_option maxHeartbeats 4000000 in
theorem sm_passes (hM : MS σ m) {cN dN mN gk : Nat} (hP : PL V cN dN mN gk) {gw : Option GWt} {gi : Option GIt} (hW : LnW V gw) (hI : LnI V gi) {h : Nat} (hh : V 33 80 = nI h) (h31 : h < 2 ^ 31) (hmn : Mn (V 33) cN mN) (md : Int32) : Sp G mX10_passes 5 [.ref m, .int md] (sv σ m V U) (fun rv σ' => rv = none ∧ ∃ V' : VT, σ' = sv σ m V' U ∧ Dy V V' ∧ V' 33 = psS V gw gi dN mN gk h md (V 33)) := by
  have D := dat dl_X10_passes
  have hd10 : dN ≤ 10 := hP.2.1.2
  have hm6 : mN ≤ 6 := hP.2.2.1.2
  show HT G mX10_passes 0 [some (.ref m), some (.int md), none] [] (sv σ m V U) 5 _
  refine ht_aload_n (D 0 rfl) rfl rfl ?_
  refine ht_iload_n (D 1 rfl) rfl rfl ?_
  refine kVX10_frosts (As := [_]) cl_X10_387 (D 2 rfl) (sm_frosts hM hP hW hI hh h31 md) hM.k0 rfl (Nat.le_of_ble_eq_true rfl) rfl (Nat.le_of_ble_eq_true rfl) (by omega) ?_
  rintro rv σ1 ⟨rfl, V0, rfl, hd0, h0⟩
  have hz80 : frS V gi (dgF gw h md) mN gk h (V 33) dN 80 = nI h := by rw [frS_hi _ _ _ _ _ _ _ hd10 (by decide)]; exact hh
  have hmf : Mn (frS V gi (dgF gw h md) mN gk h (V 33) dN) cN mN := by
    intro x hx
    rw [frS_hi _ _ _ _ _ _ _ hd10 (by omega)]
    exact hmn x hx
  refine ht_iconst (v := 0) (D 3 rfl) (by decide) ?_
  refine ht_istore_n (D 4 rfl) rfl (by decide) rfl ?_
  have loop : ∀ (r j : Nat) (V1 : VT), j ≤ mN → mN - j = r → Dy V V1 → V1 33 = wkN V gk h dN (frS V gi (dgF gw h md) mN gk h (V 33) dN) j → V1 33 80 = nI h → HT G mX10_passes 7 [some (.ref m), some (.int md), some (.int (nI j))] [] (sv σ m V1 U) 5 (fun rv σ' => rv = none ∧ ∃ V' : VT, σ' = sv σ m V' U ∧ Dy V V' ∧ V' 33 = psS V gw gi dN mN gk h md (V 33)) := by
    intro r
    induction r using Nat.strongRecOn with
    | _ r ih =>
      intro j V1 hj hr hdy h33 h80
      refine ht_iload_n (D 5 rfl) rfl rfl ?_
      refine ht_aload_n (D 6 rfl) rfl rfl ?_
      refine gf_X10_19 rfl (D 7 rfl) hM.k0 hM.q4 ?_
      refine ht_iconst (v := 0) (D 8 rfl) (by decide) ?_
      refine hm_ild (o := 4) (n := 0) (by decide) (D 9 rfl) hM.k4 hM.n4 (by first | rfl | exact nI_add _ _ | assumption) (by omega) (by decide) ?_
      refine ht_icmp_ge (tgt := 28) (D 10 rfl) (by decide) (fun hb14 => ?_) (fun hb14 => ?_)
      · skip
        have hjk : j = mN := by rw [(hP.dy hdy).2.2.1.1] at hb14; have h9 := (nI_leI (a := mN) (b := j) (by omega) (by omega)).mp hb14; omega
        subst hjk
        refine ht_aload_n (D 16 rfl) rfl rfl ?_
        refine gf_X10_108 rfl (D 17 rfl) hM.k0 hM.q33 ?_
        refine ht_bipush (v := 80) (D 18 rfl) (by decide) ?_
        refine ht_dup2 (D 19 rfl) rfl rfl ?_
        refine hm_ild (o := 33) (n := 80) (by decide) (D 20 rfl) hM.k33 hM.n33 (by first | rfl | exact nI_add _ _ | assumption) (by omega) (by decide) ?_
        rw [h80]
        refine ht_iconst (v := 1) (D 21 rfl) (by decide) ?_
        refine ht_iadd (D 22 rfl) ?_
        refine hm_ist (o := 33) (n := 80) (by decide) (D 23 rfl) hM.k33 hM.n33 (by first | rfl | exact nI_add _ _ | assumption) (by omega) (by decide) ?_
        refine ht_vret (D 24 rfl) rfl ?_
        refine ⟨rfl, _, by rw [up2_33], hdy.sS _, ?_⟩
        rw [sS_s, h33]
        show va_up _ 80 (nI h + 1) = _
        rw [nI_1]
        rfl
      · skip
        have hjk : j < mN := by rw [(hP.dy hdy).2.2.1.1] at hb14; have h9 := mt (nI_leI (a := mN) (b := j) (by omega) (by omega)).mpr hb14; omega
        refine ht_aload_n (D 11 rfl) rfl rfl ?_
        refine ht_iload_n (D 12 rfl) rfl rfl ?_
        refine kVX10_walks (As := [_]) cl_X10_390 (D 13 rfl) (sm_walks hM (hP.dy hdy) hjk h80 h31 (by rw [h33]; exact wkN_mn hP h hmf j j hjk)) hM.k0 rfl (Nat.le_of_ble_eq_true rfl) rfl (Nat.le_of_ble_eq_true rfl) (by omega) ?_
        rintro rv σ1 ⟨rfl, rfl⟩
        refine ht_iinc (v := nI (j + 1)) (D 14 rfl) rfl (nI_i1 _) (by decide) rfl ?_
        refine ht_goto (tgt := 7) (D 15 rfl) (by decide) ?_
        exact ih (mN - (j + 1)) (by omega) (j + 1) _ (by omega) rfl (hdy.sS _) (by rw [sS_s, wkS_dy hdy, h33]; rfl) (by rw [sS_s, wkS_o _ _ _ _ _ (show 80 ≠ 68 + j by omega)]; exact h80)
  exact ht_cast (loop mN 0 V0 (by omega) (by omega) hd0 (by rw [h0]; rfl) (by rw [h0]; exact hz80)) rfl rfl rfl
end M5
