/-! ===== the reference: prison ===== -/
section S8
variable {G : GG} {σ : Hp} {m : Nat} {V V2 V0 : VT} {U U2 U0 : UT} {T : ST} {n p b e k c : Nat} {ice : Bool} {s : TD}
def chz (o i : Nat) : Prop := (2 ≤ o ∧ o ≤ 6 ∧ i = 0) ∨ (9 ≤ o ∧ o ≤ 17 ∧ i < mrw o) ∨ (18 ≤ o ∧ o ≤ 19 ∧ i < 2) ∨ (o = 20 ∧ i < 1000) ∨ o = 33 ∨ o = 36
def FR2 (V V' : VT) : Prop := ∀ o i, ¬ chg o i → ¬ chz o i → V' o i = V o i
theorem FR2_ly (V : VT) : FR2 V (lyF V 1 0) := by
  intro o i _ hz
  by_cases h18 : o = 18 ∨ o = 19
  · exact lyF_lno V h18 ⟨fun q => hz (by unfold chz; omega), fun q => hz (by unfold chz; omega)⟩
  · refine lyF_out V 1 0 (fun q => h18 (Or.inl q)) (fun q => h18 (Or.inr q)) (Or.inr ?_)
    rw [Nat.mul_zero, Nat.zero_add]
    by_cases q1 : 2 ≤ o ∧ o ≤ 6
    · rw [rwl_1 q1]
      have : i ≠ 0 := fun q => hz (Or.inl ⟨q1.1, q1.2, q⟩)
      omega
    · by_cases q2 : 9 ≤ o ∧ o ≤ 17
      · rw [rwl_m q2]
        have : ¬ i < mrw o := fun q => hz (Or.inr (Or.inl ⟨q2.1, q2.2, q⟩))
        omega
      · by_cases q3 : o = 20
        · subst q3
          show 1000 ≤ i
          have : ¬ i < 1000 := fun q => hz (Or.inr (Or.inr (Or.inr (Or.inl ⟨rfl, q⟩))))
          omega
        · have : rwl o = 0 := by
            unfold rwl
            split <;> first | rfl | omega
          omega
/-- while the first hour is laid -/
def Jx (s : TD) (d c x : Nat) (S : ST) : Prop := (∀ i, i < d → S i = tdR s 12 i ∧ S (30 + i) = tdR s 12 i) ∧ (∀ i, i < c → S (60 + i) = tdR s 9 i) ∧ (∀ i, i < x → S (68 + i) = tdR s 13 i ∧ S (74 + i) = tdR s 14 i) ∧ ∀ i, ¬ i < d → ¬ (30 ≤ i ∧ i < 30 + d) → ¬ (60 ≤ i ∧ i < 60 + c) → ¬ (68 ≤ i ∧ i < 68 + x) → ¬ (74 ≤ i ∧ i < 74 + x) → S i = 0
theorem Jx_d {d : Nat} {S : ST} (h : Jx s d 0 0 S) (hd : d < 10) : Jx s (d + 1) 0 0 (va_up (va_up S d (tdR s 12 d)) (30 + d) (tdR s 12 d)) := by
  refine ⟨fun i hi => ?_, fun i hi => absurd hi (Nat.not_lt_zero _), fun i hi => absurd hi (Nat.not_lt_zero _), fun i h1 h2 h3 h4 h5 => ?_⟩
  · by_cases q : i = d
    · rw [q, va_up_k _ _ (by omega), va_up_s, va_up_s]; exact ⟨rfl, rfl⟩
    · rw [va_up_k _ _ (by omega), va_up_k _ _ (by omega), va_up_k _ _ (by omega), va_up_k _ _ (by omega)]; exact h.1 i (by omega)
  · rw [va_up_k _ _ (by omega), va_up_k _ _ (by omega)]; exact h.2.2.2 i (by omega) (by omega) (by omega) (by omega) (by omega)
theorem Jx_c {d c : Nat} {S : ST} (h : Jx s d c 0 S) (hd : d ≤ 10) (hc : c < 8) : Jx s d (c + 1) 0 (va_up S (60 + c) (tdR s 9 c)) := by
  refine ⟨fun i hi => ?_, fun i hi => ?_, fun i hi => absurd hi (Nat.not_lt_zero _), fun i h1 h2 h3 h4 h5 => ?_⟩
  · rw [va_up_k _ _ (by omega), va_up_k _ _ (by omega)]; exact h.1 i hi
  · by_cases q : i = c
    · rw [q, va_up_s]
    · rw [va_up_k _ _ (by omega)]; exact h.2.1 i (by omega)
  · rw [va_up_k _ _ (by omega)]; exact h.2.2.2 i (by omega) (by omega) (by omega) (by omega) (by omega)
theorem Jx_x {d c x : Nat} {S : ST} (h : Jx s d c x S) (hd : d ≤ 10) (hc : c ≤ 8) (hx : x < 6) : Jx s d c (x + 1) (va_up (va_up S (68 + x) (tdR s 13 x)) (74 + x) (tdR s 14 x)) := by
  refine ⟨fun i hi => ?_, fun i hi => ?_, fun i hi => ?_, fun i h1 h2 h3 h4 h5 => ?_⟩
  · rw [va_up_k _ _ (by omega), va_up_k _ _ (by omega), va_up_k _ _ (by omega), va_up_k _ _ (by omega)]; exact h.1 i hi
  · rw [va_up_k _ _ (by omega), va_up_k _ _ (by omega)]; exact h.2.1 i hi
  · by_cases q : i = x
    · rw [q, va_up_k _ _ (by omega), va_up_s, va_up_s]; exact ⟨rfl, rfl⟩
    · rw [va_up_k _ _ (by omega), va_up_k _ _ (by omega), va_up_k _ _ (by omega), va_up_k _ _ (by omega)]; exact h.2.2.1 i (by omega)
  · rw [va_up_k _ _ (by omega), va_up_k _ _ (by omega)]; exact h.2.2.2 i (by omega) (by omega) (by omega) (by omega) (by omega)
/-- where the formulas' codes lie -/
def LnF (s : TD) (V : VT) : Prop := ∀ (ice : Bool) (k : Nat), k = (if ice then 1 else 0) → (tdF s ice = none → V 18 k = nI 0 ∧ V 19 k = nI 0) ∧ ∀ E, tdF s ice = some E → ∃ f, f + E.1.length ≤ 1000 ∧ V 18 k = nI f ∧ V 19 k = nI (f + E.1.length) ∧ CDs (V 20) f E.1
/-- how prison ends on the reference -/
def QPm (σ : Hp) (m : Nat) (V : VT) (U : UT) (res : Rl) : Option Value → Hp → Prop := fun rv σ' => ∃ (V2 : VT) (U2 : UT), σ' = sv σ m V2 U2 ∧ UR1 U U2 ∧ (V2 0 30 = 0 ∨ V2 0 30 = 1) ∧ ((∃ f, res = .inr f ∧ rv = some (.int f) ∧ FR1 (up2 (up2 V 0 0 0) 0 1 0) V2) ∨ ∃ s q, res = .inl (s, q) ∧ rv = some (.int 0) ∧ PT s V2 ∧ LnF s V2 ∧ V2 33 = S0s s ∧ (∃ F, V2 36 = wyN V2 (tdC s 1) F 8) ∧ FR2 (up2 (up2 V 0 0 0) 0 1 0) V2)
theorem LnW.cg {g : Option GWt} (h : LnW V g) (e : ∀ o, 18 ≤ o → o ≤ 20 → V2 o = V o) : LnW V2 g := by
  unfold LnW at h ⊢
  rw [e 18 (by decide) (by decide), e 19 (by decide) (by decide), e 20 (by decide) (by decide)]
  exact h
theorem LnI.cg {g : Option GIt} (h : LnI V g) (e : ∀ o, 18 ≤ o → o ≤ 20 → V2 o = V o) : LnI V2 g := by
  unfold LnI at h ⊢
  rw [e 18 (by decide) (by decide), e 19 (by decide) (by decide), e 20 (by decide) (by decide)]
  exact h
theorem wyN_cg {dN : Nat} (F : ST) (k : Nat) (h10 : V2 10 = V 10) (h11 : V2 11 = V 11) : wyN V2 dN F k = wyN V dN F k := by
  have key : ∀ (V2 : VT), V2 10 = V 10 → V2 11 = V 11 → ∀ n F d, wyd V2 n F d = wyd V n F d := by
    intro V2 e1 e2 n F d
    unfold wyd
    rw [e1, e2]
  have k2 : ∀ n F d, wyD V2 n F d = wyD V n F d := by
    intro n F d
    induction d with
    | zero => rfl
    | succ d ih => show wyd V2 n (wyD V2 n F d) d = wyd V n (wyD V n F d) d; rw [ih, key V2 h10 h11]
  induction k with
  | zero => rfl
  | succ k ih => show wyD V2 _ (wyN V2 dN F k) dN = wyD V _ (wyN V dN F k) dN; rw [ih, k2]
set_option maxRecDepth 100000 in
theorem sr_laid (hM : MS σ m) {V3 : VT} {U3 : UT} (hV : TV T n s) (hPT : PT s V3) (h96 : ∀ i, 96 ≤ i → V3 33 i = 0) {Q : Option Value → Hp → Prop} (hend : ∀ S, Jx s (tdC s 1) (tdC s 0) (tdC s 2) S → ∀ x : Int32, HT G mX10_prison 170 [some (.ref m), some (.int x)] [] (sv σ m (sS V3 S) U3) 5 Q) : HT G mX10_prison 25 [some (.ref m), some (.int (nI 0))] [] (sv σ m V3 U3) 5 Q := by
  have D := dat dl_X10_prison
  have hv0 := hV.1
  have lp4 : ∀ r j : Nat, j ≤ tdC s 2 → tdC s 2 - j = r → ∀ S : ST, Jx s (tdC s 1) (tdC s 0) j S → HT G mX10_prison 124 [some (.ref m), some (.int (nI j))] [] (sv σ m (sS V3 S) U3) 5 Q := by
    intro r
    induction r using Nat.strongRecOn with
    | _ r ih =>
      intro j hj hr S hS
      refine ht_iload_n (D 75 rfl) rfl rfl ?_
      refine ht_aload_n (D 76 rfl) rfl rfl ?_
      refine gf_X10_19 rfl (D 77 rfl) hM.k0 hM.q4 ?_
      refine ht_iconst (v := 0) (D 78 rfl) (by decide) ?_
      refine hm_ild (o := 4) (n := 0) (by decide) (D 79 rfl) hM.k4 hM.n4 (by first | rfl | exact nI_add _ _ | assumption) (by omega) (by decide) ?_
      rw [show sS V3 (S) 4 0 = nI (tdC s 2) from (congrFun (sS_o V3 _ (by decide)) _).trans hPT.1.2.2.1]
      refine ht_icmp_ge (tgt := 170) (D 80 rfl) (by decide) (fun hb131 => ?_) (fun hb131 => ?_)
      · skip
        have hjk : j = tdC s 2 := by have h3 := (nI_leI (a := tdC s 2) (b := j) (by omega) (by omega)).mp hb131; omega
        rw [hjk] at hS
        exact ht_cast (hend S hS _) rfl rfl rfl
      · skip
        have hjk : j < tdC s 2 := by have h3 := mt (nI_leI (a := tdC s 2) (b := j) (by omega) (by omega)).mpr hb131; omega
        refine ht_aload_n (D 81 rfl) rfl rfl ?_
        refine gf_X10_108 rfl (D 82 rfl) hM.k0 hM.q33 ?_
        refine ht_bipush (v := 68) (D 83 rfl) (by decide) ?_
        refine ht_iload_n (D 84 rfl) rfl rfl ?_
        refine ht_iadd (D 85 rfl) ?_
        refine ht_aload_n (D 86 rfl) rfl rfl ?_
        refine gf_X10_47 rfl (D 87 rfl) hM.k0 hM.q13 ?_
        refine ht_iload_n (D 88 rfl) rfl rfl ?_
        refine hm_ild (o := 13) (n := j) (by decide) (D 89 rfl) hM.k13 hM.n13 (by first | rfl | exact nI_add _ _ | assumption) (by omega) (by decide) ?_
        rw [show sS V3 (S) 13 j = tdR s 13 j from (congrFun (sS_o V3 _ (by decide)) _).trans (hPT.2.2.2.1 j hjk).1]
        refine hm_ist (o := 33) (n := 68 + j) (by decide) (D 90 rfl) hM.k33 hM.n33 (by first | rfl | exact nI_add _ _ | assumption) (by omega) (by decide) ?_
        rw [up2_33, sS_sS, sS_s]
        refine ht_aload_n (D 91 rfl) rfl rfl ?_
        refine gf_X10_108 rfl (D 92 rfl) hM.k0 hM.q33 ?_
        refine ht_bipush (v := 74) (D 93 rfl) (by decide) ?_
        refine ht_iload_n (D 94 rfl) rfl rfl ?_
        refine ht_iadd (D 95 rfl) ?_
        refine ht_aload_n (D 96 rfl) rfl rfl ?_
        refine gf_X10_50 rfl (D 97 rfl) hM.k0 hM.q14 ?_
        refine ht_iload_n (D 98 rfl) rfl rfl ?_
        refine hm_ild (o := 14) (n := j) (by decide) (D 99 rfl) hM.k14 hM.n14 (by first | rfl | exact nI_add _ _ | assumption) (by omega) (by decide) ?_
        rw [show sS V3 (va_up S (68 + j) (tdR s 13 j)) 14 j = tdR s 14 j from (congrFun (sS_o V3 _ (by decide)) _).trans (hPT.2.2.2.1 j hjk).2.1]
        refine hm_ist (o := 33) (n := 74 + j) (by decide) (D 100 rfl) hM.k33 hM.n33 (by first | rfl | exact nI_add _ _ | assumption) (by omega) (by decide) ?_
        rw [up2_33, sS_sS, sS_s]
        refine ht_iinc (v := nI (j + 1)) (D 101 rfl) rfl (nI_i1 _) (by decide) rfl ?_
        refine ht_goto (tgt := 124) (D 102 rfl) (by decide) ?_
        exact ht_cast (ih (tdC s 2 - (j + 1)) (by omega) (j + 1) (by omega) rfl _ (Jx_x hS hv0.2.1 hv0.1 (by omega))) rfl rfl rfl
  have lp3 : ∀ r j : Nat, j ≤ tdC s 0 → tdC s 0 - j = r → ∀ S : ST, Jx s (tdC s 1) j 0 S → HT G mX10_prison 91 [some (.ref m), some (.int (nI j))] [] (sv σ m (sS V3 S) U3) 5 Q := by
    intro r
    induction r using Nat.strongRecOn with
    | _ r ih =>
      intro j hj hr S hS
      refine ht_iload_n (D 55 rfl) rfl rfl ?_
      refine ht_aload_n (D 56 rfl) rfl rfl ?_
      refine gf_X10_13 rfl (D 57 rfl) hM.k0 hM.q2 ?_
      refine ht_iconst (v := 0) (D 58 rfl) (by decide) ?_
      refine hm_ild (o := 2) (n := 0) (by decide) (D 59 rfl) hM.k2 hM.n2 (by first | rfl | exact nI_add _ _ | assumption) (by omega) (by decide) ?_
      rw [show sS V3 (S) 2 0 = nI (tdC s 0) from (congrFun (sS_o V3 _ (by decide)) _).trans hPT.1.1]
      refine ht_icmp_ge (tgt := 122) (D 60 rfl) (by decide) (fun hb98 => ?_) (fun hb98 => ?_)
      · skip
        have hjk : j = tdC s 0 := by have h3 := (nI_leI (a := tdC s 0) (b := j) (by omega) (by omega)).mp hb98; omega
        refine ht_iconst (v := 0) (D 73 rfl) (by decide) ?_
        refine ht_istore_n (D 74 rfl) rfl (by decide) rfl ?_
        rw [hjk] at hS
        exact ht_cast (lp4 (tdC s 2) 0 (by omega) (by omega) S hS) rfl rfl rfl
      · skip
        have hjk : j < tdC s 0 := by have h3 := mt (nI_leI (a := tdC s 0) (b := j) (by omega) (by omega)).mpr hb98; omega
        refine ht_aload_n (D 61 rfl) rfl rfl ?_
        refine gf_X10_108 rfl (D 62 rfl) hM.k0 hM.q33 ?_
        refine ht_bipush (v := 60) (D 63 rfl) (by decide) ?_
        refine ht_iload_n (D 64 rfl) rfl rfl ?_
        refine ht_iadd (D 65 rfl) ?_
        refine ht_aload_n (D 66 rfl) rfl rfl ?_
        refine gf_X10_35 rfl (D 67 rfl) hM.k0 hM.q9 ?_
        refine ht_iload_n (D 68 rfl) rfl rfl ?_
        refine hm_ild (o := 9) (n := j) (by decide) (D 69 rfl) hM.k9 hM.n9 (by first | rfl | exact nI_add _ _ | assumption) (by omega) (by decide) ?_
        rw [show sS V3 (S) 9 j = tdR s 9 j from (congrFun (sS_o V3 _ (by decide)) _).trans (hPT.2.1 j hjk)]
        refine hm_ist (o := 33) (n := 60 + j) (by decide) (D 70 rfl) hM.k33 hM.n33 (by first | rfl | exact nI_add _ _ | assumption) (by omega) (by decide) ?_
        rw [up2_33, sS_sS, sS_s]
        refine ht_iinc (v := nI (j + 1)) (D 71 rfl) rfl (nI_i1 _) (by decide) rfl ?_
        refine ht_goto (tgt := 91) (D 72 rfl) (by decide) ?_
        exact ht_cast (ih (tdC s 0 - (j + 1)) (by omega) (j + 1) (by omega) rfl _ (Jx_c hS hv0.2.1 (by omega))) rfl rfl rfl
  have lp2 : ∀ r j : Nat, j ≤ tdC s 1 → tdC s 1 - j = r → ∀ S : ST, Jx s j 0 0 S → HT G mX10_prison 46 [some (.ref m), some (.int (nI j))] [] (sv σ m (sS V3 S) U3) 5 Q := by
    intro r
    induction r using Nat.strongRecOn with
    | _ r ih =>
      intro j hj hr S hS
      refine ht_iload_n (D 27 rfl) rfl rfl ?_
      refine ht_aload_n (D 28 rfl) rfl rfl ?_
      refine gf_X10_16 rfl (D 29 rfl) hM.k0 hM.q3 ?_
      refine ht_iconst (v := 0) (D 30 rfl) (by decide) ?_
      refine hm_ild (o := 3) (n := 0) (by decide) (D 31 rfl) hM.k3 hM.n3 (by first | rfl | exact nI_add _ _ | assumption) (by omega) (by decide) ?_
      rw [show sS V3 (S) 3 0 = nI (tdC s 1) from (congrFun (sS_o V3 _ (by decide)) _).trans hPT.1.2.1]
      refine ht_icmp_ge (tgt := 89) (D 32 rfl) (by decide) (fun hb53 => ?_) (fun hb53 => ?_)
      · skip
        have hjk : j = tdC s 1 := by have h3 := (nI_leI (a := tdC s 1) (b := j) (by omega) (by omega)).mp hb53; omega
        refine ht_iconst (v := 0) (D 53 rfl) (by decide) ?_
        refine ht_istore_n (D 54 rfl) rfl (by decide) rfl ?_
        rw [hjk] at hS
        exact ht_cast (lp3 (tdC s 0) 0 (by omega) (by omega) S hS) rfl rfl rfl
      · skip
        have hjk : j < tdC s 1 := by have h3 := mt (nI_leI (a := tdC s 1) (b := j) (by omega) (by omega)).mpr hb53; omega
        refine ht_aload_n (D 33 rfl) rfl rfl ?_
        refine gf_X10_108 rfl (D 34 rfl) hM.k0 hM.q33 ?_
        refine ht_iload_n (D 35 rfl) rfl rfl ?_
        refine ht_aload_n (D 36 rfl) rfl rfl ?_
        refine gf_X10_44 rfl (D 37 rfl) hM.k0 hM.q12 ?_
        refine ht_iload_n (D 38 rfl) rfl rfl ?_
        refine hm_ild (o := 12) (n := j) (by decide) (D 39 rfl) hM.k12 hM.n12 (by first | rfl | exact nI_add _ _ | assumption) (by omega) (by decide) ?_
        rw [show sS V3 (S) 12 j = tdR s 12 j from (congrFun (sS_o V3 _ (by decide)) _).trans (hPT.2.2.1 j hjk).2.2]
        refine hm_ist (o := 33) (n := j) (by decide) (D 40 rfl) hM.k33 hM.n33 (by first | rfl | exact nI_add _ _ | assumption) (by omega) (by decide) ?_
        rw [up2_33, sS_sS, sS_s]
        refine ht_aload_n (D 41 rfl) rfl rfl ?_
        refine gf_X10_108 rfl (D 42 rfl) hM.k0 hM.q33 ?_
        refine ht_bipush (v := 30) (D 43 rfl) (by decide) ?_
        refine ht_iload_n (D 44 rfl) rfl rfl ?_
        refine ht_iadd (D 45 rfl) ?_
        refine ht_aload_n (D 46 rfl) rfl rfl ?_
        refine gf_X10_44 rfl (D 47 rfl) hM.k0 hM.q12 ?_
        refine ht_iload_n (D 48 rfl) rfl rfl ?_
        refine hm_ild (o := 12) (n := j) (by decide) (D 49 rfl) hM.k12 hM.n12 (by first | rfl | exact nI_add _ _ | assumption) (by omega) (by decide) ?_
        rw [show sS V3 (va_up S j (tdR s 12 j)) 12 j = tdR s 12 j from (congrFun (sS_o V3 _ (by decide)) _).trans (hPT.2.2.1 j hjk).2.2]
        refine hm_ist (o := 33) (n := 30 + j) (by decide) (D 50 rfl) hM.k33 hM.n33 (by first | rfl | exact nI_add _ _ | assumption) (by omega) (by decide) ?_
        rw [up2_33, sS_sS, sS_s]
        refine ht_iinc (v := nI (j + 1)) (D 51 rfl) rfl (nI_i1 _) (by decide) rfl ?_
        refine ht_goto (tgt := 46) (D 52 rfl) (by decide) ?_
        exact ht_cast (ih (tdC s 1 - (j + 1)) (by omega) (j + 1) (by omega) rfl _ (Jx_d hS (by omega))) rfl rfl rfl
  have lp1 : ∀ r j : Nat, j ≤ 96 → 96 - j = r → ∀ S : ST, (∀ i, i < j ∨ 96 ≤ i → S i = 0) → HT G mX10_prison 25 [some (.ref m), some (.int (nI j))] [] (sv σ m (sS V3 S) U3) 5 Q := by
    intro r
    induction r using Nat.strongRecOn with
    | _ r ih =>
      intro j hj hr S hS
      refine ht_iload_n (D 15 rfl) rfl rfl ?_
      refine ht_bipush (v := 96) (D 16 rfl) (by decide) ?_
      refine ht_icmp_ge (tgt := 44) (D 17 rfl) (by decide) (fun hb28 => ?_) (fun hb28 => ?_)
      · skip
        have hjk : j = 96 := by have h3 := (nI_leI (a := 96) (b := j) (by omega) (by omega)).mp hb28; omega
        refine ht_iconst (v := 0) (D 25 rfl) (by decide) ?_
        refine ht_istore_n (D 26 rfl) rfl (by decide) rfl ?_
        exact ht_cast (lp2 (tdC s 1) 0 (by omega) (by omega) S ⟨fun i hi => absurd hi (Nat.not_lt_zero _), fun i hi => absurd hi (Nat.not_lt_zero _), fun i hi => absurd hi (Nat.not_lt_zero _), fun i _ _ _ _ _ => hS i (by omega)⟩) rfl rfl rfl
      · skip
        have hjk : j < 96 := by have h3 := mt (nI_leI (a := 96) (b := j) (by omega) (by omega)).mpr hb28; omega
        refine ht_aload_n (D 18 rfl) rfl rfl ?_
        refine gf_X10_108 rfl (D 19 rfl) hM.k0 hM.q33 ?_
        refine ht_iload_n (D 20 rfl) rfl rfl ?_
        refine ht_iconst (v := 0) (D 21 rfl) (by decide) ?_
        refine hm_ist (o := 33) (n := j) (by decide) (D 22 rfl) hM.k33 hM.n33 (by first | rfl | exact nI_add _ _ | assumption) (by omega) (by decide) ?_
        rw [up2_33, sS_sS, sS_s]
        refine ht_iinc (v := nI (j + 1)) (D 23 rfl) rfl (nI_i1 _) (by decide) rfl ?_
        refine ht_goto (tgt := 25) (D 24 rfl) (by decide) ?_
        exact ht_cast (ih (96 - (j + 1)) (by omega) (j + 1) (by omega) rfl _ (fun i hi => by by_cases q : i = j; rw [q, va_up_s]; rw [va_up_k _ _ q]; exact hS i (by omega))) rfl rfl rfl
  have h1 := lp1 96 0 (by omega) (by omega) (V3 33) (fun i hi => h96 i (by omega))
  rw [sS_id] at h1
  exact h1
theorem Chn_v {res : Rl} (h : Chn T n s p res) : ∀ s2 q, res = .inl (s2, q) → TV T n s2 := by
  refine h (fun _ _ res => ∀ s2 q, res = .inl (s2, q) → TV T n s2) ⟨?_, ?_, ?_⟩
  · intro s p b e _ hV s2 q hr
    cases hr
    exact hV
  · intro s p b e k f _ _ _ _ s2 q hr
    cases hr
  · intro s p b e k s2 q res _ _ _ _ _ ih
    exact ih
set_option maxRecDepth 100000 in
theorem sr_prison (hM : MS σ m) (hT : V 1 = T) (hn : V 0 1 = nI n) (hn0 : n ≤ 1000) (hi : V 0 30 = (if ice then 1 else 0)) (h96 : ∀ i, 96 ≤ i → V 33 i = 0) {res : Rl} (hCh : Chn T n tdZ 0 res) : Sp G mX10_prison 5 [.ref m] (sv σ m V U) (QPm σ m V U res) := by
  have D := dat dl_X10_prison
  have hTV := Chn_v hCh
  show HT G mX10_prison 0 [some (.ref m), none] [] (sv σ m V U) 5 _
  refine ht_aload_n (D 0 rfl) rfl rfl ?_
  refine ht_iconst (v := 0) (D 1 rfl) (by decide) ?_
  refine pm_X10_135 hM rfl (D 2 rfl) ?_
  refine ht_aload_n (D 3 rfl) rfl rfl ?_
  refine kVX10_readsAll (As := []) cl_X10_314 (D 4 rfl) (sr_readsAll hM (V := up2 V 0 0 0) (T := T) (n := n) (ice := ice) ((up2_o _ _ (by decide)).trans hT) ((up2_k _ _ (by decide)).trans hn) hn0 ((up2_k _ _ (by decide)).trans hi) hCh) hM.k0 rfl (Nat.le_of_ble_eq_true rfl) rfl (Nat.le_of_ble_eq_true rfl) (by omega) ?_
  rintro _ _ (⟨f, rfl, rfl, V2, U2, rfl, hf9, h9F, h9U, h930⟩ | ⟨s2, q2, rfl, rfl, V2, U2, i2, b2, e2, k2, c2, rfl, hD⟩)
  · skip
    refine ht_if_ne (tgt := 17) (D 5 rfl) (by decide) (fun hb9 => absurd (by decide) hb9) (fun hb9 => ?_)
    refine ht_aload_n (D 6 rfl) rfl rfl ?_
    refine gm_X10_171 hM rfl (D 7 rfl) ?_
    refine ht_iret (D 8 rfl) rfl rfl ?_
    exact ⟨V2, U2, rfl, h9U, h930, Or.inl ⟨f, rfl, by rw [hf9], h9F⟩⟩
  · skip
    have hV2 := hTV s2 q2 rfl
    refine ht_if_ne (tgt := 17) (D 5 rfl) (by decide) (fun hb9 => ?_) (fun hb9 => absurd hb9 (by decide))
    refine ht_aload_n (D 9 rfl) rfl rfl ?_
    refine ht_iconst (v := 1) (D 10 rfl) (by decide) ?_
    refine ht_iconst (v := 0) (D 11 rfl) (by decide) ?_
    refine kVX10_lays (As := [_, _]) cl_X10_317 (D 12 rfl) (sm_lays hM (p := 1) (q := 0) (by decide) (by decide) (by decide)) hM.k0 rfl (Nat.le_of_ble_eq_true rfl) rfl (Nat.le_of_ble_eq_true rfl) (by omega) ?_
    rintro _ _ ⟨rfl, rfl⟩
    refine ht_iconst (v := 0) (D 13 rfl) (by decide) ?_
    refine ht_istore_n (D 14 rfl) rfl (by decide) rfl ?_
    have hRR := hD.2.1
    have hc2 : c2 ≤ 2000 := by have h1 := hD.le; have h2 := TK_le hD.tk; omega
    have hPT : PT s2 (lyF V2 1 0) := PT_ly hRR hV2
    have h9F := hD.2.2.2.1
    have h9U := hD.2.2.2.2
    have h96b : ∀ i, 96 ≤ i → lyF V2 1 0 33 i = 0 := fun i hi => by
      rw [lyF_out V2 1 0 (o := 33) (i := i) (by decide) (by decide) (Or.inr (Nat.zero_le _)), h9F 33 i (by unfold chg; omega)]
      exact h96 i hi
    refine ht_cast (sr_laid hM hV2 hPT h96b (fun S hJ x => ?_)) rfl rfl rfl
    generalize hV3 : lyF V2 1 0 = V3 at *
    refine ht_aload_n (D 103 rfl) rfl rfl ?_
    refine kVX10_ways (As := []) cl_X10_321 (D 104 rfl) (sm_ways hM (V := sS V3 S) ((hPT.cg (fun o h1 h2 => sS_o V3 S (by omega))).pl hV2)) hM.k0 rfl (Nat.le_of_ble_eq_true rfl) rfl (Nat.le_of_ble_eq_true rfl) (by omega) ?_
    rintro _ _ ⟨rfl, V5, rfl, hdo, h36⟩
    refine ht_iconst (v := 0) (D 105 rfl) (by decide) ?_
    refine ht_iret (D 106 rfl) rfl rfl ?_
    have e5 : ∀ o, o ≠ 36 → o ≠ 33 → V5 o = lyF V2 1 0 o := fun o q1 q2 => (hdo o q1).trans ((sS_o V3 S q2).trans (congrFun hV3.symm o))
    refine ⟨V5, _, rfl, h9U, ?_, Or.inr ⟨s2, q2, rfl, rfl, hPT.cg (fun o h1 h2 => (e5 o (by omega) (by omega)).trans (congrFun hV3 o)), ?_, ?_, ⟨(sS V3 S) 36, ?_⟩, fun o i q1 q3 => ?_⟩⟩
    · rw [e5 0 (by decide) (by decide), lyF_out V2 1 0 (o := 0) (i := 30) (by decide) (by decide) (Or.inr (Nat.zero_le _))]; exact hD.b30
    · intro ice k hk
      rw [e5 18 (by decide) (by decide), e5 19 (by decide) (by decide), e5 20 (by decide) (by decide)]
      exact ly_ln hRR hc2 ice k hk
    · rw [hdo 33 (by decide), sS_s]; exact S0_e hV2 hJ.1 hJ.2.1 hJ.2.2.1 hJ.2.2.2
    · rw [h36]; exact (wyN_cg _ 8 (hdo 10 (by decide)) (hdo 11 (by decide))).symm
    · rw [e5 o (fun q => q3 (Or.inr (Or.inr (Or.inr (Or.inr (Or.inr q)))))) (fun q => q3 (Or.inr (Or.inr (Or.inr (Or.inr (Or.inl q)))))), FR2_ly V2 o i q1 q3]
      exact h9F o i q1
end S8
