/-! ===== the reference: copies, hours ===== -/
def cpR (V : VT) (o1 a o2 b k : Nat) : VT := fun o i => if o = o2 ∧ b ≤ i ∧ i < b + k then V o1 (a + (i - b)) else V o i
theorem cpR_0 (V : VT) (o1 a o2 b : Nat) : cpR V o1 a o2 b 0 = V := by
  funext o i
  unfold cpR
  rw [if_neg (by omega)]
theorem cpR_s {V : VT} {o1 a o2 b k : Nat} (h : o1 ≠ o2) : up2 (cpR V o1 a o2 b k) o2 (b + k) (cpR V o1 a o2 b k o1 (a + k)) = cpR V o1 a o2 b (k + 1) := by
  funext o i
  have e : cpR V o1 a o2 b k o1 (a + k) = V o1 (a + k) := by
    unfold cpR
    rw [if_neg (fun q => h q.1)]
  rw [e]
  unfold up2 cpR
  by_cases c1 : o = o2 ∧ i = b + k
  · rw [if_pos c1, if_pos ⟨c1.1, by omega, by omega⟩, show i - b = k by omega]
  · rw [if_neg c1]
    by_cases c2 : o = o2 ∧ b ≤ i ∧ i < b + k
    · rw [if_pos c2, if_pos ⟨c2.1, c2.2.1, by omega⟩]
    · rw [if_neg c2, if_neg (fun q => c2 ⟨q.1, q.2.1, by have h9 : ¬ i = b + k := fun r => c1 ⟨q.1, r⟩; omega⟩)]
section M8
variable {G : GG} {σ : Hp} {m : Nat} {V : VT} {U : UT}
set_option maxRecDepth 100000 in
theorem sm_copies_33_34 (hM : MS σ m) {a b : Nat} (ha : a + 96 ≤ 96) (hb : b + 96 ≤ 96) : Sp G mX10_copies 0 [.ref (m + 33), .int (nI a), .ref (m + 34), .int (nI b)] (sv σ m V U) (fun rv σ' => rv = none ∧ σ' = sv σ m (cpR V 33 a 34 b 96) U) := by
  have D := dat dl_X10_copies
  have loop : ∀ r j : Nat, j ≤ 96 → 96 - j = r → HT G mX10_copies 3 [some (.ref (m + 33)), some (.int (nI a)), some (.ref (m + 34)), some (.int (nI b)), some (.int (nI j))] [] (sv σ m (cpR V 33 a 34 b j) U) 0 (fun rv σ' => rv = none ∧ σ' = sv σ m (cpR V 33 a 34 b 96) U) := by
    intro r
    induction r using Nat.strongRecOn with
    | _ r ih =>
      intro j hj hr
      refine ht_iload (D 2 rfl) rfl ?_
      refine ht_bipush (v := 96) (D 3 rfl) (by decide) ?_
      refine ht_icmp_ge (tgt := 28) (D 4 rfl) (by decide) (fun hb7 => ?_) (fun hb7 => ?_)
      · skip
        have hjk : j = 96 := by have h3 := (nI_leI (a := 96) (b := j) (by omega) (by omega)).mp hb7; omega
        subst hjk
        refine ht_vret (D 17 rfl) rfl ?_
        exact ⟨rfl, rfl⟩
      · skip
        have hjk : j < 96 := by have h3 := mt (nI_leI (a := 96) (b := j) (by omega) (by omega)).mpr hb7; omega
        refine ht_aload_n (D 5 rfl) rfl rfl ?_
        refine ht_iload_n (D 6 rfl) rfl rfl ?_
        refine ht_iload (D 7 rfl) rfl ?_
        refine ht_iadd (D 8 rfl) ?_
        refine ht_aload_n (D 9 rfl) rfl rfl ?_
        refine ht_iload_n (D 10 rfl) rfl rfl ?_
        refine ht_iload (D 11 rfl) rfl ?_
        refine ht_iadd (D 12 rfl) ?_
        refine hm_ild (o := 33) (n := (a + j)) (by decide) (D 13 rfl) hM.k33 hM.n33 (by first | rfl | exact nI_add _ _ | assumption) (by omega) (by decide) ?_
        refine hm_ist (o := 34) (n := (b + j)) (by decide) (D 14 rfl) hM.k34 hM.n34 (by first | rfl | exact nI_add _ _ | assumption) (by omega) (by decide) ?_
        refine ht_iinc (v := nI (j + 1)) (D 15 rfl) rfl (nI_i1 _) (by decide) rfl ?_
        refine ht_goto (tgt := 3) (D 16 rfl) (by decide) ?_
        rw [cpR_s (show 33 ≠ 34 by decide)]
        exact ih (96 - (j + 1)) (by omega) (j + 1) (by omega) rfl
  show HT G mX10_copies 0 [some (.ref (m + 33)), some (.int (nI a)), some (.ref (m + 34)), some (.int (nI b)), none] [] (sv σ m V U) 0 _
  refine ht_iconst (v := 0) (D 0 rfl) (by decide) ?_
  refine ht_istore (D 1 rfl) (by decide) rfl ?_
  have h0 := loop 96 0 (by omega) (by omega)
  rw [cpR_0] at h0
  exact h0
set_option maxRecDepth 100000 in
theorem sm_copies_34_33 (hM : MS σ m) {a b : Nat} (ha : a + 96 ≤ 96) (hb : b + 96 ≤ 96) : Sp G mX10_copies 0 [.ref (m + 34), .int (nI a), .ref (m + 33), .int (nI b)] (sv σ m V U) (fun rv σ' => rv = none ∧ σ' = sv σ m (cpR V 34 a 33 b 96) U) := by
  have D := dat dl_X10_copies
  have loop : ∀ r j : Nat, j ≤ 96 → 96 - j = r → HT G mX10_copies 3 [some (.ref (m + 34)), some (.int (nI a)), some (.ref (m + 33)), some (.int (nI b)), some (.int (nI j))] [] (sv σ m (cpR V 34 a 33 b j) U) 0 (fun rv σ' => rv = none ∧ σ' = sv σ m (cpR V 34 a 33 b 96) U) := by
    intro r
    induction r using Nat.strongRecOn with
    | _ r ih =>
      intro j hj hr
      refine ht_iload (D 2 rfl) rfl ?_
      refine ht_bipush (v := 96) (D 3 rfl) (by decide) ?_
      refine ht_icmp_ge (tgt := 28) (D 4 rfl) (by decide) (fun hb7 => ?_) (fun hb7 => ?_)
      · skip
        have hjk : j = 96 := by have h3 := (nI_leI (a := 96) (b := j) (by omega) (by omega)).mp hb7; omega
        subst hjk
        refine ht_vret (D 17 rfl) rfl ?_
        exact ⟨rfl, rfl⟩
      · skip
        have hjk : j < 96 := by have h3 := mt (nI_leI (a := 96) (b := j) (by omega) (by omega)).mpr hb7; omega
        refine ht_aload_n (D 5 rfl) rfl rfl ?_
        refine ht_iload_n (D 6 rfl) rfl rfl ?_
        refine ht_iload (D 7 rfl) rfl ?_
        refine ht_iadd (D 8 rfl) ?_
        refine ht_aload_n (D 9 rfl) rfl rfl ?_
        refine ht_iload_n (D 10 rfl) rfl rfl ?_
        refine ht_iload (D 11 rfl) rfl ?_
        refine ht_iadd (D 12 rfl) ?_
        refine hm_ild (o := 34) (n := (a + j)) (by decide) (D 13 rfl) hM.k34 hM.n34 (by first | rfl | exact nI_add _ _ | assumption) (by omega) (by decide) ?_
        refine hm_ist (o := 33) (n := (b + j)) (by decide) (D 14 rfl) hM.k33 hM.n33 (by first | rfl | exact nI_add _ _ | assumption) (by omega) (by decide) ?_
        refine ht_iinc (v := nI (j + 1)) (D 15 rfl) rfl (nI_i1 _) (by decide) rfl ?_
        refine ht_goto (tgt := 3) (D 16 rfl) (by decide) ?_
        rw [cpR_s (show 34 ≠ 33 by decide)]
        exact ih (96 - (j + 1)) (by omega) (j + 1) (by omega) rfl
  show HT G mX10_copies 0 [some (.ref (m + 34)), some (.int (nI a)), some (.ref (m + 33)), some (.int (nI b)), none] [] (sv σ m V U) 0 _
  refine ht_iconst (v := 0) (D 0 rfl) (by decide) ?_
  refine ht_istore (D 1 rfl) (by decide) rfl ?_
  have h0 := loop 96 0 (by omega) (by omega)
  rw [cpR_0] at h0
  exact h0
set_option maxRecDepth 100000 in
theorem sm_copies_33_35 (hM : MS σ m) {a b : Nat} (ha : a + 96 ≤ 96) (hb : b + 96 ≤ 384) : Sp G mX10_copies 0 [.ref (m + 33), .int (nI a), .ref (m + 35), .int (nI b)] (sv σ m V U) (fun rv σ' => rv = none ∧ σ' = sv σ m (cpR V 33 a 35 b 96) U) := by
  have D := dat dl_X10_copies
  have loop : ∀ r j : Nat, j ≤ 96 → 96 - j = r → HT G mX10_copies 3 [some (.ref (m + 33)), some (.int (nI a)), some (.ref (m + 35)), some (.int (nI b)), some (.int (nI j))] [] (sv σ m (cpR V 33 a 35 b j) U) 0 (fun rv σ' => rv = none ∧ σ' = sv σ m (cpR V 33 a 35 b 96) U) := by
    intro r
    induction r using Nat.strongRecOn with
    | _ r ih =>
      intro j hj hr
      refine ht_iload (D 2 rfl) rfl ?_
      refine ht_bipush (v := 96) (D 3 rfl) (by decide) ?_
      refine ht_icmp_ge (tgt := 28) (D 4 rfl) (by decide) (fun hb7 => ?_) (fun hb7 => ?_)
      · skip
        have hjk : j = 96 := by have h3 := (nI_leI (a := 96) (b := j) (by omega) (by omega)).mp hb7; omega
        subst hjk
        refine ht_vret (D 17 rfl) rfl ?_
        exact ⟨rfl, rfl⟩
      · skip
        have hjk : j < 96 := by have h3 := mt (nI_leI (a := 96) (b := j) (by omega) (by omega)).mpr hb7; omega
        refine ht_aload_n (D 5 rfl) rfl rfl ?_
        refine ht_iload_n (D 6 rfl) rfl rfl ?_
        refine ht_iload (D 7 rfl) rfl ?_
        refine ht_iadd (D 8 rfl) ?_
        refine ht_aload_n (D 9 rfl) rfl rfl ?_
        refine ht_iload_n (D 10 rfl) rfl rfl ?_
        refine ht_iload (D 11 rfl) rfl ?_
        refine ht_iadd (D 12 rfl) ?_
        refine hm_ild (o := 33) (n := (a + j)) (by decide) (D 13 rfl) hM.k33 hM.n33 (by first | rfl | exact nI_add _ _ | assumption) (by omega) (by decide) ?_
        refine hm_ist (o := 35) (n := (b + j)) (by decide) (D 14 rfl) hM.k35 hM.n35 (by first | rfl | exact nI_add _ _ | assumption) (by omega) (by decide) ?_
        refine ht_iinc (v := nI (j + 1)) (D 15 rfl) rfl (nI_i1 _) (by decide) rfl ?_
        refine ht_goto (tgt := 3) (D 16 rfl) (by decide) ?_
        rw [cpR_s (show 33 ≠ 35 by decide)]
        exact ih (96 - (j + 1)) (by omega) (j + 1) (by omega) rfl
  show HT G mX10_copies 0 [some (.ref (m + 33)), some (.int (nI a)), some (.ref (m + 35)), some (.int (nI b)), none] [] (sv σ m V U) 0 _
  refine ht_iconst (v := 0) (D 0 rfl) (by decide) ?_
  refine ht_istore (D 1 rfl) (by decide) rfl ?_
  have h0 := loop 96 0 (by omega) (by omega)
  rw [cpR_0] at h0
  exact h0
set_option maxRecDepth 100000 in
theorem sm_copies_35_33 (hM : MS σ m) {a b : Nat} (ha : a + 96 ≤ 384) (hb : b + 96 ≤ 96) : Sp G mX10_copies 0 [.ref (m + 35), .int (nI a), .ref (m + 33), .int (nI b)] (sv σ m V U) (fun rv σ' => rv = none ∧ σ' = sv σ m (cpR V 35 a 33 b 96) U) := by
  have D := dat dl_X10_copies
  have loop : ∀ r j : Nat, j ≤ 96 → 96 - j = r → HT G mX10_copies 3 [some (.ref (m + 35)), some (.int (nI a)), some (.ref (m + 33)), some (.int (nI b)), some (.int (nI j))] [] (sv σ m (cpR V 35 a 33 b j) U) 0 (fun rv σ' => rv = none ∧ σ' = sv σ m (cpR V 35 a 33 b 96) U) := by
    intro r
    induction r using Nat.strongRecOn with
    | _ r ih =>
      intro j hj hr
      refine ht_iload (D 2 rfl) rfl ?_
      refine ht_bipush (v := 96) (D 3 rfl) (by decide) ?_
      refine ht_icmp_ge (tgt := 28) (D 4 rfl) (by decide) (fun hb7 => ?_) (fun hb7 => ?_)
      · skip
        have hjk : j = 96 := by have h3 := (nI_leI (a := 96) (b := j) (by omega) (by omega)).mp hb7; omega
        subst hjk
        refine ht_vret (D 17 rfl) rfl ?_
        exact ⟨rfl, rfl⟩
      · skip
        have hjk : j < 96 := by have h3 := mt (nI_leI (a := 96) (b := j) (by omega) (by omega)).mpr hb7; omega
        refine ht_aload_n (D 5 rfl) rfl rfl ?_
        refine ht_iload_n (D 6 rfl) rfl rfl ?_
        refine ht_iload (D 7 rfl) rfl ?_
        refine ht_iadd (D 8 rfl) ?_
        refine ht_aload_n (D 9 rfl) rfl rfl ?_
        refine ht_iload_n (D 10 rfl) rfl rfl ?_
        refine ht_iload (D 11 rfl) rfl ?_
        refine ht_iadd (D 12 rfl) ?_
        refine hm_ild (o := 35) (n := (a + j)) (by decide) (D 13 rfl) hM.k35 hM.n35 (by first | rfl | exact nI_add _ _ | assumption) (by omega) (by decide) ?_
        refine hm_ist (o := 33) (n := (b + j)) (by decide) (D 14 rfl) hM.k33 hM.n33 (by first | rfl | exact nI_add _ _ | assumption) (by omega) (by decide) ?_
        refine ht_iinc (v := nI (j + 1)) (D 15 rfl) rfl (nI_i1 _) (by decide) rfl ?_
        refine ht_goto (tgt := 3) (D 16 rfl) (by decide) ?_
        rw [cpR_s (show 35 ≠ 33 by decide)]
        exact ih (96 - (j + 1)) (by omega) (j + 1) (by omega) rfl
  show HT G mX10_copies 0 [some (.ref (m + 35)), some (.int (nI a)), some (.ref (m + 33)), some (.int (nI b)), none] [] (sv σ m V U) 0 _
  refine ht_iconst (v := 0) (D 0 rfl) (by decide) ?_
  refine ht_istore (D 1 rfl) (by decide) rfl ?_
  have h0 := loop 96 0 (by omega) (by omega)
  rw [cpR_0] at h0
  exact h0
theorem frS_dz {V V' : VT} (hd : Dz V V') (gi : Option GIt) (dg : Int32) (mN gk h : Nat) (S : ST) (k : Nat) : frS V' gi dg mN gk h S k = frS V gi dg mN gk h S k := by
  have hb : ∀ (S : ST) (j : Nat), fdS V' gi dg mN gk h S j = fdS V gi dg mN gk h S j := by
    intro S j
    unfold fdS fd1 stF brF
    rw [hd 10 (by decide) (by decide) (by decide), hd 11 (by decide) (by decide) (by decide), gN_dz hd, gN_dz hd]
  induction k with
  | zero => rfl
  | succ k ih =>
    show fdS V' gi dg mN gk h (frS V' gi dg mN gk h S k) k = fdS V gi dg mN gk h (frS V gi dg mN gk h S k) k
    rw [ih, hb]
theorem fO_dz {V V' : VT} (hd : Dz V V') : fO V' = fO V := by
  funext p
  unfold fO
  rw [hd 36 (by decide) (by decide) (by decide)]
theorem wb_dz {V V' : VT} (hd : Dz V V') (S : ST) (c : Int32) (gk h k : Nat) : wb V' S c gk h k = wb V S c gk h k := by
  have hw : ∀ d, wok V' S c gk h d ↔ wok V S c gk h d := by
    intro d
    unfold wok
    rw [ld_dz hd, gN_dz hd, hd 36 (by decide) (by decide) (by decide)]
  induction k with
  | zero => rfl
  | succ k ih =>
    show wst V' S c gk h k (wb V' S c gk h k) = wst V S c gk h k (wb V S c gk h k)
    rw [ih]
    by_cases hy : wok V S c gk h k
    · cases wb V S c gk h k with
      | none => rw [wst_n hy, wst_n ((hw k).mpr hy)]
      | some b => rw [wst_s hy, wst_s ((hw k).mpr hy), ld_dz hd, fO_dz hd]
    · rw [wst_f _ hy, wst_f _ (fun q => hy ((hw k).mp q))]
theorem wkS_dz {V V' : VT} (hd : Dz V V') (gk h dN : Nat) (S : ST) (mm : Nat) : wkS V' gk h dN S mm = wkS V gk h dN S mm := by
  unfold wkS
  rw [hd 15 (by decide) (by decide) (by decide), gN_dz hd, wb_dz hd, ld_dz hd]
theorem wkN_dz {V V' : VT} (hd : Dz V V') (gk h dN : Nat) (S : ST) (k : Nat) : wkN V' gk h dN S k = wkN V gk h dN S k := by
  induction k with
  | zero => rfl
  | succ k ih =>
    show wkS V' gk h dN (wkN V' gk h dN S k) k = wkS V gk h dN (wkN V gk h dN S k) k
    rw [ih, wkS_dz hd]
theorem psS_dz {V V' : VT} (hd : Dz V V') (gw : Option GWt) (gi : Option GIt) (dN mN gk h : Nat) (md : Int32) (S : ST) : psS V' gw gi dN mN gk h md S = psS V gw gi dN mN gk h md S := by
  unfold psS
  rw [frS_dz hd, wkN_dz hd]
theorem psS_80 (V : VT) (gw : Option GWt) (gi : Option GIt) (dN mN gk h : Nat) (md : Int32) (S : ST) : psS V gw gi dN mN gk h md S 80 = nI (h + 1) := by
  unfold psS va_up
  rw [if_pos rfl]
theorem psS_mn {V : VT} {cN dN mN gk : Nat} (hP : PL V cN dN mN gk) (gw : Option GWt) (gi : Option GIt) (h : Nat) (md : Int32) {S : ST} (hm : Mn S cN mN) : Mn (psS V gw gi dN mN gk h md S) cN mN := by
  have h6 : mN ≤ 6 := hP.2.2.1.2
  intro x hx
  have e : psS V gw gi dN mN gk h md S (68 + x) = wkN V gk h dN (frS V gi (dgF gw h md) mN gk h S dN) mN (68 + x) := by
    unfold psS va_up
    rw [if_neg (by omega)]
  rw [e]
  refine wkN_mn hP h ?_ mN x hx
  intro y hy
  rw [frS_hi _ _ _ _ _ _ _ hP.2.1.2 (by omega)]
  exact hm y hy
theorem wkN_hi (V : VT) (gk h dN : Nat) (S : ST) {k x : Nat} (hx : 74 ≤ x) (hk : k ≤ 6) : wkN V gk h dN S k x = S x := by
  induction k with
  | zero => rfl
  | succ k ih =>
    show wkS V gk h dN (wkN V gk h dN S k) k x = S x
    rw [wkS_o _ _ _ _ _ (show x ≠ 68 + k by omega), ih (by omega)]
theorem psS_hi {V : VT} {cN dN mN gk : Nat} (hP : PL V cN dN mN gk) (gw : Option GWt) (gi : Option GIt) (h : Nat) (md : Int32) (S : ST) {x : Nat} (hx : 81 ≤ x) : psS V gw gi dN mN gk h md S x = S x := by
  unfold psS va_up
  rw [if_neg (by omega), wkN_hi _ _ _ _ _ (by omega) hP.2.2.1.2, frS_hi _ _ _ _ _ _ _ hP.2.1.2 (by omega)]
noncomputable def psI (V : VT) (gw : Option GWt) (gi : Option GIt) (dN mN gk : Nat) (S : ST) (h : Nat) : Nat → ST
  | 0 => S
  | k + 1 => psS V gw gi dN mN gk (h + k) 0 (psI V gw gi dN mN gk S h k)
theorem psI_80 (V : VT) (gw : Option GWt) (gi : Option GIt) (dN mN gk : Nat) {S : ST} {h : Nat} (hh : S 80 = nI h) (k : Nat) : psI V gw gi dN mN gk S h k 80 = nI (h + k) := by
  cases k with
  | zero => exact hh
  | succ k => exact psS_80 V gw gi dN mN gk (h + k) 0 _
theorem psI_mn {V : VT} {cN dN mN gk : Nat} (hP : PL V cN dN mN gk) (gw : Option GWt) (gi : Option GIt) (h : Nat) {S : ST} (hm : Mn S cN mN) (k : Nat) : Mn (psI V gw gi dN mN gk S h k) cN mN := by
  induction k with
  | zero => exact hm
  | succ k ih => exact psS_mn hP gw gi (h + k) 0 ih
theorem psI_hi {V : VT} {cN dN mN gk : Nat} (hP : PL V cN dN mN gk) (gw : Option GWt) (gi : Option GIt) (h : Nat) (S : ST) (k : Nat) {x : Nat} (hx : 81 ≤ x) : psI V gw gi dN mN gk S h k x = S x := by
  induction k with
  | zero => rfl
  | succ k ih => exact (psS_hi hP gw gi (h + k) 0 _ hx).trans ih
theorem psI_dz {V V' : VT} (hd : Dz V V') (gw : Option GWt) (gi : Option GIt) (dN mN gk : Nat) (S : ST) (h k : Nat) : psI V' gw gi dN mN gk S h k = psI V gw gi dN mN gk S h k := by
  induction k with
  | zero => rfl
  | succ k ih =>
    show psS V' gw gi dN mN gk (h + k) 0 (psI V' gw gi dN mN gk S h k) = psS V gw gi dN mN gk (h + k) 0 (psI V gw gi dN mN gk S h k)
    rw [ih, psS_dz hd]
theorem Dy.pz {V V1 : VT} (h : Dy (tz V) V1) : Pz V V1 := ⟨fun o h1 h2 h3 => (h o (fun q => h2 ⟨q.1, by omega⟩)).trans (tz_o V (by omega)), by rw [h 0 (by decide)]; exact ⟨up2_k V 0 (by decide), up2_k V 0 (by decide)⟩⟩
noncomputable def aHours (V : VT) (gw : Option GWt) (gi : Option GIt) (dN mN gk h : Nat) (S : ST) (w : Int32) : Int32 × ST := if 1 ≤ w ∧ w ≤ 1000 then (nI (h + w.toNatClampNeg), psI V gw gi dN mN gk S h w.toNatClampNeg) else (-1, S)
theorem rngW {w : Int32} {lo : Nat} (k : Nat) (hk : k < 2 ^ 30) (h : nI lo ≤ w ∧ w ≤ nI k) (hl : lo < 2 ^ 30) : ∃ n : Nat, n ≤ k ∧ lo ≤ n ∧ w = nI n := by
  have h1 := h.1
  have h2 := h.2
  simp only [i_le] at h1 h2
  rw [nI_toInt (by omega)] at h1 h2
  obtain ⟨n, hn, hw⟩ : ∃ n : Nat, n < k + 1 ∧ w = nI n := rng (by omega) ⟨by simp only [i_le]; have : (0 : Int32).toInt = 0 := rfl; omega, by simp only [i_lt]; rw [nI_toInt (by omega)]; omega⟩
  rw [hw, nI_toInt (by omega)] at h1
  exact ⟨n, by omega, by omega, hw⟩
theorem Dz.tr {V V1 V2 : VT} (h1 : Dz V V1) (h2 : Dz V1 V2) : Dz V V2 := fun o h q r => (h2 o h q r).trans (h1 o h q r)
set_option maxRecDepth 100000 in
theorem sm_hours (hM : MS σ m) {cN dN mN gk : Nat} (hP : PL V cN dN mN gk) {gw : Option GWt} {gi : Option GIt} (hW : LnW V gw) (hI : LnI V gi) {h : Nat} (hh : V 33 80 = nI h) (h31 : h < 2 ^ 30) (hmn : Mn (V 33) cN mN) (w : Int32) : Sp G mX10_hours 6 [.ref m, .int w] (sv σ m V U) (QA σ m V (aHours V gw gi dN mN gk h (V 33) w).1 (aHours V gw gi dN mN gk h (V 33) w).2) := by
  have D := dat dl_X10_hours
  show HT G mX10_hours 0 [some (.ref m), some (.int w), none] [] (sv σ m V U) 6 _
  have hPt : PL (tz V) cN dN mN gk := hP.dz (tz_dz V)
  have hd10 : dN ≤ 10 := hP.2.1.2
  have hc8 : cN ≤ 8 := hP.1.2
  have hm6 : mN ≤ 6 := hP.2.2.1.2
  refine ht_aload_n (D 0 rfl) rfl rfl ?_
  refine ht_iconst (v := 0) (D 1 rfl) (by decide) ?_
  refine pm_X10_135 hM rfl (D 2 rfl) ?_
  show HT _ _ _ _ _ (sv σ m (tz V) U) _ _
  refine ht_iload_n (D 3 rfl) rfl rfl ?_
  refine ht_iconst (v := 1) (D 4 rfl) (by decide) ?_
  refine ht_sipush (v := 1000) (D 5 rfl) (by decide) ?_
  refine kSX10_within (As := [_, _, _]) cl_X10_263 (D 6 rfl) (sm_within _ _ _) rfl (Nat.le_of_ble_eq_true rfl) rfl (Nat.le_of_ble_eq_true rfl) (by omega) ?_
  rintro rv σ1 ⟨rfl, rfl⟩
  refine ht_if_ne (tgt := 18) (D 7 rfl) (by decide) (fun hb13 => ?_) (fun hb13 => ?_)
  · skip
    have hw9 := b01_ne hb13
    obtain ⟨n, hn1, hn2, rfl⟩ := rngW (lo := 1) 1000 (by decide) hw9 (by decide)
    have hnc : (nI n).toNatClampNeg = n := nI_clamp (by omega)
    refine ht_iconst (v := 0) (D 10 rfl) (by decide) ?_
    refine ht_istore_n (D 11 rfl) rfl (by decide) rfl ?_
    have loop : ∀ (r j : Nat) (V1 : VT), j ≤ n → n - j = r → Dy (tz V) V1 → V1 33 = psI V gw gi dN mN gk (V 33) h j → HT G mX10_hours 20 [some (.ref m), some (.int (nI n)), some (.int (nI j))] [] (sv σ m V1 U) 6 (QA σ m V (nI (h + n)) (psI V gw gi dN mN gk (V 33) h n)) := by
      intro r
      induction r using Nat.strongRecOn with
      | _ r ih =>
        intro j V1 hj hr hdy h33
        refine ht_iload_n (D 12 rfl) rfl rfl ?_
        refine ht_iload_n (D 13 rfl) rfl rfl ?_
        refine ht_icmp_ge (tgt := 36) (D 14 rfl) (by decide) (fun hb22 => ?_) (fun hb22 => ?_)
        · skip
          have hjk : j = n := by have h3 := (nI_leI (a := n) (b := j) (by omega) (by omega)).mp hb22; omega
          subst hjk
          refine ht_aload_n (D 20 rfl) rfl rfl ?_
          refine gf_X10_108 rfl (D 21 rfl) hM.k0 hM.q33 ?_
          refine ht_bipush (v := 80) (D 22 rfl) (by decide) ?_
          refine hm_ild (o := 33) (n := 80) (by decide) (D 23 rfl) hM.k33 hM.n33 (by first | rfl | exact nI_add _ _ | assumption) (by omega) (by decide) ?_
          refine ht_iret (D 24 rfl) rfl rfl ?_
          exact ⟨by rw [h33, psI_80 V gw gi dN mN gk hh], V1, U, rfl, hdy.pz, h33⟩
        · skip
          have hjk : j < n := by have h3 := mt (nI_leI (a := n) (b := j) (by omega) (by omega)).mpr hb22; omega
          refine ht_aload_n (D 15 rfl) rfl rfl ?_
          refine ht_iconst (v := 0) (D 16 rfl) (by decide) ?_
          refine kVX10_passes (As := [_]) cl_X10_393 (D 17 rfl) (sm_passes hM (hPt.dy hdy) ((hW.dz (tz_dz V)).dy hdy) ((hI.dz (tz_dz V)).dy hdy) (h := h + j) (by rw [h33]; exact psI_80 V gw gi dN mN gk hh j) (by omega) (by rw [h33]; exact psI_mn hP gw gi h hmn j) 0) hM.k0 rfl (Nat.le_of_ble_eq_true rfl) rfl (Nat.le_of_ble_eq_true rfl) (by omega) ?_
          rintro rv σ1 ⟨rfl, V2, rfl, hd2, h332⟩
          rw [h33, psS_dz (((tz_dz V) : Dz V (tz V)).tr hdy.dz)] at h332
          have h333 : V2 33 = psI V gw gi dN mN gk (V 33) h (j + 1) := h332
          have hdy2 := hdy.tr hd2
          refine ht_iinc (v := nI (j + 1)) (D 18 rfl) rfl (nI_i1 _) (by decide) rfl ?_
          refine ht_goto (tgt := 20) (D 19 rfl) (by decide) ?_
          exact ih (n - (j + 1)) (by omega) (j + 1) V2 (by omega) rfl hdy2 h333
    rw [show aHours V gw gi dN mN gk h (V 33) (nI n) = (nI (h + n), psI V gw gi dN mN gk (V 33) h n) by unfold aHours; rw [if_pos hw9, hnc]]
    exact ht_cast (loop n 0 (tz V) (by omega) (by omega) (Dy.rf _) (tz_o V (by decide))) rfl rfl rfl
  · skip
    have hng : ¬ (1 ≤ w ∧ w ≤ 1000) := b01_eq hb13
    refine ht_iconst (v := -1) (D 8 rfl) (by decide) ?_
    refine ht_iret (D 9 rfl) rfl rfl ?_
    rw [show aHours V gw gi dN mN gk h (V 33) w = (-1, V 33) from if_neg hng]
    exact QA_t rfl
end M8
