/-! ===== the class: a new name; names on both sides ===== -/
section Q11
variable {G : GG} {σ : Hp} {ad : Nat → Nat} {aA aS aV r sA n p b e k : Nat} {T : ST}
def nwJ (σ : Hp) (r : Nat) (w : Int64) (cN j : Nat) : Prop := (∀ i, i < cN → ¬ zJ σ (r + 12) i = w) ∧ ∀ i, i < j → ¬ zJ σ (r + 13) i = w
set_option maxRecDepth 100000 in
theorem sc_isNewName (hB : BK G ad aA aS aV) (hH : CL ad T n p b e k r sA σ) {cN mN : Nat} (hc : zI σ (r + 1) 0 = nI cN) (hc8 : cN ≤ 8) (hm : zI σ (r + 1) 2 = nI mN) (hm6 : mN ≤ 6) : Sp G mX5_isNewName 1 [.ref r] σ (fun rv σ' => (¬ nmT T b e k ∧ rv = some (.int 0) ∧ σ' = wI σ r 10 (1 + 16 * nI b)) ∨ (nmT T b e k ∧ ¬ nwJ σ r (zJ σ (r + 14) 7) cN mN ∧ rv = some (.int 0) ∧ σ' = wI σ r 10 (3 + 16 * nI b)) ∨ (nmT T b e k ∧ nwJ σ r (zJ σ (r + 14) 7) cN mN ∧ rv = some (.int 1) ∧ σ' = σ)) := by
  have D := dat dl_X5_isNewName
  have loop : nmT T b e k → ∀ m j : Nat, j ≤ mN → mN - j = m → ∀ x : Int32, (x = 0 ∧ nwJ σ r (zJ σ (r + 14) 7) cN j) ∨ (x = 1 ∧ ¬ nwJ σ r (zJ σ (r + 14) 7) cN j) → HT G mX5_isNewName 39 [some (.ref r), some (.int x), some (.int (nI j))] [] σ 1 (fun rv σ' => (¬ nmT T b e k ∧ rv = some (.int 0) ∧ σ' = wI σ r 10 (1 + 16 * nI b)) ∨ (nmT T b e k ∧ ¬ nwJ σ r (zJ σ (r + 14) 7) cN mN ∧ rv = some (.int 0) ∧ σ' = wI σ r 10 (3 + 16 * nI b)) ∨ (nmT T b e k ∧ nwJ σ r (zJ σ (r + 14) 7) cN mN ∧ rv = some (.int 1) ∧ σ' = σ)) := by
    intro hnm m
    induction m using Nat.strongRecOn with
    | _ m ih =>
      intro j hj hr x hxx
      rcases hxx with ⟨rfl, hx⟩ | ⟨rfl, hx⟩
      · skip
        refine ht_iload_n (D 21 rfl) rfl rfl ?_
        refine ht_aload_n (D 22 rfl) rfl rfl ?_
        refine gf_X5_12 rfl (D 23 rfl) hH.1.rk hH.1.q0 ?_
        refine gf_X5_205 rfl (D 24 rfl) hH.1.lk ?_
        rw [hm]
        refine ht_icmp_ge (tgt := 83) (D 25 rfl) (by decide) (fun hb47 => ?_) (fun hb47 => ?_)
        · skip
          have hjk : j = mN := by have h3 := (nI_leI (a := mN) (b := j) (by omega) (by omega)).mp hb47; omega
          subst hjk
          refine ht_iload_n (D 43 rfl) rfl rfl ?_
          refine ht_if_eq (tgt := 95) (D 44 rfl) (by decide) (fun hb84 => ?_) (fun hb84 => absurd (by decide) hb84)
          refine ht_iconst (v := 1) (D 49 rfl) (by decide) ?_
          refine ht_goto (tgt := 100) (D 50 rfl) (by decide) ?_
          refine ht_iret (D 52 rfl) rfl rfl ?_
          exact Or.inr (Or.inr ⟨hnm, hx, rfl, rfl⟩)
        · skip
          have hjk : j < mN := by have h3 := mt (nI_leI (a := mN) (b := j) (by omega) (by omega)).mpr hb47; omega
          refine ht_iload_n (D 26 rfl) rfl rfl ?_
          refine ht_if_ne (tgt := 71) (D 27 rfl) (by decide) (fun hb51 => absurd (by decide) hb51) (fun hb51 => ?_)
          refine ht_aload_n (D 28 rfl) rfl rfl ?_
          refine gf_X5_22 rfl (D 29 rfl) hH.1.rk hH.1.q3 ?_
          refine ht_iload_n (D 30 rfl) rfl rfl ?_
          refine ht_lld (n := j) (D 31 rfl) hH.1.mk hH.1.mn (by first | rfl | exact nI_add _ _ | assumption) (by omega) (by first | decide | omega) ?_
          refine ht_aload_n (D 32 rfl) rfl rfl ?_
          refine gf_X5_30 rfl (D 33 rfl) hH.1.rk hH.1.q1 ?_
          refine gf_X5_160 rfl (D 34 rfl) hH.1.tk ?_
          refine ht_lcmp (D 35 rfl) ?_
          refine ht_if_ne (tgt := 75) (D 36 rfl) (by decide) (fun hb68 => ?_) (fun hb68 => ?_)
          · skip
            have hne : ¬ zJ σ (r + 13) j = zJ σ (r + 14) 7 := fun q => hb68 ((lg_cmp_eq _ _).mpr q)
            refine ht_iconst (v := 0) (D 39 rfl) (by decide) ?_
            refine ht_istore_n (D 40 rfl) rfl (by decide) rfl ?_
            refine ht_iinc (v := nI (j + 1)) (D 41 rfl) rfl (nI_i1 _) (by decide) rfl ?_
            refine ht_goto (tgt := 39) (D 42 rfl) (by decide) ?_
            first | exact ht_cast (ih (mN - (j + 1)) (by omega) (j + 1) (by omega) rfl 0 (Or.inl ⟨rfl, hx.1, fun i hi => by by_cases q : i = j; rw [q]; exact hne; exact hx.2 i (by omega)⟩)) rfl rfl rfl | exact ht_cast (ih (mN - (j + 1)) (by omega) (j + 1) (by omega) rfl 1 (Or.inr ⟨rfl, fun q => q.2 j (by omega) heq⟩)) rfl rfl rfl
          · skip
            have heq : zJ σ (r + 13) j = zJ σ (r + 14) 7 := (lg_cmp_eq _ _).mp hb68
            refine ht_iconst (v := 1) (D 37 rfl) (by decide) ?_
            refine ht_goto (tgt := 76) (D 38 rfl) (by decide) ?_
            refine ht_istore_n (D 40 rfl) rfl (by decide) rfl ?_
            refine ht_iinc (v := nI (j + 1)) (D 41 rfl) rfl (nI_i1 _) (by decide) rfl ?_
            refine ht_goto (tgt := 39) (D 42 rfl) (by decide) ?_
            first | exact ht_cast (ih (mN - (j + 1)) (by omega) (j + 1) (by omega) rfl 0 (Or.inl ⟨rfl, hx.1, fun i hi => by by_cases q : i = j; rw [q]; exact hne; exact hx.2 i (by omega)⟩)) rfl rfl rfl | exact ht_cast (ih (mN - (j + 1)) (by omega) (j + 1) (by omega) rfl 1 (Or.inr ⟨rfl, fun q => q.2 j (by omega) heq⟩)) rfl rfl rfl
      · skip
        refine ht_iload_n (D 21 rfl) rfl rfl ?_
        refine ht_aload_n (D 22 rfl) rfl rfl ?_
        refine gf_X5_12 rfl (D 23 rfl) hH.1.rk hH.1.q0 ?_
        refine gf_X5_205 rfl (D 24 rfl) hH.1.lk ?_
        rw [hm]
        refine ht_icmp_ge (tgt := 83) (D 25 rfl) (by decide) (fun hb47 => ?_) (fun hb47 => ?_)
        · skip
          have hjk : j = mN := by have h3 := (nI_leI (a := mN) (b := j) (by omega) (by omega)).mp hb47; omega
          subst hjk
          refine ht_iload_n (D 43 rfl) rfl rfl ?_
          refine ht_if_eq (tgt := 95) (D 44 rfl) (by decide) (fun hb84 => absurd hb84 (by decide)) (fun hb84 => ?_)
          refine ht_aload_n (D 45 rfl) rfl rfl ?_
          refine ht_iconst (v := 3) (D 46 rfl) (by decide) ?_
          refine kVX5_wrong (As := [_]) cl_X5_109 (D 47 rfl) (sc_wrongL hH 3) hH.1.rk rfl (Nat.le_of_ble_eq_true rfl) rfl (Nat.le_of_ble_eq_true rfl) (by omega) ?_
          rintro _ _ ⟨rfl, rfl⟩
          refine ht_if_eq (tgt := 99) (D 48 rfl) (by decide) (fun hb92 => ?_) (fun hb92 => absurd (by decide) hb92)
          refine ht_iconst (v := 0) (D 51 rfl) (by decide) ?_
          refine ht_iret (D 52 rfl) rfl rfl ?_
          exact Or.inr (Or.inl ⟨hnm, hx, rfl, rfl⟩)
        · skip
          have hjk : j < mN := by have h3 := mt (nI_leI (a := mN) (b := j) (by omega) (by omega)).mpr hb47; omega
          refine ht_iload_n (D 26 rfl) rfl rfl ?_
          refine ht_if_ne (tgt := 71) (D 27 rfl) (by decide) (fun hb51 => ?_) (fun hb51 => absurd hb51 (by decide))
          refine ht_iconst (v := 1) (D 37 rfl) (by decide) ?_
          refine ht_goto (tgt := 76) (D 38 rfl) (by decide) ?_
          refine ht_istore_n (D 40 rfl) rfl (by decide) rfl ?_
          refine ht_iinc (v := nI (j + 1)) (D 41 rfl) rfl (nI_i1 _) (by decide) rfl ?_
          refine ht_goto (tgt := 39) (D 42 rfl) (by decide) ?_
          exact ht_cast (ih (mN - (j + 1)) (by omega) (j + 1) (by omega) rfl 1 (Or.inr ⟨rfl, fun q => hx ⟨q.1, fun i hi => q.2 i (by omega)⟩⟩)) rfl rfl rfl
  show HT G mX5_isNewName 0 [some (.ref r), none, none] [] σ 1 _
  refine ht_aload_n (D 0 rfl) rfl rfl ?_
  refine gf_X5_30 rfl (D 1 rfl) hH.1.rk hH.1.q1 ?_
  refine kVX7_isName (As := []) cl_X5_229 (D 2 rfl) (sc_isName hB hH) hH.1.tk rfl (Nat.le_of_ble_eq_true rfl) rfl (Nat.le_of_ble_eq_true rfl) (by omega) ?_
  rintro _ _ ⟨⟨rfl, hnm⟩ | ⟨rfl, hnm⟩, h8⟩
  · subst h8
    refine ht_if_ne (tgt := 16) (D 3 rfl) (by decide) (fun hb7 => ?_) (fun hb7 => absurd hb7 (by decide))
    refine ht_aload_n (D 8 rfl) rfl rfl ?_
    refine ht_aload_n (D 9 rfl) rfl rfl ?_
    refine gf_X5_30 rfl (D 10 rfl) hH.1.rk hH.1.q1 ?_
    refine gf_X5_160 rfl (D 11 rfl) hH.1.tk ?_
    refine kVX5_cellNamed (As := [_]) cl_X5_183 (D 12 rfl) (sc_cellNamed hH _ hc hc8) hH.1.rk rfl (Nat.le_of_ble_eq_true rfl) rfl (Nat.le_of_ble_eq_true rfl) (by omega) ?_
    rintro _ _ ⟨⟨j, hj, heq, rfl, hlo⟩ | ⟨hno, rfl⟩, h9⟩
    · subst h9
      refine ht_iconst (v := -1) (D 13 rfl) (by decide) ?_
      refine ht_icmp_eq (tgt := 35) (D 14 rfl) (by decide) (fun hb28 => ?_) (fun hb28 => ?_)
      · skip
        exact absurd hb28 (nI_ge0 (by omega))
      · skip
        refine ht_iconst (v := 1) (D 15 rfl) (by decide) ?_
        refine ht_goto (tgt := 36) (D 16 rfl) (by decide) ?_
        refine ht_istore_n (D 18 rfl) rfl (by decide) rfl ?_
        refine ht_iconst (v := 0) (D 19 rfl) (by decide) ?_
        refine ht_istore_n (D 20 rfl) rfl (by decide) rfl ?_
        exact ht_cast (loop hnm mN 0 (by omega) (by omega) 1 (Or.inr ⟨rfl, fun q => q.1 j hj heq⟩)) rfl rfl rfl
    · subst h9
      refine ht_iconst (v := -1) (D 13 rfl) (by decide) ?_
      refine ht_icmp_eq (tgt := 35) (D 14 rfl) (by decide) (fun hb28 => ?_) (fun hb28 => ?_)
      · skip
        refine ht_iconst (v := 0) (D 17 rfl) (by decide) ?_
        refine ht_istore_n (D 18 rfl) rfl (by decide) rfl ?_
        refine ht_iconst (v := 0) (D 19 rfl) (by decide) ?_
        refine ht_istore_n (D 20 rfl) rfl (by decide) rfl ?_
        exact ht_cast (loop hnm mN 0 (by omega) (by omega) 0 (Or.inl ⟨rfl, hno, fun i hi => absurd hi (by omega)⟩)) rfl rfl rfl
      · skip
        exact absurd rfl hb28
  · subst h8
    refine ht_if_ne (tgt := 16) (D 3 rfl) (by decide) (fun hb7 => absurd (by decide) hb7) (fun hb7 => ?_)
    refine ht_aload_n (D 4 rfl) rfl rfl ?_
    refine ht_iconst (v := 1) (D 5 rfl) (by decide) ?_
    refine kVX5_wrong (As := [_]) cl_X5_109 (D 6 rfl) (sc_wrongL hH 1) hH.1.rk rfl (Nat.le_of_ble_eq_true rfl) rfl (Nat.le_of_ble_eq_true rfl) (by omega) ?_
    rintro _ _ ⟨rfl, rfl⟩
    refine ht_iret (D 7 rfl) rfl rfl ?_
    exact Or.inl ⟨hnm, rfl, rfl⟩
/-- the reference keeps a word where the class has no name -/
theorem kp_nm {ice : Bool} {c : Nat} {V : VT} {U : UT} (h : HD T n ice p b e k c V U) : kpR V U ↔ ¬ nmT T b e k := by
  constructor
  · rintro (q | ⟨i, hi, q⟩) z
    · exact q ((h.k1 (j := 1) (by decide)).mpr z.1)
    · exact z.2 i hi ((h.w (wB i)).mp ⟨(h.k1 (j := 1) (by decide)).mpr z.1, q⟩)
  · intro z
    by_cases hk : V 0 6 = 1
    · by_cases hi : ∃ i, i < 17 ∧ U 0 7 = wB i
      · exact Or.inr hi
      · exact absurd ⟨(h.k1 (j := 1) (by decide)).mp hk, fun i h1 h2 => hi ⟨i, h1, ((h.w (wB i)).mpr h2).2⟩⟩ z
    · exact Or.inl hk
/-- one name at the token on both sides -/
theorem tk_Wq (hT : TK T n p b e k) (hk : k = 1) : Wq (pkA T b (e - b)) (pkD T b (e - b)) := by
  rcases hT.2 with ⟨_, _, z⟩ | ⟨_, _, hr, z⟩ | ⟨_, _, _, hr, z⟩ | ⟨_, _, _, _, z⟩
  · omega
  · exact Wq_t (by omega) (fun i q1 q2 => hr.2.2.1 i q1 (by omega))
  · omega
  · omega
/-- the names told so far, on both sides -/
def NmR (U : UT) (σ : Hp) (r cN mN : Nat) : Prop := (∀ i, i < cN → Wq (U 7 i) (zJ σ (r + 12) i)) ∧ ∀ i, i < mN → Wq (U 8 i) (zJ σ (r + 13) i)
theorem nw_iff {U : UT} {cN mN : Nat} {w x : Int64} (h : NmR U σ r cN mN) (hw : Wq w x) : nwN U w cN mN ↔ nwJ σ r x cN mN := by
  constructor
  · exact fun q => ⟨fun i hi z => q.1 i hi ((Wq_iff (h.1 i hi) hw).mpr z), fun i hi z => q.2 i hi ((Wq_iff (h.2 i hi) hw).mpr z)⟩
  · exact fun q => ⟨fun i hi z => q.1 i hi ((Wq_iff (h.1 i hi) hw).mp z), fun i hi z => q.2 i hi ((Wq_iff (h.2 i hi) hw).mp z)⟩
end Q11
