/-! ===== the reference: its plain answers ===== -/
def tz (V : VT) : VT := up2 V 0 0 0
theorem tz_o (V : VT) {o : Nat} (h : o ≠ 0) : tz V o = V o := up2_o V 0 h
def Dz (V V' : VT) : Prop := ∀ o, 1 ≤ o → ¬ (23 ≤ o ∧ o ≤ 34) → ¬ (37 ≤ o ∧ o ≤ 40) → V' o = V o
theorem Dy.dz {V V' : VT} (h : Dy V V') : Dz V V' := fun o _ q _ => h o (fun r => q ⟨r.1, by omega⟩)
theorem tz_dz (V : VT) : Dz V (tz V) := fun o h _ _ => tz_o V (by omega)
theorem PL.dz {V V' : VT} {cN dN mN gk : Nat} (h : PL V cN dN mN gk) (hd : Dz V V') : PL V' cN dN mN gk := by
  unfold PL
  rw [hd 2 (by decide) (by decide) (by decide), hd 3 (by decide) (by decide) (by decide), hd 4 (by decide) (by decide) (by decide), hd 5 (by decide) (by decide) (by decide), hd 16 (by decide) (by decide) (by decide), hd 10 (by decide) (by decide) (by decide), hd 11 (by decide) (by decide) (by decide)]
  exact h
theorem LnW.dz {V V' : VT} {g : Option GWt} (h : LnW V g) (hd : Dz V V') : LnW V' g := by
  unfold LnW
  rw [hd 18 (by decide) (by decide) (by decide), hd 19 (by decide) (by decide) (by decide), hd 20 (by decide) (by decide) (by decide)]
  exact h
theorem LnI.dz {V V' : VT} {g : Option GIt} (h : LnI V g) (hd : Dz V V') : LnI V' g := by
  unfold LnI
  rw [hd 18 (by decide) (by decide) (by decide), hd 19 (by decide) (by decide) (by decide), hd 20 (by decide) (by decide) (by decide)]
  exact h
theorem gPos_dz {V V' : VT} (hd : Dz V V') : gPos V' = gPos V := by
  funext g h
  unfold gPos
  rw [hd 16 (by decide) (by decide) (by decide), hd 17 (by decide) (by decide) (by decide)]
theorem gN_dz {V V' : VT} (hd : Dz V V') (c : Int32) (h k : Nat) : gN V' c h k = gN V c h k := by
  induction k with
  | zero => rfl
  | succ k ih =>
    unfold gN
    rw [ih, gPos_dz hd]
theorem ld_dz {V V' : VT} (hd : Dz V V') : ld V' = ld V := by
  funext j c
  unfold ld
  rw [hd 10 (by decide) (by decide) (by decide), hd 11 (by decide) (by decide) (by decide)]
/-- what of the view lasts from call to call -/
def Pz (V V' : VT) : Prop := (∀ o, 1 ≤ o → ¬ (23 ≤ o ∧ o ≤ 34) → ¬ (37 ≤ o ∧ o ≤ 40) → V' o = V o) ∧ V' 0 1 = V 0 1 ∧ V' 0 30 = V 0 30
def QA (σ : Hp) (m : Nat) (V : VT) (r : Int32) (S' : ST) : Option Value → Hp → Prop := fun rv σ' => rv = some (.int r) ∧ ∃ (V' : VT) (U' : UT), σ' = sv σ m V' U' ∧ Pz V V' ∧ V' 33 = S'
theorem tz_pz (V : VT) : Pz V (tz V) := ⟨fun o h _ _ => tz_o V (by omega), up2_k V 0 (by decide), up2_k V 0 (by decide)⟩
theorem Pz.sS {V V1 : VT} (h : Pz V V1) (S : ST) : Pz V (sS V1 S) := ⟨fun o h1 h2 h3 => (sS_o V1 S (show o ≠ 33 from fun e => h2 (by omega))).trans (h.1 o h1 h2 h3), by rw [sS_o V1 S (by decide)]; exact h.2⟩
theorem QA_t {σ : Hp} {m : Nat} {V : VT} {U : UT} {x r : Int32} (h : x = r) : QA σ m V r (V 33) (some (.int x)) (sv σ m (tz V) U) := ⟨by rw [h], tz V, U, rfl, tz_pz V, tz_o V (by decide)⟩
theorem QA_s {σ : Hp} {m : Nat} {V : VT} {U : UT} {x r : Int32} {S S' : ST} (h : x = r) (hs : S = S') : QA σ m V r S' (some (.int x)) (sv σ m (sS (tz V) S) U) := ⟨by rw [h], sS (tz V) S, U, rfl, (tz_pz V).sS S, by rw [sS_s, hs]⟩
theorem rng {x : Int32} {n : Nat} (hn : n < 2 ^ 31) (h : 0 ≤ x ∧ x < nI n) : ∃ j : Nat, j < n ∧ x = nI j := by
  rcases pk_ix x hn with h9 | h9 | h9
  · exact absurd h9 (by simp only [i_lt, i_le] at h9 h; omega)
  · exact absurd h9 (by have := h.2; simp only [i_lt, i_le] at h9 this ⊢; omega)
  · exact h9
theorem rngI {j n : Nat} (h : j < n) (hn : n < 2 ^ 31) : 0 ≤ nI j ∧ nI j < nI n := ⟨nI_pos' (by omega), nI_lt h hn⟩
def aHeld (S : ST) (mN : Nat) (x : Int32) : Prop := (0 ≤ x ∧ x < nI mN) ∧ 0 ≤ S (68 + x.toNatClampNeg)
def aDoor (V : VT) (S : ST) (dN : Nat) (x w : Int32) : Int32 := if (0 ≤ x ∧ x < nI dN) ∧ (0 ≤ w ∧ w ≤ 4) then (if w = 0 then S x.toNatClampNeg else if w = 1 then S (10 + x.toNatClampNeg) else if w = 2 then S (20 + x.toNatClampNeg) else if w = 3 then V 10 x.toNatClampNeg else V 11 x.toNatClampNeg) else -1
def aCell (V : VT) (S : ST) (cN mN gk h : Nat) (x w : Int32) : Int32 := if (0 ≤ x ∧ x < nI cN) ∧ (0 ≤ w ∧ w ≤ 3) then (if w < 2 then (if w = 0 then S (60 + x.toNatClampNeg) else mIn S x mN) else if w = 2 then nI (gN V x h gk) else if V 36 x.toNatClampNeg = 0 then -1 else V 36 x.toNatClampNeg) else -1
def aBeside (S : ST) (dN : Nat) (x : Int32) : Int32 := if 0 ≤ x ∧ x < nI dN then S (50 + x.toNatClampNeg) - 1 else -1
section M6
variable {G : GG} {σ : Hp} {m : Nat} {V : VT} {U : UT}
set_option maxRecDepth 100000 in
theorem sm_isHeld (hM : MS σ m) {cN dN mN gk : Nat} (hP : PL V cN dN mN gk) (hmn : Mn (V 33) cN mN) (x : Int32) : Sp G mX10_isHeld 1 [.ref m, .int x] (sv σ m V U) (fun rv σ' => (∃ y : Int32, rv = some (.int y) ∧ ((y = 1 ∧ aHeld (V 33) mN x) ∨ (y = 0 ∧ ¬ aHeld (V 33) mN x))) ∧ σ' = sv σ m V U) := by
  have D := dat dl_X10_isHeld
  show HT G mX10_isHeld 0 [some (.ref m), some (.int x)] [] (sv σ m V U) 1 _
  refine ht_aload_n (D 0 rfl) rfl rfl ?_
  refine ht_iload_n (D 1 rfl) rfl rfl ?_
  refine kVX10_isMan (As := [_]) cl_X10_324 (D 2 rfl) (sm_isMan hM x) hM.k0 rfl (Nat.le_of_ble_eq_true rfl) rfl (Nat.le_of_ble_eq_true rfl) (by omega) ?_
  rintro rv σ1 ⟨rfl, rfl⟩
  refine ht_if_eq (tgt := 24) (D 3 rfl) (by decide) (fun hb5 => ?_) (fun hb5 => ?_)
  · skip
    have hno := b01_eq hb5
    rw [hP.2.2.1.1] at hno
    refine ht_iconst (v := 0) (D 13 rfl) (by decide) ?_
    refine ht_iret (D 14 rfl) rfl rfl ?_
    refine ⟨⟨_, rfl, ?_⟩, rfl⟩
    first | exact Or.inr ⟨rfl, fun q => hno q.1⟩ | exact Or.inr ⟨rfl, fun q => by have q2 := q.2; rw [hjc] at q2; simp only [i_lt, i_le] at q2 hb17; omega⟩ | exact Or.inl ⟨rfl, hq5, by rw [hjc]; simp only [i_lt, i_le] at hb17 ⊢; omega⟩
  · skip
    have hq5 := b01_ne hb5
    rw [hP.2.2.1.1] at hq5
    obtain ⟨j, hj, rfl⟩ := rng (by have := hP.2.2.1.2; omega) hq5
    have hm6 := hP.2.2.1.2
    have hjc : (nI j).toNatClampNeg = j := nI_clamp (by omega)
    refine ht_aload_n (D 4 rfl) rfl rfl ?_
    refine gf_X10_108 rfl (D 5 rfl) hM.k0 hM.q33 ?_
    refine ht_bipush (v := 68) (D 6 rfl) (by decide) ?_
    refine ht_iload_n (D 7 rfl) rfl rfl ?_
    refine ht_iadd (D 8 rfl) ?_
    refine hm_ild (o := 33) (n := (68 + j)) (by decide) (D 9 rfl) hM.k33 hM.n33 (by first | rfl | exact nI_add _ _ | assumption) (by omega) (by decide) ?_
    refine ht_if_lt (tgt := 24) (D 10 rfl) (by decide) (fun hb17 => ?_) (fun hb17 => ?_)
    · skip
      refine ht_iconst (v := 0) (D 13 rfl) (by decide) ?_
      refine ht_iret (D 14 rfl) rfl rfl ?_
      refine ⟨⟨_, rfl, ?_⟩, rfl⟩
      first | exact Or.inr ⟨rfl, fun q => hno q.1⟩ | exact Or.inr ⟨rfl, fun q => by have q2 := q.2; rw [hjc] at q2; simp only [i_lt, i_le] at q2 hb17; omega⟩ | exact Or.inl ⟨rfl, hq5, by rw [hjc]; simp only [i_lt, i_le] at hb17 ⊢; omega⟩
    · skip
      refine ht_iconst (v := 1) (D 11 rfl) (by decide) ?_
      refine ht_goto (tgt := 25) (D 12 rfl) (by decide) ?_
      refine ht_iret (D 14 rfl) rfl rfl ?_
      refine ⟨⟨_, rfl, ?_⟩, rfl⟩
      first | exact Or.inr ⟨rfl, fun q => hno q.1⟩ | exact Or.inr ⟨rfl, fun q => by have q2 := q.2; rw [hjc] at q2; simp only [i_lt, i_le] at q2 hb17; omega⟩ | exact Or.inl ⟨rfl, hq5, by rw [hjc]; simp only [i_lt, i_le] at hb17 ⊢; omega⟩
set_option maxRecDepth 100000 in
theorem sm_isSome (x : Int32) : Sp G mX10_isSome 1 [.int x] (sv σ m V U) (fun rv σ' => rv = some (.int (b01 (1 ≤ x ∧ x ≤ 240))) ∧ σ' = sv σ m V U) := by
  have D := dat dl_X10_isSome
  show HT G mX10_isSome 0 [some (.int x)] [] (sv σ m V U) 1 _
  refine ht_iload_n (D 0 rfl) rfl rfl ?_
  refine ht_iconst (v := 1) (D 1 rfl) (by decide) ?_
  refine ht_sipush (v := 240) (D 2 rfl) (by decide) ?_
  refine kSX10_within (As := [_, _, _]) cl_X10_263 (D 3 rfl) (sm_within _ _ _) rfl (Nat.le_of_ble_eq_true rfl) rfl (Nat.le_of_ble_eq_true rfl) (by omega) ?_
  rintro rv σ1 ⟨rfl, rfl⟩
  refine ht_iret (D 4 rfl) rfl (by unfold b01; split <;> rfl) ?_
  exact ⟨rfl, rfl⟩
set_option maxRecDepth 100000 in
theorem sm_door (hM : MS σ m) {cN dN mN gk : Nat} (hP : PL V cN dN mN gk) (x w : Int32) : Sp G mX10_door 1 [.ref m, .int x, .int w] (sv σ m V U) (QA σ m V (aDoor V (V 33) dN x w) (V 33)) := by
  have D := dat dl_X10_door
  show HT G mX10_door 0 [some (.ref m), some (.int x), some (.int w)] [] (sv σ m V U) 1 _
  have hPt : PL (tz V) cN dN mN gk := hP.dz (tz_dz V)
  have hd10 : dN ≤ 10 := hP.2.1.2
  have hc8 : cN ≤ 8 := hP.1.2
  have hm6 : mN ≤ 6 := hP.2.2.1.2
  refine ht_aload_n (D 0 rfl) rfl rfl ?_
  refine ht_iconst (v := 0) (D 1 rfl) (by decide) ?_
  refine pm_X10_135 hM rfl (D 2 rfl) ?_
  show HT _ _ _ _ _ (sv σ m (tz V) U) _ _
  refine ht_aload_n (D 3 rfl) rfl rfl ?_
  refine ht_iload_n (D 4 rfl) rfl rfl ?_
  refine kVX10_isDoor (As := [_]) cl_X10_337 (D 5 rfl) (sm_isDoor hM x) hM.k0 rfl (Nat.le_of_ble_eq_true rfl) rfl (Nat.le_of_ble_eq_true rfl) (by omega) ?_
  rintro rv σ1 ⟨rfl, rfl⟩
  refine ht_if_eq (tgt := 22) (D 6 rfl) (by decide) (fun hb10 => ?_) (fun hb10 => ?_)
  · skip
    have hno := b01_eq hb10
    rw [hPt.2.1.1] at hno
    refine ht_iconst (v := -1) (D 12 rfl) (by decide) ?_
    refine ht_iret (D 13 rfl) rfl rfl ?_
    first | exact QA_t (by unfold aDoor; rw [if_neg (fun q => hno q.1)]) | exact QA_t (by unfold aDoor; rw [if_neg (fun q => hno2 q.2)])
  · skip
    have hq10 := b01_ne hb10
    rw [hPt.2.1.1] at hq10
    obtain ⟨j, hj, rfl⟩ := rng (by omega) hq10
    have hjc : (nI j).toNatClampNeg = j := nI_clamp (by omega)
    refine ht_iload_n (D 7 rfl) rfl rfl ?_
    refine ht_iconst (v := 0) (D 8 rfl) (by decide) ?_
    refine ht_iconst (v := 4) (D 9 rfl) (by decide) ?_
    refine kSX10_within (As := [_, _, _]) cl_X10_263 (D 10 rfl) (sm_within _ _ _) rfl (Nat.le_of_ble_eq_true rfl) rfl (Nat.le_of_ble_eq_true rfl) (by omega) ?_
    rintro rv σ1 ⟨rfl, rfl⟩
    refine ht_if_ne (tgt := 24) (D 11 rfl) (by decide) (fun hb19 => ?_) (fun hb19 => ?_)
    · skip
      have hw := b01_ne hb19
      refine ht_iload_n (D 14 rfl) rfl rfl ?_
      refine ht_if_ne (tgt := 37) (D 15 rfl) (by decide) (fun hb25 => ?_) (fun hb25 => ?_)
      · skip
        refine ht_iload_n (D 21 rfl) rfl rfl ?_
        refine ht_iconst (v := 1) (D 22 rfl) (by decide) ?_
        refine ht_icmp_ne (tgt := 54) (D 23 rfl) (by decide) (fun hb39 => ?_) (fun hb39 => ?_)
        · skip
          refine ht_iload_n (D 31 rfl) rfl rfl ?_
          refine ht_iconst (v := 2) (D 32 rfl) (by decide) ?_
          refine ht_icmp_ne (tgt := 71) (D 33 rfl) (by decide) (fun hb56 => ?_) (fun hb56 => ?_)
          · skip
            refine ht_iload_n (D 41 rfl) rfl rfl ?_
            refine ht_iconst (v := 3) (D 42 rfl) (by decide) ?_
            refine ht_icmp_ne (tgt := 85) (D 43 rfl) (by decide) (fun hb73 => ?_) (fun hb73 => ?_)
            · skip
              refine ht_aload_n (D 49 rfl) rfl rfl ?_
              refine gf_X10_41 rfl (D 50 rfl) hM.k0 hM.q11 ?_
              refine ht_iload_n (D 51 rfl) rfl rfl ?_
              refine hm_ild (o := 11) (n := j) (by decide) (D 52 rfl) hM.k11 hM.n11 (by first | rfl | exact nI_add _ _ | assumption) (by omega) (by decide) ?_
              refine ht_iret (D 53 rfl) rfl rfl ?_
              exact QA_t (by unfold aDoor; rw [if_pos ⟨hq10, hw⟩, hjc]; simp [*, tz_o V (show (33 : Nat) ≠ 0 by decide), tz_o V (show (10 : Nat) ≠ 0 by decide), tz_o V (show (11 : Nat) ≠ 0 by decide)])
            · skip
              refine ht_aload_n (D 44 rfl) rfl rfl ?_
              refine gf_X10_38 rfl (D 45 rfl) hM.k0 hM.q10 ?_
              refine ht_iload_n (D 46 rfl) rfl rfl ?_
              refine hm_ild (o := 10) (n := j) (by decide) (D 47 rfl) hM.k10 hM.n10 (by first | rfl | exact nI_add _ _ | assumption) (by omega) (by decide) ?_
              refine ht_goto (tgt := 91) (D 48 rfl) (by decide) ?_
              refine ht_iret (D 53 rfl) rfl rfl ?_
              exact QA_t (by unfold aDoor; rw [if_pos ⟨hq10, hw⟩, hjc]; simp [*, tz_o V (show (33 : Nat) ≠ 0 by decide), tz_o V (show (10 : Nat) ≠ 0 by decide), tz_o V (show (11 : Nat) ≠ 0 by decide)])
          · skip
            refine ht_aload_n (D 34 rfl) rfl rfl ?_
            refine gf_X10_108 rfl (D 35 rfl) hM.k0 hM.q33 ?_
            refine ht_bipush (v := 20) (D 36 rfl) (by decide) ?_
            refine ht_iload_n (D 37 rfl) rfl rfl ?_
            refine ht_iadd (D 38 rfl) ?_
            refine hm_ild (o := 33) (n := (20 + j)) (by decide) (D 39 rfl) hM.k33 hM.n33 (by first | rfl | exact nI_add _ _ | assumption) (by omega) (by decide) ?_
            refine ht_goto (tgt := 91) (D 40 rfl) (by decide) ?_
            refine ht_iret (D 53 rfl) rfl rfl ?_
            exact QA_t (by unfold aDoor; rw [if_pos ⟨hq10, hw⟩, hjc]; simp [*, tz_o V (show (33 : Nat) ≠ 0 by decide), tz_o V (show (10 : Nat) ≠ 0 by decide), tz_o V (show (11 : Nat) ≠ 0 by decide)])
        · skip
          refine ht_aload_n (D 24 rfl) rfl rfl ?_
          refine gf_X10_108 rfl (D 25 rfl) hM.k0 hM.q33 ?_
          refine ht_bipush (v := 10) (D 26 rfl) (by decide) ?_
          refine ht_iload_n (D 27 rfl) rfl rfl ?_
          refine ht_iadd (D 28 rfl) ?_
          refine hm_ild (o := 33) (n := (10 + j)) (by decide) (D 29 rfl) hM.k33 hM.n33 (by first | rfl | exact nI_add _ _ | assumption) (by omega) (by decide) ?_
          refine ht_goto (tgt := 91) (D 30 rfl) (by decide) ?_
          refine ht_iret (D 53 rfl) rfl rfl ?_
          exact QA_t (by unfold aDoor; rw [if_pos ⟨hq10, hw⟩, hjc]; simp [*, tz_o V (show (33 : Nat) ≠ 0 by decide), tz_o V (show (10 : Nat) ≠ 0 by decide), tz_o V (show (11 : Nat) ≠ 0 by decide)])
      · skip
        refine ht_aload_n (D 16 rfl) rfl rfl ?_
        refine gf_X10_108 rfl (D 17 rfl) hM.k0 hM.q33 ?_
        refine ht_iload_n (D 18 rfl) rfl rfl ?_
        refine hm_ild (o := 33) (n := j) (by decide) (D 19 rfl) hM.k33 hM.n33 (by first | rfl | exact nI_add _ _ | assumption) (by omega) (by decide) ?_
        refine ht_goto (tgt := 91) (D 20 rfl) (by decide) ?_
        refine ht_iret (D 53 rfl) rfl rfl ?_
        exact QA_t (by unfold aDoor; rw [if_pos ⟨hq10, hw⟩, hjc]; simp [*, tz_o V (show (33 : Nat) ≠ 0 by decide), tz_o V (show (10 : Nat) ≠ 0 by decide), tz_o V (show (11 : Nat) ≠ 0 by decide)])
    · skip
      have hno2 := b01_eq hb19
      refine ht_iconst (v := -1) (D 12 rfl) (by decide) ?_
      refine ht_iret (D 13 rfl) rfl rfl ?_
      first | exact QA_t (by unfold aDoor; rw [if_neg (fun q => hno q.1)]) | exact QA_t (by unfold aDoor; rw [if_neg (fun q => hno2 q.2)])
set_option maxRecDepth 100000 in
theorem sm_cell (hM : MS σ m) {cN dN mN gk : Nat} (hP : PL V cN dN mN gk) {h : Nat} (hh : V 33 80 = nI h) (h31 : h < 2 ^ 31) (x w : Int32) : Sp G mX10_cell 1 [.ref m, .int x, .int w] (sv σ m V U) (QA σ m V (aCell V (V 33) cN mN gk h x w) (V 33)) := by
  have D := dat dl_X10_cell
  show HT G mX10_cell 0 [some (.ref m), some (.int x), some (.int w)] [] (sv σ m V U) 1 _
  have hPt : PL (tz V) cN dN mN gk := hP.dz (tz_dz V)
  have hd10 : dN ≤ 10 := hP.2.1.2
  have hc8 : cN ≤ 8 := hP.1.2
  have hm6 : mN ≤ 6 := hP.2.2.1.2
  refine ht_aload_n (D 0 rfl) rfl rfl ?_
  refine ht_iconst (v := 0) (D 1 rfl) (by decide) ?_
  refine pm_X10_135 hM rfl (D 2 rfl) ?_
  show HT _ _ _ _ _ (sv σ m (tz V) U) _ _
  refine ht_aload_n (D 3 rfl) rfl rfl ?_
  refine ht_iload_n (D 4 rfl) rfl rfl ?_
  refine kVX10_isCell (As := [_]) cl_X10_327 (D 5 rfl) (sm_isCell hM x) hM.k0 rfl (Nat.le_of_ble_eq_true rfl) rfl (Nat.le_of_ble_eq_true rfl) (by omega) ?_
  rintro rv σ1 ⟨rfl, rfl⟩
  refine ht_if_eq (tgt := 22) (D 6 rfl) (by decide) (fun hb10 => ?_) (fun hb10 => ?_)
  · skip
    have hno := b01_eq hb10
    rw [hPt.1.1] at hno
    refine ht_iconst (v := -1) (D 12 rfl) (by decide) ?_
    refine ht_iret (D 13 rfl) rfl rfl ?_
    first | exact QA_t (by unfold aCell; rw [if_neg (fun q => hno q.1)]) | exact QA_t (by unfold aCell; rw [if_neg (fun q => hno2 q.2)])
  · skip
    have hq10 := b01_ne hb10
    rw [hPt.1.1] at hq10
    obtain ⟨j, hj, rfl⟩ := rng (by omega) hq10
    have hjc : (nI j).toNatClampNeg = j := nI_clamp (by omega)
    refine ht_iload_n (D 7 rfl) rfl rfl ?_
    refine ht_iconst (v := 0) (D 8 rfl) (by decide) ?_
    refine ht_iconst (v := 3) (D 9 rfl) (by decide) ?_
    refine kSX10_within (As := [_, _, _]) cl_X10_263 (D 10 rfl) (sm_within _ _ _) rfl (Nat.le_of_ble_eq_true rfl) rfl (Nat.le_of_ble_eq_true rfl) (by omega) ?_
    rintro rv σ1 ⟨rfl, rfl⟩
    refine ht_if_ne (tgt := 24) (D 11 rfl) (by decide) (fun hb19 => ?_) (fun hb19 => ?_)
    · skip
      have hw := b01_ne hb19
      refine ht_iload_n (D 14 rfl) rfl rfl ?_
      refine ht_iconst (v := 2) (D 15 rfl) (by decide) ?_
      refine ht_icmp_ge (tgt := 51) (D 16 rfl) (by decide) (fun hb26 => ?_) (fun hb26 => ?_)
      · skip
        have hw2 : ¬ w < 2 := by simp only [i_lt, i_le] at hb26 ⊢; omega
        refine ht_iload_n (D 30 rfl) rfl rfl ?_
        refine ht_iconst (v := 2) (D 31 rfl) (by decide) ?_
        refine ht_icmp_ne (tgt := 71) (D 32 rfl) (by decide) (fun hb53 => ?_) (fun hb53 => ?_)
        · skip
          refine ht_aload_n (D 41 rfl) rfl rfl ?_
          refine gf_X10_117 rfl (D 42 rfl) hM.k0 hM.q36 ?_
          refine ht_iload_n (D 43 rfl) rfl rfl ?_
          refine hm_ild (o := 36) (n := j) (by decide) (D 44 rfl) hM.k36 hM.n36 (by first | rfl | exact nI_add _ _ | assumption) (by omega) (by decide) ?_
          refine ht_if_ne (tgt := 84) (D 45 rfl) (by decide) (fun hb77 => ?_) (fun hb77 => ?_)
          · skip
            refine ht_aload_n (D 48 rfl) rfl rfl ?_
            refine gf_X10_117 rfl (D 49 rfl) hM.k0 hM.q36 ?_
            refine ht_iload_n (D 50 rfl) rfl rfl ?_
            refine hm_ild (o := 36) (n := j) (by decide) (D 51 rfl) hM.k36 hM.n36 (by first | rfl | exact nI_add _ _ | assumption) (by omega) (by decide) ?_
            refine ht_iret (D 52 rfl) rfl rfl ?_
            exact QA_t (by unfold aCell; rw [if_pos ⟨hq10, hw⟩, hjc]; first | (simp_all [tz_o V (show (33 : Nat) ≠ 0 by decide), tz_o V (show (36 : Nat) ≠ 0 by decide), gN_dz (tz_dz V)]; done) | (simp_all [tz_o V (show (33 : Nat) ≠ 0 by decide), tz_o V (show (36 : Nat) ≠ 0 by decide), gN_dz (tz_dz V)]; intro q9; exfalso; simp only [i_lt, i_le] at q9 hb26; omega))
          · skip
            refine ht_iconst (v := -1) (D 46 rfl) (by decide) ?_
            refine ht_goto (tgt := 90) (D 47 rfl) (by decide) ?_
            refine ht_iret (D 52 rfl) rfl rfl ?_
            exact QA_t (by unfold aCell; rw [if_pos ⟨hq10, hw⟩, hjc]; first | (simp_all [tz_o V (show (33 : Nat) ≠ 0 by decide), tz_o V (show (36 : Nat) ≠ 0 by decide), gN_dz (tz_dz V)]; done) | (simp_all [tz_o V (show (33 : Nat) ≠ 0 by decide), tz_o V (show (36 : Nat) ≠ 0 by decide), gN_dz (tz_dz V)]; intro q9; exfalso; simp only [i_lt, i_le] at q9 hb26; omega))
        · skip
          refine ht_aload_n (D 33 rfl) rfl rfl ?_
          refine ht_iload_n (D 34 rfl) rfl rfl ?_
          refine ht_aload_n (D 35 rfl) rfl rfl ?_
          refine gf_X10_108 rfl (D 36 rfl) hM.k0 hM.q33 ?_
          refine ht_bipush (v := 80) (D 37 rfl) (by decide) ?_
          refine hm_ild (o := 33) (n := 80) (by decide) (D 38 rfl) hM.k33 hM.n33 (by first | rfl | exact nI_add _ _ | assumption) (by omega) (by decide) ?_
          rw [show tz V 33 80 = nI h by rw [tz_o V (by decide)]; exact hh]
          refine kVX10_guardsIn (As := [_, _]) cl_X10_333 (D 39 rfl) (sm_guardsIn hM hPt.2.2.2.1.1 hPt.2.2.2.1.2 hPt.2.2.2.2.1 h31 _) hM.k0 rfl (Nat.le_of_ble_eq_true rfl) rfl (Nat.le_of_ble_eq_true rfl) (by omega) ?_
          rintro rv σ1 ⟨rfl, rfl⟩
          refine ht_goto (tgt := 90) (D 40 rfl) (by decide) ?_
          refine ht_iret (D 52 rfl) rfl rfl ?_
          exact QA_t (by unfold aCell; rw [if_pos ⟨hq10, hw⟩, hjc]; first | (simp_all [tz_o V (show (33 : Nat) ≠ 0 by decide), tz_o V (show (36 : Nat) ≠ 0 by decide), gN_dz (tz_dz V)]; done) | (simp_all [tz_o V (show (33 : Nat) ≠ 0 by decide), tz_o V (show (36 : Nat) ≠ 0 by decide), gN_dz (tz_dz V)]; intro q9; exfalso; simp only [i_lt, i_le] at q9 hb26; omega))
      · skip
        have hw2 : w < 2 := by simp only [i_lt, i_le] at hb26 ⊢; omega
        refine ht_iload_n (D 17 rfl) rfl rfl ?_
        refine ht_if_ne (tgt := 45) (D 18 rfl) (by decide) (fun hb30 => ?_) (fun hb30 => ?_)
        · skip
          refine ht_aload_n (D 26 rfl) rfl rfl ?_
          refine ht_iload_n (D 27 rfl) rfl rfl ?_
          refine kVX10_menIn (As := [_]) cl_X10_330 (D 28 rfl) (sm_menIn hM hPt.2.2.1.1 hm6 _) hM.k0 rfl (Nat.le_of_ble_eq_true rfl) rfl (Nat.le_of_ble_eq_true rfl) (by omega) ?_
          rintro rv σ1 ⟨rfl, rfl⟩
          refine ht_iret (D 29 rfl) rfl rfl ?_
          exact QA_t (by unfold aCell; rw [if_pos ⟨hq10, hw⟩, hjc]; first | (simp_all [tz_o V (show (33 : Nat) ≠ 0 by decide), tz_o V (show (36 : Nat) ≠ 0 by decide), gN_dz (tz_dz V)]; done) | (simp_all [tz_o V (show (33 : Nat) ≠ 0 by decide), tz_o V (show (36 : Nat) ≠ 0 by decide), gN_dz (tz_dz V)]; intro q9; exfalso; simp only [i_lt, i_le] at q9 hb26; omega))
        · skip
          refine ht_aload_n (D 19 rfl) rfl rfl ?_
          refine gf_X10_108 rfl (D 20 rfl) hM.k0 hM.q33 ?_
          refine ht_bipush (v := 60) (D 21 rfl) (by decide) ?_
          refine ht_iload_n (D 22 rfl) rfl rfl ?_
          refine ht_iadd (D 23 rfl) ?_
          refine hm_ild (o := 33) (n := (60 + j)) (by decide) (D 24 rfl) hM.k33 hM.n33 (by first | rfl | exact nI_add _ _ | assumption) (by omega) (by decide) ?_
          refine ht_goto (tgt := 50) (D 25 rfl) (by decide) ?_
          refine ht_iret (D 29 rfl) rfl rfl ?_
          exact QA_t (by unfold aCell; rw [if_pos ⟨hq10, hw⟩, hjc]; first | (simp_all [tz_o V (show (33 : Nat) ≠ 0 by decide), tz_o V (show (36 : Nat) ≠ 0 by decide), gN_dz (tz_dz V)]; done) | (simp_all [tz_o V (show (33 : Nat) ≠ 0 by decide), tz_o V (show (36 : Nat) ≠ 0 by decide), gN_dz (tz_dz V)]; intro q9; exfalso; simp only [i_lt, i_le] at q9 hb26; omega))
    · skip
      have hno2 := b01_eq hb19
      refine ht_iconst (v := -1) (D 12 rfl) (by decide) ?_
      refine ht_iret (D 13 rfl) rfl rfl ?_
      first | exact QA_t (by unfold aCell; rw [if_neg (fun q => hno q.1)]) | exact QA_t (by unfold aCell; rw [if_neg (fun q => hno2 q.2)])
set_option maxRecDepth 100000 in
theorem sm_beside (hM : MS σ m) {cN dN mN gk : Nat} (hP : PL V cN dN mN gk) (x : Int32) : Sp G mX10_beside 1 [.ref m, .int x] (sv σ m V U) (QA σ m V (aBeside (V 33) dN x) (V 33)) := by
  have D := dat dl_X10_beside
  show HT G mX10_beside 0 [some (.ref m), some (.int x)] [] (sv σ m V U) 1 _
  have hPt : PL (tz V) cN dN mN gk := hP.dz (tz_dz V)
  have hd10 : dN ≤ 10 := hP.2.1.2
  have hc8 : cN ≤ 8 := hP.1.2
  have hm6 : mN ≤ 6 := hP.2.2.1.2
  refine ht_aload_n (D 0 rfl) rfl rfl ?_
  refine ht_iconst (v := 0) (D 1 rfl) (by decide) ?_
  refine pm_X10_135 hM rfl (D 2 rfl) ?_
  show HT _ _ _ _ _ (sv σ m (tz V) U) _ _
  refine ht_aload_n (D 3 rfl) rfl rfl ?_
  refine ht_iload_n (D 4 rfl) rfl rfl ?_
  refine kVX10_isDoor (As := [_]) cl_X10_337 (D 5 rfl) (sm_isDoor hM x) hM.k0 rfl (Nat.le_of_ble_eq_true rfl) rfl (Nat.le_of_ble_eq_true rfl) (by omega) ?_
  rintro rv σ1 ⟨rfl, rfl⟩
  refine ht_if_eq (tgt := 27) (D 6 rfl) (by decide) (fun hb10 => ?_) (fun hb10 => ?_)
  · skip
    have hno := b01_eq hb10
    rw [hPt.2.1.1] at hno
    refine ht_iconst (v := -1) (D 16 rfl) (by decide) ?_
    refine ht_iret (D 17 rfl) rfl rfl ?_
    first | exact QA_t (by unfold aBeside; rw [if_neg hno]) | exact QA_t (by unfold aBeside; rw [if_pos hq10, hjc, tz_o V (by decide)])
  · skip
    have hq10 := b01_ne hb10
    rw [hPt.2.1.1] at hq10
    obtain ⟨j, hj, rfl⟩ := rng (by omega) hq10
    have hjc : (nI j).toNatClampNeg = j := nI_clamp (by omega)
    refine ht_aload_n (D 7 rfl) rfl rfl ?_
    refine gf_X10_108 rfl (D 8 rfl) hM.k0 hM.q33 ?_
    refine ht_bipush (v := 50) (D 9 rfl) (by decide) ?_
    refine ht_iload_n (D 10 rfl) rfl rfl ?_
    refine ht_iadd (D 11 rfl) ?_
    refine hm_ild (o := 33) (n := (50 + j)) (by decide) (D 12 rfl) hM.k33 hM.n33 (by first | rfl | exact nI_add _ _ | assumption) (by omega) (by decide) ?_
    refine ht_iconst (v := 1) (D 13 rfl) (by decide) ?_
    refine ht_isub (D 14 rfl) ?_
    refine ht_goto (tgt := 28) (D 15 rfl) (by decide) ?_
    refine ht_iret (D 17 rfl) rfl rfl ?_
    first | exact QA_t (by unfold aBeside; rw [if_neg hno]) | exact QA_t (by unfold aBeside; rw [if_pos hq10, hjc, tz_o V (by decide)])
def aPour (S : ST) (dN : Nat) (x w : Int32) : Int32 × ST := if (0 ≤ x ∧ x < nI dN) ∧ (0 ≤ w ∧ w ≤ 99) then (pr S x.toNatClampNeg w, prS S x.toNatClampNeg w) else (-1, S)
def aStove (S : ST) (cN : Nat) (x w : Int32) : Int32 × ST := if (0 ≤ x ∧ x < nI cN) ∧ (0 ≤ w ∧ w ≤ 9) then (1, va_up S (60 + x.toNatClampNeg) w) else (0, S)
noncomputable def aPardon (S : ST) (mN : Nat) (x : Int32) : Int32 × ST := (Classical.propDecidable (aHeld S mN x)).casesOn (fun _ => (0, S)) (fun _ => (1, va_up S (68 + x.toNatClampNeg) (-1)))
theorem aPardon_t {S : ST} {mN : Nat} {x : Int32} (h : aHeld S mN x) : aPardon S mN x = (1, va_up S (68 + x.toNatClampNeg) (-1)) := by
  unfold aPardon
  cases Classical.propDecidable (aHeld S mN x) with
  | isTrue _ => rfl
  | isFalse hn => exact absurd h hn
theorem aPardon_f {S : ST} {mN : Nat} {x : Int32} (h : ¬ aHeld S mN x) : aPardon S mN x = (0, S) := by
  unfold aPardon
  cases Classical.propDecidable (aHeld S mN x) with
  | isTrue hy => exact absurd hy h
  | isFalse _ => rfl
def slt (S : ST) (w : Int32) : Nat → Int32
  | 0 => 0
  | k + 1 => slt S w k ||| (if w ≤ S (30 + k) - S k then 1 <<< (nI k &&& 31) else 0)
def aSalted (S : ST) (dN : Nat) (w : Int32) : Int32 := if 1 ≤ w ∧ w ≤ 99 then slt S w dN else -1
def aCount (V : VT) (S : ST) (mN : Nat) (w : Int32) : Int32 := if 0 ≤ w ∧ w ≤ 7 then (if w < 4 then (if w = 0 then V 2 0 else if w = 1 then V 3 0 else if w = 2 then V 4 0 else V 5 0) else if w = 4 then S 80 else if w = 5 then nI (hN S mN) else if w = 6 then V 6 0 else V 0 1) else -1
/-- the salt that a man lays -/
def slS (V : VT) (S : ST) (mN x d : Nat) : ST := va_up (va_up S (74 + x) (S (74 + x) - 1)) (20 + d) (va_up S (74 + x) (S (74 + x) - 1) (20 + d) + 1)
def slT (V : VT) (S : ST) (mN d : Nat) : ST := if S (50 + d) = 0 then va_up S (50 + d) (1 + (mIn S (V 10 d) mN ||| mIn S (V 11 d) mN)) else S
def aSaltOk (V : VT) (S : ST) (dN mN : Nat) (x y : Int32) : Prop := aHeld S mN x ∧ (0 ≤ y ∧ y < nI dN) ∧ ¬ S (74 + x.toNatClampNeg) = 0 ∧ ¬ ld V y.toNatClampNeg (S (68 + x.toNatClampNeg)) = -2
noncomputable def aSalt (V : VT) (S : ST) (dN mN : Nat) (x y : Int32) : Int32 × ST := (Classical.propDecidable (aSaltOk V S dN mN x y)).casesOn (fun _ => (0, S)) (fun _ => (1, slT V (slS V S mN x.toNatClampNeg y.toNatClampNeg) mN y.toNatClampNeg))
theorem aSalt_t {V : VT} {S : ST} {dN mN : Nat} {x y : Int32} (h : aSaltOk V S dN mN x y) : aSalt V S dN mN x y = (1, slT V (slS V S mN x.toNatClampNeg y.toNatClampNeg) mN y.toNatClampNeg) := by
  unfold aSalt
  cases Classical.propDecidable (aSaltOk V S dN mN x y) with
  | isTrue _ => rfl
  | isFalse hn => exact absurd h hn
theorem aSalt_f {V : VT} {S : ST} {dN mN : Nat} {x y : Int32} (h : ¬ aSaltOk V S dN mN x y) : aSalt V S dN mN x y = (0, S) := by
  unfold aSalt
  cases Classical.propDecidable (aSaltOk V S dN mN x y) with
  | isTrue hy => exact absurd hy h
  | isFalse _ => rfl
set_option maxRecDepth 100000 in
theorem sm_pour (hM : MS σ m) {cN dN mN gk : Nat} (hP : PL V cN dN mN gk) (x w : Int32) : Sp G mX10_pour 2 [.ref m, .int x, .int w] (sv σ m V U) (QA σ m V (aPour (V 33) dN x w).1 (aPour (V 33) dN x w).2) := by
  have D := dat dl_X10_pour
  show HT G mX10_pour 0 [some (.ref m), some (.int x), some (.int w)] [] (sv σ m V U) 2 _
  have hPt : PL (tz V) cN dN mN gk := hP.dz (tz_dz V)
  have hd10 : dN ≤ 10 := hP.2.1.2
  have hc8 : cN ≤ 8 := hP.1.2
  have hm6 : mN ≤ 6 := hP.2.2.1.2
  refine ht_aload_n (D 0 rfl) rfl rfl ?_
  refine ht_iconst (v := 0) (D 1 rfl) (by decide) ?_
  refine pm_X10_135 hM rfl (D 2 rfl) ?_
  show HT _ _ _ _ _ (sv σ m (tz V) U) _ _
  refine ht_aload_n (D 3 rfl) rfl rfl ?_
  refine ht_iload_n (D 4 rfl) rfl rfl ?_
  refine kVX10_isDoor (As := [_]) cl_X10_337 (D 5 rfl) (sm_isDoor hM x) hM.k0 rfl (Nat.le_of_ble_eq_true rfl) rfl (Nat.le_of_ble_eq_true rfl) (by omega) ?_
  rintro rv σ1 ⟨rfl, rfl⟩
  refine ht_if_eq (tgt := 32) (D 6 rfl) (by decide) (fun hb10 => ?_) (fun hb10 => ?_)
  · skip
    have hno := b01_eq hb10
    rw [hPt.2.1.1] at hno
    refine ht_iconst (v := -1) (D 17 rfl) (by decide) ?_
    refine ht_iret (D 18 rfl) rfl rfl ?_
    first | (rw [show aPour (V 33) dN x w = (-1, V 33) from if_neg (fun q => hno q.1)]; exact QA_t rfl) | (rw [show aPour (V 33) dN (nI j) w = (-1, V 33) from if_neg (fun q => hno2 q.2)]; exact QA_t rfl) | (rw [show aPour (V 33) dN (nI j) w = (pr (V 33) j w, prS (V 33) j w) by unfold aPour; rw [if_pos ⟨hq10, hw⟩, hjc]]; exact QA_s (by rw [tz_o V (show (33 : Nat) ≠ 0 by decide)]) (by rw [tz_o V (show (33 : Nat) ≠ 0 by decide)]))
  · skip
    have hq10 := b01_ne hb10
    rw [hPt.2.1.1] at hq10
    obtain ⟨j, hj, rfl⟩ := rng (by omega) hq10
    have hjc : (nI j).toNatClampNeg = j := nI_clamp (by omega)
    refine ht_iload_n (D 7 rfl) rfl rfl ?_
    refine ht_iconst (v := 0) (D 8 rfl) (by decide) ?_
    refine ht_bipush (v := 99) (D 9 rfl) (by decide) ?_
    refine kSX10_within (As := [_, _, _]) cl_X10_263 (D 10 rfl) (sm_within _ _ _) rfl (Nat.le_of_ble_eq_true rfl) rfl (Nat.le_of_ble_eq_true rfl) (by omega) ?_
    rintro rv σ1 ⟨rfl, rfl⟩
    refine ht_if_eq (tgt := 32) (D 11 rfl) (by decide) (fun hb20 => ?_) (fun hb20 => ?_)
    · skip
      have hno2 := b01_eq hb20
      refine ht_iconst (v := -1) (D 17 rfl) (by decide) ?_
      refine ht_iret (D 18 rfl) rfl rfl ?_
      first | (rw [show aPour (V 33) dN x w = (-1, V 33) from if_neg (fun q => hno q.1)]; exact QA_t rfl) | (rw [show aPour (V 33) dN (nI j) w = (-1, V 33) from if_neg (fun q => hno2 q.2)]; exact QA_t rfl) | (rw [show aPour (V 33) dN (nI j) w = (pr (V 33) j w, prS (V 33) j w) by unfold aPour; rw [if_pos ⟨hq10, hw⟩, hjc]]; exact QA_s (by rw [tz_o V (show (33 : Nat) ≠ 0 by decide)]) (by rw [tz_o V (show (33 : Nat) ≠ 0 by decide)]))
    · skip
      have hw := b01_ne hb20
      refine ht_aload_n (D 12 rfl) rfl rfl ?_
      refine ht_iload_n (D 13 rfl) rfl rfl ?_
      refine ht_iload_n (D 14 rfl) rfl rfl ?_
      refine kVX10_poursIn (As := [_, _]) cl_X10_355 (D 15 rfl) (sm_poursIn hM (j := j) (by omega) _) hM.k0 rfl (Nat.le_of_ble_eq_true rfl) rfl (Nat.le_of_ble_eq_true rfl) (by omega) ?_
      rintro rv σ1 ⟨rfl, rfl⟩
      refine ht_goto (tgt := 33) (D 16 rfl) (by decide) ?_
      refine ht_iret (D 18 rfl) rfl rfl ?_
      first | (rw [show aPour (V 33) dN x w = (-1, V 33) from if_neg (fun q => hno q.1)]; exact QA_t rfl) | (rw [show aPour (V 33) dN (nI j) w = (-1, V 33) from if_neg (fun q => hno2 q.2)]; exact QA_t rfl) | (rw [show aPour (V 33) dN (nI j) w = (pr (V 33) j w, prS (V 33) j w) by unfold aPour; rw [if_pos ⟨hq10, hw⟩, hjc]]; exact QA_s (by rw [tz_o V (show (33 : Nat) ≠ 0 by decide)]) (by rw [tz_o V (show (33 : Nat) ≠ 0 by decide)]))
set_option maxRecDepth 100000 in
theorem sm_stove (hM : MS σ m) {cN dN mN gk : Nat} (hP : PL V cN dN mN gk) (x w : Int32) : Sp G mX10_stove 1 [.ref m, .int x, .int w] (sv σ m V U) (QA σ m V (aStove (V 33) cN x w).1 (aStove (V 33) cN x w).2) := by
  have D := dat dl_X10_stove
  show HT G mX10_stove 0 [some (.ref m), some (.int x), some (.int w)] [] (sv σ m V U) 1 _
  have hPt : PL (tz V) cN dN mN gk := hP.dz (tz_dz V)
  have hd10 : dN ≤ 10 := hP.2.1.2
  have hc8 : cN ≤ 8 := hP.1.2
  have hm6 : mN ≤ 6 := hP.2.2.1.2
  refine ht_aload_n (D 0 rfl) rfl rfl ?_
  refine ht_iconst (v := 0) (D 1 rfl) (by decide) ?_
  refine pm_X10_135 hM rfl (D 2 rfl) ?_
  show HT _ _ _ _ _ (sv σ m (tz V) U) _ _
  refine ht_aload_n (D 3 rfl) rfl rfl ?_
  refine ht_iload_n (D 4 rfl) rfl rfl ?_
  refine kVX10_isCell (As := [_]) cl_X10_327 (D 5 rfl) (sm_isCell hM x) hM.k0 rfl (Nat.le_of_ble_eq_true rfl) rfl (Nat.le_of_ble_eq_true rfl) (by omega) ?_
  rintro rv σ1 ⟨rfl, rfl⟩
  refine ht_if_eq (tgt := 23) (D 6 rfl) (by decide) (fun hb10 => ?_) (fun hb10 => ?_)
  · skip
    have hno := b01_eq hb10
    rw [hPt.1.1] at hno
    refine ht_iconst (v := 0) (D 12 rfl) (by decide) ?_
    refine ht_iret (D 13 rfl) rfl rfl ?_
    first | (rw [show aStove (V 33) cN x w = (0, V 33) from if_neg (fun q => hno q.1)]; exact QA_t rfl) | (rw [show aStove (V 33) cN (nI j) w = (0, V 33) from if_neg (fun q => hno2 q.2)]; exact QA_t rfl)
  · skip
    have hq10 := b01_ne hb10
    rw [hPt.1.1] at hq10
    obtain ⟨j, hj, rfl⟩ := rng (by omega) hq10
    have hjc : (nI j).toNatClampNeg = j := nI_clamp (by omega)
    refine ht_iload_n (D 7 rfl) rfl rfl ?_
    refine ht_iconst (v := 0) (D 8 rfl) (by decide) ?_
    refine ht_bipush (v := 9) (D 9 rfl) (by decide) ?_
    refine kSX10_within (As := [_, _, _]) cl_X10_263 (D 10 rfl) (sm_within _ _ _) rfl (Nat.le_of_ble_eq_true rfl) rfl (Nat.le_of_ble_eq_true rfl) (by omega) ?_
    rintro rv σ1 ⟨rfl, rfl⟩
    refine ht_if_ne (tgt := 25) (D 11 rfl) (by decide) (fun hb20 => ?_) (fun hb20 => ?_)
    · skip
      have hw := b01_ne hb20
      refine ht_aload_n (D 14 rfl) rfl rfl ?_
      refine gf_X10_108 rfl (D 15 rfl) hM.k0 hM.q33 ?_
      refine ht_bipush (v := 60) (D 16 rfl) (by decide) ?_
      refine ht_iload_n (D 17 rfl) rfl rfl ?_
      refine ht_iadd (D 18 rfl) ?_
      refine ht_iload_n (D 19 rfl) rfl rfl ?_
      refine hm_ist (o := 33) (n := (60 + j)) (by decide) (D 20 rfl) hM.k33 hM.n33 (by first | rfl | exact nI_add _ _ | assumption) (by omega) (by decide) ?_
      refine ht_iconst (v := 1) (D 21 rfl) (by decide) ?_
      refine ht_iret (D 22 rfl) rfl rfl ?_
      rw [show aStove (V 33) cN (nI j) w = (1, va_up (V 33) (60 + j) w) by unfold aStove; rw [if_pos ⟨hq10, hw⟩, hjc], up2_33, tz_o V (show (33 : Nat) ≠ 0 by decide)]
      exact QA_s rfl rfl
    · skip
      have hno2 := b01_eq hb20
      refine ht_iconst (v := 0) (D 12 rfl) (by decide) ?_
      refine ht_iret (D 13 rfl) rfl rfl ?_
      first | (rw [show aStove (V 33) cN x w = (0, V 33) from if_neg (fun q => hno q.1)]; exact QA_t rfl) | (rw [show aStove (V 33) cN (nI j) w = (0, V 33) from if_neg (fun q => hno2 q.2)]; exact QA_t rfl)
set_option maxRecDepth 100000 in
theorem sm_pardon (hM : MS σ m) {cN dN mN gk : Nat} (hP : PL V cN dN mN gk) (hmn : Mn (V 33) cN mN) (x : Int32) : Sp G mX10_pardon 2 [.ref m, .int x] (sv σ m V U) (QA σ m V (aPardon (V 33) mN x).1 (aPardon (V 33) mN x).2) := by
  have D := dat dl_X10_pardon
  show HT G mX10_pardon 0 [some (.ref m), some (.int x)] [] (sv σ m V U) 2 _
  have hPt : PL (tz V) cN dN mN gk := hP.dz (tz_dz V)
  have hd10 : dN ≤ 10 := hP.2.1.2
  have hc8 : cN ≤ 8 := hP.1.2
  have hm6 : mN ≤ 6 := hP.2.2.1.2
  refine ht_aload_n (D 0 rfl) rfl rfl ?_
  refine ht_iconst (v := 0) (D 1 rfl) (by decide) ?_
  refine pm_X10_135 hM rfl (D 2 rfl) ?_
  show HT _ _ _ _ _ (sv σ m (tz V) U) _ _
  refine ht_aload_n (D 3 rfl) rfl rfl ?_
  refine ht_iload_n (D 4 rfl) rfl rfl ?_
  refine kVX10_isHeld (As := [_]) cl_X10_358 (D 5 rfl) (sm_isHeld hM hPt (by rw [tz_o V (show (33 : Nat) ≠ 0 by decide)]; exact hmn) x) hM.k0 rfl (Nat.le_of_ble_eq_true rfl) rfl (Nat.le_of_ble_eq_true rfl) (by omega) ?_
  rintro rv σ1 ⟨⟨yh, rfl, hyh⟩, rfl⟩
  rw [tz_o V (show (33 : Nat) ≠ 0 by decide)] at hyh
  refine ht_if_ne (tgt := 15) (D 6 rfl) (by decide) (fun hb10 => ?_) (fun hb10 => ?_)
  · skip
    have hy : aHeld (V 33) mN x := by
      rcases hyh with h9 | h9
      · exact h9.2
      · exact absurd h9.1 hb10
    obtain ⟨j, hj, hj2⟩ := rng (by omega) hy.1
    refine ht_aload_n (D 9 rfl) rfl rfl ?_
    refine gf_X10_108 rfl (D 10 rfl) hM.k0 hM.q33 ?_
    refine ht_bipush (v := 68) (D 11 rfl) (by decide) ?_
    refine ht_iload_n (D 12 rfl) rfl rfl ?_
    refine ht_iadd (D 13 rfl) ?_
    refine ht_iconst (v := -1) (D 14 rfl) (by decide) ?_
    refine hm_ist (o := 33) (n := 68 + j) (by decide) (D 15 rfl) hM.k33 hM.n33 (by rw [hj2]; exact nI_add 68 j) (by omega) (by decide) ?_
    refine ht_iconst (v := 1) (D 16 rfl) (by decide) ?_
    refine ht_iret (D 17 rfl) rfl rfl ?_
    rw [aPardon_t hy, hj2, nI_clamp (show j < 2 ^ 31 by omega), up2_33, tz_o V (show (33 : Nat) ≠ 0 by decide)]
    exact QA_s rfl rfl
  · skip
    have hn : ¬ aHeld (V 33) mN x := by
      rcases hyh with h9 | h9
      · rw [h9.1] at hb10
        exact absurd hb10 (by decide)
      · exact h9.2
    refine ht_iconst (v := 0) (D 7 rfl) (by decide) ?_
    refine ht_iret (D 8 rfl) rfl rfl ?_
    rw [aPardon_f hn]
    exact QA_t rfl
set_option maxRecDepth 100000 in
theorem sm_salted (hM : MS σ m) {cN dN mN gk : Nat} (hP : PL V cN dN mN gk) (w : Int32) : Sp G mX10_salted 1 [.ref m, .int w] (sv σ m V U) (QA σ m V (aSalted (V 33) dN w) (V 33)) := by
  have D := dat dl_X10_salted
  have hPt : PL (tz V) cN dN mN gk := hP.dz (tz_dz V)
  have hd10 : dN ≤ 10 := hP.2.1.2
  have hc8 : cN ≤ 8 := hP.1.2
  have hm6 : mN ≤ 6 := hP.2.2.1.2
  have loop : (1 ≤ w ∧ w ≤ 99) → ∀ r j : Nat, j ≤ dN → dN - j = r → HT G mX10_salted 21 [some (.ref m), some (.int w), some (.int (slt (V 33) w j)), some (.int (nI j))] [] (sv σ m (tz V) U) 1 (QA σ m V (aSalted (V 33) dN w) (V 33)) := by
    intro hw9 r
    induction r using Nat.strongRecOn with
    | _ r ih =>
      intro j hj hr
      refine ht_iload_n (D 14 rfl) rfl rfl ?_
      refine ht_aload_n (D 15 rfl) rfl rfl ?_
      refine gf_X10_16 rfl (D 16 rfl) hM.k0 hM.q3 ?_
      refine ht_iconst (v := 0) (D 17 rfl) (by decide) ?_
      refine hm_ild (o := 3) (n := 0) (by decide) (D 18 rfl) hM.k3 hM.n3 (by first | rfl | exact nI_add _ _ | assumption) (by omega) (by decide) ?_
      refine ht_icmp_ge (tgt := 67) (D 19 rfl) (by decide) (fun hb28 => ?_) (fun hb28 => ?_)
      · skip
        have hjk : j = dN := by rw [hPt.2.1.1] at hb28; have h9 := (nI_leI (a := dN) (b := j) (by omega) (by omega)).mp hb28; omega
        subst hjk
        refine ht_iload_n (D 43 rfl) rfl rfl ?_
        refine ht_iret (D 44 rfl) rfl rfl ?_
        exact QA_t (by unfold aSalted; rw [if_pos hw9])
      · skip
        have hjk : j < dN := by rw [hPt.2.1.1] at hb28; have h9 := mt (nI_leI (a := dN) (b := j) (by omega) (by omega)).mpr hb28; omega
        refine ht_iload_n (D 20 rfl) rfl rfl ?_
        refine ht_aload_n (D 21 rfl) rfl rfl ?_
        refine gf_X10_108 rfl (D 22 rfl) hM.k0 hM.q33 ?_
        refine ht_bipush (v := 30) (D 23 rfl) (by decide) ?_
        refine ht_iload_n (D 24 rfl) rfl rfl ?_
        refine ht_iadd (D 25 rfl) ?_
        refine hm_ild (o := 33) (n := (30 + j)) (by decide) (D 26 rfl) hM.k33 hM.n33 (by first | rfl | exact nI_add _ _ | assumption) (by omega) (by decide) ?_
        refine ht_aload_n (D 27 rfl) rfl rfl ?_
        refine gf_X10_108 rfl (D 28 rfl) hM.k0 hM.q33 ?_
        refine ht_iload_n (D 29 rfl) rfl rfl ?_
        refine hm_ild (o := 33) (n := j) (by decide) (D 30 rfl) hM.k33 hM.n33 (by first | rfl | exact nI_add _ _ | assumption) (by omega) (by decide) ?_
        refine ht_isub (D 31 rfl) ?_
        refine ht_iload_n (D 32 rfl) rfl rfl ?_
        refine ht_icmp_lt (tgt := 58) (D 33 rfl) (by decide) (fun hb49 => ?_) (fun hb49 => ?_)
        · skip
          rw [tz_o V (show (33 : Nat) ≠ 0 by decide)] at hb49
          refine ht_iconst (v := 0) (D 38 rfl) (by decide) ?_
          refine ht_ior (D 39 rfl) ?_
          refine ht_istore_n (D 40 rfl) rfl (by decide) rfl ?_
          refine ht_iinc (v := nI (j + 1)) (D 41 rfl) rfl (nI_i1 _) (by decide) rfl ?_
          refine ht_goto (tgt := 21) (D 42 rfl) (by decide) ?_
          exact ht_cast (ih (dN - (j + 1)) (by omega) (j + 1) (by omega) rfl) (by simp only [List.set, slt]; first | rw [if_neg (by simp only [i_lt, i_le] at hb49 ⊢; omega)] | rw [if_pos (by simp only [i_lt, i_le] at hb49 ⊢; omega)]) rfl rfl
        · skip
          rw [tz_o V (show (33 : Nat) ≠ 0 by decide)] at hb49
          refine ht_iconst (v := 1) (D 34 rfl) (by decide) ?_
          refine ht_iload_n (D 35 rfl) rfl rfl ?_
          refine ht_ishl (D 36 rfl) ?_
          refine ht_goto (tgt := 59) (D 37 rfl) (by decide) ?_
          refine ht_ior (D 39 rfl) ?_
          refine ht_istore_n (D 40 rfl) rfl (by decide) rfl ?_
          refine ht_iinc (v := nI (j + 1)) (D 41 rfl) rfl (nI_i1 _) (by decide) rfl ?_
          refine ht_goto (tgt := 21) (D 42 rfl) (by decide) ?_
          exact ht_cast (ih (dN - (j + 1)) (by omega) (j + 1) (by omega) rfl) (by simp only [List.set, slt]; first | rw [if_neg (by simp only [i_lt, i_le] at hb49 ⊢; omega)] | rw [if_pos (by simp only [i_lt, i_le] at hb49 ⊢; omega)]) rfl rfl
  show HT G mX10_salted 0 [some (.ref m), some (.int w), none, none] [] (sv σ m V U) 1 _
  refine ht_aload_n (D 0 rfl) rfl rfl ?_
  refine ht_iconst (v := 0) (D 1 rfl) (by decide) ?_
  refine pm_X10_135 hM rfl (D 2 rfl) ?_
  show HT _ _ _ _ _ (sv σ m (tz V) U) _ _
  refine ht_iload_n (D 3 rfl) rfl rfl ?_
  refine ht_iconst (v := 1) (D 4 rfl) (by decide) ?_
  refine ht_bipush (v := 99) (D 5 rfl) (by decide) ?_
  refine kSX10_within (As := [_, _, _]) cl_X10_263 (D 6 rfl) (sm_within _ _ _) rfl (Nat.le_of_ble_eq_true rfl) rfl (Nat.le_of_ble_eq_true rfl) (by omega) ?_
  rintro rv σ1 ⟨rfl, rfl⟩
  refine ht_if_ne (tgt := 17) (D 7 rfl) (by decide) (fun hb12 => ?_) (fun hb12 => ?_)
  · skip
    have hw9 := b01_ne hb12
    refine ht_iconst (v := 0) (D 10 rfl) (by decide) ?_
    refine ht_istore_n (D 11 rfl) rfl (by decide) rfl ?_
    refine ht_iconst (v := 0) (D 12 rfl) (by decide) ?_
    refine ht_istore_n (D 13 rfl) rfl (by decide) rfl ?_
    exact ht_cast (loop hw9 dN 0 (by omega) (by omega)) rfl rfl rfl
  · skip
    have hno2 := b01_eq hb12
    refine ht_iconst (v := -1) (D 8 rfl) (by decide) ?_
    refine ht_iret (D 9 rfl) rfl rfl ?_
    exact QA_t (by unfold aSalted; rw [if_neg hno2])
set_option maxRecDepth 100000 in
theorem sm_count (hM : MS σ m) {cN dN mN gk : Nat} (hP : PL V cN dN mN gk) (w : Int32) : Sp G mX10_count 1 [.ref m, .int w] (sv σ m V U) (QA σ m V (aCount V (V 33) mN w) (V 33)) := by
  have D := dat dl_X10_count
  show HT G mX10_count 0 [some (.ref m), some (.int w)] [] (sv σ m V U) 1 _
  have hPt : PL (tz V) cN dN mN gk := hP.dz (tz_dz V)
  have hd10 : dN ≤ 10 := hP.2.1.2
  have hc8 : cN ≤ 8 := hP.1.2
  have hm6 : mN ≤ 6 := hP.2.2.1.2
  refine ht_aload_n (D 0 rfl) rfl rfl ?_
  refine ht_iconst (v := 0) (D 1 rfl) (by decide) ?_
  refine pm_X10_135 hM rfl (D 2 rfl) ?_
  show HT _ _ _ _ _ (sv σ m (tz V) U) _ _
  refine ht_iload_n (D 3 rfl) rfl rfl ?_
  refine ht_iconst (v := 0) (D 4 rfl) (by decide) ?_
  refine ht_bipush (v := 7) (D 5 rfl) (by decide) ?_
  refine kSX10_within (As := [_, _, _]) cl_X10_263 (D 6 rfl) (sm_within _ _ _) rfl (Nat.le_of_ble_eq_true rfl) rfl (Nat.le_of_ble_eq_true rfl) (by omega) ?_
  rintro rv σ1 ⟨rfl, rfl⟩
  refine ht_if_ne (tgt := 17) (D 7 rfl) (by decide) (fun hb12 => ?_) (fun hb12 => ?_)
  · skip
    have hw := b01_ne hb12
    refine ht_iload_n (D 10 rfl) rfl rfl ?_
    refine ht_iconst (v := 4) (D 11 rfl) (by decide) ?_
    refine ht_icmp_ge (tgt := 70) (D 12 rfl) (by decide) (fun hb19 => ?_) (fun hb19 => ?_)
    · skip
      have hw4 : ¬ w < 4 := by simp only [i_lt, i_le] at hb19 ⊢; omega
      refine ht_iload_n (D 41 rfl) rfl rfl ?_
      refine ht_iconst (v := 4) (D 42 rfl) (by decide) ?_
      refine ht_icmp_ne (tgt := 85) (D 43 rfl) (by decide) (fun hb72 => ?_) (fun hb72 => ?_)
      · skip
        refine ht_iload_n (D 49 rfl) rfl rfl ?_
        refine ht_iconst (v := 5) (D 50 rfl) (by decide) ?_
        refine ht_icmp_ne (tgt := 97) (D 51 rfl) (by decide) (fun hb87 => ?_) (fun hb87 => ?_)
        · skip
          refine ht_iload_n (D 55 rfl) rfl rfl ?_
          refine ht_bipush (v := 6) (D 56 rfl) (by decide) ?_
          refine ht_icmp_ne (tgt := 112) (D 57 rfl) (by decide) (fun hb100 => ?_) (fun hb100 => ?_)
          · skip
            refine ht_aload_n (D 63 rfl) rfl rfl ?_
            refine gm_X10_141 hM rfl (D 64 rfl) ?_
            refine ht_iret (D 65 rfl) rfl rfl ?_
            exact QA_t (by unfold aCount; rw [if_pos hw]; first | rw [if_pos hw4] | rw [if_neg hw4]
                           simp [*, tz_o V (show (33 : Nat) ≠ 0 by decide), tz_o V (show (2 : Nat) ≠ 0 by decide), tz_o V (show (3 : Nat) ≠ 0 by decide), tz_o V (show (4 : Nat) ≠ 0 by decide), tz_o V (show (5 : Nat) ≠ 0 by decide), tz_o V (show (6 : Nat) ≠ 0 by decide), show tz V 0 1 = V 0 1 from up2_k V 0 (by decide)])
          · skip
            refine ht_aload_n (D 58 rfl) rfl rfl ?_
            refine gf_X10_25 rfl (D 59 rfl) hM.k0 hM.q6 ?_
            refine ht_iconst (v := 0) (D 60 rfl) (by decide) ?_
            refine hm_ild (o := 6) (n := 0) (by decide) (D 61 rfl) hM.k6 hM.n6 (by first | rfl | exact nI_add _ _ | assumption) (by omega) (by decide) ?_
            refine ht_goto (tgt := 116) (D 62 rfl) (by decide) ?_
            refine ht_iret (D 65 rfl) rfl rfl ?_
            exact QA_t (by unfold aCount; rw [if_pos hw]; first | rw [if_pos hw4] | rw [if_neg hw4]
                           simp [*, tz_o V (show (33 : Nat) ≠ 0 by decide), tz_o V (show (2 : Nat) ≠ 0 by decide), tz_o V (show (3 : Nat) ≠ 0 by decide), tz_o V (show (4 : Nat) ≠ 0 by decide), tz_o V (show (5 : Nat) ≠ 0 by decide), tz_o V (show (6 : Nat) ≠ 0 by decide), show tz V 0 1 = V 0 1 from up2_k V 0 (by decide)])
        · skip
          refine ht_aload_n (D 52 rfl) rfl rfl ?_
          refine kVX10_held (As := []) cl_X10_422 (D 53 rfl) (sm_held hM hPt.2.2.1.1 hm6) hM.k0 rfl (Nat.le_of_ble_eq_true rfl) rfl (Nat.le_of_ble_eq_true rfl) (by omega) ?_
          rintro rv σ1 ⟨rfl, rfl⟩
          refine ht_goto (tgt := 116) (D 54 rfl) (by decide) ?_
          refine ht_iret (D 65 rfl) rfl rfl ?_
          exact QA_t (by unfold aCount; rw [if_pos hw]; first | rw [if_pos hw4] | rw [if_neg hw4]
                         simp [*, tz_o V (show (33 : Nat) ≠ 0 by decide), tz_o V (show (2 : Nat) ≠ 0 by decide), tz_o V (show (3 : Nat) ≠ 0 by decide), tz_o V (show (4 : Nat) ≠ 0 by decide), tz_o V (show (5 : Nat) ≠ 0 by decide), tz_o V (show (6 : Nat) ≠ 0 by decide), show tz V 0 1 = V 0 1 from up2_k V 0 (by decide)])
      · skip
        refine ht_aload_n (D 44 rfl) rfl rfl ?_
        refine gf_X10_108 rfl (D 45 rfl) hM.k0 hM.q33 ?_
        refine ht_bipush (v := 80) (D 46 rfl) (by decide) ?_
        refine hm_ild (o := 33) (n := 80) (by decide) (D 47 rfl) hM.k33 hM.n33 (by first | rfl | exact nI_add _ _ | assumption) (by omega) (by decide) ?_
        refine ht_goto (tgt := 116) (D 48 rfl) (by decide) ?_
        refine ht_iret (D 65 rfl) rfl rfl ?_
        exact QA_t (by unfold aCount; rw [if_pos hw]; first | rw [if_pos hw4] | rw [if_neg hw4]
                       simp [*, tz_o V (show (33 : Nat) ≠ 0 by decide), tz_o V (show (2 : Nat) ≠ 0 by decide), tz_o V (show (3 : Nat) ≠ 0 by decide), tz_o V (show (4 : Nat) ≠ 0 by decide), tz_o V (show (5 : Nat) ≠ 0 by decide), tz_o V (show (6 : Nat) ≠ 0 by decide), show tz V 0 1 = V 0 1 from up2_k V 0 (by decide)])
    · skip
      have hw4 : w < 4 := by simp only [i_lt, i_le] at hb19 ⊢; omega
      refine ht_iload_n (D 13 rfl) rfl rfl ?_
      refine ht_if_ne (tgt := 35) (D 14 rfl) (by decide) (fun hb23 => ?_) (fun hb23 => ?_)
      · skip
        refine ht_iload_n (D 20 rfl) rfl rfl ?_
        refine ht_iconst (v := 1) (D 21 rfl) (by decide) ?_
        refine ht_icmp_ne (tgt := 49) (D 22 rfl) (by decide) (fun hb37 => ?_) (fun hb37 => ?_)
        · skip
          refine ht_iload_n (D 28 rfl) rfl rfl ?_
          refine ht_iconst (v := 2) (D 29 rfl) (by decide) ?_
          refine ht_icmp_ne (tgt := 63) (D 30 rfl) (by decide) (fun hb51 => ?_) (fun hb51 => ?_)
          · skip
            refine ht_aload_n (D 36 rfl) rfl rfl ?_
            refine gf_X10_22 rfl (D 37 rfl) hM.k0 hM.q5 ?_
            refine ht_iconst (v := 0) (D 38 rfl) (by decide) ?_
            refine hm_ild (o := 5) (n := 0) (by decide) (D 39 rfl) hM.k5 hM.n5 (by first | rfl | exact nI_add _ _ | assumption) (by omega) (by decide) ?_
            refine ht_iret (D 40 rfl) rfl rfl ?_
            exact QA_t (by unfold aCount; rw [if_pos hw]; first | rw [if_pos hw4] | rw [if_neg hw4]
                           simp [*, tz_o V (show (33 : Nat) ≠ 0 by decide), tz_o V (show (2 : Nat) ≠ 0 by decide), tz_o V (show (3 : Nat) ≠ 0 by decide), tz_o V (show (4 : Nat) ≠ 0 by decide), tz_o V (show (5 : Nat) ≠ 0 by decide), tz_o V (show (6 : Nat) ≠ 0 by decide), show tz V 0 1 = V 0 1 from up2_k V 0 (by decide)])
          · skip
            refine ht_aload_n (D 31 rfl) rfl rfl ?_
            refine gf_X10_19 rfl (D 32 rfl) hM.k0 hM.q4 ?_
            refine ht_iconst (v := 0) (D 33 rfl) (by decide) ?_
            refine hm_ild (o := 4) (n := 0) (by decide) (D 34 rfl) hM.k4 hM.n4 (by first | rfl | exact nI_add _ _ | assumption) (by omega) (by decide) ?_
            refine ht_goto (tgt := 69) (D 35 rfl) (by decide) ?_
            refine ht_iret (D 40 rfl) rfl rfl ?_
            exact QA_t (by unfold aCount; rw [if_pos hw]; first | rw [if_pos hw4] | rw [if_neg hw4]
                           simp [*, tz_o V (show (33 : Nat) ≠ 0 by decide), tz_o V (show (2 : Nat) ≠ 0 by decide), tz_o V (show (3 : Nat) ≠ 0 by decide), tz_o V (show (4 : Nat) ≠ 0 by decide), tz_o V (show (5 : Nat) ≠ 0 by decide), tz_o V (show (6 : Nat) ≠ 0 by decide), show tz V 0 1 = V 0 1 from up2_k V 0 (by decide)])
        · skip
          refine ht_aload_n (D 23 rfl) rfl rfl ?_
          refine gf_X10_16 rfl (D 24 rfl) hM.k0 hM.q3 ?_
          refine ht_iconst (v := 0) (D 25 rfl) (by decide) ?_
          refine hm_ild (o := 3) (n := 0) (by decide) (D 26 rfl) hM.k3 hM.n3 (by first | rfl | exact nI_add _ _ | assumption) (by omega) (by decide) ?_
          refine ht_goto (tgt := 69) (D 27 rfl) (by decide) ?_
          refine ht_iret (D 40 rfl) rfl rfl ?_
          exact QA_t (by unfold aCount; rw [if_pos hw]; first | rw [if_pos hw4] | rw [if_neg hw4]
                         simp [*, tz_o V (show (33 : Nat) ≠ 0 by decide), tz_o V (show (2 : Nat) ≠ 0 by decide), tz_o V (show (3 : Nat) ≠ 0 by decide), tz_o V (show (4 : Nat) ≠ 0 by decide), tz_o V (show (5 : Nat) ≠ 0 by decide), tz_o V (show (6 : Nat) ≠ 0 by decide), show tz V 0 1 = V 0 1 from up2_k V 0 (by decide)])
      · skip
        refine ht_aload_n (D 15 rfl) rfl rfl ?_
        refine gf_X10_13 rfl (D 16 rfl) hM.k0 hM.q2 ?_
        refine ht_iconst (v := 0) (D 17 rfl) (by decide) ?_
        refine hm_ild (o := 2) (n := 0) (by decide) (D 18 rfl) hM.k2 hM.n2 (by first | rfl | exact nI_add _ _ | assumption) (by omega) (by decide) ?_
        refine ht_goto (tgt := 69) (D 19 rfl) (by decide) ?_
        refine ht_iret (D 40 rfl) rfl rfl ?_
        exact QA_t (by unfold aCount; rw [if_pos hw]; first | rw [if_pos hw4] | rw [if_neg hw4]
                       simp [*, tz_o V (show (33 : Nat) ≠ 0 by decide), tz_o V (show (2 : Nat) ≠ 0 by decide), tz_o V (show (3 : Nat) ≠ 0 by decide), tz_o V (show (4 : Nat) ≠ 0 by decide), tz_o V (show (5 : Nat) ≠ 0 by decide), tz_o V (show (6 : Nat) ≠ 0 by decide), show tz V 0 1 = V 0 1 from up2_k V 0 (by decide)])
  · skip
    have hno2 := b01_eq hb12
    refine ht_iconst (v := -1) (D 8 rfl) (by decide) ?_
    refine ht_iret (D 9 rfl) rfl rfl ?_
    exact QA_t (by unfold aCount; rw [if_neg hno2])
end M6
