/-! ===== the reference: an hour ===== -/
def PL (V : VT) (cN dN mN gk : Nat) : Prop := (V 2 0 = nI cN ∧ cN ≤ 8) ∧ (V 3 0 = nI dN ∧ dN ≤ 10) ∧ (V 4 0 = nI mN ∧ mN ≤ 6) ∧ (V 5 0 = nI gk ∧ gk ≤ 2) ∧ (∀ g, g < gk → ∃ r, V 16 g = nI r ∧ 0 < r ∧ r ≤ 8) ∧ (∀ j, j < dN → ∃ a, a < cN ∧ V 10 j = nI a) ∧ (∀ j, j < dN → V 11 j = -1 ∨ ∃ b, b < cN ∧ V 11 j = nI b)
def Dy (V V' : VT) : Prop := ∀ o, ¬ (23 ≤ o ∧ o ≤ 33) → V' o = V o
theorem Dy.rf (V : VT) : Dy V V := fun _ _ => rfl
theorem Dy.tr {V V1 V2 : VT} (h1 : Dy V V1) (h2 : Dy V1 V2) : Dy V V2 := fun o h => (h2 o h).trans (h1 o h)
theorem Sc.dy {V V' : VT} (h : Sc V V') : Dy V V' := fun o q => h o (fun r => q ⟨r.1, by omega⟩)
theorem Dy.sS {V V1 : VT} (h : Dy V V1) (S : ST) : Dy V (sS V1 S) := fun o q => (sS_o V1 S (show o ≠ 33 from fun e => q (by rw [e]; decide))).trans (h o q)
theorem Sc.s33 {V V' : VT} (h : Sc V V') : V' 33 = V 33 := h 33 (by decide)
theorem PL.dy {V V' : VT} {cN dN mN gk : Nat} (h : PL V cN dN mN gk) (hd : Dy V V') : PL V' cN dN mN gk := by
  unfold PL
  rw [hd 2 (by decide), hd 3 (by decide), hd 4 (by decide), hd 5 (by decide), hd 16 (by decide), hd 10 (by decide), hd 11 (by decide)]
  exact h
theorem LnW.dy {V V' : VT} {g : Option GWt} (h : LnW V g) (hd : Dy V V') : LnW V' g := by
  unfold LnW
  rw [hd 18 (by decide), hd 19 (by decide), hd 20 (by decide)]
  exact h
theorem LnI.dy {V V' : VT} {g : Option GIt} (h : LnI V g) (hd : Dy V V') : LnI V' g := by
  unfold LnI
  rw [hd 18 (by decide), hd 19 (by decide), hd 20 (by decide)]
  exact h
theorem gPos_dy {V V' : VT} (hd : Dy V V') : gPos V' = gPos V := by
  funext g h
  unfold gPos
  rw [hd 16 (by decide), hd 17 (by decide)]
theorem gN_dy {V V' : VT} (hd : Dy V V') (c : Int32) (h k : Nat) : gN V' c h k = gN V c h k := by
  induction k with
  | zero => rfl
  | succ k ih =>
    unfold gN
    rw [ih, gPos_dy hd]
theorem ld_dy {V V' : VT} (hd : Dy V V') : ld V' = ld V := by
  funext j c
  unfold ld
  rw [hd 10 (by decide), hd 11 (by decide)]
theorem fO_dy {V V' : VT} (hd : Dy V V') : fO V' = fO V := by
  funext p
  unfold fO
  rw [hd 36 (by decide)]
def brF (V : VT) (S : ST) (mN gk h j : Nat) : Int32 := bC (mIn S (V 10 j) mN) 6 + bC (mIn S (V 11 j) mN) 6 + nI (gN V (V 10 j) h gk) + nI (gN V (V 11 j) h gk)
def stF (V : VT) (S : ST) (j : Nat) : Int32 := S (60 + (V 10 j).toNatClampNeg) + (if V 11 j < 0 then 0 else S (60 + (V 11 j).toNatClampNeg))
def fd1 (V : VT) (gi : Option GIt) (dg : Int32) (mN gk h : Nat) (S : ST) (j : Nat) : ST := trS S j (10 + j) (frF gi dg (stF V S j) (S (20 + j)) (brF V S mN gk h j) (S j) (S (10 + j)))
def fd2 (gi : Option GIt) (dg stv brt : Int32) (S : ST) (j : Nat) : ST := trS S (30 + j) (40 + j) (frF gi dg stv 0 brt (S (30 + j)) (S (40 + j)))
def fd3 (S : ST) (j : Nat) : ST := va_up S (20 + j) (imax 0 (S (20 + j) - 1))
def fdS (V : VT) (gi : Option GIt) (dg : Int32) (mN gk h : Nat) (S : ST) (j : Nat) : ST := fd3 (fd2 gi dg (stF V S j) (brF V S mN gk h j) (fd1 V gi dg mN gk h S j) j) j
def frS (V : VT) (gi : Option GIt) (dg : Int32) (mN gk h : Nat) (S : ST) : Nat → ST
  | 0 => S
  | k + 1 => fdS V gi dg mN gk h (frS V gi dg mN gk h S k) k
theorem brF_dy {V V' : VT} (hd : Dy V V') (S : ST) (mN gk h j : Nat) : brF V' S mN gk h j = brF V S mN gk h j := by
  unfold brF
  rw [hd 10 (by decide), hd 11 (by decide), gN_dy hd, gN_dy hd]
theorem stF_dy {V V' : VT} (hd : Dy V V') (S : ST) (j : Nat) : stF V' S j = stF V S j := by
  unfold stF
  rw [hd 10 (by decide), hd 11 (by decide)]
theorem fdS_dy {V V' : VT} (hd : Dy V V') (gi : Option GIt) (dg : Int32) (mN gk h : Nat) (S : ST) (j : Nat) : fdS V' gi dg mN gk h S j = fdS V gi dg mN gk h S j := by
  unfold fdS fd1
  rw [stF_dy hd, brF_dy hd]
section M4
variable {G : GG} {σ : Hp} {m : Nat} {V : VT} {U : UT}
set_option maxRecDepth 100000 in
theorem sm_inAndBy (hM : MS σ m) {cN dN mN gk : Nat} (hP : PL V cN dN mN gk) {j : Nat} (hj : j < dN) {h : Nat} (hh : V 33 80 = nI h) (h31 : h < 2 ^ 31) : Sp G mX10_inAndBy 1 [.ref m, .int (nI j)] (sv σ m V U) (fun rv σ' => rv = some (.int (brF V (V 33) mN gk h j)) ∧ σ' = sv σ m V U) := by
  have D := dat dl_X10_inAndBy
  show HT G mX10_inAndBy 0 [some (.ref m), some (.int (nI j)), none] [] (sv σ m V U) 1 _
  refine ht_aload_n (D 0 rfl) rfl rfl ?_
  refine gf_X10_108 rfl (D 1 rfl) hM.k0 hM.q33 ?_
  refine ht_bipush (v := 80) (D 2 rfl) (by decide) ?_
  refine hm_ild (o := 33) (n := 80) (by decide) (D 3 rfl) hM.k33 hM.n33 (by first | rfl | exact nI_add _ _ | assumption) (by omega) (by decide) ?_
  rw [hh]
  have hj10 : j < 10 := Nat.lt_of_lt_of_le hj hP.2.1.2
  refine ht_istore_n (D 4 rfl) rfl (by decide) rfl ?_
  refine ht_aload_n (D 5 rfl) rfl rfl ?_
  refine ht_aload_n (D 6 rfl) rfl rfl ?_
  refine gf_X10_38 rfl (D 7 rfl) hM.k0 hM.q10 ?_
  refine ht_iload_n (D 8 rfl) rfl rfl ?_
  refine hm_ild (o := 10) (n := j) (by decide) (D 9 rfl) hM.k10 hM.n10 (by first | rfl | exact nI_add _ _ | assumption) (by omega) (by decide) ?_
  refine kVX10_menIn (As := [_]) cl_X10_330 (D 10 rfl) (sm_menIn hM hP.2.2.1.1 hP.2.2.1.2 _) hM.k0 rfl (Nat.le_of_ble_eq_true rfl) rfl (Nat.le_of_ble_eq_true rfl) (by omega) ?_
  rintro rv σ1 ⟨rfl, rfl⟩
  refine kSX10_bits (As := [_]) cl_X10_364 (D 11 rfl) (sm_bits _) rfl (Nat.le_of_ble_eq_true rfl) rfl (Nat.le_of_ble_eq_true rfl) (by omega) ?_
  rintro rv σ1 ⟨rfl, rfl⟩
  refine ht_aload_n (D 12 rfl) rfl rfl ?_
  refine ht_aload_n (D 13 rfl) rfl rfl ?_
  refine gf_X10_41 rfl (D 14 rfl) hM.k0 hM.q11 ?_
  refine ht_iload_n (D 15 rfl) rfl rfl ?_
  refine hm_ild (o := 11) (n := j) (by decide) (D 16 rfl) hM.k11 hM.n11 (by first | rfl | exact nI_add _ _ | assumption) (by omega) (by decide) ?_
  refine kVX10_menIn (As := [_]) cl_X10_330 (D 17 rfl) (sm_menIn hM hP.2.2.1.1 hP.2.2.1.2 _) hM.k0 rfl (Nat.le_of_ble_eq_true rfl) rfl (Nat.le_of_ble_eq_true rfl) (by omega) ?_
  rintro rv σ1 ⟨rfl, rfl⟩
  refine kSX10_bits (As := [_]) cl_X10_364 (D 18 rfl) (sm_bits _) rfl (Nat.le_of_ble_eq_true rfl) rfl (Nat.le_of_ble_eq_true rfl) (by omega) ?_
  rintro rv σ1 ⟨rfl, rfl⟩
  refine ht_iadd (D 19 rfl) ?_
  refine ht_aload_n (D 20 rfl) rfl rfl ?_
  refine ht_aload_n (D 21 rfl) rfl rfl ?_
  refine gf_X10_38 rfl (D 22 rfl) hM.k0 hM.q10 ?_
  refine ht_iload_n (D 23 rfl) rfl rfl ?_
  refine hm_ild (o := 10) (n := j) (by decide) (D 24 rfl) hM.k10 hM.n10 (by first | rfl | exact nI_add _ _ | assumption) (by omega) (by decide) ?_
  refine ht_iload_n (D 25 rfl) rfl rfl ?_
  refine kVX10_guardsIn (As := [_, _]) cl_X10_333 (D 26 rfl) (sm_guardsIn hM hP.2.2.2.1.1 hP.2.2.2.1.2 hP.2.2.2.2.1 h31 _) hM.k0 rfl (Nat.le_of_ble_eq_true rfl) rfl (Nat.le_of_ble_eq_true rfl) (by omega) ?_
  rintro rv σ1 ⟨rfl, rfl⟩
  refine ht_iadd (D 27 rfl) ?_
  refine ht_aload_n (D 28 rfl) rfl rfl ?_
  refine ht_aload_n (D 29 rfl) rfl rfl ?_
  refine gf_X10_41 rfl (D 30 rfl) hM.k0 hM.q11 ?_
  refine ht_iload_n (D 31 rfl) rfl rfl ?_
  refine hm_ild (o := 11) (n := j) (by decide) (D 32 rfl) hM.k11 hM.n11 (by first | rfl | exact nI_add _ _ | assumption) (by omega) (by decide) ?_
  refine ht_iload_n (D 33 rfl) rfl rfl ?_
  refine kVX10_guardsIn (As := [_, _]) cl_X10_333 (D 34 rfl) (sm_guardsIn hM hP.2.2.2.1.1 hP.2.2.2.1.2 hP.2.2.2.2.1 h31 _) hM.k0 rfl (Nat.le_of_ble_eq_true rfl) rfl (Nat.le_of_ble_eq_true rfl) (by omega) ?_
  rintro rv σ1 ⟨rfl, rfl⟩
  refine ht_iadd (D 35 rfl) ?_
  refine ht_iret (D 36 rfl) rfl rfl ?_
  exact ⟨rfl, rfl⟩
theorem fdS_80 (V : VT) (gi : Option GIt) (dg : Int32) (mN gk h : Nat) (S : ST) {j : Nat} (hj : j < 10) : fdS V gi dg mN gk h S j 80 = S 80 := by
  unfold fdS fd3 fd2 fd1 trS va_up
  simp only [show ¬ (80 = 20 + j) by omega, show ¬ (80 = 40 + j) by omega, show ¬ (80 = 30 + j) by omega, show ¬ (80 = 10 + j) by omega, show ¬ (80 = j) by omega, if_false]
set_option maxRecDepth 100000 in
set_option maxHeartbeats 4000000 in
theorem sm_frosts (hM : MS σ m) {cN dN mN gk : Nat} (hP : PL V cN dN mN gk) {gw : Option GWt} {gi : Option GIt} (hW : LnW V gw) (hI : LnI V gi) {h : Nat} (hh : V 33 80 = nI h) (h31 : h < 2 ^ 31) (md : Int32) : Sp G mX10_frosts 4 [.ref m, .int md] (sv σ m V U) (fun rv σ' => rv = none ∧ ∃ V' : VT, σ' = sv σ m V' U ∧ Dy V V' ∧ V' 33 = frS V gi (dgF gw h md) mN gk h (V 33) dN) := by
  have D := dat dl_X10_frosts
  have hd10 : dN ≤ 10 := hP.2.1.2
  have hc8 : cN ≤ 8 := hP.1.2
  have loop : ∀ (r j : Nat) (V1 : VT) (l4 l5 : Option Value), j ≤ dN → dN - j = r → Dy V V1 → V1 33 = frS V gi (dgF gw h md) mN gk h (V 33) j → V1 33 80 = V 33 80 → HT G mX10_frosts 15 [some (.ref m), some (.int md), some (.int (dgF gw h md)), some (.int (nI j)), l4, l5] [] (sv σ m V1 U) 4 (fun rv σ' => rv = none ∧ ∃ V' : VT, σ' = sv σ m V' U ∧ Dy V V' ∧ V' 33 = frS V gi (dgF gw h md) mN gk h (V 33) dN) := by
    intro r
    induction r using Nat.strongRecOn with
    | _ r ih =>
      intro j V1 l4 l5 hj hr hdy h33 h80
      refine ht_iload_n (D 10 rfl) rfl rfl ?_
      refine ht_aload_n (D 11 rfl) rfl rfl ?_
      refine gf_X10_16 rfl (D 12 rfl) hM.k0 hM.q3 ?_
      refine ht_iconst (v := 0) (D 13 rfl) (by decide) ?_
      refine hm_ild (o := 3) (n := 0) (by decide) (D 14 rfl) hM.k3 hM.n3 (by first | rfl | exact nI_add _ _ | assumption) (by omega) (by decide) ?_
      refine ht_icmp_ge (tgt := 188) (D 15 rfl) (by decide) (fun hb22 => ?_) (fun hb22 => ?_)
      · skip
        have hjk : j = dN := by rw [(hP.dy hdy).2.1.1] at hb22; have h9 := (nI_leI (a := dN) (b := j) (by omega) (by omega)).mp hb22; omega
        subst hjk
        refine ht_vret (D 118 rfl) rfl ?_
        exact ⟨rfl, V1, rfl, hdy, h33⟩
      · skip
        have hjk : j < dN := by rw [(hP.dy hdy).2.1.1] at hb22; have h9 := mt (nI_leI (a := dN) (b := j) (by omega) (by omega)).mpr hb22; omega
        obtain ⟨a, ha1, ha2⟩ := (hP.dy hdy).2.2.2.2.2.1 j hjk
        have hst0 : stF V1 (V1 33) j = V1 33 (60 + a) + (if V1 11 j < 0 then 0 else V1 33 (60 + (V1 11 j).toNatClampNeg)) := by unfold stF; rw [ha2, nI_clamp (by omega)]
        refine ht_aload_n (D 16 rfl) rfl rfl ?_
        refine gf_X10_108 rfl (D 17 rfl) hM.k0 hM.q33 ?_
        refine ht_bipush (v := 60) (D 18 rfl) (by decide) ?_
        refine ht_aload_n (D 19 rfl) rfl rfl ?_
        refine gf_X10_38 rfl (D 20 rfl) hM.k0 hM.q10 ?_
        refine ht_iload_n (D 21 rfl) rfl rfl ?_
        refine hm_ild (o := 10) (n := j) (by decide) (D 22 rfl) hM.k10 hM.n10 (by first | rfl | exact nI_add _ _ | assumption) (by omega) (by decide) ?_
        rw [ha2]
        refine ht_iadd (D 23 rfl) ?_
        refine hm_ild (o := 33) (n := 60 + a) (by decide) (D 24 rfl) hM.k33 hM.n33 (nI_add 60 a) (by omega) (by decide) ?_
        refine ht_aload_n (D 25 rfl) rfl rfl ?_
        refine gf_X10_41 rfl (D 26 rfl) hM.k0 hM.q11 ?_
        refine ht_iload_n (D 27 rfl) rfl rfl ?_
        refine hm_ild (o := 11) (n := j) (by decide) (D 28 rfl) hM.k11 hM.n11 (by first | rfl | exact nI_add _ _ | assumption) (by omega) (by decide) ?_
        refine ht_if_ge (tgt := 52) (D 29 rfl) (by decide) (fun hb45 => ?_) (fun hb45 => ?_)
        · skip
          obtain ⟨b, hb1, hb2⟩ : ∃ b, b < cN ∧ V1 11 j = nI b := by
            rcases (hP.dy hdy).2.2.2.2.2.2 j hjk with h9 | h9
            · rw [h9] at hb45
              exact absurd hb45 (by decide)
            · exact h9
          rw [hb2, if_neg (nI_pos (by omega)), nI_clamp (by omega)] at hst0
          refine ht_aload_n (D 32 rfl) rfl rfl ?_
          refine gf_X10_108 rfl (D 33 rfl) hM.k0 hM.q33 ?_
          refine ht_bipush (v := 60) (D 34 rfl) (by decide) ?_
          refine ht_aload_n (D 35 rfl) rfl rfl ?_
          refine gf_X10_41 rfl (D 36 rfl) hM.k0 hM.q11 ?_
          refine ht_iload_n (D 37 rfl) rfl rfl ?_
          refine hm_ild (o := 11) (n := j) (by decide) (D 38 rfl) hM.k11 hM.n11 (by first | rfl | exact nI_add _ _ | assumption) (by omega) (by decide) ?_
          rw [hb2]
          refine ht_iadd (D 39 rfl) ?_
          refine hm_ild (o := 33) (n := 60 + b) (by decide) (D 40 rfl) hM.k33 hM.n33 (nI_add 60 b) (by omega) (by decide) ?_
          refine ht_iadd (D 41 rfl) ?_
          rw [← hst0]
          refine ht_istore (D 42 rfl) (by decide) rfl ?_
          refine ht_aload_n (D 43 rfl) rfl rfl ?_
          refine ht_iload_n (D 44 rfl) rfl rfl ?_
          refine kVX10_inAndBy (As := [_]) cl_X10_367 (D 45 rfl) (sm_inAndBy hM (hP.dy hdy) hjk (by rw [h80]; exact hh) h31) hM.k0 rfl (Nat.le_of_ble_eq_true rfl) rfl (Nat.le_of_ble_eq_true rfl) (by omega) ?_
          rintro rv σ1 ⟨rfl, rfl⟩
          refine ht_istore (D 46 rfl) (by decide) rfl ?_
          refine ht_aload_n (D 47 rfl) rfl rfl ?_
          refine ht_iload_n (D 48 rfl) rfl rfl ?_
          refine ht_bipush (v := 10) (D 49 rfl) (by decide) ?_
          refine ht_iload_n (D 50 rfl) rfl rfl ?_
          refine ht_iadd (D 51 rfl) ?_
          rw [show (10 : Int32) + nI j = nI (10 + j) from nI_add 10 j]
          refine ht_aload_n (D 52 rfl) rfl rfl ?_
          refine ht_iload_n (D 53 rfl) rfl rfl ?_
          refine ht_iload (D 54 rfl) rfl ?_
          refine ht_aload_n (D 55 rfl) rfl rfl ?_
          refine gf_X10_108 rfl (D 56 rfl) hM.k0 hM.q33 ?_
          refine ht_bipush (v := 20) (D 57 rfl) (by decide) ?_
          refine ht_iload_n (D 58 rfl) rfl rfl ?_
          refine ht_iadd (D 59 rfl) ?_
          refine hm_ild (o := 33) (n := (20 + j)) (by decide) (D 60 rfl) hM.k33 hM.n33 (by first | rfl | exact nI_add _ _ | assumption) (by omega) (by decide) ?_
          refine ht_iload (D 61 rfl) rfl ?_
          refine ht_aload_n (D 62 rfl) rfl rfl ?_
          refine gf_X10_108 rfl (D 63 rfl) hM.k0 hM.q33 ?_
          refine ht_iload_n (D 64 rfl) rfl rfl ?_
          refine hm_ild (o := 33) (n := j) (by decide) (D 65 rfl) hM.k33 hM.n33 (by first | rfl | exact nI_add _ _ | assumption) (by omega) (by decide) ?_
          refine ht_aload_n (D 66 rfl) rfl rfl ?_
          refine gf_X10_108 rfl (D 67 rfl) hM.k0 hM.q33 ?_
          refine ht_bipush (v := 10) (D 68 rfl) (by decide) ?_
          refine ht_iload_n (D 69 rfl) rfl rfl ?_
          refine ht_iadd (D 70 rfl) ?_
          refine hm_ild (o := 33) (n := (10 + j)) (by decide) (D 71 rfl) hM.k33 hM.n33 (by first | rfl | exact nI_add _ _ | assumption) (by omega) (by decide) ?_
          refine kVX10_freezes (As := [_, _, _, _, _, _]) cl_X10_370 (D 72 rfl) (sm_freezes hM (hI.dy hdy) _ _ _ _ _ _) hM.k0 rfl (Nat.le_of_ble_eq_true rfl) rfl (Nat.le_of_ble_eq_true rfl) (by omega) ?_
          rintro rv σ1 ⟨rfl, V2, rfl, hs2⟩
          refine kVX10_turns (As := [_, _, _]) cl_X10_374 (D 73 rfl) (sm_turns hM (p := j) (q := 10 + j) (by omega) (by omega) (by omega) _) hM.k0 rfl (Nat.le_of_ble_eq_true rfl) rfl (Nat.le_of_ble_eq_true rfl) (by omega) ?_
          rintro rv σ1 ⟨rfl, rfl⟩
          rw [hs2.s33]
          have hd3 : Dy V (sS V2 (fd1 V1 gi (dgF gw h md) mN gk h (V1 33) j)) := (hdy.tr hs2.dy).sS _
          show HT _ _ _ _ _ (sv σ m (sS V2 (fd1 V1 gi (dgF gw h md) mN gk h (V1 33) j)) U) _ _
          generalize hV3 : sS V2 (fd1 V1 gi (dgF gw h md) mN gk h (V1 33) j) = V3 at hd3 ⊢
          have e3 : V3 33 = fd1 V1 gi (dgF gw h md) mN gk h (V1 33) j := by rw [← hV3, sS_s]
          refine ht_aload_n (D 74 rfl) rfl rfl ?_
          refine ht_bipush (v := 30) (D 75 rfl) (by decide) ?_
          refine ht_iload_n (D 76 rfl) rfl rfl ?_
          refine ht_iadd (D 77 rfl) ?_
          refine ht_bipush (v := 40) (D 78 rfl) (by decide) ?_
          refine ht_iload_n (D 79 rfl) rfl rfl ?_
          refine ht_iadd (D 80 rfl) ?_
          rw [show (30 : Int32) + nI j = nI (30 + j) from nI_add 30 j, show (40 : Int32) + nI j = nI (40 + j) from nI_add 40 j]
          refine ht_aload_n (D 81 rfl) rfl rfl ?_
          refine ht_iload_n (D 82 rfl) rfl rfl ?_
          refine ht_iload (D 83 rfl) rfl ?_
          refine ht_iconst (v := 0) (D 84 rfl) (by decide) ?_
          refine ht_iload (D 85 rfl) rfl ?_
          refine ht_aload_n (D 86 rfl) rfl rfl ?_
          refine gf_X10_108 rfl (D 87 rfl) hM.k0 hM.q33 ?_
          refine ht_bipush (v := 30) (D 88 rfl) (by decide) ?_
          refine ht_iload_n (D 89 rfl) rfl rfl ?_
          refine ht_iadd (D 90 rfl) ?_
          refine hm_ild (o := 33) (n := (30 + j)) (by decide) (D 91 rfl) hM.k33 hM.n33 (by first | rfl | exact nI_add _ _ | assumption) (by omega) (by decide) ?_
          refine ht_aload_n (D 92 rfl) rfl rfl ?_
          refine gf_X10_108 rfl (D 93 rfl) hM.k0 hM.q33 ?_
          refine ht_bipush (v := 40) (D 94 rfl) (by decide) ?_
          refine ht_iload_n (D 95 rfl) rfl rfl ?_
          refine ht_iadd (D 96 rfl) ?_
          refine hm_ild (o := 33) (n := (40 + j)) (by decide) (D 97 rfl) hM.k33 hM.n33 (by first | rfl | exact nI_add _ _ | assumption) (by omega) (by decide) ?_
          refine kVX10_freezes (As := [_, _, _, _, _, _]) cl_X10_370 (D 98 rfl) (sm_freezes hM (hI.dy hd3) _ _ _ _ _ _) hM.k0 rfl (Nat.le_of_ble_eq_true rfl) rfl (Nat.le_of_ble_eq_true rfl) (by omega) ?_
          rintro rv σ1 ⟨rfl, V4, rfl, hs4⟩
          refine kVX10_turns (As := [_, _, _]) cl_X10_374 (D 99 rfl) (sm_turns hM (p := 30 + j) (q := 40 + j) (by omega) (by omega) (by omega) _) hM.k0 rfl (Nat.le_of_ble_eq_true rfl) rfl (Nat.le_of_ble_eq_true rfl) (by omega) ?_
          rintro rv σ1 ⟨rfl, rfl⟩
          rw [hs4.s33]
          have hd5 : Dy V (sS V4 (fd2 gi (dgF gw h md) (stF V1 (V1 33) j) (brF V1 (V1 33) mN gk h j) (V3 33) j)) := (hd3.tr hs4.dy).sS _
          show HT _ _ _ _ _ (sv σ m (sS V4 (fd2 gi (dgF gw h md) (stF V1 (V1 33) j) (brF V1 (V1 33) mN gk h j) (V3 33) j)) U) _ _
          generalize hV5 : sS V4 (fd2 gi (dgF gw h md) (stF V1 (V1 33) j) (brF V1 (V1 33) mN gk h j) (V3 33) j) = V5 at hd5 ⊢
          have e5 : V5 33 = fd2 gi (dgF gw h md) (stF V1 (V1 33) j) (brF V1 (V1 33) mN gk h j) (V3 33) j := by rw [← hV5, sS_s]
          refine ht_aload_n (D 100 rfl) rfl rfl ?_
          refine gf_X10_108 rfl (D 101 rfl) hM.k0 hM.q33 ?_
          refine ht_bipush (v := 20) (D 102 rfl) (by decide) ?_
          refine ht_iload_n (D 103 rfl) rfl rfl ?_
          refine ht_iadd (D 104 rfl) ?_
          refine ht_iconst (v := 0) (D 105 rfl) (by decide) ?_
          refine ht_aload_n (D 106 rfl) rfl rfl ?_
          refine gf_X10_108 rfl (D 107 rfl) hM.k0 hM.q33 ?_
          refine ht_bipush (v := 20) (D 108 rfl) (by decide) ?_
          refine ht_iload_n (D 109 rfl) rfl rfl ?_
          refine ht_iadd (D 110 rfl) ?_
          refine hm_ild (o := 33) (n := (20 + j)) (by decide) (D 111 rfl) hM.k33 hM.n33 (by first | rfl | exact nI_add _ _ | assumption) (by omega) (by decide) ?_
          refine ht_iconst (v := 1) (D 112 rfl) (by decide) ?_
          refine ht_isub (D 113 rfl) ?_
          refine ht_mmax mm_X10_378 mm_smax mm_ini mm_cmax (D 114 rfl) (Nat.le_of_ble_eq_true rfl) (by omega) ?_
          refine hm_ist (o := 33) (n := (20 + j)) (by decide) (D 115 rfl) hM.k33 hM.n33 (by first | rfl | exact nI_add _ _ | assumption) (by omega) (by decide) ?_
          refine ht_iinc (v := nI (j + 1)) (D 116 rfl) rfl (nI_i1 _) (by decide) rfl ?_
          refine ht_goto (tgt := 15) (D 117 rfl) (by decide) ?_
          rw [up2_33]
          exact ih (dN - (j + 1)) (by omega) (j + 1) (sS V5 (fd3 (V5 33) j)) _ _ (by omega) rfl (hd5.sS _) (by rw [sS_s, e5, e3]; show fdS V1 gi (dgF gw h md) mN gk h (V1 33) j = _; rw [fdS_dy hdy, h33]; rfl) (by rw [sS_s, e5, e3]; show fdS V1 gi (dgF gw h md) mN gk h (V1 33) j 80 = _; rw [fdS_80 _ _ _ _ _ _ _ (by omega)]; exact h80)
        · skip
          rw [if_pos (show V1 11 j < 0 by simp only [i_lt, i_le] at hb45 ⊢; omega)] at hst0
          refine ht_iconst (v := 0) (D 30 rfl) (by decide) ?_
          refine ht_goto (tgt := 66) (D 31 rfl) (by decide) ?_
          refine ht_iadd (D 41 rfl) ?_
          rw [← hst0]
          refine ht_istore (D 42 rfl) (by decide) rfl ?_
          refine ht_aload_n (D 43 rfl) rfl rfl ?_
          refine ht_iload_n (D 44 rfl) rfl rfl ?_
          refine kVX10_inAndBy (As := [_]) cl_X10_367 (D 45 rfl) (sm_inAndBy hM (hP.dy hdy) hjk (by rw [h80]; exact hh) h31) hM.k0 rfl (Nat.le_of_ble_eq_true rfl) rfl (Nat.le_of_ble_eq_true rfl) (by omega) ?_
          rintro rv σ1 ⟨rfl, rfl⟩
          refine ht_istore (D 46 rfl) (by decide) rfl ?_
          refine ht_aload_n (D 47 rfl) rfl rfl ?_
          refine ht_iload_n (D 48 rfl) rfl rfl ?_
          refine ht_bipush (v := 10) (D 49 rfl) (by decide) ?_
          refine ht_iload_n (D 50 rfl) rfl rfl ?_
          refine ht_iadd (D 51 rfl) ?_
          rw [show (10 : Int32) + nI j = nI (10 + j) from nI_add 10 j]
          refine ht_aload_n (D 52 rfl) rfl rfl ?_
          refine ht_iload_n (D 53 rfl) rfl rfl ?_
          refine ht_iload (D 54 rfl) rfl ?_
          refine ht_aload_n (D 55 rfl) rfl rfl ?_
          refine gf_X10_108 rfl (D 56 rfl) hM.k0 hM.q33 ?_
          refine ht_bipush (v := 20) (D 57 rfl) (by decide) ?_
          refine ht_iload_n (D 58 rfl) rfl rfl ?_
          refine ht_iadd (D 59 rfl) ?_
          refine hm_ild (o := 33) (n := (20 + j)) (by decide) (D 60 rfl) hM.k33 hM.n33 (by first | rfl | exact nI_add _ _ | assumption) (by omega) (by decide) ?_
          refine ht_iload (D 61 rfl) rfl ?_
          refine ht_aload_n (D 62 rfl) rfl rfl ?_
          refine gf_X10_108 rfl (D 63 rfl) hM.k0 hM.q33 ?_
          refine ht_iload_n (D 64 rfl) rfl rfl ?_
          refine hm_ild (o := 33) (n := j) (by decide) (D 65 rfl) hM.k33 hM.n33 (by first | rfl | exact nI_add _ _ | assumption) (by omega) (by decide) ?_
          refine ht_aload_n (D 66 rfl) rfl rfl ?_
          refine gf_X10_108 rfl (D 67 rfl) hM.k0 hM.q33 ?_
          refine ht_bipush (v := 10) (D 68 rfl) (by decide) ?_
          refine ht_iload_n (D 69 rfl) rfl rfl ?_
          refine ht_iadd (D 70 rfl) ?_
          refine hm_ild (o := 33) (n := (10 + j)) (by decide) (D 71 rfl) hM.k33 hM.n33 (by first | rfl | exact nI_add _ _ | assumption) (by omega) (by decide) ?_
          refine kVX10_freezes (As := [_, _, _, _, _, _]) cl_X10_370 (D 72 rfl) (sm_freezes hM (hI.dy hdy) _ _ _ _ _ _) hM.k0 rfl (Nat.le_of_ble_eq_true rfl) rfl (Nat.le_of_ble_eq_true rfl) (by omega) ?_
          rintro rv σ1 ⟨rfl, V2, rfl, hs2⟩
          refine kVX10_turns (As := [_, _, _]) cl_X10_374 (D 73 rfl) (sm_turns hM (p := j) (q := 10 + j) (by omega) (by omega) (by omega) _) hM.k0 rfl (Nat.le_of_ble_eq_true rfl) rfl (Nat.le_of_ble_eq_true rfl) (by omega) ?_
          rintro rv σ1 ⟨rfl, rfl⟩
          rw [hs2.s33]
          have hd3 : Dy V (sS V2 (fd1 V1 gi (dgF gw h md) mN gk h (V1 33) j)) := (hdy.tr hs2.dy).sS _
          show HT _ _ _ _ _ (sv σ m (sS V2 (fd1 V1 gi (dgF gw h md) mN gk h (V1 33) j)) U) _ _
          generalize hV3 : sS V2 (fd1 V1 gi (dgF gw h md) mN gk h (V1 33) j) = V3 at hd3 ⊢
          have e3 : V3 33 = fd1 V1 gi (dgF gw h md) mN gk h (V1 33) j := by rw [← hV3, sS_s]
          refine ht_aload_n (D 74 rfl) rfl rfl ?_
          refine ht_bipush (v := 30) (D 75 rfl) (by decide) ?_
          refine ht_iload_n (D 76 rfl) rfl rfl ?_
          refine ht_iadd (D 77 rfl) ?_
          refine ht_bipush (v := 40) (D 78 rfl) (by decide) ?_
          refine ht_iload_n (D 79 rfl) rfl rfl ?_
          refine ht_iadd (D 80 rfl) ?_
          rw [show (30 : Int32) + nI j = nI (30 + j) from nI_add 30 j, show (40 : Int32) + nI j = nI (40 + j) from nI_add 40 j]
          refine ht_aload_n (D 81 rfl) rfl rfl ?_
          refine ht_iload_n (D 82 rfl) rfl rfl ?_
          refine ht_iload (D 83 rfl) rfl ?_
          refine ht_iconst (v := 0) (D 84 rfl) (by decide) ?_
          refine ht_iload (D 85 rfl) rfl ?_
          refine ht_aload_n (D 86 rfl) rfl rfl ?_
          refine gf_X10_108 rfl (D 87 rfl) hM.k0 hM.q33 ?_
          refine ht_bipush (v := 30) (D 88 rfl) (by decide) ?_
          refine ht_iload_n (D 89 rfl) rfl rfl ?_
          refine ht_iadd (D 90 rfl) ?_
          refine hm_ild (o := 33) (n := (30 + j)) (by decide) (D 91 rfl) hM.k33 hM.n33 (by first | rfl | exact nI_add _ _ | assumption) (by omega) (by decide) ?_
          refine ht_aload_n (D 92 rfl) rfl rfl ?_
          refine gf_X10_108 rfl (D 93 rfl) hM.k0 hM.q33 ?_
          refine ht_bipush (v := 40) (D 94 rfl) (by decide) ?_
          refine ht_iload_n (D 95 rfl) rfl rfl ?_
          refine ht_iadd (D 96 rfl) ?_
          refine hm_ild (o := 33) (n := (40 + j)) (by decide) (D 97 rfl) hM.k33 hM.n33 (by first | rfl | exact nI_add _ _ | assumption) (by omega) (by decide) ?_
          refine kVX10_freezes (As := [_, _, _, _, _, _]) cl_X10_370 (D 98 rfl) (sm_freezes hM (hI.dy hd3) _ _ _ _ _ _) hM.k0 rfl (Nat.le_of_ble_eq_true rfl) rfl (Nat.le_of_ble_eq_true rfl) (by omega) ?_
          rintro rv σ1 ⟨rfl, V4, rfl, hs4⟩
          refine kVX10_turns (As := [_, _, _]) cl_X10_374 (D 99 rfl) (sm_turns hM (p := 30 + j) (q := 40 + j) (by omega) (by omega) (by omega) _) hM.k0 rfl (Nat.le_of_ble_eq_true rfl) rfl (Nat.le_of_ble_eq_true rfl) (by omega) ?_
          rintro rv σ1 ⟨rfl, rfl⟩
          rw [hs4.s33]
          have hd5 : Dy V (sS V4 (fd2 gi (dgF gw h md) (stF V1 (V1 33) j) (brF V1 (V1 33) mN gk h j) (V3 33) j)) := (hd3.tr hs4.dy).sS _
          show HT _ _ _ _ _ (sv σ m (sS V4 (fd2 gi (dgF gw h md) (stF V1 (V1 33) j) (brF V1 (V1 33) mN gk h j) (V3 33) j)) U) _ _
          generalize hV5 : sS V4 (fd2 gi (dgF gw h md) (stF V1 (V1 33) j) (brF V1 (V1 33) mN gk h j) (V3 33) j) = V5 at hd5 ⊢
          have e5 : V5 33 = fd2 gi (dgF gw h md) (stF V1 (V1 33) j) (brF V1 (V1 33) mN gk h j) (V3 33) j := by rw [← hV5, sS_s]
          refine ht_aload_n (D 100 rfl) rfl rfl ?_
          refine gf_X10_108 rfl (D 101 rfl) hM.k0 hM.q33 ?_
          refine ht_bipush (v := 20) (D 102 rfl) (by decide) ?_
          refine ht_iload_n (D 103 rfl) rfl rfl ?_
          refine ht_iadd (D 104 rfl) ?_
          refine ht_iconst (v := 0) (D 105 rfl) (by decide) ?_
          refine ht_aload_n (D 106 rfl) rfl rfl ?_
          refine gf_X10_108 rfl (D 107 rfl) hM.k0 hM.q33 ?_
          refine ht_bipush (v := 20) (D 108 rfl) (by decide) ?_
          refine ht_iload_n (D 109 rfl) rfl rfl ?_
          refine ht_iadd (D 110 rfl) ?_
          refine hm_ild (o := 33) (n := (20 + j)) (by decide) (D 111 rfl) hM.k33 hM.n33 (by first | rfl | exact nI_add _ _ | assumption) (by omega) (by decide) ?_
          refine ht_iconst (v := 1) (D 112 rfl) (by decide) ?_
          refine ht_isub (D 113 rfl) ?_
          refine ht_mmax mm_X10_378 mm_smax mm_ini mm_cmax (D 114 rfl) (Nat.le_of_ble_eq_true rfl) (by omega) ?_
          refine hm_ist (o := 33) (n := (20 + j)) (by decide) (D 115 rfl) hM.k33 hM.n33 (by first | rfl | exact nI_add _ _ | assumption) (by omega) (by decide) ?_
          refine ht_iinc (v := nI (j + 1)) (D 116 rfl) rfl (nI_i1 _) (by decide) rfl ?_
          refine ht_goto (tgt := 15) (D 117 rfl) (by decide) ?_
          rw [up2_33]
          exact ih (dN - (j + 1)) (by omega) (j + 1) (sS V5 (fd3 (V5 33) j)) _ _ (by omega) rfl (hd5.sS _) (by rw [sS_s, e5, e3]; show fdS V1 gi (dgF gw h md) mN gk h (V1 33) j = _; rw [fdS_dy hdy, h33]; rfl) (by rw [sS_s, e5, e3]; show fdS V1 gi (dgF gw h md) mN gk h (V1 33) j 80 = _; rw [fdS_80 _ _ _ _ _ _ _ (by omega)]; exact h80)
  show HT G mX10_frosts 0 [some (.ref m), some (.int md), none, none, none, none] [] (sv σ m V U) 4 _
  refine ht_aload_n (D 0 rfl) rfl rfl ?_
  refine ht_aload_n (D 1 rfl) rfl rfl ?_
  refine gf_X10_108 rfl (D 2 rfl) hM.k0 hM.q33 ?_
  refine ht_bipush (v := 80) (D 3 rfl) (by decide) ?_
  refine hm_ild (o := 33) (n := 80) (by decide) (D 4 rfl) hM.k33 hM.n33 (by first | rfl | exact nI_add _ _ | assumption) (by omega) (by decide) ?_
  rw [hh]
  refine ht_iload_n (D 5 rfl) rfl rfl ?_
  refine kVX10_degreesAt (As := [_, _]) cl_X10_347 (D 6 rfl) (sm_degreesAt hM hW h31 md) hM.k0 rfl (Nat.le_of_ble_eq_true rfl) rfl (Nat.le_of_ble_eq_true rfl) (by omega) ?_
  rintro rv σ1 ⟨rfl, V0, rfl, hs0⟩
  refine ht_istore_n (D 7 rfl) rfl (by decide) rfl ?_
  refine ht_iconst (v := 0) (D 8 rfl) (by decide) ?_
  refine ht_istore_n (D 9 rfl) rfl (by decide) rfl ?_
  exact ht_cast (loop dN 0 V0 none none (by omega) (by omega) hs0.dy (by rw [hs0.s33]; rfl) (by rw [hs0.s33])) rfl rfl rfl
end M4
