/-! ===== the class: frost on a lock ===== -/
theorem xi_add {x y : Int32} (h1 : -2147483648 ≤ x.toInt + y.toInt) (h2 : x.toInt + y.toInt < 2147483648) : (x + y).toInt = x.toInt + y.toInt := by
  rw [Int32.toInt_add]
  exact Int.bmod_eq_of_le (by omega) (by omega)
theorem xi_sub {x y : Int32} (h1 : -2147483648 ≤ x.toInt - y.toInt) (h2 : x.toInt - y.toInt < 2147483648) : (x - y).toInt = x.toInt - y.toInt := by
  rw [Int32.toInt_sub]
  exact Int.bmod_eq_of_le (by omega) (by omega)
theorem xi_neg {x : Int32} (h1 : -2147483648 < x.toInt) (h2 : x.toInt ≤ 2147483647) : (-x).toInt = -x.toInt := by
  rw [Int32.toInt_neg]
  exact Int.bmod_eq_of_le (by omega) (by omega)
theorem xi_nat {x : Int32} (h : 0 ≤ x.toInt) : x = nI x.toInt.toNat := by
  have h2 := x.toInt_lt
  apply Int32.toInt_inj.mp
  rw [nI_toInt (by omega)]
  omega
def ibV (v ic wt : Int32) : Int32 := if 0 ≤ v then ic + imin v wt else ic - imin (-v) ic
theorem frF_rng (gi : Option GIt) (dg stv slt brt ic wt : Int32) : -20 ≤ (frF gi dg stv slt brt ic wt).toInt ∧ (frF gi dg stv slt brt ic wt).toInt ≤ 20 := by
  have key : ∀ x : Int32, -20 ≤ (clp x 20).toInt ∧ (clp x 20).toInt ≤ 20 := fun x => by
    rw [← clp_20, imax_t, imin_t]
    have l1 : (-20 : Int32).toInt = -20 := rfl
    have l2 : (20 : Int32).toInt = 20 := rfl
    omega
  cases gi with
  | none => exact key _
  | some g => exact key _
/-- so much goes over -/
theorem tn_nat {S : ST} {i j p q : Nat} (hp : S i = nI p) (hq : S j = nI q) (hpq : p + q ≤ 99) {v : Int32} (hv : -20 ≤ v.toInt ∧ v.toInt ≤ 20) : ∃ p2 q2, S i + tn S i j v = nI p2 ∧ S j - tn S i j v = nI q2 ∧ p2 + q2 = p + q := by
  have e1 : (nI p).toInt = p := nI_toInt (by omega)
  have e2 : (nI q).toInt = q := nI_toInt (by omega)
  have z0 : (0 : Int32).toInt = 0 := rfl
  have en : (-v).toInt = -v.toInt := xi_neg (by omega) (by omega)
  have key : ∃ t : Int, (tn S i j v).toInt = t ∧ -(p : Int) ≤ t ∧ t ≤ q := by
    unfold tn
    by_cases c : 0 < v
    · rw [if_pos c]
      rw [i_lt, z0] at c
      refine ⟨_, imin_t _ _, ?_, ?_⟩ <;> rw [hq, e2] <;> omega
    · rw [if_neg c]
      rw [i_lt, z0] at c
      have e4 : (imin (-v) (S i)).toInt = min (-v.toInt) p := by rw [imin_t, hp, e1, en]
      refine ⟨_, xi_neg ?_ ?_, ?_, ?_⟩ <;> rw [e4] <;> omega
  obtain ⟨t, k1, k2, k3⟩ := key
  have a1 : (S i + tn S i j v).toInt = p + t := by rw [xi_add] <;> rw [hp, e1, k1] <;> omega
  have a2 : (S j - tn S i j v).toInt = q - t := by rw [xi_sub] <;> rw [hq, e2, k1] <;> omega
  refine ⟨(p + t).toNat, (q - t).toNat, ?_, ?_, by omega⟩
  · rw [← a1]; exact xi_nat (by omega)
  · rw [← a2]; exact xi_nat (by omega)
theorem ib_tn {ic wt v : Int32} (hi : 0 ≤ ic.toInt) (hw : 0 ≤ wt.toInt) : ibV v ic wt = ic + (if 0 < v then imin v wt else -(imin (-v) ic)) := by
  have z0 : (0 : Int32).toInt = 0 := rfl
  unfold ibV
  by_cases c : 0 < v
  · rw [if_pos c, if_pos (by rw [i_lt] at c; rw [i_le]; omega)]
  · rw [if_neg c]
    by_cases c2 : 0 ≤ v
    · have hv : v = 0 := by
        apply Int32.toInt_inj.mp
        rw [i_lt] at c
        rw [i_le] at c2
        omega
      rw [if_pos c2, hv]
      have q1 : imin 0 wt = 0 := by
        apply Int32.toInt_inj.mp
        rw [imin_t]
        omega
      have q2 : imin (-0) ic = 0 := by
        apply Int32.toInt_inj.mp
        rw [imin_t, show (-0 : Int32) = 0 from rfl]
        omega
      rw [q1, q2]
      rfl
    · rw [if_neg c2, Int32.sub_eq_add_neg]
def LkI (S : ST) (dN : Nat) : Prop := ∀ j, j < dN → ∃ p q r, S j = nI p ∧ S (10 + j) = nI q ∧ p + q ≤ 99 ∧ S (30 + j) = nI r ∧ r ≤ p + q ∧ S (40 + j) = nI (p + q - r)
theorem LkI.lk {S : ST} {dN : Nat} (h : LkI S dN) : Lk S dN := fun j hj => by
  obtain ⟨p, q, r, h1, h2, h3, -⟩ := h j hj
  exact ⟨p, q, h1, h2, h3⟩
section C4
variable {G : GG} {σ : Hp} {Z : VT} {a b : Nat} {V : VT} {cN dN mN gk : Nat} {gw : Option GWt} {gi : Option GIt}
set_option maxRecDepth 100000 in
theorem sc_iceBehind (hE : NE G) (hW : NW σ Z a b V cN dN mN gk gw gi) {dg stv brt : Int32} (h3 : Z (a + 5) 3 = dg) (h4 : Z (a + 5) 4 = stv) (h6 : Z (a + 5) 6 = brt) (slt ic wt : Int32) : Sp G mX4_iceBehind 3 [.ref a, .int slt, .int ic, .int wt] (cv σ Z) (fun rv σ' => rv = some (.int (ibV (frF gi dg stv slt brt ic wt) ic wt)) ∧ ∃ Z2 : VT, σ' = cv σ Z2 ∧ Fr (Scr σ a b) Z Z2 ∧ Z2 (a + 5) 3 = dg ∧ Z2 (a + 5) 4 = stv ∧ Z2 (a + 5) 6 = brt) := by
  have D := dat dl_X4_iceBehind
  show HT G mX4_iceBehind 0 [some (.ref a), some (.int slt), some (.int ic), some (.int wt), none] [] (cv σ Z) 3 _
  cases gi with
  | none =>
    have h5 : zQ σ b 6 = none := hW.lw.2.2.2.1
    have hfr : frF none dg stv slt brt ic wt = clp (-dg - stv - slt * 3 - brt) 20 := rfl
    refine ht_aload_n (D 0 rfl) rfl rfl ?_
    refine gf_X4_31 rfl (D 1 rfl) hW.nt.k0 hW.lq ?_
    refine gn_X4_137 rfl (D 2 rfl) hW.lb.k0 h5 ?_
    refine ht_ifnonnullN (D 3 rfl) ?_
    refine ht_aload_n (D 4 rfl) rfl rfl ?_
    refine gf_X4_27 rfl (D 5 rfl) hW.nt.k0 hW.nt.q5 ?_
    refine ht_iconst (v := 3) (D 6 rfl) (by decide) ?_
    refine hi_ild (n := 3) (D 7 rfl) hW.nt.k5 hW.nt.n5 rfl (by omega) (by first | decide | omega) ?_
    refine ht_ineg (D 8 rfl) ?_
    refine ht_aload_n (D 9 rfl) rfl rfl ?_
    refine gf_X4_27 rfl (D 10 rfl) hW.nt.k0 hW.nt.q5 ?_
    refine ht_iconst (v := 4) (D 11 rfl) (by decide) ?_
    refine hi_ild (n := 4) (D 12 rfl) hW.nt.k5 hW.nt.n5 rfl (by omega) (by first | decide | omega) ?_
    refine ht_isub (D 13 rfl) ?_
    refine ht_iload_n (D 14 rfl) rfl rfl ?_
    refine ht_iconst (v := 3) (D 15 rfl) (by decide) ?_
    refine ht_imul (D 16 rfl) ?_
    refine ht_isub (D 17 rfl) ?_
    refine ht_aload_n (D 18 rfl) rfl rfl ?_
    refine gf_X4_27 rfl (D 19 rfl) hW.nt.k0 hW.nt.q5 ?_
    refine ht_bipush (v := 6) (D 20 rfl) (by decide) ?_
    refine hi_ild (n := 6) (D 21 rfl) hW.nt.k5 hW.nt.n5 rfl (by omega) (by first | decide | omega) ?_
    refine ht_isub (D 22 rfl) ?_
    rw [h3, h4, h6]
    refine ht_istore (D 23 rfl) (by decide) rfl ?_
    refine ht_goto (tgt := 80) (D 24 rfl) (by decide) ?_
    refine ht_bipush (v := 20) (D 47 rfl) (by decide) ?_
    refine ht_iload (D 48 rfl) rfl ?_
    refine kSX4_atMost (As := [_, _]) cl_X4_91 (D 49 rfl) (sc_atMost 20 _) rfl (Nat.le_of_ble_eq_true rfl) rfl (Nat.le_of_ble_eq_true rfl) (by omega) ?_
    rintro _ _ ⟨rfl, rfl⟩
    rw [clp_20]
    refine ht_topi (fun u hu => ?_)
    refine ht_istore (D 50 rfl) (by decide) rfl ?_
    refine ht_iload (D 51 rfl) rfl ?_
    refine ht_if_lt (tgt := 105) (D 52 rfl) (by decide) (fun hb91 => ?_) (fun hb91 => ?_)
    · skip
      refine ht_iload_n (D 59 rfl) rfl rfl ?_
      refine ht_iload (D 60 rfl) rfl ?_
      refine ht_ineg (D 61 rfl) ?_
      refine ht_iload_n (D 62 rfl) rfl rfl ?_
      refine ht_mmin mm_X4_140 mm_smin mm_ini mm_cmin (D 63 rfl) (Nat.le_of_ble_eq_true rfl) (by omega) ?_
      refine ht_isub (D 64 rfl) ?_
      refine ht_iret (D 65 rfl) rfl rfl ?_
      exact ⟨by rw [hu, ← hfr]; unfold ibV; (first | rw [if_neg (Int32.not_le.mpr (by rw [hfr, ← hu]; assumption))] | rw [if_pos (Int32.not_lt.mp (by rw [hfr, ← hu]; assumption))]); rfl, Z, rfl, Fr.rf _ _, h3, h4, h6⟩
    · skip
      refine ht_iload_n (D 53 rfl) rfl rfl ?_
      refine ht_iload (D 54 rfl) rfl ?_
      refine ht_iload_n (D 55 rfl) rfl rfl ?_
      refine ht_mmin mm_X4_140 mm_smin mm_ini mm_cmin (D 56 rfl) (Nat.le_of_ble_eq_true rfl) (by omega) ?_
      refine ht_iadd (D 57 rfl) ?_
      refine ht_goto (tgt := 114) (D 58 rfl) (by decide) ?_
      refine ht_iret (D 65 rfl) rfl rfl ?_
      exact ⟨by rw [hu, ← hfr]; unfold ibV; (first | rw [if_neg (Int32.not_le.mpr (by rw [hfr, ← hu]; assumption))] | rw [if_pos (Int32.not_lt.mp (by rw [hfr, ← hu]; assumption))]); rfl, Z, rfl, Fr.rf _ _, h3, h4, h6⟩
  | some g =>
    obtain ⟨f, n, h5, hF, hg⟩ := hW.lw.2.2.2.1
    have hfr : frF (some g) dg stv slt brt ic wt = clp (g dg stv slt brt ic wt) 20 := rfl
    refine ht_aload_n (D 0 rfl) rfl rfl ?_
    refine gf_X4_31 rfl (D 1 rfl) hW.nt.k0 hW.lq ?_
    refine gf_X4_137 rfl (D 2 rfl) hW.lb.k0 h5 ?_
    refine ht_ifnonnull (tgt := 41) (D 3 rfl) (by decide) ?_
    refine ht_aload_n (D 25 rfl) rfl rfl ?_
    refine gf_X4_27 rfl (D 26 rfl) hW.nt.k0 hW.nt.q5 ?_
    refine ht_iconst (v := 5) (D 27 rfl) (by decide) ?_
    refine ht_iload_n (D 28 rfl) rfl rfl ?_
    refine hi_ist (n := 5) (D 29 rfl) hW.nt.k5 hW.nt.n5 rfl (by omega) (by first | decide | omega) ?_
    refine ht_aload_n (D 30 rfl) rfl rfl ?_
    refine gf_X4_27 rfl (D 31 rfl) hW.nt.k0 hW.nt.q5 ?_
    refine ht_bipush (v := 7) (D 32 rfl) (by decide) ?_
    refine ht_iload_n (D 33 rfl) rfl rfl ?_
    refine hi_ist (n := 7) (D 34 rfl) hW.nt.k5 hW.nt.n5 rfl (by omega) (by first | decide | omega) ?_
    refine ht_aload_n (D 35 rfl) rfl rfl ?_
    refine gf_X4_27 rfl (D 36 rfl) hW.nt.k0 hW.nt.q5 ?_
    refine ht_bipush (v := 8) (D 37 rfl) (by decide) ?_
    refine ht_iload_n (D 38 rfl) rfl rfl ?_
    refine hi_ist (n := 8) (D 39 rfl) hW.nt.k5 hW.nt.n5 rfl (by omega) (by first | decide | omega) ?_
    refine ht_aload_n (D 40 rfl) rfl rfl ?_
    refine gf_X4_31 rfl (D 41 rfl) hW.nt.k0 hW.lq ?_
    refine gf_X4_137 rfl (D 42 rfl) hW.lb.k0 h5 ?_
    refine ht_aload_n (D 43 rfl) rfl rfl ?_
    refine gf_X4_27 rfl (D 44 rfl) hW.nt.k0 hW.nt.q5 ?_
    refine kVX1_valueBy (As := [_]) cl_X4_85 (D 45 rfl) (sc_valueBy hE hF hW.nt.k5 hW.nt.n5 (by rcases hW.ap.2 f (Or.inr h5) with c | c <;> omega)) hF.k0 rfl (Nat.le_of_ble_eq_true rfl) rfl (Nat.le_of_ble_eq_true rfl) (by omega) ?_
    rintro _ _ ⟨rfl, Z2, rfl, hZ2⟩
    have hne : f + 1 ≠ a + 5 := by rcases hW.ap.2 f (Or.inr h5) with c | c <;> omega
    have hne2 : f + 2 ≠ a + 5 := by rcases hW.ap.2 f (Or.inr h5) with c | c <;> omega
    have hst : up2 (up2 (up2 Z (a + 5) 5 slt) (a + 5) 7 ic) (a + 5) 8 wt (f + 2) = Z (f + 2) := by rw [up2_o _ _ hne2, up2_o _ _ hne2, up2_o _ _ hne2]
    have hval : (vbL (up2 (up2 (up2 Z (a + 5) 5 slt) (a + 5) 7 ic) (a + 5) 8 wt (a + 5)) (up2 (up2 (up2 Z (a + 5) 5 slt) (a + 5) 7 ic) (a + 5) 8 wt (f + 2)) (up2 (up2 (up2 Z (a + 5) 5 slt) (a + 5) 7 ic) (a + 5) 8 wt (f + 1), 0) n).1 0 = g dg stv slt brt ic wt := by
      rw [hst, hg]
      simp [up2, h3, h4, h6]
    have hZ5 : Z2 (a + 5) = up2 (up2 (up2 Z (a + 5) 5 slt) (a + 5) 7 ic) (a + 5) 8 wt (a + 5) := hZ2 _ (fun e => hne e.symm)
    have hfr2 : Fr (Scr σ a b) Z Z2 := fun q hq => (hZ2 q (fun e => hq (Or.inr ⟨f, Or.inr h5, e⟩))).trans (by
      have hq5 : q ≠ a + 5 := fun e => hq (Or.inl e)
      rw [up2_o _ _ hq5, up2_o _ _ hq5, up2_o _ _ hq5])
    rw [hval]
    refine ht_istore (D 46 rfl) (by decide) rfl ?_
    refine ht_bipush (v := 20) (D 47 rfl) (by decide) ?_
    refine ht_iload (D 48 rfl) rfl ?_
    refine kSX4_atMost (As := [_, _]) cl_X4_91 (D 49 rfl) (sc_atMost 20 _) rfl (Nat.le_of_ble_eq_true rfl) rfl (Nat.le_of_ble_eq_true rfl) (by omega) ?_
    rintro _ _ ⟨rfl, rfl⟩
    rw [clp_20]
    refine ht_topi (fun u hu => ?_)
    refine ht_istore (D 50 rfl) (by decide) rfl ?_
    refine ht_iload (D 51 rfl) rfl ?_
    refine ht_if_lt (tgt := 105) (D 52 rfl) (by decide) (fun hb91 => ?_) (fun hb91 => ?_)
    · skip
      refine ht_iload_n (D 59 rfl) rfl rfl ?_
      refine ht_iload (D 60 rfl) rfl ?_
      refine ht_ineg (D 61 rfl) ?_
      refine ht_iload_n (D 62 rfl) rfl rfl ?_
      refine ht_mmin mm_X4_140 mm_smin mm_ini mm_cmin (D 63 rfl) (Nat.le_of_ble_eq_true rfl) (by omega) ?_
      refine ht_isub (D 64 rfl) ?_
      refine ht_iret (D 65 rfl) rfl rfl ?_
      exact ⟨by rw [hu, ← hfr]; unfold ibV; (first | rw [if_neg (Int32.not_le.mpr (by rw [hfr, ← hu]; assumption))] | rw [if_pos (Int32.not_lt.mp (by rw [hfr, ← hu]; assumption))]); rfl, Z2, rfl, hfr2, (by rw [hZ5]; simp [up2, h3, h4, h6]), (by rw [hZ5]; simp [up2, h3, h4, h6]), (by rw [hZ5]; simp [up2, h3, h4, h6])⟩
    · skip
      refine ht_iload_n (D 53 rfl) rfl rfl ?_
      refine ht_iload (D 54 rfl) rfl ?_
      refine ht_iload_n (D 55 rfl) rfl rfl ?_
      refine ht_mmin mm_X4_140 mm_smin mm_ini mm_cmin (D 56 rfl) (Nat.le_of_ble_eq_true rfl) (by omega) ?_
      refine ht_iadd (D 57 rfl) ?_
      refine ht_goto (tgt := 114) (D 58 rfl) (by decide) ?_
      refine ht_iret (D 65 rfl) rfl rfl ?_
      exact ⟨by rw [hu, ← hfr]; unfold ibV; (first | rw [if_neg (Int32.not_le.mpr (by rw [hfr, ← hu]; assumption))] | rw [if_pos (Int32.not_lt.mp (by rw [hfr, ← hu]; assumption))]); rfl, Z2, rfl, hfr2, (by rw [hZ5]; simp [up2, h3, h4, h6]), (by rw [hZ5]; simp [up2, h3, h4, h6]), (by rw [hZ5]; simp [up2, h3, h4, h6])⟩
set_option maxRecDepth 100000 in
theorem sc_freeze (hE : NE G) (hW : NW σ Z a b V cN dN mN gk gw gi) {dg stv brt : Int32} (h3 : Z (a + 5) 3 = dg) (h4 : Z (a + 5) 4 = stv) (h6 : Z (a + 5) 6 = brt) {j : Nat} (hj : j < 10) : Sp G mX4_freeze 4 [.ref a, .ref (a + 6 + j)] (cv σ Z) (fun rv σ' => rv = none ∧ ∃ Z3 : VT, σ' = cv σ Z3 ∧ (∀ r, ¬ Scr σ a b r → r ≠ a + 6 + j → Z3 r = Z r) ∧ Z3 (a + 6 + j) 0 = ibV (frF gi dg stv (Z (a + 6 + j) 2) brt (Z (a + 6 + j) 0) (Z (a + 6 + j) 1)) (Z (a + 6 + j) 0) (Z (a + 6 + j) 1) ∧ Z3 (a + 6 + j) 1 = Z (a + 6 + j) 0 + Z (a + 6 + j) 1 - ibV (frF gi dg stv (Z (a + 6 + j) 2) brt (Z (a + 6 + j) 0) (Z (a + 6 + j) 1)) (Z (a + 6 + j) 0) (Z (a + 6 + j) 1) ∧ Z3 (a + 6 + j) 2 = imax 0 (Z (a + 6 + j) 2 - 1) ∧ Z3 (a + 6 + j) 3 = ibV (frF gi dg stv 0 brt (Z (a + 6 + j) 3) (Z (a + 6 + j) 0 + Z (a + 6 + j) 1 - Z (a + 6 + j) 3)) (Z (a + 6 + j) 3) (Z (a + 6 + j) 0 + Z (a + 6 + j) 1 - Z (a + 6 + j) 3) ∧ Z3 (a + 6 + j) 4 = Z (a + 6 + j) 4) := by
  have D := dat dl_X4_freeze
  show HT G mX4_freeze 0 [some (.ref a), some (.ref (a + 6 + j)), none, none, none] [] (cv σ Z) 4 _
  have hnq : ¬ Scr σ a b (a + 6 + j) := by
    rintro (c | ⟨f, c1, c2⟩)
    · omega
    · rcases hW.ap.2 f c1 with c | c <;> omega
  refine ht_aload_n (D 0 rfl) rfl rfl ?_
  refine kVX3_held (As := []) cl_X4_145 (D 1 rfl) (sc_held (hW.nt.lk (j := j) (by omega))) (hW.nt.lk (j := j) (by omega)) rfl (Nat.le_of_ble_eq_true rfl) rfl (Nat.le_of_ble_eq_true rfl) (by omega) ?_
  rintro _ _ ⟨rfl, rfl⟩
  refine ht_istore_n (D 2 rfl) rfl (by decide) rfl ?_
  refine ht_aload_n (D 3 rfl) rfl rfl ?_
  refine gi_X4_94 rfl (D 4 rfl) (hW.nt.lk (j := j) (by omega)) ?_
  refine ht_if_ne (tgt := 27) (D 5 rfl) (by decide) (fun hb9 => ?_) (fun hb9 => ?_)
  · skip
    refine ht_iconst (v := 0) (D 13 rfl) (by decide) ?_
    refine ht_istore_n (D 14 rfl) rfl (by decide) rfl ?_
    refine ht_aload_n (D 15 rfl) rfl rfl ?_
    refine ht_aload_n (D 16 rfl) rfl rfl ?_
    refine gi_X4_94 rfl (D 17 rfl) (hW.nt.lk (j := j) (by omega)) ?_
    refine ht_aload_n (D 18 rfl) rfl rfl ?_
    refine gi_X4_152 rfl (D 19 rfl) (hW.nt.lk (j := j) (by omega)) ?_
    refine ht_aload_n (D 20 rfl) rfl rfl ?_
    refine gi_X4_154 rfl (D 21 rfl) (hW.nt.lk (j := j) (by omega)) ?_
    refine kVX4_iceBehind (As := [_, _, _]) cl_X4_157 (D 22 rfl) (sc_iceBehind hE hW h3 h4 h6 _ _ _) hW.nt.k0 rfl (Nat.le_of_ble_eq_true rfl) rfl (Nat.le_of_ble_eq_true rfl) (by omega) ?_
    rintro _ _ ⟨rfl, Z1, rfl, hf1, g3, g4, g6⟩
    have e1 : Z1 (a + 6 + j) = Z (a + 6 + j) := hf1 _ hnq
    have hW1 := hW.keep (hf1.mono (fun _ => Scr.np))
    refine ht_istore (D 23 rfl) (by decide) rfl ?_
    refine ht_aload_n (D 24 rfl) rfl rfl ?_
    refine ht_iload_n (D 25 rfl) rfl rfl ?_
    refine ht_if_eq (tgt := 57) (D 26 rfl) (by decide) (fun hb49 => ?_) (fun hb49 => absurd (by decide) hb49)
    refine ht_aload_n (D 29 rfl) rfl rfl ?_
    refine ht_iconst (v := 0) (D 30 rfl) (by decide) ?_
    refine ht_aload_n (D 31 rfl) rfl rfl ?_
    refine gi_X4_149 rfl (D 32 rfl) (hW.nt.lk (j := j) (by omega)) ?_
    refine ht_iload_n (D 33 rfl) rfl rfl ?_
    refine ht_aload_n (D 34 rfl) rfl rfl ?_
    refine gi_X4_149 rfl (D 35 rfl) (hW.nt.lk (j := j) (by omega)) ?_
    simp only [e1]
    refine ht_isub (D 36 rfl) ?_
    refine kVX4_iceBehind (As := [_, _, _]) cl_X4_157 (D 37 rfl) (sc_iceBehind hE hW1 g3 g4 g6 _ _ _) hW.nt.k0 rfl (Nat.le_of_ble_eq_true rfl) rfl (Nat.le_of_ble_eq_true rfl) (by omega) ?_
    rintro _ _ ⟨rfl, Z2, rfl, hf2, -⟩
    have e2 : Z2 (a + 6 + j) = Z (a + 6 + j) := (hf2 _ hnq).trans e1
    refine pi_X4_149 rfl (D 38 rfl) (hW.nt.lk (j := j) (by omega)) ?_
    refine ht_aload_n (D 39 rfl) rfl rfl ?_
    refine ht_iload (D 40 rfl) rfl ?_
    refine pi_X4_152 rfl (D 41 rfl) (hW.nt.lk (j := j) (by omega)) ?_
    refine ht_aload_n (D 42 rfl) rfl rfl ?_
    refine ht_iload_n (D 43 rfl) rfl rfl ?_
    refine ht_iload (D 44 rfl) rfl ?_
    refine ht_isub (D 45 rfl) ?_
    refine pi_X4_154 rfl (D 46 rfl) (hW.nt.lk (j := j) (by omega)) ?_
    refine ht_aload_n (D 47 rfl) rfl rfl ?_
    refine ht_aload_n (D 48 rfl) rfl rfl ?_
    refine ht_iconst (v := 1) (D 49 rfl) (by decide) ?_
    refine kVX3_saltBehind (As := [_]) cl_X4_161 (D 50 rfl) (sc_saltBehind (hW.nt.lk (j := j) (by omega)) 1) (hW.nt.lk (j := j) (by omega)) rfl (Nat.le_of_ble_eq_true rfl) rfl (Nat.le_of_ble_eq_true rfl) (by omega) ?_
    rintro _ _ ⟨rfl, rfl⟩
    refine pi_X4_94 rfl (D 51 rfl) (hW.nt.lk (j := j) (by omega)) ?_
    refine ht_vret (D 52 rfl) rfl ?_
    first
    | (refine ⟨rfl, _, rfl, fun r hr hrq => ?_, ?_, ?_, ?_, ?_, ?_⟩
       · rw [up2_o _ _ hrq, up2_o _ _ hrq, up2_o _ _ hrq, up2_o _ _ hrq]; exact hf1 r hr
       · simp [up2]
       · simp [up2]
       · simp [up2, e1]
       · simp [up2, hun]
       · simp [up2, e1])
    | (refine ⟨rfl, _, rfl, fun r hr hrq => ?_, ?_, ?_, ?_, ?_, ?_⟩
       · rw [up2_o _ _ hrq, up2_o _ _ hrq, up2_o _ _ hrq, up2_o _ _ hrq]; exact (hf2 r hr).trans (hf1 r hr)
       · simp [up2]
       · simp [up2]
       · simp [up2, e2]
       · simp [up2]
       · simp [up2, e2])
  · skip
    refine ht_aload_n (D 6 rfl) rfl rfl ?_
    refine gi_X4_149 rfl (D 7 rfl) (hW.nt.lk (j := j) (by omega)) ?_
    refine ht_aload_n (D 8 rfl) rfl rfl ?_
    refine gi_X4_152 rfl (D 9 rfl) (hW.nt.lk (j := j) (by omega)) ?_
    refine ht_icmp_ne (tgt := 27) (D 10 rfl) (by decide) (fun hb20 => ?_) (fun hb20 => ?_)
    · skip
      refine ht_iconst (v := 0) (D 13 rfl) (by decide) ?_
      refine ht_istore_n (D 14 rfl) rfl (by decide) rfl ?_
      refine ht_aload_n (D 15 rfl) rfl rfl ?_
      refine ht_aload_n (D 16 rfl) rfl rfl ?_
      refine gi_X4_94 rfl (D 17 rfl) (hW.nt.lk (j := j) (by omega)) ?_
      refine ht_aload_n (D 18 rfl) rfl rfl ?_
      refine gi_X4_152 rfl (D 19 rfl) (hW.nt.lk (j := j) (by omega)) ?_
      refine ht_aload_n (D 20 rfl) rfl rfl ?_
      refine gi_X4_154 rfl (D 21 rfl) (hW.nt.lk (j := j) (by omega)) ?_
      refine kVX4_iceBehind (As := [_, _, _]) cl_X4_157 (D 22 rfl) (sc_iceBehind hE hW h3 h4 h6 _ _ _) hW.nt.k0 rfl (Nat.le_of_ble_eq_true rfl) rfl (Nat.le_of_ble_eq_true rfl) (by omega) ?_
      rintro _ _ ⟨rfl, Z1, rfl, hf1, g3, g4, g6⟩
      have e1 : Z1 (a + 6 + j) = Z (a + 6 + j) := hf1 _ hnq
      have hW1 := hW.keep (hf1.mono (fun _ => Scr.np))
      refine ht_istore (D 23 rfl) (by decide) rfl ?_
      refine ht_aload_n (D 24 rfl) rfl rfl ?_
      refine ht_iload_n (D 25 rfl) rfl rfl ?_
      refine ht_if_eq (tgt := 57) (D 26 rfl) (by decide) (fun hb49 => ?_) (fun hb49 => absurd (by decide) hb49)
      refine ht_aload_n (D 29 rfl) rfl rfl ?_
      refine ht_iconst (v := 0) (D 30 rfl) (by decide) ?_
      refine ht_aload_n (D 31 rfl) rfl rfl ?_
      refine gi_X4_149 rfl (D 32 rfl) (hW.nt.lk (j := j) (by omega)) ?_
      refine ht_iload_n (D 33 rfl) rfl rfl ?_
      refine ht_aload_n (D 34 rfl) rfl rfl ?_
      refine gi_X4_149 rfl (D 35 rfl) (hW.nt.lk (j := j) (by omega)) ?_
      simp only [e1]
      refine ht_isub (D 36 rfl) ?_
      refine kVX4_iceBehind (As := [_, _, _]) cl_X4_157 (D 37 rfl) (sc_iceBehind hE hW1 g3 g4 g6 _ _ _) hW.nt.k0 rfl (Nat.le_of_ble_eq_true rfl) rfl (Nat.le_of_ble_eq_true rfl) (by omega) ?_
      rintro _ _ ⟨rfl, Z2, rfl, hf2, -⟩
      have e2 : Z2 (a + 6 + j) = Z (a + 6 + j) := (hf2 _ hnq).trans e1
      refine pi_X4_149 rfl (D 38 rfl) (hW.nt.lk (j := j) (by omega)) ?_
      refine ht_aload_n (D 39 rfl) rfl rfl ?_
      refine ht_iload (D 40 rfl) rfl ?_
      refine pi_X4_152 rfl (D 41 rfl) (hW.nt.lk (j := j) (by omega)) ?_
      refine ht_aload_n (D 42 rfl) rfl rfl ?_
      refine ht_iload_n (D 43 rfl) rfl rfl ?_
      refine ht_iload (D 44 rfl) rfl ?_
      refine ht_isub (D 45 rfl) ?_
      refine pi_X4_154 rfl (D 46 rfl) (hW.nt.lk (j := j) (by omega)) ?_
      refine ht_aload_n (D 47 rfl) rfl rfl ?_
      refine ht_aload_n (D 48 rfl) rfl rfl ?_
      refine ht_iconst (v := 1) (D 49 rfl) (by decide) ?_
      refine kVX3_saltBehind (As := [_]) cl_X4_161 (D 50 rfl) (sc_saltBehind (hW.nt.lk (j := j) (by omega)) 1) (hW.nt.lk (j := j) (by omega)) rfl (Nat.le_of_ble_eq_true rfl) rfl (Nat.le_of_ble_eq_true rfl) (by omega) ?_
      rintro _ _ ⟨rfl, rfl⟩
      refine pi_X4_94 rfl (D 51 rfl) (hW.nt.lk (j := j) (by omega)) ?_
      refine ht_vret (D 52 rfl) rfl ?_
      first
      | (refine ⟨rfl, _, rfl, fun r hr hrq => ?_, ?_, ?_, ?_, ?_, ?_⟩
         · rw [up2_o _ _ hrq, up2_o _ _ hrq, up2_o _ _ hrq, up2_o _ _ hrq]; exact hf1 r hr
         · simp [up2]
         · simp [up2]
         · simp [up2, e1]
         · simp [up2, hun]
         · simp [up2, e1])
      | (refine ⟨rfl, _, rfl, fun r hr hrq => ?_, ?_, ?_, ?_, ?_, ?_⟩
         · rw [up2_o _ _ hrq, up2_o _ _ hrq, up2_o _ _ hrq, up2_o _ _ hrq]; exact (hf2 r hr).trans (hf1 r hr)
         · simp [up2]
         · simp [up2]
         · simp [up2, e2]
         · simp [up2]
         · simp [up2, e2])
    · skip
      have hun : ibV (frF gi dg stv (Z (a + 6 + j) 2) brt (Z (a + 6 + j) 0) (Z (a + 6 + j) 1)) (Z (a + 6 + j) 0) (Z (a + 6 + j) 1) = ibV (frF gi dg stv 0 brt (Z (a + 6 + j) 3) (Z (a + 6 + j) 0 + Z (a + 6 + j) 1 - Z (a + 6 + j) 3)) (Z (a + 6 + j) 3) (Z (a + 6 + j) 0 + Z (a + 6 + j) 1 - Z (a + 6 + j) 3) := by
        rw [hb9, hb20, show Z (a + 6 + j) 0 + Z (a + 6 + j) 1 - Z (a + 6 + j) 0 = Z (a + 6 + j) 1 by grind]
      refine ht_iconst (v := 1) (D 11 rfl) (by decide) ?_
      refine ht_goto (tgt := 28) (D 12 rfl) (by decide) ?_
      refine ht_istore_n (D 14 rfl) rfl (by decide) rfl ?_
      refine ht_aload_n (D 15 rfl) rfl rfl ?_
      refine ht_aload_n (D 16 rfl) rfl rfl ?_
      refine gi_X4_94 rfl (D 17 rfl) (hW.nt.lk (j := j) (by omega)) ?_
      refine ht_aload_n (D 18 rfl) rfl rfl ?_
      refine gi_X4_152 rfl (D 19 rfl) (hW.nt.lk (j := j) (by omega)) ?_
      refine ht_aload_n (D 20 rfl) rfl rfl ?_
      refine gi_X4_154 rfl (D 21 rfl) (hW.nt.lk (j := j) (by omega)) ?_
      refine kVX4_iceBehind (As := [_, _, _]) cl_X4_157 (D 22 rfl) (sc_iceBehind hE hW h3 h4 h6 _ _ _) hW.nt.k0 rfl (Nat.le_of_ble_eq_true rfl) rfl (Nat.le_of_ble_eq_true rfl) (by omega) ?_
      rintro _ _ ⟨rfl, Z1, rfl, hf1, g3, g4, g6⟩
      have e1 : Z1 (a + 6 + j) = Z (a + 6 + j) := hf1 _ hnq
      have hW1 := hW.keep (hf1.mono (fun _ => Scr.np))
      refine ht_istore (D 23 rfl) (by decide) rfl ?_
      refine ht_aload_n (D 24 rfl) rfl rfl ?_
      refine ht_iload_n (D 25 rfl) rfl rfl ?_
      refine ht_if_eq (tgt := 57) (D 26 rfl) (by decide) (fun hb49 => absurd hb49 (by decide)) (fun hb49 => ?_)
      refine ht_iload (D 27 rfl) rfl ?_
      refine ht_goto (tgt := 72) (D 28 rfl) (by decide) ?_
      refine pi_X4_149 rfl (D 38 rfl) (hW.nt.lk (j := j) (by omega)) ?_
      refine ht_aload_n (D 39 rfl) rfl rfl ?_
      refine ht_iload (D 40 rfl) rfl ?_
      refine pi_X4_152 rfl (D 41 rfl) (hW.nt.lk (j := j) (by omega)) ?_
      refine ht_aload_n (D 42 rfl) rfl rfl ?_
      refine ht_iload_n (D 43 rfl) rfl rfl ?_
      refine ht_iload (D 44 rfl) rfl ?_
      refine ht_isub (D 45 rfl) ?_
      refine pi_X4_154 rfl (D 46 rfl) (hW.nt.lk (j := j) (by omega)) ?_
      refine ht_aload_n (D 47 rfl) rfl rfl ?_
      refine ht_aload_n (D 48 rfl) rfl rfl ?_
      refine ht_iconst (v := 1) (D 49 rfl) (by decide) ?_
      refine kVX3_saltBehind (As := [_]) cl_X4_161 (D 50 rfl) (sc_saltBehind (hW.nt.lk (j := j) (by omega)) 1) (hW.nt.lk (j := j) (by omega)) rfl (Nat.le_of_ble_eq_true rfl) rfl (Nat.le_of_ble_eq_true rfl) (by omega) ?_
      rintro _ _ ⟨rfl, rfl⟩
      refine pi_X4_94 rfl (D 51 rfl) (hW.nt.lk (j := j) (by omega)) ?_
      refine ht_vret (D 52 rfl) rfl ?_
      first
      | (refine ⟨rfl, _, rfl, fun r hr hrq => ?_, ?_, ?_, ?_, ?_, ?_⟩
         · rw [up2_o _ _ hrq, up2_o _ _ hrq, up2_o _ _ hrq, up2_o _ _ hrq]; exact hf1 r hr
         · simp [up2]
         · simp [up2]
         · simp [up2, e1]
         · simp [up2, hun]
         · simp [up2, e1])
      | (refine ⟨rfl, _, rfl, fun r hr hrq => ?_, ?_, ?_, ?_, ?_, ?_⟩
         · rw [up2_o _ _ hrq, up2_o _ _ hrq, up2_o _ _ hrq, up2_o _ _ hrq]; exact (hf2 r hr).trans (hf1 r hr)
         · simp [up2]
         · simp [up2]
         · simp [up2, e2]
         · simp [up2]
         · simp [up2, e2])
end C4
