/-! ===== the reference: degrees, frost, walks, an hour ===== -/
def FW (cs : Nat → Int32) (f n : Nat) (g : (Nat → Int32) → Int32) : Prop := ∀ V : VT, V 20 = cs → ∃ (V' : VT) (e : Nat), evL (opF V 0) 0 f n = some (V', e) ∧ tsF V' 0 23 0 = g (V 32)
abbrev GWt : Type := Int32 → Int32 → Int32 → Int32
abbrev GIt : Type := Int32 → Int32 → Int32 → Int32 → Int32 → Int32 → Int32
def LnW (V : VT) (g : Option GWt) : Prop := match g with
  | none => V 19 0 = V 18 0
  | some g => ∃ f n : Nat, V 18 0 = nI f ∧ V 19 0 = nI (f + n) ∧ 0 < n ∧ f + n ≤ 6000 ∧ FW (V 20) f n (fun v => g (v 1) (v 2) (v 3))
def LnI (V : VT) (g : Option GIt) : Prop := match g with
  | none => V 19 1 = V 18 1
  | some g => ∃ f n : Nat, V 18 1 = nI f ∧ V 19 1 = nI (f + n) ∧ 0 < n ∧ f + n ≤ 6000 ∧ FW (V 20) f n (fun v => g (v 1) (v 2) (v 3) (v 4) (v 5) (v 6))
def clp (x k : Int32) : Int32 := if x < -k then -k else if k < x then k else x
def dgF (g : Option GWt) (h : Nat) (md : Int32) : Int32 := match g with
  | none => -10
  | some g => clp (g (nI (h % 24)) (nI (h / 24)) md) 40
def frF (g : Option GIt) (dg stv slt brt ic wt : Int32) : Int32 := match g with
  | none => clp (-dg - stv - slt * 3 - brt) 20
  | some g => clp (g dg stv slt brt ic wt) 20
def Sc (V V' : VT) : Prop := ∀ o, ¬ (23 ≤ o ∧ o ≤ 32) → V' o = V o
theorem Sc.rf (V : VT) : Sc V V := fun _ _ => rfl
theorem Sc.tr {V V1 V2 : VT} (h1 : Sc V V1) (h2 : Sc V1 V2) : Sc V V2 := fun o h => (h2 o h).trans (h1 o h)
theorem Sc.up {V V1 : VT} (h1 : Sc V V1) {k : Nat} (v : Int32) : Sc V (up2 V1 32 k v) := fun o h => (up2_o V1 v (show o ≠ 32 from fun e => h (by rw [e]; decide))).trans (h1 o h)
theorem Kp.sc {V V' : VT} (h : Kp V V') : Sc V V' := fun o q => h o (fun r => q ⟨r.1, by omega⟩)
section M3
variable {G : GG} {σ : Hp} {m : Nat} {V : VT} {U : UT}
set_option maxRecDepth 100000 in
theorem sm_degreesAt (hM : MS σ m) {gw : Option GWt} (hL : LnW V gw) {h : Nat} (hh : h < 2 ^ 31) (md : Int32) : Sp G mX10_degreesAt 3 [.ref m, .int (nI h), .int md] (sv σ m V U) (fun rv σ' => rv = some (.int (dgF gw h md)) ∧ ∃ V' : VT, σ' = sv σ m V' U ∧ Sc V V') := by
  have D := dat dl_X10_degreesAt
  show HT G mX10_degreesAt 0 [some (.ref m), some (.int (nI h)), some (.int md)] [] (sv σ m V U) 3 _
  cases gw with
  | none =>
    refine ht_aload_n (D 0 rfl) rfl rfl ?_
    refine gf_X10_65 rfl (D 1 rfl) hM.k0 hM.q19 ?_
    refine ht_iconst (v := 0) (D 2 rfl) (by decide) ?_
    refine hm_ild (o := 19) (n := 0) (by decide) (D 3 rfl) hM.k19 hM.n19 (by first | rfl | exact nI_add _ _ | assumption) (by omega) (by decide) ?_
    refine ht_aload_n (D 4 rfl) rfl rfl ?_
    refine gf_X10_62 rfl (D 5 rfl) hM.k0 hM.q18 ?_
    refine ht_iconst (v := 0) (D 6 rfl) (by decide) ?_
    refine hm_ild (o := 18) (n := 0) (by decide) (D 7 rfl) hM.k18 hM.n18 (by first | rfl | exact nI_add _ _ | assumption) (by omega) (by decide) ?_
    refine ht_icmp_ne (tgt := 18) (D 8 rfl) (by decide) (fun hb12 => ?_) (fun hb12 => ?_)
    · skip
      exact absurd hL hb12
    · skip
      refine ht_bipush (v := -10) (D 9 rfl) (by decide) ?_
      refine ht_iret (D 10 rfl) rfl rfl ?_
      exact ⟨rfl, V, rfl, Sc.rf V⟩
  | some g =>
    obtain ⟨f, n, h1, h2, h3, h4, hF⟩ := hL
    refine ht_aload_n (D 0 rfl) rfl rfl ?_
    refine gf_X10_65 rfl (D 1 rfl) hM.k0 hM.q19 ?_
    refine ht_iconst (v := 0) (D 2 rfl) (by decide) ?_
    refine hm_ild (o := 19) (n := 0) (by decide) (D 3 rfl) hM.k19 hM.n19 (by first | rfl | exact nI_add _ _ | assumption) (by omega) (by decide) ?_
    refine ht_aload_n (D 4 rfl) rfl rfl ?_
    refine gf_X10_62 rfl (D 5 rfl) hM.k0 hM.q18 ?_
    refine ht_iconst (v := 0) (D 6 rfl) (by decide) ?_
    refine hm_ild (o := 18) (n := 0) (by decide) (D 7 rfl) hM.k18 hM.n18 (by first | rfl | exact nI_add _ _ | assumption) (by omega) (by decide) ?_
    refine ht_icmp_ne (tgt := 18) (D 8 rfl) (by decide) (fun hb12 => ?_) (fun hb12 => ?_)
    · skip
      refine ht_aload_n (D 11 rfl) rfl rfl ?_
      refine gf_X10_105 rfl (D 12 rfl) hM.k0 hM.q32 ?_
      refine ht_iconst (v := 1) (D 13 rfl) (by decide) ?_
      refine ht_iload_n (D 14 rfl) rfl rfl ?_
      refine ht_bipush (v := 24) (D 15 rfl) (by decide) ?_
      refine ht_irem (D 16 rfl) (by decide) ?_
      rw [show (24 : Int32) = nI 24 from rfl, pk_rem hh (by decide) (by decide)]
      refine hm_ist (o := 32) (n := 1) (by decide) (D 17 rfl) hM.k32 hM.n32 (by first | rfl | exact nI_add _ _ | assumption) (by omega) (by decide) ?_
      refine ht_aload_n (D 18 rfl) rfl rfl ?_
      refine gf_X10_105 rfl (D 19 rfl) hM.k0 hM.q32 ?_
      refine ht_iconst (v := 2) (D 20 rfl) (by decide) ?_
      refine ht_iload_n (D 21 rfl) rfl rfl ?_
      refine ht_bipush (v := 24) (D 22 rfl) (by decide) ?_
      refine ht_idiv (D 23 rfl) (by decide) ?_
      rw [show (24 : Int32) = nI 24 from rfl, pk_div hh (by decide) (by decide)]
      refine hm_ist (o := 32) (n := 2) (by decide) (D 24 rfl) hM.k32 hM.n32 (by first | rfl | exact nI_add _ _ | assumption) (by omega) (by decide) ?_
      refine ht_aload_n (D 25 rfl) rfl rfl ?_
      refine gf_X10_105 rfl (D 26 rfl) hM.k0 hM.q32 ?_
      refine ht_iconst (v := 3) (D 27 rfl) (by decide) ?_
      refine ht_iload_n (D 28 rfl) rfl rfl ?_
      refine hm_ist (o := 32) (n := 3) (by decide) (D 29 rfl) hM.k32 hM.n32 (by first | rfl | exact nI_add _ _ | assumption) (by omega) (by decide) ?_
      refine ht_aload_n (D 30 rfl) rfl rfl ?_
      generalize hVx : up2 (up2 (up2 V 32 1 (nI (h % 24))) 32 2 (nI (h / 24))) 32 3 md = Vx
      have k18 : Vx 18 = V 18 := by rw [← hVx]; simp only [up2_o _ _ (show (18 : Nat) ≠ 32 by decide)]
      have k19 : Vx 19 = V 19 := by rw [← hVx]; simp only [up2_o _ _ (show (19 : Nat) ≠ 32 by decide)]
      have k20 : Vx 20 = V 20 := by rw [← hVx]; simp only [up2_o _ _ (show (20 : Nat) ≠ 32 by decide)]
      have hsx : Sc V Vx := by rw [← hVx]; exact (((Sc.rf V).up _).up _).up _
      obtain ⟨V', e, he, hv⟩ := hF Vx k20
      refine ht_iconst (v := 0) (D 31 rfl) (by decide) ?_
      refine kVX10_worked (As := [_]) cl_X10_340 (D 32 rfl) (sm_worked hM (ln := 0) (by decide) (by rw [k18]; exact h1) (by rw [k19]; exact h2) h4 he) hM.k0 rfl (Nat.le_of_ble_eq_true rfl) rfl (Nat.le_of_ble_eq_true rfl) (by omega) ?_
      rintro rv σ1 ⟨rfl, rfl⟩
      rw [hv]
      refine ht_bipush (v := -40) (D 33 rfl) (by decide) ?_
      refine ht_bipush (v := 40) (D 34 rfl) (by decide) ?_
      refine kSX10_between (As := [_, _, _]) cl_X10_343 (D 35 rfl) (sm_between _ _ _) rfl (Nat.le_of_ble_eq_true rfl) rfl (Nat.le_of_ble_eq_true rfl) (by omega) ?_
      rintro rv σ1 ⟨rfl, rfl⟩
      refine ht_iret (D 36 rfl) rfl rfl ?_
      refine ⟨?_, tsF V' 0, rfl, hsx.tr (((opF_kp Vx 0).tr ((evL_kp (by decide) he).1)).tr (tsF_kp V' 0)).sc⟩
      rw [← hVx]
      simp [up2, dgF, clp]
    · skip
      exact absurd (by rw [h2, h1] at hb12; exact (nI_eq (by omega) (by omega)).mp hb12) (by omega)
set_option maxRecDepth 100000 in
theorem sm_freezes (hM : MS σ m) {gi : Option GIt} (hL : LnI V gi) (dg stv slt brt ic wt : Int32) : Sp G mX10_freezes 3 [.ref m, .int dg, .int stv, .int slt, .int brt, .int ic, .int wt] (sv σ m V U) (fun rv σ' => rv = some (.int (frF gi dg stv slt brt ic wt)) ∧ ∃ V' : VT, σ' = sv σ m V' U ∧ Sc V V') := by
  have D := dat dl_X10_freezes
  show HT G mX10_freezes 0 [some (.ref m), some (.int dg), some (.int stv), some (.int slt), some (.int brt), some (.int ic), some (.int wt)] [] (sv σ m V U) 3 _
  cases gi with
  | none =>
    refine ht_aload_n (D 0 rfl) rfl rfl ?_
    refine gf_X10_65 rfl (D 1 rfl) hM.k0 hM.q19 ?_
    refine ht_iconst (v := 1) (D 2 rfl) (by decide) ?_
    refine hm_ild (o := 19) (n := 1) (by decide) (D 3 rfl) hM.k19 hM.n19 (by first | rfl | exact nI_add _ _ | assumption) (by omega) (by decide) ?_
    refine ht_aload_n (D 4 rfl) rfl rfl ?_
    refine gf_X10_62 rfl (D 5 rfl) hM.k0 hM.q18 ?_
    refine ht_iconst (v := 1) (D 6 rfl) (by decide) ?_
    refine hm_ild (o := 18) (n := 1) (by decide) (D 7 rfl) hM.k18 hM.n18 (by first | rfl | exact nI_add _ _ | assumption) (by omega) (by decide) ?_
    refine ht_icmp_ne (tgt := 34) (D 8 rfl) (by decide) (fun hb12 => ?_) (fun hb12 => ?_)
    · skip
      exact absurd hL hb12
    · skip
      refine ht_iload_n (D 9 rfl) rfl rfl ?_
      refine ht_ineg (D 10 rfl) ?_
      refine ht_iload_n (D 11 rfl) rfl rfl ?_
      refine ht_isub (D 12 rfl) ?_
      refine ht_iload_n (D 13 rfl) rfl rfl ?_
      refine ht_iconst (v := 3) (D 14 rfl) (by decide) ?_
      refine ht_imul (D 15 rfl) ?_
      refine ht_isub (D 16 rfl) ?_
      refine ht_iload (D 17 rfl) rfl ?_
      refine ht_isub (D 18 rfl) ?_
      refine ht_bipush (v := -20) (D 19 rfl) (by decide) ?_
      refine ht_bipush (v := 20) (D 20 rfl) (by decide) ?_
      refine kSX10_between (As := [_, _, _]) cl_X10_343 (D 21 rfl) (sm_between _ _ _) rfl (Nat.le_of_ble_eq_true rfl) rfl (Nat.le_of_ble_eq_true rfl) (by omega) ?_
      rintro rv σ1 ⟨rfl, rfl⟩
      refine ht_iret (D 22 rfl) rfl rfl ?_
      exact ⟨rfl, V, rfl, Sc.rf V⟩
  | some g =>
    obtain ⟨f, n, h1, h2, h3, h4, hF⟩ := hL
    refine ht_aload_n (D 0 rfl) rfl rfl ?_
    refine gf_X10_65 rfl (D 1 rfl) hM.k0 hM.q19 ?_
    refine ht_iconst (v := 1) (D 2 rfl) (by decide) ?_
    refine hm_ild (o := 19) (n := 1) (by decide) (D 3 rfl) hM.k19 hM.n19 (by first | rfl | exact nI_add _ _ | assumption) (by omega) (by decide) ?_
    refine ht_aload_n (D 4 rfl) rfl rfl ?_
    refine gf_X10_62 rfl (D 5 rfl) hM.k0 hM.q18 ?_
    refine ht_iconst (v := 1) (D 6 rfl) (by decide) ?_
    refine hm_ild (o := 18) (n := 1) (by decide) (D 7 rfl) hM.k18 hM.n18 (by first | rfl | exact nI_add _ _ | assumption) (by omega) (by decide) ?_
    refine ht_icmp_ne (tgt := 34) (D 8 rfl) (by decide) (fun hb12 => ?_) (fun hb12 => ?_)
    · skip
      refine ht_aload_n (D 23 rfl) rfl rfl ?_
      refine gf_X10_105 rfl (D 24 rfl) hM.k0 hM.q32 ?_
      refine ht_iconst (v := 1) (D 25 rfl) (by decide) ?_
      refine ht_iload_n (D 26 rfl) rfl rfl ?_
      refine hm_ist (o := 32) (n := 1) (by decide) (D 27 rfl) hM.k32 hM.n32 (by first | rfl | exact nI_add _ _ | assumption) (by omega) (by decide) ?_
      refine ht_aload_n (D 28 rfl) rfl rfl ?_
      refine gf_X10_105 rfl (D 29 rfl) hM.k0 hM.q32 ?_
      refine ht_iconst (v := 2) (D 30 rfl) (by decide) ?_
      refine ht_iload_n (D 31 rfl) rfl rfl ?_
      refine hm_ist (o := 32) (n := 2) (by decide) (D 32 rfl) hM.k32 hM.n32 (by first | rfl | exact nI_add _ _ | assumption) (by omega) (by decide) ?_
      refine ht_aload_n (D 33 rfl) rfl rfl ?_
      refine gf_X10_105 rfl (D 34 rfl) hM.k0 hM.q32 ?_
      refine ht_iconst (v := 3) (D 35 rfl) (by decide) ?_
      refine ht_iload_n (D 36 rfl) rfl rfl ?_
      refine hm_ist (o := 32) (n := 3) (by decide) (D 37 rfl) hM.k32 hM.n32 (by first | rfl | exact nI_add _ _ | assumption) (by omega) (by decide) ?_
      refine ht_aload_n (D 38 rfl) rfl rfl ?_
      refine gf_X10_105 rfl (D 39 rfl) hM.k0 hM.q32 ?_
      refine ht_iconst (v := 4) (D 40 rfl) (by decide) ?_
      refine ht_iload (D 41 rfl) rfl ?_
      refine hm_ist (o := 32) (n := 4) (by decide) (D 42 rfl) hM.k32 hM.n32 (by first | rfl | exact nI_add _ _ | assumption) (by omega) (by decide) ?_
      refine ht_aload_n (D 43 rfl) rfl rfl ?_
      refine gf_X10_105 rfl (D 44 rfl) hM.k0 hM.q32 ?_
      refine ht_iconst (v := 5) (D 45 rfl) (by decide) ?_
      refine ht_iload (D 46 rfl) rfl ?_
      refine hm_ist (o := 32) (n := 5) (by decide) (D 47 rfl) hM.k32 hM.n32 (by first | rfl | exact nI_add _ _ | assumption) (by omega) (by decide) ?_
      refine ht_aload_n (D 48 rfl) rfl rfl ?_
      refine gf_X10_105 rfl (D 49 rfl) hM.k0 hM.q32 ?_
      refine ht_bipush (v := 6) (D 50 rfl) (by decide) ?_
      refine ht_iload (D 51 rfl) rfl ?_
      refine hm_ist (o := 32) (n := 6) (by decide) (D 52 rfl) hM.k32 hM.n32 (by first | rfl | exact nI_add _ _ | assumption) (by omega) (by decide) ?_
      refine ht_aload_n (D 53 rfl) rfl rfl ?_
      generalize hVx : up2 (up2 (up2 (up2 (up2 (up2 V 32 1 dg) 32 2 stv) 32 3 slt) 32 4 brt) 32 5 ic) 32 6 wt = Vx
      have k18 : Vx 18 = V 18 := by rw [← hVx]; simp only [up2_o _ _ (show (18 : Nat) ≠ 32 by decide)]
      have k19 : Vx 19 = V 19 := by rw [← hVx]; simp only [up2_o _ _ (show (19 : Nat) ≠ 32 by decide)]
      have k20 : Vx 20 = V 20 := by rw [← hVx]; simp only [up2_o _ _ (show (20 : Nat) ≠ 32 by decide)]
      have hsx : Sc V Vx := by rw [← hVx]; exact ((((((Sc.rf V).up _).up _).up _).up _).up _).up _
      obtain ⟨V', e, he, hv⟩ := hF Vx k20
      refine ht_iconst (v := 1) (D 54 rfl) (by decide) ?_
      refine kVX10_worked (As := [_]) cl_X10_340 (D 55 rfl) (sm_worked hM (ln := 1) (by decide) (by rw [k18]; exact h1) (by rw [k19]; exact h2) h4 he) hM.k0 rfl (Nat.le_of_ble_eq_true rfl) rfl (Nat.le_of_ble_eq_true rfl) (by omega) ?_
      rintro rv σ1 ⟨rfl, rfl⟩
      rw [hv]
      refine ht_bipush (v := -20) (D 56 rfl) (by decide) ?_
      refine ht_bipush (v := 20) (D 57 rfl) (by decide) ?_
      refine kSX10_between (As := [_, _, _]) cl_X10_343 (D 58 rfl) (sm_between _ _ _) rfl (Nat.le_of_ble_eq_true rfl) rfl (Nat.le_of_ble_eq_true rfl) (by omega) ?_
      rintro rv σ1 ⟨rfl, rfl⟩
      refine ht_iret (D 59 rfl) rfl rfl ?_
      refine ⟨?_, tsF V' 0, rfl, hsx.tr (((opF_kp Vx 0).tr ((evL_kp (by decide) he).1)).tr (tsF_kp V' 0)).sc⟩
      rw [← hVx]
      simp [up2, frF, clp]
    · skip
      exact absurd (by rw [h2, h1] at hb12; exact (nI_eq (by omega) (by omega)).mp hb12) (by omega)
end M3
