/-! ===== the class: formulas ===== -/
section C2
variable {G : GG} {σ : Hp} {a b f : Nat} {Z : VT}
set_option maxRecDepth 100000 in
theorem sc_stepOf (w n : Int32) : Sp G mX1_stepOf 0 [.int w, .int n] σ (fun rv σ' => rv = some (.int (n * 16 + w)) ∧ σ' = σ) := by
  have D := dat dl_X1_stepOf
  show HT G mX1_stepOf 0 [some (.int w), some (.int n)] [] σ 0 _
  refine ht_iload_n (D 0 rfl) rfl rfl ?_
  refine ht_bipush (v := 16) (D 1 rfl) (by decide) ?_
  refine ht_imul (D 2 rfl) ?_
  refine ht_iload_n (D 3 rfl) rfl rfl ?_
  refine ht_iadd (D 4 rfl) ?_
  refine ht_iret (D 5 rfl) rfl rfl ?_
  exact ⟨rfl, rfl⟩
def jn (w x y : Int32) : Int32 := if w = 3 then b01 (¬ x = 0 ∧ ¬ y = 0) else if w = 4 then b01 (¬ x = 0 ∨ ¬ y = 0) else if w = 5 then b01 (x < y) else if w = 6 then b01 (x = y) else if w = 7 then x + y else if w = 8 then x - y else x * y
theorem jn_3 {w : Int32} (x y : Int32) (h : w = 3) : jn w x y = b01 (¬ x = 0 ∧ ¬ y = 0) := by rw [h]; rfl
theorem jn_4 {w : Int32} (x y : Int32) (h : w = 4) : jn w x y = b01 (¬ x = 0 ∨ ¬ y = 0) := by rw [h]; rfl
theorem jn_5 {w : Int32} (x y : Int32) (h : w = 5) : jn w x y = b01 (x < y) := by rw [h]; rfl
theorem jn_6 {w : Int32} (x y : Int32) (h : w = 6) : jn w x y = b01 (x = y) := by rw [h]; rfl
theorem jn_7 {w : Int32} (x y : Int32) (h : w = 7) : jn w x y = x + y := by rw [h]; rfl
theorem jn_8 {w : Int32} (x y : Int32) (h : w = 8) : jn w x y = x - y := by rw [h]; rfl
theorem jn_d {w : Int32} (x y : Int32) (h3 : ¬ w = 3) (h4 : ¬ w = 4) (h5 : ¬ w = 5) (h6 : ¬ w = 6) (h7 : ¬ w = 7) (h8 : ¬ w = 8) : jn w x y = x * y := by
  unfold jn
  rw [if_neg h3, if_neg h4, if_neg h5, if_neg h6, if_neg h7, if_neg h8]
set_option maxRecDepth 100000 in
theorem sc_joined (w x y : Int32) : Sp G mX1_joined 1 [.int w, .int x, .int y] σ (fun rv σ' => rv = some (.int (jn w x y)) ∧ σ' = σ) := by
  have D := dat dl_X1_joined
  show HT G mX1_joined 0 [some (.int w), some (.int x), some (.int y)] [] σ 1 _
  refine ht_iload_n (D 0 rfl) rfl rfl ?_
  by_cases hs1_3 : w = 3
  · skip
    refine ht_tableIn (off := 39) (tgt := 40) (D 1 rfl) (by rw [hs1_3]; decide) (by rw [hs1_3]; decide) (by rw [hs1_3]; rfl) (by decide) ?_
    refine ht_iload_n (D 2 rfl) rfl rfl ?_
    refine ht_if_eq (tgt := 52) (D 3 rfl) (by decide) (fun hb41 => ?_) (fun hb41 => ?_)
    · skip
      refine ht_iconst (v := 0) (D 8 rfl) (by decide) ?_
      refine ht_iret (D 9 rfl) rfl rfl ?_
      exact ⟨by rw [jn_3 x y hs1_3]; first | rw [b01_t ⟨by assumption, by assumption⟩] | rw [b01_f (fun q => by first | exact q.1 (by assumption) | exact q.2 (by assumption))], rfl⟩
    · skip
      refine ht_iload_n (D 4 rfl) rfl rfl ?_
      refine ht_if_eq (tgt := 52) (D 5 rfl) (by decide) (fun hb45 => ?_) (fun hb45 => ?_)
      · skip
        refine ht_iconst (v := 0) (D 8 rfl) (by decide) ?_
        refine ht_iret (D 9 rfl) rfl rfl ?_
        exact ⟨by rw [jn_3 x y hs1_3]; first | rw [b01_t ⟨by assumption, by assumption⟩] | rw [b01_f (fun q => by first | exact q.1 (by assumption) | exact q.2 (by assumption))], rfl⟩
      · skip
        refine ht_iconst (v := 1) (D 6 rfl) (by decide) ?_
        refine ht_goto (tgt := 53) (D 7 rfl) (by decide) ?_
        refine ht_iret (D 9 rfl) rfl rfl ?_
        exact ⟨by rw [jn_3 x y hs1_3]; first | rw [b01_t ⟨by assumption, by assumption⟩] | rw [b01_f (fun q => by first | exact q.1 (by assumption) | exact q.2 (by assumption))], rfl⟩
  · skip
    by_cases hs1_4 : w = 4
    · skip
      refine ht_tableIn (off := 53) (tgt := 54) (D 1 rfl) (by rw [hs1_4]; decide) (by rw [hs1_4]; decide) (by rw [hs1_4]; rfl) (by decide) ?_
      refine ht_iload_n (D 10 rfl) rfl rfl ?_
      refine ht_if_ne (tgt := 62) (D 11 rfl) (by decide) (fun hb55 => ?_) (fun hb55 => ?_)
      · skip
        refine ht_iconst (v := 1) (D 14 rfl) (by decide) ?_
        refine ht_goto (tgt := 67) (D 15 rfl) (by decide) ?_
        refine ht_iret (D 17 rfl) rfl rfl ?_
        exact ⟨by rw [jn_4 x y hs1_4]; first | rw [b01_t (Or.inl (by assumption))] | rw [b01_t (Or.inr (by assumption))] | rw [b01_f (fun q => q.elim (fun z => z (by assumption)) (fun z => z (by assumption)))], rfl⟩
      · skip
        refine ht_iload_n (D 12 rfl) rfl rfl ?_
        refine ht_if_eq (tgt := 66) (D 13 rfl) (by decide) (fun hb59 => ?_) (fun hb59 => ?_)
        · skip
          refine ht_iconst (v := 0) (D 16 rfl) (by decide) ?_
          refine ht_iret (D 17 rfl) rfl rfl ?_
          exact ⟨by rw [jn_4 x y hs1_4]; first | rw [b01_t (Or.inl (by assumption))] | rw [b01_t (Or.inr (by assumption))] | rw [b01_f (fun q => q.elim (fun z => z (by assumption)) (fun z => z (by assumption)))], rfl⟩
        · skip
          refine ht_iconst (v := 1) (D 14 rfl) (by decide) ?_
          refine ht_goto (tgt := 67) (D 15 rfl) (by decide) ?_
          refine ht_iret (D 17 rfl) rfl rfl ?_
          exact ⟨by rw [jn_4 x y hs1_4]; first | rw [b01_t (Or.inl (by assumption))] | rw [b01_t (Or.inr (by assumption))] | rw [b01_f (fun q => q.elim (fun z => z (by assumption)) (fun z => z (by assumption)))], rfl⟩
    · skip
      by_cases hs1_5 : w = 5
      · skip
        refine ht_tableIn (off := 67) (tgt := 68) (D 1 rfl) (by rw [hs1_5]; decide) (by rw [hs1_5]; decide) (by rw [hs1_5]; rfl) (by decide) ?_
        refine ht_iload_n (D 18 rfl) rfl rfl ?_
        refine ht_iload_n (D 19 rfl) rfl rfl ?_
        refine ht_icmp_ge (tgt := 77) (D 20 rfl) (by decide) (fun hb70 => ?_) (fun hb70 => ?_)
        · skip
          refine ht_iconst (v := 0) (D 23 rfl) (by decide) ?_
          refine ht_iret (D 24 rfl) rfl rfl ?_
          exact ⟨by rw [jn_5 x y hs1_5]; first | rw [b01_t (by first | assumption | exact Int32.not_le.mp (by assumption))] | rw [b01_f (by first | assumption | exact Int32.not_lt.mpr (by assumption))], rfl⟩
        · skip
          refine ht_iconst (v := 1) (D 21 rfl) (by decide) ?_
          refine ht_goto (tgt := 78) (D 22 rfl) (by decide) ?_
          refine ht_iret (D 24 rfl) rfl rfl ?_
          exact ⟨by rw [jn_5 x y hs1_5]; first | rw [b01_t (by first | assumption | exact Int32.not_le.mp (by assumption))] | rw [b01_f (by first | assumption | exact Int32.not_lt.mpr (by assumption))], rfl⟩
      · skip
        by_cases hs1_6 : w = 6
        · skip
          refine ht_tableIn (off := 78) (tgt := 79) (D 1 rfl) (by rw [hs1_6]; decide) (by rw [hs1_6]; decide) (by rw [hs1_6]; rfl) (by decide) ?_
          refine ht_iload_n (D 25 rfl) rfl rfl ?_
          refine ht_iload_n (D 26 rfl) rfl rfl ?_
          refine ht_icmp_ne (tgt := 88) (D 27 rfl) (by decide) (fun hb81 => ?_) (fun hb81 => ?_)
          · skip
            refine ht_iconst (v := 0) (D 30 rfl) (by decide) ?_
            refine ht_iret (D 31 rfl) rfl rfl ?_
            exact ⟨by rw [jn_6 x y hs1_6]; first | rw [b01_t (by assumption)] | rw [b01_f (by assumption)], rfl⟩
          · skip
            refine ht_iconst (v := 1) (D 28 rfl) (by decide) ?_
            refine ht_goto (tgt := 89) (D 29 rfl) (by decide) ?_
            refine ht_iret (D 31 rfl) rfl rfl ?_
            exact ⟨by rw [jn_6 x y hs1_6]; first | rw [b01_t (by assumption)] | rw [b01_f (by assumption)], rfl⟩
        · skip
          by_cases hs1_7 : w = 7
          · skip
            refine ht_tableIn (off := 89) (tgt := 90) (D 1 rfl) (by rw [hs1_7]; decide) (by rw [hs1_7]; decide) (by rw [hs1_7]; rfl) (by decide) ?_
            refine ht_iload_n (D 32 rfl) rfl rfl ?_
            refine ht_iload_n (D 33 rfl) rfl rfl ?_
            refine ht_iadd (D 34 rfl) ?_
            refine ht_iret (D 35 rfl) rfl rfl ?_
            exact ⟨by rw [jn_7 x y hs1_7], rfl⟩
          · skip
            by_cases hs1_8 : w = 8
            · skip
              refine ht_tableIn (off := 93) (tgt := 94) (D 1 rfl) (by rw [hs1_8]; decide) (by rw [hs1_8]; decide) (by rw [hs1_8]; rfl) (by decide) ?_
              refine ht_iload_n (D 36 rfl) rfl rfl ?_
              refine ht_iload_n (D 37 rfl) rfl rfl ?_
              refine ht_isub (D 38 rfl) ?_
              refine ht_iret (D 39 rfl) rfl rfl ?_
              exact ⟨by rw [jn_8 x y hs1_8], rfl⟩
            · skip
              refine ht_tableOut (tgt := 98) (D 1 rfl) (tb_out (lo := 3) (n := 6) (fun k hk => ?_)) (by decide) ?_
              · (have hk9 : k = 0 ∨ k = 1 ∨ k = 2 ∨ k = 3 ∨ k = 4 ∨ k = 5 := by omega)
                rcases hk9 with rfl | rfl | rfl | rfl | rfl | rfl <;> assumption
              refine ht_iload_n (D 40 rfl) rfl rfl ?_
              refine ht_iload_n (D 41 rfl) rfl rfl ?_
              refine ht_imul (D 42 rfl) ?_
              refine ht_iret (D 43 rfl) rfl rfl ?_
              exact ⟨by rw [jn_d x y hs1_3 hs1_4 hs1_5 hs1_6 hs1_7 hs1_8], rfl⟩
def fcO (F : ST) (n : Int32) : Int32 := if 0 ≤ n ∧ n < 9 then F n.toNatClampNeg else 0
set_option maxRecDepth 100000 in
theorem sc_factOf (hE : NE G) {q : Nat} (hq : zK σ q = 20) (hq9 : zN σ q = 9) (n : Int32) : Sp G mX1_factOf 1 [.ref q, .int n] (cv σ Z) (fun rv σ' => rv = some (.int (fcO (Z q) n)) ∧ σ' = cv σ Z) := by
  have D := dat dl_X1_factOf
  show HT G mX1_factOf 0 [some (.ref q), some (.int n)] [] (cv σ Z) 1 _
  refine ht_iload_n (D 0 rfl) rfl rfl ?_
  refine ht_if_lt (tgt := 16) (D 1 rfl) (by decide) (fun hb1 => ?_) (fun hb1 => ?_)
  · skip
    have hb : ¬ (0 ≤ n ∧ n < nI 9) := fun z => Int32.not_le.mpr hb1 z.1
    refine ht_iconst (v := 0) (D 10 rfl) (by decide) ?_
    refine ht_iret (D 11 rfl) rfl rfl ?_
    exact ⟨by unfold fcO; first | (rw [if_pos (show 0 ≤ n ∧ n < 9 from hb), hk2, nI_clamp (by omega)]) | rw [if_neg (show ¬ (0 ≤ n ∧ n < 9) from hb)], rfl⟩
  · skip
    refine ht_iload_n (D 2 rfl) rfl rfl ?_
    refine ht_aload_n (D 3 rfl) rfl rfl ?_
    refine ht_len (by decide) (by decide) (D 4 rfl) hq hq9 ?_
    refine ht_icmp_ge (tgt := 16) (D 5 rfl) (by decide) (fun hb7 => ?_) (fun hb7 => ?_)
    · skip
      have hb : ¬ (0 ≤ n ∧ n < nI 9) := fun z => Int32.not_lt.mpr hb7 z.2
      refine ht_iconst (v := 0) (D 10 rfl) (by decide) ?_
      refine ht_iret (D 11 rfl) rfl rfl ?_
      exact ⟨by unfold fcO; first | (rw [if_pos (show 0 ≤ n ∧ n < 9 from hb), hk2, nI_clamp (by omega)]) | rw [if_neg (show ¬ (0 ≤ n ∧ n < 9) from hb)], rfl⟩
    · skip
      have hb : 0 ≤ n ∧ n < nI 9 := ⟨Int32.not_lt.mp hb1, Int32.not_le.mp hb7⟩
      obtain ⟨k, hk1, hk2⟩ := rng (n := 9) (by decide) hb
      refine ht_aload_n (D 6 rfl) rfl rfl ?_
      refine ht_iload_n (D 7 rfl) rfl rfl ?_
      refine hi_ild (n := k) (D 8 rfl) hq hq9 hk2 (by omega) (by first | decide | omega) ?_
      refine ht_goto (tgt := 17) (D 9 rfl) (by decide) ?_
      refine ht_iret (D 11 rfl) rfl rfl ?_
      exact ⟨by unfold fcO; first | (rw [if_pos (show 0 ≤ n ∧ n < 9 from hb), hk2, nI_clamp (by omega)]) | rw [if_neg (show ¬ (0 ≤ n ∧ n < 9) from hb)], rfl⟩
def vbS (F : ST) (q : ST × Nat) (s : Int32) : ST × Nat :=
  if s - s / 16 * 16 = 0 ∨ s - s / 16 * 16 = 1 then (if q.2 < 32 then (va_up q.1 q.2 (if s - s / 16 * 16 = 0 then s / 16 else fcO F (s / 16)), q.2 + 1) else q)
  else if s - s / 16 * 16 = 2 then (if 0 < q.2 then (va_up q.1 (q.2 - 1) (b01 (q.1 (q.2 - 1) = 0)), q.2) else q)
  else if 1 < q.2 then (va_up q.1 (q.2 - 1 - 1) (jn (s - s / 16 * 16) (q.1 (q.2 - 1 - 1)) (q.1 (q.2 - 1))), q.2 - 1) else q
def vbL (F st : ST) (q : ST × Nat) : Nat → ST × Nat
  | 0 => q
  | k + 1 => vbS F (vbL F st q k) (st k)
theorem vbS_le (F : ST) {q : ST × Nat} (s : Int32) (h : q.2 ≤ 32) : (vbS F q s).2 ≤ 32 := by
  unfold vbS
  (repeat' split) <;> (try dsimp only) <;> omega
theorem nI_sub1 {t : Nat} (h : 0 < t) : nI t - 1 = nI (t - 1) := by
  obtain ⟨s, rfl⟩ : ∃ s, t = s + 1 := ⟨t - 1, by omega⟩
  exact nI_pred s
theorem nI_dec {t : Nat} (h : 0 < t) : nI t + Int32.ofInt (-1) = nI (t - 1) := by
  rw [← nI_sub1 h, Int32.sub_eq_add_neg]
  rfl
theorem up2_rw {Z : VT} {q n : Nat} (x : Int32) : up2 Z q n x q = va_up (Z q) n x := up2_row Z q n x
theorem cv_f {Z1 : VT} {q : Nat} (h : Do (f + 1) Z Z1) (hq : q ≠ f + 1) : Z1 q = Z q := h q hq
set_option maxRecDepth 100000 in
theorem sc_vstep (hE : NE G) {n q : Nat} (hF : FmS σ f n) (hq : zK σ q = 20) (hq9 : zN σ q = 9) (hqf : q ≠ f + 1) {Z1 : VT} (hd1 : Do (f + 1) Z Z1) {j t : Nat} (hj : j < n) (ht : t ≤ 32) (l4 l5 : Option Value) {Q : Option Value → Hp → Prop}
    (kq : ∀ (Z2 : VT) (l4 l5 : Option Value) (t2 : Nat), Do (f + 1) Z Z2 → (Z2 (f + 1), t2) = vbS (Z q) (Z1 (f + 1), t) (Z (f + 2) j) → t2 ≤ 32 → HT G mX1_valueBy 4 [some (.ref f), some (.ref q), some (.int (nI t2)), some (.int (nI (j + 1))), l4, l5] [] (cv σ Z2) 2 Q) : HT G mX1_valueBy 4 [some (.ref f), some (.ref q), some (.int (nI t)), some (.int (nI j)), l4, l5] [] (cv σ Z1) 2 Q := by
  have D := dat dl_X1_valueBy
  have hn1 := hF.le
  have hF1 : Z1 q = Z q := hd1 q hqf
  refine ht_iload_n (D 4 rfl) rfl rfl ?_
  refine ht_aload_n (D 5 rfl) rfl rfl ?_
  refine gf_X1_19 rfl (D 6 rfl) hF.k0 hF.q0 ?_
  refine ht_len (by decide) (by decide) (D 7 rfl) hF.k2 hF.n2 ?_
  refine ht_icmp_ge (tgt := 158) (D 8 rfl) (by decide) (fun hb10 => ?_) (fun hb10 => ?_)
  · skip
    exact absurd ((nI_leI (a := n) (b := j) (by omega) (by omega)).mp hb10) (by omega)
  · skip
    refine ht_aload_n (D 9 rfl) rfl rfl ?_
    refine gf_X1_19 rfl (D 10 rfl) hF.k0 hF.q0 ?_
    refine ht_iload_n (D 11 rfl) rfl rfl ?_
    refine hi_ild (n := j) (D 12 rfl) hF.k2 hF.n2 (by first | rfl | exact nI_add _ _ | assumption) (by omega) (by first | decide | omega) ?_
    rw [cv_f hd1 (show f + 2 ≠ f + 1 by omega)]
    refine ht_bipush (v := 16) (D 13 rfl) (by decide) ?_
    refine ht_irem (D 14 rfl) (by decide) ?_
    refine ht_topi (fun w hw => ?_)
    refine ht_istore (D 15 rfl) (by decide) rfl ?_
    refine ht_aload_n (D 16 rfl) rfl rfl ?_
    refine gf_X1_19 rfl (D 17 rfl) hF.k0 hF.q0 ?_
    refine ht_iload_n (D 18 rfl) rfl rfl ?_
    refine hi_ild (n := j) (D 19 rfl) hF.k2 hF.n2 (by first | rfl | exact nI_add _ _ | assumption) (by omega) (by first | decide | omega) ?_
    rw [cv_f hd1 (show f + 2 ≠ f + 1 by omega)]
    refine ht_bipush (v := 16) (D 20 rfl) (by decide) ?_
    refine ht_idiv (D 21 rfl) (by decide) ?_
    refine ht_topi (fun nn hnn => ?_)
    refine ht_istore (D 22 rfl) (by decide) rfl ?_
    refine ht_iload (D 23 rfl) rfl ?_
    refine ht_if_eq (tgt := 46) (D 24 rfl) (by decide) (fun hb37 => ?_) (fun hb37 => ?_)
    · skip
      rw [hw] at hb37
      refine ht_iload_n (D 28 rfl) rfl rfl ?_
      refine ht_bipush (v := 32) (D 29 rfl) (by decide) ?_
      refine ht_icmp_ge (tgt := 152) (D 30 rfl) (by decide) (fun hb49 => ?_) (fun hb49 => ?_)
      · skip
        have ht2 : ¬ t < 32 := by have h3 := (nI_leI (a := 32) (b := t) (by omega) (by omega)).mp hb49; omega
        refine ht_iinc (v := nI (j + 1)) (D 88 rfl) rfl (nI_i1 _) (by decide) rfl ?_
        refine ht_goto (tgt := 4) (D 89 rfl) (by decide) ?_
        first
          | exact absurd hb37 hw0
          | exact absurd (hw0.symm.trans hb43) (by decide)
          | exact kq _ _ _ _ hd1 (by simp only [vbS]; first | rw [if_pos (Or.inl hb37), if_neg ht2] | rw [if_pos (Or.inr hb43), if_neg ht2] | rw [if_neg (fun z => z.elim hb37 hb43), if_pos hb83, if_neg ht2] | rw [if_neg (fun z => z.elim hb37 hb43), if_neg hb83, if_neg ht2]) (by omega)
          | exact kq _ _ _ (t + 1) (hd1.up _ _) (by simp only [vbS, up2_rw]; first | rw [if_pos (Or.inl hb37), if_pos ht2, if_pos hw0, hnn] | rw [if_pos (Or.inr hb43), if_pos ht2, if_neg hw0, hnn, hF1]) (by omega)
          | exact kq _ _ _ t (hd1.up _ _) (by simp only [vbS, up2_rw]; rw [if_neg (fun z => z.elim hb37 hb43), if_pos hb83, if_pos ht2]; first | rw [b01_t (by assumption)] | rw [b01_f (by assumption)]) (by omega)
          | exact kq _ _ _ (t - 1) (hd1.up _ _) (by simp only [vbS, up2_rw]; rw [if_neg (fun z => z.elim hb37 hb43), if_neg hb83, if_pos ht2, hw]) (by omega)
      · skip
        have ht2 : t < 32 := by have h3 := mt (nI_leI (a := 32) (b := t) (by omega) (by omega)).mpr hb49; omega
        refine ht_aload_n (D 31 rfl) rfl rfl ?_
        refine gf_X1_9 rfl (D 32 rfl) hF.k0 hF.q1 ?_
        refine ht_iload_n (D 33 rfl) rfl rfl ?_
        refine ht_iload (D 34 rfl) rfl ?_
        refine ht_if_ne (tgt := 67) (D 35 rfl) (by decide) (fun hb59 => ?_) (fun hb59 => ?_)
        · skip
          have hw0 : ¬ Z (f + 2) j - Z (f + 2) j / 16 * 16 = 0 := by rw [← hw]; exact hb59
          refine ht_aload_n (D 38 rfl) rfl rfl ?_
          refine ht_iload (D 39 rfl) rfl ?_
          refine kSX1_factOf (As := [_, _]) cl_X1_22 (D 40 rfl) (sc_factOf hE (Z := Z1) hq hq9 nn) rfl (Nat.le_of_ble_eq_true rfl) rfl (Nat.le_of_ble_eq_true rfl) (by omega) ?_
          rintro _ _ ⟨rfl, rfl⟩
          refine hi_ist (n := t) (D 41 rfl) hF.k1 hF.n1 (by first | rfl | exact nI_add _ _ | assumption) (by omega) (by first | decide | omega) ?_
          refine ht_iinc (v := nI (t + 1)) (D 42 rfl) rfl (nI_i1 _) (by decide) rfl ?_
          refine ht_goto (tgt := 152) (D 43 rfl) (by decide) ?_
          refine ht_iinc (v := nI (j + 1)) (D 88 rfl) rfl (nI_i1 _) (by decide) rfl ?_
          refine ht_goto (tgt := 4) (D 89 rfl) (by decide) ?_
          first
            | exact absurd hb37 hw0
            | exact absurd (hw0.symm.trans hb43) (by decide)
            | exact kq _ _ _ _ hd1 (by simp only [vbS]; first | rw [if_pos (Or.inl hb37), if_neg ht2] | rw [if_pos (Or.inr hb43), if_neg ht2] | rw [if_neg (fun z => z.elim hb37 hb43), if_pos hb83, if_neg ht2] | rw [if_neg (fun z => z.elim hb37 hb43), if_neg hb83, if_neg ht2]) (by omega)
            | exact kq _ _ _ (t + 1) (hd1.up _ _) (by simp only [vbS, up2_rw]; first | rw [if_pos (Or.inl hb37), if_pos ht2, if_pos hw0, hnn] | rw [if_pos (Or.inr hb43), if_pos ht2, if_neg hw0, hnn, hF1]) (by omega)
            | exact kq _ _ _ t (hd1.up _ _) (by simp only [vbS, up2_rw]; rw [if_neg (fun z => z.elim hb37 hb43), if_pos hb83, if_pos ht2]; first | rw [b01_t (by assumption)] | rw [b01_f (by assumption)]) (by omega)
            | exact kq _ _ _ (t - 1) (hd1.up _ _) (by simp only [vbS, up2_rw]; rw [if_neg (fun z => z.elim hb37 hb43), if_neg hb83, if_pos ht2, hw]) (by omega)
        · skip
          have hw0 : Z (f + 2) j - Z (f + 2) j / 16 * 16 = 0 := by rw [← hw]; exact hb59
          refine ht_iload (D 36 rfl) rfl ?_
          refine ht_goto (tgt := 73) (D 37 rfl) (by decide) ?_
          refine hi_ist (n := t) (D 41 rfl) hF.k1 hF.n1 (by first | rfl | exact nI_add _ _ | assumption) (by omega) (by first | decide | omega) ?_
          refine ht_iinc (v := nI (t + 1)) (D 42 rfl) rfl (nI_i1 _) (by decide) rfl ?_
          refine ht_goto (tgt := 152) (D 43 rfl) (by decide) ?_
          refine ht_iinc (v := nI (j + 1)) (D 88 rfl) rfl (nI_i1 _) (by decide) rfl ?_
          refine ht_goto (tgt := 4) (D 89 rfl) (by decide) ?_
          first
            | exact absurd hb37 hw0
            | exact absurd (hw0.symm.trans hb43) (by decide)
            | exact kq _ _ _ _ hd1 (by simp only [vbS]; first | rw [if_pos (Or.inl hb37), if_neg ht2] | rw [if_pos (Or.inr hb43), if_neg ht2] | rw [if_neg (fun z => z.elim hb37 hb43), if_pos hb83, if_neg ht2] | rw [if_neg (fun z => z.elim hb37 hb43), if_neg hb83, if_neg ht2]) (by omega)
            | exact kq _ _ _ (t + 1) (hd1.up _ _) (by simp only [vbS, up2_rw]; first | rw [if_pos (Or.inl hb37), if_pos ht2, if_pos hw0, hnn] | rw [if_pos (Or.inr hb43), if_pos ht2, if_neg hw0, hnn, hF1]) (by omega)
            | exact kq _ _ _ t (hd1.up _ _) (by simp only [vbS, up2_rw]; rw [if_neg (fun z => z.elim hb37 hb43), if_pos hb83, if_pos ht2]; first | rw [b01_t (by assumption)] | rw [b01_f (by assumption)]) (by omega)
            | exact kq _ _ _ (t - 1) (hd1.up _ _) (by simp only [vbS, up2_rw]; rw [if_neg (fun z => z.elim hb37 hb43), if_neg hb83, if_pos ht2, hw]) (by omega)
    · skip
      refine ht_iload (D 25 rfl) rfl ?_
      refine ht_iconst (v := 1) (D 26 rfl) (by decide) ?_
      refine ht_icmp_ne (tgt := 80) (D 27 rfl) (by decide) (fun hb43 => ?_) (fun hb43 => ?_)
      · skip
        rw [hw] at hb43 hb37
        refine ht_iload (D 44 rfl) rfl ?_
        refine ht_iconst (v := 2) (D 45 rfl) (by decide) ?_
        refine ht_icmp_ne (tgt := 117) (D 46 rfl) (by decide) (fun hb83 => ?_) (fun hb83 => ?_)
        · skip
          rw [hw] at hb83
          refine ht_iload_n (D 66 rfl) rfl rfl ?_
          refine ht_iconst (v := 1) (D 67 rfl) (by decide) ?_
          refine ht_icmp_le (tgt := 152) (D 68 rfl) (by decide) (fun hb119 => ?_) (fun hb119 => ?_)
          · skip
            have ht2 : ¬ 1 < t := by have h3 := (nI_leI (a := t) (b := 1) (by omega) (by omega)).mp hb119; omega
            refine ht_iinc (v := nI (j + 1)) (D 88 rfl) rfl (nI_i1 _) (by decide) rfl ?_
            refine ht_goto (tgt := 4) (D 89 rfl) (by decide) ?_
            first
              | exact absurd hb37 hw0
              | exact absurd (hw0.symm.trans hb43) (by decide)
              | exact kq _ _ _ _ hd1 (by simp only [vbS]; first | rw [if_pos (Or.inl hb37), if_neg ht2] | rw [if_pos (Or.inr hb43), if_neg ht2] | rw [if_neg (fun z => z.elim hb37 hb43), if_pos hb83, if_neg ht2] | rw [if_neg (fun z => z.elim hb37 hb43), if_neg hb83, if_neg ht2]) (by omega)
              | exact kq _ _ _ (t + 1) (hd1.up _ _) (by simp only [vbS, up2_rw]; first | rw [if_pos (Or.inl hb37), if_pos ht2, if_pos hw0, hnn] | rw [if_pos (Or.inr hb43), if_pos ht2, if_neg hw0, hnn, hF1]) (by omega)
              | exact kq _ _ _ t (hd1.up _ _) (by simp only [vbS, up2_rw]; rw [if_neg (fun z => z.elim hb37 hb43), if_pos hb83, if_pos ht2]; first | rw [b01_t (by assumption)] | rw [b01_f (by assumption)]) (by omega)
              | exact kq _ _ _ (t - 1) (hd1.up _ _) (by simp only [vbS, up2_rw]; rw [if_neg (fun z => z.elim hb37 hb43), if_neg hb83, if_pos ht2, hw]) (by omega)
          · skip
            have ht2 : 1 < t := by have h3 := mt (nI_leI (a := t) (b := 1) (by omega) (by omega)).mpr hb119; omega
            refine ht_iinc (v := nI (t - 1)) (D 69 rfl) rfl (nI_dec (by omega)) (by decide) rfl ?_
            refine ht_aload_n (D 70 rfl) rfl rfl ?_
            refine gf_X1_9 rfl (D 71 rfl) hF.k0 hF.q1 ?_
            refine ht_iload_n (D 72 rfl) rfl rfl ?_
            refine ht_iconst (v := 1) (D 73 rfl) (by decide) ?_
            refine ht_isub (D 74 rfl) ?_
            refine ht_iload (D 75 rfl) rfl ?_
            refine ht_aload_n (D 76 rfl) rfl rfl ?_
            refine gf_X1_9 rfl (D 77 rfl) hF.k0 hF.q1 ?_
            refine ht_iload_n (D 78 rfl) rfl rfl ?_
            refine ht_iconst (v := 1) (D 79 rfl) (by decide) ?_
            refine ht_isub (D 80 rfl) ?_
            refine hi_ild (n := (t - 1 - 1)) (D 81 rfl) hF.k1 hF.n1 (nI_sub1 (by omega)) (by omega) (by first | decide | omega) ?_
            refine ht_aload_n (D 82 rfl) rfl rfl ?_
            refine gf_X1_9 rfl (D 83 rfl) hF.k0 hF.q1 ?_
            refine ht_iload_n (D 84 rfl) rfl rfl ?_
            refine hi_ild (n := (t - 1)) (D 85 rfl) hF.k1 hF.n1 rfl (by omega) (by first | decide | omega) ?_
            refine kSX1_joined (As := [_, _, _]) cl_X1_26 (D 86 rfl) (sc_joined w _ _) rfl (Nat.le_of_ble_eq_true rfl) rfl (Nat.le_of_ble_eq_true rfl) (by omega) ?_
            rintro _ _ ⟨rfl, rfl⟩
            refine hi_ist (n := (t - 1 - 1)) (D 87 rfl) hF.k1 hF.n1 (nI_sub1 (by omega)) (by omega) (by first | decide | omega) ?_
            refine ht_iinc (v := nI (j + 1)) (D 88 rfl) rfl (nI_i1 _) (by decide) rfl ?_
            refine ht_goto (tgt := 4) (D 89 rfl) (by decide) ?_
            first
              | exact absurd hb37 hw0
              | exact absurd (hw0.symm.trans hb43) (by decide)
              | exact kq _ _ _ _ hd1 (by simp only [vbS]; first | rw [if_pos (Or.inl hb37), if_neg ht2] | rw [if_pos (Or.inr hb43), if_neg ht2] | rw [if_neg (fun z => z.elim hb37 hb43), if_pos hb83, if_neg ht2] | rw [if_neg (fun z => z.elim hb37 hb43), if_neg hb83, if_neg ht2]) (by omega)
              | exact kq _ _ _ (t + 1) (hd1.up _ _) (by simp only [vbS, up2_rw]; first | rw [if_pos (Or.inl hb37), if_pos ht2, if_pos hw0, hnn] | rw [if_pos (Or.inr hb43), if_pos ht2, if_neg hw0, hnn, hF1]) (by omega)
              | exact kq _ _ _ t (hd1.up _ _) (by simp only [vbS, up2_rw]; rw [if_neg (fun z => z.elim hb37 hb43), if_pos hb83, if_pos ht2]; first | rw [b01_t (by assumption)] | rw [b01_f (by assumption)]) (by omega)
              | exact kq _ _ _ (t - 1) (hd1.up _ _) (by simp only [vbS, up2_rw]; rw [if_neg (fun z => z.elim hb37 hb43), if_neg hb83, if_pos ht2, hw]) (by omega)
        · skip
          rw [hw] at hb83
          refine ht_iload_n (D 47 rfl) rfl rfl ?_
          refine ht_if_le (tgt := 152) (D 48 rfl) (by decide) (fun hb87 => ?_) (fun hb87 => ?_)
          · skip
            have ht2 : ¬ 0 < t := fun c => nI_nle c (by omega) hb87
            refine ht_iinc (v := nI (j + 1)) (D 88 rfl) rfl (nI_i1 _) (by decide) rfl ?_
            refine ht_goto (tgt := 4) (D 89 rfl) (by decide) ?_
            first
              | exact absurd hb37 hw0
              | exact absurd (hw0.symm.trans hb43) (by decide)
              | exact kq _ _ _ _ hd1 (by simp only [vbS]; first | rw [if_pos (Or.inl hb37), if_neg ht2] | rw [if_pos (Or.inr hb43), if_neg ht2] | rw [if_neg (fun z => z.elim hb37 hb43), if_pos hb83, if_neg ht2] | rw [if_neg (fun z => z.elim hb37 hb43), if_neg hb83, if_neg ht2]) (by omega)
              | exact kq _ _ _ (t + 1) (hd1.up _ _) (by simp only [vbS, up2_rw]; first | rw [if_pos (Or.inl hb37), if_pos ht2, if_pos hw0, hnn] | rw [if_pos (Or.inr hb43), if_pos ht2, if_neg hw0, hnn, hF1]) (by omega)
              | exact kq _ _ _ t (hd1.up _ _) (by simp only [vbS, up2_rw]; rw [if_neg (fun z => z.elim hb37 hb43), if_pos hb83, if_pos ht2]; first | rw [b01_t (by assumption)] | rw [b01_f (by assumption)]) (by omega)
              | exact kq _ _ _ (t - 1) (hd1.up _ _) (by simp only [vbS, up2_rw]; rw [if_neg (fun z => z.elim hb37 hb43), if_neg hb83, if_pos ht2, hw]) (by omega)
          · skip
            have ht2 : 0 < t := Nat.pos_of_ne_zero (fun c => hb87 (by rw [c]; exact Int32.le_refl _))
            refine ht_aload_n (D 49 rfl) rfl rfl ?_
            refine gf_X1_9 rfl (D 50 rfl) hF.k0 hF.q1 ?_
            refine ht_iload_n (D 51 rfl) rfl rfl ?_
            refine ht_iconst (v := 1) (D 52 rfl) (by decide) ?_
            refine ht_isub (D 53 rfl) ?_
            refine ht_aload_n (D 54 rfl) rfl rfl ?_
            refine gf_X1_9 rfl (D 55 rfl) hF.k0 hF.q1 ?_
            refine ht_iload_n (D 56 rfl) rfl rfl ?_
            refine ht_iconst (v := 1) (D 57 rfl) (by decide) ?_
            refine ht_isub (D 58 rfl) ?_
            refine hi_ild (n := (t - 1)) (D 59 rfl) hF.k1 hF.n1 (nI_sub1 (by omega)) (by omega) (by first | decide | omega) ?_
            refine ht_if_ne (tgt := 112) (D 60 rfl) (by decide) (fun hb105 => ?_) (fun hb105 => ?_)
            · skip
              refine ht_iconst (v := 0) (D 63 rfl) (by decide) ?_
              refine hi_ist (n := (t - 1)) (D 64 rfl) hF.k1 hF.n1 (nI_sub1 (by omega)) (by omega) (by first | decide | omega) ?_
              refine ht_goto (tgt := 152) (D 65 rfl) (by decide) ?_
              refine ht_iinc (v := nI (j + 1)) (D 88 rfl) rfl (nI_i1 _) (by decide) rfl ?_
              refine ht_goto (tgt := 4) (D 89 rfl) (by decide) ?_
              first
                | exact absurd hb37 hw0
                | exact absurd (hw0.symm.trans hb43) (by decide)
                | exact kq _ _ _ _ hd1 (by simp only [vbS]; first | rw [if_pos (Or.inl hb37), if_neg ht2] | rw [if_pos (Or.inr hb43), if_neg ht2] | rw [if_neg (fun z => z.elim hb37 hb43), if_pos hb83, if_neg ht2] | rw [if_neg (fun z => z.elim hb37 hb43), if_neg hb83, if_neg ht2]) (by omega)
                | exact kq _ _ _ (t + 1) (hd1.up _ _) (by simp only [vbS, up2_rw]; first | rw [if_pos (Or.inl hb37), if_pos ht2, if_pos hw0, hnn] | rw [if_pos (Or.inr hb43), if_pos ht2, if_neg hw0, hnn, hF1]) (by omega)
                | exact kq _ _ _ t (hd1.up _ _) (by simp only [vbS, up2_rw]; rw [if_neg (fun z => z.elim hb37 hb43), if_pos hb83, if_pos ht2]; first | rw [b01_t (by assumption)] | rw [b01_f (by assumption)]) (by omega)
                | exact kq _ _ _ (t - 1) (hd1.up _ _) (by simp only [vbS, up2_rw]; rw [if_neg (fun z => z.elim hb37 hb43), if_neg hb83, if_pos ht2, hw]) (by omega)
            · skip
              refine ht_iconst (v := 1) (D 61 rfl) (by decide) ?_
              refine ht_goto (tgt := 113) (D 62 rfl) (by decide) ?_
              refine hi_ist (n := (t - 1)) (D 64 rfl) hF.k1 hF.n1 (nI_sub1 (by omega)) (by omega) (by first | decide | omega) ?_
              refine ht_goto (tgt := 152) (D 65 rfl) (by decide) ?_
              refine ht_iinc (v := nI (j + 1)) (D 88 rfl) rfl (nI_i1 _) (by decide) rfl ?_
              refine ht_goto (tgt := 4) (D 89 rfl) (by decide) ?_
              first
                | exact absurd hb37 hw0
                | exact absurd (hw0.symm.trans hb43) (by decide)
                | exact kq _ _ _ _ hd1 (by simp only [vbS]; first | rw [if_pos (Or.inl hb37), if_neg ht2] | rw [if_pos (Or.inr hb43), if_neg ht2] | rw [if_neg (fun z => z.elim hb37 hb43), if_pos hb83, if_neg ht2] | rw [if_neg (fun z => z.elim hb37 hb43), if_neg hb83, if_neg ht2]) (by omega)
                | exact kq _ _ _ (t + 1) (hd1.up _ _) (by simp only [vbS, up2_rw]; first | rw [if_pos (Or.inl hb37), if_pos ht2, if_pos hw0, hnn] | rw [if_pos (Or.inr hb43), if_pos ht2, if_neg hw0, hnn, hF1]) (by omega)
                | exact kq _ _ _ t (hd1.up _ _) (by simp only [vbS, up2_rw]; rw [if_neg (fun z => z.elim hb37 hb43), if_pos hb83, if_pos ht2]; first | rw [b01_t (by assumption)] | rw [b01_f (by assumption)]) (by omega)
                | exact kq _ _ _ (t - 1) (hd1.up _ _) (by simp only [vbS, up2_rw]; rw [if_neg (fun z => z.elim hb37 hb43), if_neg hb83, if_pos ht2, hw]) (by omega)
      · skip
        rw [hw] at hb43 hb37
        refine ht_iload_n (D 28 rfl) rfl rfl ?_
        refine ht_bipush (v := 32) (D 29 rfl) (by decide) ?_
        refine ht_icmp_ge (tgt := 152) (D 30 rfl) (by decide) (fun hb49 => ?_) (fun hb49 => ?_)
        · skip
          have ht2 : ¬ t < 32 := by have h3 := (nI_leI (a := 32) (b := t) (by omega) (by omega)).mp hb49; omega
          refine ht_iinc (v := nI (j + 1)) (D 88 rfl) rfl (nI_i1 _) (by decide) rfl ?_
          refine ht_goto (tgt := 4) (D 89 rfl) (by decide) ?_
          first
            | exact absurd hb37 hw0
            | exact absurd (hw0.symm.trans hb43) (by decide)
            | exact kq _ _ _ _ hd1 (by simp only [vbS]; first | rw [if_pos (Or.inl hb37), if_neg ht2] | rw [if_pos (Or.inr hb43), if_neg ht2] | rw [if_neg (fun z => z.elim hb37 hb43), if_pos hb83, if_neg ht2] | rw [if_neg (fun z => z.elim hb37 hb43), if_neg hb83, if_neg ht2]) (by omega)
            | exact kq _ _ _ (t + 1) (hd1.up _ _) (by simp only [vbS, up2_rw]; first | rw [if_pos (Or.inl hb37), if_pos ht2, if_pos hw0, hnn] | rw [if_pos (Or.inr hb43), if_pos ht2, if_neg hw0, hnn, hF1]) (by omega)
            | exact kq _ _ _ t (hd1.up _ _) (by simp only [vbS, up2_rw]; rw [if_neg (fun z => z.elim hb37 hb43), if_pos hb83, if_pos ht2]; first | rw [b01_t (by assumption)] | rw [b01_f (by assumption)]) (by omega)
            | exact kq _ _ _ (t - 1) (hd1.up _ _) (by simp only [vbS, up2_rw]; rw [if_neg (fun z => z.elim hb37 hb43), if_neg hb83, if_pos ht2, hw]) (by omega)
        · skip
          have ht2 : t < 32 := by have h3 := mt (nI_leI (a := 32) (b := t) (by omega) (by omega)).mpr hb49; omega
          refine ht_aload_n (D 31 rfl) rfl rfl ?_
          refine gf_X1_9 rfl (D 32 rfl) hF.k0 hF.q1 ?_
          refine ht_iload_n (D 33 rfl) rfl rfl ?_
          refine ht_iload (D 34 rfl) rfl ?_
          refine ht_if_ne (tgt := 67) (D 35 rfl) (by decide) (fun hb59 => ?_) (fun hb59 => ?_)
          · skip
            have hw0 : ¬ Z (f + 2) j - Z (f + 2) j / 16 * 16 = 0 := by rw [← hw]; exact hb59
            refine ht_aload_n (D 38 rfl) rfl rfl ?_
            refine ht_iload (D 39 rfl) rfl ?_
            refine kSX1_factOf (As := [_, _]) cl_X1_22 (D 40 rfl) (sc_factOf hE (Z := Z1) hq hq9 nn) rfl (Nat.le_of_ble_eq_true rfl) rfl (Nat.le_of_ble_eq_true rfl) (by omega) ?_
            rintro _ _ ⟨rfl, rfl⟩
            refine hi_ist (n := t) (D 41 rfl) hF.k1 hF.n1 (by first | rfl | exact nI_add _ _ | assumption) (by omega) (by first | decide | omega) ?_
            refine ht_iinc (v := nI (t + 1)) (D 42 rfl) rfl (nI_i1 _) (by decide) rfl ?_
            refine ht_goto (tgt := 152) (D 43 rfl) (by decide) ?_
            refine ht_iinc (v := nI (j + 1)) (D 88 rfl) rfl (nI_i1 _) (by decide) rfl ?_
            refine ht_goto (tgt := 4) (D 89 rfl) (by decide) ?_
            first
              | exact absurd hb37 hw0
              | exact absurd (hw0.symm.trans hb43) (by decide)
              | exact kq _ _ _ _ hd1 (by simp only [vbS]; first | rw [if_pos (Or.inl hb37), if_neg ht2] | rw [if_pos (Or.inr hb43), if_neg ht2] | rw [if_neg (fun z => z.elim hb37 hb43), if_pos hb83, if_neg ht2] | rw [if_neg (fun z => z.elim hb37 hb43), if_neg hb83, if_neg ht2]) (by omega)
              | exact kq _ _ _ (t + 1) (hd1.up _ _) (by simp only [vbS, up2_rw]; first | rw [if_pos (Or.inl hb37), if_pos ht2, if_pos hw0, hnn] | rw [if_pos (Or.inr hb43), if_pos ht2, if_neg hw0, hnn, hF1]) (by omega)
              | exact kq _ _ _ t (hd1.up _ _) (by simp only [vbS, up2_rw]; rw [if_neg (fun z => z.elim hb37 hb43), if_pos hb83, if_pos ht2]; first | rw [b01_t (by assumption)] | rw [b01_f (by assumption)]) (by omega)
              | exact kq _ _ _ (t - 1) (hd1.up _ _) (by simp only [vbS, up2_rw]; rw [if_neg (fun z => z.elim hb37 hb43), if_neg hb83, if_pos ht2, hw]) (by omega)
          · skip
            have hw0 : Z (f + 2) j - Z (f + 2) j / 16 * 16 = 0 := by rw [← hw]; exact hb59
            refine ht_iload (D 36 rfl) rfl ?_
            refine ht_goto (tgt := 73) (D 37 rfl) (by decide) ?_
            refine hi_ist (n := t) (D 41 rfl) hF.k1 hF.n1 (by first | rfl | exact nI_add _ _ | assumption) (by omega) (by first | decide | omega) ?_
            refine ht_iinc (v := nI (t + 1)) (D 42 rfl) rfl (nI_i1 _) (by decide) rfl ?_
            refine ht_goto (tgt := 152) (D 43 rfl) (by decide) ?_
            refine ht_iinc (v := nI (j + 1)) (D 88 rfl) rfl (nI_i1 _) (by decide) rfl ?_
            refine ht_goto (tgt := 4) (D 89 rfl) (by decide) ?_
            first
              | exact absurd hb37 hw0
              | exact absurd (hw0.symm.trans hb43) (by decide)
              | exact kq _ _ _ _ hd1 (by simp only [vbS]; first | rw [if_pos (Or.inl hb37), if_neg ht2] | rw [if_pos (Or.inr hb43), if_neg ht2] | rw [if_neg (fun z => z.elim hb37 hb43), if_pos hb83, if_neg ht2] | rw [if_neg (fun z => z.elim hb37 hb43), if_neg hb83, if_neg ht2]) (by omega)
              | exact kq _ _ _ (t + 1) (hd1.up _ _) (by simp only [vbS, up2_rw]; first | rw [if_pos (Or.inl hb37), if_pos ht2, if_pos hw0, hnn] | rw [if_pos (Or.inr hb43), if_pos ht2, if_neg hw0, hnn, hF1]) (by omega)
              | exact kq _ _ _ t (hd1.up _ _) (by simp only [vbS, up2_rw]; rw [if_neg (fun z => z.elim hb37 hb43), if_pos hb83, if_pos ht2]; first | rw [b01_t (by assumption)] | rw [b01_f (by assumption)]) (by omega)
              | exact kq _ _ _ (t - 1) (hd1.up _ _) (by simp only [vbS, up2_rw]; rw [if_neg (fun z => z.elim hb37 hb43), if_neg hb83, if_pos ht2, hw]) (by omega)
theorem vbL_le (F st : ST) {q : ST × Nat} (h : q.2 ≤ 32) (k : Nat) : (vbL F st q k).2 ≤ 32 := by
  induction k with
  | zero => exact h
  | succ k ih => exact vbS_le F _ ih
set_option maxRecDepth 100000 in
theorem sc_valueBy (hE : NE G) {n q : Nat} (hF : FmS σ f n) (hq : zK σ q = 20) (hq9 : zN σ q = 9) (hqf : q ≠ f + 1) : Sp G mX1_valueBy 2 [.ref f, .ref q] (cv σ Z) (fun rv σ' => rv = some (.int ((vbL (Z q) (Z (f + 2)) (Z (f + 1), 0) n).1 0)) ∧ ∃ Z2 : VT, σ' = cv σ Z2 ∧ Do (f + 1) Z Z2) := by
  have D := dat dl_X1_valueBy
  have loop : ∀ r j : Nat, j ≤ n → n - j = r → ∀ (Z1 : VT) (l4 l5 : Option Value) (t : Nat), Do (f + 1) Z Z1 → (Z1 (f + 1), t) = vbL (Z q) (Z (f + 2)) (Z (f + 1), 0) j → HT G mX1_valueBy 4 [some (.ref f), some (.ref q), some (.int (nI t)), some (.int (nI j)), l4, l5] [] (cv σ Z1) 2 (fun rv σ' => rv = some (.int ((vbL (Z q) (Z (f + 2)) (Z (f + 1), 0) n).1 0)) ∧ ∃ Z2 : VT, σ' = cv σ Z2 ∧ Do (f + 1) Z Z2) := by
    intro r
    induction r with
    | zero =>
      intro j hj hr Z1 l4 l5 t hd1 hq1
      obtain rfl : j = n := by omega
      refine ht_iload_n (D 4 rfl) rfl rfl ?_
      refine ht_aload_n (D 5 rfl) rfl rfl ?_
      refine gf_X1_19 rfl (D 6 rfl) hF.k0 hF.q0 ?_
      refine ht_len (by decide) (by decide) (D 7 rfl) hF.k2 hF.n2 ?_
      refine ht_icmp_ge (tgt := 158) (D 8 rfl) (by decide) (fun hb10 => ?_) (fun hb10 => ?_)
      · skip
        refine ht_aload_n (D 90 rfl) rfl rfl ?_
        refine gf_X1_9 rfl (D 91 rfl) hF.k0 hF.q1 ?_
        refine ht_iconst (v := 0) (D 92 rfl) (by decide) ?_
        refine hi_ild (n := 0) (D 93 rfl) hF.k1 hF.n1 (by first | rfl | exact nI_add _ _ | assumption) (by omega) (by first | decide | omega) ?_
        refine ht_iret (D 94 rfl) rfl rfl ?_
        exact ⟨by rw [← hq1], _, rfl, hd1⟩
      · skip
        exact absurd (Int32.le_refl _) hb10
    | succ r ih =>
      intro j hj hr Z1 l4 l5 t hd1 hq1
      refine sc_vstep hE hF hq hq9 hqf hd1 (by omega) ?_ l4 l5 (fun Z2 l4 l5 t2 h1 h2 h3 => ih (j + 1) (by omega) (by omega) Z2 l4 l5 t2 h1 (by rw [h2, hq1]; rfl))
      have := vbL_le (Z q) (Z (f + 2)) (q := (Z (f + 1), 0)) (Nat.zero_le _) j
      rw [← hq1] at this
      exact this
  show HT G mX1_valueBy 0 [some (.ref f), some (.ref q), none, none, none, none] [] (cv σ Z) 2 _
  refine ht_iconst (v := 0) (D 0 rfl) (by decide) ?_
  refine ht_istore_n (D 1 rfl) rfl (by decide) rfl ?_
  refine ht_iconst (v := 0) (D 2 rfl) (by decide) ?_
  refine ht_istore_n (D 3 rfl) rfl (by decide) rfl ?_
  exact ht_cast (loop n 0 (by omega) (by omega) Z none none 0 (Do.rf _ _) rfl) rfl rfl rfl
end C2
