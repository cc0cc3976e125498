/-! ===== the reference: one turn of reads ===== -/
abbrev isW (T : ST) (b e k i : Nat) : Prop := k = 1 ∧ pkA T b (e - b) = wB i
abbrev isS (T : ST) (b k : Nat) (s : Int32) : Prop := k = 3 ∧ T b = s
/-- the reference stands at a token, with c codes laid -/
def HD (T : ST) (n : Nat) (ice : Bool) (p b e k c : Nat) (V : VT) (U : UT) : Prop := RT T n p b e k V U ∧ V 1 = T ∧ V 0 3 = nI n ∧ V 0 30 = (if ice then 1 else 0) ∧ V 0 29 = nI c ∧ c ≤ 1000 + p ∧ n ≤ 1000
def FQ (c : Nat) (V V' : VT) : Prop := (∀ o, o ≠ 0 → o ≠ 20 → o ≠ 21 → o ≠ 22 → V' o = V o) ∧ (∀ i, i ≠ 4 → i ≠ 5 → i ≠ 6 → i ≠ 8 → i ≠ 9 → i ≠ 29 → V' 0 i = V 0 i) ∧ (∀ i, i < c → V' 20 i = V 20 i) ∧ (∀ i, 2000 ≤ i → V' 20 i = V 20 i)
theorem FQ_r (c : Nat) (V : VT) : FQ c V V := ⟨fun _ _ _ _ _ => rfl, fun _ _ _ _ _ _ _ => rfl, fun _ _ => rfl, fun _ _ => rfl⟩
theorem FQ_t {c c2 : Nat} {V V1 V2 : VT} (h : FQ c V V1) (h2 : FQ c2 V1 V2) (hc : c ≤ c2) : FQ c V V2 := ⟨fun o a b d e => (h2.1 o a b d e).trans (h.1 o a b d e), fun i a b c d e f => (h2.2.1 i a b c d e f).trans (h.2.1 i a b c d e f), fun i q => (h2.2.2.1 i (by omega)).trans (h.2.2.1 i q), fun i q => (h2.2.2.2 i q).trans (h.2.2.2 i q)⟩
theorem FQ_nf {c : Nat} {V V1 V2 : VT} (h : FQ c V V1) (h2 : NF V1 V2) : FQ c V V2 := ⟨fun o a b d e => (h2.1 o a).trans (h.1 o a b d e), fun i a b c d e f => (h2.2 i a b c d).trans (h.2.1 i a b c d e f), fun i q => by rw [h2.1 20 (by decide)]; exact h.2.2.1 i q, fun i q => by rw [h2.1 20 (by decide)]; exact h.2.2.2 i q⟩
theorem FQ_c {c : Nat} {V V1 : VT} (h : FQ c V V1) {j : Nat} (h1 : c ≤ j) (h2 : j < 2000) (x : Int32) : FQ c V (up2 V1 20 j x) := ⟨fun o a b d e => (up2_o V1 x b).trans (h.1 o a b d e), fun i a b c d e f => (up2_a V1 x (by decide)).trans (h.2.1 i a b c d e f), fun i q => (up2_k V1 x (by omega)).trans (h.2.2.1 i q), fun i q => (up2_k V1 x (by omega)).trans (h.2.2.2 i q)⟩
theorem FQ_0 {c : Nat} {V V1 : VT} (h : FQ c V V1) {j : Nat} (hj : j = 4 ∨ j = 5 ∨ j = 6 ∨ j = 8 ∨ j = 9 ∨ j = 29) (x : Int32) : FQ c V (up2 V1 0 j x) := ⟨fun o a b d e => (up2_o V1 x a).trans (h.1 o a b d e), fun i a b c d e f => (up2_k V1 x (by omega)).trans (h.2.1 i a b c d e f), fun i q => (up2_a V1 x (by decide)).trans (h.2.2.1 i q), fun i q => (up2_a V1 x (by decide)).trans (h.2.2.2 i q)⟩
theorem FQ_2 {c : Nat} {V V1 : VT} (h : FQ c V V1) {r : Nat} (hr : r = 21 ∨ r = 22) (j : Nat) (x : Int32) : FQ c V (up2 V1 r j x) := ⟨fun o a b d e => (up2_o V1 x (by omega)).trans (h.1 o a b d e), fun i a b c d e f => (up2_a V1 x (by omega)).trans (h.2.1 i a b c d e f), fun i q => (up2_a V1 x (by omega)).trans (h.2.2.1 i q), fun i q => (up2_a V1 x (by omega)).trans (h.2.2.2 i q)⟩
/-- out of the nots -/
def popO (O : ST) : Nat → Nat
  | 0 => 0
  | d + 1 => if O (d + 1) = 1 then popO O d else d + 1
theorem popO_le (O : ST) (d : Nat) : popO O d ≤ d := by
  induction d with
  | zero => exact Nat.le_refl _
  | succ d ih =>
    unfold popO
    split
    · omega
    · exact Nat.le_refl _
theorem popO_cg {O O2 : ST} {d : Nat} (h : ∀ i, i ≤ d → O2 i = O i) : popO O2 d = popO O d := by
  induction d with
  | zero => rfl
  | succ d ih =>
    unfold popO
    rw [h (d + 1) (by omega), ih (fun i hi => h i (by omega))]
section P5
variable {G : GG} {σ : Hp} {m : Nat} {V : VT} {U : UT} {T : ST} {n p b e k c d : Nat} {ice : Bool}
theorem HD.k1 (h : HD T n ice p b e k c V U) {j : Nat} (hj : j ≤ 4) : V 0 6 = nI j ↔ k = j := by
  rw [h.1.2.2.2.1]
  have := (TK_le h.1.1).2.2.2.2.2
  exact nI_eq (by omega) (by omega)
theorem HD.w (h : HD T n ice p b e k c V U) (w : Int64) : (V 0 6 = 1 ∧ U 0 7 = w) ↔ (k = 1 ∧ pkA T b (e - b) = w) := by
  rw [show V 0 6 = 1 ↔ k = 1 from h.k1 (j := 1) (by decide)]
  constructor
  · rintro ⟨q, r⟩
    exact ⟨q, by rw [← h.1.2.2.2.2.1 q]; exact r⟩
  · rintro ⟨q, r⟩
    exact ⟨q, by rw [h.1.2.2.2.2.1 q]; exact r⟩
theorem HD.s (h : HD T n ice p b e k c V U) (s : Int32) : (V 0 6 = 3 ∧ V 1 b = s) ↔ (k = 3 ∧ T b = s) := by
  rw [show V 0 6 = 3 ↔ k = 3 from h.k1 (j := 3) (by decide), h.2.1]
theorem HD.b3 (h : HD T n ice p b e k c V U) (q : V 0 6 = 3) : b < 1000 := by
  have h1 := (h.k1 (j := 3) (by decide)).mp q
  have h2 := TK_le h.1.1
  have h3 := h.2.2.2.2.2.2
  omega
theorem HD.ge (h : HD T n ice p b e k c V U) (q : k ≠ 0) : p < e ∧ e ≤ n ∧ c < 2000 ∧ c + 1 ≤ 1000 + e := by
  have h2 := TK_le h.1.1
  have h3 := h.2.2.2.2.2.1
  have h4 := h.2.2.2.2.2.2
  omega
theorem b01_cg {p q : Prop} [Decidable p] [Decidable q] (h : p ↔ q) : b01 p = b01 q := by
  by_cases c : p
  · rw [b01_t c, b01_t (h.mp c)]
  · rw [b01_f c, b01_f (fun r => c (h.mpr r))]
theorem sm_isWd (hM : MS σ m) (h : HD T n ice p b e k c V U) (i : Nat) : Sp G mX10_isWord 0 [.ref m, .long (wB i)] (sv σ m V U) (fun rv σ' => rv = some (.int (b01 (isW T b e k i))) ∧ σ' = sv σ m V U) := by
  rw [← b01_cg (h.w (wB i))]
  exact sm_isWord hM (wB i)
theorem sm_isSg (hM : MS σ m) (h : HD T n ice p b e k c V U) (s : Int32) : Sp G mX10_isSign 0 [.ref m, .int s] (sv σ m V U) (fun rv σ' => rv = some (.int (b01 (isS T b k s))) ∧ σ' = sv σ m V U) := by
  rw [← b01_cg (h.s s)]
  exact sm_isSign hM s h.1.2.1 h.b3
theorem HD_nx (h : HD T n ice p b e k c V U) {V1 V2 : VT} {U2 : UT} {b2 e2 k2 c2 : Nat} (h1 : V1 1 = V 1) (h3 : V1 0 3 = V 0 3) (h30 : V1 0 30 = V 0 30) (h29 : V1 0 29 = nI c2) (hc : c2 ≤ 1000 + e) (hf : NF V1 V2) (hr : RT T n e b2 e2 k2 V2 U2) : HD T n ice e b2 e2 k2 c2 V2 U2 :=
  ⟨hr, by rw [hf.1 1 (by decide), h1]; exact h.2.1, by rw [hf.2 3 (by decide) (by decide) (by decide) (by decide), h3]; exact h.2.2.1, by rw [hf.2 30 (by decide) (by decide) (by decide) (by decide), h30]; exact h.2.2.2.1, by rw [hf.2 29 (by decide) (by decide) (by decide) (by decide)]; exact h29, hc, h.2.2.2.2.2.2⟩
set_option maxRecDepth 100000 in
theorem rd_pop1 (hM : MS σ m) {x : Int32} {l3 l4 l5 : Option Value} {Q : Option Value → Hp → Prop} (hd : d ≤ 6) (kk : HT G mX10_reads 172 [some (.ref m), some (.int (nI (popO (V 21) d))), some (.int x), l3, l4, l5] [] (sv σ m V U) 2 Q) : HT G mX10_reads 152 [some (.ref m), some (.int (nI d)), some (.int x), l3, l4, l5] [] (sv σ m V U) 2 Q := by
  have D := dat dl_X10_reads
  induction d with
  | zero =>
    refine ht_iload_n (D 82 rfl) rfl rfl ?_
    refine ht_if_le (tgt := 172) (D 83 rfl) (by decide) (fun _ => kk) (fun q => absurd (by decide) q)
  | succ d ih =>
    refine ht_iload_n (D 82 rfl) rfl rfl ?_
    refine ht_if_le (tgt := 172) (D 83 rfl) (by decide) (fun hb153 => ?_) (fun hb153 => ?_)
    · skip
      exact absurd hb153 (by rw [Int32.not_le]; exact nI_lt (a := 0) (by omega) (by omega))
    · skip
      refine ht_aload_n (D 84 rfl) rfl rfl ?_
      refine gf_X10_71 rfl (D 85 rfl) hM.k0 hM.q21 ?_
      refine ht_iload_n (D 86 rfl) rfl rfl ?_
      refine hm_ild (o := 21) (n := d + 1) (by decide) (D 87 rfl) hM.k21 hM.n21 (by first | rfl | exact nI_add _ _ | assumption) (by omega) (by decide) ?_
      refine ht_iconst (v := 1) (D 88 rfl) (by decide) ?_
      refine ht_icmp_ne (tgt := 172) (D 89 rfl) (by decide) (fun hb163 => ?_) (fun hb163 => ?_)
      · skip
        exact ht_cast (by rw [show popO (V 21) (d + 1) = d + 1 from if_neg hb163] at kk; exact kk) rfl rfl rfl
      · skip
        rw [show popO (V 21) (d + 1) = popO (V 21) d from if_pos hb163] at kk
        refine ht_iinc (v := nI d) (D 90 rfl) rfl (nI_dec (t := d + 1) (by omega)) (by decide) rfl ?_
        refine ht_goto (tgt := 152) (D 91 rfl) (by decide) ?_
        exact ih (by omega) kk
set_option maxRecDepth 100000 in
theorem rd_pop2 (hM : MS σ m) {x : Int32} {l3 l4 l5 : Option Value} {Q : Option Value → Hp → Prop} (hd : d ≤ 6) (kk : HT G mX10_reads 424 [some (.ref m), some (.int (nI (popO (V 21) d))), some (.int x), l3, l4, l5] [] (sv σ m V U) 2 Q) : HT G mX10_reads 379 [some (.ref m), some (.int (nI d)), some (.int x), l3, l4, l5] [] (sv σ m V U) 2 Q := by
  have D := dat dl_X10_reads
  induction d with
  | zero =>
    refine ht_iload_n (D 190 rfl) rfl rfl ?_
    refine ht_if_le (tgt := 424) (D 191 rfl) (by decide) (fun _ => kk) (fun q => absurd (by decide) q)
  | succ d ih =>
    refine ht_iload_n (D 190 rfl) rfl rfl ?_
    refine ht_if_le (tgt := 424) (D 191 rfl) (by decide) (fun hb380 => ?_) (fun hb380 => ?_)
    · skip
      exact absurd hb380 (by rw [Int32.not_le]; exact nI_lt (a := 0) (by omega) (by omega))
    · skip
      refine ht_aload_n (D 192 rfl) rfl rfl ?_
      refine gf_X10_71 rfl (D 193 rfl) hM.k0 hM.q21 ?_
      refine ht_iload_n (D 194 rfl) rfl rfl ?_
      refine hm_ild (o := 21) (n := d + 1) (by decide) (D 195 rfl) hM.k21 hM.n21 (by first | rfl | exact nI_add _ _ | assumption) (by omega) (by decide) ?_
      refine ht_iconst (v := 1) (D 196 rfl) (by decide) ?_
      refine ht_icmp_ne (tgt := 424) (D 197 rfl) (by decide) (fun hb390 => ?_) (fun hb390 => ?_)
      · skip
        exact ht_cast (by rw [show popO (V 21) (d + 1) = d + 1 from if_neg hb390] at kk; exact kk) rfl rfl rfl
      · skip
        rw [show popO (V 21) (d + 1) = popO (V 21) d from if_pos hb390] at kk
        refine ht_iinc (v := nI d) (D 198 rfl) rfl (nI_dec (t := d + 1) (by omega)) (by decide) rfl ?_
        refine ht_goto (tgt := 379) (D 199 rfl) (by decide) ?_
        exact ih (by omega) kk
end P5
