/-! ===== the class: hands, hours, trials ===== -/
theorem nv_stv1 (dN : Nat) (Z : VT) (a : Nat) {k : Nat} (hk : k < 8) (v : Int32) : nv dN (up2 Z (a + 1) k v) a = va_up (nv dN Z a) (60 + k) (v) := by
  have kq : ∀ q, q ≠ a + 1 → up2 Z (a + 1) k v q = Z q := fun q hq => up2_o _ _ hq
  refine nv_ext (fun i hi => ?_) (fun i hi => ?_) (fun i hi => ?_) ?_ (fun i hi => ?_)
  · rw [va_ne _ _ (show i ≠ 60 + k by omega), va_ne _ _ (show 10 + i ≠ 60 + k by omega), va_ne _ _ (show 20 + i ≠ 60 + k by omega), va_ne _ _ (show 30 + i ≠ 60 + k by omega), va_ne _ _ (show 40 + i ≠ 60 + k by omega), va_ne _ _ (show 50 + i ≠ 60 + k by omega)]
    rw [nv_ice _ _ _ hi, nv_wat _ _ _ hi, nv_slt _ _ _ hi, nv_bar _ _ _ hi, nv_bwa _ _ _ hi, nv_bes _ _ _ hi, nv_ice _ _ _ hi, nv_wat _ _ _ hi, nv_slt _ _ _ hi, nv_bar _ _ _ hi, nv_bwa _ _ _ hi, nv_bes _ _ _ hi, kq (a + 6 + i) (by omega)]
    exact ⟨rfl, rfl, rfl, rfl, rfl, rfl⟩
  · rw [nv_stv _ _ _ hi]
    by_cases c : i = k
    · rw [c, va_sm, up2_s]
    · rw [va_ne _ _ (by omega), up2_at _ _ c, nv_stv _ _ _ hi]
  · rw [va_ne _ _ (show 68 + i ≠ 60 + k by omega), va_ne _ _ (show 74 + i ≠ 60 + k by omega), nv_man _ _ _ hi, nv_man _ _ _ hi, nv_bag _ _ _ hi, nv_bag _ _ _ hi, kq (a + 2) (by omega), kq (a + 3) (by omega)]
    exact ⟨rfl, rfl⟩
  · rw [va_ne _ _ (by omega), nv_hour, nv_hour, kq _ (by omega)]
  · rw [va_ne _ _ (by omega), nv_hi _ _ _ hi, nv_hi _ _ _ hi]
theorem nv_bag1 (dN : Nat) (Z : VT) (a : Nat) {k : Nat} (hk : k < 6) (v : Int32) : nv dN (up2 Z (a + 3) k v) a = va_up (nv dN Z a) (74 + k) (v) := by
  have kq : ∀ q, q ≠ a + 3 → up2 Z (a + 3) k v q = Z q := fun q hq => up2_o _ _ hq
  refine nv_ext (fun i hi => ?_) (fun i hi => ?_) (fun i hi => ?_) ?_ (fun i hi => ?_)
  · rw [va_ne _ _ (show i ≠ 74 + k by omega), va_ne _ _ (show 10 + i ≠ 74 + k by omega), va_ne _ _ (show 20 + i ≠ 74 + k by omega), va_ne _ _ (show 30 + i ≠ 74 + k by omega), va_ne _ _ (show 40 + i ≠ 74 + k by omega), va_ne _ _ (show 50 + i ≠ 74 + k by omega)]
    rw [nv_ice _ _ _ hi, nv_wat _ _ _ hi, nv_slt _ _ _ hi, nv_bar _ _ _ hi, nv_bwa _ _ _ hi, nv_bes _ _ _ hi, nv_ice _ _ _ hi, nv_wat _ _ _ hi, nv_slt _ _ _ hi, nv_bar _ _ _ hi, nv_bwa _ _ _ hi, nv_bes _ _ _ hi, kq (a + 6 + i) (by omega)]
    exact ⟨rfl, rfl, rfl, rfl, rfl, rfl⟩
  · rw [va_ne _ _ (show 60 + i ≠ 74 + k by omega), nv_stv _ _ _ hi, nv_stv _ _ _ hi, kq (a + 1) (by omega)]
  · rw [va_ne _ _ (show 68 + i ≠ 74 + k by omega), nv_man _ _ _ hi, nv_man _ _ _ hi, nv_bag _ _ _ hi, kq (a + 2) (by omega)]
    refine ⟨rfl, ?_⟩
    by_cases c : i = k
    · rw [c, va_sm, up2_s]
    · rw [va_ne _ _ (by omega), up2_at _ _ c, nv_bag _ _ _ hi]
  · rw [va_ne _ _ (by omega), nv_hour, nv_hour, kq _ (by omega)]
  · rw [va_ne _ _ (by omega), nv_hi _ _ _ hi, nv_hi _ _ _ hi]
theorem nv_slt1 (dN : Nat) (Z : VT) (a : Nat) {k : Nat} (hk : k < 10) (v : Int32) : nv dN (up2 Z (a + 6 + k) 2 v) a = va_up (nv dN Z a) (20 + k) (v) := by
  have kq : ∀ q, q ≠ a + 6 + k → up2 Z (a + 6 + k) 2 v q = Z q := fun q hq => up2_o _ _ hq
  refine nv_ext (fun i hi => ?_) (fun i hi => ?_) (fun i hi => ?_) ?_ (fun i hi => ?_)
  · by_cases c : i = k
    · subst c
      have e0 : va_up (nv dN Z a) (20 + i) (v) (i) = nv dN Z a (i) := va_ne _ _ (by omega)
      have e10 : va_up (nv dN Z a) (20 + i) (v) (10 + i) = nv dN Z a (10 + i) := va_ne _ _ (by omega)
      have e30 : va_up (nv dN Z a) (20 + i) (v) (30 + i) = nv dN Z a (30 + i) := va_ne _ _ (by omega)
      have e40 : va_up (nv dN Z a) (20 + i) (v) (40 + i) = nv dN Z a (40 + i) := va_ne _ _ (by omega)
      have e50 : va_up (nv dN Z a) (20 + i) (v) (50 + i) = nv dN Z a (50 + i) := va_ne _ _ (by omega)
      rw [e0, e10, e30, e40, e50, va_sm]
      rw [nv_ice dN (up2 Z (a + 6 + i) 2 v) a hi, nv_wat dN (up2 Z (a + 6 + i) 2 v) a hi, nv_slt dN (up2 Z (a + 6 + i) 2 v) a hi, nv_bar dN (up2 Z (a + 6 + i) 2 v) a hi, nv_bwa dN (up2 Z (a + 6 + i) 2 v) a hi, nv_bes dN (up2 Z (a + 6 + i) 2 v) a hi]
      rw [nv_ice dN Z a hi]
      rw [nv_wat dN Z a hi]
      rw [nv_bar dN Z a hi]
      rw [nv_bwa dN Z a hi]
      rw [nv_bes dN Z a hi]
      try rw [up2_at _ _ (show (0 : Nat) ≠ 2 by decide)]
      try rw [up2_at _ _ (show (1 : Nat) ≠ 2 by decide)]
      try rw [up2_at _ _ (show (3 : Nat) ≠ 2 by decide)]
      try rw [up2_at _ _ (show (4 : Nat) ≠ 2 by decide)]
      try rw [up2_s]
      exact ⟨rfl, rfl, rfl, rfl, rfl, rfl⟩
    · rw [va_ne _ _ (show i ≠ 20 + k by omega), va_ne _ _ (show 10 + i ≠ 20 + k by omega), va_ne _ _ (show 20 + i ≠ 20 + k by omega), va_ne _ _ (show 30 + i ≠ 20 + k by omega), va_ne _ _ (show 40 + i ≠ 20 + k by omega), va_ne _ _ (show 50 + i ≠ 20 + k by omega)]
      rw [nv_ice _ _ _ hi, nv_wat _ _ _ hi, nv_slt _ _ _ hi, nv_bar _ _ _ hi, nv_bwa _ _ _ hi, nv_bes _ _ _ hi, nv_ice _ _ _ hi, nv_wat _ _ _ hi, nv_slt _ _ _ hi, nv_bar _ _ _ hi, nv_bwa _ _ _ hi, nv_bes _ _ _ hi, kq (a + 6 + i) (by omega)]
      exact ⟨rfl, rfl, rfl, rfl, rfl, rfl⟩
  · rw [va_ne _ _ (show 60 + i ≠ 20 + k by omega), nv_stv _ _ _ hi, nv_stv _ _ _ hi, kq (a + 1) (by omega)]
  · rw [va_ne _ _ (show 68 + i ≠ 20 + k by omega), va_ne _ _ (show 74 + i ≠ 20 + k by omega), nv_man _ _ _ hi, nv_man _ _ _ hi, nv_bag _ _ _ hi, nv_bag _ _ _ hi, kq (a + 2) (by omega), kq (a + 3) (by omega)]
    exact ⟨rfl, rfl⟩
  · rw [va_ne _ _ (by omega), nv_hour, nv_hour, kq _ (by omega)]
  · rw [va_ne _ _ (by omega), nv_hi _ _ _ hi, nv_hi _ _ _ hi]
theorem nv_bes1 (dN : Nat) (Z : VT) (a : Nat) {k : Nat} (hk : k < 10) (hkd : k < dN) (v : Int32) : nv dN (up2 Z (a + 6 + k) 4 v) a = va_up (nv dN Z a) (50 + k) (v + 1) := by
  have kq : ∀ q, q ≠ a + 6 + k → up2 Z (a + 6 + k) 4 v q = Z q := fun q hq => up2_o _ _ hq
  refine nv_ext (fun i hi => ?_) (fun i hi => ?_) (fun i hi => ?_) ?_ (fun i hi => ?_)
  · by_cases c : i = k
    · subst c
      have e0 : va_up (nv dN Z a) (50 + i) (v + 1) (i) = nv dN Z a (i) := va_ne _ _ (by omega)
      have e10 : va_up (nv dN Z a) (50 + i) (v + 1) (10 + i) = nv dN Z a (10 + i) := va_ne _ _ (by omega)
      have e20 : va_up (nv dN Z a) (50 + i) (v + 1) (20 + i) = nv dN Z a (20 + i) := va_ne _ _ (by omega)
      have e30 : va_up (nv dN Z a) (50 + i) (v + 1) (30 + i) = nv dN Z a (30 + i) := va_ne _ _ (by omega)
      have e40 : va_up (nv dN Z a) (50 + i) (v + 1) (40 + i) = nv dN Z a (40 + i) := va_ne _ _ (by omega)
      rw [e0, e10, e20, e30, e40, va_sm]
      rw [nv_ice dN (up2 Z (a + 6 + i) 4 v) a hi, nv_wat dN (up2 Z (a + 6 + i) 4 v) a hi, nv_slt dN (up2 Z (a + 6 + i) 4 v) a hi, nv_bar dN (up2 Z (a + 6 + i) 4 v) a hi, nv_bwa dN (up2 Z (a + 6 + i) 4 v) a hi, nv_bes dN (up2 Z (a + 6 + i) 4 v) a hi]
      rw [nv_ice dN Z a hi]
      rw [nv_wat dN Z a hi]
      rw [nv_slt dN Z a hi]
      rw [nv_bar dN Z a hi]
      rw [nv_bwa dN Z a hi]
      try rw [up2_at _ _ (show (0 : Nat) ≠ 4 by decide)]
      try rw [up2_at _ _ (show (1 : Nat) ≠ 4 by decide)]
      try rw [up2_at _ _ (show (2 : Nat) ≠ 4 by decide)]
      try rw [up2_at _ _ (show (3 : Nat) ≠ 4 by decide)]
      try rw [up2_s]
      exact ⟨rfl, rfl, rfl, rfl, rfl, by rw [if_pos hkd]⟩
    · rw [va_ne _ _ (show i ≠ 50 + k by omega), va_ne _ _ (show 10 + i ≠ 50 + k by omega), va_ne _ _ (show 20 + i ≠ 50 + k by omega), va_ne _ _ (show 30 + i ≠ 50 + k by omega), va_ne _ _ (show 40 + i ≠ 50 + k by omega), va_ne _ _ (show 50 + i ≠ 50 + k by omega)]
      rw [nv_ice _ _ _ hi, nv_wat _ _ _ hi, nv_slt _ _ _ hi, nv_bar _ _ _ hi, nv_bwa _ _ _ hi, nv_bes _ _ _ hi, nv_ice _ _ _ hi, nv_wat _ _ _ hi, nv_slt _ _ _ hi, nv_bar _ _ _ hi, nv_bwa _ _ _ hi, nv_bes _ _ _ hi, kq (a + 6 + i) (by omega)]
      exact ⟨rfl, rfl, rfl, rfl, rfl, rfl⟩
  · rw [va_ne _ _ (show 60 + i ≠ 50 + k by omega), nv_stv _ _ _ hi, nv_stv _ _ _ hi, kq (a + 1) (by omega)]
  · rw [va_ne _ _ (show 68 + i ≠ 50 + k by omega), va_ne _ _ (show 74 + i ≠ 50 + k by omega), nv_man _ _ _ hi, nv_man _ _ _ hi, nv_bag _ _ _ hi, nv_bag _ _ _ hi, kq (a + 2) (by omega), kq (a + 3) (by omega)]
    exact ⟨rfl, rfl⟩
  · rw [va_ne _ _ (by omega), nv_hour, nv_hour, kq _ (by omega)]
  · rw [va_ne _ _ (by omega), nv_hi _ _ _ hi, nv_hi _ _ _ hi]
theorem hd_0 {P : Prop} {y : Int32} (h : (y = 1 ∧ P) ∨ (y = 0 ∧ ¬ P)) (e : y = 0) : ¬ P := by
  rcases h with ⟨r, -⟩ | ⟨-, r⟩
  · rw [r] at e; exact absurd e (by decide)
  · exact r
theorem hd_1 {P : Prop} {y : Int32} (h : (y = 1 ∧ P) ∨ (y = 0 ∧ ¬ P)) (e : ¬ y = 0) : P := by
  rcases h with ⟨-, r⟩ | ⟨r, -⟩
  · exact r
  · exact absurd r e
theorem or_four (p q r s : Int32) : (p ||| r) ||| (q ||| s) = (p ||| q) ||| (r ||| s) := by
  rw [Int32.or_assoc, Int32.or_assoc, ← Int32.or_assoc r q s, Int32.or_comm r q, Int32.or_assoc]
theorem mI2_or {S T : ST} {c e : Int32} (hc : 0 ≤ c) (he : e = -1 ∨ 0 ≤ e) {n : Nat} (h : ∀ i, i < n → S i = T (68 + i)) (k : Nat) (hk : k ≤ n) : mI2 S c e k = mIn T c k ||| mIn T e k := by
  have hn : ∀ x : Int32, 0 ≤ x → ¬ x = -1 := fun x h e => by rw [e] at h; exact absurd h (by decide)
  induction k with
  | zero => simp [mI2, mIn]
  | succ k ih =>
    simp only [mI2, mIn]
    rw [ih (by omega), h k (by omega), or_four]
    congr 1
    by_cases e1 : T (68 + k) = c
    · rw [if_pos ⟨Or.inl e1, by rw [e1]; exact hn c hc⟩, if_pos ⟨hc, e1⟩]
      split
      · rw [Int32.or_self]
      · rw [Int32.or_zero]
    · rw [if_neg (show ¬ (0 ≤ c ∧ T (68 + k) = c) from fun q => e1 q.2), Int32.zero_or]
      by_cases e2 : T (68 + k) = e
      · rcases he with he | he
        · rw [if_neg (fun q => q.2 (e2.trans he)), if_neg (fun q => by rw [he] at q; exact absurd q.1 (by decide))]
        · rw [if_pos ⟨Or.inr e2, by rw [e2]; exact hn e he⟩, if_pos ⟨he, e2⟩]
      · rw [if_neg (fun q => q.1.elim e1 e2), if_neg (fun q => e2 q.2)]
section C9
variable {G : GG} {σ : Hp} {Z : VT} {xo b : Nat} {V : VT} {cN dN mN gk : Nat} {gw : Option GWt} {gi : Option GIt}
set_option maxRecDepth 100000 in
theorem sc_laySalt {a : Nat} (hW : NW σ Z a b V cN dN mN gk gw gi) {k d : Nat} (hk : k < mN) (hd : d < dN) : Sp G mX4_laySalt 1 [.ref a, .int (nI k), .int (nI d)] (cv σ Z) (fun rv σ' => rv = none ∧ ∃ Z2 : VT, σ' = cv σ Z2 ∧ Fr (fun q => a ≤ q ∧ q < a + 16) Z Z2 ∧ nv dN Z2 a = slT V (slS V (nv dN Z a) mN k d) mN d ∧ Z2 a = Z a) := by
  have D := dat dl_X4_laySalt
  show HT G mX4_laySalt 0 [some (.ref a), some (.int (nI k)), some (.int (nI d)), none] [] (cv σ Z) 1 _
  have h10 := hW.d10
  have h6 := hW.m6
  have h8 := hW.c8
  have hc0 : 0 ≤ V 10 d := by
    obtain ⟨p, p1, p2, -⟩ := hW.dc hd
    rw [p2]
    exact nI_pos' (by omega)
  have he0 : V 11 d = -1 ∨ 0 ≤ V 11 d := by
    rcases hW.pl.2.2.2.2.2.2 d hd with c | ⟨e, c1, c2⟩
    · exact Or.inl c
    · right; rw [c2]; exact nI_pos' (by omega)
  refine ht_aload_n (D 0 rfl) rfl rfl ?_
  refine gf_X4_23 rfl (D 1 rfl) hW.nt.k0 hW.nt.q4 ?_
  refine ht_iload_n (D 2 rfl) rfl rfl ?_
  refine ht_ald (n := d) (Or.inl rfl) (D 3 rfl) hW.nt.k4 hW.nt.n4 rfl (by omega) (by decide) (hW.nt.lq (j := d) (by omega)) ?_
  refine ht_astore_n (D 4 rfl) rfl (by decide) rfl ?_
  refine ht_aload_n (D 5 rfl) rfl rfl ?_
  refine gf_X4_18 rfl (D 6 rfl) hW.nt.k0 hW.nt.q3 ?_
  refine ht_iload_n (D 7 rfl) rfl rfl ?_
  refine ht_dup2 (D 8 rfl) rfl rfl ?_
  refine hi_ild (n := k) (D 9 rfl) hW.nt.k3 hW.nt.n3 rfl (by omega) (by first | decide | omega) ?_
  refine ht_iconst (v := 1) (D 10 rfl) (by decide) ?_
  refine ht_isub (D 11 rfl) ?_
  refine hi_ist (n := k) (D 12 rfl) hW.nt.k3 hW.nt.n3 rfl (by omega) (by first | decide | omega) ?_
  have hS1 : nv dN (up2 Z (a + 3) k (Z (a + 3) k - 1)) a = va_up (nv dN Z a) (74 + k) (nv dN Z a (74 + k) - 1) := by rw [nv_bag1 _ _ _ (by omega), nv_bag _ _ _ (show k < 6 by omega)]
  have hb2 : ∀ q, b ≤ q → q < b + 11 → up2 Z (a + 3) k (Z (a + 3) k - 1) q = Z q := fun q q1 q2 => up2_o _ _ (by rcases hW.ap.1 with c | c <;> omega)
  refine ht_aload_n (D 13 rfl) rfl rfl ?_
  refine ht_dup (D 14 rfl) rfl ?_
  refine gi_X4_94 rfl (D 15 rfl) (hW.nt.lk (j := d) (by omega)) ?_
  refine ht_iconst (v := 1) (D 16 rfl) (by decide) ?_
  refine ht_iadd (D 17 rfl) ?_
  refine pi_X4_94 rfl (D 18 rfl) (hW.nt.lk (j := d) (by omega)) ?_
  generalize hZ2 : up2 (up2 Z (a + 3) k (Z (a + 3) k - 1)) (a + 6 + d) 2 (up2 Z (a + 3) k (Z (a + 3) k - 1) (a + 6 + d) 2 + 1) = Z2
  have hS2 : nv dN Z2 a = slS V (nv dN Z a) mN k d := by
    rw [← hZ2, nv_slt1 _ _ _ (by omega), hS1]
    unfold slS
    rw [← hS1, nv_slt _ _ _ (show d < 10 by omega)]
  have hk2 : ∀ q, q ≠ a + 3 → q ≠ a + 6 + d → Z2 q = Z q := fun q q1 q2 => by rw [← hZ2, up2_o _ _ q2, up2_o _ _ q1]
  have hb2 : Z2 b 2 = Z b 2 := by rw [hk2 b (by rcases hW.ap.1 with c | c <;> omega) (by rcases hW.ap.1 with c | c <;> omega)]
  refine ht_aload_n (D 19 rfl) rfl rfl ?_
  refine gi_X4_97 rfl (D 20 rfl) (hW.nt.lk (j := d) (by omega)) ?_
  refine ht_iconst (v := -1) (D 21 rfl) (by decide) ?_
  refine ht_icmp_ne (tgt := 61) (D 22 rfl) (by decide) (fun hb32 => ?_) (fun hb32 => ?_)
  · skip
    have h50 : ¬ nv dN Z2 a (50 + d) = 0 := by
      rw [nv_bes _ _ _ (show d < 10 by omega), if_pos hd]
      intro e
      exact hb32 (by grind)
    refine ht_vret (D 37 rfl) rfl ?_
    first
    | (refine ⟨rfl, _, rfl, fun q hq => hk2 q (by omega) (by omega), ?_, hk2 a (by omega) (by omega)⟩
       rw [← hS2]
       unfold slT
       rw [if_neg h50])
    | (refine ⟨rfl, _, rfl, fun q hq => (up2_o _ _ (show q ≠ a + 6 + d by omega)).trans (hk2 q (by omega) (by omega)), ?_, (up2_o _ _ (by omega)).trans (hk2 a (by omega) (by omega))⟩
       rw [nv_bes1 _ _ _ (by omega) hd, ← hS2]
       unfold slT
       rw [if_pos h50, hk2 (b + 3) (by rcases hW.ap.1 with c | c <;> omega) (by rcases hW.ap.1 with c | c <;> omega), hk2 (b + 4) (by rcases hW.ap.1 with c | c <;> omega) (by rcases hW.ap.1 with c | c <;> omega), (hW.lr.2.1 d hd).1, (hW.lr.2.1 d hd).2, mI2_or (T := nv dN Z2 a) hc0 he0 (n := 6) (fun i hi => (nv_man dN Z2 a hi).symm) mN h6, Int32.add_comm])
  · skip
    have h50 : nv dN Z2 a (50 + d) = 0 := by
      rw [nv_bes _ _ _ (show d < 10 by omega), if_pos hd, hb32]
      rfl
    refine ht_aload_n (D 23 rfl) rfl rfl ?_
    refine ht_aload_n (D 24 rfl) rfl rfl ?_
    refine ht_aload_n (D 25 rfl) rfl rfl ?_
    refine gf_X4_31 rfl (D 26 rfl) hW.nt.k0 hW.lq ?_
    refine gf_X4_100 rfl (D 27 rfl) hW.lb.k0 hW.lb.q3 ?_
    refine ht_iload_n (D 28 rfl) rfl rfl ?_
    refine hi_ild (n := d) (D 29 rfl) hW.lb.k3 hW.lb.n3 rfl (by omega) (by first | decide | omega) ?_
    refine ht_aload_n (D 30 rfl) rfl rfl ?_
    refine gf_X4_31 rfl (D 31 rfl) hW.nt.k0 hW.lq ?_
    refine gf_X4_103 rfl (D 32 rfl) hW.lb.k0 hW.lb.q4 ?_
    refine ht_iload_n (D 33 rfl) rfl rfl ?_
    refine hi_ild (n := d) (D 34 rfl) hW.lb.k4 hW.lb.n4 rfl (by omega) (by first | decide | omega) ?_
    refine kVX4_menIn (As := [_, _]) cl_X4_106 (D 35 rfl) (sc_menIn hW.nt hW.lq hW.lb (by rw [hb2, hW.nm]) h6 _ _) hW.nt.k0 rfl (Nat.le_of_ble_eq_true rfl) rfl (Nat.le_of_ble_eq_true rfl) (by omega) ?_
    rintro _ _ ⟨rfl, rfl⟩
    refine pi_X4_97 rfl (D 36 rfl) (hW.nt.lk (j := d) (by omega)) ?_
    refine ht_vret (D 37 rfl) rfl ?_
    first
    | (refine ⟨rfl, _, rfl, fun q hq => hk2 q (by omega) (by omega), ?_, hk2 a (by omega) (by omega)⟩
       rw [← hS2]
       unfold slT
       rw [if_neg h50])
    | (refine ⟨rfl, _, rfl, fun q hq => (up2_o _ _ (show q ≠ a + 6 + d by omega)).trans (hk2 q (by omega) (by omega)), ?_, (up2_o _ _ (by omega)).trans (hk2 a (by omega) (by omega))⟩
       rw [nv_bes1 _ _ _ (by omega) hd, ← hS2]
       unfold slT
       rw [if_pos h50, hk2 (b + 3) (by rcases hW.ap.1 with c | c <;> omega) (by rcases hW.ap.1 with c | c <;> omega), hk2 (b + 4) (by rcases hW.ap.1 with c | c <;> omega) (by rcases hW.ap.1 with c | c <;> omega), (hW.lr.2.1 d hd).1, (hW.lr.2.1 d hd).2, mI2_or (T := nv dN Z2 a) hc0 he0 (n := 6) (fun i hi => (nv_man dN Z2 a hi).symm) mN h6, Int32.add_comm])
set_option maxRecDepth 100000 in
theorem sc_salt (hE : NE G) (hC : CW σ Z xo b V cN dN mN gk gw gi) (hbar : Z (xo + 14) 2 = -1) (hmn : Mn (nv dN Z (xo + 14)) cN mN) (hbag : ∀ k, k < mN → ∃ u, u ≤ 9 ∧ nv dN Z (xo + 14) (74 + k) = nI u) (x yd : Int32) : Sp G mX9_salt 2 [.ref xo, .int x, .int yd] (cv σ Z) (QC σ xo b dN Z ((aSalt V (nv dN Z (xo + 14)) dN mN x yd).1) ((aSalt V (nv dN Z (xo + 14)) dN mN x yd).2)) := by
  have D := dat dl_X9_salt
  show HT G mX9_salt 0 [some (.ref xo), some (.int x), some (.int yd)] [] (cv σ Z) 2 _
  have hX := hC.1
  have hW := hC.2.1
  have h10 := hW.d10
  have h8 := hW.c8
  have h6 := hW.m6
  have h2 := hW.g2
  refine ht_aload_n (D 0 rfl) rfl rfl ?_
  refine ht_iload_n (D 1 rfl) rfl rfl ?_
  refine kVX9_isHeld (As := [_]) cl_X9_154 (D 2 rfl) (sc_isHeld hE hC hbar hmn x) hX.k0 rfl (Nat.le_of_ble_eq_true rfl) rfl (Nat.le_of_ble_eq_true rfl) (by omega) ?_
  rintro _ _ ⟨⟨y, rfl, hy⟩, rfl⟩
  refine ht_if_eq (tgt := 25) (D 3 rfl) (by decide) (fun hb5 => ?_) (fun hb5 => ?_)
  · skip
    have hno : ¬ aSaltOk V (nv dN Z (xo + 14)) dN mN x yd := fun q => hd_0 hy hb5 q.1
    refine ht_iconst (v := 0) (D 11 rfl) (by decide) ?_
    refine ht_iret (D 12 rfl) rfl rfl ?_
    exact QC_k (by rw [aSalt_f hno]) (Fr.rf _ _) (by rw [aSalt_f hno]) hbar
  · skip
    have hhe := hd_1 hy hb5
    refine ht_iload_n (D 4 rfl) rfl rfl ?_
    refine ht_aload_n (D 5 rfl) rfl rfl ?_
    refine gf_X9_24 rfl (D 6 rfl) hX.k0 hX.q1 ?_
    refine gf_X9_75 rfl (D 7 rfl) hX.nt.k0 hW.lq ?_
    refine gi_X9_97 rfl (D 8 rfl) hW.lb.k0 ?_
    rw [hW.nd]
    refine kSX9_isBelow (As := [_, _]) cl_X9_79 (D 9 rfl) (sc_isBelow _ _) rfl (Nat.le_of_ble_eq_true rfl) rfl (Nat.le_of_ble_eq_true rfl) (by omega) ?_
    rintro _ _ ⟨rfl, rfl⟩
    refine ht_if_ne (tgt := 27) (D 10 rfl) (by decide) (fun hb22 => ?_) (fun hb22 => ?_)
    · skip
      have hdo := b01_ne hb22
      obtain ⟨k, hk1, rfl⟩ := rng (by omega) hhe.1
      obtain ⟨d, hd1, rfl⟩ := rng (by omega) hdo
      obtain ⟨u, u1, u2⟩ := hbag k hk1
      have u3 := u2
      rw [nv_bag _ _ _ (show k < 6 by omega)] at u3
      refine ht_aload_n (D 13 rfl) rfl rfl ?_
      refine gf_X9_24 rfl (D 14 rfl) hX.k0 hX.q1 ?_
      refine gf_X9_134 rfl (D 15 rfl) hX.nt.k0 hX.nt.q3 ?_
      refine ht_iload_n (D 16 rfl) rfl rfl ?_
      refine hi_ild (n := k) (D 17 rfl) hX.nt.k3 hX.nt.n3 rfl (by omega) (by first | decide | omega) ?_
      refine ht_if_le (tgt := 64) (D 18 rfl) (by decide) (fun hb36 => ?_) (fun hb36 => ?_)
      · skip
        have hno : ¬ aSaltOk V (nv dN Z (xo + 14)) dN mN (nI k) (nI d) := fun q => by
          have q2 := q.2.2.1
          rw [nI_clamp (by omega), u2] at q2
          rcases Nat.eq_zero_or_pos u with e | e
          · exact q2 (by rw [e]; rfl)
          · rw [u3] at hb36; exact nI_nle e (by omega) hb36
        refine ht_iconst (v := 0) (D 31 rfl) (by decide) ?_
        refine ht_iret (D 32 rfl) rfl rfl ?_
        exact QC_k (by rw [aSalt_f hno]) (Fr.rf _ _) (by rw [aSalt_f hno]) hbar
      · skip
        refine ht_aload_n (D 19 rfl) rfl rfl ?_
        refine gf_X9_24 rfl (D 20 rfl) hX.k0 hX.q1 ?_
        refine gf_X9_75 rfl (D 21 rfl) hX.nt.k0 hW.lq ?_
        refine ht_iload_n (D 22 rfl) rfl rfl ?_
        refine ht_aload_n (D 23 rfl) rfl rfl ?_
        refine gf_X9_24 rfl (D 24 rfl) hX.k0 hX.q1 ?_
        refine gf_X9_131 rfl (D 25 rfl) hX.nt.k0 hX.nt.q2 ?_
        refine ht_iload_n (D 26 rfl) rfl rfl ?_
        refine hi_ild (n := k) (D 27 rfl) hX.nt.k2 hX.nt.n2 rfl (by omega) (by first | decide | omega) ?_
        refine kVX2_across (As := [_, _]) cl_X9_158 (D 28 rfl) (sc_across hW.lb (show d < 10 by omega) _) hW.lb.k0 rfl (Nat.le_of_ble_eq_true rfl) rfl (Nat.le_of_ble_eq_true rfl) (by omega) ?_
        rintro _ _ ⟨rfl, rfl⟩
        rw [acr_e hW hd1]
        refine ht_bipush (v := -2) (D 29 rfl) (by decide) ?_
        refine ht_icmp_ne (tgt := 66) (D 30 rfl) (by decide) (fun hb61 => ?_) (fun hb61 => ?_)
        · skip
          have hyes : aSaltOk V (nv dN Z (xo + 14)) dN mN (nI k) (nI d) := ⟨hhe, hdo, by rw [nI_clamp (by omega), u2]; intro e; rw [u3, e] at hb36; exact hb36 (Int32.le_refl _), by rw [nI_clamp (by omega), nI_clamp (by omega), nv_man _ _ _ (show k < 6 by omega)]; exact hb61⟩
          refine ht_aload_n (D 33 rfl) rfl rfl ?_
          refine gf_X9_24 rfl (D 34 rfl) hX.k0 hX.q1 ?_
          refine ht_iload_n (D 35 rfl) rfl rfl ?_
          refine ht_iload_n (D 36 rfl) rfl rfl ?_
          refine kVX4_laySalt (As := [_, _]) cl_X9_161 (D 37 rfl) (sc_laySalt hW hk1 hd1) hX.nt.k0 rfl (Nat.le_of_ble_eq_true rfl) rfl (Nat.le_of_ble_eq_true rfl) (by omega) ?_
          rintro _ _ ⟨rfl, Z2, rfl, hf2, hn2, ha2⟩
          refine ht_iconst (v := 1) (D 38 rfl) (by decide) ?_
          refine ht_iret (D 39 rfl) rfl rfl ?_
          exact QC_n (by rw [aSalt_t hyes]) (hf2.mono (fun q hq => Or.inl hq)) (by rw [aSalt_t hyes, nI_clamp (by omega), nI_clamp (by omega)]; exact hn2) (by rw [ha2]; exact hbar)
        · skip
          have hno : ¬ aSaltOk V (nv dN Z (xo + 14)) dN mN (nI k) (nI d) := fun q => by
            have q2 := q.2.2.2
            rw [nI_clamp (by omega), nI_clamp (by omega), nv_man _ _ _ (show k < 6 by omega)] at q2
            exact q2 hb61
          refine ht_iconst (v := 0) (D 31 rfl) (by decide) ?_
          refine ht_iret (D 32 rfl) rfl rfl ?_
          exact QC_k (by rw [aSalt_f hno]) (Fr.rf _ _) (by rw [aSalt_f hno]) hbar
    · skip
      have hno : ¬ aSaltOk V (nv dN Z (xo + 14)) dN mN x yd := fun q => b01_eq hb22 q.2.1
      refine ht_iconst (v := 0) (D 11 rfl) (by decide) ?_
      refine ht_iret (D 12 rfl) rfl rfl ?_
      exact QC_k (by rw [aSalt_f hno]) (Fr.rf _ _) (by rw [aSalt_f hno]) hbar
set_option maxRecDepth 100000 in
theorem sc_stove (hE : NE G) (hC : CW σ Z xo b V cN dN mN gk gw gi) (hbar : Z (xo + 14) 2 = -1)  (x w : Int32) : Sp G mX9_stove 1 [.ref xo, .int x, .int w] (cv σ Z) (QC σ xo b dN Z ((aStove (nv dN Z (xo + 14)) cN x w).1) ((aStove (nv dN Z (xo + 14)) cN x w).2)) := by
  have D := dat dl_X9_stove
  show HT G mX9_stove 0 [some (.ref xo), some (.int x), some (.int w)] [] (cv σ Z) 1 _
  have hX := hC.1
  have hW := hC.2.1
  have h10 := hW.d10
  have h8 := hW.c8
  have h6 := hW.m6
  have h2 := hW.g2
  refine ht_iload_n (D 0 rfl) rfl rfl ?_
  refine ht_aload_n (D 1 rfl) rfl rfl ?_
  refine gf_X9_24 rfl (D 2 rfl) hX.k0 hX.q1 ?_
  refine gf_X9_75 rfl (D 3 rfl) hX.nt.k0 hW.lq ?_
  refine gi_X9_76 rfl (D 4 rfl) hW.lb.k0 ?_
  rw [hW.nc]
  refine kSX9_isBelow (As := [_, _]) cl_X9_79 (D 5 rfl) (sc_isBelow _ _) rfl (Nat.le_of_ble_eq_true rfl) rfl (Nat.le_of_ble_eq_true rfl) (by omega) ?_
  rintro _ _ ⟨rfl, rfl⟩
  refine ht_if_eq (tgt := 27) (D 6 rfl) (by decide) (fun hb14 => ?_) (fun hb14 => ?_)
  · skip
    refine ht_iconst (v := 0) (D 12 rfl) (by decide) ?_
    refine ht_iret (D 13 rfl) rfl rfl ?_
    first
    | exact QC_k (by unfold aStove; rw [if_neg (fun q => b01_eq hb14 q.1)]) (Fr.rf _ _) (by unfold aStove; rw [if_neg (fun q => b01_eq hb14 q.1)]) hbar
    | (have q9 : ¬ (0 ≤ w ∧ w ≤ 9) := b01_eq hb24
       exact QC_k (by unfold aStove; rw [if_neg (fun q => q9 q.2)]) (Fr.rf _ _) (by unfold aStove; rw [if_neg (fun q => q9 q.2)]) hbar)
  · skip
    have q1 := b01_ne hb14
    obtain ⟨k, hk1, rfl⟩ := rng (by omega) q1
    refine ht_iload_n (D 7 rfl) rfl rfl ?_
    refine ht_iconst (v := 0) (D 8 rfl) (by decide) ?_
    refine ht_bipush (v := 9) (D 9 rfl) (by decide) ?_
    refine kSX9_isWithin (As := [_, _, _]) cl_X9_142 (D 10 rfl) (sc_isWithin _ _ _) rfl (Nat.le_of_ble_eq_true rfl) rfl (Nat.le_of_ble_eq_true rfl) (by omega) ?_
    rintro _ _ ⟨rfl, rfl⟩
    refine ht_if_ne (tgt := 29) (D 11 rfl) (by decide) (fun hb24 => ?_) (fun hb24 => ?_)
    · skip
      have q2 := b01_ne hb24
      refine ht_aload_n (D 14 rfl) rfl rfl ?_
      refine gf_X9_24 rfl (D 15 rfl) hX.k0 hX.q1 ?_
      refine gf_X9_83 rfl (D 16 rfl) hX.nt.k0 hX.nt.q1 ?_
      refine ht_iload_n (D 17 rfl) rfl rfl ?_
      refine ht_iload_n (D 18 rfl) rfl rfl ?_
      refine hi_ist (n := k) (D 19 rfl) hX.nt.k1 hX.nt.n1 rfl (by omega) (by first | decide | omega) ?_
      refine ht_iconst (v := 1) (D 20 rfl) (by decide) ?_
      refine ht_iret (D 21 rfl) rfl rfl ?_
      have q9 : (0 ≤ nI k ∧ nI k < nI cN) ∧ (0 ≤ w ∧ w ≤ 9) := ⟨q1, q2⟩
      refine QC_n (by unfold aStove; rw [if_pos q9]) ((Fr.rf _ _).up _ (Or.inl ⟨by omega, by omega⟩)) ?_ ?_
      · unfold aStove
        rw [if_pos q9, nI_clamp (by omega)]
        exact nv_stv1 dN Z (xo + 14) (by omega) w
      · rw [up2_o _ _ (by omega)]; exact hbar
    · skip
      refine ht_iconst (v := 0) (D 12 rfl) (by decide) ?_
      refine ht_iret (D 13 rfl) rfl rfl ?_
      first
      | exact QC_k (by unfold aStove; rw [if_neg (fun q => b01_eq hb14 q.1)]) (Fr.rf _ _) (by unfold aStove; rw [if_neg (fun q => b01_eq hb14 q.1)]) hbar
      | (have q9 : ¬ (0 ≤ w ∧ w ≤ 9) := b01_eq hb24
         exact QC_k (by unfold aStove; rw [if_neg (fun q => q9 q.2)]) (Fr.rf _ _) (by unfold aStove; rw [if_neg (fun q => q9 q.2)]) hbar)
set_option maxRecDepth 100000 in
theorem sc_pardon (hE : NE G) (hC : CW σ Z xo b V cN dN mN gk gw gi) (hbar : Z (xo + 14) 2 = -1) (hmn : Mn (nv dN Z (xo + 14)) cN mN) (x : Int32) : Sp G mX9_pardon 2 [.ref xo, .int x] (cv σ Z) (QC σ xo b dN Z ((aPardon (nv dN Z (xo + 14)) mN x).1) ((aPardon (nv dN Z (xo + 14)) mN x).2)) := by
  have D := dat dl_X9_pardon
  show HT G mX9_pardon 0 [some (.ref xo), some (.int x)] [] (cv σ Z) 2 _
  have hX := hC.1
  have hW := hC.2.1
  have h10 := hW.d10
  have h8 := hW.c8
  have h6 := hW.m6
  have h2 := hW.g2
  refine ht_aload_n (D 0 rfl) rfl rfl ?_
  refine ht_iload_n (D 1 rfl) rfl rfl ?_
  refine kVX9_isHeld (As := [_]) cl_X9_154 (D 2 rfl) (sc_isHeld hE hC hbar hmn x) hX.k0 rfl (Nat.le_of_ble_eq_true rfl) rfl (Nat.le_of_ble_eq_true rfl) (by omega) ?_
  rintro _ _ ⟨⟨y, rfl, hy⟩, rfl⟩
  refine ht_if_ne (tgt := 10) (D 3 rfl) (by decide) (fun hb5 => ?_) (fun hb5 => ?_)
  · skip
    have hhe := hd_1 hy hb5
    obtain ⟨k, hk1, rfl⟩ := rng (by omega) hhe.1
    refine ht_aload_n (D 6 rfl) rfl rfl ?_
    refine gf_X9_24 rfl (D 7 rfl) hX.k0 hX.q1 ?_
    refine gf_X9_131 rfl (D 8 rfl) hX.nt.k0 hX.nt.q2 ?_
    refine ht_iload_n (D 9 rfl) rfl rfl ?_
    refine ht_iconst (v := -1) (D 10 rfl) (by decide) ?_
    refine hi_ist (n := k) (D 11 rfl) hX.nt.k2 hX.nt.n2 rfl (by omega) (by first | decide | omega) ?_
    refine ht_iconst (v := 1) (D 12 rfl) (by decide) ?_
    refine ht_iret (D 13 rfl) rfl rfl ?_
    refine QC_n (by rw [aPardon_t hhe]) ((Fr.rf _ _).up _ (Or.inl ⟨by omega, by omega⟩)) ?_ ?_
    · rw [aPardon_t hhe, nI_clamp (by omega)]
      exact nv_man1 dN Z (xo + 14) (by omega) (-1)
    · rw [up2_o _ _ (by omega)]; exact hbar
  · skip
    have hno := hd_0 hy hb5
    refine ht_iconst (v := 0) (D 4 rfl) (by decide) ?_
    refine ht_iret (D 5 rfl) rfl rfl ?_
    exact QC_k (by rw [aPardon_f hno]) (Fr.rf _ _) (by rw [aPardon_f hno]) hbar
theorem hNc_e {S T : ST} {cN n : Nat} (h : ∀ i, i < n → S i = T (68 + i)) (hm : ∀ i, i < n → T (68 + i) = -1 ∨ ∃ c, c < cN ∧ T (68 + i) = nI c) (h8 : cN ≤ 8) (k : Nat) (hk : k ≤ n) : hNc S k = hN T k := by
  induction k with
  | zero => rfl
  | succ k ih =>
    simp only [hNc, hN]
    rw [ih (by omega), h k (by omega)]
    rcases hm k (by omega) with e | ⟨c, c1, c2⟩
    · rw [e, if_pos rfl, if_neg (by decide)]
    · rw [c2, if_neg (nI_ge0 (by omega)), if_pos (nI_pos' (by omega))]
set_option maxRecDepth 100000 in
theorem sc_count (hE : NE G) (hC : CW σ Z xo b V cN dN mN gk gw gi) (hbar : Z (xo + 14) 2 = -1) (hmn : Mn (nv dN Z (xo + 14)) cN mN) (htp : Z (xo + 1) 1 = V 0 1) (w : Int32) : Sp G mX9_count 1 [.ref xo, .int w] (cv σ Z) (QC σ xo b dN Z (aCount V (nv dN Z (xo + 14)) mN w) (nv dN Z (xo + 14))) := by
  have D := dat dl_X9_count
  show HT G mX9_count 0 [some (.ref xo), some (.int w)] [] (cv σ Z) 1 _
  have hX := hC.1
  have hW := hC.2.1
  have h10 := hW.d10
  have h8 := hW.c8
  have h6 := hW.m6
  have h2 := hW.g2
  refine ht_iload_n (D 0 rfl) rfl rfl ?_
  by_cases hs1_0 : w = 0
  · skip
    refine ht_tableIn (off := 47) (tgt := 48) (D 1 rfl) (by rw [hs1_0]; decide) (by rw [hs1_0]; decide) (by rw [hs1_0]; rfl) (by decide) ?_
    refine ht_aload_n (D 2 rfl) rfl rfl ?_
    refine gf_X9_24 rfl (D 3 rfl) hX.k0 hX.q1 ?_
    refine gf_X9_75 rfl (D 4 rfl) hX.nt.k0 hW.lq ?_
    refine gi_X9_76 rfl (D 5 rfl) hW.lb.k0 ?_
    refine ht_iret (D 6 rfl) rfl rfl ?_
    exact QC_t hbar (by unfold aCount; rw [if_pos (by rw [hs1_0]; decide), hs1_0]; exact hW.lr.1.1)
  · skip
    by_cases hs1_1 : w = 1
    · skip
      refine ht_tableIn (off := 58) (tgt := 59) (D 1 rfl) (by rw [hs1_1]; decide) (by rw [hs1_1]; decide) (by rw [hs1_1]; rfl) (by decide) ?_
      refine ht_aload_n (D 7 rfl) rfl rfl ?_
      refine gf_X9_24 rfl (D 8 rfl) hX.k0 hX.q1 ?_
      refine gf_X9_75 rfl (D 9 rfl) hX.nt.k0 hW.lq ?_
      refine gi_X9_97 rfl (D 10 rfl) hW.lb.k0 ?_
      refine ht_iret (D 11 rfl) rfl rfl ?_
      exact QC_t hbar (by unfold aCount; rw [if_pos (by rw [hs1_1]; decide), hs1_1]; exact hW.lr.1.2.1)
    · skip
      by_cases hs1_2 : w = 2
      · skip
        refine ht_tableIn (off := 69) (tgt := 70) (D 1 rfl) (by rw [hs1_2]; decide) (by rw [hs1_2]; decide) (by rw [hs1_2]; rfl) (by decide) ?_
        refine ht_aload_n (D 12 rfl) rfl rfl ?_
        refine gf_X9_24 rfl (D 13 rfl) hX.k0 hX.q1 ?_
        refine gf_X9_75 rfl (D 14 rfl) hX.nt.k0 hW.lq ?_
        refine gi_X9_121 rfl (D 15 rfl) hW.lb.k0 ?_
        refine ht_iret (D 16 rfl) rfl rfl ?_
        exact QC_t hbar (by unfold aCount; rw [if_pos (by rw [hs1_2]; decide), hs1_2]; exact hW.lr.1.2.2.1)
      · skip
        by_cases hs1_3 : w = 3
        · skip
          refine ht_tableIn (off := 80) (tgt := 81) (D 1 rfl) (by rw [hs1_3]; decide) (by rw [hs1_3]; decide) (by rw [hs1_3]; rfl) (by decide) ?_
          refine ht_aload_n (D 17 rfl) rfl rfl ?_
          refine gf_X9_24 rfl (D 18 rfl) hX.k0 hX.q1 ?_
          refine gf_X9_75 rfl (D 19 rfl) hX.nt.k0 hW.lq ?_
          refine gi_X9_226 rfl (D 20 rfl) hW.lb.k0 ?_
          refine ht_iret (D 21 rfl) rfl rfl ?_
          exact QC_t hbar (by unfold aCount; rw [if_pos (by rw [hs1_3]; decide), hs1_3]; exact hW.lr.1.2.2.2.1)
        · skip
          by_cases hs1_4 : w = 4
          · skip
            refine ht_tableIn (off := 91) (tgt := 92) (D 1 rfl) (by rw [hs1_4]; decide) (by rw [hs1_4]; decide) (by rw [hs1_4]; rfl) (by decide) ?_
            refine ht_aload_n (D 22 rfl) rfl rfl ?_
            refine gf_X9_24 rfl (D 23 rfl) hX.k0 hX.q1 ?_
            refine gi_X9_169 rfl (D 24 rfl) hX.nt.k0 ?_
            refine ht_iret (D 25 rfl) rfl rfl ?_
            exact QC_t hbar (by unfold aCount; rw [if_pos (by rw [hs1_4]; decide), hs1_4]; rfl)
          · skip
            by_cases hs1_5 : w = 5
            · skip
              refine ht_tableIn (off := 99) (tgt := 100) (D 1 rfl) (by rw [hs1_5]; decide) (by rw [hs1_5]; decide) (by rw [hs1_5]; rfl) (by decide) ?_
              refine ht_aload_n (D 26 rfl) rfl rfl ?_
              refine gf_X9_24 rfl (D 27 rfl) hX.k0 hX.q1 ?_
              refine kVX4_menHeld (As := []) cl_X9_213 (D 28 rfl) (sc_menHeld hX.nt hW.lq hW.lb hW.nm h6) hX.nt.k0 rfl (Nat.le_of_ble_eq_true rfl) rfl (Nat.le_of_ble_eq_true rfl) (by omega) ?_
              rintro _ _ ⟨rfl, rfl⟩
              rw [hNc_e (T := nv dN Z (xo + 14)) (n := mN) (fun i hi => (nv_man _ _ _ (show i < 6 by omega)).symm) hmn h8 mN (Nat.le_refl _)]
              refine ht_iret (D 29 rfl) rfl rfl ?_
              exact QC_t hbar (by unfold aCount; rw [if_pos (by rw [hs1_5]; decide), hs1_5]; rfl)
            · skip
              by_cases hs1_6 : w = 6
              · skip
                refine ht_tableIn (off := 107) (tgt := 108) (D 1 rfl) (by rw [hs1_6]; decide) (by rw [hs1_6]; decide) (by rw [hs1_6]; rfl) (by decide) ?_
                refine ht_aload_n (D 30 rfl) rfl rfl ?_
                refine gf_X9_24 rfl (D 31 rfl) hX.k0 hX.q1 ?_
                refine gf_X9_75 rfl (D 32 rfl) hX.nt.k0 hW.lq ?_
                refine gi_X9_220 rfl (D 33 rfl) hW.lb.k0 ?_
                refine ht_iret (D 34 rfl) rfl rfl ?_
                exact QC_t hbar (by unfold aCount; rw [if_pos (by rw [hs1_6]; decide), hs1_6]; exact hW.lr.1.2.2.2.2)
              · skip
                by_cases hs1_7 : w = 7
                · skip
                  refine ht_tableIn (off := 118) (tgt := 119) (D 1 rfl) (by rw [hs1_7]; decide) (by rw [hs1_7]; decide) (by rw [hs1_7]; rfl) (by decide) ?_
                  refine ht_aload_n (D 35 rfl) rfl rfl ?_
                  refine gf_X9_12 rfl (D 36 rfl) hX.k0 hX.qt ?_
                  refine gi_X9_55 rfl (D 37 rfl) hX.kt ?_
                  refine ht_iret (D 38 rfl) rfl rfl ?_
                  exact QC_t hbar (by unfold aCount; rw [if_pos (by rw [hs1_7]; decide), hs1_7]; exact htp)
                · skip
                  refine ht_tableOut (tgt := 127) (D 1 rfl) (tb_out (lo := 0) (n := 8) (fun k hk => ?_)) (by decide) ?_
                  · (have hk9 : k = 0 ∨ k = 1 ∨ k = 2 ∨ k = 3 ∨ k = 4 ∨ k = 5 ∨ k = 6 ∨ k = 7 := by omega)
                    rcases hk9 with rfl | rfl | rfl | rfl | rfl | rfl | rfl | rfl <;> assumption
                  refine ht_iconst (v := -1) (D 39 rfl) (by decide) ?_
                  refine ht_iret (D 40 rfl) rfl rfl ?_
                  exact QC_t hbar (by unfold aCount; rw [if_neg (fun q => sw_out q.1 q.2 (n := 7) (by decide) (fun k hk => by (have hk9 : k = 0 ∨ k = 1 ∨ k = 2 ∨ k = 3 ∨ k = 4 ∨ k = 5 ∨ k = 6 ∨ k = 7 := by omega); rcases hk9 with rfl | rfl | rfl | rfl | rfl | rfl | rfl | rfl <;> assumption))])
set_option maxRecDepth 100000 in
theorem sc_salted (hE : NE G) (hC : CW σ Z xo b V cN dN mN gk gw gi) (hbar : Z (xo + 14) 2 = -1) (w : Int32) : Sp G mX9_salted 1 [.ref xo, .int w] (cv σ Z) (QC σ xo b dN Z (aSalted (nv dN Z (xo + 14)) dN w) (nv dN Z (xo + 14))) := by
  have D := dat dl_X9_salted
  have hX := hC.1
  have hW := hC.2.1
  have h10 := hW.d10
  have h8 := hW.c8
  have h6 := hW.m6
  have h2 := hW.g2
  have loop : (1 ≤ w ∧ w ≤ 99) → ∀ r j : Nat, j ≤ dN → dN - j = r → ∀ l4 : Option Value, HT G mX9_salted 16 [some (.ref xo), some (.int w), some (.int (slt (nv dN Z (xo + 14)) w j)), some (.int (nI j)), l4] [] (cv σ Z) 1 (QC σ xo b dN Z (aSalted (nv dN Z (xo + 14)) dN w) (nv dN Z (xo + 14))) := by
    intro q1 r
    induction r using Nat.strongRecOn with
    | _ r ih =>
      intro j hj hr l4
      refine ht_iload_n (D 11 rfl) rfl rfl ?_
      refine ht_aload_n (D 12 rfl) rfl rfl ?_
      refine gf_X9_24 rfl (D 13 rfl) hX.k0 hX.q1 ?_
      refine gf_X9_75 rfl (D 14 rfl) hX.nt.k0 hW.lq ?_
      refine gi_X9_97 rfl (D 15 rfl) hW.lb.k0 ?_
      refine ht_icmp_ge (tgt := 68) (D 16 rfl) (by decide) (fun hb27 => ?_) (fun hb27 => ?_)
      · skip
        have hjk : j = dN := by rw [hW.nd] at hb27; have h3 := (nI_leI (a := dN) (b := j) (by omega) (by omega)).mp hb27; omega
        refine ht_iload_n (D 38 rfl) rfl rfl ?_
        refine ht_iret (D 39 rfl) rfl rfl ?_
        subst hjk
        exact QC_t hbar (by unfold aSalted; rw [if_pos q1])
      · skip
        have hjk : j < dN := by rw [hW.nd] at hb27; have h3 := mt (nI_leI (a := dN) (b := j) (by omega) (by omega)).mpr hb27; omega
        refine ht_aload_n (D 17 rfl) rfl rfl ?_
        refine gf_X9_24 rfl (D 18 rfl) hX.k0 hX.q1 ?_
        refine gf_X9_100 rfl (D 19 rfl) hX.nt.k0 hX.nt.q4 ?_
        refine ht_iload_n (D 20 rfl) rfl rfl ?_
        refine ht_ald (n := j) (Or.inl rfl) (D 21 rfl) hX.nt.k4 hX.nt.n4 rfl (by omega) (by decide) (hX.nt.lq (j := j) (by omega)) ?_
        refine ht_astore (D 22 rfl) (by decide) rfl ?_
        refine ht_aload (D 23 rfl) rfl ?_
        refine gi_X9_207 rfl (D 24 rfl) (hX.nt.lk (j := j) (by omega)) ?_
        refine ht_aload (D 25 rfl) rfl ?_
        refine gi_X9_104 rfl (D 26 rfl) (hX.nt.lk (j := j) (by omega)) ?_
        refine ht_isub (D 27 rfl) ?_
        refine ht_iload_n (D 28 rfl) rfl rfl ?_
        refine ht_icmp_lt (tgt := 62) (D 29 rfl) (by decide) (fun hb53 => ?_) (fun hb53 => ?_)
        · skip
          refine ht_iinc (v := nI (j + 1)) (D 36 rfl) rfl (nI_i1 _) (by decide) rfl ?_
          refine ht_goto (tgt := 16) (D 37 rfl) (by decide) ?_
          refine ht_cast (ih (dN - (j + 1)) (by omega) (j + 1) (by omega) rfl (some (.ref (xo + 14 + 6 + j)))) ?_ rfl rfl
          simp only [List.set, slt]
          rw [nv_bar _ _ _ (show j < 10 by omega), nv_ice _ _ _ (show j < 10 by omega)]
          first
          | rw [if_pos (Int32.not_lt.mp hb53)]
          | rw [if_neg (Int32.not_le.mpr hb53), Int32.or_zero]
        · skip
          refine ht_iload_n (D 30 rfl) rfl rfl ?_
          refine ht_iconst (v := 1) (D 31 rfl) (by decide) ?_
          refine ht_iload_n (D 32 rfl) rfl rfl ?_
          refine ht_ishl (D 33 rfl) ?_
          refine ht_ior (D 34 rfl) ?_
          refine ht_istore_n (D 35 rfl) rfl (by decide) rfl ?_
          refine ht_iinc (v := nI (j + 1)) (D 36 rfl) rfl (nI_i1 _) (by decide) rfl ?_
          refine ht_goto (tgt := 16) (D 37 rfl) (by decide) ?_
          refine ht_cast (ih (dN - (j + 1)) (by omega) (j + 1) (by omega) rfl (some (.ref (xo + 14 + 6 + j)))) ?_ rfl rfl
          simp only [List.set, slt]
          rw [nv_bar _ _ _ (show j < 10 by omega), nv_ice _ _ _ (show j < 10 by omega)]
          first
          | rw [if_pos (Int32.not_lt.mp hb53)]
          | rw [if_neg (Int32.not_le.mpr hb53), Int32.or_zero]
  show HT G mX9_salted 0 [some (.ref xo), some (.int w), none, none, none] [] (cv σ Z) 1 _
  refine ht_iload_n (D 0 rfl) rfl rfl ?_
  refine ht_iconst (v := 1) (D 1 rfl) (by decide) ?_
  refine ht_bipush (v := 99) (D 2 rfl) (by decide) ?_
  refine kSX9_isWithin (As := [_, _, _]) cl_X9_142 (D 3 rfl) (sc_isWithin _ _ _) rfl (Nat.le_of_ble_eq_true rfl) rfl (Nat.le_of_ble_eq_true rfl) (by omega) ?_
  rintro _ _ ⟨rfl, rfl⟩
  refine ht_if_ne (tgt := 12) (D 4 rfl) (by decide) (fun hb7 => ?_) (fun hb7 => ?_)
  · skip
    have q1 := b01_ne hb7
    refine ht_iconst (v := 0) (D 7 rfl) (by decide) ?_
    refine ht_istore_n (D 8 rfl) rfl (by decide) rfl ?_
    refine ht_iconst (v := 0) (D 9 rfl) (by decide) ?_
    refine ht_istore_n (D 10 rfl) rfl (by decide) rfl ?_
    exact ht_cast (loop q1 dN 0 (by omega) (by omega) none) rfl rfl rfl
  · skip
    refine ht_iconst (v := -1) (D 5 rfl) (by decide) ?_
    refine ht_iret (D 6 rfl) rfl rfl ?_
    exact QC_t hbar (by unfold aSalted; rw [if_neg (b01_eq hb7)])
theorem nv_scr {a : Nat} {Z2 : VT} (hW : NW σ Z a b V cN dN mN gk gw gi) (hf : Fr (Scr σ a b) Z Z2) : nv dN Z2 a = nv dN Z a := nv_fr (fun i i1 i4 i5 => hf _ (by
    rintro (c | ⟨f, c1, c2⟩)
    · omega
    · rcases hW.ap.2 f c1 with c | c <;> omega))
theorem scr_a {a : Nat} {Z2 : VT} (hW : NW σ Z a b V cN dN mN gk gw gi) (hf : Fr (Scr σ a b) Z Z2) : Z2 a = Z a := hf _ (by
    rintro (c | ⟨f, c1, c2⟩)
    · omega
    · rcases hW.ap.2 f c1 with c | c <;> omega)
set_option maxRecDepth 100000 in
theorem sc_thaw (hE : NE G) (hC : CW σ Z xo b V cN dN mN gk gw gi) (hbar : Z (xo + 14) 2 = -1) {h : Nat} (hh : Z (xo + 14) 1 = nI h) (h31 : h < 2 ^ 30) (w : Int32) : Sp G mX9_thaw 4 [.ref xo, .int w] (cv σ Z) (QC σ xo b dN Z (aThaw gw h w) (nv dN Z (xo + 14))) := by
  have D := dat dl_X9_thaw
  have hX := hC.1
  have hW := hC.2.1
  have h10 := hW.d10
  have h8 := hW.c8
  have h6 := hW.m6
  have h2 := hW.g2
  have loop : ∀ n : Nat, n ≤ 240 → aThaw gw h w = thF gw h 0 (n + 1) → ∀ r j : Nat, j ≤ n + 1 → n + 1 - j = r → thF gw h j (n + 1 - j) = thF gw h 0 (n + 1) → ∀ Z1 : VT, Fr (Scr σ (xo + 14) b) Z Z1 → HT G mX9_thaw 11 [some (.ref xo), some (.int (nI n)), some (.int (nI j))] [] (cv σ Z1) 4 (QC σ xo b dN Z (aThaw gw h w) (nv dN Z (xo + 14))) := by
    intro n hn hth0 r
    rw [hth0]
    induction r using Nat.strongRecOn with
    | _ r ih =>
      intro j hj hr hth Z1 hf1
      have hW1 := hW.keep (hf1.mono (fun _ => Scr.np))
      have hh1 : Z1 (xo + 14) 1 = nI h := by rw [scr_a hW hf1]; exact hh
      refine ht_iload_n (D 7 rfl) rfl rfl ?_
      refine ht_iload_n (D 8 rfl) rfl rfl ?_
      refine ht_icmp_gt (tgt := 36) (D 9 rfl) (by decide) (fun hb13 => ?_) (fun hb13 => ?_)
      · skip
        have hjk : n < j := (nI_ltI (by omega) (by omega)).mp hb13
        refine ht_iconst (v := -1) (D 20 rfl) (by decide) ?_
        refine ht_iret (D 21 rfl) rfl rfl ?_
        refine QC_n ?_ (hf1.mono (fun _ => Scr.np)) (nv_scr hW hf1) (by rw [scr_a hW hf1]; exact hbar)
        rw [← hth, show n + 1 - j = 0 by omega]
        rfl
      · skip
        have hjk : ¬ n < j := fun c => hb13 (nI_lt c (by omega))
        refine ht_aload_n (D 10 rfl) rfl rfl ?_
        refine gf_X9_24 rfl (D 11 rfl) hX.k0 hX.q1 ?_
        refine ht_iload_n (D 12 rfl) rfl rfl ?_
        refine ht_iconst (v := 0) (D 13 rfl) (by decide) ?_
        refine kVX4_degreesBehind (As := [_, _]) cl_X9_148 (D 14 rfl) (sc_degreesBehind hE hW1 hh1 (x := j) (by omega) 0) hX.nt.k0 rfl (Nat.le_of_ble_eq_true rfl) rfl (Nat.le_of_ble_eq_true rfl) (by omega) ?_
        rintro _ _ ⟨rfl, Z2, rfl, hf2⟩
        refine ht_if_lt (tgt := 30) (D 15 rfl) (by decide) (fun hb25 => ?_) (fun hb25 => ?_)
        · skip
          refine ht_iinc (v := nI (j + 1)) (D 18 rfl) rfl (nI_i1 _) (by decide) rfl ?_
          refine ht_goto (tgt := 11) (D 19 rfl) (by decide) ?_
          refine ht_cast (ih (n + 1 - (j + 1)) (by omega) (j + 1) (by omega) rfl (by rw [← hth, show n + 1 - j = n + 1 - (j + 1) + 1 by omega, thF_n (Int32.not_le.mpr hb25)]) Z2 (hf1.tr hf2)) rfl rfl rfl
        · skip
          refine ht_iload_n (D 16 rfl) rfl rfl ?_
          refine ht_iret (D 17 rfl) rfl rfl ?_
          refine QC_n ?_ (hf1.tr hf2 |>.mono (fun _ => Scr.np)) (nv_scr hW (hf1.tr hf2)) (by rw [scr_a hW (hf1.tr hf2)]; exact hbar)
          rw [← hth, show n + 1 - j = n - j + 1 by omega]
          show _ = if 0 ≤ dgF gw (h + j) 0 then nI j else _
          rw [if_pos (Int32.not_lt.mp hb25)]
  show HT G mX9_thaw 0 [some (.ref xo), some (.int w), none] [] (cv σ Z) 4 _
  refine ht_iload_n (D 0 rfl) rfl rfl ?_
  refine kSX9_isAhead (As := [_]) cl_X9_172 (D 1 rfl) (sc_isAhead _) rfl (Nat.le_of_ble_eq_true rfl) rfl (Nat.le_of_ble_eq_true rfl) (by omega) ?_
  rintro _ _ ⟨rfl, rfl⟩
  refine ht_if_ne (tgt := 9) (D 2 rfl) (by decide) (fun hb4 => ?_) (fun hb4 => ?_)
  · skip
    have q1 := b01_ne hb4
    obtain ⟨n, hn1, hn2, rfl⟩ := rngW (lo := 1) 240 (by decide) q1 (by decide)
    refine ht_iconst (v := 0) (D 5 rfl) (by decide) ?_
    refine ht_istore_n (D 6 rfl) rfl (by decide) rfl ?_
    exact ht_cast (loop n (by omega) (by unfold aThaw; rw [if_pos q1, nI_clamp (by omega)]) (n + 1) 0 (by omega) (by omega) rfl Z (Fr.rf _ _)) rfl rfl rfl
  · skip
    refine ht_iconst (v := -1) (D 3 rfl) (by decide) ?_
    refine ht_iret (D 4 rfl) rfl rfl ?_
    exact QC_t hbar (by unfold aThaw; rw [if_neg (b01_eq hb4)])
end C9
