/-! ===== the class: frost on all doors, a man let go, an hour ===== -/
theorem va_ne {α : Type} (f : Nat → α) {p q : Nat} (x : α) (h : q ≠ p) : va_up f p x q = f q := by simp [va_up, h]
theorem va_sm {α : Type} (f : Nat → α) (p : Nat) (x : α) : va_up f p x p = x := by simp [va_up]
theorem fdS_ix (V : VT) (gi : Option GIt) (dg : Int32) (mN gk h : Nat) (S : ST) {j : Nat} (hj : j < 10) :
    fdS V gi dg mN gk h S j j = S j + tn S j (10 + j) (frF gi dg (stF V S j) (S (20 + j)) (brF V S mN gk h j) (S j) (S (10 + j))) ∧
    fdS V gi dg mN gk h S j (10 + j) = S (10 + j) - tn S j (10 + j) (frF gi dg (stF V S j) (S (20 + j)) (brF V S mN gk h j) (S j) (S (10 + j))) ∧
    fdS V gi dg mN gk h S j (20 + j) = imax 0 (S (20 + j) - 1) ∧
    fdS V gi dg mN gk h S j (30 + j) = S (30 + j) + tn S (30 + j) (40 + j) (frF gi dg (stF V S j) 0 (brF V S mN gk h j) (S (30 + j)) (S (40 + j))) ∧
    fdS V gi dg mN gk h S j (40 + j) = S (40 + j) - tn S (30 + j) (40 + j) (frF gi dg (stF V S j) 0 (brF V S mN gk h j) (S (30 + j)) (S (40 + j))) ∧
    ∀ i, i ≠ j → i ≠ 10 + j → i ≠ 20 + j → i ≠ 30 + j → i ≠ 40 + j → fdS V gi dg mN gk h S j i = S i := by
  have k1 : ∀ v, trS S j (10 + j) v (30 + j) = S (30 + j) := fun v => by unfold trS; rw [va_ne _ _ (by omega), va_ne _ _ (by omega)]
  have k2 : ∀ v, trS S j (10 + j) v (40 + j) = S (40 + j) := fun v => by unfold trS; rw [va_ne _ _ (by omega), va_ne _ _ (by omega)]
  have k3 : ∀ v, trS S j (10 + j) v (20 + j) = S (20 + j) := fun v => by unfold trS; rw [va_ne _ _ (by omega), va_ne _ _ (by omega)]
  have k4 : ∀ v v2, tn (trS S j (10 + j) v) (30 + j) (40 + j) v2 = tn S (30 + j) (40 + j) v2 := fun v v2 => by unfold tn; rw [k1, k2]
  refine ⟨?_, ?_, ?_, ?_, ?_, ?_⟩
  · unfold fdS fd3 fd2 fd1
    rw [va_ne _ _ (by omega)]
    generalize frF gi dg _ 0 _ _ _ = v2
    unfold trS
    rw [va_ne _ _ (by omega), va_ne _ _ (by omega), va_ne _ _ (by omega), va_sm]
  · unfold fdS fd3 fd2 fd1
    rw [va_ne _ _ (by omega)]
    generalize frF gi dg _ 0 _ _ _ = v2
    unfold trS
    rw [va_ne _ _ (by omega), va_ne _ _ (by omega), va_sm]
  · unfold fdS fd3 fd2 fd1
    rw [va_sm]
    generalize frF gi dg _ 0 _ _ _ = v2
    conv => lhs; rw [trS]
    rw [va_ne _ _ (by omega), va_ne _ _ (by omega), k3]
  · unfold fdS fd3 fd2 fd1
    rw [va_ne _ _ (by omega), k1, k2]
    generalize frF gi dg _ 0 _ _ _ = v2
    conv => lhs; rw [trS]
    rw [va_ne _ _ (by omega), va_sm, k1, k4]
  · unfold fdS fd3 fd2 fd1
    rw [va_ne _ _ (by omega), k1, k2]
    generalize frF gi dg _ 0 _ _ _ = v2
    conv => lhs; rw [trS]
    rw [va_sm, k2, k4]
  · intro i h1 h2 h3 h4 h5
    unfold fdS fd3 fd2 fd1
    rw [va_ne _ _ h3]
    generalize frF gi dg _ 0 _ _ _ = v2
    unfold trS
    rw [va_ne _ _ h5, va_ne _ _ h4, va_ne _ _ h2, va_ne _ _ h1]
theorem fdS_lk {V : VT} {gi : Option GIt} {dg : Int32} {mN gk h : Nat} {S : ST} {dN : Nat} (hd : dN ≤ 10) {j : Nat} (hj : j < dN) (hl : LkI S dN) : LkI (fdS V gi dg mN gk h S j) dN := by
  intro i hi
  obtain ⟨e1, e2, -, e4, e5, e6⟩ := fdS_ix V gi dg mN gk h S (show j < 10 by omega)
  obtain ⟨p, q, r, h1, h2, h3, h4, h5, h6⟩ := hl i hi
  by_cases c : i = j
  · subst c
    obtain ⟨p2, q2, t1, t2, t3⟩ := tn_nat h1 h2 h3 (frF_rng gi dg (stF V S i) (S (20 + i)) (brF V S mN gk h i) (S i) (S (10 + i)))
    obtain ⟨r2, s2, u1, u2, u3⟩ := tn_nat h4 h6 (by omega) (frF_rng gi dg (stF V S i) 0 (brF V S mN gk h i) (S (30 + i)) (S (40 + i)))
    refine ⟨p2, q2, r2, e1.trans t1, e2.trans t2, by omega, e4.trans u1, by omega, (e5.trans u2).trans ?_⟩
    rw [show s2 = p2 + q2 - r2 by omega]
  · refine ⟨p, q, r, ?_, ?_, h3, ?_, h5, ?_⟩
    · rw [e6 i (by omega) (by omega) (by omega) (by omega) (by omega)]; exact h1
    · rw [e6 (10 + i) (by omega) (by omega) (by omega) (by omega) (by omega)]; exact h2
    · rw [e6 (30 + i) (by omega) (by omega) (by omega) (by omega) (by omega)]; exact h4
    · rw [e6 (40 + i) (by omega) (by omega) (by omega) (by omega) (by omega)]; exact h6
theorem frS_lk {V : VT} {gi : Option GIt} {dg : Int32} {mN gk h : Nat} {S : ST} {dN : Nat} (hd : dN ≤ 10) (hl : LkI S dN) : ∀ k, k ≤ dN → LkI (frS V gi dg mN gk h S k) dN := by
  intro k
  induction k with
  | zero => intro _; exact hl
  | succ k ih => intro hk; exact fdS_lk hd (by omega) (ih (by omega))
theorem nv_fr {dN a : Nat} {Z Z2 : VT} (h : ∀ i, i < 16 → i ≠ 4 → i ≠ 5 → Z2 (a + i) = Z (a + i)) : nv dN Z2 a = nv dN Z a := by
  have k : ∀ j, j < 10 → Z2 (a + 6 + j) = Z (a + 6 + j) := fun j hj => by have := h (6 + j) (by omega) (by omega) (by omega); rwa [← Nat.add_assoc] at this
  refine nv_ext (fun j hj => ?_) (fun j hj => ?_) (fun j hj => ?_) ?_ (fun i hi => ?_)
  · rw [nv_ice _ _ _ hj, nv_wat _ _ _ hj, nv_slt _ _ _ hj, nv_bar _ _ _ hj, nv_bwa _ _ _ hj, nv_bes _ _ _ hj, nv_ice _ _ _ hj, nv_wat _ _ _ hj, nv_slt _ _ _ hj, nv_bar _ _ _ hj, nv_bwa _ _ _ hj, nv_bes _ _ _ hj, k j hj]
    exact ⟨rfl, rfl, rfl, rfl, rfl, rfl⟩
  · rw [nv_stv _ _ _ hj, nv_stv _ _ _ hj, h 1 (by omega) (by omega) (by omega)]
  · rw [nv_man _ _ _ hj, nv_man _ _ _ hj, nv_bag _ _ _ hj, nv_bag _ _ _ hj, h 2 (by omega) (by omega) (by omega), h 3 (by omega) (by omega) (by omega)]
    exact ⟨rfl, rfl⟩
  · rw [nv_hour, nv_hour]
    exact congrFun (h 0 (by omega) (by omega) (by omega)) 1
  · rw [nv_hi _ _ _ hi, nv_hi _ _ _ hi]
section C5p
variable {σ : Hp} {Z Z2 : VT} {a b : Nat} {V : VT} {cN dN mN gk : Nat} {gw : Option GWt} {gi : Option GIt}
theorem stC_e (hW : NW σ Z a b V cN dN mN gk gw gi) {j : Nat} (hj : j < dN) (dn : Nat) : stC Z a b j = stF V (nv dn Z a) j := by
  obtain ⟨p, h1, h2, h3⟩ := hW.dc hj
  have h8 := hW.c8
  unfold stC stF
  rw [(hW.lr.2.1 j hj).1, (hW.lr.2.1 j hj).2, h2, nI_clamp (by omega), nv_stv _ _ _ (show p < 8 by omega)]
  rcases hW.pl.2.2.2.2.2.2 j hj with c | ⟨e, c1, c2⟩
  · rw [c, if_pos rfl, if_pos (by decide)]
  · rw [c2, if_neg (nI_ge0 (by omega)), if_neg (nI_pos (by omega)), nI_clamp (by omega), nv_stv _ _ _ (show e < 8 by omega)]
theorem nv_freeze (hW : NW σ Z a b V cN dN mN gk gw gi) (hl : LkI (nv dN Z a) dN) {dg stv brt : Int32} {j h : Nat} (hj : j < dN) (hs : stv = stF V (nv dN Z a) j) (hb : brt = brF V (nv dN Z a) mN gk h j)
    (f0 : ∀ r, ¬ Scr σ a b r → r ≠ a + 6 + j → Z2 r = Z r)
    (f1 : Z2 (a + 6 + j) 0 = ibV (frF gi dg stv (Z (a + 6 + j) 2) brt (Z (a + 6 + j) 0) (Z (a + 6 + j) 1)) (Z (a + 6 + j) 0) (Z (a + 6 + j) 1))
    (f2 : Z2 (a + 6 + j) 1 = Z (a + 6 + j) 0 + Z (a + 6 + j) 1 - ibV (frF gi dg stv (Z (a + 6 + j) 2) brt (Z (a + 6 + j) 0) (Z (a + 6 + j) 1)) (Z (a + 6 + j) 0) (Z (a + 6 + j) 1))
    (f3 : Z2 (a + 6 + j) 2 = imax 0 (Z (a + 6 + j) 2 - 1))
    (f4 : Z2 (a + 6 + j) 3 = ibV (frF gi dg stv 0 brt (Z (a + 6 + j) 3) (Z (a + 6 + j) 0 + Z (a + 6 + j) 1 - Z (a + 6 + j) 3)) (Z (a + 6 + j) 3) (Z (a + 6 + j) 0 + Z (a + 6 + j) 1 - Z (a + 6 + j) 3))
    (f5 : Z2 (a + 6 + j) 4 = Z (a + 6 + j) 4) : nv dN Z2 a = fdS V gi dg mN gk h (nv dN Z a) j := by
  have hd := hW.d10
  have hns : ∀ q, a ≤ q → q < a + 16 → q ≠ a + 5 → ¬ Scr σ a b q := by
    rintro q q1 q2 q3 (c | ⟨f, c1, c2⟩)
    · exact q3 c
    · rcases hW.ap.2 f c1 with c | c <;> omega
  have j10 : j < 10 := by omega
  obtain ⟨e1, e2, e3, e4, e5, e6⟩ := fdS_ix V gi dg mN gk h (nv dN Z a) j10
  obtain ⟨p, q, r, h1, h2, h3, h4, h5, h6⟩ := hl j hj
  subst hs; subst hb
  have i1 : 0 ≤ (nv dN Z a j).toInt := by rw [h1, nI_toInt (by omega)]; omega
  have i2 : 0 ≤ (nv dN Z a (10 + j)).toInt := by rw [h2, nI_toInt (by omega)]; omega
  have i3 : 0 ≤ (nv dN Z a (30 + j)).toInt := by rw [h4, nI_toInt (by omega)]; omega
  have i4 : 0 ≤ (nv dN Z a (40 + j)).toInt := by rw [h6, nI_toInt (by omega)]; omega
  rw [← nv_ice dN Z a j10, ← nv_wat dN Z a j10, ← nv_slt dN Z a j10] at f1
  rw [← nv_ice dN Z a j10, ← nv_wat dN Z a j10, ← nv_slt dN Z a j10] at f2
  rw [← nv_bwa dN Z a j10, ← nv_bar dN Z a j10] at f4
  rw [ib_tn i1 i2] at f1 f2
  rw [ib_tn i3 i4] at f4
  refine nv_ext (fun i hi => ?_) (fun i hi => ?_) (fun i hi => ?_) ?_ (fun i hi => ?_)
  · by_cases c : i = j
    · subst c
      rw [e1, e2, e3, e4, e5, e6 (50 + i) (by omega) (by omega) (by omega) (by omega) (by omega)]
      rw [nv_ice dN Z2 a hi, nv_wat dN Z2 a hi, nv_slt dN Z2 a hi, nv_bar dN Z2 a hi, nv_bwa dN Z2 a hi, nv_bes dN Z2 a hi, f1, f2, f3, f4, f5, nv_bes dN Z a hi, nv_slt dN Z a hi]
      refine ⟨rfl, ?_, rfl, rfl, ?_, rfl⟩
      · unfold tn
        grind
      · have e9 := nv_bwa dN Z a hi
        rw [← nv_ice dN Z a hi, ← nv_wat dN Z a hi, ← nv_bar dN Z a hi] at e9
        unfold tn
        grind
    · rw [e6 i (by omega) (by omega) (by omega) (by omega) (by omega), e6 (10 + i) (by omega) (by omega) (by omega) (by omega) (by omega), e6 (20 + i) (by omega) (by omega) (by omega) (by omega) (by omega), e6 (30 + i) (by omega) (by omega) (by omega) (by omega) (by omega), e6 (40 + i) (by omega) (by omega) (by omega) (by omega) (by omega), e6 (50 + i) (by omega) (by omega) (by omega) (by omega) (by omega)]
      have k : Z2 (a + 6 + i) = Z (a + 6 + i) := f0 _ (hns _ (by omega) (by omega) (by omega)) (by omega)
      rw [nv_ice _ _ _ hi, nv_wat _ _ _ hi, nv_slt _ _ _ hi, nv_bar _ _ _ hi, nv_bwa _ _ _ hi, nv_bes _ _ _ hi, nv_ice _ _ _ hi, nv_wat _ _ _ hi, nv_slt _ _ _ hi, nv_bar _ _ _ hi, nv_bwa _ _ _ hi, nv_bes _ _ _ hi, k]
      exact ⟨rfl, rfl, rfl, rfl, rfl, rfl⟩
  · rw [e6 (60 + i) (by omega) (by omega) (by omega) (by omega) (by omega), nv_stv _ _ _ hi, nv_stv _ _ _ hi, f0 (a + 1) (hns _ (by omega) (by omega) (by omega)) (by omega)]
  · rw [e6 (68 + i) (by omega) (by omega) (by omega) (by omega) (by omega), e6 (74 + i) (by omega) (by omega) (by omega) (by omega) (by omega), nv_man _ _ _ hi, nv_man _ _ _ hi, nv_bag _ _ _ hi, nv_bag _ _ _ hi, f0 (a + 2) (hns _ (by omega) (by omega) (by omega)) (by omega), f0 (a + 3) (hns _ (by omega) (by omega) (by omega)) (by omega)]
    exact ⟨rfl, rfl⟩
  · rw [e6 80 (by omega) (by omega) (by omega) (by omega) (by omega), nv_hour, nv_hour, f0 a (hns _ (by omega) (by omega) (by omega)) (by omega)]
  · rw [e6 i (by omega) (by omega) (by omega) (by omega) (by omega), nv_hi _ _ _ hi, nv_hi _ _ _ hi]
theorem nv_man1 (dN : Nat) (Z : VT) (a : Nat) {x : Nat} (hx : x < 6) (v : Int32) : nv dN (up2 Z (a + 2) x v) a = va_up (nv dN Z a) (68 + x) v := by
  have k : ∀ q, q ≠ a + 2 → up2 Z (a + 2) x v q = Z q := fun q hq => up2_o _ _ hq
  refine nv_ext (fun i hi => ?_) (fun i hi => ?_) (fun i hi => ?_) ?_ (fun i hi => ?_)
  · rw [va_ne _ _ (by omega), va_ne _ _ (by omega), va_ne _ _ (by omega), va_ne _ _ (by omega), va_ne _ _ (by omega), va_ne _ _ (by omega)]
    rw [nv_ice _ _ _ hi, nv_wat _ _ _ hi, nv_slt _ _ _ hi, nv_bar _ _ _ hi, nv_bwa _ _ _ hi, nv_bes _ _ _ hi, nv_ice _ _ _ hi, nv_wat _ _ _ hi, nv_slt _ _ _ hi, nv_bar _ _ _ hi, nv_bwa _ _ _ hi, nv_bes _ _ _ hi, k _ (by omega)]
    exact ⟨rfl, rfl, rfl, rfl, rfl, rfl⟩
  · rw [va_ne _ _ (by omega), nv_stv _ _ _ hi, nv_stv _ _ _ hi, k _ (by omega)]
  · rw [va_ne _ _ (show 74 + i ≠ 68 + x by omega), nv_man _ _ _ hi, nv_bag _ _ _ hi, nv_bag _ _ _ hi, k (a + 3) (by omega)]
    refine ⟨?_, rfl⟩
    by_cases c : i = x
    · rw [c, va_sm, up2_s]
    · rw [va_ne _ _ (by omega), up2_at _ _ c, nv_man _ _ _ hi]
  · rw [va_ne _ _ (by omega), nv_hour, nv_hour, k _ (by omega)]
  · rw [va_ne _ _ (by omega), nv_hi _ _ _ hi, nv_hi _ _ _ hi]
theorem nv_hour1 (dN : Nat) (Z : VT) (a : Nat) (v : Int32) : nv dN (up2 Z a 1 v) a = va_up (nv dN Z a) 80 v := by
  have k : ∀ q, q ≠ a → up2 Z a 1 v q = Z q := fun q hq => up2_o _ _ hq
  refine nv_ext (fun i hi => ?_) (fun i hi => ?_) (fun i hi => ?_) ?_ (fun i hi => ?_)
  · rw [va_ne _ _ (by omega), va_ne _ _ (by omega), va_ne _ _ (by omega), va_ne _ _ (by omega), va_ne _ _ (by omega), va_ne _ _ (by omega)]
    rw [nv_ice _ _ _ hi, nv_wat _ _ _ hi, nv_slt _ _ _ hi, nv_bar _ _ _ hi, nv_bwa _ _ _ hi, nv_bes _ _ _ hi, nv_ice _ _ _ hi, nv_wat _ _ _ hi, nv_slt _ _ _ hi, nv_bar _ _ _ hi, nv_bwa _ _ _ hi, nv_bes _ _ _ hi, k _ (by omega)]
    exact ⟨rfl, rfl, rfl, rfl, rfl, rfl⟩
  · rw [va_ne _ _ (by omega), nv_stv _ _ _ hi, nv_stv _ _ _ hi, k _ (by omega)]
  · rw [va_ne _ _ (by omega), va_ne _ _ (by omega), nv_man _ _ _ hi, nv_man _ _ _ hi, nv_bag _ _ _ hi, nv_bag _ _ _ hi, k _ (by omega), k _ (by omega)]
    exact ⟨rfl, rfl⟩
  · rw [va_sm, nv_hour, up2_s]
  · rw [va_ne _ _ (by omega), nv_hi _ _ _ hi, nv_hi _ _ _ hi]
/-! a man let go -/
def fV (V : VT) (p : Int32) : Int32 := if p = -1 then 0 else if V 36 p.toNatClampNeg = 0 then -1 else V 36 p.toNatClampNeg
abbrev okV (V : VT) (S : ST) (gk h : Nat) (bar : Int32) (d : Nat) (c g : Int32) : Prop := ¬ ld V d c = -2 ∧ ¬ nI d = bar ∧ S d = 0 ∧ (¬ fV V (ld V d c) = -1 ∧ fV V (ld V d c) < fV V g) ∧ gN V (ld V d c) h gk = 0
def glV (V : VT) (S : ST) (gk h : Nat) (bar c : Int32) : Nat → Int32
  | 0 => c
  | d + 1 => if okV V S gk h bar d c (glV V S gk h bar c d) then ld V d c else glV V S gk h bar c d
def wkB (V : VT) (gk h dN : Nat) (bar : Int32) (S : ST) (x : Nat) : ST := if S (68 + x) = -1 ∨ nI (h / 24) < V 15 x ∨ 0 < gN V (S (68 + x)) h gk then S else va_up S (68 + x) (glV V S gk h bar (S (68 + x)) dN)
def wkM (V : VT) (gk h dN : Nat) (bar : Int32) (S : ST) : Nat → ST
  | 0 => S
  | k + 1 => wkB V gk h dN bar (wkM V gk h dN bar S k) k
def psB (V : VT) (gw : Option GWt) (gi : Option GIt) (dN mN gk h : Nat) (md bar : Int32) (S : ST) : ST := va_up (wkM V gk h dN bar (frS V gi (dgF gw h md) mN gk h S dN) mN) 80 (nI (h + 1))
theorem acr_e (hW : NW σ Z a b V cN dN mN gk gw gi) {j : Nat} (hj : j < dN) (c : Int32) : acr Z b j c = ld V j c := by
  unfold acr ld
  rw [(hW.lr.2.1 j hj).1, (hW.lr.2.1 j hj).2]
theorem fC_e (hW : NW σ Z a b V cN dN mN gk gw gi) {p : Int32} (hp : p = -1 ∨ ∃ c, c < cN ∧ p = nI c) : fC Z b p = fV V p := by
  unfold fC fV
  have h8 := hW.c8
  rcases hp with rfl | ⟨c, c1, c2⟩
  · rfl
  · rw [c2, if_neg (nI_ge0 (by omega)), if_neg (nI_ge0 (by omega)), nI_clamp (by omega)]
    exact hW.lr.2.2.2.2 c c1
theorem glV_rng {V : VT} (hP : PL V cN dN mN gk) (S : ST) (h : Nat) (bar : Int32) {c : Int32} (hc : c = -1 ∨ ∃ q, q < cN ∧ c = nI q) : ∀ d, d ≤ dN → glV V S gk h bar c d = -1 ∨ ∃ q, q < cN ∧ glV V S gk h bar c d = nI q := by
  intro d
  induction d with
  | zero => intro _; exact hc
  | succ d ih =>
    intro hd
    unfold glV
    by_cases e : okV V S gk h bar d c (glV V S gk h bar c d)
    · rw [if_pos e]
      rcases ld_cases hP (show d < dN by omega) c with q | q | q
      · exact absurd q e.1
      · exact Or.inl q
      · exact Or.inr q
    · rw [if_neg e]; exact ih (by omega)
theorem wkB_mn {V : VT} (hP : PL V cN dN mN gk) (h : Nat) (bar : Int32) {S : ST} (hm : Mn S cN mN) {x : Nat} (hx : x < mN) : Mn (wkB V gk h dN bar S x) cN mN := by
  unfold wkB
  split
  · exact hm
  · intro y hy
    by_cases e : y = x
    · rw [e, va_sm]; exact glV_rng hP S h bar (hm x hx) dN (Nat.le_refl _)
    · rw [va_ne _ _ (by omega)]; exact hm y hy
theorem wkB_o (V : VT) (gk h dN : Nat) (bar : Int32) (S : ST) {x i : Nat} (hi : i ≠ 68 + x) : wkB V gk h dN bar S x i = S i := by
  unfold wkB
  split
  · rfl
  · rw [va_ne _ _ hi]
theorem wkM_o (V : VT) (gk h dN : Nat) (bar : Int32) (S : ST) {i : Nat} : ∀ k, (i < 68 ∨ 68 + k ≤ i) → wkM V gk h dN bar S k i = S i := by
  intro k
  induction k with
  | zero => intro _; rfl
  | succ k ih =>
    intro hi
    show wkB V gk h dN bar (wkM V gk h dN bar S k) k i = S i
    rw [wkB_o _ _ _ _ _ _ (by omega), ih (by omega)]
theorem wkM_mn {V : VT} (hP : PL V cN dN mN gk) (h : Nat) (bar : Int32) {S : ST} (hm : Mn S cN mN) : ∀ k, k ≤ mN → Mn (wkM V gk h dN bar S k) cN mN := by
  intro k
  induction k with
  | zero => intro _; exact hm
  | succ k ih => intro hk; exact wkB_mn hP h bar (ih (by omega)) (by omega)
end C5p
section C5
variable {G : GG} {σ : Hp} {Z : VT} {a b : Nat} {V : VT} {cN dN mN gk : Nat} {gw : Option GWt} {gi : Option GIt}
set_option maxRecDepth 100000 in
theorem sc_isNearer (hW : NW σ Z a b V cN dN mN gk gw gi) {p t : Int32} (hp : p = -1 ∨ ∃ c, c < cN ∧ p = nI c) (ht : t = -1 ∨ ∃ c, c < cN ∧ t = nI c) : Sp G mX4_isNearer 1 [.ref a, .int p, .int t] (cv σ Z) (fun rv σ' => rv = some (.int (b01 (¬ fV V p = -1 ∧ fV V p < fV V t))) ∧ σ' = cv σ Z) := by
  have D := dat dl_X4_isNearer
  show HT G mX4_isNearer 0 [some (.ref a), some (.int p), some (.int t), none] [] (cv σ Z) 1 _
  refine ht_aload_n (D 0 rfl) rfl rfl ?_
  refine gf_X4_31 rfl (D 1 rfl) hW.nt.k0 hW.lq ?_
  refine ht_iload_n (D 2 rfl) rfl rfl ?_
  refine kVX2_farOf (As := [_]) cl_X4_174 (D 3 rfl) (sc_farOf hW.lb (p := p) (hp.imp id (fun ⟨c, c1, c2⟩ => ⟨c, by have := hW.c8; omega, c2⟩))) hW.lb.k0 rfl (Nat.le_of_ble_eq_true rfl) rfl (Nat.le_of_ble_eq_true rfl) (by omega) ?_
  rintro _ _ ⟨rfl, rfl⟩
  rw [fC_e hW hp]
  refine ht_istore_n (D 4 rfl) rfl (by decide) rfl ?_
  refine ht_iload_n (D 5 rfl) rfl rfl ?_
  refine ht_iconst (v := -1) (D 6 rfl) (by decide) ?_
  refine ht_icmp_eq (tgt := 30) (D 7 rfl) (by decide) (fun hb11 => ?_) (fun hb11 => ?_)
  · skip
    refine ht_iconst (v := 0) (D 16 rfl) (by decide) ?_
    refine ht_iret (D 17 rfl) rfl rfl ?_
    exact ⟨by first | rw [b01_t ⟨by assumption, by (simp only [i_lt, i_le] at *; omega)⟩] | rw [b01_f (fun q => by first | exact q.1 (by assumption) | (have q2 := q.2; (simp only [i_lt, i_le] at *; omega)))], rfl⟩
  · skip
    refine ht_iload_n (D 8 rfl) rfl rfl ?_
    refine ht_aload_n (D 9 rfl) rfl rfl ?_
    refine gf_X4_31 rfl (D 10 rfl) hW.nt.k0 hW.lq ?_
    refine ht_iload_n (D 11 rfl) rfl rfl ?_
    refine kVX2_farOf (As := [_]) cl_X4_174 (D 12 rfl) (sc_farOf hW.lb (p := t) (ht.imp id (fun ⟨c, c1, c2⟩ => ⟨c, by have := hW.c8; omega, c2⟩))) hW.lb.k0 rfl (Nat.le_of_ble_eq_true rfl) rfl (Nat.le_of_ble_eq_true rfl) (by omega) ?_
    rintro _ _ ⟨rfl, rfl⟩
    rw [fC_e hW ht]
    refine ht_icmp_ge (tgt := 30) (D 13 rfl) (by decide) (fun hb23 => ?_) (fun hb23 => ?_)
    · skip
      refine ht_iconst (v := 0) (D 16 rfl) (by decide) ?_
      refine ht_iret (D 17 rfl) rfl rfl ?_
      exact ⟨by first | rw [b01_t ⟨by assumption, by (simp only [i_lt, i_le] at *; omega)⟩] | rw [b01_f (fun q => by first | exact q.1 (by assumption) | (have q2 := q.2; (simp only [i_lt, i_le] at *; omega)))], rfl⟩
    · skip
      refine ht_iconst (v := 1) (D 14 rfl) (by decide) ?_
      refine ht_goto (tgt := 31) (D 15 rfl) (by decide) ?_
      refine ht_iret (D 17 rfl) rfl rfl ?_
      exact ⟨by first | rw [b01_t ⟨by assumption, by (simp only [i_lt, i_le] at *; omega)⟩] | rw [b01_f (fun q => by first | exact q.1 (by assumption) | (have q2 := q.2; (simp only [i_lt, i_le] at *; omega)))], rfl⟩
theorem gN_le2 (V : VT) (c : Int32) (h : Nat) : ∀ k, gN V c h k ≤ k := by
  intro k
  induction k with
  | zero => exact Nat.le_refl _
  | succ k ih =>
    simp only [gN]
    split <;> omega
theorem nI_z {n : Nat} (h : nI n = 0) (hn : n < 2 ^ 31) : n = 0 := by
  rcases Nat.eq_zero_or_pos n with q | q
  · exact q
  · exact absurd h (nI_ne0 q hn)
set_option maxRecDepth 100000 in
theorem sc_letGo (hW : NW σ Z a b V cN dN mN gk gw gi) {h : Nat} (hh : Z a 1 = nI h) (h31 : h < 2 ^ 31) (hm : Mn (nv dN Z a) cN mN) {x : Nat} (hx : x < mN) : Sp G mX4_letGo 3 [.ref a, .int (nI x)] (cv σ Z) (fun rv σ' => rv = none ∧ ∃ Z2 : VT, σ' = cv σ Z2 ∧ Fr (fun q => q = a + 2) Z Z2 ∧ nv dN Z2 a = wkB V gk h dN (Z a 2) (nv dN Z a) x) := by
  have D := dat dl_X4_letGo
  have h10 := hW.d10
  have h6 := hW.m6
  have hg : ∀ c : Int32, Sp G mX4_guardsIn 2 [.ref a, .int c] (cv σ Z) (fun rv σ' => rv = some (.int (nI (gN V c h gk))) ∧ σ' = cv σ Z) := fun c => by
    have q := sc_guardsIn (G := G) hW.nt hW.lq hW.lb hW.ng hW.g2 hW.rr hh h31 c
    rw [gNc_e hW c h gk (Nat.le_refl _)] at q
    exact q
  have hg2 : ∀ c : Int32, gN V c h gk ≤ 2 := fun c => by
    have q := gN_le2 V c h gk
    have := hW.g2
    omega
  have hcell : Z (a + 2) x = -1 ∨ ∃ q, q < cN ∧ Z (a + 2) x = nI q := by
    have q := hm x hx
    rw [nv_man _ _ _ (show x < 6 by omega)] at q
    exact q
  have loop : ∀ c : Int32, (c = -1 ∨ ∃ q, q < cN ∧ c = nI q) → Z (a + 2) x = c → ¬ (c = -1 ∨ nI (h / 24) < V 15 x ∨ 0 < gN V c h gk) → ∀ r j : Nat, j ≤ dN → dN - j = r → ∀ l5 l6 : Option Value, HT G mX4_letGo 45 [some (.ref a), some (.int (nI x)), some (.int c), some (.int (glV V (nv dN Z a) gk h (Z a 2) c j)), some (.int (nI j)), l5, l6] [] (cv σ Z) 3 (fun rv σ' => rv = none ∧ ∃ Z2 : VT, σ' = cv σ Z2 ∧ Fr (fun q => q = a + 2) Z Z2 ∧ nv dN Z2 a = wkB V gk h dN (Z a 2) (nv dN Z a) x) := by
    intro c hc hcx hno r
    induction r using Nat.strongRecOn with
    | _ r ih =>
      intro j hj hr l5 l6
      refine ht_iload (D 27 rfl) rfl ?_
      refine ht_aload_n (D 28 rfl) rfl rfl ?_
      refine gf_X4_31 rfl (D 29 rfl) hW.nt.k0 hW.lq ?_
      refine gi_X4_74 rfl (D 30 rfl) hW.lb.k0 ?_
      refine ht_icmp_ge (tgt := 138) (D 31 rfl) (by decide) (fun hb54 => ?_) (fun hb54 => ?_)
      · skip
        have hjk : j = dN := by rw [hW.nd] at hb54; have h3 := (nI_leI (a := dN) (b := j) (by omega) (by omega)).mp hb54; omega
        refine ht_aload_n (D 70 rfl) rfl rfl ?_
        refine gf_X4_15 rfl (D 71 rfl) hW.nt.k0 hW.nt.q2 ?_
        refine ht_iload_n (D 72 rfl) rfl rfl ?_
        refine ht_iload_n (D 73 rfl) rfl rfl ?_
        refine hi_ist (n := x) (D 74 rfl) hW.nt.k2 hW.nt.n2 (by first | rfl | exact nI_add _ _ | assumption) (by omega) (by first | decide | omega) ?_
        refine ht_vret (D 75 rfl) rfl ?_
        subst hjk
        exact ⟨rfl, _, rfl, (Fr.rf _ _).up _ rfl, by rw [nv_man1 _ _ _ (by omega)]; unfold wkB; rw [nv_man _ _ _ (show x < 6 by omega), hcx, if_neg hno]⟩
      · skip
        have hjk : j < dN := by rw [hW.nd] at hb54; have h3 := mt (nI_leI (a := dN) (b := j) (by omega) (by omega)).mpr hb54; omega
        refine ht_aload_n (D 32 rfl) rfl rfl ?_
        refine gf_X4_31 rfl (D 33 rfl) hW.nt.k0 hW.lq ?_
        refine ht_iload (D 34 rfl) rfl ?_
        refine ht_iload_n (D 35 rfl) rfl rfl ?_
        refine kVX2_across (As := [_, _]) cl_X4_167 (D 36 rfl) (sc_across hW.lb (by omega) c) hW.lb.k0 rfl (Nat.le_of_ble_eq_true rfl) rfl (Nat.le_of_ble_eq_true rfl) (by omega) ?_
        rintro _ _ ⟨rfl, rfl⟩
        rw [acr_e hW hjk]
        refine ht_istore (D 37 rfl) (by decide) rfl ?_
        refine ht_iload (D 38 rfl) rfl ?_
        refine ht_bipush (v := -2) (D 39 rfl) (by decide) ?_
        refine ht_icmp_eq (tgt := 102) (D 40 rfl) (by decide) (fun hb73 => ?_) (fun hb73 => ?_)
        · skip
          have hko : ¬ okV V (nv dN Z a) gk h (Z a 2) j c (glV V (nv dN Z a) gk h (Z a 2) c j) := fun q => q.1 hb73
          refine ht_iconst (v := 0) (D 53 rfl) (by decide) ?_
          refine ht_istore (D 54 rfl) (by decide) rfl ?_
          refine ht_iload (D 55 rfl) rfl ?_
          refine ht_if_eq (tgt := 132) (D 56 rfl) (by decide) (fun hb107 => ?_) (fun hb107 => absurd (by decide) hb107)
          refine ht_iinc (v := nI (j + 1)) (D 68 rfl) rfl (nI_i1 _) (by decide) rfl ?_
          refine ht_goto (tgt := 45) (D 69 rfl) (by decide) ?_
          first
            | exact ht_cast (ih (dN - (j + 1)) (by omega) (j + 1) (by omega) rfl _ _) (by simp only [List.set, glV]; rw [if_pos ⟨hb73, hb82, hz, hz2, nI_z hb126 (by have := hg2 (ld V j c); omega)⟩]) rfl rfl
            | exact ht_cast (ih (dN - (j + 1)) (by omega) (j + 1) (by omega) rfl _ _) (by simp only [List.set, glV]; rw [if_neg hko]) rfl rfl
        · skip
          refine ht_iload (D 41 rfl) rfl ?_
          refine ht_aload_n (D 42 rfl) rfl rfl ?_
          refine gi_X4_35 rfl (D 43 rfl) hW.nt.k0 ?_
          refine ht_icmp_eq (tgt := 102) (D 44 rfl) (by decide) (fun hb82 => ?_) (fun hb82 => ?_)
          · skip
            have hko : ¬ okV V (nv dN Z a) gk h (Z a 2) j c (glV V (nv dN Z a) gk h (Z a 2) c j) := fun q => q.2.1 hb82
            refine ht_iconst (v := 0) (D 53 rfl) (by decide) ?_
            refine ht_istore (D 54 rfl) (by decide) rfl ?_
            refine ht_iload (D 55 rfl) rfl ?_
            refine ht_if_eq (tgt := 132) (D 56 rfl) (by decide) (fun hb107 => ?_) (fun hb107 => absurd (by decide) hb107)
            refine ht_iinc (v := nI (j + 1)) (D 68 rfl) rfl (nI_i1 _) (by decide) rfl ?_
            refine ht_goto (tgt := 45) (D 69 rfl) (by decide) ?_
            first
              | exact ht_cast (ih (dN - (j + 1)) (by omega) (j + 1) (by omega) rfl _ _) (by simp only [List.set, glV]; rw [if_pos ⟨hb73, hb82, hz, hz2, nI_z hb126 (by have := hg2 (ld V j c); omega)⟩]) rfl rfl
              | exact ht_cast (ih (dN - (j + 1)) (by omega) (j + 1) (by omega) rfl _ _) (by simp only [List.set, glV]; rw [if_neg hko]) rfl rfl
          · skip
            refine ht_aload_n (D 45 rfl) rfl rfl ?_
            refine gf_X4_23 rfl (D 46 rfl) hW.nt.k0 hW.nt.q4 ?_
            refine ht_iload (D 47 rfl) rfl ?_
            refine ht_ald (n := j) (Or.inl rfl) (D 48 rfl) hW.nt.k4 hW.nt.n4 rfl (by omega) (by decide) (hW.nt.lq (j := j) (by omega)) ?_
            refine kVX3_isLoose (As := []) cl_X4_77 (D 49 rfl) (sc_isLoose (hW.nt.lk (j := j) (by omega))) (hW.nt.lk (j := j) (by omega)) rfl (Nat.le_of_ble_eq_true rfl) rfl (Nat.le_of_ble_eq_true rfl) (by omega) ?_
            rintro _ _ ⟨rfl, rfl⟩
            refine ht_if_eq (tgt := 102) (D 50 rfl) (by decide) (fun hb95 => ?_) (fun hb95 => ?_)
            · skip
              have hz := b01_eq hb95
              rw [← nv_ice dN Z a (show j < 10 by omega)] at hz
              have hko : ¬ okV V (nv dN Z a) gk h (Z a 2) j c (glV V (nv dN Z a) gk h (Z a 2) c j) := fun q => hz q.2.2.1
              refine ht_iconst (v := 0) (D 53 rfl) (by decide) ?_
              refine ht_istore (D 54 rfl) (by decide) rfl ?_
              refine ht_iload (D 55 rfl) rfl ?_
              refine ht_if_eq (tgt := 132) (D 56 rfl) (by decide) (fun hb107 => ?_) (fun hb107 => absurd (by decide) hb107)
              refine ht_iinc (v := nI (j + 1)) (D 68 rfl) rfl (nI_i1 _) (by decide) rfl ?_
              refine ht_goto (tgt := 45) (D 69 rfl) (by decide) ?_
              first
                | exact ht_cast (ih (dN - (j + 1)) (by omega) (j + 1) (by omega) rfl _ _) (by simp only [List.set, glV]; rw [if_pos ⟨hb73, hb82, hz, hz2, nI_z hb126 (by have := hg2 (ld V j c); omega)⟩]) rfl rfl
                | exact ht_cast (ih (dN - (j + 1)) (by omega) (j + 1) (by omega) rfl _ _) (by simp only [List.set, glV]; rw [if_neg hko]) rfl rfl
            · skip
              have hz := b01_ne hb95
              rw [← nv_ice dN Z a (show j < 10 by omega)] at hz
              have hld : ld V j c = -1 ∨ ∃ q, q < cN ∧ ld V j c = nI q := by
                rcases ld_cases hW.pl hjk c with q | q | q
                · exact absurd q hb73
                · exact Or.inl q
                · exact Or.inr q
              refine ht_iconst (v := 1) (D 51 rfl) (by decide) ?_
              refine ht_goto (tgt := 103) (D 52 rfl) (by decide) ?_
              refine ht_istore (D 54 rfl) (by decide) rfl ?_
              refine ht_iload (D 55 rfl) rfl ?_
              refine ht_if_eq (tgt := 132) (D 56 rfl) (by decide) (fun hb107 => absurd hb107 (by decide)) (fun hb107 => ?_)
              refine ht_aload_n (D 57 rfl) rfl rfl ?_
              refine ht_iload (D 58 rfl) rfl ?_
              refine ht_iload_n (D 59 rfl) rfl rfl ?_
              refine kVX4_isNearer (As := [_, _]) cl_X4_170 (D 60 rfl) (sc_isNearer hW hld (glV_rng hW.pl _ h _ hc j (by omega))) hW.nt.k0 rfl (Nat.le_of_ble_eq_true rfl) rfl (Nat.le_of_ble_eq_true rfl) (by omega) ?_
              rintro _ _ ⟨rfl, rfl⟩
              refine ht_if_eq (tgt := 132) (D 61 rfl) (by decide) (fun hb117 => ?_) (fun hb117 => ?_)
              · skip
                have hz2 := b01_eq hb117
                have hko : ¬ okV V (nv dN Z a) gk h (Z a 2) j c (glV V (nv dN Z a) gk h (Z a 2) c j) := fun q => hz2 q.2.2.2.1
                refine ht_iinc (v := nI (j + 1)) (D 68 rfl) rfl (nI_i1 _) (by decide) rfl ?_
                refine ht_goto (tgt := 45) (D 69 rfl) (by decide) ?_
                first
                  | exact ht_cast (ih (dN - (j + 1)) (by omega) (j + 1) (by omega) rfl _ _) (by simp only [List.set, glV]; rw [if_pos ⟨hb73, hb82, hz, hz2, nI_z hb126 (by have := hg2 (ld V j c); omega)⟩]) rfl rfl
                  | exact ht_cast (ih (dN - (j + 1)) (by omega) (j + 1) (by omega) rfl _ _) (by simp only [List.set, glV]; rw [if_neg hko]) rfl rfl
              · skip
                have hz2 := b01_ne hb117
                refine ht_aload_n (D 62 rfl) rfl rfl ?_
                refine ht_iload (D 63 rfl) rfl ?_
                refine kVX4_guardsIn (As := [_]) cl_X4_134 (D 64 rfl) (hg _) hW.nt.k0 rfl (Nat.le_of_ble_eq_true rfl) rfl (Nat.le_of_ble_eq_true rfl) (by omega) ?_
                rintro _ _ ⟨rfl, rfl⟩
                refine ht_if_ne (tgt := 132) (D 65 rfl) (by decide) (fun hb126 => ?_) (fun hb126 => ?_)
                · skip
                  have hko : ¬ okV V (nv dN Z a) gk h (Z a 2) j c (glV V (nv dN Z a) gk h (Z a 2) c j) := fun q => hb126 (by rw [q.2.2.2.2]; rfl)
                  refine ht_iinc (v := nI (j + 1)) (D 68 rfl) rfl (nI_i1 _) (by decide) rfl ?_
                  refine ht_goto (tgt := 45) (D 69 rfl) (by decide) ?_
                  first
                    | exact ht_cast (ih (dN - (j + 1)) (by omega) (j + 1) (by omega) rfl _ _) (by simp only [List.set, glV]; rw [if_pos ⟨hb73, hb82, hz, hz2, nI_z hb126 (by have := hg2 (ld V j c); omega)⟩]) rfl rfl
                    | exact ht_cast (ih (dN - (j + 1)) (by omega) (j + 1) (by omega) rfl _ _) (by simp only [List.set, glV]; rw [if_neg hko]) rfl rfl
                · skip
                  refine ht_iload (D 66 rfl) rfl ?_
                  refine ht_istore_n (D 67 rfl) rfl (by decide) rfl ?_
                  refine ht_iinc (v := nI (j + 1)) (D 68 rfl) rfl (nI_i1 _) (by decide) rfl ?_
                  refine ht_goto (tgt := 45) (D 69 rfl) (by decide) ?_
                  first
                    | exact ht_cast (ih (dN - (j + 1)) (by omega) (j + 1) (by omega) rfl _ _) (by simp only [List.set, glV]; rw [if_pos ⟨hb73, hb82, hz, hz2, nI_z hb126 (by have := hg2 (ld V j c); omega)⟩]) rfl rfl
                    | exact ht_cast (ih (dN - (j + 1)) (by omega) (j + 1) (by omega) rfl _ _) (by simp only [List.set, glV]; rw [if_neg hko]) rfl rfl
  show HT G mX4_letGo 0 [some (.ref a), some (.int (nI x)), none, none, none, none, none] [] (cv σ Z) 3 _
  refine ht_aload_n (D 0 rfl) rfl rfl ?_
  refine gf_X4_15 rfl (D 1 rfl) hW.nt.k0 hW.nt.q2 ?_
  refine ht_iload_n (D 2 rfl) rfl rfl ?_
  refine hi_ild (n := x) (D 3 rfl) hW.nt.k2 hW.nt.n2 (by first | rfl | exact nI_add _ _ | assumption) (by omega) (by first | decide | omega) ?_
  refine ht_istore_n (D 4 rfl) rfl (by decide) rfl ?_
  refine ht_iload_n (D 5 rfl) rfl rfl ?_
  refine ht_iconst (v := -1) (D 6 rfl) (by decide) ?_
  refine ht_icmp_eq (tgt := 39) (D 7 rfl) (by decide) (fun hb9 => ?_) (fun hb9 => ?_)
  · skip
    refine ht_vret (D 22 rfl) rfl ?_
    first | exact ⟨rfl, Z, rfl, Fr.rf _ _, by unfold wkB; rw [nv_man _ _ _ (show x < 6 by omega), if_pos (Or.inl hb9)]⟩ | exact ⟨rfl, Z, rfl, Fr.rf _ _, by unfold wkB; rw [nv_man _ _ _ (show x < 6 by omega), if_pos (Or.inr (Or.inl hb28))]⟩ | exact ⟨rfl, Z, rfl, Fr.rf _ _, by unfold wkB; rw [nv_man _ _ _ (show x < 6 by omega), if_pos (Or.inr (Or.inr (by rcases Nat.eq_zero_or_pos (gN V (Z (a + 2) x) h gk) with q | q; exact absurd (by rw [q]; exact Int32.le_refl _) hb36; exact q)))]⟩
  · skip
    refine ht_aload_n (D 8 rfl) rfl rfl ?_
    refine gi_X4_39 rfl (D 9 rfl) hW.nt.k0 ?_
    refine ht_bipush (v := 24) (D 10 rfl) (by decide) ?_
    refine ht_idiv (D 11 rfl) (by decide) ?_
    rw [hh, show (24 : Int32) = nI 24 from rfl, pk_div (by omega) (by decide) (by decide)]
    refine ht_aload_n (D 12 rfl) rfl rfl ?_
    refine gf_X4_31 rfl (D 13 rfl) hW.nt.k0 hW.lq ?_
    refine gf_X4_164 rfl (D 14 rfl) hW.lb.k0 hW.lb.q8 ?_
    refine ht_iload_n (D 15 rfl) rfl rfl ?_
    refine hi_ild (n := x) (D 16 rfl) hW.lb.k8 hW.lb.n8 (by first | rfl | exact nI_add _ _ | assumption) (by omega) (by first | decide | omega) ?_
    rw [hW.lr.2.2.1 x hx]
    refine ht_icmp_lt (tgt := 39) (D 17 rfl) (by decide) (fun hb28 => ?_) (fun hb28 => ?_)
    · skip
      refine ht_vret (D 22 rfl) rfl ?_
      first | exact ⟨rfl, Z, rfl, Fr.rf _ _, by unfold wkB; rw [nv_man _ _ _ (show x < 6 by omega), if_pos (Or.inl hb9)]⟩ | exact ⟨rfl, Z, rfl, Fr.rf _ _, by unfold wkB; rw [nv_man _ _ _ (show x < 6 by omega), if_pos (Or.inr (Or.inl hb28))]⟩ | exact ⟨rfl, Z, rfl, Fr.rf _ _, by unfold wkB; rw [nv_man _ _ _ (show x < 6 by omega), if_pos (Or.inr (Or.inr (by rcases Nat.eq_zero_or_pos (gN V (Z (a + 2) x) h gk) with q | q; exact absurd (by rw [q]; exact Int32.le_refl _) hb36; exact q)))]⟩
    · skip
      refine ht_aload_n (D 18 rfl) rfl rfl ?_
      refine ht_iload_n (D 19 rfl) rfl rfl ?_
      refine kVX4_guardsIn (As := [_]) cl_X4_134 (D 20 rfl) (hg _) hW.nt.k0 rfl (Nat.le_of_ble_eq_true rfl) rfl (Nat.le_of_ble_eq_true rfl) (by omega) ?_
      rintro _ _ ⟨rfl, rfl⟩
      refine ht_if_le (tgt := 40) (D 21 rfl) (by decide) (fun hb36 => ?_) (fun hb36 => ?_)
      · skip
        refine ht_iload_n (D 23 rfl) rfl rfl ?_
        refine ht_istore_n (D 24 rfl) rfl (by decide) rfl ?_
        refine ht_iconst (v := 0) (D 25 rfl) (by decide) ?_
        refine ht_istore (D 26 rfl) (by decide) rfl ?_
        exact ht_cast (loop (Z (a + 2) x) hcell rfl (by rintro (q | q | q); exact hb9 q; exact hb28 q; exact nI_nle q (by have := hg2 (Z (a + 2) x); omega) hb36) dN 0 (by omega) (by omega) none none) rfl rfl rfl
      · skip
        refine ht_vret (D 22 rfl) rfl ?_
        first | exact ⟨rfl, Z, rfl, Fr.rf _ _, by unfold wkB; rw [nv_man _ _ _ (show x < 6 by omega), if_pos (Or.inl hb9)]⟩ | exact ⟨rfl, Z, rfl, Fr.rf _ _, by unfold wkB; rw [nv_man _ _ _ (show x < 6 by omega), if_pos (Or.inr (Or.inl hb28))]⟩ | exact ⟨rfl, Z, rfl, Fr.rf _ _, by unfold wkB; rw [nv_man _ _ _ (show x < 6 by omega), if_pos (Or.inr (Or.inr (by rcases Nat.eq_zero_or_pos (gN V (Z (a + 2) x) h gk) with q | q; exact absurd (by rw [q]; exact Int32.le_refl _) hb36; exact q)))]⟩
end C5
