/-! ===== the least ways: what the class's rounds come to ===== -/
abbrev WT : Type := Nat → Option Nat
def wo (W : WT) (p : Int32) : Option Nat := if p = -1 then some 0 else W p.toNatClampNeg
def rl (w : Nat) (p q : Int32) (W : WT) : WT := if p = -1 then W else match wo W q with
  | none => W
  | some y => match W p.toNatClampNeg with
    | none => va_up W p.toNatClampNeg (some (w + y))
    | some z => if w + y < z then va_up W p.toNatClampNeg (some (w + y)) else W
def rdD (V : VT) (w : Nat → Nat) (W : WT) : Nat → WT
  | 0 => W
  | d + 1 => rl (w d) (V 11 d) (V 10 d) (rl (w d) (V 10 d) (V 11 d) (rdD V w W d))
def rdN (V : VT) (w : Nat → Nat) (dN : Nat) (W : WT) : Nat → WT
  | 0 => W
  | i + 1 => rdD V w (rdN V w dN W i) dN
def leW (W W2 : WT) : Prop := ∀ c x, W c = some x → ∃ y, y ≤ x ∧ W2 c = some y
theorem leW.rf (W : WT) : leW W W := fun c x h => ⟨x, Nat.le_refl _, h⟩
theorem leW.tr {W W1 W2 : WT} (h1 : leW W W1) (h2 : leW W1 W2) : leW W W2 := fun c x h => by
  obtain ⟨y, y1, y2⟩ := h1 c x h
  obtain ⟨z, z1, z2⟩ := h2 c y y2
  exact ⟨z, by omega, z2⟩
theorem wo_c (W : WT) {n : Nat} (h : n < 2 ^ 31) : wo W (nI n) = W n := by
  unfold wo
  rw [if_neg (nI_ge0 h), nI_clamp h]
theorem wo_o (W : WT) : wo W (-1) = some 0 := if_pos rfl
theorem wo_le {W W2 : WT} (h : leW W W2) {p : Int32} {x : Nat} (hx : wo W p = some x) : ∃ y, y ≤ x ∧ wo W2 p = some y := by
  unfold wo at hx ⊢
  by_cases e : p = -1
  · rw [if_pos e] at hx ⊢
    exact ⟨0, by omega, rfl⟩
  · rw [if_neg e] at hx ⊢
    exact h _ _ hx
/-- what a door's weighing does -/
theorem rl_cases (w : Nat) {n : Nat} (hn : n < 2 ^ 31) (q : Int32) (W : WT) : (rl w (nI n) q W = W ∧ (wo W q = none ∨ ∃ y z, wo W q = some y ∧ W n = some z ∧ z ≤ w + y)) ∨ (∃ y, wo W q = some y ∧ rl w (nI n) q W = va_up W n (some (w + y)) ∧ ∀ z, W n = some z → w + y < z) := by
  unfold rl
  rw [if_neg (nI_ge0 hn), nI_clamp hn]
  cases h1 : wo W q with
  | none => exact Or.inl ⟨rfl, Or.inl rfl⟩
  | some y =>
    cases h2 : W n with
    | none => exact Or.inr ⟨y, rfl, rfl, fun z hz => by cases hz⟩
    | some z =>
      by_cases c : w + y < z
      · right
        refine ⟨y, rfl, ?_, fun z2 hz => by cases hz; exact c⟩
        simp only [if_pos c]
      · left
        refine ⟨?_, Or.inr ⟨y, z, rfl, rfl, by omega⟩⟩
        simp only [if_neg c]
theorem rl_out (w : Nat) (q : Int32) (W : WT) : rl w (-1) q W = W := if_pos rfl
section Ways
variable {V : VT} {cN dN mN gk : Nat}
/-- an end of a door -/
def Pl (cN : Nat) (p : Int32) : Prop := p = -1 ∨ ∃ n, n < cN ∧ p = nI n
theorem rl_le {p : Int32} (hp : Pl cN p) (h8 : cN ≤ 8) (w : Nat) (q : Int32) (W : WT) : leW W (rl w p q W) := by
  rcases hp with rfl | ⟨n, n1, rfl⟩
  · rw [rl_out]; exact leW.rf W
  · rcases rl_cases w (show n < 2 ^ 31 by omega) q W with ⟨e, -⟩ | ⟨y, -, e, hz⟩
    · rw [e]; exact leW.rf W
    · rw [e]
      intro c x hx
      by_cases c1 : c = n
      · rw [c1] at hx ⊢
        exact ⟨w + y, by have := hz x hx; omega, va_sm _ _ _⟩
      · exact ⟨x, Nat.le_refl _, by rw [va_ne _ _ c1]; exact hx⟩
theorem rl_hit {n : Nat} (hn : n < 2 ^ 31) (w : Nat) {q : Int32} {W : WT} {y : Nat} (hy : wo W q = some y) : ∃ x, x ≤ w + y ∧ rl w (nI n) q W n = some x := by
  rcases rl_cases w hn q W with ⟨e, h | ⟨y2, z, h1, h2, h3⟩⟩ | ⟨y2, h1, e, -⟩
  · rw [hy] at h; cases h
  · rw [hy] at h1; cases h1
    exact ⟨z, h3, by rw [e]; exact h2⟩
  · rw [hy] at h1; cases h1
    exact ⟨w + y, Nat.le_refl _, by rw [e, va_sm]⟩
theorem PL.p10 (hP : PL V cN dN mN gk) {d : Nat} (hd : d < dN) : Pl cN (V 10 d) := by
  obtain ⟨a, a1, a2⟩ := hP.2.2.2.2.2.1 d hd
  exact Or.inr ⟨a, a1, a2⟩
theorem PL.p11 (hP : PL V cN dN mN gk) {d : Nat} (hd : d < dN) : Pl cN (V 11 d) := hP.2.2.2.2.2.2 d hd
theorem rdD_le (hP : PL V cN dN mN gk) (w : Nat → Nat) (W : WT) : ∀ m, m ≤ dN → leW W (rdD V w W m) := by
  intro m
  induction m with
  | zero => intro _; exact leW.rf W
  | succ m ih =>
    intro hm
    exact ((ih (by omega)).tr (rl_le (hP.p10 (by omega)) hP.1.2 _ _ _)).tr (rl_le (hP.p11 (by omega)) hP.1.2 _ _ _)
theorem ld_10 (hne : ¬ V 10 0 = V 11 0 ∨ True) {d : Nat} : ld V d (V 10 d) = V 11 d := if_pos rfl
theorem ld_11 {d : Nat} (hne : ¬ V 10 d = V 11 d) : ld V d (V 11 d) = V 10 d := by
  unfold ld
  rw [if_neg hne, if_pos rfl]
theorem ld_or {d : Nat} {c : Int32} (h : ¬ ld V d c = -2) : (V 10 d = c ∧ ld V d c = V 11 d) ∨ (¬ V 10 d = c ∧ V 11 d = c ∧ ld V d c = V 10 d) := by
  unfold ld at h ⊢
  by_cases e : V 10 d = c
  · rw [if_pos e]; exact Or.inl ⟨e, rfl⟩
  · rw [if_neg e] at h ⊢
    by_cases e2 : V 11 d = c
    · rw [if_pos e2]; exact Or.inr ⟨e, e2, rfl⟩
    · rw [if_neg e2] at h; exact absurd rfl h
theorem rdD_hit (hP : PL V cN dN mN gk) (w : Nat → Nat) (W : WT) {d n : Nat} (hn : n < cN) (hl : ¬ ld V d (nI n) = -2) {y : Nat} (hy : wo W (ld V d (nI n)) = some y) : ∀ m, m ≤ dN → d < m → ∃ x, x ≤ w d + y ∧ rdD V w W m n = some x := by
  intro m
  have h8 := hP.1.2
  induction m with
  | zero => intro _ h; omega
  | succ m ih =>
    intro hm hdm
    have l1 := rl_le (hP.p10 (show m < dN by omega)) h8 (w m) (V 11 m) (rdD V w W m)
    have l2 := rl_le (hP.p11 (show m < dN by omega)) h8 (w m) (V 10 m) (rl (w m) (V 10 m) (V 11 m) (rdD V w W m))
    by_cases e : d = m
    · subst e
      obtain ⟨y1, y2, y3⟩ := wo_le (rdD_le hP w W d (by omega)) hy
      rcases ld_or hl with ⟨e1, e2⟩ | ⟨e0, e1, e2⟩
      · rw [e2] at y3
        rw [e1] at l1 l2
        obtain ⟨x, x1, x2⟩ := rl_hit (show n < 2 ^ 31 by omega) (w d) y3
        obtain ⟨z, z1, z2⟩ := l2 n x x2
        refine ⟨z, by omega, ?_⟩
        show rl (w d) (V 11 d) (V 10 d) (rl (w d) (V 10 d) (V 11 d) (rdD V w W d)) n = some z
        rw [e1]
        exact z2
      · rw [e2] at y3
        obtain ⟨y4, y5, y6⟩ := wo_le l1 y3
        obtain ⟨x, x1, x2⟩ := rl_hit (show n < 2 ^ 31 by omega) (w d) y6
        refine ⟨x, by omega, ?_⟩
        show rl (w d) (V 11 d) (V 10 d) (rl (w d) (V 10 d) (V 11 d) (rdD V w W d)) n = some x
        rw [← e1] at x2
        exact x2
    · obtain ⟨x, x1, x2⟩ := ih (by omega) (by omega)
      obtain ⟨z, z1, z2⟩ := (l1.tr l2) n x x2
      exact ⟨z, by omega, z2⟩
/-! walks -/
def Wk (V : VT) (cN dN : Nat) (X : Nat → Bool) : List Nat → Int32 → Prop
  | [], c => c = -1
  | d :: ds, c => (∃ n, n < cN ∧ c = nI n ∧ X n = false) ∧ d < dN ∧ ¬ ld V d c = -2 ∧ Wk V cN dN X ds (ld V d c)
def wt (w : Nat → Nat) : List Nat → Nat
  | [] => 0
  | d :: ds => w d + wt w ds
theorem complete (hP : PL V cN dN mN gk) (w : Nat → Nat) (W : WT) : ∀ (i : Nat) (ds : List Nat) (c : Int32), ds.length ≤ i → Wk V cN dN (fun _ => false) ds c → ∃ x, x ≤ wt w ds ∧ wo (rdN V w dN W i) c = some x := by
  intro i
  have h8 := hP.1.2
  induction i with
  | zero =>
    intro ds c hl hk
    cases ds with
    | nil =>
      have : c = -1 := hk
      rw [this, wo_o]
      exact ⟨0, Nat.le_refl _, rfl⟩
    | cons d ds => exact absurd hl (by simp)
  | succ i ih =>
    intro ds c hl hk
    cases ds with
    | nil =>
      have : c = -1 := hk
      rw [this, wo_o]
      exact ⟨0, Nat.le_refl _, rfl⟩
    | cons d ds =>
      obtain ⟨⟨n, n1, n2, -⟩, k2, k3, k4⟩ := hk
      subst n2
      obtain ⟨y, y1, y2⟩ := ih ds _ (by simpa using hl) k4
      obtain ⟨x, x1, x2⟩ := rdD_hit hP w (rdN V w dN W i) n1 k3 y2 dN (Nat.le_refl _) k2
      refine ⟨x, ?_, ?_⟩
      · show x ≤ w d + wt w ds
        omega
      · rw [wo_c _ (by omega)]
        exact x2
def adX (X : Nat → Bool) (n : Nat) : Nat → Bool := fun i => X i || decide (i = n)
theorem wk_split {X : Nat → Bool} (w : Nat → Nat) (n : Nat) : ∀ (ds : List Nat) (c : Int32), Wk V cN dN X ds c → Wk V cN dN (adX X n) ds c ∨ ∃ ds2, Wk V cN dN X ds2 (nI n) ∧ ds2.length ≤ ds.length ∧ wt w ds2 ≤ wt w ds := by
  intro ds
  induction ds with
  | nil => intro c h; exact Or.inl h
  | cons d ds ih =>
    intro c h
    obtain ⟨⟨m, m1, m2, m3⟩, h2, h3, h4⟩ := h
    by_cases e : m = n
    · right
      refine ⟨d :: ds, ?_, Nat.le_refl _, Nat.le_refl _⟩
      rw [← e]
      rw [m2] at h3 h4
      exact ⟨⟨m, m1, rfl, m3⟩, h2, h3, h4⟩
    · rcases ih _ h4 with q | ⟨ds2, q1, q2, q3⟩
      · left
        exact ⟨⟨m, m1, m2, by unfold adX; rw [m3]; simp [e]⟩, h2, h3, q⟩
      · right
        exact ⟨ds2, q1, by simp only [List.length_cons]; omega, by show wt w ds2 ≤ w d + wt w ds; omega⟩
/-- the way from the last time that the cell is passed -/
theorem wk_last {X : Nat → Bool} (w : Nat → Nat) (n : Nat) : ∀ (L : Nat) (ds : List Nat), ds.length ≤ L → Wk V cN dN X ds (nI n) → n < 2 ^ 31 → ∃ d ds2, Wk V cN dN X (d :: ds2) (nI n) ∧ Wk V cN dN (adX X n) ds2 (ld V d (nI n)) ∧ w d + wt w ds2 ≤ wt w ds := by
  intro L
  induction L with
  | zero =>
    intro ds hl hk hn
    cases ds with
    | nil => exact absurd hk (nI_ge0 hn)
    | cons d ds => exact absurd hl (by simp)
  | succ L ih =>
    intro ds hl hk hn
    cases ds with
    | nil => exact absurd hk (nI_ge0 hn)
    | cons d ds =>
      have hk2 := hk
      obtain ⟨h1, h2, h3, h4⟩ := hk2
      rcases wk_split w n ds _ h4 with q | ⟨ds2, q1, q2, q3⟩
      · exact ⟨d, ds, hk, q, Nat.le_refl _⟩
      · obtain ⟨d2, ds3, r1, r2, r3⟩ := ih ds2 (by simp only [List.length_cons] at hl; omega) q1 hn
        exact ⟨d2, ds3, r1, r2, by show w d2 + wt w ds3 ≤ w d + wt w ds; omega⟩
theorem wk_mono {X Y : Nat → Bool} (h : ∀ i, Y i = true → X i = true) : ∀ (ds : List Nat) (c : Int32), Wk V cN dN X ds c → Wk V cN dN Y ds c := by
  intro ds
  induction ds with
  | nil => intro c q; exact q
  | cons d ds ih =>
    intro c q
    obtain ⟨⟨m, m1, m2, m3⟩, q2, q3, q4⟩ := q
    refine ⟨⟨m, m1, m2, ?_⟩, q2, q3, ih _ q4⟩
    cases hy : Y m with
    | false => rfl
    | true => rw [h m hy] at m3; cases m3
theorem wk_short (h8 : cN ≤ 8) (w : Nat → Nat) : ∀ (m : Nat) (X : Nat → Bool), cn (fun i => !(X i)) cN = m → ∀ (ds : List Nat) (n : Nat), Wk V cN dN X ds (nI n) → n < cN → ∃ ds2, Wk V cN dN X ds2 (nI n) ∧ ds2.length ≤ m ∧ wt w ds2 ≤ wt w ds := by
  intro m
  induction m with
  | zero =>
    intro X hX ds n hk hn
    exfalso
    obtain ⟨d, ds2, r1, -⟩ := wk_last w n ds.length ds (Nat.le_refl _) hk (by omega)
    obtain ⟨⟨n2, n3, n4, n5⟩, -⟩ := r1
    have e : n = n2 := (nI_eq (by omega) (by omega)).mp n4
    have q := cn_none_of hX n hn
    rw [e, n5] at q
    cases q
  | succ m ih =>
    intro X hX ds n hk hn
    obtain ⟨d, ds2, r1, r2, r3⟩ := wk_last w n ds.length ds (Nat.le_refl _) hk (by omega)
    obtain ⟨⟨n2, n3, n4, n5⟩, b2, b3, b4⟩ := r1
    have e : n = n2 := (nI_eq (by omega) (by omega)).mp n4
    rw [← e] at n5
    have hstep : cn (fun i => !(X i)) cN = cn (fun i => !(adX X n i)) cN + 1 := cn_step hn (by simp [adX]) (by simp [n5]) (fun i hi hne => by simp [adX, hne])
    cases hds : ds2 with
    | nil =>
      subst hds
      exact ⟨[d], ⟨⟨n, hn, rfl, n5⟩, b2, b3, r2⟩, by simp, r3⟩
    | cons d2 ds3 =>
      subst hds
      have r2b := r2
      obtain ⟨⟨c, c1, c2, c3⟩, -⟩ := r2b
      rw [c2] at r2
      obtain ⟨ds4, s1, s2, s3⟩ := ih (adX X n) (by omega) (d2 :: ds3) c r2 c1
      refine ⟨d :: ds4, ⟨⟨n, hn, rfl, n5⟩, b2, b3, ?_⟩, by simp only [List.length_cons]; omega, ?_⟩
      · rw [c2]
        exact wk_mono (fun i hi => by unfold adX; rw [hi]; rfl) ds4 _ s1
      · show w d + wt w ds4 ≤ wt w ds
        omega
/-! what holds all along -/
def SdW (V : VT) (cN dN : Nat) (w : Nat → Nat) (W : WT) : Prop := ∀ n, n < cN → ∀ x, W n = some x → (∃ ds, Wk V cN dN (fun _ => false) ds (nI n) ∧ wt w ds = x) ∧ ∃ d, d < dN ∧ ∃ y, ¬ ld V d (nI n) = -2 ∧ wo W (ld V d (nI n)) = some y ∧ w d + y ≤ x
theorem SdW.rl (hP : PL V cN dN mN gk) {w : Nat → Nat} {W : WT} (h : SdW V cN dN w W) {d : Nat} (hd : d < dN) {p q : Int32} (hp : Pl cN p) (hq : Pl cN q) (hl : ld V d p = q) (hl2 : ¬ q = -2) : SdW V cN dN w (rl (w d) p q W) := by
  have h8 := hP.1.2
  have hle := rl_le hp h8 (w d) q W
  rcases hp with rfl | ⟨n, n1, rfl⟩
  · rw [rl_out]; exact h
  · have keep : ∀ m, m < cN → ∀ x, W m = some x → (∃ ds, Wk V cN dN (fun _ => false) ds (nI m) ∧ wt w ds = x) ∧ ∃ d2, d2 < dN ∧ ∃ y, ¬ ld V d2 (nI m) = -2 ∧ wo (_root_.Jvm.Pilot.@@N@@.rl (w d) (nI n) q W) (ld V d2 (nI m)) = some y ∧ w d2 + y ≤ x := by
      intro m hm x hx
      obtain ⟨s1, d2, d3, y, y1, y2, y3⟩ := h m hm x hx
      obtain ⟨z, z1, z2⟩ := wo_le hle y2
      exact ⟨s1, d2, d3, z, y1, z2, by omega⟩
    rcases rl_cases (w d) (show n < 2 ^ 31 by omega) q W with ⟨e, -⟩ | ⟨y, hy, e, -⟩
    · intro m hm x hx
      rw [e] at hx
      exact keep m hm x hx
    · intro m hm x hx
      by_cases c : m = n
      · subst c
        rw [e, va_sm] at hx
        cases hx
        have walkq : ∃ ds, Wk V cN dN (fun _ => false) ds q ∧ wt w ds = y := by
          rcases hq with rfl | ⟨c, c1, rfl⟩
          · rw [wo_o] at hy
            cases hy
            exact ⟨[], rfl, rfl⟩
          · rw [wo_c _ (by omega)] at hy
            exact (h c c1 y hy).1
        obtain ⟨ds, w1, w2⟩ := walkq
        refine ⟨⟨d :: ds, ⟨⟨m, hm, rfl, rfl⟩, hd, by rw [hl]; exact hl2, by rw [hl]; exact w1⟩, by show w d + wt w ds = w d + y; omega⟩, ?_⟩
        obtain ⟨z, z1, z2⟩ := wo_le hle hy
        exact ⟨d, hd, z, by rw [hl]; exact hl2, by rw [hl]; exact z2, by omega⟩
      · rw [e, va_ne _ _ c] at hx
        exact keep m hm x hx
theorem pl_ne {p : Int32} (h8 : cN ≤ 8) (h : Pl cN p) : ¬ p = -2 := by
  rcases h with rfl | ⟨n, n1, rfl⟩
  · decide
  · intro e
    have h1 := congrArg Int32.toInt e
    rw [nI_toInt (by omega)] at h1
    have h2 : (-2 : Int32).toInt = -2 := rfl
    omega
theorem rdN_sd (hP : PL V cN dN mN gk) (hne : ∀ j, j < dN → ¬ V 10 j = V 11 j) (w : Nat → Nat) : ∀ i, SdW V cN dN w (rdN V w dN (fun _ => none) i) := by
  have dstep : ∀ (W : WT), SdW V cN dN w W → ∀ m, m ≤ dN → SdW V cN dN w (rdD V w W m) := by
    intro W hW m
    induction m with
    | zero => intro _; exact hW
    | succ m ih =>
      intro hm
      exact ((ih (by omega)).rl hP (show m < dN by omega) (hP.p10 (by omega)) (hP.p11 (by omega)) (ld_10 (Or.inr trivial)) (pl_ne hP.1.2 (hP.p11 (by omega)))).rl hP (show m < dN by omega) (hP.p11 (by omega)) (hP.p10 (by omega)) (ld_11 (hne m (by omega))) (pl_ne hP.1.2 (hP.p10 (by omega)))
  intro i
  induction i with
  | zero => intro n _ x hx; cases hx
  | succ i ih => exact dstep _ ih dN (Nat.le_refl _)
/-- the least weights: no door leads lower, and one leads as low -/
def Opt (V : VT) (cN dN : Nat) (w : Nat → Nat) (W : WT) : Prop := (∀ n, n < cN → ∀ d, d < dN → ¬ ld V d (nI n) = -2 → ∀ y, wo W (ld V d (nI n)) = some y → ∃ x, W n = some x ∧ x ≤ w d + y) ∧ ∀ n, n < cN → ∀ x, W n = some x → ∃ d, d < dN ∧ ¬ ld V d (nI n) = -2 ∧ ∃ y, wo W (ld V d (nI n)) = some y ∧ x = w d + y
theorem rdN_opt (hP : PL V cN dN mN gk) (hne : ∀ j, j < dN → ¬ V 10 j = V 11 j) (w : Nat → Nat) : Opt V cN dN w (rdN V w dN (fun _ => none) cN) := by
  have h8 := hP.1.2
  have sd := rdN_sd hP hne w cN
  have p1 : ∀ n, n < cN → ∀ d, d < dN → ¬ ld V d (nI n) = -2 → ∀ y, wo (rdN V w dN (fun _ => none) cN) (ld V d (nI n)) = some y → ∃ x, rdN V w dN (fun _ => none) cN n = some x ∧ x ≤ w d + y := by
    intro n hn d hd hl y hy
    have hq : Pl cN (ld V d (nI n)) := by
      rcases ld_cases hP hd (nI n) with e | e | e
      · exact absurd e hl
      · exact Or.inl e
      · exact Or.inr e
    have walkq : ∃ ds, Wk V cN dN (fun _ => false) ds (ld V d (nI n)) ∧ wt w ds = y := by
      rcases hq with e | ⟨c, c1, e⟩
      · rw [e] at hy ⊢
        rw [wo_o] at hy
        cases hy
        exact ⟨[], rfl, rfl⟩
      · rw [e] at hy ⊢
        rw [wo_c _ (by omega)] at hy
        exact (sd c c1 y hy).1
    obtain ⟨ds, w1, w2⟩ := walkq
    obtain ⟨ds2, s1, s2, s3⟩ := wk_short (V := V) (cN := cN) (dN := dN) h8 w cN (fun _ => false) (cn_all (fun _ _ => rfl)) (d :: ds) n ⟨⟨n, hn, rfl, rfl⟩, hd, hl, w1⟩ hn
    obtain ⟨x, x1, x2⟩ := complete hP w (fun _ => none) cN ds2 (nI n) s2 s1
    rw [wo_c _ (by omega)] at x2
    have s4 : wt w ds2 ≤ w d + wt w ds := s3
    exact ⟨x, x2, by omega⟩
  refine ⟨p1, fun n hn x hx => ?_⟩
  obtain ⟨-, d, hd, y, y1, y2, y3⟩ := sd n hn x hx
  obtain ⟨x2, x3, x4⟩ := p1 n hn d hd y1 y y2
  rw [hx] at x3
  cases x3
  exact ⟨d, hd, y1, y, y2, by omega⟩
end Ways
