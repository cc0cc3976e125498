/-! ===== a name is the same packed either way ===== -/
def nP (B : Nat) (f : Nat → Nat) : Nat → Nat
  | 0 => 0
  | j + 1 => nP B f j * B + f j
theorem nP_lt {B : Nat} {f : Nat → Nat} (hB : 27 ≤ B) {j : Nat} (h : ∀ i, i < j → f i ≤ 26) : nP B f j < B ^ j := by
  induction j with
  | zero => exact Nat.one_pos
  | succ j ih =>
    have h1 := ih (fun i hi => h i (by omega))
    have h2 := h j (by omega)
    show nP B f j * B + f j < B ^ j * B
    have h3 : (nP B f j + 1) * B ≤ B ^ j * B := Nat.mul_le_mul_right B h1
    rw [Nat.add_mul] at h3
    omega
theorem nP_inj {B : Nat} {f g : Nat → Nat} (hB : 27 ≤ B) : ∀ {j k : Nat}, (∀ i, i < j → 1 ≤ f i ∧ f i ≤ 26) → (∀ i, i < k → 1 ≤ g i ∧ g i ≤ 26) → nP B f j = nP B g k → j = k ∧ ∀ i, i < j → f i = g i
  | 0, 0, _, _, _ => ⟨rfl, fun i hi => absurd hi (by omega)⟩
  | 0, k + 1, _, hg, h => by
    have h1 := hg k (by omega)
    have h2 : 0 = nP B g k * B + g k := h
    omega
  | j + 1, 0, hf, _, h => by
    have h1 := hf j (by omega)
    have h2 : nP B f j * B + f j = 0 := h
    omega
  | j + 1, k + 1, hf, hg, h => by
    have h1 := hf j (by omega)
    have h2 := hg k (by omega)
    have h3 : nP B f j * B + f j = nP B g k * B + g k := h
    have h4 : f j = g k := by
      have a1 : (nP B f j * B + f j) % B = f j := by rw [Nat.mul_comm, Nat.mul_add_mod, Nat.mod_eq_of_lt (by omega)]
      have a2 : (nP B g k * B + g k) % B = g k := by rw [Nat.mul_comm, Nat.mul_add_mod, Nat.mod_eq_of_lt (by omega)]
      rw [← a1, ← a2, h3]
    have h5 : nP B f j = nP B g k := by
      have a1 : nP B f j * B = nP B g k * B := by omega
      exact Nat.eq_of_mul_eq_mul_right (by omega) a1
    obtain ⟨h6, h7⟩ := nP_inj hB (fun i hi => hf i (by omega)) (fun i hi => hg i (by omega)) h5
    refine ⟨by omega, fun i hi => ?_⟩
    by_cases e : i = j
    · rw [e, h4, h6]
    · exact h7 i (by omega)
theorem ofNat64_inj {x y : Nat} (hx : x < 2 ^ 62) (hy : y < 2 ^ 62) (h : Int64.ofNat x = Int64.ofNat y) : x = y := by
  have h1 := congrArg Int64.toInt h
  rw [Int64.toInt_ofNat_of_lt (by omega), Int64.toInt_ofNat_of_lt (by omega)] at h1
  omega
/-- one name: x by 27, y by 32 -/
def Wq (x y : Int64) : Prop := ∃ (f : Nat → Nat) (j : Nat), j ≤ 8 ∧ (∀ i, i < j → 1 ≤ f i ∧ f i ≤ 26) ∧ x = Int64.ofNat (nP 27 f j) ∧ y = Int64.ofNat (nP 32 f j)
theorem nP_bd {B : Nat} {f : Nat → Nat} (hB : 27 ≤ B) (hB2 : B ≤ 32) {j : Nat} (hj : j ≤ 8) (h : ∀ i, i < j → 1 ≤ f i ∧ f i ≤ 26) : nP B f j < 2 ^ 62 := by
  have h1 := nP_lt hB (j := j) (fun i hi => (h i hi).2)
  have h2 : B ^ j ≤ 32 ^ j := Nat.pow_le_pow_left hB2 j
  have h3 : 32 ^ j ≤ 32 ^ 8 := Nat.pow_le_pow_right (by decide) hj
  have h4 : 32 ^ 8 < 2 ^ 62 := by decide
  omega
theorem nP_cg {B : Nat} {f g : Nat → Nat} {j : Nat} (h : ∀ i, i < j → f i = g i) : nP B f j = nP B g j := by
  induction j with
  | zero => rfl
  | succ j ih =>
    show nP B f j * B + f j = nP B g j * B + g j
    rw [ih (fun i hi => h i (by omega)), h j (by omega)]
theorem Wq_iff {x y x2 y2 : Int64} (h : Wq x y) (h2 : Wq x2 y2) : x = x2 ↔ y = y2 := by
  obtain ⟨f, j, hj, hf, rfl, rfl⟩ := h
  obtain ⟨g, k, hk, hg, rfl, rfl⟩ := h2
  constructor
  · intro q
    obtain ⟨rfl, e⟩ := nP_inj (by decide) hf hg (ofNat64_inj (nP_bd (by decide) (by decide) hj hf) (nP_bd (by decide) (by decide) hk hg) q)
    rw [nP_cg e]
  · intro q
    obtain ⟨rfl, e⟩ := nP_inj (by decide) hf hg (ofNat64_inj (nP_bd (by decide) (by decide) hj hf) (nP_bd (by decide) (by decide) hk hg) q)
    rw [nP_cg e]
def wLt : List (List Nat) := [[23, 5, 1, 20, 8, 5, 18], [9, 3, 5], [13, 9, 12, 4], [3, 5, 12, 12], [19, 20, 15, 22, 5], [4, 15, 15, 18], [20, 15], [15, 21, 20], [20, 8, 9, 3, 11], [13, 1, 14], [9, 14], [19, 1, 12, 20], [23, 1, 9, 20, 19], [7, 21, 1, 18, 4], [14, 15, 20], [1, 14, 4], [15, 18], [8, 15, 21, 18], [4, 1, 25], [4, 5, 7, 18, 5, 5, 19], [2, 18, 5, 1, 20, 8], [23, 1, 20, 5, 18]]
def wNb : List Nat := [8983346868, 6647, 262768, 63030, 10502573, 90090, 555, 11522, 10792937, 9518, 257, 375050, 12249946, 4134649, 10631, 1111, 423, 168984, 2968, 1625504671, 38363444, 12257559]
theorem Wq_w {i : Nat} (hi : i < 22) : Wq (Int64.ofNat (wNb.getD i 0)) (Int64.ofNat (wNa.getD i 0)) := by
  have key : ∀ i, i < 22 → (wLt.getD i []).length ≤ 8 ∧ (∀ k, k < (wLt.getD i []).length → 1 ≤ (wLt.getD i []).getD k 0 ∧ (wLt.getD i []).getD k 0 ≤ 26) ∧ nP 27 (fun k => (wLt.getD i []).getD k 0) (wLt.getD i []).length = wNb.getD i 0 ∧ nP 32 (fun k => (wLt.getD i []).getD k 0) (wLt.getD i []).length = wNa.getD i 0 := by decide
  obtain ⟨h1, h2, h3, h4⟩ := key i hi
  exact ⟨_, _, h1, h2, by rw [h3], by rw [h4]⟩
theorem let_k {x : Int32} (h : Rg 97 122 x) : ∃ k : Nat, 1 ≤ k ∧ k ≤ 26 ∧ x = nI (96 + k) := by
  obtain ⟨k, h1, h2, h3⟩ := rngW (lo := 97) 122 (by decide) h (by decide)
  exact ⟨k - 96, by omega, by omega, by rw [h3, show 96 + (k - 96) = k by omega]⟩
theorem let_l {k : Nat} (h1 : 1 ≤ k) (h2 : k ≤ 26) : (nI (96 + k)).toInt64 = Int64.ofNat (96 + k) ∧ (nI (96 + k) - 97 + 1).toInt64 = Int64.ofNat k := by
  have key : ∀ k : Nat, k < 27 → 1 ≤ k → (nI (96 + k)).toInt64 = Int64.ofNat (96 + k) ∧ (nI (96 + k) - 97 + 1).toInt64 = Int64.ofNat k := by decide
  exact key k (by omega) h1
theorem Wq_t {T : ST} {b : Nat} : ∀ {j : Nat}, j ≤ 8 → (∀ i, b ≤ i → i < b + j → Rg 97 122 (T i)) → Wq (pkA T b j) (pkD T b j) := by
  intro j hj h
  have hch : ∀ i, ∃ k : Nat, i < j → (1 ≤ k ∧ k ≤ 26 ∧ T (b + i) = nI (96 + k)) := by
    intro i
    by_cases c : i < j
    · obtain ⟨k, hk⟩ := let_k (h (b + i) (by omega) (by omega))
      exact ⟨k, fun _ => hk⟩
    · exact ⟨0, fun q => absurd q c⟩
  obtain ⟨f, hf⟩ := Classical.axiomOfChoice hch
  refine ⟨f, j, hj, fun i hi => ⟨(hf i hi).1, (hf i hi).2.1⟩, ?_, ?_⟩
  · clear h
    induction j with
    | zero => rfl
    | succ j ih =>
      have h1 := ih (by omega) (fun i => ⟨f i, fun q => hf i (by omega)⟩) (fun i hi => hf i (by omega))
      obtain ⟨a1, a2, a3⟩ := hf j (by omega)
      show (if j < 8 then pkA T b j * 27 + (T (b + j)).toInt64 - 96 else pkA T b j) = Int64.ofNat (nP 27 f j * 27 + f j)
      rw [if_pos (by omega), h1, a3, (let_l a1 a2).1]
      show Int64.ofNat (nP 27 f j) * Int64.ofNat 27 + Int64.ofNat (96 + f j) - Int64.ofNat 96 = _
      rw [← Int64.ofNat_mul, Nat.add_comm 96, Int64.ofNat_add (f j), ← Int64.add_assoc, Int64.add_sub_cancel, ← Int64.ofNat_add]
  · clear h
    induction j with
    | zero => rfl
    | succ j ih =>
      have h1 := ih (by omega) (fun i => ⟨f i, fun q => hf i (by omega)⟩) (fun i hi => hf i (by omega))
      obtain ⟨a1, a2, a3⟩ := hf j (by omega)
      show pkD T b j * 32 + (T (b + j) - 97 + 1).toInt64 = Int64.ofNat (nP 32 f j * 32 + f j)
      rw [h1, a3, (let_l a1 a2).2]
      show Int64.ofNat (nP 32 f j) * Int64.ofNat 32 + Int64.ofNat (f j) = _
      rw [← Int64.ofNat_mul, ← Int64.ofNat_add]
theorem dg_k {x : Int32} (h : Rg 48 57 x) : ∃ k : Nat, k ≤ 9 ∧ x = nI (48 + k) := by
  obtain ⟨k, h1, h2, h3⟩ := rngW (lo := 48) 57 (by decide) h (by decide)
  exact ⟨k - 48, by omega, by rw [h3, show 48 + (k - 48) = k by omega]⟩
theorem dg_t {T : ST} {b : Nat} : ∀ {j : Nat}, j ≤ 4 → (∀ i, b ≤ i → i < b + j → Rg 48 57 (T i)) → dgB T b j = dgA T b j ∧ ∃ v : Nat, v < 10 ^ j ∧ dgA T b j = nI v := by
  intro j
  induction j with
  | zero => exact fun _ _ => ⟨rfl, 0, by decide, rfl⟩
  | succ j ih =>
    intro hj h
    obtain ⟨h1, v, hv, h2⟩ := ih (by omega) (fun i q1 q2 => h i q1 (by omega))
    obtain ⟨k, hk, h3⟩ := dg_k (h (b + j) (by omega) (by omega))
    have e1 : dgA T b (j + 1) = dgA T b j * 10 + T (b + j) - 48 := if_pos (by omega)
    have e2 : dgB T b (j + 1) = dgB T b j * 10 + (T (b + j) - 48) := rfl
    have e3 : nI (48 + k) - 48 = nI k := by
      rw [← nI_add, Int32.add_comm]
      exact Int32.add_sub_cancel _ _
    refine ⟨?_, v * 10 + k, ?_, ?_⟩
    · rw [e1, e2, h1, Int32.sub_eq_add_neg, Int32.sub_eq_add_neg, Int32.add_assoc]
    · rw [Nat.pow_succ]
      have := Nat.mul_le_mul_right 10 (show v + 1 ≤ 10 ^ j by omega)
      omega
    · rw [e1, h2, h3, Int32.sub_eq_add_neg, Int32.add_assoc, ← Int32.sub_eq_add_neg, e3]
      show Int32.ofNat v * Int32.ofNat 10 + nI k = _
      rw [← Int32.ofNat_mul]
      exact nI_add _ _

