/-! ===== the reference: moves, lays ===== -/
theorem cpR_d {V : VT} {o a b n k : Nat} (hx : a + n ≤ b ∨ b + n ≤ a) (hk : k < n) : up2 (cpR V o a o b k) o (b + k) (cpR V o a o b k o (a + k)) = cpR V o a o b (k + 1) := by
  funext o' i
  have e : cpR V o a o b k o (a + k) = V o (a + k) := by
    unfold cpR
    rw [if_neg (by omega)]
  rw [e]
  unfold up2 cpR
  by_cases c1 : o' = o ∧ i = b + k
  · rw [if_pos c1, if_pos ⟨c1.1, by omega, by omega⟩, show i - b = k by omega]
  · rw [if_neg c1]
    by_cases c2 : o' = o ∧ b ≤ i ∧ i < b + k
    · rw [if_pos c2, if_pos ⟨c2.1, c2.2.1, by omega⟩]
    · rw [if_neg c2, if_neg (fun q => c2 ⟨q.1, q.2.1, by have h9 : ¬ i = b + k := fun r => c1 ⟨q.1, r⟩; omega⟩)]
def mvF (V : VT) (o n p q : Nat) : VT := cpR V o (n * p) o (n * q) n
theorem mvF_o (V : VT) (o n p q : Nat) {o' : Nat} (h : o' ≠ o) : mvF V o n p q o' = V o' := cpR_o V o (n * p) o (n * q) n h
theorem mvF_in (V : VT) (o n p q : Nat) {i : Nat} (h : i < n) : mvF V o n p q o (n * q + i) = V o (n * p + i) := by
  unfold mvF cpR
  rw [if_pos ⟨rfl, by omega, by omega⟩]
  congr 1
  omega
theorem mvF_out (V : VT) (o n p q : Nat) {i : Nat} (h : i < n * q ∨ n * q + n ≤ i) : mvF V o n p q o i = V o i := by
  unfold mvF cpR
  rw [if_neg (by omega)]
section M13
variable {G : GG} {σ : Hp} {m : Nat} {V : VT} {U : UT}
set_option maxRecDepth 100000 in
theorem sm_moves {o N n p q : Nat} (ho : o < 42) (hK : zK σ (m + o) = 20) (hN : zN σ (m + o) = N) (hb : N < 2 ^ 31) (h1 : n * p + n ≤ N) (h2 : n * q + n ≤ N) (hx : n * p + n ≤ n * q ∨ n * q + n ≤ n * p) : Sp G mX10_moves 0 [.ref (m + o), .int (nI n), .int (nI p), .int (nI q)] (sv σ m V U) (fun rv σ' => rv = none ∧ σ' = sv σ m (mvF V o n p q) U) := by
  have D := dat dl_X10_moves
  have loop : ∀ r j : Nat, j ≤ n → n - j = r → HT G mX10_moves 3 [some (.ref (m + o)), some (.int (nI n)), some (.int (nI p)), some (.int (nI q)), some (.int (nI j))] [] (sv σ m (cpR V o (n * p) o (n * q) j) U) 0 (fun rv σ' => rv = none ∧ σ' = sv σ m (mvF V o n p q) U) := by
    intro r
    induction r using Nat.strongRecOn with
    | _ r ih =>
      intro j hj hr
      refine ht_iload (D 2 rfl) rfl ?_
      refine ht_iload_n (D 3 rfl) rfl rfl ?_
      refine ht_icmp_ge (tgt := 31) (D 4 rfl) (by decide) (fun hb6 => ?_) (fun hb6 => ?_)
      · skip
        have hjk : j = n := by have h3 := (nI_leI (a := n) (b := j) (by omega) (by omega)).mp hb6; omega
        subst hjk
        refine ht_vret (D 21 rfl) rfl ?_
        exact ⟨rfl, rfl⟩
      · skip
        have hjk : j < n := by have h3 := mt (nI_leI (a := n) (b := j) (by omega) (by omega)).mpr hb6; omega
        refine ht_aload_n (D 5 rfl) rfl rfl ?_
        refine ht_iload_n (D 6 rfl) rfl rfl ?_
        refine ht_iload_n (D 7 rfl) rfl rfl ?_
        refine ht_imul (D 8 rfl) ?_
        refine ht_iload (D 9 rfl) rfl ?_
        refine ht_iadd (D 10 rfl) ?_
        refine ht_aload_n (D 11 rfl) rfl rfl ?_
        refine ht_iload_n (D 12 rfl) rfl rfl ?_
        refine ht_iload_n (D 13 rfl) rfl rfl ?_
        refine ht_imul (D 14 rfl) ?_
        refine ht_iload (D 15 rfl) rfl ?_
        refine ht_iadd (D 16 rfl) ?_
        refine hm_ild (o := o) (n := n * p + j) ho (D 17 rfl) hK hN (by rw [pk_mul, nI_add]) (by omega) hb ?_
        refine hm_ist (o := o) (n := n * q + j) ho (D 18 rfl) hK hN (by rw [pk_mul, nI_add]) (by omega) hb ?_
        refine ht_iinc (v := nI (j + 1)) (D 19 rfl) rfl (nI_i1 _) (by decide) rfl ?_
        refine ht_goto (tgt := 3) (D 20 rfl) (by decide) ?_
        rw [cpR_d hx hjk]
        exact ih (n - (j + 1)) (by omega) (j + 1) (by omega) rfl
  show HT G mX10_moves 0 [some (.ref (m + o)), some (.int (nI n)), some (.int (nI p)), some (.int (nI q)), none] [] (sv σ m V U) 0 _
  refine ht_iconst (v := 0) (D 0 rfl) (by decide) ?_
  refine ht_istore (D 1 rfl) (by decide) rfl ?_
  have h0 := loop n 0 (by omega) (by omega)
  rw [cpR_0] at h0
  exact h0
def lyA (V : VT) (p q : Nat) : VT := mvF (mvF (mvF (mvF (mvF (mvF (mvF (mvF (mvF (mvF (mvF (mvF (mvF (mvF (mvF V 2 1 p q) 3 1 p q) 4 1 p q) 5 1 p q) 6 1 p q) 9 8 p q) 10 10 p q) 11 10 p q) 12 10 p q) 13 6 p q) 14 6 p q) 15 6 p q) 16 2 p q) 17 16 p q) 20 1000 p q
def rwl (o : Nat) : Nat := match o with
  | 2 => 1
  | 3 => 1
  | 4 => 1
  | 5 => 1
  | 6 => 1
  | 9 => 8
  | 10 => 10
  | 11 => 10
  | 12 => 10
  | 13 => 6
  | 14 => 6
  | 15 => 6
  | 16 => 2
  | 17 => 16
  | 20 => 1000
  | _ => 0
theorem lyA_in (V : VT) (p q : Nat) {o i : Nat} (h : i < rwl o) : lyA V p q o (rwl o * q + i) = V o (rwl o * p + i) := by
  unfold lyA
  match o, h with
  | 2, h =>
    show _ = V 2 (1 * p + i)
    show mvF (mvF (mvF (mvF (mvF (mvF (mvF (mvF (mvF (mvF (mvF (mvF (mvF (mvF (mvF V 2 1 p q) 3 1 p q) 4 1 p q) 5 1 p q) 6 1 p q) 9 8 p q) 10 10 p q) 11 10 p q) 12 10 p q) 13 6 p q) 14 6 p q) 15 6 p q) 16 2 p q) 17 16 p q) 20 1000 p q 2 (1 * q + i) = _
    rw [mvF_o _ 20 1000 p q (by decide), mvF_o _ 17 16 p q (by decide), mvF_o _ 16 2 p q (by decide), mvF_o _ 15 6 p q (by decide), mvF_o _ 14 6 p q (by decide), mvF_o _ 13 6 p q (by decide), mvF_o _ 12 10 p q (by decide), mvF_o _ 11 10 p q (by decide), mvF_o _ 10 10 p q (by decide), mvF_o _ 9 8 p q (by decide), mvF_o _ 6 1 p q (by decide), mvF_o _ 5 1 p q (by decide), mvF_o _ 4 1 p q (by decide), mvF_o _ 3 1 p q (by decide), mvF_in _ 2 1 p q h]
  | 3, h =>
    show _ = V 3 (1 * p + i)
    show mvF (mvF (mvF (mvF (mvF (mvF (mvF (mvF (mvF (mvF (mvF (mvF (mvF (mvF (mvF V 2 1 p q) 3 1 p q) 4 1 p q) 5 1 p q) 6 1 p q) 9 8 p q) 10 10 p q) 11 10 p q) 12 10 p q) 13 6 p q) 14 6 p q) 15 6 p q) 16 2 p q) 17 16 p q) 20 1000 p q 3 (1 * q + i) = _
    rw [mvF_o _ 20 1000 p q (by decide), mvF_o _ 17 16 p q (by decide), mvF_o _ 16 2 p q (by decide), mvF_o _ 15 6 p q (by decide), mvF_o _ 14 6 p q (by decide), mvF_o _ 13 6 p q (by decide), mvF_o _ 12 10 p q (by decide), mvF_o _ 11 10 p q (by decide), mvF_o _ 10 10 p q (by decide), mvF_o _ 9 8 p q (by decide), mvF_o _ 6 1 p q (by decide), mvF_o _ 5 1 p q (by decide), mvF_o _ 4 1 p q (by decide), mvF_in _ 3 1 p q h, mvF_o _ 2 1 p q (by decide)]
  | 4, h =>
    show _ = V 4 (1 * p + i)
    show mvF (mvF (mvF (mvF (mvF (mvF (mvF (mvF (mvF (mvF (mvF (mvF (mvF (mvF (mvF V 2 1 p q) 3 1 p q) 4 1 p q) 5 1 p q) 6 1 p q) 9 8 p q) 10 10 p q) 11 10 p q) 12 10 p q) 13 6 p q) 14 6 p q) 15 6 p q) 16 2 p q) 17 16 p q) 20 1000 p q 4 (1 * q + i) = _
    rw [mvF_o _ 20 1000 p q (by decide), mvF_o _ 17 16 p q (by decide), mvF_o _ 16 2 p q (by decide), mvF_o _ 15 6 p q (by decide), mvF_o _ 14 6 p q (by decide), mvF_o _ 13 6 p q (by decide), mvF_o _ 12 10 p q (by decide), mvF_o _ 11 10 p q (by decide), mvF_o _ 10 10 p q (by decide), mvF_o _ 9 8 p q (by decide), mvF_o _ 6 1 p q (by decide), mvF_o _ 5 1 p q (by decide), mvF_in _ 4 1 p q h, mvF_o _ 3 1 p q (by decide), mvF_o _ 2 1 p q (by decide)]
  | 5, h =>
    show _ = V 5 (1 * p + i)
    show mvF (mvF (mvF (mvF (mvF (mvF (mvF (mvF (mvF (mvF (mvF (mvF (mvF (mvF (mvF V 2 1 p q) 3 1 p q) 4 1 p q) 5 1 p q) 6 1 p q) 9 8 p q) 10 10 p q) 11 10 p q) 12 10 p q) 13 6 p q) 14 6 p q) 15 6 p q) 16 2 p q) 17 16 p q) 20 1000 p q 5 (1 * q + i) = _
    rw [mvF_o _ 20 1000 p q (by decide), mvF_o _ 17 16 p q (by decide), mvF_o _ 16 2 p q (by decide), mvF_o _ 15 6 p q (by decide), mvF_o _ 14 6 p q (by decide), mvF_o _ 13 6 p q (by decide), mvF_o _ 12 10 p q (by decide), mvF_o _ 11 10 p q (by decide), mvF_o _ 10 10 p q (by decide), mvF_o _ 9 8 p q (by decide), mvF_o _ 6 1 p q (by decide), mvF_in _ 5 1 p q h, mvF_o _ 4 1 p q (by decide), mvF_o _ 3 1 p q (by decide), mvF_o _ 2 1 p q (by decide)]
  | 6, h =>
    show _ = V 6 (1 * p + i)
    show mvF (mvF (mvF (mvF (mvF (mvF (mvF (mvF (mvF (mvF (mvF (mvF (mvF (mvF (mvF V 2 1 p q) 3 1 p q) 4 1 p q) 5 1 p q) 6 1 p q) 9 8 p q) 10 10 p q) 11 10 p q) 12 10 p q) 13 6 p q) 14 6 p q) 15 6 p q) 16 2 p q) 17 16 p q) 20 1000 p q 6 (1 * q + i) = _
    rw [mvF_o _ 20 1000 p q (by decide), mvF_o _ 17 16 p q (by decide), mvF_o _ 16 2 p q (by decide), mvF_o _ 15 6 p q (by decide), mvF_o _ 14 6 p q (by decide), mvF_o _ 13 6 p q (by decide), mvF_o _ 12 10 p q (by decide), mvF_o _ 11 10 p q (by decide), mvF_o _ 10 10 p q (by decide), mvF_o _ 9 8 p q (by decide), mvF_in _ 6 1 p q h, mvF_o _ 5 1 p q (by decide), mvF_o _ 4 1 p q (by decide), mvF_o _ 3 1 p q (by decide), mvF_o _ 2 1 p q (by decide)]
  | 9, h =>
    show _ = V 9 (8 * p + i)
    show mvF (mvF (mvF (mvF (mvF (mvF (mvF (mvF (mvF (mvF (mvF (mvF (mvF (mvF (mvF V 2 1 p q) 3 1 p q) 4 1 p q) 5 1 p q) 6 1 p q) 9 8 p q) 10 10 p q) 11 10 p q) 12 10 p q) 13 6 p q) 14 6 p q) 15 6 p q) 16 2 p q) 17 16 p q) 20 1000 p q 9 (8 * q + i) = _
    rw [mvF_o _ 20 1000 p q (by decide), mvF_o _ 17 16 p q (by decide), mvF_o _ 16 2 p q (by decide), mvF_o _ 15 6 p q (by decide), mvF_o _ 14 6 p q (by decide), mvF_o _ 13 6 p q (by decide), mvF_o _ 12 10 p q (by decide), mvF_o _ 11 10 p q (by decide), mvF_o _ 10 10 p q (by decide), mvF_in _ 9 8 p q h, mvF_o _ 6 1 p q (by decide), mvF_o _ 5 1 p q (by decide), mvF_o _ 4 1 p q (by decide), mvF_o _ 3 1 p q (by decide), mvF_o _ 2 1 p q (by decide)]
  | 10, h =>
    show _ = V 10 (10 * p + i)
    show mvF (mvF (mvF (mvF (mvF (mvF (mvF (mvF (mvF (mvF (mvF (mvF (mvF (mvF (mvF V 2 1 p q) 3 1 p q) 4 1 p q) 5 1 p q) 6 1 p q) 9 8 p q) 10 10 p q) 11 10 p q) 12 10 p q) 13 6 p q) 14 6 p q) 15 6 p q) 16 2 p q) 17 16 p q) 20 1000 p q 10 (10 * q + i) = _
    rw [mvF_o _ 20 1000 p q (by decide), mvF_o _ 17 16 p q (by decide), mvF_o _ 16 2 p q (by decide), mvF_o _ 15 6 p q (by decide), mvF_o _ 14 6 p q (by decide), mvF_o _ 13 6 p q (by decide), mvF_o _ 12 10 p q (by decide), mvF_o _ 11 10 p q (by decide), mvF_in _ 10 10 p q h, mvF_o _ 9 8 p q (by decide), mvF_o _ 6 1 p q (by decide), mvF_o _ 5 1 p q (by decide), mvF_o _ 4 1 p q (by decide), mvF_o _ 3 1 p q (by decide), mvF_o _ 2 1 p q (by decide)]
  | 11, h =>
    show _ = V 11 (10 * p + i)
    show mvF (mvF (mvF (mvF (mvF (mvF (mvF (mvF (mvF (mvF (mvF (mvF (mvF (mvF (mvF V 2 1 p q) 3 1 p q) 4 1 p q) 5 1 p q) 6 1 p q) 9 8 p q) 10 10 p q) 11 10 p q) 12 10 p q) 13 6 p q) 14 6 p q) 15 6 p q) 16 2 p q) 17 16 p q) 20 1000 p q 11 (10 * q + i) = _
    rw [mvF_o _ 20 1000 p q (by decide), mvF_o _ 17 16 p q (by decide), mvF_o _ 16 2 p q (by decide), mvF_o _ 15 6 p q (by decide), mvF_o _ 14 6 p q (by decide), mvF_o _ 13 6 p q (by decide), mvF_o _ 12 10 p q (by decide), mvF_in _ 11 10 p q h, mvF_o _ 10 10 p q (by decide), mvF_o _ 9 8 p q (by decide), mvF_o _ 6 1 p q (by decide), mvF_o _ 5 1 p q (by decide), mvF_o _ 4 1 p q (by decide), mvF_o _ 3 1 p q (by decide), mvF_o _ 2 1 p q (by decide)]
  | 12, h =>
    show _ = V 12 (10 * p + i)
    show mvF (mvF (mvF (mvF (mvF (mvF (mvF (mvF (mvF (mvF (mvF (mvF (mvF (mvF (mvF V 2 1 p q) 3 1 p q) 4 1 p q) 5 1 p q) 6 1 p q) 9 8 p q) 10 10 p q) 11 10 p q) 12 10 p q) 13 6 p q) 14 6 p q) 15 6 p q) 16 2 p q) 17 16 p q) 20 1000 p q 12 (10 * q + i) = _
    rw [mvF_o _ 20 1000 p q (by decide), mvF_o _ 17 16 p q (by decide), mvF_o _ 16 2 p q (by decide), mvF_o _ 15 6 p q (by decide), mvF_o _ 14 6 p q (by decide), mvF_o _ 13 6 p q (by decide), mvF_in _ 12 10 p q h, mvF_o _ 11 10 p q (by decide), mvF_o _ 10 10 p q (by decide), mvF_o _ 9 8 p q (by decide), mvF_o _ 6 1 p q (by decide), mvF_o _ 5 1 p q (by decide), mvF_o _ 4 1 p q (by decide), mvF_o _ 3 1 p q (by decide), mvF_o _ 2 1 p q (by decide)]
  | 13, h =>
    show _ = V 13 (6 * p + i)
    show mvF (mvF (mvF (mvF (mvF (mvF (mvF (mvF (mvF (mvF (mvF (mvF (mvF (mvF (mvF V 2 1 p q) 3 1 p q) 4 1 p q) 5 1 p q) 6 1 p q) 9 8 p q) 10 10 p q) 11 10 p q) 12 10 p q) 13 6 p q) 14 6 p q) 15 6 p q) 16 2 p q) 17 16 p q) 20 1000 p q 13 (6 * q + i) = _
    rw [mvF_o _ 20 1000 p q (by decide), mvF_o _ 17 16 p q (by decide), mvF_o _ 16 2 p q (by decide), mvF_o _ 15 6 p q (by decide), mvF_o _ 14 6 p q (by decide), mvF_in _ 13 6 p q h, mvF_o _ 12 10 p q (by decide), mvF_o _ 11 10 p q (by decide), mvF_o _ 10 10 p q (by decide), mvF_o _ 9 8 p q (by decide), mvF_o _ 6 1 p q (by decide), mvF_o _ 5 1 p q (by decide), mvF_o _ 4 1 p q (by decide), mvF_o _ 3 1 p q (by decide), mvF_o _ 2 1 p q (by decide)]
  | 14, h =>
    show _ = V 14 (6 * p + i)
    show mvF (mvF (mvF (mvF (mvF (mvF (mvF (mvF (mvF (mvF (mvF (mvF (mvF (mvF (mvF V 2 1 p q) 3 1 p q) 4 1 p q) 5 1 p q) 6 1 p q) 9 8 p q) 10 10 p q) 11 10 p q) 12 10 p q) 13 6 p q) 14 6 p q) 15 6 p q) 16 2 p q) 17 16 p q) 20 1000 p q 14 (6 * q + i) = _
    rw [mvF_o _ 20 1000 p q (by decide), mvF_o _ 17 16 p q (by decide), mvF_o _ 16 2 p q (by decide), mvF_o _ 15 6 p q (by decide), mvF_in _ 14 6 p q h, mvF_o _ 13 6 p q (by decide), mvF_o _ 12 10 p q (by decide), mvF_o _ 11 10 p q (by decide), mvF_o _ 10 10 p q (by decide), mvF_o _ 9 8 p q (by decide), mvF_o _ 6 1 p q (by decide), mvF_o _ 5 1 p q (by decide), mvF_o _ 4 1 p q (by decide), mvF_o _ 3 1 p q (by decide), mvF_o _ 2 1 p q (by decide)]
  | 15, h =>
    show _ = V 15 (6 * p + i)
    show mvF (mvF (mvF (mvF (mvF (mvF (mvF (mvF (mvF (mvF (mvF (mvF (mvF (mvF (mvF V 2 1 p q) 3 1 p q) 4 1 p q) 5 1 p q) 6 1 p q) 9 8 p q) 10 10 p q) 11 10 p q) 12 10 p q) 13 6 p q) 14 6 p q) 15 6 p q) 16 2 p q) 17 16 p q) 20 1000 p q 15 (6 * q + i) = _
    rw [mvF_o _ 20 1000 p q (by decide), mvF_o _ 17 16 p q (by decide), mvF_o _ 16 2 p q (by decide), mvF_in _ 15 6 p q h, mvF_o _ 14 6 p q (by decide), mvF_o _ 13 6 p q (by decide), mvF_o _ 12 10 p q (by decide), mvF_o _ 11 10 p q (by decide), mvF_o _ 10 10 p q (by decide), mvF_o _ 9 8 p q (by decide), mvF_o _ 6 1 p q (by decide), mvF_o _ 5 1 p q (by decide), mvF_o _ 4 1 p q (by decide), mvF_o _ 3 1 p q (by decide), mvF_o _ 2 1 p q (by decide)]
  | 16, h =>
    show _ = V 16 (2 * p + i)
    show mvF (mvF (mvF (mvF (mvF (mvF (mvF (mvF (mvF (mvF (mvF (mvF (mvF (mvF (mvF V 2 1 p q) 3 1 p q) 4 1 p q) 5 1 p q) 6 1 p q) 9 8 p q) 10 10 p q) 11 10 p q) 12 10 p q) 13 6 p q) 14 6 p q) 15 6 p q) 16 2 p q) 17 16 p q) 20 1000 p q 16 (2 * q + i) = _
    rw [mvF_o _ 20 1000 p q (by decide), mvF_o _ 17 16 p q (by decide), mvF_in _ 16 2 p q h, mvF_o _ 15 6 p q (by decide), mvF_o _ 14 6 p q (by decide), mvF_o _ 13 6 p q (by decide), mvF_o _ 12 10 p q (by decide), mvF_o _ 11 10 p q (by decide), mvF_o _ 10 10 p q (by decide), mvF_o _ 9 8 p q (by decide), mvF_o _ 6 1 p q (by decide), mvF_o _ 5 1 p q (by decide), mvF_o _ 4 1 p q (by decide), mvF_o _ 3 1 p q (by decide), mvF_o _ 2 1 p q (by decide)]
  | 17, h =>
    show _ = V 17 (16 * p + i)
    show mvF (mvF (mvF (mvF (mvF (mvF (mvF (mvF (mvF (mvF (mvF (mvF (mvF (mvF (mvF V 2 1 p q) 3 1 p q) 4 1 p q) 5 1 p q) 6 1 p q) 9 8 p q) 10 10 p q) 11 10 p q) 12 10 p q) 13 6 p q) 14 6 p q) 15 6 p q) 16 2 p q) 17 16 p q) 20 1000 p q 17 (16 * q + i) = _
    rw [mvF_o _ 20 1000 p q (by decide), mvF_in _ 17 16 p q h, mvF_o _ 16 2 p q (by decide), mvF_o _ 15 6 p q (by decide), mvF_o _ 14 6 p q (by decide), mvF_o _ 13 6 p q (by decide), mvF_o _ 12 10 p q (by decide), mvF_o _ 11 10 p q (by decide), mvF_o _ 10 10 p q (by decide), mvF_o _ 9 8 p q (by decide), mvF_o _ 6 1 p q (by decide), mvF_o _ 5 1 p q (by decide), mvF_o _ 4 1 p q (by decide), mvF_o _ 3 1 p q (by decide), mvF_o _ 2 1 p q (by decide)]
  | 20, h =>
    show _ = V 20 (1000 * p + i)
    show mvF (mvF (mvF (mvF (mvF (mvF (mvF (mvF (mvF (mvF (mvF (mvF (mvF (mvF (mvF V 2 1 p q) 3 1 p q) 4 1 p q) 5 1 p q) 6 1 p q) 9 8 p q) 10 10 p q) 11 10 p q) 12 10 p q) 13 6 p q) 14 6 p q) 15 6 p q) 16 2 p q) 17 16 p q) 20 1000 p q 20 (1000 * q + i) = _
    rw [mvF_in _ 20 1000 p q h, mvF_o _ 17 16 p q (by decide), mvF_o _ 16 2 p q (by decide), mvF_o _ 15 6 p q (by decide), mvF_o _ 14 6 p q (by decide), mvF_o _ 13 6 p q (by decide), mvF_o _ 12 10 p q (by decide), mvF_o _ 11 10 p q (by decide), mvF_o _ 10 10 p q (by decide), mvF_o _ 9 8 p q (by decide), mvF_o _ 6 1 p q (by decide), mvF_o _ 5 1 p q (by decide), mvF_o _ 4 1 p q (by decide), mvF_o _ 3 1 p q (by decide), mvF_o _ 2 1 p q (by decide)]
theorem lyA_out (V : VT) (p q : Nat) {o i : Nat} (h : i < rwl o * q ∨ rwl o * q + rwl o ≤ i) : lyA V p q o i = V o i := by
  by_cases hm : o = 2 ∨ o = 3 ∨ o = 4 ∨ o = 5 ∨ o = 6 ∨ o = 9 ∨ o = 10 ∨ o = 11 ∨ o = 12 ∨ o = 13 ∨ o = 14 ∨ o = 15 ∨ o = 16 ∨ o = 17 ∨ o = 20
  · rcases hm with rfl | rfl | rfl | rfl | rfl | rfl | rfl | rfl | rfl | rfl | rfl | rfl | rfl | rfl | rfl
    · exact (show mvF (mvF (mvF (mvF (mvF (mvF (mvF (mvF (mvF (mvF (mvF (mvF (mvF (mvF (mvF V 2 1 p q) 3 1 p q) 4 1 p q) 5 1 p q) 6 1 p q) 9 8 p q) 10 10 p q) 11 10 p q) 12 10 p q) 13 6 p q) 14 6 p q) 15 6 p q) 16 2 p q) 17 16 p q) 20 1000 p q 2 i = V 2 i by rw [mvF_o _ 20 1000 p q (by decide), mvF_o _ 17 16 p q (by decide), mvF_o _ 16 2 p q (by decide), mvF_o _ 15 6 p q (by decide), mvF_o _ 14 6 p q (by decide), mvF_o _ 13 6 p q (by decide), mvF_o _ 12 10 p q (by decide), mvF_o _ 11 10 p q (by decide), mvF_o _ 10 10 p q (by decide), mvF_o _ 9 8 p q (by decide), mvF_o _ 6 1 p q (by decide), mvF_o _ 5 1 p q (by decide), mvF_o _ 4 1 p q (by decide), mvF_o _ 3 1 p q (by decide), mvF_out _ 2 1 p q h])
    · exact (show mvF (mvF (mvF (mvF (mvF (mvF (mvF (mvF (mvF (mvF (mvF (mvF (mvF (mvF (mvF V 2 1 p q) 3 1 p q) 4 1 p q) 5 1 p q) 6 1 p q) 9 8 p q) 10 10 p q) 11 10 p q) 12 10 p q) 13 6 p q) 14 6 p q) 15 6 p q) 16 2 p q) 17 16 p q) 20 1000 p q 3 i = V 3 i by rw [mvF_o _ 20 1000 p q (by decide), mvF_o _ 17 16 p q (by decide), mvF_o _ 16 2 p q (by decide), mvF_o _ 15 6 p q (by decide), mvF_o _ 14 6 p q (by decide), mvF_o _ 13 6 p q (by decide), mvF_o _ 12 10 p q (by decide), mvF_o _ 11 10 p q (by decide), mvF_o _ 10 10 p q (by decide), mvF_o _ 9 8 p q (by decide), mvF_o _ 6 1 p q (by decide), mvF_o _ 5 1 p q (by decide), mvF_o _ 4 1 p q (by decide), mvF_out _ 3 1 p q h, mvF_o _ 2 1 p q (by decide)])
    · exact (show mvF (mvF (mvF (mvF (mvF (mvF (mvF (mvF (mvF (mvF (mvF (mvF (mvF (mvF (mvF V 2 1 p q) 3 1 p q) 4 1 p q) 5 1 p q) 6 1 p q) 9 8 p q) 10 10 p q) 11 10 p q) 12 10 p q) 13 6 p q) 14 6 p q) 15 6 p q) 16 2 p q) 17 16 p q) 20 1000 p q 4 i = V 4 i by rw [mvF_o _ 20 1000 p q (by decide), mvF_o _ 17 16 p q (by decide), mvF_o _ 16 2 p q (by decide), mvF_o _ 15 6 p q (by decide), mvF_o _ 14 6 p q (by decide), mvF_o _ 13 6 p q (by decide), mvF_o _ 12 10 p q (by decide), mvF_o _ 11 10 p q (by decide), mvF_o _ 10 10 p q (by decide), mvF_o _ 9 8 p q (by decide), mvF_o _ 6 1 p q (by decide), mvF_o _ 5 1 p q (by decide), mvF_out _ 4 1 p q h, mvF_o _ 3 1 p q (by decide), mvF_o _ 2 1 p q (by decide)])
    · exact (show mvF (mvF (mvF (mvF (mvF (mvF (mvF (mvF (mvF (mvF (mvF (mvF (mvF (mvF (mvF V 2 1 p q) 3 1 p q) 4 1 p q) 5 1 p q) 6 1 p q) 9 8 p q) 10 10 p q) 11 10 p q) 12 10 p q) 13 6 p q) 14 6 p q) 15 6 p q) 16 2 p q) 17 16 p q) 20 1000 p q 5 i = V 5 i by rw [mvF_o _ 20 1000 p q (by decide), mvF_o _ 17 16 p q (by decide), mvF_o _ 16 2 p q (by decide), mvF_o _ 15 6 p q (by decide), mvF_o _ 14 6 p q (by decide), mvF_o _ 13 6 p q (by decide), mvF_o _ 12 10 p q (by decide), mvF_o _ 11 10 p q (by decide), mvF_o _ 10 10 p q (by decide), mvF_o _ 9 8 p q (by decide), mvF_o _ 6 1 p q (by decide), mvF_out _ 5 1 p q h, mvF_o _ 4 1 p q (by decide), mvF_o _ 3 1 p q (by decide), mvF_o _ 2 1 p q (by decide)])
    · exact (show mvF (mvF (mvF (mvF (mvF (mvF (mvF (mvF (mvF (mvF (mvF (mvF (mvF (mvF (mvF V 2 1 p q) 3 1 p q) 4 1 p q) 5 1 p q) 6 1 p q) 9 8 p q) 10 10 p q) 11 10 p q) 12 10 p q) 13 6 p q) 14 6 p q) 15 6 p q) 16 2 p q) 17 16 p q) 20 1000 p q 6 i = V 6 i by rw [mvF_o _ 20 1000 p q (by decide), mvF_o _ 17 16 p q (by decide), mvF_o _ 16 2 p q (by decide), mvF_o _ 15 6 p q (by decide), mvF_o _ 14 6 p q (by decide), mvF_o _ 13 6 p q (by decide), mvF_o _ 12 10 p q (by decide), mvF_o _ 11 10 p q (by decide), mvF_o _ 10 10 p q (by decide), mvF_o _ 9 8 p q (by decide), mvF_out _ 6 1 p q h, mvF_o _ 5 1 p q (by decide), mvF_o _ 4 1 p q (by decide), mvF_o _ 3 1 p q (by decide), mvF_o _ 2 1 p q (by decide)])
    · exact (show mvF (mvF (mvF (mvF (mvF (mvF (mvF (mvF (mvF (mvF (mvF (mvF (mvF (mvF (mvF V 2 1 p q) 3 1 p q) 4 1 p q) 5 1 p q) 6 1 p q) 9 8 p q) 10 10 p q) 11 10 p q) 12 10 p q) 13 6 p q) 14 6 p q) 15 6 p q) 16 2 p q) 17 16 p q) 20 1000 p q 9 i = V 9 i by rw [mvF_o _ 20 1000 p q (by decide), mvF_o _ 17 16 p q (by decide), mvF_o _ 16 2 p q (by decide), mvF_o _ 15 6 p q (by decide), mvF_o _ 14 6 p q (by decide), mvF_o _ 13 6 p q (by decide), mvF_o _ 12 10 p q (by decide), mvF_o _ 11 10 p q (by decide), mvF_o _ 10 10 p q (by decide), mvF_out _ 9 8 p q h, mvF_o _ 6 1 p q (by decide), mvF_o _ 5 1 p q (by decide), mvF_o _ 4 1 p q (by decide), mvF_o _ 3 1 p q (by decide), mvF_o _ 2 1 p q (by decide)])
    · exact (show mvF (mvF (mvF (mvF (mvF (mvF (mvF (mvF (mvF (mvF (mvF (mvF (mvF (mvF (mvF V 2 1 p q) 3 1 p q) 4 1 p q) 5 1 p q) 6 1 p q) 9 8 p q) 10 10 p q) 11 10 p q) 12 10 p q) 13 6 p q) 14 6 p q) 15 6 p q) 16 2 p q) 17 16 p q) 20 1000 p q 10 i = V 10 i by rw [mvF_o _ 20 1000 p q (by decide), mvF_o _ 17 16 p q (by decide), mvF_o _ 16 2 p q (by decide), mvF_o _ 15 6 p q (by decide), mvF_o _ 14 6 p q (by decide), mvF_o _ 13 6 p q (by decide), mvF_o _ 12 10 p q (by decide), mvF_o _ 11 10 p q (by decide), mvF_out _ 10 10 p q h, mvF_o _ 9 8 p q (by decide), mvF_o _ 6 1 p q (by decide), mvF_o _ 5 1 p q (by decide), mvF_o _ 4 1 p q (by decide), mvF_o _ 3 1 p q (by decide), mvF_o _ 2 1 p q (by decide)])
    · exact (show mvF (mvF (mvF (mvF (mvF (mvF (mvF (mvF (mvF (mvF (mvF (mvF (mvF (mvF (mvF V 2 1 p q) 3 1 p q) 4 1 p q) 5 1 p q) 6 1 p q) 9 8 p q) 10 10 p q) 11 10 p q) 12 10 p q) 13 6 p q) 14 6 p q) 15 6 p q) 16 2 p q) 17 16 p q) 20 1000 p q 11 i = V 11 i by rw [mvF_o _ 20 1000 p q (by decide), mvF_o _ 17 16 p q (by decide), mvF_o _ 16 2 p q (by decide), mvF_o _ 15 6 p q (by decide), mvF_o _ 14 6 p q (by decide), mvF_o _ 13 6 p q (by decide), mvF_o _ 12 10 p q (by decide), mvF_out _ 11 10 p q h, mvF_o _ 10 10 p q (by decide), mvF_o _ 9 8 p q (by decide), mvF_o _ 6 1 p q (by decide), mvF_o _ 5 1 p q (by decide), mvF_o _ 4 1 p q (by decide), mvF_o _ 3 1 p q (by decide), mvF_o _ 2 1 p q (by decide)])
    · exact (show mvF (mvF (mvF (mvF (mvF (mvF (mvF (mvF (mvF (mvF (mvF (mvF (mvF (mvF (mvF V 2 1 p q) 3 1 p q) 4 1 p q) 5 1 p q) 6 1 p q) 9 8 p q) 10 10 p q) 11 10 p q) 12 10 p q) 13 6 p q) 14 6 p q) 15 6 p q) 16 2 p q) 17 16 p q) 20 1000 p q 12 i = V 12 i by rw [mvF_o _ 20 1000 p q (by decide), mvF_o _ 17 16 p q (by decide), mvF_o _ 16 2 p q (by decide), mvF_o _ 15 6 p q (by decide), mvF_o _ 14 6 p q (by decide), mvF_o _ 13 6 p q (by decide), mvF_out _ 12 10 p q h, mvF_o _ 11 10 p q (by decide), mvF_o _ 10 10 p q (by decide), mvF_o _ 9 8 p q (by decide), mvF_o _ 6 1 p q (by decide), mvF_o _ 5 1 p q (by decide), mvF_o _ 4 1 p q (by decide), mvF_o _ 3 1 p q (by decide), mvF_o _ 2 1 p q (by decide)])
    · exact (show mvF (mvF (mvF (mvF (mvF (mvF (mvF (mvF (mvF (mvF (mvF (mvF (mvF (mvF (mvF V 2 1 p q) 3 1 p q) 4 1 p q) 5 1 p q) 6 1 p q) 9 8 p q) 10 10 p q) 11 10 p q) 12 10 p q) 13 6 p q) 14 6 p q) 15 6 p q) 16 2 p q) 17 16 p q) 20 1000 p q 13 i = V 13 i by rw [mvF_o _ 20 1000 p q (by decide), mvF_o _ 17 16 p q (by decide), mvF_o _ 16 2 p q (by decide), mvF_o _ 15 6 p q (by decide), mvF_o _ 14 6 p q (by decide), mvF_out _ 13 6 p q h, mvF_o _ 12 10 p q (by decide), mvF_o _ 11 10 p q (by decide), mvF_o _ 10 10 p q (by decide), mvF_o _ 9 8 p q (by decide), mvF_o _ 6 1 p q (by decide), mvF_o _ 5 1 p q (by decide), mvF_o _ 4 1 p q (by decide), mvF_o _ 3 1 p q (by decide), mvF_o _ 2 1 p q (by decide)])
    · exact (show mvF (mvF (mvF (mvF (mvF (mvF (mvF (mvF (mvF (mvF (mvF (mvF (mvF (mvF (mvF V 2 1 p q) 3 1 p q) 4 1 p q) 5 1 p q) 6 1 p q) 9 8 p q) 10 10 p q) 11 10 p q) 12 10 p q) 13 6 p q) 14 6 p q) 15 6 p q) 16 2 p q) 17 16 p q) 20 1000 p q 14 i = V 14 i by rw [mvF_o _ 20 1000 p q (by decide), mvF_o _ 17 16 p q (by decide), mvF_o _ 16 2 p q (by decide), mvF_o _ 15 6 p q (by decide), mvF_out _ 14 6 p q h, mvF_o _ 13 6 p q (by decide), mvF_o _ 12 10 p q (by decide), mvF_o _ 11 10 p q (by decide), mvF_o _ 10 10 p q (by decide), mvF_o _ 9 8 p q (by decide), mvF_o _ 6 1 p q (by decide), mvF_o _ 5 1 p q (by decide), mvF_o _ 4 1 p q (by decide), mvF_o _ 3 1 p q (by decide), mvF_o _ 2 1 p q (by decide)])
    · exact (show mvF (mvF (mvF (mvF (mvF (mvF (mvF (mvF (mvF (mvF (mvF (mvF (mvF (mvF (mvF V 2 1 p q) 3 1 p q) 4 1 p q) 5 1 p q) 6 1 p q) 9 8 p q) 10 10 p q) 11 10 p q) 12 10 p q) 13 6 p q) 14 6 p q) 15 6 p q) 16 2 p q) 17 16 p q) 20 1000 p q 15 i = V 15 i by rw [mvF_o _ 20 1000 p q (by decide), mvF_o _ 17 16 p q (by decide), mvF_o _ 16 2 p q (by decide), mvF_out _ 15 6 p q h, mvF_o _ 14 6 p q (by decide), mvF_o _ 13 6 p q (by decide), mvF_o _ 12 10 p q (by decide), mvF_o _ 11 10 p q (by decide), mvF_o _ 10 10 p q (by decide), mvF_o _ 9 8 p q (by decide), mvF_o _ 6 1 p q (by decide), mvF_o _ 5 1 p q (by decide), mvF_o _ 4 1 p q (by decide), mvF_o _ 3 1 p q (by decide), mvF_o _ 2 1 p q (by decide)])
    · exact (show mvF (mvF (mvF (mvF (mvF (mvF (mvF (mvF (mvF (mvF (mvF (mvF (mvF (mvF (mvF V 2 1 p q) 3 1 p q) 4 1 p q) 5 1 p q) 6 1 p q) 9 8 p q) 10 10 p q) 11 10 p q) 12 10 p q) 13 6 p q) 14 6 p q) 15 6 p q) 16 2 p q) 17 16 p q) 20 1000 p q 16 i = V 16 i by rw [mvF_o _ 20 1000 p q (by decide), mvF_o _ 17 16 p q (by decide), mvF_out _ 16 2 p q h, mvF_o _ 15 6 p q (by decide), mvF_o _ 14 6 p q (by decide), mvF_o _ 13 6 p q (by decide), mvF_o _ 12 10 p q (by decide), mvF_o _ 11 10 p q (by decide), mvF_o _ 10 10 p q (by decide), mvF_o _ 9 8 p q (by decide), mvF_o _ 6 1 p q (by decide), mvF_o _ 5 1 p q (by decide), mvF_o _ 4 1 p q (by decide), mvF_o _ 3 1 p q (by decide), mvF_o _ 2 1 p q (by decide)])
    · exact (show mvF (mvF (mvF (mvF (mvF (mvF (mvF (mvF (mvF (mvF (mvF (mvF (mvF (mvF (mvF V 2 1 p q) 3 1 p q) 4 1 p q) 5 1 p q) 6 1 p q) 9 8 p q) 10 10 p q) 11 10 p q) 12 10 p q) 13 6 p q) 14 6 p q) 15 6 p q) 16 2 p q) 17 16 p q) 20 1000 p q 17 i = V 17 i by rw [mvF_o _ 20 1000 p q (by decide), mvF_out _ 17 16 p q h, mvF_o _ 16 2 p q (by decide), mvF_o _ 15 6 p q (by decide), mvF_o _ 14 6 p q (by decide), mvF_o _ 13 6 p q (by decide), mvF_o _ 12 10 p q (by decide), mvF_o _ 11 10 p q (by decide), mvF_o _ 10 10 p q (by decide), mvF_o _ 9 8 p q (by decide), mvF_o _ 6 1 p q (by decide), mvF_o _ 5 1 p q (by decide), mvF_o _ 4 1 p q (by decide), mvF_o _ 3 1 p q (by decide), mvF_o _ 2 1 p q (by decide)])
    · exact (show mvF (mvF (mvF (mvF (mvF (mvF (mvF (mvF (mvF (mvF (mvF (mvF (mvF (mvF (mvF V 2 1 p q) 3 1 p q) 4 1 p q) 5 1 p q) 6 1 p q) 9 8 p q) 10 10 p q) 11 10 p q) 12 10 p q) 13 6 p q) 14 6 p q) 15 6 p q) 16 2 p q) 17 16 p q) 20 1000 p q 20 i = V 20 i by rw [mvF_out _ 20 1000 p q h, mvF_o _ 17 16 p q (by decide), mvF_o _ 16 2 p q (by decide), mvF_o _ 15 6 p q (by decide), mvF_o _ 14 6 p q (by decide), mvF_o _ 13 6 p q (by decide), mvF_o _ 12 10 p q (by decide), mvF_o _ 11 10 p q (by decide), mvF_o _ 10 10 p q (by decide), mvF_o _ 9 8 p q (by decide), mvF_o _ 6 1 p q (by decide), mvF_o _ 5 1 p q (by decide), mvF_o _ 4 1 p q (by decide), mvF_o _ 3 1 p q (by decide), mvF_o _ 2 1 p q (by decide)])
  · unfold lyA
    rw [mvF_o _ 20 1000 p q (fun e => hm (by omega)), mvF_o _ 17 16 p q (fun e => hm (by omega)), mvF_o _ 16 2 p q (fun e => hm (by omega)), mvF_o _ 15 6 p q (fun e => hm (by omega)), mvF_o _ 14 6 p q (fun e => hm (by omega)), mvF_o _ 13 6 p q (fun e => hm (by omega)), mvF_o _ 12 10 p q (fun e => hm (by omega)), mvF_o _ 11 10 p q (fun e => hm (by omega)), mvF_o _ 10 10 p q (fun e => hm (by omega)), mvF_o _ 9 8 p q (fun e => hm (by omega)), mvF_o _ 6 1 p q (fun e => hm (by omega)), mvF_o _ 5 1 p q (fun e => hm (by omega)), mvF_o _ 4 1 p q (fun e => hm (by omega)), mvF_o _ 3 1 p q (fun e => hm (by omega)), mvF_o _ 2 1 p q (fun e => hm (by omega))]
/-- the two lines' places, moved -/
def lnM (V : VT) (p q k : Nat) : VT := up2 (up2 V 18 (2 * q + k) (V 18 (2 * p + k) + 1000 * (nI q - nI p))) 19 (2 * q + k) (V 19 (2 * p + k) + 1000 * (nI q - nI p))
def lyF (V : VT) (p q : Nat) : VT := lnM (lnM (lyA V p q) p q 0) p q 1
theorem lnM_o (V : VT) (p q k : Nat) {o : Nat} (h : o ≠ 18) (h2 : o ≠ 19) : lnM V p q k o = V o := (up2_o _ _ h2).trans (up2_o _ _ h)
theorem lyF_in (V : VT) (p q : Nat) {o i : Nat} (h : i < rwl o) : lyF V p q o (rwl o * q + i) = V o (rwl o * p + i) := by
  have h18 : o ≠ 18 := fun e => by rw [e] at h; exact absurd h (by show ¬ i < 0; omega)
  have h19 : o ≠ 19 := fun e => by rw [e] at h; exact absurd h (by show ¬ i < 0; omega)
  unfold lyF
  rw [lnM_o _ _ _ _ h18 h19, lnM_o _ _ _ _ h18 h19, lyA_in V p q h]
theorem lyF_out (V : VT) (p q : Nat) {o i : Nat} (h18 : o ≠ 18) (h19 : o ≠ 19) (h : i < rwl o * q ∨ rwl o * q + rwl o ≤ i) : lyF V p q o i = V o i := by
  unfold lyF
  rw [lnM_o _ _ _ _ h18 h19, lnM_o _ _ _ _ h18 h19, lyA_out V p q h]
theorem lyF_ln (V : VT) {p q : Nat} (hpq : p ≠ q) {o k : Nat} (ho : o = 18 ∨ o = 19) (hk : k < 2) : lyF V p q o (2 * q + k) = V o (2 * p + k) + 1000 * (nI q - nI p) := by
  have hA : ∀ i, lyA V p q 18 i = V 18 i := fun i => lyA_out V p q (o := 18) (by show i < 0 * q ∨ 0 * q + 0 ≤ i; omega)
  have hB : ∀ i, lyA V p q 19 i = V 19 i := fun i => lyA_out V p q (o := 19) (by show i < 0 * q ∨ 0 * q + 0 ≤ i; omega)
  unfold lyF lnM up2
  obtain hk | hk : k = 0 ∨ k = 1 := by omega
  · subst hk
    rcases ho with rfl | rfl
    · simp [hA, show ¬ (2 * q = 2 * q + 1) by omega]
    · simp [hA, hB, show ¬ (2 * q = 2 * q + 1) by omega]
  · subst hk
    rcases ho with rfl | rfl
    · simp [hA, show ¬ (2 * p + 1 = 2 * q) by omega]
    · simp [hA, hB, show ¬ (2 * p + 1 = 2 * q) by omega]
theorem lyF_lno (V : VT) {p q : Nat} {o i : Nat} (ho : o = 18 ∨ o = 19) (h : i ≠ 2 * q ∧ i ≠ 2 * q + 1) : lyF V p q o i = V o i := by
  have hA : ∀ i, lyA V p q 18 i = V 18 i := fun i => lyA_out V p q (o := 18) (by show i < 0 * q ∨ 0 * q + 0 ≤ i; omega)
  have hB : ∀ i, lyA V p q 19 i = V 19 i := fun i => lyA_out V p q (o := 19) (by show i < 0 * q ∨ 0 * q + 0 ≤ i; omega)
  unfold lyF lnM up2
  rcases ho with rfl | rfl
  · simp [hA, h.1, h.2]
  · simp [hB, h.1, h.2]
theorem sm_lay1 (hM : MS σ m) {p q k : Nat} (hp : p < 6) (hq6 : q < 6) (hk : k < 2) {V1 : VT} {Q : Option Value → Hp → Prop} (hq : HT G mX10_lays 162 [some (.ref m), some (.int (nI p)), some (.int (nI q)), some (.int (nI (k + 1)))] [] (sv σ m (lnM V1 p q k) U) 1 Q) : HT G mX10_lays 162 [some (.ref m), some (.int (nI p)), some (.int (nI q)), some (.int (nI k))] [] (sv σ m V1 U) 1 Q := by
  have D := dat dl_X10_lays
  refine ht_iload_n (D 92 rfl) rfl rfl ?_
  refine ht_iconst (v := 2) (D 93 rfl) (by decide) ?_
  refine ht_icmp_ge (tgt := 229) (D 94 rfl) (by decide) (fun hb164 => ?_) (fun hb164 => ?_)
  · skip
    exact absurd ((nI_leI (a := 2) (b := k) (by omega) (by omega)).mp hb164) (by omega)
  · skip
    refine ht_aload_n (D 95 rfl) rfl rfl ?_
    refine gf_X10_62 rfl (D 96 rfl) hM.k0 hM.q18 ?_
    refine ht_iconst (v := 2) (D 97 rfl) (by decide) ?_
    refine ht_iload_n (D 98 rfl) rfl rfl ?_
    refine ht_imul (D 99 rfl) ?_
    refine ht_iload_n (D 100 rfl) rfl rfl ?_
    refine ht_iadd (D 101 rfl) ?_
    refine ht_aload_n (D 102 rfl) rfl rfl ?_
    refine gf_X10_62 rfl (D 103 rfl) hM.k0 hM.q18 ?_
    refine ht_iconst (v := 2) (D 104 rfl) (by decide) ?_
    refine ht_iload_n (D 105 rfl) rfl rfl ?_
    refine ht_imul (D 106 rfl) ?_
    refine ht_iload_n (D 107 rfl) rfl rfl ?_
    refine ht_iadd (D 108 rfl) ?_
    refine hm_ild (o := 18) (n := 2 * p + k) (by decide) (D 109 rfl) hM.k18 hM.n18 (by rw [show (2 : Int32) = nI 2 from rfl, pk_mul, nI_add]) (by omega) (by decide) ?_
    refine ht_sipush (v := 1000) (D 110 rfl) (by decide) ?_
    refine ht_iload_n (D 111 rfl) rfl rfl ?_
    refine ht_iload_n (D 112 rfl) rfl rfl ?_
    refine ht_isub (D 113 rfl) ?_
    refine ht_imul (D 114 rfl) ?_
    refine ht_iadd (D 115 rfl) ?_
    refine hm_ist (o := 18) (n := 2 * q + k) (by decide) (D 116 rfl) hM.k18 hM.n18 (by rw [show (2 : Int32) = nI 2 from rfl, pk_mul, nI_add]) (by omega) (by decide) ?_
    show HT G mX10_lays 195 [some (.ref m), some (.int (nI p)), some (.int (nI q)), some (.int (nI k))] [] (sv σ m (up2 V1 18 (2 * q + k) (V1 18 (2 * p + k) + 1000 * (nI q - nI p))) U) 1 _
    refine ht_aload_n (D 117 rfl) rfl rfl ?_
    refine gf_X10_65 rfl (D 118 rfl) hM.k0 hM.q19 ?_
    refine ht_iconst (v := 2) (D 119 rfl) (by decide) ?_
    refine ht_iload_n (D 120 rfl) rfl rfl ?_
    refine ht_imul (D 121 rfl) ?_
    refine ht_iload_n (D 122 rfl) rfl rfl ?_
    refine ht_iadd (D 123 rfl) ?_
    refine ht_aload_n (D 124 rfl) rfl rfl ?_
    refine gf_X10_65 rfl (D 125 rfl) hM.k0 hM.q19 ?_
    refine ht_iconst (v := 2) (D 126 rfl) (by decide) ?_
    refine ht_iload_n (D 127 rfl) rfl rfl ?_
    refine ht_imul (D 128 rfl) ?_
    refine ht_iload_n (D 129 rfl) rfl rfl ?_
    refine ht_iadd (D 130 rfl) ?_
    refine hm_ild (o := 19) (n := 2 * p + k) (by decide) (D 131 rfl) hM.k19 hM.n19 (by rw [show (2 : Int32) = nI 2 from rfl, pk_mul, nI_add]) (by omega) (by decide) ?_
    rw [up2_o _ _ (show (19 : Nat) ≠ 18 by decide)]
    refine ht_sipush (v := 1000) (D 132 rfl) (by decide) ?_
    refine ht_iload_n (D 133 rfl) rfl rfl ?_
    refine ht_iload_n (D 134 rfl) rfl rfl ?_
    refine ht_isub (D 135 rfl) ?_
    refine ht_imul (D 136 rfl) ?_
    refine ht_iadd (D 137 rfl) ?_
    refine hm_ist (o := 19) (n := 2 * q + k) (by decide) (D 138 rfl) hM.k19 hM.n19 (by rw [show (2 : Int32) = nI 2 from rfl, pk_mul, nI_add]) (by omega) (by decide) ?_
    show HT G mX10_lays 223 [some (.ref m), some (.int (nI p)), some (.int (nI q)), some (.int (nI k))] [] (sv σ m (lnM V1 p q k) U) 1 _
    refine ht_iinc (v := nI (k + 1)) (D 139 rfl) rfl (nI_i1 _) (by decide) rfl ?_
    refine ht_goto (tgt := 162) (D 140 rfl) (by decide) ?_
    exact hq
set_option maxRecDepth 100000 in
theorem sm_lays (hM : MS σ m) {p q : Nat} (hp : p < 6) (hq : q < 6) (hpq : p ≠ q) : Sp G mX10_lays 1 [.ref m, .int (nI p), .int (nI q)] (sv σ m V U) (fun rv σ' => rv = none ∧ σ' = sv σ m (lyF V p q) U) := by
  have D := dat dl_X10_lays
  have last : HT G mX10_lays 162 [some (.ref m), some (.int (nI p)), some (.int (nI q)), some (.int (nI 2))] [] (sv σ m (lyF V p q) U) 1 (fun rv σ' => rv = none ∧ σ' = sv σ m (lyF V p q) U) := by
    refine ht_iload_n (D 92 rfl) rfl rfl ?_
    refine ht_iconst (v := 2) (D 93 rfl) (by decide) ?_
    refine ht_icmp_ge (tgt := 229) (D 94 rfl) (by decide) (fun hb164 => ?_) (fun hb164 => ?_)
    · skip
      refine ht_vret (D 141 rfl) rfl ?_
      exact ⟨rfl, rfl⟩
    · skip
      exact absurd ((nI_leI (a := 2) (b := 2) (by omega) (by omega)).mpr (by omega)) hb164
  show HT G mX10_lays 0 [some (.ref m), some (.int (nI p)), some (.int (nI q)), none] [] (sv σ m V U) 1 _
  refine ht_aload_n (D 0 rfl) rfl rfl ?_
  refine gf_X10_13 rfl (D 1 rfl) hM.k0 hM.q2 ?_
  refine ht_iconst (v := 1) (D 2 rfl) (by decide) ?_
  refine ht_iload_n (D 3 rfl) rfl rfl ?_
  refine ht_iload_n (D 4 rfl) rfl rfl ?_
  refine kSX10_moves (As := [_, _, _, _]) cl_X10_310 (D 5 rfl) (sm_moves (o := 2) (N := 6) (n := 1) (p := p) (q := q) (by decide) hM.k2 hM.n2 (by decide) (by omega) (by omega) (by omega)) rfl (Nat.le_of_ble_eq_true rfl) rfl (Nat.le_of_ble_eq_true rfl) (by omega) ?_
  rintro rv σ1 ⟨rfl, rfl⟩
  refine ht_aload_n (D 6 rfl) rfl rfl ?_
  refine gf_X10_16 rfl (D 7 rfl) hM.k0 hM.q3 ?_
  refine ht_iconst (v := 1) (D 8 rfl) (by decide) ?_
  refine ht_iload_n (D 9 rfl) rfl rfl ?_
  refine ht_iload_n (D 10 rfl) rfl rfl ?_
  refine kSX10_moves (As := [_, _, _, _]) cl_X10_310 (D 11 rfl) (sm_moves (o := 3) (N := 6) (n := 1) (p := p) (q := q) (by decide) hM.k3 hM.n3 (by decide) (by omega) (by omega) (by omega)) rfl (Nat.le_of_ble_eq_true rfl) rfl (Nat.le_of_ble_eq_true rfl) (by omega) ?_
  rintro rv σ1 ⟨rfl, rfl⟩
  refine ht_aload_n (D 12 rfl) rfl rfl ?_
  refine gf_X10_19 rfl (D 13 rfl) hM.k0 hM.q4 ?_
  refine ht_iconst (v := 1) (D 14 rfl) (by decide) ?_
  refine ht_iload_n (D 15 rfl) rfl rfl ?_
  refine ht_iload_n (D 16 rfl) rfl rfl ?_
  refine kSX10_moves (As := [_, _, _, _]) cl_X10_310 (D 17 rfl) (sm_moves (o := 4) (N := 6) (n := 1) (p := p) (q := q) (by decide) hM.k4 hM.n4 (by decide) (by omega) (by omega) (by omega)) rfl (Nat.le_of_ble_eq_true rfl) rfl (Nat.le_of_ble_eq_true rfl) (by omega) ?_
  rintro rv σ1 ⟨rfl, rfl⟩
  refine ht_aload_n (D 18 rfl) rfl rfl ?_
  refine gf_X10_22 rfl (D 19 rfl) hM.k0 hM.q5 ?_
  refine ht_iconst (v := 1) (D 20 rfl) (by decide) ?_
  refine ht_iload_n (D 21 rfl) rfl rfl ?_
  refine ht_iload_n (D 22 rfl) rfl rfl ?_
  refine kSX10_moves (As := [_, _, _, _]) cl_X10_310 (D 23 rfl) (sm_moves (o := 5) (N := 6) (n := 1) (p := p) (q := q) (by decide) hM.k5 hM.n5 (by decide) (by omega) (by omega) (by omega)) rfl (Nat.le_of_ble_eq_true rfl) rfl (Nat.le_of_ble_eq_true rfl) (by omega) ?_
  rintro rv σ1 ⟨rfl, rfl⟩
  refine ht_aload_n (D 24 rfl) rfl rfl ?_
  refine gf_X10_25 rfl (D 25 rfl) hM.k0 hM.q6 ?_
  refine ht_iconst (v := 1) (D 26 rfl) (by decide) ?_
  refine ht_iload_n (D 27 rfl) rfl rfl ?_
  refine ht_iload_n (D 28 rfl) rfl rfl ?_
  refine kSX10_moves (As := [_, _, _, _]) cl_X10_310 (D 29 rfl) (sm_moves (o := 6) (N := 6) (n := 1) (p := p) (q := q) (by decide) hM.k6 hM.n6 (by decide) (by omega) (by omega) (by omega)) rfl (Nat.le_of_ble_eq_true rfl) rfl (Nat.le_of_ble_eq_true rfl) (by omega) ?_
  rintro rv σ1 ⟨rfl, rfl⟩
  refine ht_aload_n (D 30 rfl) rfl rfl ?_
  refine gf_X10_35 rfl (D 31 rfl) hM.k0 hM.q9 ?_
  refine ht_bipush (v := 8) (D 32 rfl) (by decide) ?_
  refine ht_iload_n (D 33 rfl) rfl rfl ?_
  refine ht_iload_n (D 34 rfl) rfl rfl ?_
  refine kSX10_moves (As := [_, _, _, _]) cl_X10_310 (D 35 rfl) (sm_moves (o := 9) (N := 48) (n := 8) (p := p) (q := q) (by decide) hM.k9 hM.n9 (by decide) (by omega) (by omega) (by omega)) rfl (Nat.le_of_ble_eq_true rfl) rfl (Nat.le_of_ble_eq_true rfl) (by omega) ?_
  rintro rv σ1 ⟨rfl, rfl⟩
  refine ht_aload_n (D 36 rfl) rfl rfl ?_
  refine gf_X10_38 rfl (D 37 rfl) hM.k0 hM.q10 ?_
  refine ht_bipush (v := 10) (D 38 rfl) (by decide) ?_
  refine ht_iload_n (D 39 rfl) rfl rfl ?_
  refine ht_iload_n (D 40 rfl) rfl rfl ?_
  refine kSX10_moves (As := [_, _, _, _]) cl_X10_310 (D 41 rfl) (sm_moves (o := 10) (N := 60) (n := 10) (p := p) (q := q) (by decide) hM.k10 hM.n10 (by decide) (by omega) (by omega) (by omega)) rfl (Nat.le_of_ble_eq_true rfl) rfl (Nat.le_of_ble_eq_true rfl) (by omega) ?_
  rintro rv σ1 ⟨rfl, rfl⟩
  refine ht_aload_n (D 42 rfl) rfl rfl ?_
  refine gf_X10_41 rfl (D 43 rfl) hM.k0 hM.q11 ?_
  refine ht_bipush (v := 10) (D 44 rfl) (by decide) ?_
  refine ht_iload_n (D 45 rfl) rfl rfl ?_
  refine ht_iload_n (D 46 rfl) rfl rfl ?_
  refine kSX10_moves (As := [_, _, _, _]) cl_X10_310 (D 47 rfl) (sm_moves (o := 11) (N := 60) (n := 10) (p := p) (q := q) (by decide) hM.k11 hM.n11 (by decide) (by omega) (by omega) (by omega)) rfl (Nat.le_of_ble_eq_true rfl) rfl (Nat.le_of_ble_eq_true rfl) (by omega) ?_
  rintro rv σ1 ⟨rfl, rfl⟩
  refine ht_aload_n (D 48 rfl) rfl rfl ?_
  refine gf_X10_44 rfl (D 49 rfl) hM.k0 hM.q12 ?_
  refine ht_bipush (v := 10) (D 50 rfl) (by decide) ?_
  refine ht_iload_n (D 51 rfl) rfl rfl ?_
  refine ht_iload_n (D 52 rfl) rfl rfl ?_
  refine kSX10_moves (As := [_, _, _, _]) cl_X10_310 (D 53 rfl) (sm_moves (o := 12) (N := 60) (n := 10) (p := p) (q := q) (by decide) hM.k12 hM.n12 (by decide) (by omega) (by omega) (by omega)) rfl (Nat.le_of_ble_eq_true rfl) rfl (Nat.le_of_ble_eq_true rfl) (by omega) ?_
  rintro rv σ1 ⟨rfl, rfl⟩
  refine ht_aload_n (D 54 rfl) rfl rfl ?_
  refine gf_X10_47 rfl (D 55 rfl) hM.k0 hM.q13 ?_
  refine ht_bipush (v := 6) (D 56 rfl) (by decide) ?_
  refine ht_iload_n (D 57 rfl) rfl rfl ?_
  refine ht_iload_n (D 58 rfl) rfl rfl ?_
  refine kSX10_moves (As := [_, _, _, _]) cl_X10_310 (D 59 rfl) (sm_moves (o := 13) (N := 36) (n := 6) (p := p) (q := q) (by decide) hM.k13 hM.n13 (by decide) (by omega) (by omega) (by omega)) rfl (Nat.le_of_ble_eq_true rfl) rfl (Nat.le_of_ble_eq_true rfl) (by omega) ?_
  rintro rv σ1 ⟨rfl, rfl⟩
  refine ht_aload_n (D 60 rfl) rfl rfl ?_
  refine gf_X10_50 rfl (D 61 rfl) hM.k0 hM.q14 ?_
  refine ht_bipush (v := 6) (D 62 rfl) (by decide) ?_
  refine ht_iload_n (D 63 rfl) rfl rfl ?_
  refine ht_iload_n (D 64 rfl) rfl rfl ?_
  refine kSX10_moves (As := [_, _, _, _]) cl_X10_310 (D 65 rfl) (sm_moves (o := 14) (N := 36) (n := 6) (p := p) (q := q) (by decide) hM.k14 hM.n14 (by decide) (by omega) (by omega) (by omega)) rfl (Nat.le_of_ble_eq_true rfl) rfl (Nat.le_of_ble_eq_true rfl) (by omega) ?_
  rintro rv σ1 ⟨rfl, rfl⟩
  refine ht_aload_n (D 66 rfl) rfl rfl ?_
  refine gf_X10_53 rfl (D 67 rfl) hM.k0 hM.q15 ?_
  refine ht_bipush (v := 6) (D 68 rfl) (by decide) ?_
  refine ht_iload_n (D 69 rfl) rfl rfl ?_
  refine ht_iload_n (D 70 rfl) rfl rfl ?_
  refine kSX10_moves (As := [_, _, _, _]) cl_X10_310 (D 71 rfl) (sm_moves (o := 15) (N := 36) (n := 6) (p := p) (q := q) (by decide) hM.k15 hM.n15 (by decide) (by omega) (by omega) (by omega)) rfl (Nat.le_of_ble_eq_true rfl) rfl (Nat.le_of_ble_eq_true rfl) (by omega) ?_
  rintro rv σ1 ⟨rfl, rfl⟩
  refine ht_aload_n (D 72 rfl) rfl rfl ?_
  refine gf_X10_56 rfl (D 73 rfl) hM.k0 hM.q16 ?_
  refine ht_iconst (v := 2) (D 74 rfl) (by decide) ?_
  refine ht_iload_n (D 75 rfl) rfl rfl ?_
  refine ht_iload_n (D 76 rfl) rfl rfl ?_
  refine kSX10_moves (As := [_, _, _, _]) cl_X10_310 (D 77 rfl) (sm_moves (o := 16) (N := 12) (n := 2) (p := p) (q := q) (by decide) hM.k16 hM.n16 (by decide) (by omega) (by omega) (by omega)) rfl (Nat.le_of_ble_eq_true rfl) rfl (Nat.le_of_ble_eq_true rfl) (by omega) ?_
  rintro rv σ1 ⟨rfl, rfl⟩
  refine ht_aload_n (D 78 rfl) rfl rfl ?_
  refine gf_X10_59 rfl (D 79 rfl) hM.k0 hM.q17 ?_
  refine ht_bipush (v := 16) (D 80 rfl) (by decide) ?_
  refine ht_iload_n (D 81 rfl) rfl rfl ?_
  refine ht_iload_n (D 82 rfl) rfl rfl ?_
  refine kSX10_moves (As := [_, _, _, _]) cl_X10_310 (D 83 rfl) (sm_moves (o := 17) (N := 96) (n := 16) (p := p) (q := q) (by decide) hM.k17 hM.n17 (by decide) (by omega) (by omega) (by omega)) rfl (Nat.le_of_ble_eq_true rfl) rfl (Nat.le_of_ble_eq_true rfl) (by omega) ?_
  rintro rv σ1 ⟨rfl, rfl⟩
  refine ht_aload_n (D 84 rfl) rfl rfl ?_
  refine gf_X10_68 rfl (D 85 rfl) hM.k0 hM.q20 ?_
  refine ht_sipush (v := 1000) (D 86 rfl) (by decide) ?_
  refine ht_iload_n (D 87 rfl) rfl rfl ?_
  refine ht_iload_n (D 88 rfl) rfl rfl ?_
  refine kSX10_moves (As := [_, _, _, _]) cl_X10_310 (D 89 rfl) (sm_moves (o := 20) (N := 6000) (n := 1000) (p := p) (q := q) (by decide) hM.k20 hM.n20 (by decide) (by omega) (by omega) (by omega)) rfl (Nat.le_of_ble_eq_true rfl) rfl (Nat.le_of_ble_eq_true rfl) (by omega) ?_
  rintro rv σ1 ⟨rfl, rfl⟩
  refine ht_iconst (v := 0) (D 90 rfl) (by decide) ?_
  refine ht_istore_n (D 91 rfl) rfl (by decide) rfl ?_
  refine sm_lay1 hM (k := 0) hp hq (by decide) ?_
  refine sm_lay1 hM (k := 1) hp hq (by decide) ?_
  exact last
end M13
