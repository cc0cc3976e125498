/-! ===== the reference: its shape, its view (ints V, longs U, by number of the array and place; number 0: the object), rules over the view ===== -/
def mF (o : Nat) : Nat := match o with
  | 1 => 2
  | 2 => 10
  | 3 => 11
  | 4 => 12
  | 5 => 13
  | 6 => 14
  | 7 => 15
  | 8 => 16
  | 9 => 17
  | 10 => 18
  | 11 => 19
  | 12 => 20
  | 13 => 21
  | 14 => 22
  | 15 => 23
  | 16 => 24
  | 17 => 25
  | 18 => 26
  | 19 => 27
  | 20 => 28
  | 21 => 32
  | 22 => 33
  | 23 => 34
  | 24 => 35
  | 25 => 36
  | 26 => 37
  | 27 => 38
  | 28 => 39
  | 29 => 40
  | 30 => 41
  | 31 => 42
  | 32 => 43
  | 33 => 45
  | 34 => 46
  | 35 => 47
  | 36 => 48
  | 37 => 49
  | 38 => 50
  | 39 => 53
  | 40 => 54
  | 41 => 56
  | _ => 0
def mKd (o : Nat) : Nat := match o with
  | 1 => 20
  | 2 => 20
  | 3 => 20
  | 4 => 20
  | 5 => 20
  | 6 => 20
  | 7 => 21
  | 8 => 21
  | 9 => 20
  | 10 => 20
  | 11 => 20
  | 12 => 20
  | 13 => 20
  | 14 => 20
  | 15 => 20
  | 16 => 20
  | 17 => 20
  | 18 => 20
  | 19 => 20
  | 20 => 20
  | 21 => 20
  | 22 => 23
  | 23 => 20
  | 24 => 20
  | 25 => 20
  | 26 => 20
  | 27 => 20
  | 28 => 20
  | 29 => 20
  | 30 => 20
  | 31 => 20
  | 32 => 20
  | 33 => 20
  | 34 => 20
  | 35 => 20
  | 36 => 20
  | 37 => 20
  | 38 => 20
  | 39 => 20
  | 40 => 20
  | 41 => 23
  | _ => 0
def mLn (o : Nat) : Nat := match o with
  | 1 => 1000
  | 2 => 6
  | 3 => 6
  | 4 => 6
  | 5 => 6
  | 6 => 6
  | 7 => 8
  | 8 => 6
  | 9 => 48
  | 10 => 60
  | 11 => 60
  | 12 => 60
  | 13 => 36
  | 14 => 36
  | 15 => 36
  | 16 => 12
  | 17 => 96
  | 18 => 12
  | 19 => 12
  | 20 => 6000
  | 21 => 7
  | 22 => 7
  | 23 => 7
  | 24 => 7
  | 25 => 7
  | 26 => 7
  | 27 => 7
  | 28 => 7
  | 29 => 7
  | 30 => 7
  | 31 => 7
  | 32 => 20
  | 33 => 96
  | 34 => 96
  | 35 => 384
  | 36 => 8
  | 37 => 10
  | 38 => 10
  | 39 => 8
  | 40 => 8
  | 41 => 4
  | _ => 0
def MS (σ : Hp) (m : Nat) : Prop := zK σ m = 9 ∧ ∀ o, 1 ≤ o → o ≤ 41 → zQ σ m (mF o) = some (m + o) ∧ zK σ (m + o) = mKd o ∧ zN σ (m + o) = mLn o
theorem MS.k0 {σ : Hp} {m : Nat} (h : MS σ m) : zK σ m = 9 := h.1
theorem MS.q1 {σ : Hp} {m : Nat} (h : MS σ m) : zQ σ m 2 = some (m + 1) := (h.2 1 (by decide) (by decide)).1
theorem MS.k1 {σ : Hp} {m : Nat} (h : MS σ m) : zK σ (m + 1) = 20 := (h.2 1 (by decide) (by decide)).2.1
theorem MS.n1 {σ : Hp} {m : Nat} (h : MS σ m) : zN σ (m + 1) = 1000 := (h.2 1 (by decide) (by decide)).2.2
theorem MS.q2 {σ : Hp} {m : Nat} (h : MS σ m) : zQ σ m 10 = some (m + 2) := (h.2 2 (by decide) (by decide)).1
theorem MS.k2 {σ : Hp} {m : Nat} (h : MS σ m) : zK σ (m + 2) = 20 := (h.2 2 (by decide) (by decide)).2.1
theorem MS.n2 {σ : Hp} {m : Nat} (h : MS σ m) : zN σ (m + 2) = 6 := (h.2 2 (by decide) (by decide)).2.2
theorem MS.q3 {σ : Hp} {m : Nat} (h : MS σ m) : zQ σ m 11 = some (m + 3) := (h.2 3 (by decide) (by decide)).1
theorem MS.k3 {σ : Hp} {m : Nat} (h : MS σ m) : zK σ (m + 3) = 20 := (h.2 3 (by decide) (by decide)).2.1
theorem MS.n3 {σ : Hp} {m : Nat} (h : MS σ m) : zN σ (m + 3) = 6 := (h.2 3 (by decide) (by decide)).2.2
theorem MS.q4 {σ : Hp} {m : Nat} (h : MS σ m) : zQ σ m 12 = some (m + 4) := (h.2 4 (by decide) (by decide)).1
theorem MS.k4 {σ : Hp} {m : Nat} (h : MS σ m) : zK σ (m + 4) = 20 := (h.2 4 (by decide) (by decide)).2.1
theorem MS.n4 {σ : Hp} {m : Nat} (h : MS σ m) : zN σ (m + 4) = 6 := (h.2 4 (by decide) (by decide)).2.2
theorem MS.q5 {σ : Hp} {m : Nat} (h : MS σ m) : zQ σ m 13 = some (m + 5) := (h.2 5 (by decide) (by decide)).1
theorem MS.k5 {σ : Hp} {m : Nat} (h : MS σ m) : zK σ (m + 5) = 20 := (h.2 5 (by decide) (by decide)).2.1
theorem MS.n5 {σ : Hp} {m : Nat} (h : MS σ m) : zN σ (m + 5) = 6 := (h.2 5 (by decide) (by decide)).2.2
theorem MS.q6 {σ : Hp} {m : Nat} (h : MS σ m) : zQ σ m 14 = some (m + 6) := (h.2 6 (by decide) (by decide)).1
theorem MS.k6 {σ : Hp} {m : Nat} (h : MS σ m) : zK σ (m + 6) = 20 := (h.2 6 (by decide) (by decide)).2.1
theorem MS.n6 {σ : Hp} {m : Nat} (h : MS σ m) : zN σ (m + 6) = 6 := (h.2 6 (by decide) (by decide)).2.2
theorem MS.q7 {σ : Hp} {m : Nat} (h : MS σ m) : zQ σ m 15 = some (m + 7) := (h.2 7 (by decide) (by decide)).1
theorem MS.k7 {σ : Hp} {m : Nat} (h : MS σ m) : zK σ (m + 7) = 21 := (h.2 7 (by decide) (by decide)).2.1
theorem MS.n7 {σ : Hp} {m : Nat} (h : MS σ m) : zN σ (m + 7) = 8 := (h.2 7 (by decide) (by decide)).2.2
theorem MS.q8 {σ : Hp} {m : Nat} (h : MS σ m) : zQ σ m 16 = some (m + 8) := (h.2 8 (by decide) (by decide)).1
theorem MS.k8 {σ : Hp} {m : Nat} (h : MS σ m) : zK σ (m + 8) = 21 := (h.2 8 (by decide) (by decide)).2.1
theorem MS.n8 {σ : Hp} {m : Nat} (h : MS σ m) : zN σ (m + 8) = 6 := (h.2 8 (by decide) (by decide)).2.2
theorem MS.q9 {σ : Hp} {m : Nat} (h : MS σ m) : zQ σ m 17 = some (m + 9) := (h.2 9 (by decide) (by decide)).1
theorem MS.k9 {σ : Hp} {m : Nat} (h : MS σ m) : zK σ (m + 9) = 20 := (h.2 9 (by decide) (by decide)).2.1
theorem MS.n9 {σ : Hp} {m : Nat} (h : MS σ m) : zN σ (m + 9) = 48 := (h.2 9 (by decide) (by decide)).2.2
theorem MS.q10 {σ : Hp} {m : Nat} (h : MS σ m) : zQ σ m 18 = some (m + 10) := (h.2 10 (by decide) (by decide)).1
theorem MS.k10 {σ : Hp} {m : Nat} (h : MS σ m) : zK σ (m + 10) = 20 := (h.2 10 (by decide) (by decide)).2.1
theorem MS.n10 {σ : Hp} {m : Nat} (h : MS σ m) : zN σ (m + 10) = 60 := (h.2 10 (by decide) (by decide)).2.2
theorem MS.q11 {σ : Hp} {m : Nat} (h : MS σ m) : zQ σ m 19 = some (m + 11) := (h.2 11 (by decide) (by decide)).1
theorem MS.k11 {σ : Hp} {m : Nat} (h : MS σ m) : zK σ (m + 11) = 20 := (h.2 11 (by decide) (by decide)).2.1
theorem MS.n11 {σ : Hp} {m : Nat} (h : MS σ m) : zN σ (m + 11) = 60 := (h.2 11 (by decide) (by decide)).2.2
theorem MS.q12 {σ : Hp} {m : Nat} (h : MS σ m) : zQ σ m 20 = some (m + 12) := (h.2 12 (by decide) (by decide)).1
theorem MS.k12 {σ : Hp} {m : Nat} (h : MS σ m) : zK σ (m + 12) = 20 := (h.2 12 (by decide) (by decide)).2.1
theorem MS.n12 {σ : Hp} {m : Nat} (h : MS σ m) : zN σ (m + 12) = 60 := (h.2 12 (by decide) (by decide)).2.2
theorem MS.q13 {σ : Hp} {m : Nat} (h : MS σ m) : zQ σ m 21 = some (m + 13) := (h.2 13 (by decide) (by decide)).1
theorem MS.k13 {σ : Hp} {m : Nat} (h : MS σ m) : zK σ (m + 13) = 20 := (h.2 13 (by decide) (by decide)).2.1
theorem MS.n13 {σ : Hp} {m : Nat} (h : MS σ m) : zN σ (m + 13) = 36 := (h.2 13 (by decide) (by decide)).2.2
theorem MS.q14 {σ : Hp} {m : Nat} (h : MS σ m) : zQ σ m 22 = some (m + 14) := (h.2 14 (by decide) (by decide)).1
theorem MS.k14 {σ : Hp} {m : Nat} (h : MS σ m) : zK σ (m + 14) = 20 := (h.2 14 (by decide) (by decide)).2.1
theorem MS.n14 {σ : Hp} {m : Nat} (h : MS σ m) : zN σ (m + 14) = 36 := (h.2 14 (by decide) (by decide)).2.2
theorem MS.q15 {σ : Hp} {m : Nat} (h : MS σ m) : zQ σ m 23 = some (m + 15) := (h.2 15 (by decide) (by decide)).1
theorem MS.k15 {σ : Hp} {m : Nat} (h : MS σ m) : zK σ (m + 15) = 20 := (h.2 15 (by decide) (by decide)).2.1
theorem MS.n15 {σ : Hp} {m : Nat} (h : MS σ m) : zN σ (m + 15) = 36 := (h.2 15 (by decide) (by decide)).2.2
theorem MS.q16 {σ : Hp} {m : Nat} (h : MS σ m) : zQ σ m 24 = some (m + 16) := (h.2 16 (by decide) (by decide)).1
theorem MS.k16 {σ : Hp} {m : Nat} (h : MS σ m) : zK σ (m + 16) = 20 := (h.2 16 (by decide) (by decide)).2.1
theorem MS.n16 {σ : Hp} {m : Nat} (h : MS σ m) : zN σ (m + 16) = 12 := (h.2 16 (by decide) (by decide)).2.2
theorem MS.q17 {σ : Hp} {m : Nat} (h : MS σ m) : zQ σ m 25 = some (m + 17) := (h.2 17 (by decide) (by decide)).1
theorem MS.k17 {σ : Hp} {m : Nat} (h : MS σ m) : zK σ (m + 17) = 20 := (h.2 17 (by decide) (by decide)).2.1
theorem MS.n17 {σ : Hp} {m : Nat} (h : MS σ m) : zN σ (m + 17) = 96 := (h.2 17 (by decide) (by decide)).2.2
theorem MS.q18 {σ : Hp} {m : Nat} (h : MS σ m) : zQ σ m 26 = some (m + 18) := (h.2 18 (by decide) (by decide)).1
theorem MS.k18 {σ : Hp} {m : Nat} (h : MS σ m) : zK σ (m + 18) = 20 := (h.2 18 (by decide) (by decide)).2.1
theorem MS.n18 {σ : Hp} {m : Nat} (h : MS σ m) : zN σ (m + 18) = 12 := (h.2 18 (by decide) (by decide)).2.2
theorem MS.q19 {σ : Hp} {m : Nat} (h : MS σ m) : zQ σ m 27 = some (m + 19) := (h.2 19 (by decide) (by decide)).1
theorem MS.k19 {σ : Hp} {m : Nat} (h : MS σ m) : zK σ (m + 19) = 20 := (h.2 19 (by decide) (by decide)).2.1
theorem MS.n19 {σ : Hp} {m : Nat} (h : MS σ m) : zN σ (m + 19) = 12 := (h.2 19 (by decide) (by decide)).2.2
theorem MS.q20 {σ : Hp} {m : Nat} (h : MS σ m) : zQ σ m 28 = some (m + 20) := (h.2 20 (by decide) (by decide)).1
theorem MS.k20 {σ : Hp} {m : Nat} (h : MS σ m) : zK σ (m + 20) = 20 := (h.2 20 (by decide) (by decide)).2.1
theorem MS.n20 {σ : Hp} {m : Nat} (h : MS σ m) : zN σ (m + 20) = 6000 := (h.2 20 (by decide) (by decide)).2.2
theorem MS.q21 {σ : Hp} {m : Nat} (h : MS σ m) : zQ σ m 32 = some (m + 21) := (h.2 21 (by decide) (by decide)).1
theorem MS.k21 {σ : Hp} {m : Nat} (h : MS σ m) : zK σ (m + 21) = 20 := (h.2 21 (by decide) (by decide)).2.1
theorem MS.n21 {σ : Hp} {m : Nat} (h : MS σ m) : zN σ (m + 21) = 7 := (h.2 21 (by decide) (by decide)).2.2
theorem MS.q22 {σ : Hp} {m : Nat} (h : MS σ m) : zQ σ m 33 = some (m + 22) := (h.2 22 (by decide) (by decide)).1
theorem MS.k22 {σ : Hp} {m : Nat} (h : MS σ m) : zK σ (m + 22) = 23 := (h.2 22 (by decide) (by decide)).2.1
theorem MS.n22 {σ : Hp} {m : Nat} (h : MS σ m) : zN σ (m + 22) = 7 := (h.2 22 (by decide) (by decide)).2.2
theorem MS.q23 {σ : Hp} {m : Nat} (h : MS σ m) : zQ σ m 34 = some (m + 23) := (h.2 23 (by decide) (by decide)).1
theorem MS.k23 {σ : Hp} {m : Nat} (h : MS σ m) : zK σ (m + 23) = 20 := (h.2 23 (by decide) (by decide)).2.1
theorem MS.n23 {σ : Hp} {m : Nat} (h : MS σ m) : zN σ (m + 23) = 7 := (h.2 23 (by decide) (by decide)).2.2
theorem MS.q24 {σ : Hp} {m : Nat} (h : MS σ m) : zQ σ m 35 = some (m + 24) := (h.2 24 (by decide) (by decide)).1
theorem MS.k24 {σ : Hp} {m : Nat} (h : MS σ m) : zK σ (m + 24) = 20 := (h.2 24 (by decide) (by decide)).2.1
theorem MS.n24 {σ : Hp} {m : Nat} (h : MS σ m) : zN σ (m + 24) = 7 := (h.2 24 (by decide) (by decide)).2.2
theorem MS.q25 {σ : Hp} {m : Nat} (h : MS σ m) : zQ σ m 36 = some (m + 25) := (h.2 25 (by decide) (by decide)).1
theorem MS.k25 {σ : Hp} {m : Nat} (h : MS σ m) : zK σ (m + 25) = 20 := (h.2 25 (by decide) (by decide)).2.1
theorem MS.n25 {σ : Hp} {m : Nat} (h : MS σ m) : zN σ (m + 25) = 7 := (h.2 25 (by decide) (by decide)).2.2
theorem MS.q26 {σ : Hp} {m : Nat} (h : MS σ m) : zQ σ m 37 = some (m + 26) := (h.2 26 (by decide) (by decide)).1
theorem MS.k26 {σ : Hp} {m : Nat} (h : MS σ m) : zK σ (m + 26) = 20 := (h.2 26 (by decide) (by decide)).2.1
theorem MS.n26 {σ : Hp} {m : Nat} (h : MS σ m) : zN σ (m + 26) = 7 := (h.2 26 (by decide) (by decide)).2.2
theorem MS.q27 {σ : Hp} {m : Nat} (h : MS σ m) : zQ σ m 38 = some (m + 27) := (h.2 27 (by decide) (by decide)).1
theorem MS.k27 {σ : Hp} {m : Nat} (h : MS σ m) : zK σ (m + 27) = 20 := (h.2 27 (by decide) (by decide)).2.1
theorem MS.n27 {σ : Hp} {m : Nat} (h : MS σ m) : zN σ (m + 27) = 7 := (h.2 27 (by decide) (by decide)).2.2
theorem MS.q28 {σ : Hp} {m : Nat} (h : MS σ m) : zQ σ m 39 = some (m + 28) := (h.2 28 (by decide) (by decide)).1
theorem MS.k28 {σ : Hp} {m : Nat} (h : MS σ m) : zK σ (m + 28) = 20 := (h.2 28 (by decide) (by decide)).2.1
theorem MS.n28 {σ : Hp} {m : Nat} (h : MS σ m) : zN σ (m + 28) = 7 := (h.2 28 (by decide) (by decide)).2.2
theorem MS.q29 {σ : Hp} {m : Nat} (h : MS σ m) : zQ σ m 40 = some (m + 29) := (h.2 29 (by decide) (by decide)).1
theorem MS.k29 {σ : Hp} {m : Nat} (h : MS σ m) : zK σ (m + 29) = 20 := (h.2 29 (by decide) (by decide)).2.1
theorem MS.n29 {σ : Hp} {m : Nat} (h : MS σ m) : zN σ (m + 29) = 7 := (h.2 29 (by decide) (by decide)).2.2
theorem MS.q30 {σ : Hp} {m : Nat} (h : MS σ m) : zQ σ m 41 = some (m + 30) := (h.2 30 (by decide) (by decide)).1
theorem MS.k30 {σ : Hp} {m : Nat} (h : MS σ m) : zK σ (m + 30) = 20 := (h.2 30 (by decide) (by decide)).2.1
theorem MS.n30 {σ : Hp} {m : Nat} (h : MS σ m) : zN σ (m + 30) = 7 := (h.2 30 (by decide) (by decide)).2.2
theorem MS.q31 {σ : Hp} {m : Nat} (h : MS σ m) : zQ σ m 42 = some (m + 31) := (h.2 31 (by decide) (by decide)).1
theorem MS.k31 {σ : Hp} {m : Nat} (h : MS σ m) : zK σ (m + 31) = 20 := (h.2 31 (by decide) (by decide)).2.1
theorem MS.n31 {σ : Hp} {m : Nat} (h : MS σ m) : zN σ (m + 31) = 7 := (h.2 31 (by decide) (by decide)).2.2
theorem MS.q32 {σ : Hp} {m : Nat} (h : MS σ m) : zQ σ m 43 = some (m + 32) := (h.2 32 (by decide) (by decide)).1
theorem MS.k32 {σ : Hp} {m : Nat} (h : MS σ m) : zK σ (m + 32) = 20 := (h.2 32 (by decide) (by decide)).2.1
theorem MS.n32 {σ : Hp} {m : Nat} (h : MS σ m) : zN σ (m + 32) = 20 := (h.2 32 (by decide) (by decide)).2.2
theorem MS.q33 {σ : Hp} {m : Nat} (h : MS σ m) : zQ σ m 45 = some (m + 33) := (h.2 33 (by decide) (by decide)).1
theorem MS.k33 {σ : Hp} {m : Nat} (h : MS σ m) : zK σ (m + 33) = 20 := (h.2 33 (by decide) (by decide)).2.1
theorem MS.n33 {σ : Hp} {m : Nat} (h : MS σ m) : zN σ (m + 33) = 96 := (h.2 33 (by decide) (by decide)).2.2
theorem MS.q34 {σ : Hp} {m : Nat} (h : MS σ m) : zQ σ m 46 = some (m + 34) := (h.2 34 (by decide) (by decide)).1
theorem MS.k34 {σ : Hp} {m : Nat} (h : MS σ m) : zK σ (m + 34) = 20 := (h.2 34 (by decide) (by decide)).2.1
theorem MS.n34 {σ : Hp} {m : Nat} (h : MS σ m) : zN σ (m + 34) = 96 := (h.2 34 (by decide) (by decide)).2.2
theorem MS.q35 {σ : Hp} {m : Nat} (h : MS σ m) : zQ σ m 47 = some (m + 35) := (h.2 35 (by decide) (by decide)).1
theorem MS.k35 {σ : Hp} {m : Nat} (h : MS σ m) : zK σ (m + 35) = 20 := (h.2 35 (by decide) (by decide)).2.1
theorem MS.n35 {σ : Hp} {m : Nat} (h : MS σ m) : zN σ (m + 35) = 384 := (h.2 35 (by decide) (by decide)).2.2
theorem MS.q36 {σ : Hp} {m : Nat} (h : MS σ m) : zQ σ m 48 = some (m + 36) := (h.2 36 (by decide) (by decide)).1
theorem MS.k36 {σ : Hp} {m : Nat} (h : MS σ m) : zK σ (m + 36) = 20 := (h.2 36 (by decide) (by decide)).2.1
theorem MS.n36 {σ : Hp} {m : Nat} (h : MS σ m) : zN σ (m + 36) = 8 := (h.2 36 (by decide) (by decide)).2.2
theorem MS.q37 {σ : Hp} {m : Nat} (h : MS σ m) : zQ σ m 49 = some (m + 37) := (h.2 37 (by decide) (by decide)).1
theorem MS.k37 {σ : Hp} {m : Nat} (h : MS σ m) : zK σ (m + 37) = 20 := (h.2 37 (by decide) (by decide)).2.1
theorem MS.n37 {σ : Hp} {m : Nat} (h : MS σ m) : zN σ (m + 37) = 10 := (h.2 37 (by decide) (by decide)).2.2
theorem MS.q38 {σ : Hp} {m : Nat} (h : MS σ m) : zQ σ m 50 = some (m + 38) := (h.2 38 (by decide) (by decide)).1
theorem MS.k38 {σ : Hp} {m : Nat} (h : MS σ m) : zK σ (m + 38) = 20 := (h.2 38 (by decide) (by decide)).2.1
theorem MS.n38 {σ : Hp} {m : Nat} (h : MS σ m) : zN σ (m + 38) = 10 := (h.2 38 (by decide) (by decide)).2.2
theorem MS.q39 {σ : Hp} {m : Nat} (h : MS σ m) : zQ σ m 53 = some (m + 39) := (h.2 39 (by decide) (by decide)).1
theorem MS.k39 {σ : Hp} {m : Nat} (h : MS σ m) : zK σ (m + 39) = 20 := (h.2 39 (by decide) (by decide)).2.1
theorem MS.n39 {σ : Hp} {m : Nat} (h : MS σ m) : zN σ (m + 39) = 8 := (h.2 39 (by decide) (by decide)).2.2
theorem MS.q40 {σ : Hp} {m : Nat} (h : MS σ m) : zQ σ m 54 = some (m + 40) := (h.2 40 (by decide) (by decide)).1
theorem MS.k40 {σ : Hp} {m : Nat} (h : MS σ m) : zK σ (m + 40) = 20 := (h.2 40 (by decide) (by decide)).2.1
theorem MS.n40 {σ : Hp} {m : Nat} (h : MS σ m) : zN σ (m + 40) = 8 := (h.2 40 (by decide) (by decide)).2.2
theorem MS.q41 {σ : Hp} {m : Nat} (h : MS σ m) : zQ σ m 56 = some (m + 41) := (h.2 41 (by decide) (by decide)).1
theorem MS.k41 {σ : Hp} {m : Nat} (h : MS σ m) : zK σ (m + 41) = 23 := (h.2 41 (by decide) (by decide)).2.1
theorem MS.n41 {σ : Hp} {m : Nat} (h : MS σ m) : zN σ (m + 41) = 4 := (h.2 41 (by decide) (by decide)).2.2
abbrev VT : Type := Nat → Nat → Int32
abbrev UT : Type := Nat → Nat → Int64
def sv (σ : Hp) (m : Nat) (V : VT) (U : UT) : Hp := (zK σ, zN σ, fun a i => if m ≤ a ∧ a < m + 42 then V (a - m) i else zI σ a i, fun a i => if m ≤ a ∧ a < m + 42 then U (a - m) i else zJ σ a i, zQ σ, zX σ, zS σ)
section SV
variable {G : GG} {M : MI} {pc : Nat} {L : List (Option Value)} {st : List Value} {σ : Hp} {d : Nat} {Q : Option Value → Hp → Prop} {m : Nat} {V : VT} {U : UT} {o n N : Nat} {i : Int32}
theorem zI_sv (h : o < 42) : zI (sv σ m V U) (m + o) n = V o n := by
  show (if m ≤ m + o ∧ m + o < m + 42 then V (m + o - m) n else zI σ (m + o) n) = V o n
  rw [if_pos ⟨by omega, by omega⟩, Nat.add_sub_cancel_left]
theorem zJ_sv (h : o < 42) : zJ (sv σ m V U) (m + o) n = U o n := by
  show (if m ≤ m + o ∧ m + o < m + 42 then U (m + o - m) n else zJ σ (m + o) n) = U o n
  rw [if_pos ⟨by omega, by omega⟩, Nat.add_sub_cancel_left]
theorem sv_wI (h : o < 42) (x : Int32) : wI (sv σ m V U) (m + o) n x = sv σ m (up2 V o n x) U := by
  show (zK σ, zN σ, up2 (zI (sv σ m V U)) (m + o) n x, zJ (sv σ m V U), zQ σ, zX σ, zS σ) = _
  have e : up2 (zI (sv σ m V U)) (m + o) n x = fun a i => if m ≤ a ∧ a < m + 42 then up2 V o n x (a - m) i else zI σ a i := by
    funext a i
    show (if a = m + o ∧ i = n then x else if m ≤ a ∧ a < m + 42 then V (a - m) i else zI σ a i) = if m ≤ a ∧ a < m + 42 then (if a - m = o ∧ i = n then x else V (a - m) i) else zI σ a i
    by_cases c1 : m ≤ a ∧ a < m + 42
    · rw [if_pos c1, if_pos c1]
      by_cases c2 : a = m + o ∧ i = n
      · rw [if_pos c2, if_pos ⟨by omega, c2.2⟩]
      · rw [if_neg c2, if_neg (fun q => c2 ⟨by omega, q.2⟩)]
    · rw [if_neg c1, if_neg c1, if_neg (fun q => c1 (by omega))]
  rw [e]
  rfl
theorem sv_wJ (h : o < 42) (x : Int64) : wJ (sv σ m V U) (m + o) n x = sv σ m V (up2 U o n x) := by
  show (zK σ, zN σ, zI (sv σ m V U), up2 (zJ (sv σ m V U)) (m + o) n x, zQ σ, zX σ, zS σ) = _
  have e : up2 (zJ (sv σ m V U)) (m + o) n x = fun a i => if m ≤ a ∧ a < m + 42 then up2 U o n x (a - m) i else zJ σ a i := by
    funext a i
    show (if a = m + o ∧ i = n then x else if m ≤ a ∧ a < m + 42 then U (a - m) i else zJ σ a i) = if m ≤ a ∧ a < m + 42 then (if a - m = o ∧ i = n then x else U (a - m) i) else zJ σ a i
    by_cases c1 : m ≤ a ∧ a < m + 42
    · rw [if_pos c1, if_pos c1]
      by_cases c2 : a = m + o ∧ i = n
      · rw [if_pos c2, if_pos ⟨by omega, c2.2⟩]
      · rw [if_neg c2, if_neg (fun q => c2 ⟨by omega, q.2⟩)]
    · rw [if_neg c1, if_neg c1, if_neg (fun q => c1 (by omega))]
  rw [e]
  rfl
theorem hm_ild (ho : o < 42) (hd : decode M.2.1 pc = .ok (.iaload, 1)) (hK : zK σ (m + o) = 20) (hN : zN σ (m + o) = N) (hi : i = nI n) (h : n < N) (hb : N < 2 ^ 31) (kk : HT G M (pc + 1) L (.int (V o n) :: st) (sv σ m V U) d Q) : HT G M pc L (.int i :: .ref (m + o) :: st) (sv σ m V U) d Q :=
  ht_ild hd hK hN hi h hb (by rw [zI_sv ho]; exact kk)
theorem hm_zld (ho : o < 42) (hd : decode M.2.1 pc = .ok (.baload, 1)) (hK : zK σ (m + o) = 23) (hN : zN σ (m + o) = N) (hi : i = nI n) (h : n < N) (hb : N < 2 ^ 31) (kk : HT G M (pc + 1) L (.int (V o n) :: st) (sv σ m V U) d Q) : HT G M pc L (.int i :: .ref (m + o) :: st) (sv σ m V U) d Q :=
  ht_zld hd hK hN hi h hb (by rw [zI_sv ho]; exact kk)
theorem hm_lld (ho : o < 42) (hd : decode M.2.1 pc = .ok (.laload, 1)) (hK : zK σ (m + o) = 21) (hN : zN σ (m + o) = N) (hi : i = nI n) (h : n < N) (hb : N < 2 ^ 31) (kk : HT G M (pc + 1) L (.long (U o n) :: st) (sv σ m V U) d Q) : HT G M pc L (.int i :: .ref (m + o) :: st) (sv σ m V U) d Q :=
  ht_lld hd hK hN hi h hb (by rw [zJ_sv ho]; exact kk)
theorem hm_ist {x : Int32} (ho : o < 42) (hd : decode M.2.1 pc = .ok (.iastore, 1)) (hK : zK σ (m + o) = 20) (hN : zN σ (m + o) = N) (hi : i = nI n) (h : n < N) (hb : N < 2 ^ 31) (kk : HT G M (pc + 1) L st (sv σ m (up2 V o n x) U) d Q) : HT G M pc L (.int x :: .int i :: .ref (m + o) :: st) (sv σ m V U) d Q :=
  ht_ist hd hK hN hi h hb (by rw [sv_wI ho]; exact kk)
theorem hm_zst {x y : Int32} (ho : o < 42) (hd : decode M.2.1 pc = .ok (.bastore, 1)) (hK : zK σ (m + o) = 23) (hN : zN σ (m + o) = N) (hi : i = nI n) (h : n < N) (hb : N < 2 ^ 31) (hn : narrow .boolean (.int x) = .int y) (kk : HT G M (pc + 1) L st (sv σ m (up2 V o n y) U) d Q) : HT G M pc L (.int x :: .int i :: .ref (m + o) :: st) (sv σ m V U) d Q :=
  ht_zst hd hK hN hi h hb hn (by rw [sv_wI ho]; exact kk)
theorem hm_lst {x : Int64} (ho : o < 42) (hd : decode M.2.1 pc = .ok (.lastore, 1)) (hK : zK σ (m + o) = 21) (hN : zN σ (m + o) = N) (hi : i = nI n) (h : n < N) (hb : N < 2 ^ 31) (kk : HT G M (pc + 1) L st (sv σ m V (up2 U o n x)) d Q) : HT G M pc L (.long x :: .int i :: .ref (m + o) :: st) (sv σ m V U) d Q :=
  ht_lst hd hK hN hi h hb (by rw [sv_wJ ho]; exact kk)
theorem zI_sv0 : zI (sv σ m V U) m n = V 0 n := zI_sv (o := 0) (by decide)
theorem zJ_sv0 : zJ (sv σ m V U) m n = U 0 n := zJ_sv (o := 0) (by decide)
theorem sv_wI0 (x : Int32) : wI (sv σ m V U) m n x = sv σ m (up2 V 0 n x) U := sv_wI (o := 0) (by decide) x
theorem sv_wJ0 (x : Int64) : wJ (sv σ m V U) m n x = sv σ m V (up2 U 0 n x) := sv_wJ (o := 0) (by decide) x
theorem gm_X10_135 (hM : MS σ m) (hc : M.1.cls = RX10) (hd : decode M.2.1 pc = .ok (.getfield 135, 3)) (kk : HT G M (pc + 3) L (.int (V 0 0) :: st) (sv σ m V U) d Q) : HT G M pc L (.ref m :: st) (sv σ m V U) d Q := gf_X10_135 hc hd hM.k0 (by rw [zI_sv0]; exact kk)
theorem pm_X10_135 {x : Int32} (hM : MS σ m) (hc : M.1.cls = RX10) (hd : decode M.2.1 pc = .ok (.putfield 135, 3)) (kk : HT G M (pc + 3) L st (sv σ m (up2 V 0 0 x) U) d Q) : HT G M pc L (.int x :: .ref m :: st) (sv σ m V U) d Q := pf_X10_135 hc hd hM.k0 (by rw [sv_wI0]; exact kk)
theorem gm_X10_141 (hM : MS σ m) (hc : M.1.cls = RX10) (hd : decode M.2.1 pc = .ok (.getfield 141, 3)) (kk : HT G M (pc + 3) L (.int (V 0 1) :: st) (sv σ m V U) d Q) : HT G M pc L (.ref m :: st) (sv σ m V U) d Q := gf_X10_141 hc hd hM.k0 (by rw [zI_sv0]; exact kk)
theorem pm_X10_141 {x : Int32} (hM : MS σ m) (hc : M.1.cls = RX10) (hd : decode M.2.1 pc = .ok (.putfield 141, 3)) (kk : HT G M (pc + 3) L st (sv σ m (up2 V 0 1 x) U) d Q) : HT G M pc L (.int x :: .ref m :: st) (sv σ m V U) d Q := pf_X10_141 hc hd hM.k0 (by rw [sv_wI0]; exact kk)
theorem gm_X10_144 (hM : MS σ m) (hc : M.1.cls = RX10) (hd : decode M.2.1 pc = .ok (.getfield 144, 3)) (kk : HT G M (pc + 3) L (.int (V 0 3) :: st) (sv σ m V U) d Q) : HT G M pc L (.ref m :: st) (sv σ m V U) d Q := gf_X10_144 hc hd hM.k0 (by rw [zI_sv0]; exact kk)
theorem pm_X10_144 {x : Int32} (hM : MS σ m) (hc : M.1.cls = RX10) (hd : decode M.2.1 pc = .ok (.putfield 144, 3)) (kk : HT G M (pc + 3) L st (sv σ m (up2 V 0 3 x) U) d Q) : HT G M pc L (.int x :: .ref m :: st) (sv σ m V U) d Q := pf_X10_144 hc hd hM.k0 (by rw [sv_wI0]; exact kk)
theorem gm_X10_147 (hM : MS σ m) (hc : M.1.cls = RX10) (hd : decode M.2.1 pc = .ok (.getfield 147, 3)) (kk : HT G M (pc + 3) L (.int (V 0 4) :: st) (sv σ m V U) d Q) : HT G M pc L (.ref m :: st) (sv σ m V U) d Q := gf_X10_147 hc hd hM.k0 (by rw [zI_sv0]; exact kk)
theorem pm_X10_147 {x : Int32} (hM : MS σ m) (hc : M.1.cls = RX10) (hd : decode M.2.1 pc = .ok (.putfield 147, 3)) (kk : HT G M (pc + 3) L st (sv σ m (up2 V 0 4 x) U) d Q) : HT G M pc L (.int x :: .ref m :: st) (sv σ m V U) d Q := pf_X10_147 hc hd hM.k0 (by rw [sv_wI0]; exact kk)
theorem gm_X10_150 (hM : MS σ m) (hc : M.1.cls = RX10) (hd : decode M.2.1 pc = .ok (.getfield 150, 3)) (kk : HT G M (pc + 3) L (.int (V 0 5) :: st) (sv σ m V U) d Q) : HT G M pc L (.ref m :: st) (sv σ m V U) d Q := gf_X10_150 hc hd hM.k0 (by rw [zI_sv0]; exact kk)
theorem pm_X10_150 {x : Int32} (hM : MS σ m) (hc : M.1.cls = RX10) (hd : decode M.2.1 pc = .ok (.putfield 150, 3)) (kk : HT G M (pc + 3) L st (sv σ m (up2 V 0 5 x) U) d Q) : HT G M pc L (.int x :: .ref m :: st) (sv σ m V U) d Q := pf_X10_150 hc hd hM.k0 (by rw [sv_wI0]; exact kk)
theorem gm_X10_160 (hM : MS σ m) (hc : M.1.cls = RX10) (hd : decode M.2.1 pc = .ok (.getfield 160, 3)) (kk : HT G M (pc + 3) L (.int (V 0 6) :: st) (sv σ m V U) d Q) : HT G M pc L (.ref m :: st) (sv σ m V U) d Q := gf_X10_160 hc hd hM.k0 (by rw [zI_sv0]; exact kk)
theorem pm_X10_160 {x : Int32} (hM : MS σ m) (hc : M.1.cls = RX10) (hd : decode M.2.1 pc = .ok (.putfield 160, 3)) (kk : HT G M (pc + 3) L st (sv σ m (up2 V 0 6 x) U) d Q) : HT G M pc L (.int x :: .ref m :: st) (sv σ m V U) d Q := pf_X10_160 hc hd hM.k0 (by rw [sv_wI0]; exact kk)
theorem gm_X10_153 (hM : MS σ m) (hc : M.1.cls = RX10) (hd : decode M.2.1 pc = .ok (.getfield 153, 3)) (kk : HT G M (pc + 3) L (.long (U 0 7) :: st) (sv σ m V U) d Q) : HT G M pc L (.ref m :: st) (sv σ m V U) d Q := gf_X10_153 hc hd hM.k0 (by rw [zJ_sv0]; exact kk)
theorem pm_X10_153 {x : Int64} (hM : MS σ m) (hc : M.1.cls = RX10) (hd : decode M.2.1 pc = .ok (.putfield 153, 3)) (kk : HT G M (pc + 3) L st (sv σ m V (up2 U 0 7 x)) d Q) : HT G M pc L (.long x :: .ref m :: st) (sv σ m V U) d Q := pf_X10_153 hc hd hM.k0 (by rw [sv_wJ0]; exact kk)
theorem gm_X10_157 (hM : MS σ m) (hc : M.1.cls = RX10) (hd : decode M.2.1 pc = .ok (.getfield 157, 3)) (kk : HT G M (pc + 3) L (.int (V 0 8) :: st) (sv σ m V U) d Q) : HT G M pc L (.ref m :: st) (sv σ m V U) d Q := gf_X10_157 hc hd hM.k0 (by rw [zI_sv0]; exact kk)
theorem pm_X10_157 {x : Int32} (hM : MS σ m) (hc : M.1.cls = RX10) (hd : decode M.2.1 pc = .ok (.putfield 157, 3)) (kk : HT G M (pc + 3) L st (sv σ m (up2 V 0 8 x) U) d Q) : HT G M pc L (.int x :: .ref m :: st) (sv σ m V U) d Q := pf_X10_157 hc hd hM.k0 (by rw [sv_wI0]; exact kk)
theorem gm_X10_171 (hM : MS σ m) (hc : M.1.cls = RX10) (hd : decode M.2.1 pc = .ok (.getfield 171, 3)) (kk : HT G M (pc + 3) L (.int (V 0 9) :: st) (sv σ m V U) d Q) : HT G M pc L (.ref m :: st) (sv σ m V U) d Q := gf_X10_171 hc hd hM.k0 (by rw [zI_sv0]; exact kk)
theorem pm_X10_171 {x : Int32} (hM : MS σ m) (hc : M.1.cls = RX10) (hd : decode M.2.1 pc = .ok (.putfield 171, 3)) (kk : HT G M (pc + 3) L st (sv σ m (up2 V 0 9 x) U) d Q) : HT G M pc L (.int x :: .ref m :: st) (sv σ m V U) d Q := pf_X10_171 hc hd hM.k0 (by rw [sv_wI0]; exact kk)
theorem gm_X10_174 (hM : MS σ m) (hc : M.1.cls = RX10) (hd : decode M.2.1 pc = .ok (.getfield 174, 3)) (kk : HT G M (pc + 3) L (.int (V 0 29) :: st) (sv σ m V U) d Q) : HT G M pc L (.ref m :: st) (sv σ m V U) d Q := gf_X10_174 hc hd hM.k0 (by rw [zI_sv0]; exact kk)
theorem pm_X10_174 {x : Int32} (hM : MS σ m) (hc : M.1.cls = RX10) (hd : decode M.2.1 pc = .ok (.putfield 174, 3)) (kk : HT G M (pc + 3) L st (sv σ m (up2 V 0 29 x) U) d Q) : HT G M pc L (.int x :: .ref m :: st) (sv σ m V U) d Q := pf_X10_174 hc hd hM.k0 (by rw [sv_wI0]; exact kk)
theorem gm_X10_177 (hM : MS σ m) (hc : M.1.cls = RX10) (hd : decode M.2.1 pc = .ok (.getfield 177, 3)) (kk : HT G M (pc + 3) L (.int (V 0 30) :: st) (sv σ m V U) d Q) : HT G M pc L (.ref m :: st) (sv σ m V U) d Q := gf_X10_177 hc hd hM.k0 (by rw [zI_sv0]; exact kk)
theorem pm_X10_177 {x : Int32} (hM : MS σ m) (hc : M.1.cls = RX10) (hd : decode M.2.1 pc = .ok (.putfield 177, 3)) (hx : x = 0 ∨ x = 1) (kk : HT G M (pc + 3) L st (sv σ m (up2 V 0 30 x) U) d Q) : HT G M pc L (.int x :: .ref m :: st) (sv σ m V U) d Q := pf_X10_177 hc hd hM.k0 hx (by rw [sv_wI0]; exact kk)
theorem gm_X10_273 (hM : MS σ m) (hc : M.1.cls = RX10) (hd : decode M.2.1 pc = .ok (.getfield 273, 3)) (kk : HT G M (pc + 3) L (.int (V 0 31) :: st) (sv σ m V U) d Q) : HT G M pc L (.ref m :: st) (sv σ m V U) d Q := gf_X10_273 hc hd hM.k0 (by rw [zI_sv0]; exact kk)
theorem pm_X10_273 {x : Int32} (hM : MS σ m) (hc : M.1.cls = RX10) (hd : decode M.2.1 pc = .ok (.putfield 273, 3)) (hx : x = 0 ∨ x = 1) (kk : HT G M (pc + 3) L st (sv σ m (up2 V 0 31 x) U) d Q) : HT G M pc L (.int x :: .ref m :: st) (sv σ m V U) d Q := pf_X10_273 hc hd hM.k0 hx (by rw [sv_wI0]; exact kk)
theorem gm_X10_267 (hM : MS σ m) (hc : M.1.cls = RX10) (hd : decode M.2.1 pc = .ok (.getfield 267, 3)) (kk : HT G M (pc + 3) L (.int (V 0 44) :: st) (sv σ m V U) d Q) : HT G M pc L (.ref m :: st) (sv σ m V U) d Q := gf_X10_267 hc hd hM.k0 (by rw [zI_sv0]; exact kk)
theorem pm_X10_267 {x : Int32} (hM : MS σ m) (hc : M.1.cls = RX10) (hd : decode M.2.1 pc = .ok (.putfield 267, 3)) (kk : HT G M (pc + 3) L st (sv σ m (up2 V 0 44 x) U) d Q) : HT G M pc L (.int x :: .ref m :: st) (sv σ m V U) d Q := pf_X10_267 hc hd hM.k0 (by rw [sv_wI0]; exact kk)
theorem gm_X10_412 (hM : MS σ m) (hc : M.1.cls = RX10) (hd : decode M.2.1 pc = .ok (.getfield 412, 3)) (kk : HT G M (pc + 3) L (.int (V 0 51) :: st) (sv σ m V U) d Q) : HT G M pc L (.ref m :: st) (sv σ m V U) d Q := gf_X10_412 hc hd hM.k0 (by rw [zI_sv0]; exact kk)
theorem pm_X10_412 {x : Int32} (hM : MS σ m) (hc : M.1.cls = RX10) (hd : decode M.2.1 pc = .ok (.putfield 412, 3)) (kk : HT G M (pc + 3) L st (sv σ m (up2 V 0 51 x) U) d Q) : HT G M pc L (.int x :: .ref m :: st) (sv σ m V U) d Q := pf_X10_412 hc hd hM.k0 (by rw [sv_wI0]; exact kk)
theorem gm_X10_415 (hM : MS σ m) (hc : M.1.cls = RX10) (hd : decode M.2.1 pc = .ok (.getfield 415, 3)) (kk : HT G M (pc + 3) L (.int (V 0 52) :: st) (sv σ m V U) d Q) : HT G M pc L (.ref m :: st) (sv σ m V U) d Q := gf_X10_415 hc hd hM.k0 (by rw [zI_sv0]; exact kk)
theorem pm_X10_415 {x : Int32} (hM : MS σ m) (hc : M.1.cls = RX10) (hd : decode M.2.1 pc = .ok (.putfield 415, 3)) (kk : HT G M (pc + 3) L st (sv σ m (up2 V 0 52 x) U) d Q) : HT G M pc L (.int x :: .ref m :: st) (sv σ m V U) d Q := pf_X10_415 hc hd hM.k0 (by rw [sv_wI0]; exact kk)
theorem gm_X10_428 (hM : MS σ m) (hc : M.1.cls = RX10) (hd : decode M.2.1 pc = .ok (.getfield 428, 3)) (kk : HT G M (pc + 3) L (.long (U 0 55) :: st) (sv σ m V U) d Q) : HT G M pc L (.ref m :: st) (sv σ m V U) d Q := gf_X10_428 hc hd hM.k0 (by rw [zJ_sv0]; exact kk)
theorem pm_X10_428 {x : Int64} (hM : MS σ m) (hc : M.1.cls = RX10) (hd : decode M.2.1 pc = .ok (.putfield 428, 3)) (kk : HT G M (pc + 3) L st (sv σ m V (up2 U 0 55 x)) d Q) : HT G M pc L (.long x :: .ref m :: st) (sv σ m V U) d Q := pf_X10_428 hc hd hM.k0 (by rw [sv_wJ0]; exact kk)
end SV
def b01 (p : Prop) [Decidable p] : Int32 := if p then 1 else 0
theorem b01_t {p : Prop} [Decidable p] (h : p) : b01 p = 1 := if_pos h
theorem b01_f {p : Prop} [Decidable p] (h : ¬ p) : b01 p = 0 := if_neg h
theorem b01_ne {p : Prop} [Decidable p] (h : ¬ b01 p = 0) : p := by
  by_cases c : p
  · exact c
  · exact absurd (b01_f c) h
theorem b01_eq {p : Prop} [Decidable p] (h : b01 p = 0) : ¬ p := by
  intro c
  rw [b01_t c] at h
  exact absurd h (by decide)
theorem nI_i1 (n : Nat) : nI n + Int32.ofInt 1 = nI (n + 1) := by
  rw [show Int32.ofInt 1 = (1 : Int32) from rfl]
  exact nI_1 n
theorem ht_cast {G : GG} {M : MI} {pc : Nat} {L L' : List (Option Value)} {st st' : List Value} {σ σ' : Hp} {d : Nat} {Q : Option Value → Hp → Prop} (h : HT G M pc L' st' σ' d Q) (h1 : L = L') (h2 : st = st') (h3 : σ = σ') : HT G M pc L st σ d Q := by
  subst h1; subst h2; subst h3
  exact h
theorem i_lt {x y : Int32} : x < y ↔ x.toInt < y.toInt := Int32.lt_iff_toInt_lt
theorem i_le {x y : Int32} : x ≤ y ↔ x.toInt ≤ y.toInt := Int32.le_iff_toInt_le
theorem i_eq {x y : Int32} : x = y ↔ x.toInt = y.toInt := Int32.toInt_inj.symm
