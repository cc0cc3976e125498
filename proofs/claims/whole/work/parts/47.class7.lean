/-! ===== the class: copies of nights, beginnings, salt ===== -/
section C7r
variable {G : GG} {M : MI} {pc : Nat} {L : List (Option Value)} {st : List Value} {σ : Hp} {d : Nat} {Q : Option Value → Hp → Prop} {a : Nat} {Z : VT} {n N : Nat} {i : Int32}
theorem hi_acopy {a0 n0 n1 idx : Nat} {z0 z1 : Int32} (hl1 : Cond.methodLink M.1.cls idx arraycopyName ∈ WS) (hl2 : Cond.native arraycopyName ∈ WS) (hl3 : Cond.static arraycopyName ∈ WS) (hl4 : Cond.initialized "java/lang/System" ∈ WS) (hd : decode M.2.1 pc = .ok (.invokestatic idx, 3)) (hK0 : zK σ a0 = 20) (hK : zK σ a = 20) (hne : a0 ≠ a) (hN0 : zN σ a0 = n0) (hN : zN σ a = n1) (hz0 : z0 = 0) (hz1 : z1 = 0) (hi : i = nI n) (h0 : n ≤ n0) (h1 : n ≤ n1) (hb : n < 2 ^ 31) (hr : (st.map fun v => v.category).sum ≤ 8) (hdd : 1 ≤ d)
    (kk : HT G M (pc + 3) L st (cv σ (va_up Z a (va_cpy (Z a0) (Z a) 0 0 n))) d Q) : HT G M pc L (.int i :: .int z1 :: .ref a :: .int z0 :: .ref a0 :: st) (cv σ Z) d Q := ht_acopy (σ := cv σ Z) hl1 hl2 hl3 hl4 hd hK0 hK hne hN0 hN hz0 hz1 hi h0 h1 hb hr hdd kk
theorem pq_X6_9 (x : Option Nat) (hc : M.1.cls = RX6) (hN : M.1.name = "<init>") (hd : decode M.2.1 pc = .ok (.putfield 9, 3)) (hK : zK σ a = 6) (kk : HT G M (pc + 3) L st (cv (wQ σ a 0 x) Z) d Q) : HT G M pc L (va_rf x :: .ref a :: st) (cv σ Z) d Q := pf_X6_9 (σ := cv σ Z) x hc hN hd hK kk
theorem pq_X5_116 (x : Option Nat) (hc : M.1.cls = RX5) (hd : decode M.2.1 pc = .ok (.putfield 116, 3)) (hK : zK σ a = 2) (kk : HT G M (pc + 3) L st (cv (wQ σ a 5 x) Z) d Q) : HT G M pc L (va_rf x :: .ref a :: st) (cv σ Z) d Q := pf_X5_116 (σ := cv σ Z) x hc hd hK kk
theorem pq_X5_120 (x : Option Nat) (hc : M.1.cls = RX5) (hd : decode M.2.1 pc = .ok (.putfield 120, 3)) (hK : zK σ a = 2) (kk : HT G M (pc + 3) L st (cv (wQ σ a 6 x) Z) d Q) : HT G M pc L (va_rf x :: .ref a :: st) (cv σ Z) d Q := pf_X5_120 (σ := cv σ Z) x hc hd hK kk
theorem pq_X2_9 (x : Option Nat) (hc : M.1.cls = RX2) (hN : M.1.name = "<init>") (hd : decode M.2.1 pc = .ok (.putfield 9, 3)) (hK : zK σ a = 2) (kk : HT G M (pc + 3) L st (cv (wQ σ a 7 x) Z) d Q) : HT G M pc L (va_rf x :: .ref a :: st) (cv σ Z) d Q := pf_X2_9 (σ := cv σ Z) x hc hN hd hK kk
theorem pq_X2_15 (x : Option Nat) (hc : M.1.cls = RX2) (hN : M.1.name = "<init>") (hd : decode M.2.1 pc = .ok (.putfield 15, 3)) (hK : zK σ a = 2) (kk : HT G M (pc + 3) L st (cv (wQ σ a 8 x) Z) d Q) : HT G M pc L (va_rf x :: .ref a :: st) (cv σ Z) d Q := pf_X2_15 (σ := cv σ Z) x hc hN hd hK kk
theorem pq_X2_18 (x : Option Nat) (hc : M.1.cls = RX2) (hN : M.1.name = "<init>") (hd : decode M.2.1 pc = .ok (.putfield 18, 3)) (hK : zK σ a = 2) (kk : HT G M (pc + 3) L st (cv (wQ σ a 9 x) Z) d Q) : HT G M pc L (va_rf x :: .ref a :: st) (cv σ Z) d Q := pf_X2_18 (σ := cv σ Z) x hc hN hd hK kk
theorem pq_X2_21 (x : Option Nat) (hc : M.1.cls = RX2) (hN : M.1.name = "<init>") (hd : decode M.2.1 pc = .ok (.putfield 21, 3)) (hK : zK σ a = 2) (kk : HT G M (pc + 3) L st (cv (wQ σ a 10 x) Z) d Q) : HT G M pc L (va_rf x :: .ref a :: st) (cv σ Z) d Q := pf_X2_21 (σ := cv σ Z) x hc hN hd hK kk
theorem pq_X2_24 (x : Option Nat) (hc : M.1.cls = RX2) (hN : M.1.name = "<init>") (hd : decode M.2.1 pc = .ok (.putfield 24, 3)) (hK : zK σ a = 2) (kk : HT G M (pc + 3) L st (cv (wQ σ a 11 x) Z) d Q) : HT G M pc L (va_rf x :: .ref a :: st) (cv σ Z) d Q := pf_X2_24 (σ := cv σ Z) x hc hN hd hK kk
theorem pq_X2_27 (x : Option Nat) (hc : M.1.cls = RX2) (hN : M.1.name = "<init>") (hd : decode M.2.1 pc = .ok (.putfield 27, 3)) (hK : zK σ a = 2) (kk : HT G M (pc + 3) L st (cv (wQ σ a 12 x) Z) d Q) : HT G M pc L (va_rf x :: .ref a :: st) (cv σ Z) d Q := pf_X2_27 (σ := cv σ Z) x hc hN hd hK kk
theorem pq_X2_30 (x : Option Nat) (hc : M.1.cls = RX2) (hN : M.1.name = "<init>") (hd : decode M.2.1 pc = .ok (.putfield 30, 3)) (hK : zK σ a = 2) (kk : HT G M (pc + 3) L st (cv (wQ σ a 13 x) Z) d Q) : HT G M pc L (va_rf x :: .ref a :: st) (cv σ Z) d Q := pf_X2_30 (σ := cv σ Z) x hc hN hd hK kk
theorem pq_X2_33 (x : Option Nat) (hc : M.1.cls = RX2) (hN : M.1.name = "<init>") (hd : decode M.2.1 pc = .ok (.putfield 33, 3)) (hK : zK σ a = 2) (kk : HT G M (pc + 3) L st (cv (wQ σ a 14 x) Z) d Q) : HT G M pc L (va_rf x :: .ref a :: st) (cv σ Z) d Q := pf_X2_33 (σ := cv σ Z) x hc hN hd hK kk
theorem pq_X2_36 (x : Option Nat) (hc : M.1.cls = RX2) (hN : M.1.name = "<init>") (hd : decode M.2.1 pc = .ok (.putfield 36, 3)) (hK : zK σ a = 2) (kk : HT G M (pc + 3) L st (cv (wQ σ a 15 x) Z) d Q) : HT G M pc L (va_rf x :: .ref a :: st) (cv σ Z) d Q := pf_X2_36 (σ := cv σ Z) x hc hN hd hK kk
theorem pq_X2_39 (x : Option Nat) (hc : M.1.cls = RX2) (hN : M.1.name = "<init>") (hd : decode M.2.1 pc = .ok (.putfield 39, 3)) (hK : zK σ a = 2) (kk : HT G M (pc + 3) L st (cv (wQ σ a 16 x) Z) d Q) : HT G M pc L (va_rf x :: .ref a :: st) (cv σ Z) d Q := pf_X2_39 (σ := cv σ Z) x hc hN hd hK kk
theorem pq_X4_31 (x : Option Nat) (hc : M.1.cls = RX4) (hd : decode M.2.1 pc = .ok (.putfield 31, 3)) (hK : zK σ a = 4) (kk : HT G M (pc + 3) L st (cv (wQ σ a 0 x) Z) d Q) : HT G M pc L (va_rf x :: .ref a :: st) (cv σ Z) d Q := pf_X4_31 (σ := cv σ Z) x hc hd hK kk
theorem pq_X4_9 (x : Option Nat) (hc : M.1.cls = RX4) (hN : M.1.name = "<init>") (hd : decode M.2.1 pc = .ok (.putfield 9, 3)) (hK : zK σ a = 4) (kk : HT G M (pc + 3) L st (cv (wQ σ a 3 x) Z) d Q) : HT G M pc L (va_rf x :: .ref a :: st) (cv σ Z) d Q := pf_X4_9 (σ := cv σ Z) x hc hN hd hK kk
theorem pq_X4_15 (x : Option Nat) (hc : M.1.cls = RX4) (hN : M.1.name = "<init>") (hd : decode M.2.1 pc = .ok (.putfield 15, 3)) (hK : zK σ a = 4) (kk : HT G M (pc + 3) L st (cv (wQ σ a 4 x) Z) d Q) : HT G M pc L (va_rf x :: .ref a :: st) (cv σ Z) d Q := pf_X4_15 (σ := cv σ Z) x hc hN hd hK kk
theorem pq_X4_18 (x : Option Nat) (hc : M.1.cls = RX4) (hN : M.1.name = "<init>") (hd : decode M.2.1 pc = .ok (.putfield 18, 3)) (hK : zK σ a = 4) (kk : HT G M (pc + 3) L st (cv (wQ σ a 5 x) Z) d Q) : HT G M pc L (va_rf x :: .ref a :: st) (cv σ Z) d Q := pf_X4_18 (σ := cv σ Z) x hc hN hd hK kk
theorem pq_X4_23 (x : Option Nat) (hc : M.1.cls = RX4) (hN : M.1.name = "<init>") (hd : decode M.2.1 pc = .ok (.putfield 23, 3)) (hK : zK σ a = 4) (kk : HT G M (pc + 3) L st (cv (wQ σ a 6 x) Z) d Q) : HT G M pc L (va_rf x :: .ref a :: st) (cv σ Z) d Q := pf_X4_23 (σ := cv σ Z) x hc hN hd hK kk
theorem pq_X4_27 (x : Option Nat) (hc : M.1.cls = RX4) (hN : M.1.name = "<init>") (hd : decode M.2.1 pc = .ok (.putfield 27, 3)) (hK : zK σ a = 4) (kk : HT G M (pc + 3) L st (cv (wQ σ a 7 x) Z) d Q) : HT G M pc L (va_rf x :: .ref a :: st) (cv σ Z) d Q := pf_X4_27 (σ := cv σ Z) x hc hN hd hK kk
theorem pq_X9_12 (x : Option Nat) (hc : M.1.cls = RX9) (hN : M.1.name = "<init>") (hd : decode M.2.1 pc = .ok (.putfield 12, 3)) (hK : zK σ a = 8) (kk : HT G M (pc + 3) L st (cv (wQ σ a 0 x) Z) d Q) : HT G M pc L (va_rf x :: .ref a :: st) (cv σ Z) d Q := pf_X9_12 (σ := cv σ Z) x hc hN hd hK kk
theorem pq_X9_24 (x : Option Nat) (hc : M.1.cls = RX9) (hN : M.1.name = "<init>") (hd : decode M.2.1 pc = .ok (.putfield 24, 3)) (hK : zK σ a = 8) (kk : HT G M (pc + 3) L st (cv (wQ σ a 1 x) Z) d Q) : HT G M pc L (va_rf x :: .ref a :: st) (cv σ Z) d Q := pf_X9_24 (σ := cv σ Z) x hc hN hd hK kk
theorem pq_X9_28 (x : Option Nat) (hc : M.1.cls = RX9) (hN : M.1.name = "<init>") (hd : decode M.2.1 pc = .ok (.putfield 28, 3)) (hK : zK σ a = 8) (kk : HT G M (pc + 3) L st (cv (wQ σ a 2 x) Z) d Q) : HT G M pc L (va_rf x :: .ref a :: st) (cv σ Z) d Q := pf_X9_28 (σ := cv σ Z) x hc hN hd hK kk
theorem pq_X9_31 (x : Option Nat) (hc : M.1.cls = RX9) (hN : M.1.name = "<init>") (hd : decode M.2.1 pc = .ok (.putfield 31, 3)) (hK : zK σ a = 8) (kk : HT G M (pc + 3) L st (cv (wQ σ a 3 x) Z) d Q) : HT G M pc L (va_rf x :: .ref a :: st) (cv σ Z) d Q := pf_X9_31 (σ := cv σ Z) x hc hN hd hK kk
theorem pq_X9_35 (x : Option Nat) (hc : M.1.cls = RX9) (hN : M.1.name = "<init>") (hd : decode M.2.1 pc = .ok (.putfield 35, 3)) (hK : zK σ a = 8) (kk : HT G M (pc + 3) L st (cv (wQ σ a 4 x) Z) d Q) : HT G M pc L (va_rf x :: .ref a :: st) (cv σ Z) d Q := pf_X9_35 (σ := cv σ Z) x hc hN hd hK kk
theorem pq_X9_39 (x : Option Nat) (hc : M.1.cls = RX9) (hN : M.1.name = "<init>") (hd : decode M.2.1 pc = .ok (.putfield 39, 3)) (hK : zK σ a = 8) (kk : HT G M (pc + 3) L st (cv (wQ σ a 5 x) Z) d Q) : HT G M pc L (va_rf x :: .ref a :: st) (cv σ Z) d Q := pf_X9_39 (σ := cv σ Z) x hc hN hd hK kk
theorem pq_X9_42 (x : Option Nat) (hc : M.1.cls = RX9) (hN : M.1.name = "<init>") (hd : decode M.2.1 pc = .ok (.putfield 42, 3)) (hK : zK σ a = 8) (kk : HT G M (pc + 3) L st (cv (wQ σ a 6 x) Z) d Q) : HT G M pc L (va_rf x :: .ref a :: st) (cv σ Z) d Q := pf_X9_42 (σ := cv σ Z) x hc hN hd hK kk
theorem pq_X9_45 (x : Option Nat) (hc : M.1.cls = RX9) (hN : M.1.name = "<init>") (hd : decode M.2.1 pc = .ok (.putfield 45, 3)) (hK : zK σ a = 8) (kk : HT G M (pc + 3) L st (cv (wQ σ a 7 x) Z) d Q) : HT G M pc L (va_rf x :: .ref a :: st) (cv σ Z) d Q := pf_X9_45 (σ := cv σ Z) x hc hN hd hK kk
theorem pq_X9_48 (x : Option Nat) (hc : M.1.cls = RX9) (hN : M.1.name = "<init>") (hd : decode M.2.1 pc = .ok (.putfield 48, 3)) (hK : zK σ a = 8) (kk : HT G M (pc + 3) L st (cv (wQ σ a 8 x) Z) d Q) : HT G M pc L (va_rf x :: .ref a :: st) (cv σ Z) d Q := pf_X9_48 (σ := cv σ Z) x hc hN hd hK kk
theorem pq_X7_13 (x : Option Nat) (hc : M.1.cls = RX7) (hN : M.1.name = "<init>") (hd : decode M.2.1 pc = .ok (.putfield 13, 3)) (hK : zK σ a = 7) (kk : HT G M (pc + 3) L st (cv (wQ σ a 0 x) Z) d Q) : HT G M pc L (va_rf x :: .ref a :: st) (cv σ Z) d Q := pf_X7_13 (σ := cv σ Z) x hc hN hd hK kk
theorem pq_X7_33 (x : Option Nat) (hc : M.1.cls = RX7) (hd : decode M.2.1 pc = .ok (.putfield 33, 3)) (hK : zK σ a = 7) (kk : HT G M (pc + 3) L st (cv (wQ σ a 8 x) Z) d Q) : HT G M pc L (va_rf x :: .ref a :: st) (cv σ Z) d Q := pf_X7_33 (σ := cv σ Z) x hc hd hK kk
theorem pq_X5_12 (x : Option Nat) (hc : M.1.cls = RX5) (hN : M.1.name = "<init>") (hd : decode M.2.1 pc = .ok (.putfield 12, 3)) (hK : zK σ a = 5) (kk : HT G M (pc + 3) L st (cv (wQ σ a 0 x) Z) d Q) : HT G M pc L (va_rf x :: .ref a :: st) (cv σ Z) d Q := pf_X5_12 (σ := cv σ Z) x hc hN hd hK kk
theorem pq_X5_30 (x : Option Nat) (hc : M.1.cls = RX5) (hN : M.1.name = "<init>") (hd : decode M.2.1 pc = .ok (.putfield 30, 3)) (hK : zK σ a = 5) (kk : HT G M (pc + 3) L st (cv (wQ σ a 1 x) Z) d Q) : HT G M pc L (va_rf x :: .ref a :: st) (cv σ Z) d Q := pf_X5_30 (σ := cv σ Z) x hc hN hd hK kk
theorem pq_X5_18 (x : Option Nat) (hc : M.1.cls = RX5) (hN : M.1.name = "<init>") (hd : decode M.2.1 pc = .ok (.putfield 18, 3)) (hK : zK σ a = 5) (kk : HT G M (pc + 3) L st (cv (wQ σ a 2 x) Z) d Q) : HT G M pc L (va_rf x :: .ref a :: st) (cv σ Z) d Q := pf_X5_18 (σ := cv σ Z) x hc hN hd hK kk
theorem pq_X5_22 (x : Option Nat) (hc : M.1.cls = RX5) (hN : M.1.name = "<init>") (hd : decode M.2.1 pc = .ok (.putfield 22, 3)) (hK : zK σ a = 5) (kk : HT G M (pc + 3) L st (cv (wQ σ a 3 x) Z) d Q) : HT G M pc L (va_rf x :: .ref a :: st) (cv σ Z) d Q := pf_X5_22 (σ := cv σ Z) x hc hN hd hK kk
theorem pq_X5_38 (x : Option Nat) (hc : M.1.cls = RX5) (hN : M.1.name = "<init>") (hd : decode M.2.1 pc = .ok (.putfield 38, 3)) (hK : zK σ a = 5) (kk : HT G M (pc + 3) L st (cv (wQ σ a 4 x) Z) d Q) : HT G M pc L (va_rf x :: .ref a :: st) (cv σ Z) d Q := pf_X5_38 (σ := cv σ Z) x hc hN hd hK kk
theorem pq_X1_19 (x : Option Nat) (hc : M.1.cls = RX1) (hN : M.1.name = "<init>") (hd : decode M.2.1 pc = .ok (.putfield 19, 3)) (hK : zK σ a = 1) (kk : HT G M (pc + 3) L st (cv (wQ σ a 0 x) Z) d Q) : HT G M pc L (va_rf x :: .ref a :: st) (cv σ Z) d Q := pf_X1_19 (σ := cv σ Z) x hc hN hd hK kk
theorem pq_X1_9 (x : Option Nat) (hc : M.1.cls = RX1) (hN : M.1.name = "<init>") (hd : decode M.2.1 pc = .ok (.putfield 9, 3)) (hK : zK σ a = 1) (kk : HT G M (pc + 3) L st (cv (wQ σ a 1 x) Z) d Q) : HT G M pc L (va_rf x :: .ref a :: st) (cv σ Z) d Q := pf_X1_9 (σ := cv σ Z) x hc hN hd hK kk
theorem cpy_i {f g : Nat → Int32} {n i : Nat} (h : i < n) : va_cpy f g 0 0 n i = f i := by
  unfold va_cpy
  rw [if_pos ⟨by omega, by omega⟩]
  congr 1
  omega
theorem NtS.w0 {b a2 : Nat} {v : Option Nat} (h : NtS σ a2) (hk : zK σ a = 4) : NtS (wQ σ a 0 v) a2 := by
  refine ⟨h.1, fun o o1 o5 => ⟨?_, (h.2.1 o o1 o5).2⟩, fun j hj => ⟨?_, (h.2.2 j hj).2⟩⟩
  · rw [zQ_wQ, up2_k _ _ (by omega)]
    exact (h.2.1 o o1 o5).1
  · have hne : a2 + 4 ≠ a := fun e => by
      have q := h.k4
      rw [e, hk] at q
      exact absurd q (by decide)
    rw [zQ_wQ, up2_a _ _ hne]
    exact (h.2.2 j hj).1
theorem LwS.w0 {b : Nat} {v : Option Nat} (h : LwS σ b) (hk : zK σ a = 4) : LwS (wQ σ a 0 v) b := by
  refine ⟨h.1, fun o o1 o5 => ⟨?_, (h.2 o o1 o5).2⟩⟩
  rw [zQ_wQ, up2_k _ _ (by omega)]
  exact (h.2 o o1 o5).1
end C7r
section C7
variable {G : GG} {σ : Hp} {Z : VT} {a b : Nat} {V : VT} {cN dN mN gk : Nat} {gw : Option GWt} {gi : Option GIt}
set_option maxRecDepth 100000 in
theorem sc_lcopy {q r : Nat} (hq : zK σ q = 3) (hr : zK σ r = 3) (hqr : r ≠ q) : Sp G mX3_copyFrom 0 [.ref q, .ref r] (cv σ Z) (fun rv σ' => rv = none ∧ ∃ Z2 : VT, σ' = cv σ Z2 ∧ Do q Z Z2 ∧ ∀ k, k < 5 → Z2 q k = Z r k) := by
  have D := dat dl_X3_copyFrom
  show HT G mX3_copyFrom 0 [some (.ref q), some (.ref r)] [] (cv σ Z) 0 _
  refine ht_aload_n (D 0 rfl) rfl rfl ?_
  refine ht_aload_n (D 1 rfl) rfl rfl ?_
  refine gi_X3_9 rfl (D 2 rfl) hr ?_
  refine pi_X3_9 rfl (D 3 rfl) hq ?_
  refine ht_aload_n (D 4 rfl) rfl rfl ?_
  refine ht_aload_n (D 5 rfl) rfl rfl ?_
  refine gi_X3_15 rfl (D 6 rfl) hr ?_
  refine pi_X3_15 rfl (D 7 rfl) hq ?_
  refine ht_aload_n (D 8 rfl) rfl rfl ?_
  refine ht_aload_n (D 9 rfl) rfl rfl ?_
  refine gi_X3_18 rfl (D 10 rfl) hr ?_
  refine pi_X3_18 rfl (D 11 rfl) hq ?_
  refine ht_aload_n (D 12 rfl) rfl rfl ?_
  refine ht_aload_n (D 13 rfl) rfl rfl ?_
  refine gi_X3_21 rfl (D 14 rfl) hr ?_
  refine pi_X3_21 rfl (D 15 rfl) hq ?_
  refine ht_aload_n (D 16 rfl) rfl rfl ?_
  refine ht_aload_n (D 17 rfl) rfl rfl ?_
  refine gi_X3_24 rfl (D 18 rfl) hr ?_
  refine pi_X3_24 rfl (D 19 rfl) hq ?_
  refine ht_vret (D 20 rfl) rfl ?_
  refine ⟨rfl, _, rfl, ((((Do.rf _ _).up _ _).up _ _).up _ _).up _ _ |>.up _ _, ?_⟩
  intro k hk
  have k5 : k = 0 ∨ k = 1 ∨ k = 2 ∨ k = 3 ∨ k = 4 := by omega
  rcases k5 with rfl | rfl | rfl | rfl | rfl <;> simp [up2, hqr]
set_option maxRecDepth 100000 in
theorem sc_lbegin {q : Nat} (hq : zK σ q = 3) (t : Int32) : Sp G mX3_begin 0 [.ref q, .int t] (cv σ Z) (fun rv σ' => rv = none ∧ ∃ Z2 : VT, σ' = cv σ Z2 ∧ Do q Z Z2 ∧ Z2 q 0 = t ∧ Z2 q 1 = 0 ∧ Z2 q 2 = 0 ∧ Z2 q 3 = t ∧ Z2 q 4 = -1) := by
  have D := dat dl_X3_begin
  show HT G mX3_begin 0 [some (.ref q), some (.int t)] [] (cv σ Z) 0 _
  refine ht_aload_n (D 0 rfl) rfl rfl ?_
  refine ht_iload_n (D 1 rfl) rfl rfl ?_
  refine pi_X3_9 rfl (D 2 rfl) hq ?_
  refine ht_aload_n (D 3 rfl) rfl rfl ?_
  refine ht_iconst (v := 0) (D 4 rfl) (by decide) ?_
  refine pi_X3_15 rfl (D 5 rfl) hq ?_
  refine ht_aload_n (D 6 rfl) rfl rfl ?_
  refine ht_iconst (v := 0) (D 7 rfl) (by decide) ?_
  refine pi_X3_18 rfl (D 8 rfl) hq ?_
  refine ht_aload_n (D 9 rfl) rfl rfl ?_
  refine ht_iload_n (D 10 rfl) rfl rfl ?_
  refine pi_X3_21 rfl (D 11 rfl) hq ?_
  refine ht_aload_n (D 12 rfl) rfl rfl ?_
  refine ht_iconst (v := -1) (D 13 rfl) (by decide) ?_
  refine pi_X3_24 rfl (D 14 rfl) hq ?_
  refine ht_vret (D 15 rfl) rfl ?_
  exact ⟨rfl, _, rfl, ((((Do.rf _ _).up _ _).up _ _).up _ _).up _ _ |>.up _ _, by simp [up2], by simp [up2], by simp [up2], by simp [up2], by simp [up2]⟩
def CpN (Z Z1 : VT) (a a2 j : Nat) : Prop := Fr (fun q => a ≤ q ∧ q < a + 16) Z Z1 ∧ Z1 a 1 = Z a2 1 ∧ Z1 a 2 = -1 ∧ (∀ i, i < 8 → Z1 (a + 1) i = Z (a2 + 1) i) ∧ (∀ i, i < 6 → Z1 (a + 2) i = Z (a2 + 2) i ∧ Z1 (a + 3) i = Z (a2 + 3) i) ∧ ∀ k, k < j → ∀ f, f < 5 → Z1 (a + 6 + k) f = Z (a2 + 6 + k) f
theorem va_fo {α : Type} (f : Nat → Nat → α) {p q : Nat} (x : Nat → α) (h : q ≠ p) : va_up f p x q = f q := by simp [va_up, h]
theorem va_fs {α : Type} (f : Nat → Nat → α) (p : Nat) (x : Nat → α) : va_up f p x p = x := by simp [va_up]
set_option maxRecDepth 100000 in
theorem sc_ncopy {a2 : Nat} (hN : NtS σ a) (hO : NtS σ a2) (hLo : zQ σ a2 0 = some b) (hap : a + 16 ≤ a2 ∨ a2 + 16 ≤ a) : Sp G mX4_copyFrom 1 [.ref a, .ref a2] (cv σ Z) (fun rv σ' => rv = none ∧ ∃ Z2 : VT, σ' = cv (wQ σ a 0 (some b)) Z2 ∧ CpN Z Z2 a a2 10) := by
  have D := dat dl_X4_copyFrom
  have loop : ∀ r j : Nat, j ≤ 10 → 10 - j = r → ∀ Z1 : VT, CpN Z Z1 a a2 j → HT G mX4_copyFrom 68 [some (.ref a), some (.ref a2), some (.int (nI j))] [] (cv (wQ σ a 0 (some b)) Z1) 1 (fun rv σ' => rv = none ∧ ∃ Z2 : VT, σ' = cv (wQ σ a 0 (some b)) Z2 ∧ CpN Z Z2 a a2 10) := by
    have hN1 : NtS (wQ σ a 0 (some b)) a := hN.w0 hN.k0 (b := 0)
    have hO1 : NtS (wQ σ a 0 (some b)) a2 := hO.w0 hN.k0 (b := 0)
    intro r
    induction r using Nat.strongRecOn with
    | _ r ih =>
      intro j hj hr Z1 hc1
      refine ht_iload_n (D 37 rfl) rfl rfl ?_
      refine ht_bipush (v := 10) (D 38 rfl) (by decide) ?_
      refine ht_icmp_ge (tgt := 95) (D 39 rfl) (by decide) (fun hb71 => ?_) (fun hb71 => ?_)
      · skip
        have hjk : j = 10 := by have h3 := (nI_leI (a := 10) (b := j) (by omega) (by omega)).mp hb71; omega
        subst hjk
        refine ht_vret (D 51 rfl) rfl ?_
        exact ⟨rfl, _, rfl, hc1⟩
      · skip
        have hjk : j < 10 := by have h3 := mt (nI_leI (a := 10) (b := j) (by omega) (by omega)).mpr hb71; omega
        refine ht_aload_n (D 40 rfl) rfl rfl ?_
        refine gf_X4_23 rfl (D 41 rfl) hN1.k0 hN1.q4 ?_
        refine ht_iload_n (D 42 rfl) rfl rfl ?_
        refine ht_ald (n := j) (Or.inl rfl) (D 43 rfl) hN1.k4 hN1.n4 rfl (by omega) (by decide) (hN1.lq (j := j) (by omega)) ?_
        refine ht_aload_n (D 44 rfl) rfl rfl ?_
        refine gf_X4_23 rfl (D 45 rfl) hO1.k0 hO1.q4 ?_
        refine ht_iload_n (D 46 rfl) rfl rfl ?_
        refine ht_ald (n := j) (Or.inl rfl) (D 47 rfl) hO1.k4 hO1.n4 rfl (by omega) (by decide) (hO1.lq (j := j) (by omega)) ?_
        refine kVX3_copyFrom (As := [_]) cl_X4_60 (D 48 rfl) (sc_lcopy (hN1.lk (j := j) (by omega)) (hO1.lk (j := j) (by omega)) (by omega)) (hN1.lk (j := j) (by omega)) rfl (Nat.le_of_ble_eq_true rfl) rfl (Nat.le_of_ble_eq_true rfl) (by omega) ?_
        rintro _ _ ⟨rfl, Z2, rfl, hd2, hk2⟩
        refine ht_iinc (v := nI (j + 1)) (D 49 rfl) rfl (nI_i1 _) (by decide) rfl ?_
        refine ht_goto (tgt := 68) (D 50 rfl) (by decide) ?_
        refine ht_cast (ih (10 - (j + 1)) (by omega) (j + 1) (by omega) rfl Z2 ⟨hc1.1.tr (fun q hq => hd2 q (fun e => hq (by omega))), ?_, ?_, ?_, ?_, ?_⟩) rfl rfl rfl
        · rw [hd2 a (by omega)]; exact hc1.2.1
        · rw [hd2 a (by omega)]; exact hc1.2.2.1
        · rw [hd2 (a + 1) (by omega)]; exact hc1.2.2.2.1
        · rw [hd2 (a + 2) (by omega), hd2 (a + 3) (by omega)]; exact hc1.2.2.2.2.1
        · intro k hk f hf
          by_cases e : k = j
          · rw [e, hk2 f hf, hc1.1 (a2 + 6 + j) (by omega)]
          · rw [hd2 (a + 6 + k) (by omega)]; exact hc1.2.2.2.2.2 k (by omega) f hf
  show HT G mX4_copyFrom 0 [some (.ref a), some (.ref a2), none] [] (cv σ Z) 1 _
  refine ht_aload_n (D 0 rfl) rfl rfl ?_
  refine ht_aload_n (D 1 rfl) rfl rfl ?_
  refine gf_X4_31 rfl (D 2 rfl) hO.k0 hLo ?_
  refine pq_X4_31 (some b) rfl (D 3 rfl) hN.k0 ?_

  generalize hσ1 : wQ σ a 0 (some b) = σ1 at loop ⊢
  have hN1 : NtS σ1 a := by rw [← hσ1]; exact hN.w0 hN.k0 (b := 0)
  have hO1 : NtS σ1 a2 := by rw [← hσ1]; exact hO.w0 hN.k0 (b := 0)
  refine ht_aload_n (D 4 rfl) rfl rfl ?_
  refine ht_aload_n (D 5 rfl) rfl rfl ?_
  refine gi_X4_39 rfl (D 6 rfl) hO1.k0 ?_
  refine pi_X4_39 rfl (D 7 rfl) hN1.k0 ?_
  refine ht_aload_n (D 8 rfl) rfl rfl ?_
  refine ht_iconst (v := -1) (D 9 rfl) (by decide) ?_
  refine pi_X4_35 rfl (D 10 rfl) hN1.k0 ?_
  refine ht_aload_n (D 11 rfl) rfl rfl ?_
  refine gf_X4_9 rfl (D 12 rfl) hO1.k0 hO1.q1 ?_
  refine ht_iconst (v := 0) (D 13 rfl) (by decide) ?_
  refine ht_aload_n (D 14 rfl) rfl rfl ?_
  refine gf_X4_9 rfl (D 15 rfl) hN1.k0 hN1.q1 ?_
  refine ht_iconst (v := 0) (D 16 rfl) (by decide) ?_
  refine ht_bipush (v := 8) (D 17 rfl) (by decide) ?_
  refine hi_acopy (n := 8) ac_X4_45 ac_nat ac_stat ac_ini (D 18 rfl) hO1.k1 hN1.k1 (by omega) hO1.n1 hN1.n1 rfl rfl rfl (by omega) (by omega) (by first | decide | omega) (Nat.le_of_ble_eq_true rfl) (by omega) ?_
  refine ht_aload_n (D 19 rfl) rfl rfl ?_
  refine gf_X4_15 rfl (D 20 rfl) hO1.k0 hO1.q2 ?_
  refine ht_iconst (v := 0) (D 21 rfl) (by decide) ?_
  refine ht_aload_n (D 22 rfl) rfl rfl ?_
  refine gf_X4_15 rfl (D 23 rfl) hN1.k0 hN1.q2 ?_
  refine ht_iconst (v := 0) (D 24 rfl) (by decide) ?_
  refine ht_bipush (v := 6) (D 25 rfl) (by decide) ?_
  refine hi_acopy (n := 6) ac_X4_45 ac_nat ac_stat ac_ini (D 26 rfl) hO1.k2 hN1.k2 (by omega) hO1.n2 hN1.n2 rfl rfl rfl (by omega) (by omega) (by first | decide | omega) (Nat.le_of_ble_eq_true rfl) (by omega) ?_
  refine ht_aload_n (D 27 rfl) rfl rfl ?_
  refine gf_X4_18 rfl (D 28 rfl) hO1.k0 hO1.q3 ?_
  refine ht_iconst (v := 0) (D 29 rfl) (by decide) ?_
  refine ht_aload_n (D 30 rfl) rfl rfl ?_
  refine gf_X4_18 rfl (D 31 rfl) hN1.k0 hN1.q3 ?_
  refine ht_iconst (v := 0) (D 32 rfl) (by decide) ?_
  refine ht_bipush (v := 6) (D 33 rfl) (by decide) ?_
  refine hi_acopy (n := 6) ac_X4_45 ac_nat ac_stat ac_ini (D 34 rfl) hO1.k3 hN1.k3 (by omega) hO1.n3 hN1.n3 rfl rfl rfl (by omega) (by omega) (by first | decide | omega) (Nat.le_of_ble_eq_true rfl) (by omega) ?_
  refine ht_iconst (v := 0) (D 35 rfl) (by decide) ?_
  refine ht_istore_n (D 36 rfl) rfl (by decide) rfl ?_
  refine ht_cast (loop 10 0 (by omega) (by omega) _ ⟨?_, ?_, ?_, ?_, ?_, fun k hk => absurd hk (by omega)⟩) rfl rfl rfl
  · intro q hq
    rw [va_fo _ _ (show q ≠ a + 3 by omega), va_fo _ _ (show q ≠ a + 2 by omega), va_fo _ _ (show q ≠ a + 1 by omega), up2_o _ _ (show q ≠ a by omega), up2_o _ _ (show q ≠ a by omega)]
  · rw [va_fo _ _ (show a ≠ a + 3 by omega), va_fo _ _ (show a ≠ a + 2 by omega), va_fo _ _ (show a ≠ a + 1 by omega), up2_at _ _ (by decide), up2_s]
  · rw [va_fo _ _ (show a ≠ a + 3 by omega), va_fo _ _ (show a ≠ a + 2 by omega), va_fo _ _ (show a ≠ a + 1 by omega), up2_s]
  · intro i hi
    rw [va_fo _ _ (show a + 1 ≠ a + 3 by omega), va_fo _ _ (show a + 1 ≠ a + 2 by omega), va_fs, cpy_i hi, up2_o _ _ (show a2 + 1 ≠ a by omega), up2_o _ _ (show a2 + 1 ≠ a by omega)]
  · intro i hi
    rw [va_fo _ _ (show a + 2 ≠ a + 3 by omega), va_fs, va_fs, cpy_i hi, cpy_i hi]
    simp only [va_fo _ _ (show a2 + 2 ≠ a + 1 by omega), va_fo _ _ (show a2 + 3 ≠ a + 2 by omega), va_fo _ _ (show a2 + 3 ≠ a + 1 by omega), up2_o _ _ (show a2 + 2 ≠ a by omega), up2_o _ _ (show a2 + 3 ≠ a by omega)]
    exact ⟨trivial, trivial⟩
theorem nv_copy {Z Z2 : VT} {a a2 : Nat} (h : CpN Z Z2 a a2 10) (dN : Nat) : nv dN Z2 a = nv dN Z a2 := by
  obtain ⟨h1, h2, h3, h4, h5, h6⟩ := h
  refine nv_ext (fun i hi => ?_) (fun i hi => ?_) (fun i hi => ?_) ?_ (fun i hi => ?_)
  · rw [nv_ice _ _ _ hi, nv_wat _ _ _ hi, nv_slt _ _ _ hi, nv_bar _ _ _ hi, nv_bwa _ _ _ hi, nv_bes _ _ _ hi, nv_ice _ _ _ hi, nv_wat _ _ _ hi, nv_slt _ _ _ hi, nv_bar _ _ _ hi, nv_bwa _ _ _ hi, nv_bes _ _ _ hi, h6 i hi 0 (by decide), h6 i hi 1 (by decide), h6 i hi 2 (by decide), h6 i hi 3 (by decide), h6 i hi 4 (by decide)]
    exact ⟨rfl, rfl, rfl, rfl, rfl, rfl⟩
  · rw [nv_stv _ _ _ hi, nv_stv _ _ _ hi, h4 i hi]
  · rw [nv_man _ _ _ hi, nv_man _ _ _ hi, nv_bag _ _ _ hi, nv_bag _ _ _ hi, (h5 i hi).1, (h5 i hi).2]
    exact ⟨rfl, rfl⟩
  · rw [nv_hour, nv_hour, h2]
  · rw [nv_hi _ _ _ hi, nv_hi _ _ _ hi]
def BgN (Z Z1 : VT) (a b j : Nat) : Prop := Fr (fun q => a ≤ q ∧ q < a + 16) Z Z1 ∧ Z1 a 1 = 0 ∧ Z1 a 2 = Z a 2 ∧ (∀ i, i < 8 → Z1 (a + 1) i = Z (b + 1) i) ∧ (∀ i, i < 6 → Z1 (a + 2) i = Z (b + 6) i ∧ Z1 (a + 3) i = Z (b + 7) i) ∧ ∀ k, k < j → Z1 (a + 6 + k) 0 = Z (b + 5) k ∧ Z1 (a + 6 + k) 1 = 0 ∧ Z1 (a + 6 + k) 2 = 0 ∧ Z1 (a + 6 + k) 3 = Z (b + 5) k ∧ Z1 (a + 6 + k) 4 = -1
set_option maxRecDepth 100000 in
theorem sc_nbegin (hN : NtS σ a) (hB : LwS σ b) (hap : a + 16 ≤ b ∨ b + 11 ≤ a) : Sp G mX4_begin 1 [.ref a, .ref b] (cv σ Z) (fun rv σ' => rv = none ∧ ∃ Z2 : VT, σ' = cv (wQ σ a 0 (some b)) Z2 ∧ BgN Z Z2 a b 10) := by
  have D := dat dl_X4_begin
  have loop : ∀ r j : Nat, j ≤ 10 → 10 - j = r → ∀ Z1 : VT, BgN Z Z1 a b j → HT G mX4_begin 57 [some (.ref a), some (.ref b), some (.int (nI j))] [] (cv (wQ σ a 0 (some b)) Z1) 1 (fun rv σ' => rv = none ∧ ∃ Z2 : VT, σ' = cv (wQ σ a 0 (some b)) Z2 ∧ BgN Z Z2 a b 10) := by
    have hN1 : NtS (wQ σ a 0 (some b)) a := hN.w0 hN.k0 (b := 0)
    have hB1 : LwS (wQ σ a 0 (some b)) b := hB.w0 hN.k0
    intro r
    induction r using Nat.strongRecOn with
    | _ r ih =>
      intro j hj hr Z1 hc1
      refine ht_iload_n (D 32 rfl) rfl rfl ?_
      refine ht_bipush (v := 10) (D 33 rfl) (by decide) ?_
      refine ht_icmp_ge (tgt := 84) (D 34 rfl) (by decide) (fun hb60 => ?_) (fun hb60 => ?_)
      · skip
        have hjk : j = 10 := by have h3 := (nI_leI (a := 10) (b := j) (by omega) (by omega)).mp hb60; omega
        subst hjk
        refine ht_vret (D 46 rfl) rfl ?_
        exact ⟨rfl, _, rfl, hc1⟩
      · skip
        have hjk : j < 10 := by have h3 := mt (nI_leI (a := 10) (b := j) (by omega) (by omega)).mpr hb60; omega
        refine ht_aload_n (D 35 rfl) rfl rfl ?_
        refine gf_X4_23 rfl (D 36 rfl) hN1.k0 hN1.q4 ?_
        refine ht_iload_n (D 37 rfl) rfl rfl ?_
        refine ht_ald (n := j) (Or.inl rfl) (D 38 rfl) hN1.k4 hN1.n4 rfl (by omega) (by decide) (hN1.lq (j := j) (by omega)) ?_
        refine ht_aload_n (D 39 rfl) rfl rfl ?_
        refine gf_X4_53 rfl (D 40 rfl) hB1.k0 hB1.q5 ?_
        refine ht_iload_n (D 41 rfl) rfl rfl ?_
        refine hi_ild (n := j) (D 42 rfl) hB1.k5 hB1.n5 (by first | rfl | exact nI_add _ _ | assumption) (by omega) (by first | decide | omega) ?_
        refine kVX3_begin (As := [_]) cl_X4_56 (D 43 rfl) (sc_lbegin (hN1.lk (j := j) (by omega)) _) (hN1.lk (j := j) (by omega)) rfl (Nat.le_of_ble_eq_true rfl) rfl (Nat.le_of_ble_eq_true rfl) (by omega) ?_
        rintro _ _ ⟨rfl, Z2, rfl, hd2, k0, k1, k2, k3, k4⟩
        refine ht_iinc (v := nI (j + 1)) (D 44 rfl) rfl (nI_i1 _) (by decide) rfl ?_
        refine ht_goto (tgt := 57) (D 45 rfl) (by decide) ?_
        refine ht_cast (ih (10 - (j + 1)) (by omega) (j + 1) (by omega) rfl Z2 ⟨hc1.1.tr (fun q hq => hd2 q (fun e => hq (by omega))), ?_, ?_, ?_, ?_, ?_⟩) rfl rfl rfl
        · rw [hd2 a (by omega)]; exact hc1.2.1
        · rw [hd2 a (by omega)]; exact hc1.2.2.1
        · rw [hd2 (a + 1) (by omega)]; exact hc1.2.2.2.1
        · rw [hd2 (a + 2) (by omega), hd2 (a + 3) (by omega)]; exact hc1.2.2.2.2.1
        · intro k hk
          by_cases e : k = j
          · have e5 : Z1 (b + 5) = Z (b + 5) := hc1.1 (b + 5) (by omega)
            rw [e, k0, k1, k2, k3, k4, e5]
            exact ⟨rfl, rfl, rfl, rfl, rfl⟩
          · rw [hd2 (a + 6 + k) (by omega)]; exact hc1.2.2.2.2.2 k (by omega)
  show HT G mX4_begin 0 [some (.ref a), some (.ref b), none] [] (cv σ Z) 1 _
  refine ht_aload_n (D 0 rfl) rfl rfl ?_
  refine ht_aload_n (D 1 rfl) rfl rfl ?_
  refine pq_X4_31 (some b) rfl (D 2 rfl) hN.k0 ?_

  generalize hσ1 : wQ σ a 0 (some b) = σ1 at loop ⊢
  have hN1 : NtS σ1 a := by rw [← hσ1]; exact hN.w0 hN.k0 (b := 0)
  have hB1 : LwS σ1 b := by rw [← hσ1]; exact hB.w0 hN.k0
  refine ht_aload_n (D 3 rfl) rfl rfl ?_
  refine ht_iconst (v := 0) (D 4 rfl) (by decide) ?_
  refine pi_X4_39 rfl (D 5 rfl) hN1.k0 ?_
  refine ht_aload_n (D 6 rfl) rfl rfl ?_
  refine gf_X4_42 rfl (D 7 rfl) hB1.k0 hB1.q1 ?_
  refine ht_iconst (v := 0) (D 8 rfl) (by decide) ?_
  refine ht_aload_n (D 9 rfl) rfl rfl ?_
  refine gf_X4_9 rfl (D 10 rfl) hN1.k0 hN1.q1 ?_
  refine ht_iconst (v := 0) (D 11 rfl) (by decide) ?_
  refine ht_bipush (v := 8) (D 12 rfl) (by decide) ?_
  refine hi_acopy (n := 8) ac_X4_45 ac_nat ac_stat ac_ini (D 13 rfl) hB1.k1 hN1.k1 (by omega) hB1.n1 hN1.n1 rfl rfl rfl (by omega) (by omega) (by first | decide | omega) (Nat.le_of_ble_eq_true rfl) (by omega) ?_
  refine ht_aload_n (D 14 rfl) rfl rfl ?_
  refine gf_X4_51 rfl (D 15 rfl) hB1.k0 hB1.q6 ?_
  refine ht_iconst (v := 0) (D 16 rfl) (by decide) ?_
  refine ht_aload_n (D 17 rfl) rfl rfl ?_
  refine gf_X4_15 rfl (D 18 rfl) hN1.k0 hN1.q2 ?_
  refine ht_iconst (v := 0) (D 19 rfl) (by decide) ?_
  refine ht_bipush (v := 6) (D 20 rfl) (by decide) ?_
  refine hi_acopy (n := 6) ac_X4_45 ac_nat ac_stat ac_ini (D 21 rfl) hB1.k6 hN1.k2 (by omega) hB1.n6 hN1.n2 rfl rfl rfl (by omega) (by omega) (by first | decide | omega) (Nat.le_of_ble_eq_true rfl) (by omega) ?_
  refine ht_aload_n (D 22 rfl) rfl rfl ?_
  refine gf_X4_52 rfl (D 23 rfl) hB1.k0 hB1.q7 ?_
  refine ht_iconst (v := 0) (D 24 rfl) (by decide) ?_
  refine ht_aload_n (D 25 rfl) rfl rfl ?_
  refine gf_X4_18 rfl (D 26 rfl) hN1.k0 hN1.q3 ?_
  refine ht_iconst (v := 0) (D 27 rfl) (by decide) ?_
  refine ht_bipush (v := 6) (D 28 rfl) (by decide) ?_
  refine hi_acopy (n := 6) ac_X4_45 ac_nat ac_stat ac_ini (D 29 rfl) hB1.k7 hN1.k3 (by omega) hB1.n7 hN1.n3 rfl rfl rfl (by omega) (by omega) (by first | decide | omega) (Nat.le_of_ble_eq_true rfl) (by omega) ?_
  refine ht_iconst (v := 0) (D 30 rfl) (by decide) ?_
  refine ht_istore_n (D 31 rfl) rfl (by decide) rfl ?_
  refine ht_cast (loop 10 0 (by omega) (by omega) _ ⟨?_, ?_, ?_, ?_, ?_, fun k hk => absurd hk (by omega)⟩) rfl rfl rfl
  · intro q hq
    rw [va_fo _ _ (show q ≠ a + 3 by omega), va_fo _ _ (show q ≠ a + 2 by omega), va_fo _ _ (show q ≠ a + 1 by omega), up2_o _ _ (show q ≠ a by omega)]
  · rw [va_fo _ _ (show a ≠ a + 3 by omega), va_fo _ _ (show a ≠ a + 2 by omega), va_fo _ _ (show a ≠ a + 1 by omega), up2_s]
  · rw [va_fo _ _ (show a ≠ a + 3 by omega), va_fo _ _ (show a ≠ a + 2 by omega), va_fo _ _ (show a ≠ a + 1 by omega), up2_at _ _ (by decide)]
  · intro i hi
    rw [va_fo _ _ (show a + 1 ≠ a + 3 by omega), va_fo _ _ (show a + 1 ≠ a + 2 by omega), va_fs, cpy_i hi, up2_o _ _ (show b + 1 ≠ a by omega)]
  · intro i hi
    rw [va_fo _ _ (show a + 2 ≠ a + 3 by omega), va_fs, va_fs, cpy_i hi, cpy_i hi]
    simp only [va_fo _ _ (show b + 6 ≠ a + 1 by omega), va_fo _ _ (show b + 7 ≠ a + 2 by omega), va_fo _ _ (show b + 7 ≠ a + 1 by omega), up2_o _ _ (show b + 6 ≠ a by omega), up2_o _ _ (show b + 7 ≠ a by omega)]
    exact ⟨trivial, trivial⟩
end C7
