/-! ===== a formula is made ===== -/
section Q13
variable {G : GG} {σ : Hp} {f a n c : Nat}
/-- the heap with a new formula's arrays -/
def fmH (σ : Hp) (f a c : Nat) : Hp := wQ (cv (nw (wQ (nw σ 20 32 32) f 1 (some (zX σ))) 20 c c) (va_up (zI (nw (wQ (nw σ 20 32 32) f 1 (some (zX σ))) 20 c c)) (zX σ + 1) (va_cpy (zI (wQ (nw σ 20 32 32) f 1 (some (zX σ))) a) (zI (nw (wQ (nw σ 20 32 32) f 1 (some (zX σ))) 20 c c) (zX σ + 1)) 0 0 c))) f 0 (some (zX σ + 1))
set_option maxRecDepth 100000 in
theorem sc_finit (hF0 : zK σ f = 1) (hf : f ≠ zX σ) (hf1 : f ≠ zX σ + 1) (hK : zK σ a = 20) (hN : zN σ a = n) (ha : a ≠ zX σ) (ha1 : a ≠ zX σ + 1) (hcn : c < n) (hn : n ≤ 1000) (hr1 : zX σ + 1 ≤ gC G) (hr2 : zS σ + 32 ≤ gS G) (hr3 : zX σ + 1 + 1 ≤ gC G) (hr4 : zS σ + 32 + c ≤ gS G) : Sp G mX1_init 2 [.ref f, .ref a, .int (nI c)] σ (fun rv σ' => rv = none ∧ σ' = fmH σ f a c) := by
  have D := dat dl_X1_init
  have hF : zK (nw σ 20 32 32) f = 1 := (nw_K σ 20 32 32 hf).1.trans hF0
  have hF2 : zK (nw (wQ (nw σ 20 32 32) f 1 (some (zX σ))) 20 c c) f = 1 := (nw_K (wQ (nw σ 20 32 32) f 1 (some (zX σ))) 20 c c hf1).1.trans hF
  show HT G mX1_init 0 [some (.ref f), some (.ref a), some (.int (nI c))] [] σ 2 _
  refine ht_aload_n (D 0 rfl) rfl rfl ?_
  refine ht_objInit cl_X1_1 ob_inst ob_code (D 1 rfl) (by decide) (by omega) ?_
  refine ht_aload_n (D 2 rfl) rfl rfl ?_
  refine ht_bipush (v := 32) (D 3 rfl) (by decide) ?_
  refine ht_newa (atype := .int) (k := 20) (N := 32) (by decide) (by decide) rfl ka_int (D 4 rfl) (by decide) (by decide) (by decide) (by omega) (by omega) ?_
  refine pf_X1_9 (some (zX σ)) rfl rfl (D 5 rfl) hF ?_
  refine ht_aload_n (D 6 rfl) rfl rfl ?_
  refine ht_aload_n (D 7 rfl) rfl rfl ?_
  refine ht_iload_n (D 8 rfl) rfl rfl ?_
  refine kSJ7_copyOf_59c91 (As := [_, _]) cl_X1_13 (D 9 rfl) (sj_copyOf (σ := (wQ (nw σ 20 32 32) f 1 (some (zX σ)))) (a := a) (n := n) (c := c) ((nw_K σ 20 32 32 ha).1.trans hK) ((nw_K σ 20 32 32 ha).2.1.trans hN) ha1 hcn hn hr3 hr4) rfl (Nat.le_of_ble_eq_true rfl) rfl (Nat.le_of_ble_eq_true rfl) (by omega) ?_
  rintro _ _ ⟨rfl, rfl⟩
  refine pf_X1_19 (some (zX σ + 1)) rfl rfl (D 10 rfl) hF2 ?_
  refine ht_vret (D 11 rfl) rfl ?_
  exact ⟨rfl, rfl⟩
end Q13
