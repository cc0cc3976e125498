/-! ===== Arrays.copyOf ===== -/
section Q12
variable {G : GG} {σ : Hp} {a n c : Nat}
theorem nw_K (σ : Hp) (k l s : Nat) {q : Nat} (h : q ≠ zX σ) : zK (nw σ k l s) q = zK σ q ∧ zN (nw σ k l s) q = zN σ q ∧ zI (nw σ k l s) q = zI σ q := ⟨by show va_up _ _ _ q = _; simp [va_up, h], by show va_up _ _ _ q = _; simp [va_up, h], by show va_up _ _ _ q = _; simp [va_up, h]⟩
theorem nw_N (σ : Hp) (k l s : Nat) : zK (nw σ k l s) (zX σ) = k ∧ zN (nw σ k l s) (zX σ) = l := ⟨by show va_up _ _ _ _ = _; simp [va_up], by show va_up _ _ _ _ = _; simp [va_up]⟩
set_option maxRecDepth 100000 in
theorem sj_copyOf (hK : zK σ a = 20) (hN : zN σ a = n) (ha : a ≠ zX σ) (hcn : c < n) (hn : n ≤ 1000) (hr1 : zX σ + 1 ≤ gC G) (hr2 : zS σ + c ≤ gS G) : Sp G mJ7_copyOf_59c91 1 [.ref a, .int (nI c)] σ (fun rv σ' => rv = some (.ref (zX σ)) ∧ σ' = cv (nw σ 20 c c) (va_up (zI (nw σ 20 c c)) (zX σ) (va_cpy (zI σ a) (zI (nw σ 20 c c) (zX σ)) 0 0 c))) := by
  have D := dat dl_J7_copyOf_59c91
  have hK1 : zK (cv (nw σ 20 c c) (zI (nw σ 20 c c))) a = 20 := (nw_K σ 20 c c ha).1.trans hK
  have hN1 : zN (cv (nw σ 20 c c) (zI (nw σ 20 c c))) a = n := (nw_K σ 20 c c ha).2.1.trans hN
  have hK2 : zK (cv (nw σ 20 c c) (zI (nw σ 20 c c))) (zX σ) = 20 := (nw_N σ 20 c c).1
  have hN2 : zN (cv (nw σ 20 c c) (zI (nw σ 20 c c))) (zX σ) = c := (nw_N σ 20 c c).2
  have hmin : imin (nI n) (nI c) = nI c := if_pos (nI_lt (by omega) (by omega))
  have key : HT G mJ7_copyOf_59c91 17 [some (.ref a), some (.int (nI c)), none] [.ref (zX σ)] (cv (nw σ 20 c c) (zI (nw σ 20 c c))) 1 (fun rv σ' => rv = some (.ref (zX σ)) ∧ σ' = cv (nw σ 20 c c) (va_up (zI (nw σ 20 c c)) (zX σ) (va_cpy (zI σ a) (zI (nw σ 20 c c) (zX σ)) 0 0 c))) := by
    rw [← (nw_K σ 20 c c ha).2.2]
    refine ht_astore_n (D 10 rfl) rfl (by decide) rfl ?_
    refine ht_aload_n (D 11 rfl) rfl rfl ?_
    refine ht_iconst (v := 0) (D 12 rfl) (by decide) ?_
    refine ht_aload_n (D 13 rfl) rfl rfl ?_
    refine ht_iconst (v := 0) (D 14 rfl) (by decide) ?_
    refine ht_aload_n (D 15 rfl) rfl rfl ?_
    refine ht_len (by decide) (by decide) (D 16 rfl) hK1 hN1 ?_
    refine ht_iload_n (D 17 rfl) rfl rfl ?_
    refine ht_mmin mm_J7_304 mm_smin mm_ini mm_cmin (D 18 rfl) (Nat.le_of_ble_eq_true rfl) (by omega) ?_
    rw [show (if nI c < nI n then nI c else nI n) = nI c from hmin]
    refine hi_acopy (n := c) ac_J7_150 ac_nat ac_stat ac_ini (D 19 rfl) hK1 hK2 (by omega) hN1 hN2 rfl rfl rfl (by omega) (by omega) (by first | decide | omega) (Nat.le_of_ble_eq_true rfl) (by omega) ?_
    refine ht_aload_n (D 20 rfl) rfl rfl ?_
    refine ht_aret (D 21 rfl) rfl (Or.inr ⟨_, rfl⟩) ?_
    exact ⟨rfl, rfl⟩
  show HT G mJ7_copyOf_59c91 0 [some (.ref a), some (.int (nI c)), none] [] σ 1 _
  refine ht_iload_n (D 0 rfl) rfl rfl ?_
  refine ht_aload_n (D 1 rfl) rfl rfl ?_
  refine ht_len (by decide) (by decide) (D 2 rfl) hK hN ?_
  refine ht_icmp_ne (tgt := 14) (D 3 rfl) (by decide) (fun hb3 => ?_) (fun hb3 => ?_)
  · skip
    refine ht_iload_n (D 8 rfl) rfl rfl ?_
    refine ht_newa (atype := .int) (k := 20) (N := c) (by decide) (by decide) rfl ka_int (D 9 rfl) (nI_pos (by omega)) (nI_clamp (by omega)) (by omega) hr1 hr2 ?_
    exact key
  · skip
    exact absurd ((nI_eq (by omega) (by omega)).mp hb3) (by omega)
end Q12
