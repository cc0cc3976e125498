/-! ===== the tokens are made ===== -/
section Q14
variable {G : GG} {σ : Hp} {t tp sA n : Nat}
set_option maxRecDepth 100000 in
theorem sc_tokInit (hT : zK σ t = 7) (hP : zK σ tp = 6) (hPq : zQ σ tp 0 = some sA) (hSK : zK σ sA = 22) (hSN : zN σ sA = 1000) (hlen : zI σ tp 1 = nI n) (hn : n ≤ 1000) (hne : tp ≠ t) : Sp G mX7_init 1 [.ref t, .ref tp] σ (fun rv σ' => rv = none ∧ σ' = wI (wQ σ t 0 (some sA)) t 1 (nI n)) := by
  have D := dat dl_X7_init
  have hPq2 : zQ (wQ σ t 0 (some sA)) tp 0 = some sA := by rw [zQ_a _ _ hne]; exact hPq
  show HT G mX7_init 0 [some (.ref t), some (.ref tp)] [] σ 1 _
  refine ht_aload_n (D 0 rfl) rfl rfl ?_
  refine ht_objInit cl_X7_1 ob_inst ob_code (D 1 rfl) (by decide) (by omega) ?_
  refine ht_aload_n (D 2 rfl) rfl rfl ?_
  refine ht_aload_n (D 3 rfl) rfl rfl ?_
  refine gf_X7_7 rfl (D 4 rfl) hP hPq ?_
  refine pf_X7_13 (some sA) rfl rfl (D 5 rfl) hT ?_
  refine ht_aload_n (D 6 rfl) rfl rfl ?_
  refine ht_aload_n (D 7 rfl) rfl rfl ?_
  refine gf_X7_16 rfl (D 8 rfl) hP ?_
  refine ht_aload_n (D 9 rfl) rfl rfl ?_
  refine gf_X7_7 rfl (D 10 rfl) hP hPq2 ?_
  refine ht_len (by decide) (by decide) (D 11 rfl) hSK hSN ?_
  refine ht_mmin mm_X7_20 mm_smin mm_ini mm_cmin (D 12 rfl) (Nat.le_of_ble_eq_true rfl) (by omega) ?_
  rw [zI_Q, hlen, show (if nI 1000 < nI n then nI 1000 else nI n) = nI n from if_neg (fun q => by have h9 := (nI_ltI (a := 1000) (b := n) (by omega) (by omega)).mp q; omega)]
  refine pf_X7_26 rfl rfl (D 13 rfl) hT ?_
  refine ht_vret (D 14 rfl) rfl ?_
  exact ⟨rfl, rfl⟩
end Q14
