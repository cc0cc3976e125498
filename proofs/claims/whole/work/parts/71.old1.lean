/-! ===== where a sign stands; the word of a name ===== -/
section B1
variable {G : GG} {σ : Hp} {ad : Nat → Nat} {aA aS aV : Nat}
theorem ht_any {M : MI} {pc : Nat} {L : List (Option Value)} {st : List Value} {d : Nat} {Q : Option Value → Hp → Prop} {P : Prop} (hP : ∀ U, gE G U → P) (k : P → HT G M pc L st σ d Q) : HT G M pc L st σ d Q :=
  fun l p e R s m args below meth c H locs ls Z C hf hl hw hL hq hz => k (hP s C.2.2.2.2.2.2.2.2.1.2.1) l p e R s m args below meth c H locs ls Z C hf hl hw hL hq hz
def isSg (c : Int32) : Prop := ∃ j, j < 8 ∧ sgB.getD j 0 = c
set_option maxRecDepth 100000 in
theorem sb_coder (hB : BK G ad aA aS aV) : Sp G mJ0_coder_7d493 0 [.ref aS] σ (fun rv σ' => rv = some (.int 0) ∧ σ' = σ) := by
  have D := dat dl_J0_coder_7d493
  show HT G mJ0_coder_7d493 0 [some (.ref aS)] [] σ 0 _
  refine ht_gets hB.cs lb_J0_38 (D 0 rfl) ?_
  refine ht_if_eq (tgt := 13) (D 1 rfl) (by decide) (fun hb3 => absurd hb3 (by decide)) (fun hb3 => ?_)
  refine ht_aload_n (D 2 rfl) rfl rfl ?_
  refine ht_getB hB.sc lb_J0_15 (D 3 rfl) ?_
  refine ht_goto (tgt := 14) (D 4 rfl) (by decide) ?_
  refine ht_iret (D 6 rfl) rfl rfl ?_
  exact ⟨rfl, rfl⟩
set_option maxRecDepth 100000 in
theorem sb_isLatin1 (hB : BK G ad aA aS aV) : Sp G mJ0_isLatin1_aae02 0 [.ref aS] σ (fun rv σ' => rv = some (.int 1) ∧ σ' = σ) := by
  have D := dat dl_J0_isLatin1_aae02
  show HT G mJ0_isLatin1_aae02 0 [some (.ref aS)] [] σ 0 _
  refine ht_gets hB.cs lb_J0_38 (D 0 rfl) ?_
  refine ht_if_eq (tgt := 17) (D 1 rfl) (by decide) (fun hb3 => absurd hb3 (by decide)) (fun hb3 => ?_)
  refine ht_aload_n (D 2 rfl) rfl rfl ?_
  refine ht_getB hB.sc lb_J0_15 (D 3 rfl) ?_
  refine ht_if_ne (tgt := 17) (D 4 rfl) (by decide) (fun hb10 => absurd (by decide) hb10) (fun hb10 => ?_)
  refine ht_iconst (v := 1) (D 5 rfl) (by decide) ?_
  refine ht_goto (tgt := 18) (D 6 rfl) (by decide) ?_
  refine ht_iret (D 8 rfl) rfl rfl ?_
  exact ⟨rfl, rfl⟩
set_option maxRecDepth 100000 in
theorem sb_length (hB : BK G ad aA aS aV) : Sp G mJ0_length_8abf5 1 [.ref aS] σ (fun rv σ' => rv = some (.int 8) ∧ σ' = σ) := by
  have D := dat dl_J0_length_8abf5
  show HT G mJ0_length_8abf5 0 [some (.ref aS)] [] σ 1 _
  refine ht_aload_n (D 0 rfl) rfl rfl ?_
  refine ht_getB hB.sv lb_J0_9 (D 1 rfl) ?_
  refine ht_lenB hB.sb (D 2 rfl) ?_
  refine ht_aload_n (D 3 rfl) rfl rfl ?_
  refine ht_callB (As := []) (n := 0) mvJ0_coder_7d493 cl_J0_335 ivJ0_coder_7d493 seJ0_coder_7d493 npJ0_coder_7d493 rfl hB.so (D 4 rfl) (Nat.le_of_ble_eq_true rfl) rfl (Nat.le_of_ble_eq_true rfl) (by omega) (sb_coder hB) ?_
  rintro _ _ ⟨rfl, rfl⟩
  refine ht_ishr (D 5 rfl) ?_
  refine ht_iret (D 6 rfl) rfl rfl ?_
  exact ⟨rfl, rfl⟩
set_option maxRecDepth 100000 in
theorem sb_canEncode {c : Int32} (h0 : 0 ≤ c) (h1 : c ≤ 255) : Sp G mJ1_canEncode_9a6ad 0 [.int c] σ (fun rv σ' => rv = some (.int 1) ∧ σ' = σ) := by
  have D := dat dl_J1_canEncode_9a6ad
  show HT G mJ1_canEncode_9a6ad 0 [some (.int c)] [] σ 0 _
  refine ht_iload_n (D 0 rfl) rfl rfl ?_
  refine ht_if_lt (tgt := 15) (D 1 rfl) (by decide) (fun hb1 => ?_) (fun hb1 => ?_)
  · skip
    exact absurd h0 (Int32.not_le.mpr hb1)
  · skip
    refine ht_iload_n (D 2 rfl) rfl rfl ?_
    refine ht_sipush (v := 255) (D 3 rfl) (by decide) ?_
    refine ht_icmp_gt (tgt := 15) (D 4 rfl) (by decide) (fun hb8 => ?_) (fun hb8 => ?_)
    · skip
      exact absurd h1 (Int32.not_le.mpr hb8)
    · skip
      refine ht_iconst (v := 1) (D 5 rfl) (by decide) ?_
      refine ht_goto (tgt := 16) (D 6 rfl) (by decide) ?_
      refine ht_iret (D 8 rfl) rfl rfl ?_
      exact ⟨rfl, rfl⟩
set_option maxRecDepth 100000 in
theorem sb_indexOfChar (hB : BK G ad aA aS aV) {c : Int32} (hcb : c.toInt8.toInt32 = c) : Sp G mJ1_indexOfChar_4cfef 0 [.ref aV, .int c, .int 0, .int 8] σ (fun rv σ' => (∃ y : Int32, rv = some (.int y) ∧ (0 ≤ y → isSg c) ∧ (isSg c → 0 ≤ y)) ∧ σ' = σ) := by
  have D := dat dl_J1_indexOfChar_4cfef
  have loop : ∀ r j : Nat, j ≤ 8 → 8 - j = r → (∀ i, i < j → ¬ sgB.getD i 0 = c) → HT G mJ1_indexOfChar_4cfef 7 [some (.ref aV), some (.int c), some (.int 0), some (.int 8), some (.int c), some (.int (nI j))] [] σ 0 (fun rv σ' => (∃ y : Int32, rv = some (.int y) ∧ (0 ≤ y → isSg c) ∧ (isSg c → 0 ≤ y)) ∧ σ' = σ) := by
    intro r
    induction r using Nat.strongRecOn with
    | _ r ih =>
      intro j hj hr hno
      refine ht_iload (D 5 rfl) rfl ?_
      refine ht_iload_n (D 6 rfl) rfl rfl ?_
      refine ht_icmp_ge (tgt := 31) (D 7 rfl) (by decide) (fun hb10 => ?_) (fun hb10 => ?_)
      · skip
        have hjk : j = 8 := by have h3 := (nI_leI (a := 8) (b := j) (by omega) (by omega)).mp hb10; omega
        subst hjk
        refine ht_iconst (v := -1) (D 17 rfl) (by decide) ?_
        refine ht_iret (D 18 rfl) rfl rfl ?_
        exact ⟨⟨_, rfl, fun h => absurd h (by decide), fun ⟨j, j1, j2⟩ => absurd j2 (hno j j1)⟩, rfl⟩
      · skip
        have hjk : j < 8 := by have h3 := mt (nI_leI (a := 8) (b := j) (by omega) (by omega)).mpr hb10; omega
        refine ht_aload_n (D 8 rfl) rfl rfl ?_
        refine ht_iload (D 9 rfl) rfl ?_
        refine ht_baldB (j := j) hB.sb rfl (by omega) (by decide) (D 10 rfl) ?_
        refine ht_iload (D 11 rfl) rfl ?_
        refine ht_icmp_ne (tgt := 25) (D 12 rfl) (by decide) (fun hb19 => ?_) (fun hb19 => ?_)
        · skip
          refine ht_iinc (v := nI (j + 1)) (D 15 rfl) rfl (nI_i1 _) (by decide) rfl ?_
          refine ht_goto (tgt := 7) (D 16 rfl) (by decide) ?_
          exact ht_cast (ih (8 - (j + 1)) (by omega) (j + 1) (by omega) rfl (fun i hi => by by_cases e : i = j; rw [e]; exact hb19; exact hno i (by omega))) rfl rfl rfl
        · skip
          refine ht_iload (D 13 rfl) rfl ?_
          refine ht_iret (D 14 rfl) rfl rfl ?_
          exact ⟨⟨_, rfl, fun _ => ⟨j, hjk, hb19⟩, fun _ => nI_pos' (by omega)⟩, rfl⟩
  show HT G mJ1_indexOfChar_4cfef 0 [some (.ref aV), some (.int c), some (.int 0), some (.int 8), none, none] [] σ 0 _
  refine ht_iload_n (D 0 rfl) rfl rfl ?_
  refine ht_i2b (D 1 rfl) ?_
  rw [hcb]
  refine ht_istore (D 2 rfl) (by decide) rfl ?_
  refine ht_iload_n (D 3 rfl) rfl rfl ?_
  refine ht_istore (D 4 rfl) (by decide) rfl ?_
  exact ht_cast (loop 8 0 (by omega) (by omega) (fun i hi => absurd hi (by omega))) rfl rfl rfl
set_option maxRecDepth 100000 in
theorem sb_lindexOf (hB : BK G ad aA aS aV) {c : Int32} (h0 : 0 ≤ c) (h1 : c ≤ 255) (hcb : c.toInt8.toInt32 = c) : Sp G mJ1_indexOf_4cfef 1 [.ref aV, .int c, .int 0, .int 8] σ (fun rv σ' => (∃ y : Int32, rv = some (.int y) ∧ (0 ≤ y → isSg c) ∧ (isSg c → 0 ≤ y)) ∧ σ' = σ) := by
  have D := dat dl_J1_indexOf_4cfef
  show HT G mJ1_indexOf_4cfef 0 [some (.ref aV), some (.int c), some (.int 0), some (.int 8)] [] σ 1 _
  refine ht_iload_n (D 0 rfl) rfl rfl ?_
  refine kSJ1_canEncode_9a6ad (As := [_]) cl_J1_88 (D 1 rfl) (sb_canEncode h0 h1) rfl (Nat.le_of_ble_eq_true rfl) rfl (Nat.le_of_ble_eq_true rfl) (by omega) ?_
  rintro _ _ ⟨rfl, rfl⟩
  refine ht_if_ne (tgt := 9) (D 2 rfl) (by decide) (fun hb4 => ?_) (fun hb4 => absurd hb4 (by decide))
  refine ht_iload_n (D 5 rfl) rfl rfl ?_
  refine ht_iconst (v := 0) (D 6 rfl) (by decide) ?_
  refine ht_mmax mm_J1_92 mm_smax mm_ini mm_cmax (D 7 rfl) (Nat.le_of_ble_eq_true rfl) (by omega) ?_
  refine ht_istore_n (D 8 rfl) rfl (by decide) rfl ?_
  refine ht_iload_n (D 9 rfl) rfl rfl ?_
  refine ht_aload_n (D 10 rfl) rfl rfl ?_
  refine ht_lenB hB.sb (D 11 rfl) ?_
  refine ht_mmin mm_J1_38 mm_smin mm_ini mm_cmin (D 12 rfl) (Nat.le_of_ble_eq_true rfl) (by omega) ?_
  refine ht_istore_n (D 13 rfl) rfl (by decide) rfl ?_
  refine ht_iload_n (D 14 rfl) rfl rfl ?_
  refine ht_iload_n (D 15 rfl) rfl rfl ?_
  refine ht_icmp_lt (tgt := 29) (D 16 rfl) (by decide) (fun hb24 => ?_) (fun hb24 => ?_)
  · skip
    refine ht_aload_n (D 19 rfl) rfl rfl ?_
    refine ht_iload_n (D 20 rfl) rfl rfl ?_
    refine ht_iload_n (D 21 rfl) rfl rfl ?_
    refine ht_iload_n (D 22 rfl) rfl rfl ?_
    refine kSJ1_indexOfChar_4cfef (As := [_, _, _, _]) cl_J1_95 (D 23 rfl) (sb_indexOfChar hB hcb) rfl (Nat.le_of_ble_eq_true rfl) rfl (Nat.le_of_ble_eq_true rfl) (by omega) ?_
    rintro _ _ ⟨⟨y, rfl, hy1, hy2⟩, rfl⟩
    refine ht_iret (D 24 rfl) rfl rfl ?_
    exact ⟨⟨y, rfl, hy1, hy2⟩, rfl⟩
  · skip
    exact absurd (by decide) hb24
set_option maxRecDepth 100000 in
theorem sb_indexOf2 (hB : BK G ad aA aS aV) {c : Int32} (h0 : 0 ≤ c) (h1 : c ≤ 255) (hcb : c.toInt8.toInt32 = c) : Sp G mJ0_indexOf_7cf53 2 [.ref aS, .int c, .int 0] σ (fun rv σ' => (∃ y : Int32, rv = some (.int y) ∧ (0 ≤ y → isSg c) ∧ (isSg c → 0 ≤ y)) ∧ σ' = σ) := by
  have D := dat dl_J0_indexOf_7cf53
  show HT G mJ0_indexOf_7cf53 0 [some (.ref aS), some (.int c), some (.int 0)] [] σ 2 _
  refine ht_aload_n (D 0 rfl) rfl rfl ?_
  refine ht_callB (As := []) (n := 0) mvJ0_isLatin1_aae02 cl_J0_492 ivJ0_isLatin1_aae02 seJ0_isLatin1_aae02 npJ0_isLatin1_aae02 rfl hB.so (D 1 rfl) (Nat.le_of_ble_eq_true rfl) rfl (Nat.le_of_ble_eq_true rfl) (by omega) (sb_isLatin1 hB) ?_
  rintro _ _ ⟨rfl, rfl⟩
  refine ht_if_eq (tgt := 23) (D 2 rfl) (by decide) (fun hb4 => absurd hb4 (by decide)) (fun hb4 => ?_)
  refine ht_aload_n (D 3 rfl) rfl rfl ?_
  refine ht_getB hB.sv lb_J0_9 (D 4 rfl) ?_
  refine ht_iload_n (D 5 rfl) rfl rfl ?_
  refine ht_iload_n (D 6 rfl) rfl rfl ?_
  refine ht_aload_n (D 7 rfl) rfl rfl ?_
  refine ht_callB (As := []) (n := 0) mvJ0_length_8abf5 cl_J0_505 ivJ0_length_8abf5 seJ0_length_8abf5 npJ0_length_8abf5 rfl hB.so (D 8 rfl) (Nat.le_of_ble_eq_true rfl) rfl (Nat.le_of_ble_eq_true rfl) (by omega) (sb_length hB) ?_
  rintro _ _ ⟨rfl, rfl⟩
  refine kSJ1_indexOf_4cfef (As := [_, _, _, _]) cl_J0_637 (D 9 rfl) (sb_lindexOf hB h0 h1 hcb) rfl (Nat.le_of_ble_eq_true rfl) rfl (Nat.le_of_ble_eq_true rfl) (by omega) ?_
  rintro _ _ ⟨⟨y, rfl, hy1, hy2⟩, rfl⟩
  refine ht_goto (tgt := 36) (D 10 rfl) (by decide) ?_
  refine ht_iret (D 18 rfl) rfl rfl ?_
  exact ⟨⟨y, rfl, hy1, hy2⟩, rfl⟩
set_option maxRecDepth 100000 in
theorem sb_indexOf (hB : BK G ad aA aS aV) {c : Int32} (h0 : 0 ≤ c) (h1 : c ≤ 255) (hcb : c.toInt8.toInt32 = c) : Sp G mJ0_indexOf_0f7a4 3 [.ref aS, .int c] σ (fun rv σ' => (∃ y : Int32, rv = some (.int y) ∧ (0 ≤ y → isSg c) ∧ (isSg c → 0 ≤ y)) ∧ σ' = σ) := by
  have D := dat dl_J0_indexOf_0f7a4
  show HT G mJ0_indexOf_0f7a4 0 [some (.ref aS), some (.int c)] [] σ 3 _
  refine ht_aload_n (D 0 rfl) rfl rfl ?_
  refine ht_iload_n (D 1 rfl) rfl rfl ?_
  refine ht_iconst (v := 0) (D 2 rfl) (by decide) ?_
  refine ht_callB (As := [_, _]) (n := 2) mvJ0_indexOf_7cf53 cl_J0_633 ivJ0_indexOf_7cf53 seJ0_indexOf_7cf53 npJ0_indexOf_7cf53 rfl hB.so (D 3 rfl) (Nat.le_of_ble_eq_true rfl) rfl (Nat.le_of_ble_eq_true rfl) (by omega) (sb_indexOf2 hB h0 h1 hcb) ?_
  rintro _ _ ⟨⟨y, rfl, hy1, hy2⟩, rfl⟩
  refine ht_iret (D 4 rfl) rfl rfl ?_
  exact ⟨⟨y, rfl, hy1, hy2⟩, rfl⟩
set_option maxRecDepth 100000 in
theorem sb_named (hB : BK G ad aA aS aV) (x : Int64) : Sp G mX8_named 0 [.long x] σ (fun rv σ' => ((∃ i, i < 22 ∧ Int64.ofNat (wNa.getD i 0) = x ∧ rv = some (.ref (ad i))) ∨ ((∀ i, i < 22 → ¬ Int64.ofNat (wNa.getD i 0) = x) ∧ rv = some .null)) ∧ σ' = σ) := by
  have D := dat dl_X8_named
  have loop : ∀ r j : Nat, j ≤ 22 → 22 - j = r → (∀ i, i < j → ¬ Int64.ofNat (wNa.getD i 0) = x) → HT G mX8_named 2 [some (.long x), none, some (.int (nI j))] [] σ 0 (fun rv σ' => ((∃ i, i < 22 ∧ Int64.ofNat (wNa.getD i 0) = x ∧ rv = some (.ref (ad i))) ∨ ((∀ i, i < 22 → ¬ Int64.ofNat (wNa.getD i 0) = x) ∧ rv = some .null)) ∧ σ' = σ) := by
    intro r
    induction r using Nat.strongRecOn with
    | _ r ih =>
      intro j hj hr hno
      refine ht_iload_n (D 2 rfl) rfl rfl ?_
      refine ht_gets hB.al lb_X8_117 (D 3 rfl) ?_
      refine ht_lenB hB.ar (D 4 rfl) ?_
      refine ht_icmp_ge (tgt := 35) (D 5 rfl) (by decide) (fun hb7 => ?_) (fun hb7 => ?_)
      · skip
        have hjk : j = 22 := by have h3 := (nI_leI (a := 22) (b := j) (by omega) (by omega)).mp hb7; omega
        subst hjk
        refine ht_null (D 19 rfl) ?_
        refine ht_aretN (D 20 rfl) rfl (Or.inl ⟨_, rfl⟩) ?_
        exact ⟨Or.inr ⟨hno, rfl⟩, rfl⟩
      · skip
        have hjk : j < 22 := by have h3 := mt (nI_leI (a := 22) (b := j) (by omega) (by omega)).mpr hb7; omega
        refine ht_gets hB.al lb_X8_117 (D 6 rfl) ?_
        refine ht_iload_n (D 7 rfl) rfl rfl ?_
        refine ht_aaldB rfl (j := j) hB.ar rfl (by omega) (by decide) (D 8 rfl) ?_
        refine ht_getB (hB.na (i := j) hjk) lb_X8_105 (D 9 rfl) ?_
        refine ht_lload_n (D 10 rfl) rfl rfl ?_
        refine ht_lcmp (D 11 rfl) ?_
        refine ht_if_ne (tgt := 29) (D 12 rfl) (by decide) (fun hb20 => ?_) (fun hb20 => ?_)
        · skip
          have hne : ¬ Int64.ofNat (wNa.getD j 0) = x := fun e => hb20 (by rw [e]; exact (lg_cmp_eq _ _).mpr rfl)
          refine ht_iinc (v := nI (j + 1)) (D 17 rfl) rfl (nI_i1 _) (by decide) rfl ?_
          refine ht_goto (tgt := 2) (D 18 rfl) (by decide) ?_
          exact ht_cast (ih (22 - (j + 1)) (by omega) (j + 1) (by omega) rfl (fun i hi => by by_cases e : i = j; rw [e]; exact hne; exact hno i (by omega))) rfl rfl rfl
        · skip
          have heq : Int64.ofNat (wNa.getD j 0) = x := (lg_cmp_eq _ _).mp hb20
          refine ht_gets hB.al lb_X8_117 (D 13 rfl) ?_
          refine ht_iload_n (D 14 rfl) rfl rfl ?_
          refine ht_aaldB rfl (j := j) hB.ar rfl (by omega) (by decide) (D 15 rfl) ?_
          refine ht_aret (D 16 rfl) rfl (Or.inl ⟨_, rfl⟩) ?_
          exact ⟨Or.inl ⟨j, hjk, heq, rfl⟩, rfl⟩
  show HT G mX8_named 0 [some (.long x), none, none] [] σ 0 _
  refine ht_iconst (v := 0) (D 0 rfl) (by decide) ?_
  refine ht_istore_n (D 1 rfl) rfl (by decide) rfl ?_
  exact ht_cast (loop 22 0 (by omega) (by omega) (fun i hi => absurd hi (by omega))) rfl rfl rfl
end B1
