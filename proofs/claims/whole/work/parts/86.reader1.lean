/-! ===== the class: the reader goes on ===== -/
section Q1
variable {G : GG} {σ σ1 σ2 : Hp} {ad : Nat → Nat} {aA aS aV r sA n p b e k c : Nat} {T : ST} {ice : Bool}
theorem CH_nx (h : CH ad T n ice p b e k c r sA σ) (f : QF r σ σ1) {c2 b2 e2 k2 : Nat} (hc : zI σ1 r 5 = nI c2) (hc2 : c2 ≤ e) (f2 : TF (r + 14) σ1 σ2) (hC : CT ad T n e b2 e2 k2 (r + 14) σ2) : CH ad T n ice e b2 e2 k2 c2 r sA σ2 := by
  have f3 := QF_t f (QF_tf f2)
  have hr : zI σ2 r = zI σ1 r := (f2.2.2.2.2.1 r (by omega)).1
  refine ⟨h.1.qf f3, by rw [f3.sg h.1]; exact h.2.1, hC, by rw [hr]; exact hc, hc2, ?_, ?_, h.2.2.2.2.2.2.2⟩
  · rw [f3.2.2.2.2.2 6 (by decide) (by decide)]
    exact h.2.2.2.2.2.1
  · rw [f3.2.2.2.2.2 7 (by decide) (by decide)]
    exact h.2.2.2.2.2.2.1
/-- the tokens go on -/
theorem sc_nxt (hE : NE G) (hB : BK G ad aA aS aV) (h : CH ad T n ice p b e k c r sA σ) (f : QF r σ σ1) (h2 : zI σ1 (r + 14) 2 = nI e) : Sp G mX7_next 4 [.ref (r + 14)] σ1 (fun rv σ' => rv = none ∧ ∃ b e' k, TF (r + 14) σ1 σ' ∧ CT ad T n e b e' k (r + 14) σ') :=
  sc_next hE hB (h.1.qf f).ts (by rw [f.sg h.1]; exact h.2.1) h.2.2.2.2.2.2.2 h2 (TK_le h.2.2.1.1).2.2.1
set_option maxRecDepth 100000 in
theorem sc_operatorOf (hB : BK G ad aA aS aV) (hJ : ∀ i j, i < 22 → j < 22 → ad i = ad j → i = j) (hH : CH ad T n ice p b e k c r sA σ) {l : Nat} (hl : l < 4) : Sp G mX5_operatorOf 1 [.ref r, .int (nI l)] σ (fun rv σ' => ((∃ op, OP T b e k l op ∧ rv = some (.int (opS op))) ∨ ((∀ op, ¬ OP T b e k l op) ∧ rv = some (.int (-1)))) ∧ σ' = σ) := by
  have D := dat dl_X5_operatorOf
  show HT G mX5_operatorOf 0 [some (.ref r), some (.int (nI l))] [] σ 1 _
  have L0 : l = 0 ∨ l = 1 ∨ l = 2 ∨ l = 3 := by omega
  rcases L0 with rfl | rfl | rfl | rfl
  · rcases CT_w hH.2.2.1 with ⟨hw, hno⟩ | ⟨i, hi, hw, hiw⟩
    · skip
      refine ht_iload_n (D 0 rfl) rfl rfl ?_
      refine ht_tableIn (off := 27) (tgt := 28) (D 1 rfl) (by decide) (by decide) (by rfl) (by decide) ?_
      refine ht_aload_n (D 2 rfl) rfl rfl ?_
      refine gf_X5_30 rfl (D 3 rfl) hH.1.rk hH.1.q1 ?_
      refine gn_X5_63 rfl (D 4 rfl) hH.1.tk hw ?_
      refine ht_gets (hB.st (i := 15) (by decide)) lb_X5_253 (D 5 rfl) ?_
      refine ht_acmp_ne (rx := none) (ry := some (ad 15)) (tgt := 45) (D 6 rfl) (by decide) (fun hb38 => ?_) (fun hb38 => ?_)
      · skip
        refine ht_aload_n (D 9 rfl) rfl rfl ?_
        refine gf_X5_30 rfl (D 10 rfl) hH.1.rk hH.1.q1 ?_
        refine gn_X5_63 rfl (D 11 rfl) hH.1.tk hw ?_
        refine ht_gets (hB.st (i := 16) (by decide)) lb_X5_256 (D 12 rfl) ?_
        refine ht_acmp_ne (rx := none) (ry := some (ad 16)) (tgt := 62) (D 13 rfl) (by decide) (fun hb55 => ?_) (fun hb55 => ?_)
        · skip
          refine ht_iconst (v := -1) (D 16 rfl) (by decide) ?_
          refine ht_iret (D 17 rfl) rfl rfl ?_
          exact ⟨Or.inr ⟨fun op q => by
            unfold OP at q
            rcases q with ⟨z, _, q⟩ | ⟨z, _, q⟩ | ⟨z, _, q⟩ | ⟨z, _, q⟩ | ⟨z, _, q⟩ | ⟨z, _, q⟩ | ⟨z, _, q⟩ <;> first | omega | exact absurd q (hno _ (by decide)), rfl⟩, rfl⟩
        · skip
          cases hb55
      · skip
        cases hb38
    · skip
      refine ht_iload_n (D 0 rfl) rfl rfl ?_
      refine ht_tableIn (off := 27) (tgt := 28) (D 1 rfl) (by decide) (by decide) (by rfl) (by decide) ?_
      refine ht_aload_n (D 2 rfl) rfl rfl ?_
      refine gf_X5_30 rfl (D 3 rfl) hH.1.rk hH.1.q1 ?_
      refine gf_X5_63 rfl (D 4 rfl) hH.1.tk hw ?_
      refine ht_gets (hB.st (i := 15) (by decide)) lb_X5_253 (D 5 rfl) ?_
      refine ht_acmp_ne (rx := some (ad i)) (ry := some (ad 15)) (tgt := 45) (D 6 rfl) (by decide) (fun hb38 => ?_) (fun hb38 => ?_)
      · skip
        have hn15 : ¬ isW T b e k 15 := fun q => hb38 (by rw [wB_inj hi (by decide) (hiw.2.symm.trans q.2)])
        refine ht_aload_n (D 9 rfl) rfl rfl ?_
        refine gf_X5_30 rfl (D 10 rfl) hH.1.rk hH.1.q1 ?_
        refine gf_X5_63 rfl (D 11 rfl) hH.1.tk hw ?_
        refine ht_gets (hB.st (i := 16) (by decide)) lb_X5_256 (D 12 rfl) ?_
        refine ht_acmp_ne (rx := some (ad i)) (ry := some (ad 16)) (tgt := 62) (D 13 rfl) (by decide) (fun hb55 => ?_) (fun hb55 => ?_)
        · skip
          have hn16 : ¬ isW T b e k 16 := fun q => hb55 (by rw [wB_inj hi (by decide) (hiw.2.symm.trans q.2)])
          refine ht_iconst (v := -1) (D 16 rfl) (by decide) ?_
          refine ht_iret (D 17 rfl) rfl rfl ?_
          first | exact ⟨Or.inl ⟨26, Or.inl ⟨rfl, rfl, hy15⟩, rfl⟩, rfl⟩ | exact ⟨Or.inl ⟨27, Or.inr (Or.inl ⟨rfl, rfl, hy16⟩), rfl⟩, rfl⟩ | exact ⟨Or.inr ⟨fun op q => by
            unfold OP at q
            rcases q with ⟨z, _, q⟩ | ⟨z, _, q⟩ | ⟨z, _, q⟩ | ⟨z, _, q⟩ | ⟨z, _, q⟩ | ⟨z, _, q⟩ | ⟨z, _, q⟩ <;> first | omega | exact absurd q (by assumption), rfl⟩, rfl⟩
        · skip
          have hy16 : isW T b e k 16 := by
            have h9 := hJ i 16 hi (by decide) (Option.some.inj hb55)
            rw [← h9]; exact hiw
          refine ht_iconst (v := 4) (D 14 rfl) (by decide) ?_
          refine ht_goto (tgt := 63) (D 15 rfl) (by decide) ?_
          refine ht_iret (D 17 rfl) rfl rfl ?_
          first | exact ⟨Or.inl ⟨26, Or.inl ⟨rfl, rfl, hy15⟩, rfl⟩, rfl⟩ | exact ⟨Or.inl ⟨27, Or.inr (Or.inl ⟨rfl, rfl, hy16⟩), rfl⟩, rfl⟩ | exact ⟨Or.inr ⟨fun op q => by
            unfold OP at q
            rcases q with ⟨z, _, q⟩ | ⟨z, _, q⟩ | ⟨z, _, q⟩ | ⟨z, _, q⟩ | ⟨z, _, q⟩ | ⟨z, _, q⟩ | ⟨z, _, q⟩ <;> first | omega | exact absurd q (by assumption), rfl⟩, rfl⟩
      · skip
        have hy15 : isW T b e k 15 := by
          have h9 := hJ i 15 hi (by decide) (Option.some.inj hb38)
          rw [← h9]; exact hiw
        refine ht_iconst (v := 3) (D 7 rfl) (by decide) ?_
        refine ht_goto (tgt := 63) (D 8 rfl) (by decide) ?_
        refine ht_iret (D 17 rfl) rfl rfl ?_
        first | exact ⟨Or.inl ⟨26, Or.inl ⟨rfl, rfl, hy15⟩, rfl⟩, rfl⟩ | exact ⟨Or.inl ⟨27, Or.inr (Or.inl ⟨rfl, rfl, hy16⟩), rfl⟩, rfl⟩ | exact ⟨Or.inr ⟨fun op q => by
          unfold OP at q
          rcases q with ⟨z, _, q⟩ | ⟨z, _, q⟩ | ⟨z, _, q⟩ | ⟨z, _, q⟩ | ⟨z, _, q⟩ | ⟨z, _, q⟩ | ⟨z, _, q⟩ <;> first | omega | exact absurd q (by assumption), rfl⟩, rfl⟩
  · skip
    refine ht_iload_n (D 0 rfl) rfl rfl ?_
    refine ht_tableIn (off := 63) (tgt := 64) (D 1 rfl) (by decide) (by decide) (by rfl) (by decide) ?_
    refine ht_aload_n (D 18 rfl) rfl rfl ?_
    refine gf_X5_30 rfl (D 19 rfl) hH.1.rk hH.1.q1 ?_
    refine ht_bipush (v := 60) (D 20 rfl) (by decide) ?_
    refine kVX7_isSign (As := [_]) cl_X5_238 (D 21 rfl) (sc_isSgn hH.1.tk hH.2.2.1 60) hH.1.tk rfl (Nat.le_of_ble_eq_true rfl) rfl (Nat.le_of_ble_eq_true rfl) (by omega) ?_
    rintro _ σ ⟨rfl, rfl⟩
    refine ht_if_eq (tgt := 80) (D 22 rfl) (by decide) (fun hb73 => ?_) (fun hb73 => ?_)
    · skip
      have hn60 : ¬ isS T b k 60 := b01_eq hb73
      refine ht_aload_n (D 25 rfl) rfl rfl ?_
      refine gf_X5_30 rfl (D 26 rfl) hH.1.rk hH.1.q1 ?_
      refine ht_bipush (v := 61) (D 27 rfl) (by decide) ?_
      refine kVX7_isSign (As := [_]) cl_X5_238 (D 28 rfl) (sc_isSgn hH.1.tk hH.2.2.1 61) hH.1.tk rfl (Nat.le_of_ble_eq_true rfl) rfl (Nat.le_of_ble_eq_true rfl) (by omega) ?_
      rintro _ σ ⟨rfl, rfl⟩
      refine ht_if_eq (tgt := 97) (D 29 rfl) (by decide) (fun hb89 => ?_) (fun hb89 => ?_)
      · skip
        have hn61 : ¬ isS T b k 61 := b01_eq hb89
        refine ht_iconst (v := -1) (D 32 rfl) (by decide) ?_
        refine ht_iret (D 33 rfl) rfl rfl ?_
        first | exact ⟨Or.inl ⟨24, Or.inr (Or.inr (Or.inl ⟨rfl, rfl, hy60⟩)), rfl⟩, rfl⟩ | exact ⟨Or.inl ⟨25, Or.inr (Or.inr (Or.inr (Or.inl ⟨rfl, rfl, hy61⟩))), rfl⟩, rfl⟩ | exact ⟨Or.inr ⟨fun op q => by
          unfold OP at q
          rcases q with ⟨z, _, q⟩ | ⟨z, _, q⟩ | ⟨z, _, q⟩ | ⟨z, _, q⟩ | ⟨z, _, q⟩ | ⟨z, _, q⟩ | ⟨z, _, q⟩ <;> first | omega | exact absurd q (by assumption), rfl⟩, rfl⟩
      · skip
        have hy61 : isS T b k 61 := b01_ne hb89
        refine ht_bipush (v := 6) (D 30 rfl) (by decide) ?_
        refine ht_goto (tgt := 98) (D 31 rfl) (by decide) ?_
        refine ht_iret (D 33 rfl) rfl rfl ?_
        first | exact ⟨Or.inl ⟨24, Or.inr (Or.inr (Or.inl ⟨rfl, rfl, hy60⟩)), rfl⟩, rfl⟩ | exact ⟨Or.inl ⟨25, Or.inr (Or.inr (Or.inr (Or.inl ⟨rfl, rfl, hy61⟩))), rfl⟩, rfl⟩ | exact ⟨Or.inr ⟨fun op q => by
          unfold OP at q
          rcases q with ⟨z, _, q⟩ | ⟨z, _, q⟩ | ⟨z, _, q⟩ | ⟨z, _, q⟩ | ⟨z, _, q⟩ | ⟨z, _, q⟩ | ⟨z, _, q⟩ <;> first | omega | exact absurd q (by assumption), rfl⟩, rfl⟩
    · skip
      have hy60 : isS T b k 60 := b01_ne hb73
      refine ht_iconst (v := 5) (D 23 rfl) (by decide) ?_
      refine ht_goto (tgt := 98) (D 24 rfl) (by decide) ?_
      refine ht_iret (D 33 rfl) rfl rfl ?_
      first | exact ⟨Or.inl ⟨24, Or.inr (Or.inr (Or.inl ⟨rfl, rfl, hy60⟩)), rfl⟩, rfl⟩ | exact ⟨Or.inl ⟨25, Or.inr (Or.inr (Or.inr (Or.inl ⟨rfl, rfl, hy61⟩))), rfl⟩, rfl⟩ | exact ⟨Or.inr ⟨fun op q => by
        unfold OP at q
        rcases q with ⟨z, _, q⟩ | ⟨z, _, q⟩ | ⟨z, _, q⟩ | ⟨z, _, q⟩ | ⟨z, _, q⟩ | ⟨z, _, q⟩ | ⟨z, _, q⟩ <;> first | omega | exact absurd q (by assumption), rfl⟩, rfl⟩
  · skip
    refine ht_iload_n (D 0 rfl) rfl rfl ?_
    refine ht_tableIn (off := 98) (tgt := 99) (D 1 rfl) (by decide) (by decide) (by rfl) (by decide) ?_
    refine ht_aload_n (D 34 rfl) rfl rfl ?_
    refine gf_X5_30 rfl (D 35 rfl) hH.1.rk hH.1.q1 ?_
    refine ht_bipush (v := 43) (D 36 rfl) (by decide) ?_
    refine kVX7_isSign (As := [_]) cl_X5_238 (D 37 rfl) (sc_isSgn hH.1.tk hH.2.2.1 43) hH.1.tk rfl (Nat.le_of_ble_eq_true rfl) rfl (Nat.le_of_ble_eq_true rfl) (by omega) ?_
    rintro _ σ ⟨rfl, rfl⟩
    refine ht_if_eq (tgt := 116) (D 38 rfl) (by decide) (fun hb108 => ?_) (fun hb108 => ?_)
    · skip
      have hn43 : ¬ isS T b k 43 := b01_eq hb108
      refine ht_aload_n (D 41 rfl) rfl rfl ?_
      refine gf_X5_30 rfl (D 42 rfl) hH.1.rk hH.1.q1 ?_
      refine ht_bipush (v := 45) (D 43 rfl) (by decide) ?_
      refine kVX7_isSign (As := [_]) cl_X5_238 (D 44 rfl) (sc_isSgn hH.1.tk hH.2.2.1 45) hH.1.tk rfl (Nat.le_of_ble_eq_true rfl) rfl (Nat.le_of_ble_eq_true rfl) (by omega) ?_
      rintro _ σ ⟨rfl, rfl⟩
      refine ht_if_eq (tgt := 133) (D 45 rfl) (by decide) (fun hb125 => ?_) (fun hb125 => ?_)
      · skip
        have hn45 : ¬ isS T b k 45 := b01_eq hb125
        refine ht_iconst (v := -1) (D 48 rfl) (by decide) ?_
        refine ht_iret (D 49 rfl) rfl rfl ?_
        first | exact ⟨Or.inl ⟨20, Or.inr (Or.inr (Or.inr (Or.inr (Or.inl ⟨rfl, rfl, hy43⟩)))), rfl⟩, rfl⟩ | exact ⟨Or.inl ⟨21, Or.inr (Or.inr (Or.inr (Or.inr (Or.inr (Or.inl ⟨rfl, rfl, hy45⟩))))), rfl⟩, rfl⟩ | exact ⟨Or.inr ⟨fun op q => by
          unfold OP at q
          rcases q with ⟨z, _, q⟩ | ⟨z, _, q⟩ | ⟨z, _, q⟩ | ⟨z, _, q⟩ | ⟨z, _, q⟩ | ⟨z, _, q⟩ | ⟨z, _, q⟩ <;> first | omega | exact absurd q (by assumption), rfl⟩, rfl⟩
      · skip
        have hy45 : isS T b k 45 := b01_ne hb125
        refine ht_bipush (v := 8) (D 46 rfl) (by decide) ?_
        refine ht_goto (tgt := 134) (D 47 rfl) (by decide) ?_
        refine ht_iret (D 49 rfl) rfl rfl ?_
        first | exact ⟨Or.inl ⟨20, Or.inr (Or.inr (Or.inr (Or.inr (Or.inl ⟨rfl, rfl, hy43⟩)))), rfl⟩, rfl⟩ | exact ⟨Or.inl ⟨21, Or.inr (Or.inr (Or.inr (Or.inr (Or.inr (Or.inl ⟨rfl, rfl, hy45⟩))))), rfl⟩, rfl⟩ | exact ⟨Or.inr ⟨fun op q => by
          unfold OP at q
          rcases q with ⟨z, _, q⟩ | ⟨z, _, q⟩ | ⟨z, _, q⟩ | ⟨z, _, q⟩ | ⟨z, _, q⟩ | ⟨z, _, q⟩ | ⟨z, _, q⟩ <;> first | omega | exact absurd q (by assumption), rfl⟩, rfl⟩
    · skip
      have hy43 : isS T b k 43 := b01_ne hb108
      refine ht_bipush (v := 7) (D 39 rfl) (by decide) ?_
      refine ht_goto (tgt := 134) (D 40 rfl) (by decide) ?_
      refine ht_iret (D 49 rfl) rfl rfl ?_
      first | exact ⟨Or.inl ⟨20, Or.inr (Or.inr (Or.inr (Or.inr (Or.inl ⟨rfl, rfl, hy43⟩)))), rfl⟩, rfl⟩ | exact ⟨Or.inl ⟨21, Or.inr (Or.inr (Or.inr (Or.inr (Or.inr (Or.inl ⟨rfl, rfl, hy45⟩))))), rfl⟩, rfl⟩ | exact ⟨Or.inr ⟨fun op q => by
        unfold OP at q
        rcases q with ⟨z, _, q⟩ | ⟨z, _, q⟩ | ⟨z, _, q⟩ | ⟨z, _, q⟩ | ⟨z, _, q⟩ | ⟨z, _, q⟩ | ⟨z, _, q⟩ <;> first | omega | exact absurd q (by assumption), rfl⟩, rfl⟩
  · skip
    refine ht_iload_n (D 0 rfl) rfl rfl ?_
    refine ht_tableOut (tgt := 135) (D 1 rfl) (tb_out (lo := 0) (n := 3) (fun k hk => ?_)) (by decide) ?_
    · (have hk9 : k = 0 ∨ k = 1 ∨ k = 2 := by omega)
      rcases hk9 with rfl | rfl | rfl <;> decide
    refine ht_aload_n (D 50 rfl) rfl rfl ?_
    refine gf_X5_30 rfl (D 51 rfl) hH.1.rk hH.1.q1 ?_
    refine ht_bipush (v := 42) (D 52 rfl) (by decide) ?_
    refine kVX7_isSign (As := [_]) cl_X5_238 (D 53 rfl) (sc_isSgn hH.1.tk hH.2.2.1 42) hH.1.tk rfl (Nat.le_of_ble_eq_true rfl) rfl (Nat.le_of_ble_eq_true rfl) (by omega) ?_
    rintro _ σ ⟨rfl, rfl⟩
    refine ht_if_eq (tgt := 152) (D 54 rfl) (by decide) (fun hb144 => ?_) (fun hb144 => ?_)
    · skip
      have hn42 : ¬ isS T b k 42 := b01_eq hb144
      refine ht_iconst (v := -1) (D 57 rfl) (by decide) ?_
      refine ht_iret (D 58 rfl) rfl rfl ?_
      first | exact ⟨Or.inl ⟨22, Or.inr (Or.inr (Or.inr (Or.inr (Or.inr (Or.inr ⟨rfl, rfl, hy42⟩))))), rfl⟩, rfl⟩ | exact ⟨Or.inr ⟨fun op q => by
        unfold OP at q
        rcases q with ⟨z, _, q⟩ | ⟨z, _, q⟩ | ⟨z, _, q⟩ | ⟨z, _, q⟩ | ⟨z, _, q⟩ | ⟨z, _, q⟩ | ⟨z, _, q⟩ <;> first | omega | exact absurd q (by assumption), rfl⟩, rfl⟩
    · skip
      have hy42 : isS T b k 42 := b01_ne hb144
      refine ht_bipush (v := 9) (D 55 rfl) (by decide) ?_
      refine ht_goto (tgt := 153) (D 56 rfl) (by decide) ?_
      refine ht_iret (D 58 rfl) rfl rfl ?_
      first | exact ⟨Or.inl ⟨22, Or.inr (Or.inr (Or.inr (Or.inr (Or.inr (Or.inr ⟨rfl, rfl, hy42⟩))))), rfl⟩, rfl⟩ | exact ⟨Or.inr ⟨fun op q => by
        unfold OP at q
        rcases q with ⟨z, _, q⟩ | ⟨z, _, q⟩ | ⟨z, _, q⟩ | ⟨z, _, q⟩ | ⟨z, _, q⟩ | ⟨z, _, q⟩ | ⟨z, _, q⟩ <;> first | omega | exact absurd q (by assumption), rfl⟩, rfl⟩
end Q1
