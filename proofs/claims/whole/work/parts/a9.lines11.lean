/-! ===== the class: a line, all lines ===== -/
section R9
variable {G : GG} {σ σ0 σ1 σ2 : Hp} {ad : Nat → Nat} {aA aS aV r sA n p b e k S1 : Nat} {T : ST} {s : TD}
theorem CS.lt (h : CS ad T n σ0 S1 s p b e k r sA σ) (hk : ¬ k = 0) : b < e := by
  have h1 := TK_le h.tk
  by_cases q : b = n
  · exact absurd (h1.2.2.2.1.mpr q) hk
  · exact h1.2.2.2.2.1 (by omega)
/-- how a whole line ends on the class -/
def QN (ad : Nat → Nat) (T : ST) (n : Nat) (σ0 : Hp) (S1 : Nat) (s : TD) (p b e k r sA : Nat) : Option Value → Hp → Prop := fun rv σ' => (∃ f, Ln T n s b e k (.inr f) ∧ rv = some (.int 0) ∧ ∃ s2, FT σ0 S1 s2 r f σ') ∨ (∃ s2 q, Ln T n s b e k (.inl (s2, q)) ∧ p < q ∧ rv = some (.int 1) ∧ TV T n s2 ∧ CE ad T n σ0 S1 s2 q r sA σ')
set_option maxRecDepth 100000 in
theorem sk_readLine (hE : NE G) (hB : BK G ad aA aS aV) (hJ : ∀ i j, i < 22 → j < 22 → ad i = ad j → i = j) (hH : CS ad T n σ0 S1 s p b e k r sA σ) (hV : TV T n s) (hsA : sA < r) (hr22 : r + 22 ≤ gC G) (hS1 : S1 + 2068 ≤ gS G) : Sp G mX5_readLine 43 [.ref r] σ (QN ad T n σ0 S1 s p b e k r sA) := by
  have D := dat dl_X5_readLine
  show HT G mX5_readLine 0 [some (.ref r), none, none] [] σ 43 _
  rcases CT_w hH.1.2.2.1 with ⟨hw, hno0⟩ | ⟨i, hi, hw, hiw⟩
  · skip
    refine ht_aload_n (D 0 rfl) rfl rfl ?_
    refine gf_X5_30 rfl (D 1 rfl) hH.1.1.rk hH.1.1.q1 ?_
    refine gn_X5_63 rfl (D 2 rfl) hH.1.1.tk hw ?_
    refine ht_astore_nN (D 3 rfl) rfl (by decide) rfl ?_
    refine ht_aload_nN (D 4 rfl) rfl rfl ?_
    refine ht_gets (hB.st (i := 0) (by decide)) lb_X5_67 (D 5 rfl) ?_
    refine ht_acmp_ne (rx := none) (ry := some (ad 0)) (tgt := 24) (D 6 rfl) (by decide) (fun hb12 => ?_) (fun hb12 => ?_)
    · skip
      have hno0_ : ¬ isW T b e k 0 := hno0 0 (by decide)
      refine ht_aload_nN (D 12 rfl) rfl rfl ?_
      refine ht_gets (hB.st (i := 1) (by decide)) lb_X5_76 (D 13 rfl) ?_
      refine ht_acmp_ne (rx := none) (ry := some (ad 1)) (tgt := 40) (D 14 rfl) (by decide) (fun hb28 => ?_) (fun hb28 => ?_)
      · skip
        have hno1 : ¬ isW T b e k 1 := hno0 1 (by decide)
        refine ht_aload_nN (D 20 rfl) rfl rfl ?_
        refine ht_gets (hB.st (i := 2) (by decide)) lb_X5_79 (D 21 rfl) ?_
        refine ht_acmp_ne (rx := none) (ry := some (ad 2)) (tgt := 55) (D 22 rfl) (by decide) (fun hb44 => ?_) (fun hb44 => ?_)
        · skip
          have hno2 : ¬ isW T b e k 2 := hno0 2 (by decide)
          refine ht_aload_nN (D 27 rfl) rfl rfl ?_
          refine ht_gets (hB.st (i := 3) (by decide)) lb_X5_85 (D 28 rfl) ?_
          refine ht_acmp_ne (rx := none) (ry := some (ad 3)) (tgt := 70) (D 29 rfl) (by decide) (fun hb59 => ?_) (fun hb59 => ?_)
          · skip
            have hno3 : ¬ isW T b e k 3 := hno0 3 (by decide)
            refine ht_aload_nN (D 34 rfl) rfl rfl ?_
            refine ht_gets (hB.st (i := 5) (by decide)) lb_X5_91 (D 35 rfl) ?_
            refine ht_acmp_ne (rx := none) (ry := some (ad 5)) (tgt := 85) (D 36 rfl) (by decide) (fun hb74 => ?_) (fun hb74 => ?_)
            · skip
              have hno5 : ¬ isW T b e k 5 := hno0 5 (by decide)
              refine ht_aload_nN (D 41 rfl) rfl rfl ?_
              refine ht_gets (hB.st (i := 9) (by decide)) lb_X5_97 (D 42 rfl) ?_
              refine ht_acmp_ne (rx := none) (ry := some (ad 9)) (tgt := 100) (D 43 rfl) (by decide) (fun hb89 => ?_) (fun hb89 => ?_)
              · skip
                have hno9 : ¬ isW T b e k 9 := hno0 9 (by decide)
                refine ht_aload_nN (D 48 rfl) rfl rfl ?_
                refine ht_gets (hB.st (i := 13) (by decide)) lb_X5_103 (D 49 rfl) ?_
                refine ht_acmp_ne (rx := none) (ry := some (ad 13)) (tgt := 115) (D 50 rfl) (by decide) (fun hb104 => ?_) (fun hb104 => ?_)
                · skip
                  have hno13 : ¬ isW T b e k 13 := hno0 13 (by decide)
                  refine ht_aload_n (D 55 rfl) rfl rfl ?_
                  refine ht_iconst (v := 1) (D 56 rfl) (by decide) ?_
                  refine kVX5_wrong (As := [_]) cl_X5_109 (D 57 rfl) (sk_wrong hH 1 (by decide)) hH.1.1.rk rfl (Nat.le_of_ble_eq_true rfl) rfl (Nat.le_of_ble_eq_true rfl) (by omega) ?_
                  rintro _ σ ⟨rfl, hft⟩
                  have hfl : Ln T n s b e k (.inr (1 + 16 * nI b)) := Or.inr (Or.inr (Or.inr (Or.inr (Or.inr (Or.inr (Or.inr (⟨⟨hno0_, hno1, hno2, hno3, hno5, hno9, hno13⟩, rfl⟩)))))))
                  refine ht_istore_n (D 58 rfl) rfl (by decide) rfl ?_
                  refine ht_iload_n (D 59 rfl) rfl rfl ?_
                  refine ht_if_eq (tgt := 136) (D 60 rfl) (by decide) (fun hb122 => ?_) (fun hb122 => absurd (by decide) hb122)
                  refine ht_iconst (v := 0) (D 66 rfl) (by decide) ?_
                  refine ht_iret (D 67 rfl) rfl rfl ?_
                  exact Or.inl ⟨_, hfl, rfl, _, hft⟩
                · skip
                  cases hb104
              · skip
                cases hb89
            · skip
              cases hb74
          · skip
            cases hb59
        · skip
          cases hb44
      · skip
        cases hb28
    · skip
      cases hb12
  · skip
    refine ht_aload_n (D 0 rfl) rfl rfl ?_
    refine gf_X5_30 rfl (D 1 rfl) hH.1.1.rk hH.1.1.q1 ?_
    refine gf_X5_63 rfl (D 2 rfl) hH.1.1.tk hw ?_
    refine ht_astore_n (D 3 rfl) rfl (by decide) rfl ?_
    refine ht_aload_n (D 4 rfl) rfl rfl ?_
    refine ht_gets (hB.st (i := 0) (by decide)) lb_X5_67 (D 5 rfl) ?_
    refine ht_acmp_ne (rx := some (ad i)) (ry := some (ad 0)) (tgt := 24) (D 6 rfl) (by decide) (fun hb12 => ?_) (fun hb12 => ?_)
    · skip
      have hno0_ : ¬ isW T b e k 0 := fun q => hb12 (by rw [wB_inj hi (by decide) (hiw.2.symm.trans q.2)])
      refine ht_aload_n (D 12 rfl) rfl rfl ?_
      refine ht_gets (hB.st (i := 1) (by decide)) lb_X5_76 (D 13 rfl) ?_
      refine ht_acmp_ne (rx := some (ad i)) (ry := some (ad 1)) (tgt := 40) (D 14 rfl) (by decide) (fun hb28 => ?_) (fun hb28 => ?_)
      · skip
        have hno1 : ¬ isW T b e k 1 := fun q => hb28 (by rw [wB_inj hi (by decide) (hiw.2.symm.trans q.2)])
        refine ht_aload_n (D 20 rfl) rfl rfl ?_
        refine ht_gets (hB.st (i := 2) (by decide)) lb_X5_79 (D 21 rfl) ?_
        refine ht_acmp_ne (rx := some (ad i)) (ry := some (ad 2)) (tgt := 55) (D 22 rfl) (by decide) (fun hb44 => ?_) (fun hb44 => ?_)
        · skip
          have hno2 : ¬ isW T b e k 2 := fun q => hb44 (by rw [wB_inj hi (by decide) (hiw.2.symm.trans q.2)])
          refine ht_aload_n (D 27 rfl) rfl rfl ?_
          refine ht_gets (hB.st (i := 3) (by decide)) lb_X5_85 (D 28 rfl) ?_
          refine ht_acmp_ne (rx := some (ad i)) (ry := some (ad 3)) (tgt := 70) (D 29 rfl) (by decide) (fun hb59 => ?_) (fun hb59 => ?_)
          · skip
            have hno3 : ¬ isW T b e k 3 := fun q => hb59 (by rw [wB_inj hi (by decide) (hiw.2.symm.trans q.2)])
            refine ht_aload_n (D 34 rfl) rfl rfl ?_
            refine ht_gets (hB.st (i := 5) (by decide)) lb_X5_91 (D 35 rfl) ?_
            refine ht_acmp_ne (rx := some (ad i)) (ry := some (ad 5)) (tgt := 85) (D 36 rfl) (by decide) (fun hb74 => ?_) (fun hb74 => ?_)
            · skip
              have hno5 : ¬ isW T b e k 5 := fun q => hb74 (by rw [wB_inj hi (by decide) (hiw.2.symm.trans q.2)])
              refine ht_aload_n (D 41 rfl) rfl rfl ?_
              refine ht_gets (hB.st (i := 9) (by decide)) lb_X5_97 (D 42 rfl) ?_
              refine ht_acmp_ne (rx := some (ad i)) (ry := some (ad 9)) (tgt := 100) (D 43 rfl) (by decide) (fun hb89 => ?_) (fun hb89 => ?_)
              · skip
                have hno9 : ¬ isW T b e k 9 := fun q => hb89 (by rw [wB_inj hi (by decide) (hiw.2.symm.trans q.2)])
                refine ht_aload_n (D 48 rfl) rfl rfl ?_
                refine ht_gets (hB.st (i := 13) (by decide)) lb_X5_103 (D 49 rfl) ?_
                refine ht_acmp_ne (rx := some (ad i)) (ry := some (ad 13)) (tgt := 115) (D 50 rfl) (by decide) (fun hb104 => ?_) (fun hb104 => ?_)
                · skip
                  have hno13 : ¬ isW T b e k 13 := fun q => hb104 (by rw [wB_inj hi (by decide) (hiw.2.symm.trans q.2)])
                  refine ht_aload_n (D 55 rfl) rfl rfl ?_
                  refine ht_iconst (v := 1) (D 56 rfl) (by decide) ?_
                  refine kVX5_wrong (As := [_]) cl_X5_109 (D 57 rfl) (sk_wrong hH 1 (by decide)) hH.1.1.rk rfl (Nat.le_of_ble_eq_true rfl) rfl (Nat.le_of_ble_eq_true rfl) (by omega) ?_
                  rintro _ σ ⟨rfl, hft⟩
                  have hfl : Ln T n s b e k (.inr (1 + 16 * nI b)) := Or.inr (Or.inr (Or.inr (Or.inr (Or.inr (Or.inr (Or.inr (⟨⟨hno0_, hno1, hno2, hno3, hno5, hno9, hno13⟩, rfl⟩)))))))
                  refine ht_istore_n (D 58 rfl) rfl (by decide) rfl ?_
                  refine ht_iload_n (D 59 rfl) rfl rfl ?_
                  refine ht_if_eq (tgt := 136) (D 60 rfl) (by decide) (fun hb122 => ?_) (fun hb122 => absurd (by decide) hb122)
                  refine ht_iconst (v := 0) (D 66 rfl) (by decide) ?_
                  refine ht_iret (D 67 rfl) rfl rfl ?_
                  exact Or.inl ⟨_, hfl, rfl, _, hft⟩
                · skip
                  have hye : isW T b e k 13 := by
                    have h9 := hJ i 13 hi (by decide) (Option.some.inj hb104)
                    rw [← h9]; exact hiw
                  have hee : 0 < e := by
                    have h9 := hH.lt (by rw [hye.1]; decide)
                    omega
                  refine ht_aload_n (D 51 rfl) rfl rfl ?_
                  refine kVX5_readGuard (As := []) cl_X5_106 (D 52 rfl) (sk_readGuard hE hB hJ hH hV) hH.1.1.rk rfl (Nat.le_of_ble_eq_true rfl) rfl (Nat.le_of_ble_eq_true rfl) (by omega) ?_
                  rintro _ σ (⟨f, hfa, rfl, hft⟩ | ⟨s2, q, hgo, hleq, rfl, hV2, hce⟩)
                  · skip
                    have hfl : Ln T n s b e k (.inr f) := Or.inr (Or.inr (Or.inr (Or.inr (Or.inr (Or.inr (Or.inl (⟨hye, hfa _⟩)))))))
                    refine ht_istore_n (D 53 rfl) rfl (by decide) rfl ?_
                    refine ht_goto (tgt := 121) (D 54 rfl) (by decide) ?_
                    refine ht_iload_n (D 59 rfl) rfl rfl ?_
                    refine ht_if_eq (tgt := 136) (D 60 rfl) (by decide) (fun hb122 => ?_) (fun hb122 => absurd (by decide) hb122)
                    refine ht_iconst (v := 0) (D 66 rfl) (by decide) ?_
                    refine ht_iret (D 67 rfl) rfl rfl ?_
                    exact Or.inl ⟨_, hfl, rfl, _, hft⟩
                  · skip
                    have hgl : ∀ res, nEnd T n s2 q = res → Ln T n s b e k res := by
                      intro res hr
                      rw [← hr]
                      exact Or.inr (Or.inr (Or.inr (Or.inr (Or.inr (Or.inr (Or.inl (⟨hye, hgo _⟩)))))))
                    have hl0 := hH.le
                    obtain ⟨b, e, k, hH⟩ := hce
                    refine ht_istore_n (D 53 rfl) rfl (by decide) rfl ?_
                    refine ht_goto (tgt := 121) (D 54 rfl) (by decide) ?_
                    refine ht_iload_n (D 59 rfl) rfl rfl ?_
                    refine ht_if_eq (tgt := 136) (D 60 rfl) (by decide) (fun hb122 => absurd hb122 (by decide)) (fun hb122 => ?_)
                    refine ht_aload_n (D 61 rfl) rfl rfl ?_
                    refine kVX5_readLineEnd (As := []) cl_X5_113 (D 62 rfl) (sk_lineEnd hE hB hH) hH.1.1.rk rfl (Nat.le_of_ble_eq_true rfl) rfl (Nat.le_of_ble_eq_true rfl) (by omega) ?_
                    rintro _ σ (⟨hns, rfl, hft⟩ | ⟨hys, rfl, hce⟩)
                    · skip
                      have hfl := hgl _ (nEnd_n hH.tk hns)
                      refine ht_if_eq (tgt := 136) (D 63 rfl) (by decide) (fun hb129 => ?_) (fun hb129 => absurd (by decide) hb129)
                      refine ht_iconst (v := 0) (D 66 rfl) (by decide) ?_
                      refine ht_iret (D 67 rfl) rfl rfl ?_
                      exact Or.inl ⟨_, hfl, rfl, _, hft⟩
                    · skip
                      have hsl := hgl _ (nEnd_y hH.tk hys)
                      have hl1 := hH.le
                      have hl2 := hH.lt (by rw [hys.1]; decide)
                      refine ht_if_eq (tgt := 136) (D 63 rfl) (by decide) (fun hb129 => absurd hb129 (by decide)) (fun hb129 => ?_)
                      refine ht_iconst (v := 1) (D 64 rfl) (by decide) ?_
                      refine ht_goto (tgt := 137) (D 65 rfl) (by decide) ?_
                      refine ht_iret (D 67 rfl) rfl rfl ?_
                      exact Or.inr ⟨_, _, hsl, by omega, rfl, hV2, hce⟩
              · skip
                have hye : isW T b e k 9 := by
                  have h9 := hJ i 9 hi (by decide) (Option.some.inj hb89)
                  rw [← h9]; exact hiw
                have hee : 0 < e := by
                  have h9 := hH.lt (by rw [hye.1]; decide)
                  omega
                refine ht_aload_n (D 44 rfl) rfl rfl ?_
                refine kVX5_readMan (As := []) cl_X5_100 (D 45 rfl) (sk_readMan hE hB hJ hH hV) hH.1.1.rk rfl (Nat.le_of_ble_eq_true rfl) rfl (Nat.le_of_ble_eq_true rfl) (by omega) ?_
                rintro _ σ (⟨f, hfa, rfl, hft⟩ | ⟨s2, q, hgo, hleq, rfl, hV2, hce⟩)
                · skip
                  have hfl : Ln T n s b e k (.inr f) := Or.inr (Or.inr (Or.inr (Or.inr (Or.inr (Or.inl (⟨hye, hfa _⟩))))))
                  refine ht_istore_n (D 46 rfl) rfl (by decide) rfl ?_
                  refine ht_goto (tgt := 121) (D 47 rfl) (by decide) ?_
                  refine ht_iload_n (D 59 rfl) rfl rfl ?_
                  refine ht_if_eq (tgt := 136) (D 60 rfl) (by decide) (fun hb122 => ?_) (fun hb122 => absurd (by decide) hb122)
                  refine ht_iconst (v := 0) (D 66 rfl) (by decide) ?_
                  refine ht_iret (D 67 rfl) rfl rfl ?_
                  exact Or.inl ⟨_, hfl, rfl, _, hft⟩
                · skip
                  have hgl : ∀ res, nEnd T n s2 q = res → Ln T n s b e k res := by
                    intro res hr
                    rw [← hr]
                    exact Or.inr (Or.inr (Or.inr (Or.inr (Or.inr (Or.inl (⟨hye, hgo _⟩))))))
                  have hl0 := hH.le
                  obtain ⟨b, e, k, hH⟩ := hce
                  refine ht_istore_n (D 46 rfl) rfl (by decide) rfl ?_
                  refine ht_goto (tgt := 121) (D 47 rfl) (by decide) ?_
                  refine ht_iload_n (D 59 rfl) rfl rfl ?_
                  refine ht_if_eq (tgt := 136) (D 60 rfl) (by decide) (fun hb122 => absurd hb122 (by decide)) (fun hb122 => ?_)
                  refine ht_aload_n (D 61 rfl) rfl rfl ?_
                  refine kVX5_readLineEnd (As := []) cl_X5_113 (D 62 rfl) (sk_lineEnd hE hB hH) hH.1.1.rk rfl (Nat.le_of_ble_eq_true rfl) rfl (Nat.le_of_ble_eq_true rfl) (by omega) ?_
                  rintro _ σ (⟨hns, rfl, hft⟩ | ⟨hys, rfl, hce⟩)
                  · skip
                    have hfl := hgl _ (nEnd_n hH.tk hns)
                    refine ht_if_eq (tgt := 136) (D 63 rfl) (by decide) (fun hb129 => ?_) (fun hb129 => absurd (by decide) hb129)
                    refine ht_iconst (v := 0) (D 66 rfl) (by decide) ?_
                    refine ht_iret (D 67 rfl) rfl rfl ?_
                    exact Or.inl ⟨_, hfl, rfl, _, hft⟩
                  · skip
                    have hsl := hgl _ (nEnd_y hH.tk hys)
                    have hl1 := hH.le
                    have hl2 := hH.lt (by rw [hys.1]; decide)
                    refine ht_if_eq (tgt := 136) (D 63 rfl) (by decide) (fun hb129 => absurd hb129 (by decide)) (fun hb129 => ?_)
                    refine ht_iconst (v := 1) (D 64 rfl) (by decide) ?_
                    refine ht_goto (tgt := 137) (D 65 rfl) (by decide) ?_
                    refine ht_iret (D 67 rfl) rfl rfl ?_
                    exact Or.inr ⟨_, _, hsl, by omega, rfl, hV2, hce⟩
            · skip
              have hye : isW T b e k 5 := by
                have h9 := hJ i 5 hi (by decide) (Option.some.inj hb74)
                rw [← h9]; exact hiw
              have hee : 0 < e := by
                have h9 := hH.lt (by rw [hye.1]; decide)
                omega
              refine ht_aload_n (D 37 rfl) rfl rfl ?_
              refine kVX5_readDoor (As := []) cl_X5_94 (D 38 rfl) (sk_readDoor hE hB hJ hH hV) hH.1.1.rk rfl (Nat.le_of_ble_eq_true rfl) rfl (Nat.le_of_ble_eq_true rfl) (by omega) ?_
              rintro _ σ (⟨f, hfa, rfl, hft⟩ | ⟨s2, q, hgo, hleq, rfl, hV2, hce⟩)
              · skip
                have hfl : Ln T n s b e k (.inr f) := Or.inr (Or.inr (Or.inr (Or.inr (Or.inl (⟨hye, hfa _⟩)))))
                refine ht_istore_n (D 39 rfl) rfl (by decide) rfl ?_
                refine ht_goto (tgt := 121) (D 40 rfl) (by decide) ?_
                refine ht_iload_n (D 59 rfl) rfl rfl ?_
                refine ht_if_eq (tgt := 136) (D 60 rfl) (by decide) (fun hb122 => ?_) (fun hb122 => absurd (by decide) hb122)
                refine ht_iconst (v := 0) (D 66 rfl) (by decide) ?_
                refine ht_iret (D 67 rfl) rfl rfl ?_
                exact Or.inl ⟨_, hfl, rfl, _, hft⟩
              · skip
                have hgl : ∀ res, nEnd T n s2 q = res → Ln T n s b e k res := by
                  intro res hr
                  rw [← hr]
                  exact Or.inr (Or.inr (Or.inr (Or.inr (Or.inl (⟨hye, hgo _⟩)))))
                have hl0 := hH.le
                obtain ⟨b, e, k, hH⟩ := hce
                refine ht_istore_n (D 39 rfl) rfl (by decide) rfl ?_
                refine ht_goto (tgt := 121) (D 40 rfl) (by decide) ?_
                refine ht_iload_n (D 59 rfl) rfl rfl ?_
                refine ht_if_eq (tgt := 136) (D 60 rfl) (by decide) (fun hb122 => absurd hb122 (by decide)) (fun hb122 => ?_)
                refine ht_aload_n (D 61 rfl) rfl rfl ?_
                refine kVX5_readLineEnd (As := []) cl_X5_113 (D 62 rfl) (sk_lineEnd hE hB hH) hH.1.1.rk rfl (Nat.le_of_ble_eq_true rfl) rfl (Nat.le_of_ble_eq_true rfl) (by omega) ?_
                rintro _ σ (⟨hns, rfl, hft⟩ | ⟨hys, rfl, hce⟩)
                · skip
                  have hfl := hgl _ (nEnd_n hH.tk hns)
                  refine ht_if_eq (tgt := 136) (D 63 rfl) (by decide) (fun hb129 => ?_) (fun hb129 => absurd (by decide) hb129)
                  refine ht_iconst (v := 0) (D 66 rfl) (by decide) ?_
                  refine ht_iret (D 67 rfl) rfl rfl ?_
                  exact Or.inl ⟨_, hfl, rfl, _, hft⟩
                · skip
                  have hsl := hgl _ (nEnd_y hH.tk hys)
                  have hl1 := hH.le
                  have hl2 := hH.lt (by rw [hys.1]; decide)
                  refine ht_if_eq (tgt := 136) (D 63 rfl) (by decide) (fun hb129 => absurd hb129 (by decide)) (fun hb129 => ?_)
                  refine ht_iconst (v := 1) (D 64 rfl) (by decide) ?_
                  refine ht_goto (tgt := 137) (D 65 rfl) (by decide) ?_
                  refine ht_iret (D 67 rfl) rfl rfl ?_
                  exact Or.inr ⟨_, _, hsl, by omega, rfl, hV2, hce⟩
          · skip
            have hye : isW T b e k 3 := by
              have h9 := hJ i 3 hi (by decide) (Option.some.inj hb59)
              rw [← h9]; exact hiw
            have hee : 0 < e := by
              have h9 := hH.lt (by rw [hye.1]; decide)
              omega
            refine ht_aload_n (D 30 rfl) rfl rfl ?_
            refine kVX5_readCell (As := []) cl_X5_88 (D 31 rfl) (sk_readCell hE hB hJ hH hV) hH.1.1.rk rfl (Nat.le_of_ble_eq_true rfl) rfl (Nat.le_of_ble_eq_true rfl) (by omega) ?_
            rintro _ σ (⟨f, hfa, rfl, hft⟩ | ⟨s2, q, hgo, hleq, rfl, hV2, hce⟩)
            · skip
              have hfl : Ln T n s b e k (.inr f) := Or.inr (Or.inr (Or.inr (Or.inl (⟨hye, hfa _⟩))))
              refine ht_istore_n (D 32 rfl) rfl (by decide) rfl ?_
              refine ht_goto (tgt := 121) (D 33 rfl) (by decide) ?_
              refine ht_iload_n (D 59 rfl) rfl rfl ?_
              refine ht_if_eq (tgt := 136) (D 60 rfl) (by decide) (fun hb122 => ?_) (fun hb122 => absurd (by decide) hb122)
              refine ht_iconst (v := 0) (D 66 rfl) (by decide) ?_
              refine ht_iret (D 67 rfl) rfl rfl ?_
              exact Or.inl ⟨_, hfl, rfl, _, hft⟩
            · skip
              have hgl : ∀ res, nEnd T n s2 q = res → Ln T n s b e k res := by
                intro res hr
                rw [← hr]
                exact Or.inr (Or.inr (Or.inr (Or.inl (⟨hye, hgo _⟩))))
              have hl0 := hH.le
              obtain ⟨b, e, k, hH⟩ := hce
              refine ht_istore_n (D 32 rfl) rfl (by decide) rfl ?_
              refine ht_goto (tgt := 121) (D 33 rfl) (by decide) ?_
              refine ht_iload_n (D 59 rfl) rfl rfl ?_
              refine ht_if_eq (tgt := 136) (D 60 rfl) (by decide) (fun hb122 => absurd hb122 (by decide)) (fun hb122 => ?_)
              refine ht_aload_n (D 61 rfl) rfl rfl ?_
              refine kVX5_readLineEnd (As := []) cl_X5_113 (D 62 rfl) (sk_lineEnd hE hB hH) hH.1.1.rk rfl (Nat.le_of_ble_eq_true rfl) rfl (Nat.le_of_ble_eq_true rfl) (by omega) ?_
              rintro _ σ (⟨hns, rfl, hft⟩ | ⟨hys, rfl, hce⟩)
              · skip
                have hfl := hgl _ (nEnd_n hH.tk hns)
                refine ht_if_eq (tgt := 136) (D 63 rfl) (by decide) (fun hb129 => ?_) (fun hb129 => absurd (by decide) hb129)
                refine ht_iconst (v := 0) (D 66 rfl) (by decide) ?_
                refine ht_iret (D 67 rfl) rfl rfl ?_
                exact Or.inl ⟨_, hfl, rfl, _, hft⟩
              · skip
                have hsl := hgl _ (nEnd_y hH.tk hys)
                have hl1 := hH.le
                have hl2 := hH.lt (by rw [hys.1]; decide)
                refine ht_if_eq (tgt := 136) (D 63 rfl) (by decide) (fun hb129 => absurd hb129 (by decide)) (fun hb129 => ?_)
                refine ht_iconst (v := 1) (D 64 rfl) (by decide) ?_
                refine ht_goto (tgt := 137) (D 65 rfl) (by decide) ?_
                refine ht_iret (D 67 rfl) rfl rfl ?_
                exact Or.inr ⟨_, _, hsl, by omega, rfl, hV2, hce⟩
        · skip
          have hye : isW T b e k 2 := by
            have h9 := hJ i 2 hi (by decide) (Option.some.inj hb44)
            rw [← h9]; exact hiw
          have hee : 0 < e := by
            have h9 := hH.lt (by rw [hye.1]; decide)
            omega
          refine ht_aload_n (D 23 rfl) rfl rfl ?_
          refine kVX5_readMild (As := []) cl_X5_82 (D 24 rfl) (sk_readMild hE hB hJ hH hV) hH.1.1.rk rfl (Nat.le_of_ble_eq_true rfl) rfl (Nat.le_of_ble_eq_true rfl) (by omega) ?_
          rintro _ σ (⟨f, hfa, rfl, hft⟩ | ⟨s2, q, hgo, hleq, rfl, hV2, hce⟩)
          · skip
            have hfl : Ln T n s b e k (.inr f) := Or.inr (Or.inr (Or.inl (⟨hye, hfa _⟩)))
            refine ht_istore_n (D 25 rfl) rfl (by decide) rfl ?_
            refine ht_goto (tgt := 121) (D 26 rfl) (by decide) ?_
            refine ht_iload_n (D 59 rfl) rfl rfl ?_
            refine ht_if_eq (tgt := 136) (D 60 rfl) (by decide) (fun hb122 => ?_) (fun hb122 => absurd (by decide) hb122)
            refine ht_iconst (v := 0) (D 66 rfl) (by decide) ?_
            refine ht_iret (D 67 rfl) rfl rfl ?_
            exact Or.inl ⟨_, hfl, rfl, _, hft⟩
          · skip
            have hgl : ∀ res, nEnd T n s2 q = res → Ln T n s b e k res := by
              intro res hr
              rw [← hr]
              exact Or.inr (Or.inr (Or.inl (⟨hye, hgo _⟩)))
            have hl0 := hH.le
            obtain ⟨b, e, k, hH⟩ := hce
            refine ht_istore_n (D 25 rfl) rfl (by decide) rfl ?_
            refine ht_goto (tgt := 121) (D 26 rfl) (by decide) ?_
            refine ht_iload_n (D 59 rfl) rfl rfl ?_
            refine ht_if_eq (tgt := 136) (D 60 rfl) (by decide) (fun hb122 => absurd hb122 (by decide)) (fun hb122 => ?_)
            refine ht_aload_n (D 61 rfl) rfl rfl ?_
            refine kVX5_readLineEnd (As := []) cl_X5_113 (D 62 rfl) (sk_lineEnd hE hB hH) hH.1.1.rk rfl (Nat.le_of_ble_eq_true rfl) rfl (Nat.le_of_ble_eq_true rfl) (by omega) ?_
            rintro _ σ (⟨hns, rfl, hft⟩ | ⟨hys, rfl, hce⟩)
            · skip
              have hfl := hgl _ (nEnd_n hH.tk hns)
              refine ht_if_eq (tgt := 136) (D 63 rfl) (by decide) (fun hb129 => ?_) (fun hb129 => absurd (by decide) hb129)
              refine ht_iconst (v := 0) (D 66 rfl) (by decide) ?_
              refine ht_iret (D 67 rfl) rfl rfl ?_
              exact Or.inl ⟨_, hfl, rfl, _, hft⟩
            · skip
              have hsl := hgl _ (nEnd_y hH.tk hys)
              have hl1 := hH.le
              have hl2 := hH.lt (by rw [hys.1]; decide)
              refine ht_if_eq (tgt := 136) (D 63 rfl) (by decide) (fun hb129 => absurd hb129 (by decide)) (fun hb129 => ?_)
              refine ht_iconst (v := 1) (D 64 rfl) (by decide) ?_
              refine ht_goto (tgt := 137) (D 65 rfl) (by decide) ?_
              refine ht_iret (D 67 rfl) rfl rfl ?_
              exact Or.inr ⟨_, _, hsl, by omega, rfl, hV2, hce⟩
      · skip
        have hye : isW T b e k 1 := by
          have h9 := hJ i 1 hi (by decide) (Option.some.inj hb28)
          rw [← h9]; exact hiw
        have hee : 0 < e := by
          have h9 := hH.lt (by rw [hye.1]; decide)
          omega
        refine ht_aload_n (D 15 rfl) rfl rfl ?_
        refine ht_iconst (v := 0) (D 16 rfl) (by decide) ?_
        refine kVX5_readFormula (As := [_]) cl_X5_72 (D 17 rfl) (sk_readFI hE hB hJ hH hV hsA hee hr22 hS1) hH.1.1.rk rfl (Nat.le_of_ble_eq_true rfl) rfl (Nat.le_of_ble_eq_true rfl) (by omega) ?_
        rintro _ σ (⟨f, hfa, rfl, hft⟩ | ⟨s2, q, hgo, hleq, rfl, hV2, hce⟩)
        · skip
          have hfl : Ln T n s b e k (.inr f) := Or.inr (Or.inl (⟨hye, hfa _⟩))
          refine ht_istore_n (D 18 rfl) rfl (by decide) rfl ?_
          refine ht_goto (tgt := 121) (D 19 rfl) (by decide) ?_
          refine ht_iload_n (D 59 rfl) rfl rfl ?_
          refine ht_if_eq (tgt := 136) (D 60 rfl) (by decide) (fun hb122 => ?_) (fun hb122 => absurd (by decide) hb122)
          refine ht_iconst (v := 0) (D 66 rfl) (by decide) ?_
          refine ht_iret (D 67 rfl) rfl rfl ?_
          exact Or.inl ⟨_, hfl, rfl, _, hft⟩
        · skip
          have hgl : ∀ res, nEnd T n s2 q = res → Ln T n s b e k res := by
            intro res hr
            rw [← hr]
            exact Or.inr (Or.inl (⟨hye, hgo _⟩))
          have hl0 := hH.le
          obtain ⟨b, e, k, hH⟩ := hce
          refine ht_istore_n (D 18 rfl) rfl (by decide) rfl ?_
          refine ht_goto (tgt := 121) (D 19 rfl) (by decide) ?_
          refine ht_iload_n (D 59 rfl) rfl rfl ?_
          refine ht_if_eq (tgt := 136) (D 60 rfl) (by decide) (fun hb122 => absurd hb122 (by decide)) (fun hb122 => ?_)
          refine ht_aload_n (D 61 rfl) rfl rfl ?_
          refine kVX5_readLineEnd (As := []) cl_X5_113 (D 62 rfl) (sk_lineEnd hE hB hH) hH.1.1.rk rfl (Nat.le_of_ble_eq_true rfl) rfl (Nat.le_of_ble_eq_true rfl) (by omega) ?_
          rintro _ σ (⟨hns, rfl, hft⟩ | ⟨hys, rfl, hce⟩)
          · skip
            have hfl := hgl _ (nEnd_n hH.tk hns)
            refine ht_if_eq (tgt := 136) (D 63 rfl) (by decide) (fun hb129 => ?_) (fun hb129 => absurd (by decide) hb129)
            refine ht_iconst (v := 0) (D 66 rfl) (by decide) ?_
            refine ht_iret (D 67 rfl) rfl rfl ?_
            exact Or.inl ⟨_, hfl, rfl, _, hft⟩
          · skip
            have hsl := hgl _ (nEnd_y hH.tk hys)
            have hl1 := hH.le
            have hl2 := hH.lt (by rw [hys.1]; decide)
            refine ht_if_eq (tgt := 136) (D 63 rfl) (by decide) (fun hb129 => absurd hb129 (by decide)) (fun hb129 => ?_)
            refine ht_iconst (v := 1) (D 64 rfl) (by decide) ?_
            refine ht_goto (tgt := 137) (D 65 rfl) (by decide) ?_
            refine ht_iret (D 67 rfl) rfl rfl ?_
            exact Or.inr ⟨_, _, hsl, by omega, rfl, hV2, hce⟩
    · skip
      have hye : isW T b e k 0 := by
        have h9 := hJ i 0 hi (by decide) (Option.some.inj hb12)
        rw [← h9]; exact hiw
      have hee : 0 < e := by
        have h9 := hH.lt (by rw [hye.1]; decide)
        omega
      refine ht_aload_n (D 7 rfl) rfl rfl ?_
      refine ht_iconst (v := 1) (D 8 rfl) (by decide) ?_
      refine kVX5_readFormula (As := [_]) cl_X5_72 (D 9 rfl) (sk_readFW hE hB hJ hH hV hsA hee hr22 hS1) hH.1.1.rk rfl (Nat.le_of_ble_eq_true rfl) rfl (Nat.le_of_ble_eq_true rfl) (by omega) ?_
      rintro _ σ (⟨f, hfa, rfl, hft⟩ | ⟨s2, q, hgo, hleq, rfl, hV2, hce⟩)
      · skip
        have hfl : Ln T n s b e k (.inr f) := Or.inl (⟨hye, hfa _⟩)
        refine ht_istore_n (D 10 rfl) rfl (by decide) rfl ?_
        refine ht_goto (tgt := 121) (D 11 rfl) (by decide) ?_
        refine ht_iload_n (D 59 rfl) rfl rfl ?_
        refine ht_if_eq (tgt := 136) (D 60 rfl) (by decide) (fun hb122 => ?_) (fun hb122 => absurd (by decide) hb122)
        refine ht_iconst (v := 0) (D 66 rfl) (by decide) ?_
        refine ht_iret (D 67 rfl) rfl rfl ?_
        exact Or.inl ⟨_, hfl, rfl, _, hft⟩
      · skip
        have hgl : ∀ res, nEnd T n s2 q = res → Ln T n s b e k res := by
          intro res hr
          rw [← hr]
          exact Or.inl (⟨hye, hgo _⟩)
        have hl0 := hH.le
        obtain ⟨b, e, k, hH⟩ := hce
        refine ht_istore_n (D 10 rfl) rfl (by decide) rfl ?_
        refine ht_goto (tgt := 121) (D 11 rfl) (by decide) ?_
        refine ht_iload_n (D 59 rfl) rfl rfl ?_
        refine ht_if_eq (tgt := 136) (D 60 rfl) (by decide) (fun hb122 => absurd hb122 (by decide)) (fun hb122 => ?_)
        refine ht_aload_n (D 61 rfl) rfl rfl ?_
        refine kVX5_readLineEnd (As := []) cl_X5_113 (D 62 rfl) (sk_lineEnd hE hB hH) hH.1.1.rk rfl (Nat.le_of_ble_eq_true rfl) rfl (Nat.le_of_ble_eq_true rfl) (by omega) ?_
        rintro _ σ (⟨hns, rfl, hft⟩ | ⟨hys, rfl, hce⟩)
        · skip
          have hfl := hgl _ (nEnd_n hH.tk hns)
          refine ht_if_eq (tgt := 136) (D 63 rfl) (by decide) (fun hb129 => ?_) (fun hb129 => absurd (by decide) hb129)
          refine ht_iconst (v := 0) (D 66 rfl) (by decide) ?_
          refine ht_iret (D 67 rfl) rfl rfl ?_
          exact Or.inl ⟨_, hfl, rfl, _, hft⟩
        · skip
          have hsl := hgl _ (nEnd_y hH.tk hys)
          have hl1 := hH.le
          have hl2 := hH.lt (by rw [hys.1]; decide)
          refine ht_if_eq (tgt := 136) (D 63 rfl) (by decide) (fun hb129 => absurd hb129 (by decide)) (fun hb129 => ?_)
          refine ht_iconst (v := 1) (D 64 rfl) (by decide) ?_
          refine ht_goto (tgt := 137) (D 65 rfl) (by decide) ?_
          refine ht_iret (D 67 rfl) rfl rfl ?_
          exact Or.inr ⟨_, _, hsl, by omega, rfl, hV2, hce⟩
/-- the closed rules of reading line by line -/
def ClC (T : ST) (n : Nat) (P : TD → Nat → Rl → Prop) : Prop := (∀ s p b e, TK T n p b e 0 → TV T n s → P s p (.inl (s, p))) ∧ (∀ s p b e k f, TK T n p b e k → ¬ k = 0 → TV T n s → Ln T n s b e k (.inr f) → P s p (.inr f)) ∧ ∀ s p b e k s2 q res, TK T n p b e k → ¬ k = 0 → TV T n s → Ln T n s b e k (.inl (s2, q)) → TV T n s2 → P s2 q res → P s p res
def Chn (T : ST) (n : Nat) (s : TD) (p : Nat) (res : Rl) : Prop := ∀ P, ClC T n P → P s p res
/-- the told as a row of a prison -/
def tdV (s : TD) : VT := fun o i => if o = 2 then nI (tdC s 0) else if o = 3 then nI (tdC s 1) else if o = 4 then nI (tdC s 2) else if o = 5 then nI (tdC s 3) else tdR s o i
theorem TV.pl (h : TV T n s) : PL (tdV s) (tdC s 0) (tdC s 1) (tdC s 2) (tdC s 3) := by
  obtain ⟨⟨a0, a1, a2, a3, a4⟩, hm, h9, h10, h13, h16, hF⟩ := h
  refine ⟨⟨rfl, a0⟩, ⟨rfl, a1⟩, ⟨rfl, a2⟩, ⟨rfl, a3⟩, fun g hg => ?_, fun j hj => (h10 j hj).2.1, fun j hj => (h10 j hj).2.2.1⟩
  obtain ⟨l, q1, q2, q3, _⟩ := h16 g hg
  exact ⟨l, q1, q2, q3⟩
/-- the reader behind all lines -/
def FN (ad : Nat → Nat) (T : ST) (n : Nat) (σ0 : Hp) (S1 : Nat) (s : TD) (r sA : Nat) (σ : Hp) : Prop := ∃ (σ3 : Hp) (p b e k : Nat) (Z2 : VT), CS ad T n σ0 S1 s p b e k r sA σ3 ∧ σ = cv σ3 Z2 ∧ Do (r + 1 + 2) (zI σ3) Z2 ∧ WR (Z2 (r + 1 + 2)) (rdN (tdV s) w1 (tdC s 1) (fun _ => none) (tdC s 0)) 400000
def QAl (ad : Nat → Nat) (T : ST) (n : Nat) (σ0 : Hp) (S1 : Nat) (s : TD) (p r sA : Nat) : Option Value → Hp → Prop := fun rv σ' => ∃ res, Chn T n s p res ∧ ((∃ f, res = .inr f ∧ rv = some (.int f) ∧ ∃ s2, FT σ0 S1 s2 r f σ') ∨ ∃ s2 q, res = .inl (s2, q) ∧ rv = some (.int 0) ∧ TV T n s2 ∧ FN ad T n σ0 S1 s2 r sA σ')
/-- the reader as it begins -/
def CI (T : ST) (n : Nat) (σ0 : Hp) (S1 : Nat) (s : TD) (r sA : Nat) (σ : Hp) : Prop := RS σ r sA n ∧ zI σ sA = T ∧ (∀ i, i < n → okS (T i)) ∧ zI σ (r + 14) 2 = 0 ∧ LT s r σ ∧ FB σ0 S1 s r σ
set_option maxRecDepth 100000 in
theorem sk_readAll (hE : NE G) (hB : BK G ad aA aS aV) (hJ : ∀ i j, i < 22 → j < 22 → ad i = ad j → i = j) (hI : CI T n σ0 S1 s r sA σ) (hV : TV T n s) (hsA : sA < r) (hr22 : r + 22 ≤ gC G) (hS1 : S1 + 2068 ≤ gS G) : Sp G mX5_readAll 44 [.ref r] σ (QAl ad T n σ0 S1 s 0 r sA) := by
  have D := dat dl_X5_readAll
  have hn0 : n ≤ 1000 := hI.1.ts.2.2.2.2.2.1
  have loop : ∀ (m i : Nat) (σ : Hp) (s : TD) (p b e k : Nat), n - p = m → i ≤ p → CS ad T n σ0 S1 s p b e k r sA σ → TV T n s → HT G mX5_readAll 9 [some (.ref r), some (.int (nI i))] [] σ 44 (QAl ad T n σ0 S1 s p r sA) := by
    intro m
    induction m using Nat.strongRecOn with
    | _ m ih =>
      intro i σ s p b e k hm hip hH hV
      have hl0 := hH.le
      have hk4 : k ≤ 4 := (TK_le hH.tk).2.2.2.2.2
      refine ht_iload_n (D 5 rfl) rfl rfl ?_
      refine ht_sipush (v := 1000) (D 6 rfl) (by decide) ?_
      refine ht_icmp_gt (tgt := 44) (D 7 rfl) (by decide) (fun hb13 => ?_) (fun hb13 => ?_)
      · skip
        exact absurd ((nI_ltI (a := 1000) (b := i) (by omega) (by omega)).mp hb13) (by omega)
      · skip
        refine ht_aload_n (D 8 rfl) rfl rfl ?_
        refine gf_X5_30 rfl (D 9 rfl) hH.1.1.rk hH.1.1.q1 ?_
        refine gf_X5_47 rfl (D 10 rfl) hH.1.1.tk ?_
        rw [hH.1.2.2.1.2.2.2.1]
        refine ht_if_eq (tgt := 44) (D 11 rfl) (by decide) (fun hb23 => ?_) (fun hb23 => ?_)
        · skip
          have hk0 : k = 0 := (ckd_i (j := 0) hk4 (by decide)).mp hb23
          subst hk0
          refine ht_aload_n (D 20 rfl) rfl rfl ?_
          refine gf_X5_12 rfl (D 21 rfl) hH.1.1.rk hH.1.1.q0 ?_
          refine kVX2_measureFar (As := []) cl_X5_57 (D 22 rfl) (sc_measureFar (σ := σ) (Z := zI σ) (b := r + 1) hH.1.1.lw hV.pl hH.2.1.1.1 hH.2.1.1.2.1 (fun j _ => ⟨congrFun (hH.2.1.2.2.1 10 (by decide)) j, congrFun (hH.2.1.2.2.1 11 (by decide)) j⟩)) hH.1.1.lw.k0 rfl (Nat.le_of_ble_eq_true rfl) rfl (Nat.le_of_ble_eq_true rfl) (by omega) ?_
          rintro _ σ3 ⟨rfl, Z2, rfl, hdo, hwr⟩
          refine ht_iconst (v := 0) (D 23 rfl) (by decide) ?_
          refine ht_iret (D 24 rfl) rfl rfl ?_
          exact ⟨.inl (s, p), fun P hP => hP.1 s p b e hH.tk hV, Or.inr ⟨s, p, rfl, rfl, hV, _, p, b, e, 0, Z2, hH, rfl, hdo, hwr⟩⟩
        · skip
          have hk0 : ¬ k = 0 := fun q => hb23 (by rw [q]; rfl)
          refine ht_aload_n (D 12 rfl) rfl rfl ?_
          refine kVX5_readLine (As := []) cl_X5_50 (D 13 rfl) (sk_readLine hE hB hJ hH hV hsA hr22 hS1) hH.1.1.rk rfl (Nat.le_of_ble_eq_true rfl) rfl (Nat.le_of_ble_eq_true rfl) (by omega) ?_
          rintro _ σ (⟨f, hfl, rfl, s2, hft⟩ | ⟨s2, q, hsl, hpq, rfl, hV2, b2, e2, k2, hH2⟩)
          · skip
            skip
            refine ht_if_ne (tgt := 38) (D 14 rfl) (by decide) (fun hb30 => absurd (by decide) hb30) (fun hb30 => ?_)
            refine ht_aload_n (D 15 rfl) rfl rfl ?_
            refine gf_X5_54 rfl (D 16 rfl) hft.2.2.2 ?_
            refine ht_iret (D 17 rfl) rfl rfl ?_
            exact ⟨.inr f, fun P hP => hP.2.1 s p b e k f hH.tk hk0 hV hfl, Or.inl ⟨f, rfl, by rw [hft.1], s2, hft⟩⟩
          · skip
            skip
            refine ht_if_ne (tgt := 38) (D 14 rfl) (by decide) (fun hb30 => ?_) (fun hb30 => absurd hb30 (by decide))
            refine ht_iinc (v := nI (i + 1)) (D 18 rfl) rfl (nI_i1 _) (by decide) rfl ?_
            refine ht_goto (tgt := 9) (D 19 rfl) (by decide) ?_
            have hn2 := hH2.le
            refine ht_cast (ht_mono (ih (n - q) (by omega) (i + 1) σ s2 q b2 e2 k2 rfl (by omega) hH2 hV2) ?_) rfl rfl rfl
            rintro rv σ9 ⟨res, hc9, hz9⟩
            exact ⟨res, fun P hP => hP.2.2 s p b e k s2 q res hH.tk hk0 hV hsl hV2 (hc9 P hP), hz9⟩
  show HT G mX5_readAll 0 [some (.ref r), none] [] σ 44 _
  refine ht_aload_n (D 0 rfl) rfl rfl ?_
  refine gf_X5_30 rfl (D 1 rfl) hI.1.rk hI.1.q1 ?_
  refine kVX7_next (As := []) cl_X5_42 (D 2 rfl) (sc_next hE hB hI.1.ts hI.2.1 hI.2.2.1 (p := 0) hI.2.2.2.1 (Nat.zero_le _)) hI.1.tk rfl (Nat.le_of_ble_eq_true rfl) rfl (Nat.le_of_ble_eq_true rfl) (by omega) ?_
  rintro _ σ2 ⟨rfl, b2, e2, k2, hf, hc⟩
  have f3 := QF_tf hf
  have hH : CS ad T n σ0 S1 s 0 b2 e2 k2 r sA σ2 := ⟨⟨hI.1.qf f3, by rw [f3.sg hI.1]; exact hI.2.1, hc, hI.2.2.1⟩, hI.2.2.2.2.1.lf (LF_q f3), hI.2.2.2.2.2.lf (LF_q f3)⟩
  refine ht_iconst (v := 0) (D 3 rfl) (by decide) ?_
  refine ht_istore_n (D 4 rfl) rfl (by decide) rfl ?_
  exact ht_cast (loop (n - 0) 0 σ2 s 0 b2 e2 k2 rfl (by omega) hH hV) rfl rfl rfl
end R9
