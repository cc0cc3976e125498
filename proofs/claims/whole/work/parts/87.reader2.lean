/-! ===== the class: the reader reads a part ===== -/
section Q2
variable {G : GG} {σ σ1 σ2 : Hp} {ad : Nat → Nat} {aA aS aV r sA n p b e k c d : Nat} {T : ST} {ice : Bool}
def QPr (P : Rs → Prop) (ad : Nat → Nat) (T : ST) (n : Nat) (ice : Bool) (c r sA : Nat) (σ : Hp) : Option Value → Hp → Prop := fun rv σ' => ∃ rs : Rs, P rs ∧ QF r σ σ' ∧ ((∃ f, rs = .inr f ∧ rv = some (.int 0) ∧ zI σ' r 10 = f) ∨ (∃ q E b2 e2 k2, rs = .inl (q, E) ∧ rv = some (.int 1) ∧ CH ad T n ice q b2 e2 k2 (c + E.2.1.length) r sA σ' ∧ CDs (zI σ' (r + 15)) c E.2.1 ∧ ∀ i, i < c → zI σ' (r + 15) i = zI σ (r + 15) i))
def adS (σ : Hp) (r c : Nat) (s : Int32) : Hp := wI (wI σ (r + 15) c s) r 5 (nI (c + 1))
theorem adS_f (σ : Hp) (r c : Nat) (s : Int32) : QF r σ (adS σ r c s) := QF_t (QF_S r σ c s) (QF_I r _ (Or.inl rfl) _)
theorem adS_c (σ : Hp) (r c : Nat) (s : Int32) : zI (adS σ r c s) r 5 = nI (c + 1) := zI_s _ _ _ _
theorem adS_t (σ : Hp) (r c : Nat) (s : Int32) {k : Nat} : zI (adS σ r c s) (r + 14) k = zI σ (r + 14) k := by
  unfold adS
  rw [zI_a _ _ (by omega), zI_a _ _ (by omega)]
theorem adS_s (σ : Hp) (r c : Nat) (s : Int32) : zI (adS σ r c s) (r + 15) c = s := by
  unfold adS
  rw [zI_a _ _ (by omega), zI_s]
theorem adS_k (σ : Hp) (r c : Nat) (s : Int32) {i : Nat} (h : i ≠ c) : zI (adS σ r c s) (r + 15) i = zI σ (r + 15) i := by
  unfold adS
  rw [zI_a _ _ (by omega), zI_k _ _ h]
theorem CH_ad (h : CH ad T n ice p b e k c r sA σ) (hc : c + 1 ≤ p) (s : Int32) : CH ad T n ice p b e k (c + 1) r sA (adS σ r c s) := by
  have f := adS_f σ r c s
  refine ⟨h.1.qf f, by rw [f.sg h.1]; exact h.2.1, ?_, adS_c σ r c s, hc, ?_, ?_, h.2.2.2.2.2.2.2⟩
  · obtain ⟨a1, a2, a3, a4, a5, a6, a7, a8, a9⟩ := h.2.2.1
    exact ⟨a1, (adS_t σ r c s).trans a2, (adS_t σ r c s).trans a3, (adS_t σ r c s).trans a4, a5, fun q => (adS_t σ r c s).trans (a6 q), fun q => (adS_t σ r c s).trans (a7 q), a8, a9⟩
  · rw [f.2.2.2.2.2 6 (by decide) (by decide)]
    exact h.2.2.2.2.2.1
  · rw [f.2.2.2.2.2 7 (by decide) (by decide)]
    exact h.2.2.2.2.2.2.1
theorem wi_F {i : Nat} (hi : i < 22) : ((if ice then (3 : Int32) else 0) ≤ wFc.getD i 0 ∧ wFc.getD i 0 ≤ (if ice then (8 : Int32) else 2)) ↔ ∃ f, f < 7 ∧ (1 ≤ f ∧ f ≤ fcN ice ∧ fcW ice f = i) := by
  have key : ∀ (ice : Bool) (i : Nat), i < 22 → (((if ice then (3 : Int32) else 0) ≤ wFc.getD i 0 ∧ wFc.getD i 0 ≤ (if ice then (8 : Int32) else 2)) ↔ ∃ f, f < 7 ∧ (1 ≤ f ∧ f ≤ fcN ice ∧ fcW ice f = i)) := by decide
  exact key ice i hi
theorem CH_cn (h : CH ad T n ice p b e k c r sA σ) (q : k ≠ 0) : c < n ∧ c + 1 ≤ e ∧ p < e := by
  have h1 := TK_le h.2.2.1.1
  have h2 := h.2.2.2.2.1
  omega
set_option maxRecDepth 100000 in
set_option maxHeartbeats 1000000 in
theorem sc_readPart (hE : NE G) (hB : BK G ad aA aS aV) (hJ : ∀ i j, i < 22 → j < 22 → ad i = ad j → i = j) (hd : d ≤ 5)
    (ihP : d < 5 → ∀ (σ : Hp) (p b e k c : Nat), CH ad T n ice p b e k c r sA σ → Sp G mX5_readPart (6 + 6 * (5 - (d + 1))) [.ref r, .int (nI (d + 1))] σ (QPr (RPt T n ice (d + 1) p) ad T n ice c r sA σ))
    (ihL : d < 5 → ∀ (σ : Hp) (p b e k c : Nat), CH ad T n ice p b e k c r sA σ → Sp G mX5_readLevel (6 + 6 * (5 - (d + 1)) + 5) [.ref r, .int 0, .int (nI (d + 1))] σ (QPr (RLv T n ice 0 (d + 1) p) ad T n ice c r sA σ))
    (hH : CH ad T n ice p b e k c r sA σ) : Sp G mX5_readPart (6 + 6 * (5 - d)) [.ref r, .int (nI d)] σ (QPr (RPt T n ice d p) ad T n ice c r sA σ) := by
  have D := dat dl_X5_readPart
  show HT G mX5_readPart 0 [some (.ref r), some (.int (nI d)), none, none, none] [] σ (6 + 6 * (5 - d)) _
  have hk4 : k ≤ 4 := (TK_le hH.2.2.1.1).2.2.2.2.2
  rcases CT_w hH.2.2.1 with ⟨hw, hno⟩ | ⟨i, hi, hw, hiw⟩
  · by_cases hk2 : k = 2
    · subst hk2
      have hk2c : zI σ (r + 14) 3 = 3 := hH.2.2.1.2.2.2.1
      obtain ⟨v, _, hv1, hv2⟩ := TK_dg hH.2.2.1.1
      have hnum : zI σ (r + 14) 5 = dgA T b (e - b) := (hH.2.2.1.2.2.2.2.2.1 rfl).trans (hv2.trans hv1.symm)
      have hcn := CH_cn hH (by decide)
      have hps : PSt T b e 2 ice := Or.inl ⟨_, Or.inl ⟨rfl, rfl⟩⟩
      refine ht_aload_n (D 0 rfl) rfl rfl ?_
      refine gf_X5_30 rfl (D 1 rfl) hH.1.rk hH.1.q1 ?_
      refine gf_X5_47 rfl (D 2 rfl) hH.1.tk ?_
      refine ht_iconst (v := 3) (D 3 rfl) (by decide) ?_
      rw [hk2c]
      refine ht_icmp_ne (tgt := 15) (D 4 rfl) (by decide) (fun hb8 => ?_) (fun hb8 => ?_)
      · skip
        exact absurd rfl hb8
      · skip
        refine ht_iconst (v := 1) (D 5 rfl) (by decide) ?_
        refine ht_goto (tgt := 16) (D 6 rfl) (by decide) ?_
        refine ht_istore_n (D 8 rfl) rfl (by decide) rfl ?_
        refine ht_aload_n (D 9 rfl) rfl rfl ?_
        refine gf_X5_30 rfl (D 10 rfl) hH.1.rk hH.1.q1 ?_
        refine gn_X5_63 rfl (D 11 rfl) hH.1.tk hw ?_
        refine ht_gets (hB.st (i := 14) (by decide)) lb_X5_259 (D 12 rfl) ?_
        refine ht_acmp_ne (rx := none) (ry := some (ad 14)) (tgt := 34) (D 13 rfl) (by decide) (fun hb27 => ?_) (fun hb27 => ?_)
        · skip
          refine ht_iconst (v := 0) (D 16 rfl) (by decide) ?_
          refine ht_istore_n (D 17 rfl) rfl (by decide) rfl ?_
          refine ht_aload_n (D 18 rfl) rfl rfl ?_
          refine gf_X5_30 rfl (D 19 rfl) hH.1.rk hH.1.q1 ?_
          refine gn_X5_63 rfl (D 20 rfl) hH.1.tk hw ?_
          refine ht_ifnullN (tgt := 74) (D 21 rfl) (by decide) ?_
          refine ht_iconst (v := 0) (D 34 rfl) (by decide) ?_
          refine ht_istore (D 35 rfl) (by decide) rfl ?_
          refine ht_iload_n (D 36 rfl) rfl rfl ?_
          refine ht_if_ne (tgt := 108) (D 37 rfl) (by decide) (fun hb78 => ?_) (fun hb78 => absurd hb78 (by decide))
          refine ht_iload_n (D 51 rfl) rfl rfl ?_
          refine ht_iconst (v := 5) (D 52 rfl) (by decide) ?_
          refine ht_icmp_lt (tgt := 119) (D 53 rfl) (by decide) (fun hb110 => ?_) (fun hb110 => ?_)
          · skip
            have hd5 : d < 5 := (nI_ltI (a := d) (b := 5) (by omega) (by omega)).mp hb110
            refine ht_iload_n (D 58 rfl) rfl rfl ?_
            refine ht_if_eq (tgt := 138) (D 59 rfl) (by decide) (fun hb120 => absurd hb120 (by decide)) (fun hb120 => ?_)
            refine ht_aload_n (D 60 rfl) rfl rfl ?_
            refine ht_iconst (v := 0) (D 61 rfl) (by decide) ?_
            refine ht_aload_n (D 62 rfl) rfl rfl ?_
            refine gf_X5_30 rfl (D 63 rfl) hH.1.rk hH.1.q1 ?_
            refine gf_X5_241 rfl (D 64 rfl) hH.1.tk ?_
            rw [hnum]
            refine kVX5_addStep (As := [_, _]) cl_X5_249 (D 65 rfl) (sc_addStep hH.1 hH.2.2.2.1 hcn.1 0 (dgA T b (e - b))) hH.1.rk rfl (Nat.le_of_ble_eq_true rfl) rfl (Nat.le_of_ble_eq_true rfl) (by omega) ?_
            rintro _ _ ⟨rfl, rfl⟩
            refine ht_goto (tgt := 158) (D 66 rfl) (by decide) ?_
            refine ht_aload_n (D 76 rfl) rfl rfl ?_
            refine gf_X5_30 rfl (D 77 rfl) hH.1.rk hH.1.q1 ?_
            refine kVX7_next (As := []) cl_X5_42 (D 78 rfl) (sc_nxt hE hB hH (adS_f σ r c (dgA T b (e - b) * 16 + 0)) ((adS_t σ r c _).trans hH.2.2.1.2.2.1)) hH.1.tk rfl (Nat.le_of_ble_eq_true rfl) rfl (Nat.le_of_ble_eq_true rfl) (by omega) ?_
            rintro _ σ2 ⟨rfl, b2, e2, k2, hTF, hCT⟩
            refine ht_iload_n (D 79 rfl) rfl rfl ?_
            refine ht_if_ne (tgt := 174) (D 80 rfl) (by decide) (fun hb166 => ?_) (fun hb166 => absurd hb166 (by decide))
            refine ht_iconst (v := 1) (D 83 rfl) (by decide) ?_
            refine ht_iret (D 84 rfl) rfl rfl ?_
            exact ⟨.inl (e, ([100 + dgA T b (e - b)], [dgA T b (e - b) * 16 + 0], fun _ => dgA T b (e - b))), (ClR_self T n ice).2.2.1 d p b e _ _ hH.2.2.1.1 (Or.inl ⟨rfl, rfl⟩) hd5, QF_t (adS_f σ r c _) (QF_tf hTF), Or.inr ⟨e, _, b2, e2, k2, rfl, rfl, CH_nx hH (adS_f σ r c _) (adS_c σ r c _) hcn.2.1 hTF hCT, CDs_one (by rw [(hTF.2.2.2.2.1 (r + 15) (by omega)).1]; exact adS_s σ r c _), fun i hi => by rw [(hTF.2.2.2.2.1 (r + 15) (by omega)).1]; exact adS_k σ r c _ (by omega)⟩⟩
          · skip
            have hd5 : d = 5 := by have h9 := mt (nI_ltI (a := d) (b := 5) (by omega) (by omega)).mpr hb110; omega
            refine ht_aload_n (D 54 rfl) rfl rfl ?_
            refine ht_iconst (v := 5) (D 55 rfl) (by decide) ?_
            refine kVX5_wrong (As := [_]) cl_X5_109 (D 56 rfl) (sc_wrong hH 5) hH.1.rk rfl (Nat.le_of_ble_eq_true rfl) rfl (Nat.le_of_ble_eq_true rfl) (by omega) ?_
            rintro _ _ ⟨rfl, rfl⟩
            refine ht_iret (D 57 rfl) rfl rfl ?_
            exact ⟨_, (ClR_self T n ice).2.1 d p b e _ hH.2.2.1.1 hps hd5, QF_I r σ (Or.inr rfl) _, Or.inl ⟨_, rfl, rfl, zI_s _ _ _ _⟩⟩
        · skip
          cases hb27
    · by_cases hO : isS T b k 40
      · have hcn := CH_cn hH (by have := hO.1; omega)
        have hps : PSt T b e k ice := Or.inr (Or.inr hO)
        refine ht_aload_n (D 0 rfl) rfl rfl ?_
        refine gf_X5_30 rfl (D 1 rfl) hH.1.rk hH.1.q1 ?_
        refine gf_X5_47 rfl (D 2 rfl) hH.1.tk ?_
        refine ht_iconst (v := 3) (D 3 rfl) (by decide) ?_
        rw [hH.2.2.1.2.2.2.1]
        refine ht_icmp_ne (tgt := 15) (D 4 rfl) (by decide) (fun hb8 => ?_) (fun hb8 => ?_)
        · skip
          refine ht_iconst (v := 0) (D 7 rfl) (by decide) ?_
          refine ht_istore_n (D 8 rfl) rfl (by decide) rfl ?_
          refine ht_aload_n (D 9 rfl) rfl rfl ?_
          refine gf_X5_30 rfl (D 10 rfl) hH.1.rk hH.1.q1 ?_
          refine gn_X5_63 rfl (D 11 rfl) hH.1.tk hw ?_
          refine ht_gets (hB.st (i := 14) (by decide)) lb_X5_259 (D 12 rfl) ?_
          refine ht_acmp_ne (rx := none) (ry := some (ad 14)) (tgt := 34) (D 13 rfl) (by decide) (fun hb27 => ?_) (fun hb27 => ?_)
          · skip
            refine ht_iconst (v := 0) (D 16 rfl) (by decide) ?_
            refine ht_istore_n (D 17 rfl) rfl (by decide) rfl ?_
            refine ht_aload_n (D 18 rfl) rfl rfl ?_
            refine gf_X5_30 rfl (D 19 rfl) hH.1.rk hH.1.q1 ?_
            refine gn_X5_63 rfl (D 20 rfl) hH.1.tk hw ?_
            refine ht_ifnullN (tgt := 74) (D 21 rfl) (by decide) ?_
            refine ht_iconst (v := 0) (D 34 rfl) (by decide) ?_
            refine ht_istore (D 35 rfl) (by decide) rfl ?_
            refine ht_iload_n (D 36 rfl) rfl rfl ?_
            refine ht_if_ne (tgt := 108) (D 37 rfl) (by decide) (fun hb78 => absurd (by decide) hb78) (fun hb78 => ?_)
            refine ht_iload_n (D 38 rfl) rfl rfl ?_
            refine ht_if_ne (tgt := 108) (D 39 rfl) (by decide) (fun hb82 => absurd (by decide) hb82) (fun hb82 => ?_)
            refine ht_iload (D 40 rfl) rfl ?_
            refine ht_if_ne (tgt := 108) (D 41 rfl) (by decide) (fun hb87 => absurd (by decide) hb87) (fun hb87 => ?_)
            refine ht_aload_n (D 42 rfl) rfl rfl ?_
            refine gf_X5_30 rfl (D 43 rfl) hH.1.rk hH.1.q1 ?_
            refine ht_bipush (v := 40) (D 44 rfl) (by decide) ?_
            refine kVX7_isSign (As := [_]) cl_X5_238 (D 45 rfl) (sc_isSgn hH.1.tk hH.2.2.1 40) hH.1.tk rfl (Nat.le_of_ble_eq_true rfl) rfl (Nat.le_of_ble_eq_true rfl) (by omega) ?_
            rintro _ σ ⟨rfl, rfl⟩
            refine ht_if_ne (tgt := 108) (D 46 rfl) (by decide) (fun hb99 => ?_) (fun hb99 => ?_)
            · skip
              refine ht_iload_n (D 51 rfl) rfl rfl ?_
              refine ht_iconst (v := 5) (D 52 rfl) (by decide) ?_
              refine ht_icmp_lt (tgt := 119) (D 53 rfl) (by decide) (fun hb110 => ?_) (fun hb110 => ?_)
              · skip
                have hd5 : d < 5 := (nI_ltI (a := d) (b := 5) (by omega) (by omega)).mp hb110
                refine ht_iload_n (D 58 rfl) rfl rfl ?_
                refine ht_if_eq (tgt := 138) (D 59 rfl) (by decide) (fun hb120 => ?_) (fun hb120 => absurd (by decide) hb120)
                refine ht_iload (D 67 rfl) rfl ?_
                refine ht_if_eq (tgt := 158) (D 68 rfl) (by decide) (fun hb140 => ?_) (fun hb140 => absurd (by decide) hb140)
                refine ht_aload_n (D 76 rfl) rfl rfl ?_
                refine gf_X5_30 rfl (D 77 rfl) hH.1.rk hH.1.q1 ?_
                refine kVX7_next (As := []) cl_X5_42 (D 78 rfl) (sc_nxt hE hB hH (QF_r r σ) hH.2.2.1.2.2.1) hH.1.tk rfl (Nat.le_of_ble_eq_true rfl) rfl (Nat.le_of_ble_eq_true rfl) (by omega) ?_
                rintro _ σ2 ⟨rfl, b2, e2, k2, hTF, hCT⟩
                have hH2 : CH ad T n ice e b2 e2 k2 c r sA σ2 := CH_nx hH (QF_r r σ) hH.2.2.2.1 (by omega) hTF hCT
                refine ht_iload_n (D 79 rfl) rfl rfl ?_
                refine ht_if_ne (tgt := 174) (D 80 rfl) (by decide) (fun hb166 => absurd (by decide) hb166) (fun hb166 => ?_)
                refine ht_iload (D 81 rfl) rfl ?_
                refine ht_if_eq (tgt := 176) (D 82 rfl) (by decide) (fun hb171 => ?_) (fun hb171 => absurd (by decide) hb171)
                refine ht_iload_n (D 85 rfl) rfl rfl ?_
                refine ht_if_ne (tgt := 206) (D 86 rfl) (by decide) (fun hb177 => absurd (by decide) hb177) (fun hb177 => ?_)
                refine ht_aload_n (D 87 rfl) rfl rfl ?_
                refine ht_iconst (v := 0) (D 88 rfl) (by decide) ?_
                refine ht_iload_n (D 89 rfl) rfl rfl ?_
                refine ht_iconst (v := 1) (D 90 rfl) (by decide) ?_
                refine ht_iadd (D 91 rfl) ?_
                rw [show nI d + 1 = nI (d + 1) from nI_1 d]
                refine kVX5_readLevel (As := [_, _]) cl_X5_132 (D 92 rfl) (ihL hd5 σ2 e b2 e2 k2 c hH2) hH2.1.rk rfl (Nat.le_of_ble_eq_true rfl) rfl (Nat.le_of_ble_eq_true rfl) (by omega) ?_
                rintro _ σ3 ⟨rs, hR, hQF, ⟨f, rfl, rfl, hf⟩ | ⟨q, E, b3, e3, k3, rfl, rfl, hH3, hCD, hlo⟩⟩
                · skip
                  refine ht_if_eq (tgt := 204) (D 93 rfl) (by decide) (fun hb188 => ?_) (fun hb188 => absurd (by decide) hb188)
                  refine ht_iconst (v := 0) (D 100 rfl) (by decide) ?_
                  refine ht_iret (D 101 rfl) rfl rfl ?_
                  exact ⟨.inr f, (ClR_self T n ice).2.2.2.2.1 d p b e _ f hH.2.2.1.1 hO hd5 hR, QF_t (QF_tf hTF) hQF, Or.inl ⟨f, rfl, rfl, hf⟩⟩
                · skip
                  refine ht_if_eq (tgt := 204) (D 93 rfl) (by decide) (fun hb188 => absurd hb188 (by decide)) (fun hb188 => ?_)
                  refine ht_aload_n (D 94 rfl) rfl rfl ?_
                  refine ht_bipush (v := 41) (D 95 rfl) (by decide) ?_
                  refine kVX5_readSign (As := [_]) cl_X5_113 (D 96 rfl) (sc_readSign hE hB hH3 41) hH3.1.rk rfl (Nat.le_of_ble_eq_true rfl) rfl (Nat.le_of_ble_eq_true rfl) (by omega) ?_
                  rintro _ σ4 ⟨hQF4, ⟨hn41, rfl, hf⟩ | ⟨hy41, rfl, b4, e4, k4, hH4, hs4⟩⟩
                  · skip
                    refine ht_if_eq (tgt := 204) (D 97 rfl) (by decide) (fun hb197 => ?_) (fun hb197 => absurd (by decide) hb197)
                    refine ht_iconst (v := 0) (D 100 rfl) (by decide) ?_
                    refine ht_iret (D 101 rfl) rfl rfl ?_
                    exact ⟨_, (ClR_self T n ice).2.2.2.2.2.2.1 d p b e _ q E b3 e3 k3 hH.2.2.1.1 hO hd5 hR hH3.2.2.1.1 hn41, QF_t (QF_t (QF_tf hTF) hQF) hQF4, Or.inl ⟨_, rfl, rfl, hf⟩⟩
                  · skip
                    refine ht_if_eq (tgt := 204) (D 97 rfl) (by decide) (fun hb197 => absurd hb197 (by decide)) (fun hb197 => ?_)
                    refine ht_iconst (v := 1) (D 98 rfl) (by decide) ?_
                    refine ht_goto (tgt := 205) (D 99 rfl) (by decide) ?_
                    refine ht_iret (D 101 rfl) rfl rfl ?_
                    exact ⟨_, (ClR_self T n ice).2.2.2.2.2.1 d p b e _ q E b3 e3 k3 hH.2.2.1.1 hO hd5 hR hH3.2.2.1.1 hy41, QF_t (QF_t (QF_tf hTF) hQF) hQF4, Or.inr ⟨e3, paE E, b4, e4, k4, rfl, rfl, hH4, by rw [hs4]; exact hCD, fun i hi => by rw [hs4, hlo i hi, (hTF.2.2.2.2.1 (r + 15) (by omega)).1]⟩⟩
              · skip
                have hd5 : d = 5 := by have h9 := mt (nI_ltI (a := d) (b := 5) (by omega) (by omega)).mpr hb110; omega
                refine ht_aload_n (D 54 rfl) rfl rfl ?_
                refine ht_iconst (v := 5) (D 55 rfl) (by decide) ?_
                refine kVX5_wrong (As := [_]) cl_X5_109 (D 56 rfl) (sc_wrong hH 5) hH.1.rk rfl (Nat.le_of_ble_eq_true rfl) rfl (Nat.le_of_ble_eq_true rfl) (by omega) ?_
                rintro _ _ ⟨rfl, rfl⟩
                refine ht_iret (D 57 rfl) rfl rfl ?_
                exact ⟨_, (ClR_self T n ice).2.1 d p b e _ hH.2.2.1.1 hps hd5, QF_I r σ (Or.inr rfl) _, Or.inl ⟨_, rfl, rfl, zI_s _ _ _ _⟩⟩
            · skip
              exact absurd hO (b01_eq hb99)
          · skip
            cases hb27
        · skip
          exact absurd ((ckd_i (j := 2) hk4 (by decide)).mp hb8) hk2
      · have hns : ¬ PSt T b e k ice := by
          rintro (⟨x, q | ⟨f, q1, q2, q3, _⟩⟩ | q | q)
          · exact hk2 q.1
          · exact hno _ (fcW_lt q2).2 q3
          · exact hno 14 (by decide) q
          · exact hO q
        refine ht_aload_n (D 0 rfl) rfl rfl ?_
        refine gf_X5_30 rfl (D 1 rfl) hH.1.rk hH.1.q1 ?_
        refine gf_X5_47 rfl (D 2 rfl) hH.1.tk ?_
        refine ht_iconst (v := 3) (D 3 rfl) (by decide) ?_
        rw [hH.2.2.1.2.2.2.1]
        refine ht_icmp_ne (tgt := 15) (D 4 rfl) (by decide) (fun hb8 => ?_) (fun hb8 => ?_)
        · skip
          refine ht_iconst (v := 0) (D 7 rfl) (by decide) ?_
          refine ht_istore_n (D 8 rfl) rfl (by decide) rfl ?_
          refine ht_aload_n (D 9 rfl) rfl rfl ?_
          refine gf_X5_30 rfl (D 10 rfl) hH.1.rk hH.1.q1 ?_
          refine gn_X5_63 rfl (D 11 rfl) hH.1.tk hw ?_
          refine ht_gets (hB.st (i := 14) (by decide)) lb_X5_259 (D 12 rfl) ?_
          refine ht_acmp_ne (rx := none) (ry := some (ad 14)) (tgt := 34) (D 13 rfl) (by decide) (fun hb27 => ?_) (fun hb27 => ?_)
          · skip
            refine ht_iconst (v := 0) (D 16 rfl) (by decide) ?_
            refine ht_istore_n (D 17 rfl) rfl (by decide) rfl ?_
            refine ht_aload_n (D 18 rfl) rfl rfl ?_
            refine gf_X5_30 rfl (D 19 rfl) hH.1.rk hH.1.q1 ?_
            refine gn_X5_63 rfl (D 20 rfl) hH.1.tk hw ?_
            refine ht_ifnullN (tgt := 74) (D 21 rfl) (by decide) ?_
            refine ht_iconst (v := 0) (D 34 rfl) (by decide) ?_
            refine ht_istore (D 35 rfl) (by decide) rfl ?_
            refine ht_iload_n (D 36 rfl) rfl rfl ?_
            refine ht_if_ne (tgt := 108) (D 37 rfl) (by decide) (fun hb78 => absurd (by decide) hb78) (fun hb78 => ?_)
            refine ht_iload_n (D 38 rfl) rfl rfl ?_
            refine ht_if_ne (tgt := 108) (D 39 rfl) (by decide) (fun hb82 => absurd (by decide) hb82) (fun hb82 => ?_)
            refine ht_iload (D 40 rfl) rfl ?_
            refine ht_if_ne (tgt := 108) (D 41 rfl) (by decide) (fun hb87 => absurd (by decide) hb87) (fun hb87 => ?_)
            refine ht_aload_n (D 42 rfl) rfl rfl ?_
            refine gf_X5_30 rfl (D 43 rfl) hH.1.rk hH.1.q1 ?_
            refine ht_bipush (v := 40) (D 44 rfl) (by decide) ?_
            refine kVX7_isSign (As := [_]) cl_X5_238 (D 45 rfl) (sc_isSgn hH.1.tk hH.2.2.1 40) hH.1.tk rfl (Nat.le_of_ble_eq_true rfl) rfl (Nat.le_of_ble_eq_true rfl) (by omega) ?_
            rintro _ σ ⟨rfl, rfl⟩
            refine ht_if_ne (tgt := 108) (D 46 rfl) (by decide) (fun hb99 => ?_) (fun hb99 => ?_)
            · skip
              exact absurd (b01_ne hb99) hO
            · skip
              refine ht_aload_n (D 47 rfl) rfl rfl ?_
              refine ht_iconst (v := 1) (D 48 rfl) (by decide) ?_
              refine kVX5_wrong (As := [_]) cl_X5_109 (D 49 rfl) (sc_wrong hH 1) hH.1.rk rfl (Nat.le_of_ble_eq_true rfl) rfl (Nat.le_of_ble_eq_true rfl) (by omega) ?_
              rintro _ _ ⟨rfl, rfl⟩
              refine ht_iret (D 50 rfl) rfl rfl ?_
              exact ⟨_, (ClR_self T n ice).1 d p b e _ hH.2.2.1.1 hns, QF_I r σ (Or.inr rfl) _, Or.inl ⟨_, rfl, rfl, zI_s _ _ _ _⟩⟩
          · skip
            cases hb27
        · skip
          exact absurd ((ckd_i (j := 2) hk4 (by decide)).mp hb8) hk2
  · have hk2 : ¬ k = 2 := by have := hiw.1; omega
    have hk1 := hiw.1
    have hcn := CH_cn hH (by omega)
    by_cases hi14 : i = 14
    · have hW : isW T b e k 14 := by rw [← hi14]; exact hiw
      have hps : PSt T b e k ice := Or.inr (Or.inl hW)
      refine ht_aload_n (D 0 rfl) rfl rfl ?_
      refine gf_X5_30 rfl (D 1 rfl) hH.1.rk hH.1.q1 ?_
      refine gf_X5_47 rfl (D 2 rfl) hH.1.tk ?_
      refine ht_iconst (v := 3) (D 3 rfl) (by decide) ?_
      rw [hH.2.2.1.2.2.2.1]
      refine ht_icmp_ne (tgt := 15) (D 4 rfl) (by decide) (fun hb8 => ?_) (fun hb8 => ?_)
      · skip
        refine ht_iconst (v := 0) (D 7 rfl) (by decide) ?_
        refine ht_istore_n (D 8 rfl) rfl (by decide) rfl ?_
        refine ht_aload_n (D 9 rfl) rfl rfl ?_
        refine gf_X5_30 rfl (D 10 rfl) hH.1.rk hH.1.q1 ?_
        refine gf_X5_63 rfl (D 11 rfl) hH.1.tk hw ?_
        refine ht_gets (hB.st (i := 14) (by decide)) lb_X5_259 (D 12 rfl) ?_
        refine ht_acmp_ne (rx := some (ad i)) (ry := some (ad 14)) (tgt := 34) (D 13 rfl) (by decide) (fun hb27 => ?_) (fun hb27 => ?_)
        · skip
          exact absurd (by rw [hi14]) hb27
        · skip
          refine ht_iconst (v := 1) (D 14 rfl) (by decide) ?_
          refine ht_goto (tgt := 35) (D 15 rfl) (by decide) ?_
          refine ht_istore_n (D 17 rfl) rfl (by decide) rfl ?_
          refine ht_aload_n (D 18 rfl) rfl rfl ?_
          refine gf_X5_30 rfl (D 19 rfl) hH.1.rk hH.1.q1 ?_
          refine gf_X5_63 rfl (D 20 rfl) hH.1.tk hw ?_
          refine ht_ifnull (D 21 rfl) ?_
          refine ht_aload_n (D 22 rfl) rfl rfl ?_
          refine gf_X5_30 rfl (D 23 rfl) hH.1.rk hH.1.q1 ?_
          refine gf_X5_63 rfl (D 24 rfl) hH.1.tk hw ?_
          refine ht_getB (hB.fc hi) lb_X5_262 (D 25 rfl) ?_
          refine ht_aload_n (D 26 rfl) rfl rfl ?_
          refine gf_X5_123 rfl (D 27 rfl) hH.1.rk ?_
          refine ht_aload_n (D 28 rfl) rfl rfl ?_
          refine gf_X5_126 rfl (D 29 rfl) hH.1.rk ?_
          rw [hH.2.2.2.2.2.1, hH.2.2.2.2.2.2.1]
          refine kNX9_isWithin (As := [_, _, _]) hE.X5_265 (D 30 rfl) (sc_isWithin _ _ _) rfl (Nat.le_of_ble_eq_true rfl) rfl (Nat.le_of_ble_eq_true rfl) (by omega) ?_
          rintro _ σ ⟨rfl, rfl⟩
          refine ht_if_eq (tgt := 74) (D 31 rfl) (by decide) (fun hb67 => ?_) (fun hb67 => ?_)
          · skip
            refine ht_iconst (v := 0) (D 34 rfl) (by decide) ?_
            refine ht_istore (D 35 rfl) (by decide) rfl ?_
            refine ht_iload_n (D 36 rfl) rfl rfl ?_
            refine ht_if_ne (tgt := 108) (D 37 rfl) (by decide) (fun hb78 => absurd (by decide) hb78) (fun hb78 => ?_)
            refine ht_iload_n (D 38 rfl) rfl rfl ?_
            refine ht_if_ne (tgt := 108) (D 39 rfl) (by decide) (fun hb82 => ?_) (fun hb82 => absurd hb82 (by decide))
            refine ht_iload_n (D 51 rfl) rfl rfl ?_
            refine ht_iconst (v := 5) (D 52 rfl) (by decide) ?_
            refine ht_icmp_lt (tgt := 119) (D 53 rfl) (by decide) (fun hb110 => ?_) (fun hb110 => ?_)
            · skip
              have hd5 : d < 5 := (nI_ltI (a := d) (b := 5) (by omega) (by omega)).mp hb110
              refine ht_iload_n (D 58 rfl) rfl rfl ?_
              refine ht_if_eq (tgt := 138) (D 59 rfl) (by decide) (fun hb120 => ?_) (fun hb120 => absurd (by decide) hb120)
              refine ht_iload (D 67 rfl) rfl ?_
              refine ht_if_eq (tgt := 158) (D 68 rfl) (by decide) (fun hb140 => ?_) (fun hb140 => absurd (by decide) hb140)
              refine ht_aload_n (D 76 rfl) rfl rfl ?_
              refine gf_X5_30 rfl (D 77 rfl) hH.1.rk hH.1.q1 ?_
              refine kVX7_next (As := []) cl_X5_42 (D 78 rfl) (sc_nxt hE hB hH (QF_r r σ) hH.2.2.1.2.2.1) hH.1.tk rfl (Nat.le_of_ble_eq_true rfl) rfl (Nat.le_of_ble_eq_true rfl) (by omega) ?_
              rintro _ σ2 ⟨rfl, b2, e2, k2, hTF, hCT⟩
              have hH2 : CH ad T n ice e b2 e2 k2 c r sA σ2 := CH_nx hH (QF_r r σ) hH.2.2.2.1 (by omega) hTF hCT
              refine ht_iload_n (D 79 rfl) rfl rfl ?_
              refine ht_if_ne (tgt := 174) (D 80 rfl) (by decide) (fun hb166 => absurd (by decide) hb166) (fun hb166 => ?_)
              refine ht_iload (D 81 rfl) rfl ?_
              refine ht_if_eq (tgt := 176) (D 82 rfl) (by decide) (fun hb171 => ?_) (fun hb171 => absurd (by decide) hb171)
              refine ht_iload_n (D 85 rfl) rfl rfl ?_
              refine ht_if_ne (tgt := 206) (D 86 rfl) (by decide) (fun hb177 => ?_) (fun hb177 => absurd hb177 (by decide))
              refine ht_aload_n (D 102 rfl) rfl rfl ?_
              refine ht_iload_n (D 103 rfl) rfl rfl ?_
              refine ht_iconst (v := 1) (D 104 rfl) (by decide) ?_
              refine ht_iadd (D 105 rfl) ?_
              rw [show nI d + 1 = nI (d + 1) from nI_1 d]
              refine kVX5_readPart (As := [_]) cl_X5_242 (D 106 rfl) (ihP hd5 σ2 e b2 e2 k2 c hH2) hH2.1.rk rfl (Nat.le_of_ble_eq_true rfl) rfl (Nat.le_of_ble_eq_true rfl) (by omega) ?_
              rintro _ σ3 ⟨rs, hR, hQF, ⟨f, rfl, rfl, hf⟩ | ⟨q, E, b3, e3, k3, rfl, rfl, hH3, hCD, hlo⟩⟩
              · skip
                refine ht_if_ne (tgt := 218) (D 107 rfl) (by decide) (fun hb213 => absurd (by decide) hb213) (fun hb213 => ?_)
                refine ht_iconst (v := 0) (D 108 rfl) (by decide) ?_
                refine ht_iret (D 109 rfl) rfl rfl ?_
                exact ⟨.inr f, (ClR_self T n ice).2.2.2.1 d p b e _ (.inr f) hH.2.2.1.1 hW hd5 hR, QF_t (QF_tf hTF) hQF, Or.inl ⟨f, rfl, rfl, hf⟩⟩
              · have hlen := hR _ _ _ (ClR_l T n ice) q E rfl
                have hq3 := TK_le hH3.2.2.1.1
                have hng : c + (ngE E).2.1.length = c + E.2.1.length + 1 := by
                  show c + (E.2.1 ++ [2]).length = _
                  rw [List.length_append]
                  rfl
                refine ht_if_ne (tgt := 218) (D 107 rfl) (by decide) (fun hb213 => ?_) (fun hb213 => absurd hb213 (by decide))
                refine ht_aload_n (D 110 rfl) rfl rfl ?_
                refine ht_iconst (v := 2) (D 111 rfl) (by decide) ?_
                refine ht_iconst (v := 0) (D 112 rfl) (by decide) ?_
                refine kVX5_addStep (As := [_, _]) cl_X5_249 (D 113 rfl) (sc_addStep hH3.1 hH3.2.2.2.1 (by omega) 2 0) hH3.1.rk rfl (Nat.le_of_ble_eq_true rfl) rfl (Nat.le_of_ble_eq_true rfl) (by omega) ?_
                rintro _ _ ⟨rfl, rfl⟩
                refine ht_iconst (v := 1) (D 114 rfl) (by decide) ?_
                refine ht_iret (D 115 rfl) rfl rfl ?_
                exact ⟨.inl (q, ngE E), (ClR_self T n ice).2.2.2.1 d p b e _ (.inl (q, E)) hH.2.2.1.1 hW hd5 hR, QF_t (QF_t (QF_tf hTF) hQF) (adS_f σ3 r _ _), Or.inr ⟨q, ngE E, b3, e3, k3, rfl, rfl, by rw [hng]; exact CH_ad hH3 (by omega) _, CDs_app (CDs_cg hCD (fun i hi => adS_k σ3 r _ _ (by omega))) (CDs_one (adS_s σ3 r _ _)), fun i hi => (adS_k σ3 r _ _ (by omega)).trans ((hlo i hi).trans (by rw [(hTF.2.2.2.2.1 (r + 15) (by omega)).1]))⟩⟩
            · skip
              have hd5 : d = 5 := by have h9 := mt (nI_ltI (a := d) (b := 5) (by omega) (by omega)).mpr hb110; omega
              refine ht_aload_n (D 54 rfl) rfl rfl ?_
              refine ht_iconst (v := 5) (D 55 rfl) (by decide) ?_
              refine kVX5_wrong (As := [_]) cl_X5_109 (D 56 rfl) (sc_wrong hH 5) hH.1.rk rfl (Nat.le_of_ble_eq_true rfl) rfl (Nat.le_of_ble_eq_true rfl) (by omega) ?_
              rintro _ _ ⟨rfl, rfl⟩
              refine ht_iret (D 57 rfl) rfl rfl ?_
              exact ⟨_, (ClR_self T n ice).2.1 d p b e _ hH.2.2.1.1 hps hd5, QF_I r σ (Or.inr rfl) _, Or.inl ⟨_, rfl, rfl, zI_s _ _ _ _⟩⟩
          · skip
            obtain ⟨f, hf7, hf1, hf2, hf3⟩ := (wi_F hi).mp (b01_ne hb67)
            exact absurd (by rw [hf3, hi14]) (fc_no hf1 hf2)
      · skip
        exact absurd ((ckd_i (j := 2) hk4 (by decide)).mp hb8) hk2
    · by_cases hF : ∃ f, 1 ≤ f ∧ f ≤ fcN ice ∧ fcW ice f = i
      · obtain ⟨f, hf1, hf2, hf3⟩ := hF
        have hps : PSt T b e k ice := Or.inl ⟨_, Or.inr ⟨f, hf1, hf2, by rw [hf3]; exact hiw, rfl⟩⟩
        refine ht_aload_n (D 0 rfl) rfl rfl ?_
        refine gf_X5_30 rfl (D 1 rfl) hH.1.rk hH.1.q1 ?_
        refine gf_X5_47 rfl (D 2 rfl) hH.1.tk ?_
        refine ht_iconst (v := 3) (D 3 rfl) (by decide) ?_
        rw [hH.2.2.1.2.2.2.1]
        refine ht_icmp_ne (tgt := 15) (D 4 rfl) (by decide) (fun hb8 => ?_) (fun hb8 => ?_)
        · skip
          refine ht_iconst (v := 0) (D 7 rfl) (by decide) ?_
          refine ht_istore_n (D 8 rfl) rfl (by decide) rfl ?_
          refine ht_aload_n (D 9 rfl) rfl rfl ?_
          refine gf_X5_30 rfl (D 10 rfl) hH.1.rk hH.1.q1 ?_
          refine gf_X5_63 rfl (D 11 rfl) hH.1.tk hw ?_
          refine ht_gets (hB.st (i := 14) (by decide)) lb_X5_259 (D 12 rfl) ?_
          refine ht_acmp_ne (rx := some (ad i)) (ry := some (ad 14)) (tgt := 34) (D 13 rfl) (by decide) (fun hb27 => ?_) (fun hb27 => ?_)
          · skip
            refine ht_iconst (v := 0) (D 16 rfl) (by decide) ?_
            refine ht_istore_n (D 17 rfl) rfl (by decide) rfl ?_
            refine ht_aload_n (D 18 rfl) rfl rfl ?_
            refine gf_X5_30 rfl (D 19 rfl) hH.1.rk hH.1.q1 ?_
            refine gf_X5_63 rfl (D 20 rfl) hH.1.tk hw ?_
            refine ht_ifnull (D 21 rfl) ?_
            refine ht_aload_n (D 22 rfl) rfl rfl ?_
            refine gf_X5_30 rfl (D 23 rfl) hH.1.rk hH.1.q1 ?_
            refine gf_X5_63 rfl (D 24 rfl) hH.1.tk hw ?_
            refine ht_getB (hB.fc hi) lb_X5_262 (D 25 rfl) ?_
            refine ht_aload_n (D 26 rfl) rfl rfl ?_
            refine gf_X5_123 rfl (D 27 rfl) hH.1.rk ?_
            refine ht_aload_n (D 28 rfl) rfl rfl ?_
            refine gf_X5_126 rfl (D 29 rfl) hH.1.rk ?_
            rw [hH.2.2.2.2.2.1, hH.2.2.2.2.2.2.1]
            refine kNX9_isWithin (As := [_, _, _]) hE.X5_265 (D 30 rfl) (sc_isWithin _ _ _) rfl (Nat.le_of_ble_eq_true rfl) rfl (Nat.le_of_ble_eq_true rfl) (by omega) ?_
            rintro _ σ ⟨rfl, rfl⟩
            refine ht_if_eq (tgt := 74) (D 31 rfl) (by decide) (fun hb67 => ?_) (fun hb67 => ?_)
            · skip
              exact absurd ((wi_F hi).mpr ⟨f, by have := (fcW_lt hf2).1; omega, hf1, hf2, hf3⟩) (b01_eq hb67)
            · skip
              refine ht_iconst (v := 1) (D 32 rfl) (by decide) ?_
              refine ht_goto (tgt := 75) (D 33 rfl) (by decide) ?_
              refine ht_istore (D 35 rfl) (by decide) rfl ?_
              refine ht_iload_n (D 36 rfl) rfl rfl ?_
              refine ht_if_ne (tgt := 108) (D 37 rfl) (by decide) (fun hb78 => absurd (by decide) hb78) (fun hb78 => ?_)
              refine ht_iload_n (D 38 rfl) rfl rfl ?_
              refine ht_if_ne (tgt := 108) (D 39 rfl) (by decide) (fun hb82 => absurd (by decide) hb82) (fun hb82 => ?_)
              refine ht_iload (D 40 rfl) rfl ?_
              refine ht_if_ne (tgt := 108) (D 41 rfl) (by decide) (fun hb87 => ?_) (fun hb87 => absurd hb87 (by decide))
              refine ht_iload_n (D 51 rfl) rfl rfl ?_
              refine ht_iconst (v := 5) (D 52 rfl) (by decide) ?_
              refine ht_icmp_lt (tgt := 119) (D 53 rfl) (by decide) (fun hb110 => ?_) (fun hb110 => ?_)
              · skip
                have hd5 : d < 5 := (nI_ltI (a := d) (b := 5) (by omega) (by omega)).mp hb110
                refine ht_iload_n (D 58 rfl) rfl rfl ?_
                refine ht_if_eq (tgt := 138) (D 59 rfl) (by decide) (fun hb120 => ?_) (fun hb120 => absurd (by decide) hb120)
                refine ht_iload (D 67 rfl) rfl ?_
                refine ht_if_eq (tgt := 158) (D 68 rfl) (by decide) (fun hb140 => absurd hb140 (by decide)) (fun hb140 => ?_)
                refine ht_aload_n (D 69 rfl) rfl rfl ?_
                refine ht_iconst (v := 1) (D 70 rfl) (by decide) ?_
                refine ht_aload_n (D 71 rfl) rfl rfl ?_
                refine gf_X5_30 rfl (D 72 rfl) hH.1.rk hH.1.q1 ?_
                refine gf_X5_63 rfl (D 73 rfl) hH.1.tk hw ?_
                refine ht_getB (hB.fc hi) lb_X5_262 (D 74 rfl) ?_
                refine kVX5_addStep (As := [_, _]) cl_X5_249 (D 75 rfl) (sc_addStep hH.1 hH.2.2.2.1 hcn.1 1 (wFc.getD i 0)) hH.1.rk rfl (Nat.le_of_ble_eq_true rfl) rfl (Nat.le_of_ble_eq_true rfl) (by omega) ?_
                rintro _ _ ⟨rfl, rfl⟩
                refine ht_aload_n (D 76 rfl) rfl rfl ?_
                refine gf_X5_30 rfl (D 77 rfl) hH.1.rk hH.1.q1 ?_
                refine kVX7_next (As := []) cl_X5_42 (D 78 rfl) (sc_nxt hE hB hH (adS_f σ r c (wFc.getD i 0 * 16 + 1)) ((adS_t σ r c _).trans hH.2.2.1.2.2.1)) hH.1.tk rfl (Nat.le_of_ble_eq_true rfl) rfl (Nat.le_of_ble_eq_true rfl) (by omega) ?_
                rintro _ σ2 ⟨rfl, b2, e2, k2, hTF, hCT⟩
                refine ht_iload_n (D 79 rfl) rfl rfl ?_
                refine ht_if_ne (tgt := 174) (D 80 rfl) (by decide) (fun hb166 => absurd (by decide) hb166) (fun hb166 => ?_)
                refine ht_iload (D 81 rfl) rfl ?_
                refine ht_if_eq (tgt := 176) (D 82 rfl) (by decide) (fun hb171 => absurd hb171 (by decide)) (fun hb171 => ?_)
                refine ht_iconst (v := 1) (D 83 rfl) (by decide) ?_
                refine ht_iret (D 84 rfl) rfl rfl ?_
                subst hf3
                exact ⟨.inl (e, ([nI f], [wFc.getD (fcW ice f) 0 * 16 + 1], fun w => w f)), (ClR_self T n ice).2.2.1 d p b e _ _ hH.2.2.1.1 (Or.inr ⟨f, hf1, hf2, hiw, rfl⟩) hd5, QF_t (adS_f σ r c _) (QF_tf hTF), Or.inr ⟨e, _, b2, e2, k2, rfl, rfl, CH_nx hH (adS_f σ r c _) (adS_c σ r c _) hcn.2.1 hTF hCT, CDs_one (by rw [(hTF.2.2.2.2.1 (r + 15) (by omega)).1]; exact adS_s σ r c _), fun i hi => by rw [(hTF.2.2.2.2.1 (r + 15) (by omega)).1]; exact adS_k σ r c _ (by omega)⟩⟩
              · skip
                have hd5 : d = 5 := by have h9 := mt (nI_ltI (a := d) (b := 5) (by omega) (by omega)).mpr hb110; omega
                refine ht_aload_n (D 54 rfl) rfl rfl ?_
                refine ht_iconst (v := 5) (D 55 rfl) (by decide) ?_
                refine kVX5_wrong (As := [_]) cl_X5_109 (D 56 rfl) (sc_wrong hH 5) hH.1.rk rfl (Nat.le_of_ble_eq_true rfl) rfl (Nat.le_of_ble_eq_true rfl) (by omega) ?_
                rintro _ _ ⟨rfl, rfl⟩
                refine ht_iret (D 57 rfl) rfl rfl ?_
                exact ⟨_, (ClR_self T n ice).2.1 d p b e _ hH.2.2.1.1 hps hd5, QF_I r σ (Or.inr rfl) _, Or.inl ⟨_, rfl, rfl, zI_s _ _ _ _⟩⟩
          · skip
            exact absurd (hJ i 14 hi (by decide) (Option.some.inj hb27)) hi14
        · skip
          exact absurd ((ckd_i (j := 2) hk4 (by decide)).mp hb8) hk2
      · have hnF := hF
        have hns : ¬ PSt T b e k ice := by
          rintro (⟨x, q | ⟨f, q1, q2, q3, _⟩⟩ | q | q)
          · exact hk2 q.1
          · exact hF ⟨f, q1, q2, wB_inj (fcW_lt q2).2 hi (q3.2.symm.trans hiw.2)⟩
          · exact hi14 (wB_inj hi (by decide) (hiw.2.symm.trans q.2))
          · have := q.1; omega
        refine ht_aload_n (D 0 rfl) rfl rfl ?_
        refine gf_X5_30 rfl (D 1 rfl) hH.1.rk hH.1.q1 ?_
        refine gf_X5_47 rfl (D 2 rfl) hH.1.tk ?_
        refine ht_iconst (v := 3) (D 3 rfl) (by decide) ?_
        rw [hH.2.2.1.2.2.2.1]
        refine ht_icmp_ne (tgt := 15) (D 4 rfl) (by decide) (fun hb8 => ?_) (fun hb8 => ?_)
        · skip
          refine ht_iconst (v := 0) (D 7 rfl) (by decide) ?_
          refine ht_istore_n (D 8 rfl) rfl (by decide) rfl ?_
          refine ht_aload_n (D 9 rfl) rfl rfl ?_
          refine gf_X5_30 rfl (D 10 rfl) hH.1.rk hH.1.q1 ?_
          refine gf_X5_63 rfl (D 11 rfl) hH.1.tk hw ?_
          refine ht_gets (hB.st (i := 14) (by decide)) lb_X5_259 (D 12 rfl) ?_
          refine ht_acmp_ne (rx := some (ad i)) (ry := some (ad 14)) (tgt := 34) (D 13 rfl) (by decide) (fun hb27 => ?_) (fun hb27 => ?_)
          · skip
            refine ht_iconst (v := 0) (D 16 rfl) (by decide) ?_
            refine ht_istore_n (D 17 rfl) rfl (by decide) rfl ?_
            refine ht_aload_n (D 18 rfl) rfl rfl ?_
            refine gf_X5_30 rfl (D 19 rfl) hH.1.rk hH.1.q1 ?_
            refine gf_X5_63 rfl (D 20 rfl) hH.1.tk hw ?_
            refine ht_ifnull (D 21 rfl) ?_
            refine ht_aload_n (D 22 rfl) rfl rfl ?_
            refine gf_X5_30 rfl (D 23 rfl) hH.1.rk hH.1.q1 ?_
            refine gf_X5_63 rfl (D 24 rfl) hH.1.tk hw ?_
            refine ht_getB (hB.fc hi) lb_X5_262 (D 25 rfl) ?_
            refine ht_aload_n (D 26 rfl) rfl rfl ?_
            refine gf_X5_123 rfl (D 27 rfl) hH.1.rk ?_
            refine ht_aload_n (D 28 rfl) rfl rfl ?_
            refine gf_X5_126 rfl (D 29 rfl) hH.1.rk ?_
            rw [hH.2.2.2.2.2.1, hH.2.2.2.2.2.2.1]
            refine kNX9_isWithin (As := [_, _, _]) hE.X5_265 (D 30 rfl) (sc_isWithin _ _ _) rfl (Nat.le_of_ble_eq_true rfl) rfl (Nat.le_of_ble_eq_true rfl) (by omega) ?_
            rintro _ σ ⟨rfl, rfl⟩
            refine ht_if_eq (tgt := 74) (D 31 rfl) (by decide) (fun hb67 => ?_) (fun hb67 => ?_)
            · skip
              refine ht_iconst (v := 0) (D 34 rfl) (by decide) ?_
              refine ht_istore (D 35 rfl) (by decide) rfl ?_
              refine ht_iload_n (D 36 rfl) rfl rfl ?_
              refine ht_if_ne (tgt := 108) (D 37 rfl) (by decide) (fun hb78 => absurd (by decide) hb78) (fun hb78 => ?_)
              refine ht_iload_n (D 38 rfl) rfl rfl ?_
              refine ht_if_ne (tgt := 108) (D 39 rfl) (by decide) (fun hb82 => absurd (by decide) hb82) (fun hb82 => ?_)
              refine ht_iload (D 40 rfl) rfl ?_
              refine ht_if_ne (tgt := 108) (D 41 rfl) (by decide) (fun hb87 => absurd (by decide) hb87) (fun hb87 => ?_)
              refine ht_aload_n (D 42 rfl) rfl rfl ?_
              refine gf_X5_30 rfl (D 43 rfl) hH.1.rk hH.1.q1 ?_
              refine ht_bipush (v := 40) (D 44 rfl) (by decide) ?_
              refine kVX7_isSign (As := [_]) cl_X5_238 (D 45 rfl) (sc_isSgn hH.1.tk hH.2.2.1 40) hH.1.tk rfl (Nat.le_of_ble_eq_true rfl) rfl (Nat.le_of_ble_eq_true rfl) (by omega) ?_
              rintro _ σ ⟨rfl, rfl⟩
              refine ht_if_ne (tgt := 108) (D 46 rfl) (by decide) (fun hb99 => ?_) (fun hb99 => ?_)
              · skip
                exact absurd (b01_ne hb99).1 (by omega)
              · skip
                refine ht_aload_n (D 47 rfl) rfl rfl ?_
                refine ht_iconst (v := 1) (D 48 rfl) (by decide) ?_
                refine kVX5_wrong (As := [_]) cl_X5_109 (D 49 rfl) (sc_wrong hH 1) hH.1.rk rfl (Nat.le_of_ble_eq_true rfl) rfl (Nat.le_of_ble_eq_true rfl) (by omega) ?_
                rintro _ _ ⟨rfl, rfl⟩
                refine ht_iret (D 50 rfl) rfl rfl ?_
                exact ⟨_, (ClR_self T n ice).1 d p b e _ hH.2.2.1.1 hns, QF_I r σ (Or.inr rfl) _, Or.inl ⟨_, rfl, rfl, zI_s _ _ _ _⟩⟩
            · skip
              obtain ⟨f, hf7, hf1, hf2, hf3⟩ := (wi_F hi).mp (b01_ne hb67)
              exact absurd ⟨f, hf1, hf2, hf3⟩ hnF
          · skip
            exact absurd (hJ i 14 hi (by decide) (Option.some.inj hb27)) hi14
        · skip
          exact absurd ((ckd_i (j := 2) hk4 (by decide)).mp hb8) hk2
end Q2
