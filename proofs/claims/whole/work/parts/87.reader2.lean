/-! ===== the class: the reader reads a part ===== -/
section Q2
variable {G : GG} {σ σ1 σ2 : Hp} {ad : Nat → Nat} {aA aS aV r sA n p b e k c d : Nat} {T : ST} {ice : Bool}
def QPr (P : Rs → Prop) (ad : Nat → Nat) (T : ST) (n : Nat) (ice : Bool) (c r sA : Nat) (σ : Hp) : Option Value → Hp → Prop := fun rv σ' => ∃ rs : Rs, P rs ∧ QF r σ σ' ∧ ((∃ f, rs = .inr f ∧ rv = some (.int 0) ∧ zI σ' r 10 = f) ∨ (∃ q E b2 e2 k2, rs = .inl (q, E) ∧ rv = some (.int 1) ∧ CH ad T n ice q b2 e2 k2 (c + E.2.1.length) r sA σ' ∧ CDs (zI σ' (r + 15)) c E.2.1 ∧ ∀ i, i < c → zI σ' (r + 15) i = zI σ (r + 15) i))
def adS (σ : Hp) (r c : Nat) (s : Int32) : Hp := wI (wI σ (r + 15) c s) r 5 (nI (c + 1))
theorem adS_f (σ : Hp) (r c : Nat) (s : Int32) : QF r σ (adS σ r c s) := QF_t (QF_S r σ c s) (QF_I r _ (Or.inl rfl) _)
theorem adS_c (σ : Hp) (r c : Nat) (s : Int32) : zI (adS σ r c s) r 5 = nI (c + 1) := zI_s _ _ _ _
theorem adS_t (σ : Hp) (r c : Nat) (s : Int32) {k : Nat} : zI (adS σ r c s) (r + 14) k = zI σ (r + 14) k := by
  unfold adS
  rw [zI_a _ _ (by omega), zI_a _ _ (by omega)]
theorem adS_s (σ : Hp) (r c : Nat) (s : Int32) : zI (adS σ r c s) (r + 15) c = s := by
  unfold adS
  rw [zI_a _ _ (by omega), zI_s]
theorem adS_k (σ : Hp) (r c : Nat) (s : Int32) {i : Nat} (h : i ≠ c) : zI (adS σ r c s) (r + 15) i = zI σ (r + 15) i := by
  unfold adS
  rw [zI_a _ _ (by omega), zI_k _ _ h]
theorem CH_ad (h : CH ad T n ice p b e k c r sA σ) (hc : c + 1 ≤ p) (s : Int32) : CH ad T n ice p b e k (c + 1) r sA (adS σ r c s) := by
  have f := adS_f σ r c s
  refine ⟨h.1.qf f, by rw [f.sg h.1]; exact h.2.1, ?_, adS_c σ r c s, hc, ?_, ?_, h.2.2.2.2.2.2.2⟩
  · obtain ⟨a1, a2, a3, a4, a5, a6, a7, a8, a9⟩ := h.2.2.1
    exact ⟨a1, (adS_t σ r c s).trans a2, (adS_t σ r c s).trans a3, (adS_t σ r c s).trans a4, a5, fun q => (adS_t σ r c s).trans (a6 q), fun q => (adS_t σ r c s).trans (a7 q), a8, a9⟩
  · rw [f.2.2.2.2.2 6 (by decide) (by decide)]
    exact h.2.2.2.2.2.1
  · rw [f.2.2.2.2.2 7 (by decide) (by decide)]
    exact h.2.2.2.2.2.2.1
theorem wi_F {i : Nat} (hi : i < 22) : ((if ice then (3 : Int32) else 0) ≤ wFc.getD i 0 ∧ wFc.getD i 0 ≤ (if ice then (8 : Int32) else 2)) ↔ ∃ f, f < 7 ∧ (1 ≤ f ∧ f ≤ fcN ice ∧ fcW ice f = i) := by
  have key : ∀ (ice : Bool) (i : Nat), i < 22 → (((if ice then (3 : Int32) else 0) ≤ wFc.getD i 0 ∧ wFc.getD i 0 ≤ (if ice then (8 : Int32) else 2)) ↔ ∃ f, f < 7 ∧ (1 ≤ f ∧ f ≤ fcN ice ∧ fcW ice f = i)) := by decide
  exact key ice i hi
theorem CH_cn (h : CH ad T n ice p b e k c r sA σ) (q : k ≠ 0) : c < n ∧ c + 1 ≤ e ∧ p < e := by
  have h1 := TK_le h.2.2.1.1
  have h2 := h.2.2.2.2.1
  omega
set_option maxRecDepth 100000 in
set_option maxHeartbeats 1000000 in
theorem sc_readPart (hE : NE G) (hB : BK G ad aA aS aV) (hJ : ∀ i j, i < 22 → j < 22 → ad i = ad j → i = j) (hd : d ≤ 5)
    (ihP : d < 5 → ∀ (σ : Hp) (p b e k c : Nat), CH ad T n ice p b e k c r sA σ → Sp G mX5_readPart (6 + 6 * (5 - (d + 1))) [.ref r, .int (nI (d + 1))] σ (QPr (RPt T n ice (d + 1) p) ad T n ice c r sA σ))
    (ihL : d < 5 → ∀ (σ : Hp) (p b e k c : Nat), CH ad T n ice p b e k c r sA σ → Sp G mX5_readLevel (6 + 6 * (5 - (d + 1)) + 5) [.ref r, .int 0, .int (nI (d + 1))] σ (QPr (RLv T n ice 0 (d + 1) p) ad T n ice c r sA σ))
    (hH : CH ad T n ice p b e k c r sA σ) : Sp G mX5_readPart (6 + 6 * (5 - d)) [.ref r, .int (nI d)] σ (QPr (RPt T n ice d p) ad T n ice c r sA σ) := by
  have D := dat dl_X5_readPart
  show HT G mX5_readPart 0 [some (.ref r), some (.int (nI d)), none, none, none, none] [] σ (6 + 6 * (5 - d)) _
  have hk4 : k ≤ 4 := (TK_le hH.2.2.1.1).2.2.2.2.2
  rcases CT_w hH.2.2.1 with ⟨hw, hno⟩ | ⟨i, hi, hw, hiw⟩
  · by_cases hk2 : k = 2
    · subst hk2
      have hk2c : zI σ (r + 14) 3 = 3 := hH.2.2.1.2.2.2.1
      obtain ⟨v, _, hv1, hv2⟩ := TK_dg hH.2.2.1.1
      have hnum : zI σ (r + 14) 5 = dgA T b (e - b) := (hH.2.2.1.2.2.2.2.2.1 rfl).trans (hv2.trans hv1.symm)
      have hcn := CH_cn hH (by decide)
      have hps : PSt T b e 2 ice := Or.inl ⟨_, Or.inl ⟨rfl, rfl⟩⟩
      have hO : ¬ isS T b 2 40 := fun q => absurd q.1 (by decide)
      refine ht_aload_n (D 0 rfl) rfl rfl ?_
      refine gf_X5_30 rfl (D 1 rfl) hH.1.rk hH.1.q1 ?_
      refine gf_X5_47 rfl (D 2 rfl) hH.1.tk ?_
      refine ht_iconst (v := 3) (D 3 rfl) (by decide) ?_
      rw [hk2c]
      refine ht_icmp_ne (tgt := 15) (D 4 rfl) (by decide) (fun hb8 => ?_) (fun hb8 => ?_)
      · skip
        exact absurd rfl hb8
      · skip
        refine ht_iconst (v := 1) (D 5 rfl) (by decide) ?_
        refine ht_goto (tgt := 16) (D 6 rfl) (by decide) ?_
        refine ht_istore_n (D 8 rfl) rfl (by decide) rfl ?_
        refine ht_aload_n (D 9 rfl) rfl rfl ?_
        refine gf_X5_30 rfl (D 10 rfl) hH.1.rk hH.1.q1 ?_
        refine gn_X5_63 rfl (D 11 rfl) hH.1.tk hw ?_
        refine ht_gets (hB.st (i := 14) (by decide)) lb_X5_259 (D 12 rfl) ?_
        refine ht_acmp_ne (rx := none) (ry := some (ad 14)) (tgt := 34) (D 13 rfl) (by decide) (fun hb27 => ?_) (fun hb27 => ?_)
        · skip
          refine ht_iconst (v := 0) (D 16 rfl) (by decide) ?_
          refine ht_istore_n (D 17 rfl) rfl (by decide) rfl ?_
          refine ht_aload_n (D 18 rfl) rfl rfl ?_
          refine gf_X5_30 rfl (D 19 rfl) hH.1.rk hH.1.q1 ?_
          refine ht_bipush (v := 40) (D 20 rfl) (by decide) ?_
          refine kVX7_isSign (As := [_]) cl_X5_238 (D 21 rfl) (sc_isSgn hH.1.tk hH.2.2.1 40) hH.1.tk rfl (Nat.le_of_ble_eq_true rfl) rfl (Nat.le_of_ble_eq_true rfl) (by omega) ?_
          rintro _ σ ⟨rfl, rfl⟩
          rw [b01_f hO]
          refine ht_istore (D 22 rfl) (by decide) rfl ?_
          refine ht_aload_n (D 23 rfl) rfl rfl ?_
          refine gf_X5_30 rfl (D 24 rfl) hH.1.rk hH.1.q1 ?_
          refine gn_X5_63 rfl (D 25 rfl) hH.1.tk hw ?_
          refine ht_ifnullN (tgt := 85) (D 26 rfl) (by decide) ?_
          refine ht_iconst (v := 0) (D 39 rfl) (by decide) ?_
          refine ht_istore (D 40 rfl) (by decide) rfl ?_
          refine ht_iload_n (D 41 rfl) rfl rfl ?_
          refine ht_if_ne (tgt := 112) (D 42 rfl) (by decide) (fun hb89 => ?_) (fun hb89 => absurd hb89 (by decide))
          refine ht_iload_n (D 53 rfl) rfl rfl ?_
          refine ht_iconst (v := 5) (D 54 rfl) (by decide) ?_
          refine ht_icmp_lt (tgt := 123) (D 55 rfl) (by decide) (fun hb114 => ?_) (fun hb114 => ?_)
          · skip
            have hd5 : d < 5 := (nI_ltI (a := d) (b := 5) (by omega) (by omega)).mp hb114
            refine ht_iload_n (D 60 rfl) rfl rfl ?_
            refine ht_if_eq (tgt := 142) (D 61 rfl) (by decide) (fun hb124 => absurd hb124 (by decide)) (fun hb124 => ?_)
            refine ht_aload_n (D 62 rfl) rfl rfl ?_
            refine ht_iconst (v := 0) (D 63 rfl) (by decide) ?_
            refine ht_aload_n (D 64 rfl) rfl rfl ?_
            refine gf_X5_30 rfl (D 65 rfl) hH.1.rk hH.1.q1 ?_
            refine gf_X5_241 rfl (D 66 rfl) hH.1.tk ?_
            rw [hnum]
            refine kVX5_addStep (As := [_, _]) cl_X5_249 (D 67 rfl) (sc_addStep hH.1 hH.2.2.2.1 hcn.1 0 (dgA T b (e - b))) hH.1.rk rfl (Nat.le_of_ble_eq_true rfl) rfl (Nat.le_of_ble_eq_true rfl) (by omega) ?_
            rintro _ _ ⟨rfl, rfl⟩
            refine ht_goto (tgt := 162) (D 68 rfl) (by decide) ?_
            refine ht_aload_n (D 78 rfl) rfl rfl ?_
            refine gf_X5_30 rfl (D 79 rfl) hH.1.rk hH.1.q1 ?_
            refine kVX7_next (As := []) cl_X5_42 (D 80 rfl) (sc_nxt hE hB hH (adS_f σ r c (dgA T b (e - b) * 16 + 0)) ((adS_t σ r c _).trans hH.2.2.1.2.2.1)) hH.1.tk rfl (Nat.le_of_ble_eq_true rfl) rfl (Nat.le_of_ble_eq_true rfl) (by omega) ?_
            rintro _ σ2 ⟨rfl, b2, e2, k2, hTF, hCT⟩
            refine ht_iload_n (D 81 rfl) rfl rfl ?_
            refine ht_if_eq (tgt := 183) (D 82 rfl) (by decide) (fun hb170 => ?_) (fun hb170 => absurd (by decide) hb170)
            refine ht_iload (D 89 rfl) rfl ?_
            refine ht_if_eq (tgt := 201) (D 90 rfl) (by decide) (fun hb185 => ?_) (fun hb185 => absurd (by decide) hb185)
            refine ht_iload_n (D 100 rfl) rfl rfl ?_
            refine ht_if_eq (tgt := 211) (D 101 rfl) (by decide) (fun hb202 => ?_) (fun hb202 => absurd (by decide) hb202)
            refine ht_iload (D 106 rfl) rfl ?_
            refine ht_if_eq (tgt := 234) (D 107 rfl) (by decide) (fun hb213 => ?_) (fun hb213 => absurd (by decide) hb213)
            refine ht_iload (D 117 rfl) rfl ?_
            refine ht_if_eq (tgt := 246) (D 118 rfl) (by decide) (fun hb236 => ?_) (fun hb236 => absurd (by decide) hb236)
            refine ht_iconst (v := 1) (D 122 rfl) (by decide) ?_
            refine ht_iret (D 123 rfl) rfl rfl ?_
            exact ⟨.inl (e, ([100 + dgA T b (e - b)], [dgA T b (e - b) * 16 + 0], fun _ => dgA T b (e - b))), (ClR_self T n ice).2.2.1 d p b e _ _ hH.2.2.1.1 (Or.inl ⟨rfl, rfl⟩) hd5, QF_t (adS_f σ r c _) (QF_tf hTF), Or.inr ⟨e, _, b2, e2, k2, rfl, rfl, CH_nx hH (adS_f σ r c _) (adS_c σ r c _) hcn.2.1 hTF hCT, CDs_one (by rw [(hTF.2.2.2.2.1 (r + 15) (by omega)).1]; exact adS_s σ r c _), fun i hi => by rw [(hTF.2.2.2.2.1 (r + 15) (by omega)).1]; exact adS_k σ r c _ (by omega)⟩⟩
          · skip
            have hd5 : d = 5 := by have h9 := mt (nI_ltI (a := d) (b := 5) (by omega) (by omega)).mpr hb114; omega
            refine ht_aload_n (D 56 rfl) rfl rfl ?_
            refine ht_iconst (v := 5) (D 57 rfl) (by decide) ?_
            refine kVX5_wrong (As := [_]) cl_X5_109 (D 58 rfl) (sc_wrong hH 5) hH.1.rk rfl (Nat.le_of_ble_eq_true rfl) rfl (Nat.le_of_ble_eq_true rfl) (by omega) ?_
            rintro _ _ ⟨rfl, rfl⟩
            refine ht_iret (D 59 rfl) rfl rfl ?_
            exact ⟨_, (ClR_self T n ice).2.1 d p b e _ hH.2.2.1.1 hps hd5, QF_I r σ (Or.inr rfl) _, Or.inl ⟨_, rfl, rfl, zI_s _ _ _ _⟩⟩
        · skip
          cases hb27
    · by_cases hO : isS T b k 40
      · have hcn := CH_cn hH (by have := hO.1; omega)
        have hps : PSt T b e k ice := Or.inr (Or.inr hO)
        refine ht_aload_n (D 0 rfl) rfl rfl ?_
        refine gf_X5_30 rfl (D 1 rfl) hH.1.rk hH.1.q1 ?_
        refine gf_X5_47 rfl (D 2 rfl) hH.1.tk ?_
        refine ht_iconst (v := 3) (D 3 rfl) (by decide) ?_
        rw [hH.2.2.1.2.2.2.1]
        refine ht_icmp_ne (tgt := 15) (D 4 rfl) (by decide) (fun hb8 => ?_) (fun hb8 => ?_)
        · skip
          refine ht_iconst (v := 0) (D 7 rfl) (by decide) ?_
          refine ht_istore_n (D 8 rfl) rfl (by decide) rfl ?_
          refine ht_aload_n (D 9 rfl) rfl rfl ?_
          refine gf_X5_30 rfl (D 10 rfl) hH.1.rk hH.1.q1 ?_
          refine gn_X5_63 rfl (D 11 rfl) hH.1.tk hw ?_
          refine ht_gets (hB.st (i := 14) (by decide)) lb_X5_259 (D 12 rfl) ?_
          refine ht_acmp_ne (rx := none) (ry := some (ad 14)) (tgt := 34) (D 13 rfl) (by decide) (fun hb27 => ?_) (fun hb27 => ?_)
          · skip
            refine ht_iconst (v := 0) (D 16 rfl) (by decide) ?_
            refine ht_istore_n (D 17 rfl) rfl (by decide) rfl ?_
            refine ht_aload_n (D 18 rfl) rfl rfl ?_
            refine gf_X5_30 rfl (D 19 rfl) hH.1.rk hH.1.q1 ?_
            refine ht_bipush (v := 40) (D 20 rfl) (by decide) ?_
            refine kVX7_isSign (As := [_]) cl_X5_238 (D 21 rfl) (sc_isSgn hH.1.tk hH.2.2.1 40) hH.1.tk rfl (Nat.le_of_ble_eq_true rfl) rfl (Nat.le_of_ble_eq_true rfl) (by omega) ?_
            rintro _ σ ⟨rfl, rfl⟩
            rw [b01_t hO]
            refine ht_istore (D 22 rfl) (by decide) rfl ?_
            refine ht_aload_n (D 23 rfl) rfl rfl ?_
            refine gf_X5_30 rfl (D 24 rfl) hH.1.rk hH.1.q1 ?_
            refine gn_X5_63 rfl (D 25 rfl) hH.1.tk hw ?_
            refine ht_ifnullN (tgt := 85) (D 26 rfl) (by decide) ?_
            refine ht_iconst (v := 0) (D 39 rfl) (by decide) ?_
            refine ht_istore (D 40 rfl) (by decide) rfl ?_
            refine ht_iload_n (D 41 rfl) rfl rfl ?_
            refine ht_if_ne (tgt := 112) (D 42 rfl) (by decide) (fun hb89 => absurd (by decide) hb89) (fun hb89 => ?_)
            refine ht_iload_n (D 43 rfl) rfl rfl ?_
            refine ht_if_ne (tgt := 112) (D 44 rfl) (by decide) (fun hb93 => absurd (by decide) hb93) (fun hb93 => ?_)
            refine ht_iload (D 45 rfl) rfl ?_
            refine ht_if_ne (tgt := 112) (D 46 rfl) (by decide) (fun hb98 => absurd (by decide) hb98) (fun hb98 => ?_)
            refine ht_iload (D 47 rfl) rfl ?_
            refine ht_if_ne (tgt := 112) (D 48 rfl) (by decide) (fun hb103 => ?_) (fun hb103 => absurd hb103 (by decide))
            refine ht_iload_n (D 53 rfl) rfl rfl ?_
            refine ht_iconst (v := 5) (D 54 rfl) (by decide) ?_
            refine ht_icmp_lt (tgt := 123) (D 55 rfl) (by decide) (fun hb114 => ?_) (fun hb114 => ?_)
            · skip
              have hd5 : d < 5 := (nI_ltI (a := d) (b := 5) (by omega) (by omega)).mp hb114
              refine ht_iload_n (D 60 rfl) rfl rfl ?_
              refine ht_if_eq (tgt := 142) (D 61 rfl) (by decide) (fun hb124 => ?_) (fun hb124 => absurd (by decide) hb124)
              refine ht_iload (D 69 rfl) rfl ?_
              refine ht_if_eq (tgt := 162) (D 70 rfl) (by decide) (fun hb144 => ?_) (fun hb144 => absurd (by decide) hb144)
              refine ht_aload_n (D 78 rfl) rfl rfl ?_
              refine gf_X5_30 rfl (D 79 rfl) hH.1.rk hH.1.q1 ?_
              refine kVX7_next (As := []) cl_X5_42 (D 80 rfl) (sc_nxt hE hB hH (QF_r r σ) hH.2.2.1.2.2.1) hH.1.tk rfl (Nat.le_of_ble_eq_true rfl) rfl (Nat.le_of_ble_eq_true rfl) (by omega) ?_
              rintro _ σ2 ⟨rfl, b2, e2, k2, hTF, hCT⟩
              have hH2 : CH ad T n ice e b2 e2 k2 c r sA σ2 := CH_nx hH (QF_r r σ) hH.2.2.2.1 (by omega) hTF hCT
              refine ht_iload_n (D 81 rfl) rfl rfl ?_
              refine ht_if_eq (tgt := 183) (D 82 rfl) (by decide) (fun hb170 => ?_) (fun hb170 => absurd (by decide) hb170)
              refine ht_iload (D 89 rfl) rfl ?_
              refine ht_if_eq (tgt := 201) (D 90 rfl) (by decide) (fun hb185 => absurd hb185 (by decide)) (fun hb185 => ?_)
              refine ht_aload_n (D 91 rfl) rfl rfl ?_
              refine ht_iconst (v := 0) (D 92 rfl) (by decide) ?_
              refine ht_iload_n (D 93 rfl) rfl rfl ?_
              refine ht_iconst (v := 1) (D 94 rfl) (by decide) ?_
              refine ht_iadd (D 95 rfl) ?_
              rw [show nI d + 1 = nI (d + 1) from nI_1 d]
              refine kVX5_readLevel (As := [_, _]) cl_X5_132 (D 96 rfl) (ihL hd5 σ2 e b2 e2 k2 c hH2) hH2.1.rk rfl (Nat.le_of_ble_eq_true rfl) rfl (Nat.le_of_ble_eq_true rfl) (by omega) ?_
              rintro _ σ3 ⟨rs, hR, hQF, ⟨f, rfl, rfl, hf⟩ | ⟨q, E, b3, e3, k3, rfl, rfl, hH3, hCD, hlo⟩⟩
              · skip
                refine ht_if_ne (tgt := 201) (D 97 rfl) (by decide) (fun hb196 => absurd (by decide) hb196) (fun hb196 => ?_)
                refine ht_iconst (v := 0) (D 98 rfl) (by decide) ?_
                refine ht_iret (D 99 rfl) rfl rfl ?_
                exact ⟨.inr f, (ClR_self T n ice).2.2.2.2.1 d p b e _ f hH.2.2.1.1 hO hd5 hR, QF_t (QF_tf hTF) hQF, Or.inl ⟨f, rfl, rfl, hf⟩⟩
              · skip
                refine ht_if_ne (tgt := 201) (D 97 rfl) (by decide) (fun hb196 => ?_) (fun hb196 => absurd hb196 (by decide))
                refine ht_iload_n (D 100 rfl) rfl rfl ?_
                refine ht_if_eq (tgt := 211) (D 101 rfl) (by decide) (fun hb202 => ?_) (fun hb202 => absurd (by decide) hb202)
                refine ht_iload (D 106 rfl) rfl ?_
                refine ht_if_eq (tgt := 234) (D 107 rfl) (by decide) (fun hb213 => absurd hb213 (by decide)) (fun hb213 => ?_)
                refine ht_aload_n (D 108 rfl) rfl rfl ?_
                refine gf_X5_30 rfl (D 109 rfl) hH3.1.rk hH3.1.q1 ?_
                refine ht_bipush (v := 41) (D 110 rfl) (by decide) ?_
                refine kVX7_isSign (As := [_]) cl_X5_238 (D 111 rfl) (sc_isSgn hH3.1.tk hH3.2.2.1 41) hH3.1.tk rfl (Nat.le_of_ble_eq_true rfl) rfl (Nat.le_of_ble_eq_true rfl) (by omega) ?_
                rintro _ σ3 ⟨rfl, rfl⟩
                refine ht_if_ne (tgt := 234) (D 112 rfl) (by decide) (fun hb225 => ?_) (fun hb225 => ?_)
                · skip
                  have hy41 : isS T b3 k3 41 := b01_ne hb225
                  refine ht_iload (D 117 rfl) rfl ?_
                  refine ht_if_eq (tgt := 246) (D 118 rfl) (by decide) (fun hb236 => absurd hb236 (by decide)) (fun hb236 => ?_)
                  refine ht_aload_n (D 119 rfl) rfl rfl ?_
                  refine gf_X5_30 rfl (D 120 rfl) hH3.1.rk hH3.1.q1 ?_
                  refine kVX7_next (As := []) cl_X5_42 (D 121 rfl) (sc_nxt hE hB hH3 (QF_r r σ3) hH3.2.2.1.2.2.1) hH3.1.tk rfl (Nat.le_of_ble_eq_true rfl) rfl (Nat.le_of_ble_eq_true rfl) (by omega) ?_
                  rintro _ σ4 ⟨rfl, b4, e4, k4, hTF4, hCT4⟩
                  have hH4 := CH_nx hH3 (QF_r r σ3) hH3.2.2.2.1 (by have h1 := hH3.2.2.2.2.1; have h2 := TK_le hH3.2.2.1.1; omega) hTF4 hCT4
                  have hs4 := (hTF4.2.2.2.2.1 (r + 15) (by omega)).1
                  refine ht_iconst (v := 1) (D 122 rfl) (by decide) ?_
                  refine ht_iret (D 123 rfl) rfl rfl ?_
                  exact ⟨_, (ClR_self T n ice).2.2.2.2.2.1 d p b e _ q E b3 e3 k3 hH.2.2.1.1 hO hd5 hR hH3.2.2.1.1 hy41, QF_t (QF_t (QF_tf hTF) hQF) (QF_tf hTF4), Or.inr ⟨e3, paE E, b4, e4, k4, rfl, rfl, hH4, by rw [hs4]; exact hCD, fun i hi => by rw [hs4, hlo i hi, (hTF.2.2.2.2.1 (r + 15) (by omega)).1]⟩⟩
                · skip
                  have hn41 : ¬ isS T b3 k3 41 := b01_eq hb225
                  refine ht_aload_n (D 113 rfl) rfl rfl ?_
                  refine ht_iconst (v := 1) (D 114 rfl) (by decide) ?_
                  refine kVX5_wrong (As := [_]) cl_X5_109 (D 115 rfl) (sc_wrong hH3 1) hH3.1.rk rfl (Nat.le_of_ble_eq_true rfl) rfl (Nat.le_of_ble_eq_true rfl) (by omega) ?_
                  rintro _ _ ⟨rfl, rfl⟩
                  refine ht_iret (D 116 rfl) rfl rfl ?_
                  exact ⟨_, (ClR_self T n ice).2.2.2.2.2.2.1 d p b e _ q E b3 e3 k3 hH.2.2.1.1 hO hd5 hR hH3.2.2.1.1 hn41, QF_t (QF_t (QF_tf hTF) hQF) (QF_I r σ3 (Or.inr rfl) _), Or.inl ⟨_, rfl, rfl, zI_s _ _ _ _⟩⟩
            · skip
              have hd5 : d = 5 := by have h9 := mt (nI_ltI (a := d) (b := 5) (by omega) (by omega)).mpr hb114; omega
              refine ht_aload_n (D 56 rfl) rfl rfl ?_
              refine ht_iconst (v := 5) (D 57 rfl) (by decide) ?_
              refine kVX5_wrong (As := [_]) cl_X5_109 (D 58 rfl) (sc_wrong hH 5) hH.1.rk rfl (Nat.le_of_ble_eq_true rfl) rfl (Nat.le_of_ble_eq_true rfl) (by omega) ?_
              rintro _ _ ⟨rfl, rfl⟩
              refine ht_iret (D 59 rfl) rfl rfl ?_
              exact ⟨_, (ClR_self T n ice).2.1 d p b e _ hH.2.2.1.1 hps hd5, QF_I r σ (Or.inr rfl) _, Or.inl ⟨_, rfl, rfl, zI_s _ _ _ _⟩⟩
          · skip
            cases hb27
        · skip
          exact absurd ((ckd_i (j := 2) hk4 (by decide)).mp hb8) hk2
      · have hns : ¬ PSt T b e k ice := by
          rintro (⟨x, q | ⟨f, q1, q2, q3, _⟩⟩ | q | q)
          · exact hk2 q.1
          · exact hno _ (fcW_lt q2).2 q3
          · exact hno 14 (by decide) q
          · exact hO q
        refine ht_aload_n (D 0 rfl) rfl rfl ?_
        refine gf_X5_30 rfl (D 1 rfl) hH.1.rk hH.1.q1 ?_
        refine gf_X5_47 rfl (D 2 rfl) hH.1.tk ?_
        refine ht_iconst (v := 3) (D 3 rfl) (by decide) ?_
        rw [hH.2.2.1.2.2.2.1]
        refine ht_icmp_ne (tgt := 15) (D 4 rfl) (by decide) (fun hb8 => ?_) (fun hb8 => ?_)
        · skip
          refine ht_iconst (v := 0) (D 7 rfl) (by decide) ?_
          refine ht_istore_n (D 8 rfl) rfl (by decide) rfl ?_
          refine ht_aload_n (D 9 rfl) rfl rfl ?_
          refine gf_X5_30 rfl (D 10 rfl) hH.1.rk hH.1.q1 ?_
          refine gn_X5_63 rfl (D 11 rfl) hH.1.tk hw ?_
          refine ht_gets (hB.st (i := 14) (by decide)) lb_X5_259 (D 12 rfl) ?_
          refine ht_acmp_ne (rx := none) (ry := some (ad 14)) (tgt := 34) (D 13 rfl) (by decide) (fun hb27 => ?_) (fun hb27 => ?_)
          · skip
            refine ht_iconst (v := 0) (D 16 rfl) (by decide) ?_
            refine ht_istore_n (D 17 rfl) rfl (by decide) rfl ?_
            refine ht_aload_n (D 18 rfl) rfl rfl ?_
            refine gf_X5_30 rfl (D 19 rfl) hH.1.rk hH.1.q1 ?_
            refine ht_bipush (v := 40) (D 20 rfl) (by decide) ?_
            refine kVX7_isSign (As := [_]) cl_X5_238 (D 21 rfl) (sc_isSgn hH.1.tk hH.2.2.1 40) hH.1.tk rfl (Nat.le_of_ble_eq_true rfl) rfl (Nat.le_of_ble_eq_true rfl) (by omega) ?_
            rintro _ σ ⟨rfl, rfl⟩
            rw [b01_f hO]
            refine ht_istore (D 22 rfl) (by decide) rfl ?_
            refine ht_aload_n (D 23 rfl) rfl rfl ?_
            refine gf_X5_30 rfl (D 24 rfl) hH.1.rk hH.1.q1 ?_
            refine gn_X5_63 rfl (D 25 rfl) hH.1.tk hw ?_
            refine ht_ifnullN (tgt := 85) (D 26 rfl) (by decide) ?_
            refine ht_iconst (v := 0) (D 39 rfl) (by decide) ?_
            refine ht_istore (D 40 rfl) (by decide) rfl ?_
            refine ht_iload_n (D 41 rfl) rfl rfl ?_
            refine ht_if_ne (tgt := 112) (D 42 rfl) (by decide) (fun hb89 => absurd (by decide) hb89) (fun hb89 => ?_)
            refine ht_iload_n (D 43 rfl) rfl rfl ?_
            refine ht_if_ne (tgt := 112) (D 44 rfl) (by decide) (fun hb93 => absurd (by decide) hb93) (fun hb93 => ?_)
            refine ht_iload (D 45 rfl) rfl ?_
            refine ht_if_ne (tgt := 112) (D 46 rfl) (by decide) (fun hb98 => absurd (by decide) hb98) (fun hb98 => ?_)
            refine ht_iload (D 47 rfl) rfl ?_
            refine ht_if_ne (tgt := 112) (D 48 rfl) (by decide) (fun hb103 => absurd (by decide) hb103) (fun hb103 => ?_)
            refine ht_aload_n (D 49 rfl) rfl rfl ?_
            refine ht_iconst (v := 1) (D 50 rfl) (by decide) ?_
            refine kVX5_wrong (As := [_]) cl_X5_109 (D 51 rfl) (sc_wrong hH 1) hH.1.rk rfl (Nat.le_of_ble_eq_true rfl) rfl (Nat.le_of_ble_eq_true rfl) (by omega) ?_
            rintro _ _ ⟨rfl, rfl⟩
            refine ht_iret (D 52 rfl) rfl rfl ?_
            exact ⟨_, (ClR_self T n ice).1 d p b e _ hH.2.2.1.1 hns, QF_I r σ (Or.inr rfl) _, Or.inl ⟨_, rfl, rfl, zI_s _ _ _ _⟩⟩
          · skip
            cases hb27
        · skip
          exact absurd ((ckd_i (j := 2) hk4 (by decide)).mp hb8) hk2
  · have hk2 : ¬ k = 2 := by have := hiw.1; omega
    have hk1 := hiw.1
    have hO : ¬ isS T b k 40 := fun q => by have := q.1; omega
    have hcn := CH_cn hH (by omega)
    by_cases hi14 : i = 14
    · have hW : isW T b e k 14 := by rw [← hi14]; exact hiw
      have hps : PSt T b e k ice := Or.inr (Or.inl hW)
      refine ht_aload_n (D 0 rfl) rfl rfl ?_
      refine gf_X5_30 rfl (D 1 rfl) hH.1.rk hH.1.q1 ?_
      refine gf_X5_47 rfl (D 2 rfl) hH.1.tk ?_
      refine ht_iconst (v := 3) (D 3 rfl) (by decide) ?_
      rw [hH.2.2.1.2.2.2.1]
      refine ht_icmp_ne (tgt := 15) (D 4 rfl) (by decide) (fun hb8 => ?_) (fun hb8 => ?_)
      · skip
        refine ht_iconst (v := 0) (D 7 rfl) (by decide) ?_
        refine ht_istore_n (D 8 rfl) rfl (by decide) rfl ?_
        refine ht_aload_n (D 9 rfl) rfl rfl ?_
        refine gf_X5_30 rfl (D 10 rfl) hH.1.rk hH.1.q1 ?_
        refine gf_X5_63 rfl (D 11 rfl) hH.1.tk hw ?_
        refine ht_gets (hB.st (i := 14) (by decide)) lb_X5_259 (D 12 rfl) ?_
        refine ht_acmp_ne (rx := some (ad i)) (ry := some (ad 14)) (tgt := 34) (D 13 rfl) (by decide) (fun hb27 => ?_) (fun hb27 => ?_)
        · skip
          exact absurd (by rw [hi14]) hb27
        · skip
          refine ht_iconst (v := 1) (D 14 rfl) (by decide) ?_
          refine ht_goto (tgt := 35) (D 15 rfl) (by decide) ?_
          refine ht_istore_n (D 17 rfl) rfl (by decide) rfl ?_
          refine ht_aload_n (D 18 rfl) rfl rfl ?_
          refine gf_X5_30 rfl (D 19 rfl) hH.1.rk hH.1.q1 ?_
          refine ht_bipush (v := 40) (D 20 rfl) (by decide) ?_
          refine kVX7_isSign (As := [_]) cl_X5_238 (D 21 rfl) (sc_isSgn hH.1.tk hH.2.2.1 40) hH.1.tk rfl (Nat.le_of_ble_eq_true rfl) rfl (Nat.le_of_ble_eq_true rfl) (by omega) ?_
          rintro _ σ ⟨rfl, rfl⟩
          rw [b01_f hO]
          refine ht_istore (D 22 rfl) (by decide) rfl ?_
          refine ht_aload_n (D 23 rfl) rfl rfl ?_
          refine gf_X5_30 rfl (D 24 rfl) hH.1.rk hH.1.q1 ?_
          refine gf_X5_63 rfl (D 25 rfl) hH.1.tk hw ?_
          refine ht_ifnull (D 26 rfl) ?_
          refine ht_aload_n (D 27 rfl) rfl rfl ?_
          refine gf_X5_30 rfl (D 28 rfl) hH.1.rk hH.1.q1 ?_
          refine gf_X5_63 rfl (D 29 rfl) hH.1.tk hw ?_
          refine ht_getB (hB.fc hi) lb_X5_262 (D 30 rfl) ?_
          refine ht_aload_n (D 31 rfl) rfl rfl ?_
          refine gf_X5_123 rfl (D 32 rfl) hH.1.rk ?_
          refine ht_aload_n (D 33 rfl) rfl rfl ?_
          refine gf_X5_126 rfl (D 34 rfl) hH.1.rk ?_
          rw [hH.2.2.2.2.2.1, hH.2.2.2.2.2.2.1]
          refine kNX9_isWithin (As := [_, _, _]) hE.X5_265 (D 35 rfl) (sc_isWithin _ _ _) rfl (Nat.le_of_ble_eq_true rfl) rfl (Nat.le_of_ble_eq_true rfl) (by omega) ?_
          rintro _ σ ⟨rfl, rfl⟩
          refine ht_if_eq (tgt := 85) (D 36 rfl) (by decide) (fun hb78 => ?_) (fun hb78 => ?_)
          · skip
            refine ht_iconst (v := 0) (D 39 rfl) (by decide) ?_
            refine ht_istore (D 40 rfl) (by decide) rfl ?_
            refine ht_iload_n (D 41 rfl) rfl rfl ?_
            refine ht_if_ne (tgt := 112) (D 42 rfl) (by decide) (fun hb89 => absurd (by decide) hb89) (fun hb89 => ?_)
            refine ht_iload_n (D 43 rfl) rfl rfl ?_
            refine ht_if_ne (tgt := 112) (D 44 rfl) (by decide) (fun hb93 => ?_) (fun hb93 => absurd hb93 (by decide))
            refine ht_iload_n (D 53 rfl) rfl rfl ?_
            refine ht_iconst (v := 5) (D 54 rfl) (by decide) ?_
            refine ht_icmp_lt (tgt := 123) (D 55 rfl) (by decide) (fun hb114 => ?_) (fun hb114 => ?_)
            · skip
              have hd5 : d < 5 := (nI_ltI (a := d) (b := 5) (by omega) (by omega)).mp hb114
              refine ht_iload_n (D 60 rfl) rfl rfl ?_
              refine ht_if_eq (tgt := 142) (D 61 rfl) (by decide) (fun hb124 => ?_) (fun hb124 => absurd (by decide) hb124)
              refine ht_iload (D 69 rfl) rfl ?_
              refine ht_if_eq (tgt := 162) (D 70 rfl) (by decide) (fun hb144 => ?_) (fun hb144 => absurd (by decide) hb144)
              refine ht_aload_n (D 78 rfl) rfl rfl ?_
              refine gf_X5_30 rfl (D 79 rfl) hH.1.rk hH.1.q1 ?_
              refine kVX7_next (As := []) cl_X5_42 (D 80 rfl) (sc_nxt hE hB hH (QF_r r σ) hH.2.2.1.2.2.1) hH.1.tk rfl (Nat.le_of_ble_eq_true rfl) rfl (Nat.le_of_ble_eq_true rfl) (by omega) ?_
              rintro _ σ2 ⟨rfl, b2, e2, k2, hTF, hCT⟩
              have hH2 : CH ad T n ice e b2 e2 k2 c r sA σ2 := CH_nx hH (QF_r r σ) hH.2.2.2.1 (by omega) hTF hCT
              refine ht_iload_n (D 81 rfl) rfl rfl ?_
              refine ht_if_eq (tgt := 183) (D 82 rfl) (by decide) (fun hb170 => absurd hb170 (by decide)) (fun hb170 => ?_)
              refine ht_aload_n (D 83 rfl) rfl rfl ?_
              refine ht_iload_n (D 84 rfl) rfl rfl ?_
              refine ht_iconst (v := 1) (D 85 rfl) (by decide) ?_
              refine ht_iadd (D 86 rfl) ?_
              rw [show nI d + 1 = nI (d + 1) from nI_1 d]
              refine kVX5_readPart (As := [_]) cl_X5_242 (D 87 rfl) (ihP hd5 σ2 e b2 e2 k2 c hH2) hH2.1.rk rfl (Nat.le_of_ble_eq_true rfl) rfl (Nat.le_of_ble_eq_true rfl) (by omega) ?_
              rintro _ σ3 ⟨rs, hR, hQF, ⟨f, rfl, rfl, hf⟩ | ⟨q, E, b3, e3, k3, rfl, rfl, hH3, hCD, hlo⟩⟩
              · skip
                refine ht_if_eq (tgt := 199) (D 88 rfl) (by decide) (fun hb180 => ?_) (fun hb180 => absurd (by decide) hb180)
                refine ht_iconst (v := 0) (D 98 rfl) (by decide) ?_
                refine ht_iret (D 99 rfl) rfl rfl ?_
                exact ⟨.inr f, (ClR_self T n ice).2.2.2.1 d p b e _ (.inr f) hH.2.2.1.1 hW hd5 hR, QF_t (QF_tf hTF) hQF, Or.inl ⟨f, rfl, rfl, hf⟩⟩
              · have hlen := hR _ _ _ (ClR_l T n ice) q E rfl
                have hq3 := TK_le hH3.2.2.1.1
                have hng : c + (ngE E).2.1.length = c + E.2.1.length + 1 := by
                  show c + (E.2.1 ++ [2]).length = _
                  rw [List.length_append]
                  rfl
                refine ht_if_eq (tgt := 199) (D 88 rfl) (by decide) (fun hb180 => absurd hb180 (by decide)) (fun hb180 => ?_)
                refine ht_iload (D 89 rfl) rfl ?_
                refine ht_if_eq (tgt := 201) (D 90 rfl) (by decide) (fun hb185 => ?_) (fun hb185 => absurd (by decide) hb185)
                refine ht_iload_n (D 100 rfl) rfl rfl ?_
                refine ht_if_eq (tgt := 211) (D 101 rfl) (by decide) (fun hb202 => absurd hb202 (by decide)) (fun hb202 => ?_)
                refine ht_aload_n (D 102 rfl) rfl rfl ?_
                refine ht_iconst (v := 2) (D 103 rfl) (by decide) ?_
                refine ht_iconst (v := 0) (D 104 rfl) (by decide) ?_
                refine kVX5_addStep (As := [_, _]) cl_X5_249 (D 105 rfl) (sc_addStep hH3.1 hH3.2.2.2.1 (by omega) 2 0) hH3.1.rk rfl (Nat.le_of_ble_eq_true rfl) rfl (Nat.le_of_ble_eq_true rfl) (by omega) ?_
                rintro _ _ ⟨rfl, rfl⟩
                refine ht_iload (D 106 rfl) rfl ?_
                refine ht_if_eq (tgt := 234) (D 107 rfl) (by decide) (fun hb213 => ?_) (fun hb213 => absurd (by decide) hb213)
                refine ht_iload (D 117 rfl) rfl ?_
                refine ht_if_eq (tgt := 246) (D 118 rfl) (by decide) (fun hb236 => ?_) (fun hb236 => absurd (by decide) hb236)
                refine ht_iconst (v := 1) (D 122 rfl) (by decide) ?_
                refine ht_iret (D 123 rfl) rfl rfl ?_
                exact ⟨.inl (q, ngE E), (ClR_self T n ice).2.2.2.1 d p b e _ (.inl (q, E)) hH.2.2.1.1 hW hd5 hR, QF_t (QF_t (QF_tf hTF) hQF) (adS_f σ3 r _ _), Or.inr ⟨q, ngE E, b3, e3, k3, rfl, rfl, by rw [hng]; exact CH_ad hH3 (by omega) _, CDs_app (CDs_cg hCD (fun i hi => adS_k σ3 r _ _ (by omega))) (CDs_one (adS_s σ3 r _ _)), fun i hi => (adS_k σ3 r _ _ (by omega)).trans ((hlo i hi).trans (by rw [(hTF.2.2.2.2.1 (r + 15) (by omega)).1]))⟩⟩
            · skip
              have hd5 : d = 5 := by have h9 := mt (nI_ltI (a := d) (b := 5) (by omega) (by omega)).mpr hb114; omega
              refine ht_aload_n (D 56 rfl) rfl rfl ?_
              refine ht_iconst (v := 5) (D 57 rfl) (by decide) ?_
              refine kVX5_wrong (As := [_]) cl_X5_109 (D 58 rfl) (sc_wrong hH 5) hH.1.rk rfl (Nat.le_of_ble_eq_true rfl) rfl (Nat.le_of_ble_eq_true rfl) (by omega) ?_
              rintro _ _ ⟨rfl, rfl⟩
              refine ht_iret (D 59 rfl) rfl rfl ?_
              exact ⟨_, (ClR_self T n ice).2.1 d p b e _ hH.2.2.1.1 hps hd5, QF_I r σ (Or.inr rfl) _, Or.inl ⟨_, rfl, rfl, zI_s _ _ _ _⟩⟩
          · skip
            obtain ⟨f, hf7, hf1, hf2, hf3⟩ := (wi_F hi).mp (b01_ne hb78)
            exact absurd (by rw [hf3, hi14]) (fc_no hf1 hf2)
      · skip
        exact absurd ((ckd_i (j := 2) hk4 (by decide)).mp hb8) hk2
    · by_cases hF : ∃ f, 1 ≤ f ∧ f ≤ fcN ice ∧ fcW ice f = i
      · obtain ⟨f, hf1, hf2, hf3⟩ := hF
        have hps : PSt T b e k ice := Or.inl ⟨_, Or.inr ⟨f, hf1, hf2, by rw [hf3]; exact hiw, rfl⟩⟩
        refine ht_aload_n (D 0 rfl) rfl rfl ?_
        refine gf_X5_30 rfl (D 1 rfl) hH.1.rk hH.1.q1 ?_
        refine gf_X5_47 rfl (D 2 rfl) hH.1.tk ?_
        refine ht_iconst (v := 3) (D 3 rfl) (by decide) ?_
        rw [hH.2.2.1.2.2.2.1]
        refine ht_icmp_ne (tgt := 15) (D 4 rfl) (by decide) (fun hb8 => ?_) (fun hb8 => ?_)
        · skip
          refine ht_iconst (v := 0) (D 7 rfl) (by decide) ?_
          refine ht_istore_n (D 8 rfl) rfl (by decide) rfl ?_
          refine ht_aload_n (D 9 rfl) rfl rfl ?_
          refine gf_X5_30 rfl (D 10 rfl) hH.1.rk hH.1.q1 ?_
          refine gf_X5_63 rfl (D 11 rfl) hH.1.tk hw ?_
          refine ht_gets (hB.st (i := 14) (by decide)) lb_X5_259 (D 12 rfl) ?_
          refine ht_acmp_ne (rx := some (ad i)) (ry := some (ad 14)) (tgt := 34) (D 13 rfl) (by decide) (fun hb27 => ?_) (fun hb27 => ?_)
          · skip
            refine ht_iconst (v := 0) (D 16 rfl) (by decide) ?_
            refine ht_istore_n (D 17 rfl) rfl (by decide) rfl ?_
            refine ht_aload_n (D 18 rfl) rfl rfl ?_
            refine gf_X5_30 rfl (D 19 rfl) hH.1.rk hH.1.q1 ?_
            refine ht_bipush (v := 40) (D 20 rfl) (by decide) ?_
            refine kVX7_isSign (As := [_]) cl_X5_238 (D 21 rfl) (sc_isSgn hH.1.tk hH.2.2.1 40) hH.1.tk rfl (Nat.le_of_ble_eq_true rfl) rfl (Nat.le_of_ble_eq_true rfl) (by omega) ?_
            rintro _ σ ⟨rfl, rfl⟩
            rw [b01_f hO]
            refine ht_istore (D 22 rfl) (by decide) rfl ?_
            refine ht_aload_n (D 23 rfl) rfl rfl ?_
            refine gf_X5_30 rfl (D 24 rfl) hH.1.rk hH.1.q1 ?_
            refine gf_X5_63 rfl (D 25 rfl) hH.1.tk hw ?_
            refine ht_ifnull (D 26 rfl) ?_
            refine ht_aload_n (D 27 rfl) rfl rfl ?_
            refine gf_X5_30 rfl (D 28 rfl) hH.1.rk hH.1.q1 ?_
            refine gf_X5_63 rfl (D 29 rfl) hH.1.tk hw ?_
            refine ht_getB (hB.fc hi) lb_X5_262 (D 30 rfl) ?_
            refine ht_aload_n (D 31 rfl) rfl rfl ?_
            refine gf_X5_123 rfl (D 32 rfl) hH.1.rk ?_
            refine ht_aload_n (D 33 rfl) rfl rfl ?_
            refine gf_X5_126 rfl (D 34 rfl) hH.1.rk ?_
            rw [hH.2.2.2.2.2.1, hH.2.2.2.2.2.2.1]
            refine kNX9_isWithin (As := [_, _, _]) hE.X5_265 (D 35 rfl) (sc_isWithin _ _ _) rfl (Nat.le_of_ble_eq_true rfl) rfl (Nat.le_of_ble_eq_true rfl) (by omega) ?_
            rintro _ σ ⟨rfl, rfl⟩
            refine ht_if_eq (tgt := 85) (D 36 rfl) (by decide) (fun hb78 => ?_) (fun hb78 => ?_)
            · skip
              exact absurd ((wi_F hi).mpr ⟨f, by have := (fcW_lt hf2).1; omega, hf1, hf2, hf3⟩) (b01_eq hb78)
            · skip
              refine ht_iconst (v := 1) (D 37 rfl) (by decide) ?_
              refine ht_goto (tgt := 86) (D 38 rfl) (by decide) ?_
              refine ht_istore (D 40 rfl) (by decide) rfl ?_
              refine ht_iload_n (D 41 rfl) rfl rfl ?_
              refine ht_if_ne (tgt := 112) (D 42 rfl) (by decide) (fun hb89 => absurd (by decide) hb89) (fun hb89 => ?_)
              refine ht_iload_n (D 43 rfl) rfl rfl ?_
              refine ht_if_ne (tgt := 112) (D 44 rfl) (by decide) (fun hb93 => absurd (by decide) hb93) (fun hb93 => ?_)
              refine ht_iload (D 45 rfl) rfl ?_
              refine ht_if_ne (tgt := 112) (D 46 rfl) (by decide) (fun hb98 => ?_) (fun hb98 => absurd hb98 (by decide))
              refine ht_iload_n (D 53 rfl) rfl rfl ?_
              refine ht_iconst (v := 5) (D 54 rfl) (by decide) ?_
              refine ht_icmp_lt (tgt := 123) (D 55 rfl) (by decide) (fun hb114 => ?_) (fun hb114 => ?_)
              · skip
                have hd5 : d < 5 := (nI_ltI (a := d) (b := 5) (by omega) (by omega)).mp hb114
                refine ht_iload_n (D 60 rfl) rfl rfl ?_
                refine ht_if_eq (tgt := 142) (D 61 rfl) (by decide) (fun hb124 => ?_) (fun hb124 => absurd (by decide) hb124)
                refine ht_iload (D 69 rfl) rfl ?_
                refine ht_if_eq (tgt := 162) (D 70 rfl) (by decide) (fun hb144 => absurd hb144 (by decide)) (fun hb144 => ?_)
                refine ht_aload_n (D 71 rfl) rfl rfl ?_
                refine ht_iconst (v := 1) (D 72 rfl) (by decide) ?_
                refine ht_aload_n (D 73 rfl) rfl rfl ?_
                refine gf_X5_30 rfl (D 74 rfl) hH.1.rk hH.1.q1 ?_
                refine gf_X5_63 rfl (D 75 rfl) hH.1.tk hw ?_
                refine ht_getB (hB.fc hi) lb_X5_262 (D 76 rfl) ?_
                refine kVX5_addStep (As := [_, _]) cl_X5_249 (D 77 rfl) (sc_addStep hH.1 hH.2.2.2.1 hcn.1 1 (wFc.getD i 0)) hH.1.rk rfl (Nat.le_of_ble_eq_true rfl) rfl (Nat.le_of_ble_eq_true rfl) (by omega) ?_
                rintro _ _ ⟨rfl, rfl⟩
                refine ht_aload_n (D 78 rfl) rfl rfl ?_
                refine gf_X5_30 rfl (D 79 rfl) hH.1.rk hH.1.q1 ?_
                refine kVX7_next (As := []) cl_X5_42 (D 80 rfl) (sc_nxt hE hB hH (adS_f σ r c (wFc.getD i 0 * 16 + 1)) ((adS_t σ r c _).trans hH.2.2.1.2.2.1)) hH.1.tk rfl (Nat.le_of_ble_eq_true rfl) rfl (Nat.le_of_ble_eq_true rfl) (by omega) ?_
                rintro _ σ2 ⟨rfl, b2, e2, k2, hTF, hCT⟩
                refine ht_iload_n (D 81 rfl) rfl rfl ?_
                refine ht_if_eq (tgt := 183) (D 82 rfl) (by decide) (fun hb170 => ?_) (fun hb170 => absurd (by decide) hb170)
                refine ht_iload (D 89 rfl) rfl ?_
                refine ht_if_eq (tgt := 201) (D 90 rfl) (by decide) (fun hb185 => ?_) (fun hb185 => absurd (by decide) hb185)
                refine ht_iload_n (D 100 rfl) rfl rfl ?_
                refine ht_if_eq (tgt := 211) (D 101 rfl) (by decide) (fun hb202 => ?_) (fun hb202 => absurd (by decide) hb202)
                refine ht_iload (D 106 rfl) rfl ?_
                refine ht_if_eq (tgt := 234) (D 107 rfl) (by decide) (fun hb213 => ?_) (fun hb213 => absurd (by decide) hb213)
                refine ht_iload (D 117 rfl) rfl ?_
                refine ht_if_eq (tgt := 246) (D 118 rfl) (by decide) (fun hb236 => ?_) (fun hb236 => absurd (by decide) hb236)
                refine ht_iconst (v := 1) (D 122 rfl) (by decide) ?_
                refine ht_iret (D 123 rfl) rfl rfl ?_
                subst hf3
                exact ⟨.inl (e, ([nI f], [wFc.getD (fcW ice f) 0 * 16 + 1], fun w => w f)), (ClR_self T n ice).2.2.1 d p b e _ _ hH.2.2.1.1 (Or.inr ⟨f, hf1, hf2, hiw, rfl⟩) hd5, QF_t (adS_f σ r c _) (QF_tf hTF), Or.inr ⟨e, _, b2, e2, k2, rfl, rfl, CH_nx hH (adS_f σ r c _) (adS_c σ r c _) hcn.2.1 hTF hCT, CDs_one (by rw [(hTF.2.2.2.2.1 (r + 15) (by omega)).1]; exact adS_s σ r c _), fun i hi => by rw [(hTF.2.2.2.2.1 (r + 15) (by omega)).1]; exact adS_k σ r c _ (by omega)⟩⟩
              · skip
                have hd5 : d = 5 := by have h9 := mt (nI_ltI (a := d) (b := 5) (by omega) (by omega)).mpr hb114; omega
                refine ht_aload_n (D 56 rfl) rfl rfl ?_
                refine ht_iconst (v := 5) (D 57 rfl) (by decide) ?_
                refine kVX5_wrong (As := [_]) cl_X5_109 (D 58 rfl) (sc_wrong hH 5) hH.1.rk rfl (Nat.le_of_ble_eq_true rfl) rfl (Nat.le_of_ble_eq_true rfl) (by omega) ?_
                rintro _ _ ⟨rfl, rfl⟩
                refine ht_iret (D 59 rfl) rfl rfl ?_
                exact ⟨_, (ClR_self T n ice).2.1 d p b e _ hH.2.2.1.1 hps hd5, QF_I r σ (Or.inr rfl) _, Or.inl ⟨_, rfl, rfl, zI_s _ _ _ _⟩⟩
          · skip
            exact absurd (hJ i 14 hi (by decide) (Option.some.inj hb27)) hi14
        · skip
          exact absurd ((ckd_i (j := 2) hk4 (by decide)).mp hb8) hk2
      · have hnF := hF
        have hns : ¬ PSt T b e k ice := by
          rintro (⟨x, q | ⟨f, q1, q2, q3, _⟩⟩ | q | q)
          · exact hk2 q.1
          · exact hF ⟨f, q1, q2, wB_inj (fcW_lt q2).2 hi (q3.2.symm.trans hiw.2)⟩
          · exact hi14 (wB_inj hi (by decide) (hiw.2.symm.trans q.2))
          · have := q.1; omega
        refine ht_aload_n (D 0 rfl) rfl rfl ?_
        refine gf_X5_30 rfl (D 1 rfl) hH.1.rk hH.1.q1 ?_
        refine gf_X5_47 rfl (D 2 rfl) hH.1.tk ?_
        refine ht_iconst (v := 3) (D 3 rfl) (by decide) ?_
        rw [hH.2.2.1.2.2.2.1]
        refine ht_icmp_ne (tgt := 15) (D 4 rfl) (by decide) (fun hb8 => ?_) (fun hb8 => ?_)
        · skip
          refine ht_iconst (v := 0) (D 7 rfl) (by decide) ?_
          refine ht_istore_n (D 8 rfl) rfl (by decide) rfl ?_
          refine ht_aload_n (D 9 rfl) rfl rfl ?_
          refine gf_X5_30 rfl (D 10 rfl) hH.1.rk hH.1.q1 ?_
          refine gf_X5_63 rfl (D 11 rfl) hH.1.tk hw ?_
          refine ht_gets (hB.st (i := 14) (by decide)) lb_X5_259 (D 12 rfl) ?_
          refine ht_acmp_ne (rx := some (ad i)) (ry := some (ad 14)) (tgt := 34) (D 13 rfl) (by decide) (fun hb27 => ?_) (fun hb27 => ?_)
          · skip
            refine ht_iconst (v := 0) (D 16 rfl) (by decide) ?_
            refine ht_istore_n (D 17 rfl) rfl (by decide) rfl ?_
            refine ht_aload_n (D 18 rfl) rfl rfl ?_
            refine gf_X5_30 rfl (D 19 rfl) hH.1.rk hH.1.q1 ?_
            refine ht_bipush (v := 40) (D 20 rfl) (by decide) ?_
            refine kVX7_isSign (As := [_]) cl_X5_238 (D 21 rfl) (sc_isSgn hH.1.tk hH.2.2.1 40) hH.1.tk rfl (Nat.le_of_ble_eq_true rfl) rfl (Nat.le_of_ble_eq_true rfl) (by omega) ?_
            rintro _ σ ⟨rfl, rfl⟩
            rw [b01_f hO]
            refine ht_istore (D 22 rfl) (by decide) rfl ?_
            refine ht_aload_n (D 23 rfl) rfl rfl ?_
            refine gf_X5_30 rfl (D 24 rfl) hH.1.rk hH.1.q1 ?_
            refine gf_X5_63 rfl (D 25 rfl) hH.1.tk hw ?_
            refine ht_ifnull (D 26 rfl) ?_
            refine ht_aload_n (D 27 rfl) rfl rfl ?_
            refine gf_X5_30 rfl (D 28 rfl) hH.1.rk hH.1.q1 ?_
            refine gf_X5_63 rfl (D 29 rfl) hH.1.tk hw ?_
            refine ht_getB (hB.fc hi) lb_X5_262 (D 30 rfl) ?_
            refine ht_aload_n (D 31 rfl) rfl rfl ?_
            refine gf_X5_123 rfl (D 32 rfl) hH.1.rk ?_
            refine ht_aload_n (D 33 rfl) rfl rfl ?_
            refine gf_X5_126 rfl (D 34 rfl) hH.1.rk ?_
            rw [hH.2.2.2.2.2.1, hH.2.2.2.2.2.2.1]
            refine kNX9_isWithin (As := [_, _, _]) hE.X5_265 (D 35 rfl) (sc_isWithin _ _ _) rfl (Nat.le_of_ble_eq_true rfl) rfl (Nat.le_of_ble_eq_true rfl) (by omega) ?_
            rintro _ σ ⟨rfl, rfl⟩
            refine ht_if_eq (tgt := 85) (D 36 rfl) (by decide) (fun hb78 => ?_) (fun hb78 => ?_)
            · skip
              refine ht_iconst (v := 0) (D 39 rfl) (by decide) ?_
              refine ht_istore (D 40 rfl) (by decide) rfl ?_
              refine ht_iload_n (D 41 rfl) rfl rfl ?_
              refine ht_if_ne (tgt := 112) (D 42 rfl) (by decide) (fun hb89 => absurd (by decide) hb89) (fun hb89 => ?_)
              refine ht_iload_n (D 43 rfl) rfl rfl ?_
              refine ht_if_ne (tgt := 112) (D 44 rfl) (by decide) (fun hb93 => absurd (by decide) hb93) (fun hb93 => ?_)
              refine ht_iload (D 45 rfl) rfl ?_
              refine ht_if_ne (tgt := 112) (D 46 rfl) (by decide) (fun hb98 => absurd (by decide) hb98) (fun hb98 => ?_)
              refine ht_iload (D 47 rfl) rfl ?_
              refine ht_if_ne (tgt := 112) (D 48 rfl) (by decide) (fun hb103 => absurd (by decide) hb103) (fun hb103 => ?_)
              refine ht_aload_n (D 49 rfl) rfl rfl ?_
              refine ht_iconst (v := 1) (D 50 rfl) (by decide) ?_
              refine kVX5_wrong (As := [_]) cl_X5_109 (D 51 rfl) (sc_wrong hH 1) hH.1.rk rfl (Nat.le_of_ble_eq_true rfl) rfl (Nat.le_of_ble_eq_true rfl) (by omega) ?_
              rintro _ _ ⟨rfl, rfl⟩
              refine ht_iret (D 52 rfl) rfl rfl ?_
              exact ⟨_, (ClR_self T n ice).1 d p b e _ hH.2.2.1.1 hns, QF_I r σ (Or.inr rfl) _, Or.inl ⟨_, rfl, rfl, zI_s _ _ _ _⟩⟩
            · skip
              obtain ⟨f, hf7, hf1, hf2, hf3⟩ := (wi_F hi).mp (b01_ne hb78)
              exact absurd ⟨f, hf1, hf2, hf3⟩ hnF
          · skip
            exact absurd (hJ i 14 hi (by decide) (Option.some.inj hb27)) hi14
        · skip
          exact absurd ((ckd_i (j := 2) hk4 (by decide)).mp hb8) hk2
end Q2
