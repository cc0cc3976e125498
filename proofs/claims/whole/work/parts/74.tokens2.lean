/-! ===== the class: numbers, the next token ===== -/
section P2
variable {G : GG} {σ σ1 : Hp} {ad : Nat → Nat} {aA aS aV t sA n : Nat} {T : ST}
set_option maxRecDepth 100000 in
set_option maxHeartbeats 1000000 in
theorem sc_takeNumber (hT : TS σ t sA n) (hA : zI σ sA = T) {b : Nat} (hb2 : zI σ t 2 = nI b) (hb4 : zI σ t 4 = nI b) (hq8 : zQ σ t 8 = none) (hbn : b ≤ n) : Sp G mX7_takeNumber 1 [.ref t] σ (fun rv σ' => rv = none ∧ ∃ e k, TF t σ σ' ∧ Rn T n 48 57 b e ∧ ((e - b ≤ 4 ∧ k = 2) ∨ (4 < e - b ∧ k = 4)) ∧ zI σ' t 4 = nI b ∧ zI σ' t 2 = nI e ∧ zI σ' t 3 = ckd k ∧ zI σ' t 5 = dgB T b (e - b) ∧ zQ σ' t 8 = none) := by
  have D := dat dl_X7_takeNumber
  have hn2 : n ≤ 1000 := hT.2.2.2.2.2.1
  have loop : ∀ (r e : Nat) (σ1 : Hp), TF t σ σ1 → zI σ1 t 2 = nI e → zI σ1 t 4 = nI b → zI σ1 t 5 = dgB T b (e - b) → zQ σ1 t 8 = none → b ≤ e → e ≤ n → (∀ i, b ≤ i → i < e → Rg 48 57 (T i)) → n - e = r → HT G mX7_takeNumber 5 [some (.ref t)] [] σ1 1 (fun rv σ' => rv = none ∧ ∃ e k, TF t σ σ' ∧ Rn T n 48 57 b e ∧ ((e - b ≤ 4 ∧ k = 2) ∨ (4 < e - b ∧ k = 4)) ∧ zI σ' t 4 = nI b ∧ zI σ' t 2 = nI e ∧ zI σ' t 3 = ckd k ∧ zI σ' t 5 = dgB T b (e - b) ∧ zQ σ' t 8 = none) := by
    intro r
    induction r using Nat.strongRecOn with
    | _ r ih =>
      intro e σ1 hF h2 h4 h5 h8 hbe hen hall hr
      have hT1 : TS σ1 t sA n := hT.tf hF
      have hA1 : zI σ1 sA e = T e := by rw [hT.ta hF, hA]
      refine ht_aload_n (D 3 rfl) rfl rfl ?_
      refine gf_X7_43 rfl (D 4 rfl) hT1.k ?_
      refine ht_aload_n (D 5 rfl) rfl rfl ?_
      refine gf_X7_26 rfl (D 6 rfl) hT1.k ?_
      rw [h2, hT1.l]
      refine ht_icmp_ge (tgt := 81) (D 7 rfl) (by decide) (fun hb13 => ?_) (fun hb13 => ?_)
      · skip
        have hnn : n = e := by have h9 := (nI_leI (a := n) (b := e) (by omega) (by omega)).mp hb13; omega
        have hfin : e < n → ¬ Rg 48 57 (T e) := fun q => absurd q (by omega)
        refine ht_aload_n (D 43 rfl) rfl rfl ?_
        refine ht_aload_n (D 44 rfl) rfl rfl ?_
        refine gf_X7_43 rfl (D 45 rfl) hT1.k ?_
        refine ht_aload_n (D 46 rfl) rfl rfl ?_
        refine gf_X7_46 rfl (D 47 rfl) hT1.k ?_
        rw [h2, h4]
        refine ht_isub (D 48 rfl) ?_
        rw [nI_subb hbe]
        refine ht_iconst (v := 4) (D 49 rfl) (by decide) ?_
        refine ht_icmp_gt (tgt := 99) (D 50 rfl) (by decide) (fun hb92 => ?_) (fun hb92 => ?_)
        · skip
          have hgt : 4 < e - b := (nI_ltI (a := 4) (b := e - b) (by omega) (by omega)).mp hb92
          refine ht_iconst (v := 1) (D 53 rfl) (by decide) ?_
          refine pf_X7_27 rfl (D 54 rfl) hT1.k ?_
          refine ht_vret (D 55 rfl) rfl ?_
          first | exact ⟨rfl, e, 4, TF_I hF (by decide) _, ⟨hbe, hen, hall, hfin⟩, Or.inr ⟨hgt, rfl⟩, (zI_k _ _ (by decide)).trans h4, (zI_k _ _ (by decide)).trans h2, zI_s _ _ _ _, (zI_k _ _ (by decide)).trans h5, h8⟩ | exact ⟨rfl, e, 2, TF_I hF (by decide) _, ⟨hbe, hen, hall, hfin⟩, Or.inl ⟨hle, rfl⟩, (zI_k _ _ (by decide)).trans h4, (zI_k _ _ (by decide)).trans h2, zI_s _ _ _ _, (zI_k _ _ (by decide)).trans h5, h8⟩
        · skip
          have hle : e - b ≤ 4 := by have h9 := mt (nI_ltI (a := 4) (b := e - b) (by omega) (by omega)).mpr hb92; omega
          refine ht_iconst (v := 3) (D 51 rfl) (by decide) ?_
          refine ht_goto (tgt := 100) (D 52 rfl) (by decide) ?_
          refine pf_X7_27 rfl (D 54 rfl) hT1.k ?_
          refine ht_vret (D 55 rfl) rfl ?_
          first | exact ⟨rfl, e, 4, TF_I hF (by decide) _, ⟨hbe, hen, hall, hfin⟩, Or.inr ⟨hgt, rfl⟩, (zI_k _ _ (by decide)).trans h4, (zI_k _ _ (by decide)).trans h2, zI_s _ _ _ _, (zI_k _ _ (by decide)).trans h5, h8⟩ | exact ⟨rfl, e, 2, TF_I hF (by decide) _, ⟨hbe, hen, hall, hfin⟩, Or.inl ⟨hle, rfl⟩, (zI_k _ _ (by decide)).trans h4, (zI_k _ _ (by decide)).trans h2, zI_s _ _ _ _, (zI_k _ _ (by decide)).trans h5, h8⟩
      · skip
        have hte : e < n := by have h9 := mt (nI_leI (a := n) (b := e) (by omega) (by omega)).mpr hb13; omega
        refine ht_aload_n (D 8 rfl) rfl rfl ?_
        refine gf_X7_13 rfl (D 9 rfl) hT1.k hT1.q ?_
        refine ht_aload_n (D 10 rfl) rfl rfl ?_
        refine gf_X7_43 rfl (D 11 rfl) hT1.k ?_
        rw [h2]
        refine ht_bld (n := e) (D 12 rfl) hT1.sk hT1.sn (by first | rfl | exact nI_add _ _ | assumption) (by omega) (by first | decide | omega) ?_
        rw [hA1]
        refine ht_bipush (v := 48) (D 13 rfl) (by decide) ?_
        refine ht_icmp_lt (tgt := 81) (D 14 rfl) (by decide) (fun hb27 => ?_) (fun hb27 => ?_)
        · skip
          have hfin : e < n → ¬ Rg 48 57 (T e) := fun _ q => Int32.not_le.mpr hb27 q.1
          refine ht_aload_n (D 43 rfl) rfl rfl ?_
          refine ht_aload_n (D 44 rfl) rfl rfl ?_
          refine gf_X7_43 rfl (D 45 rfl) hT1.k ?_
          refine ht_aload_n (D 46 rfl) rfl rfl ?_
          refine gf_X7_46 rfl (D 47 rfl) hT1.k ?_
          rw [h2, h4]
          refine ht_isub (D 48 rfl) ?_
          rw [nI_subb hbe]
          refine ht_iconst (v := 4) (D 49 rfl) (by decide) ?_
          refine ht_icmp_gt (tgt := 99) (D 50 rfl) (by decide) (fun hb92 => ?_) (fun hb92 => ?_)
          · skip
            have hgt : 4 < e - b := (nI_ltI (a := 4) (b := e - b) (by omega) (by omega)).mp hb92
            refine ht_iconst (v := 1) (D 53 rfl) (by decide) ?_
            refine pf_X7_27 rfl (D 54 rfl) hT1.k ?_
            refine ht_vret (D 55 rfl) rfl ?_
            first | exact ⟨rfl, e, 4, TF_I hF (by decide) _, ⟨hbe, hen, hall, hfin⟩, Or.inr ⟨hgt, rfl⟩, (zI_k _ _ (by decide)).trans h4, (zI_k _ _ (by decide)).trans h2, zI_s _ _ _ _, (zI_k _ _ (by decide)).trans h5, h8⟩ | exact ⟨rfl, e, 2, TF_I hF (by decide) _, ⟨hbe, hen, hall, hfin⟩, Or.inl ⟨hle, rfl⟩, (zI_k _ _ (by decide)).trans h4, (zI_k _ _ (by decide)).trans h2, zI_s _ _ _ _, (zI_k _ _ (by decide)).trans h5, h8⟩
          · skip
            have hle : e - b ≤ 4 := by have h9 := mt (nI_ltI (a := 4) (b := e - b) (by omega) (by omega)).mpr hb92; omega
            refine ht_iconst (v := 3) (D 51 rfl) (by decide) ?_
            refine ht_goto (tgt := 100) (D 52 rfl) (by decide) ?_
            refine pf_X7_27 rfl (D 54 rfl) hT1.k ?_
            refine ht_vret (D 55 rfl) rfl ?_
            first | exact ⟨rfl, e, 4, TF_I hF (by decide) _, ⟨hbe, hen, hall, hfin⟩, Or.inr ⟨hgt, rfl⟩, (zI_k _ _ (by decide)).trans h4, (zI_k _ _ (by decide)).trans h2, zI_s _ _ _ _, (zI_k _ _ (by decide)).trans h5, h8⟩ | exact ⟨rfl, e, 2, TF_I hF (by decide) _, ⟨hbe, hen, hall, hfin⟩, Or.inl ⟨hle, rfl⟩, (zI_k _ _ (by decide)).trans h4, (zI_k _ _ (by decide)).trans h2, zI_s _ _ _ _, (zI_k _ _ (by decide)).trans h5, h8⟩
        · skip
          have hlo : 48 ≤ T e := Int32.not_lt.mp hb27
          refine ht_aload_n (D 15 rfl) rfl rfl ?_
          refine gf_X7_13 rfl (D 16 rfl) hT1.k hT1.q ?_
          refine ht_aload_n (D 17 rfl) rfl rfl ?_
          refine gf_X7_43 rfl (D 18 rfl) hT1.k ?_
          rw [h2]
          refine ht_bld (n := e) (D 19 rfl) hT1.sk hT1.sn (by first | rfl | exact nI_add _ _ | assumption) (by omega) (by first | decide | omega) ?_
          rw [hA1]
          refine ht_bipush (v := 57) (D 20 rfl) (by decide) ?_
          refine ht_icmp_gt (tgt := 81) (D 21 rfl) (by decide) (fun hb41 => ?_) (fun hb41 => ?_)
          · skip
            have hfin : e < n → ¬ Rg 48 57 (T e) := fun _ q => Int32.not_le.mpr hb41 q.2
            refine ht_aload_n (D 43 rfl) rfl rfl ?_
            refine ht_aload_n (D 44 rfl) rfl rfl ?_
            refine gf_X7_43 rfl (D 45 rfl) hT1.k ?_
            refine ht_aload_n (D 46 rfl) rfl rfl ?_
            refine gf_X7_46 rfl (D 47 rfl) hT1.k ?_
            rw [h2, h4]
            refine ht_isub (D 48 rfl) ?_
            rw [nI_subb hbe]
            refine ht_iconst (v := 4) (D 49 rfl) (by decide) ?_
            refine ht_icmp_gt (tgt := 99) (D 50 rfl) (by decide) (fun hb92 => ?_) (fun hb92 => ?_)
            · skip
              have hgt : 4 < e - b := (nI_ltI (a := 4) (b := e - b) (by omega) (by omega)).mp hb92
              refine ht_iconst (v := 1) (D 53 rfl) (by decide) ?_
              refine pf_X7_27 rfl (D 54 rfl) hT1.k ?_
              refine ht_vret (D 55 rfl) rfl ?_
              first | exact ⟨rfl, e, 4, TF_I hF (by decide) _, ⟨hbe, hen, hall, hfin⟩, Or.inr ⟨hgt, rfl⟩, (zI_k _ _ (by decide)).trans h4, (zI_k _ _ (by decide)).trans h2, zI_s _ _ _ _, (zI_k _ _ (by decide)).trans h5, h8⟩ | exact ⟨rfl, e, 2, TF_I hF (by decide) _, ⟨hbe, hen, hall, hfin⟩, Or.inl ⟨hle, rfl⟩, (zI_k _ _ (by decide)).trans h4, (zI_k _ _ (by decide)).trans h2, zI_s _ _ _ _, (zI_k _ _ (by decide)).trans h5, h8⟩
            · skip
              have hle : e - b ≤ 4 := by have h9 := mt (nI_ltI (a := 4) (b := e - b) (by omega) (by omega)).mpr hb92; omega
              refine ht_iconst (v := 3) (D 51 rfl) (by decide) ?_
              refine ht_goto (tgt := 100) (D 52 rfl) (by decide) ?_
              refine pf_X7_27 rfl (D 54 rfl) hT1.k ?_
              refine ht_vret (D 55 rfl) rfl ?_
              first | exact ⟨rfl, e, 4, TF_I hF (by decide) _, ⟨hbe, hen, hall, hfin⟩, Or.inr ⟨hgt, rfl⟩, (zI_k _ _ (by decide)).trans h4, (zI_k _ _ (by decide)).trans h2, zI_s _ _ _ _, (zI_k _ _ (by decide)).trans h5, h8⟩ | exact ⟨rfl, e, 2, TF_I hF (by decide) _, ⟨hbe, hen, hall, hfin⟩, Or.inl ⟨hle, rfl⟩, (zI_k _ _ (by decide)).trans h4, (zI_k _ _ (by decide)).trans h2, zI_s _ _ _ _, (zI_k _ _ (by decide)).trans h5, h8⟩
          · skip
            have hin : Rg 48 57 (T e) := ⟨hlo, Int32.not_lt.mp hb41⟩
            have hall2 : ∀ i, b ≤ i → i < e + 1 → Rg 48 57 (T i) := fun i q1 q2 => by
              by_cases q3 : i = e
              · rw [q3]; exact hin
              · exact hall i q1 (by omega)
            have hacc : dgB T b (e + 1 - b) = dgB T b (e - b) * 10 + (T e - 48) := by
              rw [show e + 1 - b = (e - b) + 1 by omega]
              show _ + _ = _
              rw [show b + (e - b) = e by omega]
            refine ht_aload_n (D 22 rfl) rfl rfl ?_
            refine ht_aload_n (D 23 rfl) rfl rfl ?_
            refine gf_X7_79 rfl (D 24 rfl) hT1.k ?_
            rw [h5]
            refine ht_bipush (v := 10) (D 25 rfl) (by decide) ?_
            refine ht_imul (D 26 rfl) ?_
            refine ht_aload_n (D 27 rfl) rfl rfl ?_
            refine gf_X7_13 rfl (D 28 rfl) hT1.k hT1.q ?_
            refine ht_aload_n (D 29 rfl) rfl rfl ?_
            refine gf_X7_43 rfl (D 30 rfl) hT1.k ?_
            rw [h2]
            refine ht_bld (n := e) (D 31 rfl) hT1.sk hT1.sn (by first | rfl | exact nI_add _ _ | assumption) (by omega) (by first | decide | omega) ?_
            rw [hA1]
            refine ht_bipush (v := 48) (D 32 rfl) (by decide) ?_
            refine ht_isub (D 33 rfl) ?_
            refine ht_iadd (D 34 rfl) ?_
            refine pf_X7_79 rfl (D 35 rfl) hT1.k ?_
            refine ht_aload_n (D 36 rfl) rfl rfl ?_
            refine ht_dup (D 37 rfl) rfl ?_
            refine gf_X7_43 rfl (D 38 rfl) hT1.k ?_
            rw [show zI (wI σ1 t 5 _) t 2 = nI e from (zI_k σ1 _ (by decide)).trans h2]
            refine ht_iconst (v := 1) (D 39 rfl) (by decide) ?_
            refine ht_iadd (D 40 rfl) ?_
            refine pf_X7_43 rfl (D 41 rfl) hT1.k ?_
            refine ht_goto (tgt := 5) (D 42 rfl) (by decide) ?_
            exact ih (n - (e + 1)) (by omega) (e + 1) _ (TF_I (TF_I hF (by decide) _) (by decide) _) (by rw [zI_s]; exact nI_1 e) (by rw [zI_k _ _ (by decide), zI_k _ _ (by decide)]; exact h4) (by rw [zI_k _ _ (by decide), zI_s]; exact hacc.symm) h8 (by omega) (by omega) hall2 rfl
  show HT G mX7_takeNumber 0 [some (.ref t)] [] σ 1 _
  refine ht_aload_n (D 0 rfl) rfl rfl ?_
  refine ht_iconst (v := 0) (D 1 rfl) (by decide) ?_
  refine pf_X7_79 rfl (D 2 rfl) hT.k ?_
  exact ht_cast (loop (n - b) b _ (TF_I (TF_r t σ) (by decide) _) ((zI_k _ _ (by decide)).trans hb2) ((zI_k _ _ (by decide)).trans hb4) (by rw [zI_s, Nat.sub_self]; rfl) hq8 (Nat.le_refl _) hbn (fun i q1 q2 => absurd q2 (by omega)) rfl) rfl rfl rfl
theorem isSg_M {c : Int32} : isSg c ↔ sgM c := by
  constructor
  · rintro ⟨j, hj, rfl⟩
    have : j = 0 ∨ j = 1 ∨ j = 2 ∨ j = 3 ∨ j = 4 ∨ j = 5 ∨ j = 6 ∨ j = 7 := by omega
    unfold sgM Rg
    rcases this with rfl | rfl | rfl | rfl | rfl | rfl | rfl | rfl <;> decide
  · intro h
    have e1 : ∀ k : Int32, c.toInt = k.toInt → c = k := fun k q => Int32.toInt_inj.mp q
    have hc : c = 40 ∨ c = 41 ∨ c = 42 ∨ c = 43 ∨ c = 45 ∨ c = 59 ∨ c = 60 ∨ c = 61 := by
      unfold sgM Rg at h
      simp only [i_le, i_eq] at h ⊢
      simp only [show (40 : Int32).toInt = 40 from rfl, show (41 : Int32).toInt = 41 from rfl, show (42 : Int32).toInt = 42 from rfl, show (43 : Int32).toInt = 43 from rfl, show (45 : Int32).toInt = 45 from rfl, show (59 : Int32).toInt = 59 from rfl, show (60 : Int32).toInt = 60 from rfl, show (61 : Int32).toInt = 61 from rfl] at h ⊢
      omega
    rcases hc with rfl | rfl | rfl | rfl | rfl | rfl | rfl | rfl
    · exact ⟨0, by decide, rfl⟩
    · exact ⟨1, by decide, rfl⟩
    · exact ⟨6, by decide, rfl⟩
    · exact ⟨4, by decide, rfl⟩
    · exact ⟨5, by decide, rfl⟩
    · exact ⟨7, by decide, rfl⟩
    · exact ⟨2, by decide, rfl⟩
    · exact ⟨3, by decide, rfl⟩
/-- what may stand on the tape -/
def okS (x : Int32) : Prop := x = 10 ∨ (32 ≤ x ∧ x ≤ 126)
theorem okS_c {x : Int32} (h : okS x) : (x.toUInt32 % 65536).toInt32 = x ∧ x.toInt8.toInt32 = x ∧ 0 ≤ x ∧ x ≤ 255 := by
  have key : ∀ k : Nat, k < 127 → (nI k).toUInt32 % 65536 = (nI k).toUInt32 ∧ (nI k).toInt8.toInt32 = nI k ∧ 0 ≤ nI k ∧ nI k ≤ 255 := by decide
  obtain ⟨k, hk, rfl⟩ : ∃ k : Nat, k < 127 ∧ x = nI k := by
    rcases h with rfl | h
    · exact ⟨10, by decide, rfl⟩
    · obtain ⟨k, h1, _, h2⟩ := rngW (lo := 32) 126 (by decide) h (by decide)
      exact ⟨k, by omega, h2⟩
  obtain ⟨h1, h2, h3, h4⟩ := key k hk
  exact ⟨by rw [h1]; rfl, h2, h3, h4⟩
set_option maxRecDepth 100000 in
set_option maxHeartbeats 1000000 in
theorem sc_nextC (hE : NE G) (hB : BK G ad aA aS aV) (hT : TS σ t sA n) (hA : zI σ sA = T) {p b : Nat} (hok : okS (T b)) (hSk : Sk T n p b) (hbn : b < n) (hF : TF t σ σ1) (h2 : zI σ1 t 2 = nI b) (h4 : zI σ1 t 4 = nI b) (h8 : zQ σ1 t 8 = none) : HT G mX7_next 84 [some (.ref t)] [] σ1 4 (fun rv σ' => rv = none ∧ ∃ b e k, TF t σ σ' ∧ CT ad T n p b e k t σ') := by
  have D := dat dl_X7_next
  have hn2 : n ≤ 1000 := hT.2.2.2.2.2.1
  have hT1 : TS σ1 t sA n := hT.tf hF
  have hA2 : zI σ1 sA = T := by rw [hT.ta hF, hA]
  have hA1 : zI σ1 sA b = T b := by rw [hA2]
  refine ht_aload_n (D 42 rfl) rfl rfl ?_
  refine gf_X7_13 rfl (D 43 rfl) hT1.k hT1.q ?_
  refine ht_aload_n (D 44 rfl) rfl rfl ?_
  refine gf_X7_43 rfl (D 45 rfl) hT1.k ?_
  rw [h2]
  refine ht_bld (n := b) (D 46 rfl) hT1.sk hT1.sn (by first | rfl | exact nI_add _ _ | assumption) (by omega) (by first | decide | omega) ?_
  rw [hA1]
  refine ht_bipush (v := 97) (D 47 rfl) (by decide) ?_
  refine ht_bipush (v := 122) (D 48 rfl) (by decide) ?_
  refine kNX9_isWithin (As := [_, _, _]) hE.X7_49 (D 49 rfl) (sc_isWithin (T b) 97 122) rfl (Nat.le_of_ble_eq_true rfl) rfl (Nat.le_of_ble_eq_true rfl) (by omega) ?_
  rintro _ σ1 ⟨rfl, rfl⟩
  refine ht_if_eq (tgt := 133) (D 50 rfl) (by decide) (fun hb100 => ?_) (fun hb100 => ?_)
  · skip
    have hnl : ¬ Rg 97 122 (T b) := (show ¬ (97 ≤ T b ∧ T b ≤ 122) from b01_eq hb100)
    refine ht_aload_n (D 65 rfl) rfl rfl ?_
    refine gf_X7_13 rfl (D 66 rfl) hT1.k hT1.q ?_
    refine ht_aload_n (D 67 rfl) rfl rfl ?_
    refine gf_X7_43 rfl (D 68 rfl) hT1.k ?_
    rw [h2]
    refine ht_bld (n := b) (D 69 rfl) hT1.sk hT1.sn (by first | rfl | exact nI_add _ _ | assumption) (by omega) (by first | decide | omega) ?_
    rw [hA1]
    refine ht_bipush (v := 48) (D 70 rfl) (by decide) ?_
    refine ht_bipush (v := 57) (D 71 rfl) (by decide) ?_
    refine kNX9_isWithin (As := [_, _, _]) hE.X7_49 (D 72 rfl) (sc_isWithin (T b) 48 57) rfl (Nat.le_of_ble_eq_true rfl) rfl (Nat.le_of_ble_eq_true rfl) (by omega) ?_
    rintro _ σ1 ⟨rfl, rfl⟩
    refine ht_if_eq (tgt := 159) (D 73 rfl) (by decide) (fun hb149 => ?_) (fun hb149 => ?_)
    · skip
      have hnd : ¬ Rg 48 57 (T b) := (show ¬ (48 ≤ T b ∧ T b ≤ 57) from b01_eq hb149)
      refine ht_aload_n (D 77 rfl) rfl rfl ?_
      refine ht_aload_n (D 78 rfl) rfl rfl ?_
      refine gf_X7_13 rfl (D 79 rfl) hT1.k hT1.q ?_
      refine ht_aload_n (D 80 rfl) rfl rfl ?_
      refine gf_X7_43 rfl (D 81 rfl) hT1.k ?_
      rw [h2]
      refine ht_bld (n := b) (D 82 rfl) hT1.sk hT1.sn (by first | rfl | exact nI_add _ _ | assumption) (by omega) (by first | decide | omega) ?_
      rw [hA1]
      refine pf_X7_30 rfl (D 83 rfl) hT1.k ?_
      refine ht_aload_n (D 84 rfl) rfl rfl ?_
      refine ht_ldcS hB.sr (D 85 rfl) ?_
      refine ht_aload_n (D 86 rfl) rfl rfl ?_
      refine gf_X7_30 rfl (D 87 rfl) hT1.k ?_
      rw [zI_s]
      refine ht_i2c (D 88 rfl) ?_
      rw [(okS_c hok).1]
      refine ht_callB (As := [_]) (n := 1) mvJ0_indexOf_0f7a4 cl_X7_71 ivJ0_indexOf_0f7a4 seJ0_indexOf_0f7a4 npJ0_indexOf_0f7a4 rfl hB.so (D 89 rfl) (Nat.le_of_ble_eq_true rfl) rfl (Nat.le_of_ble_eq_true rfl) (by omega) (sb_indexOf hB (okS_c hok).2.2.1 (okS_c hok).2.2.2 (okS_c hok).2.1) ?_
      rintro _ σ1 ⟨⟨y, rfl, hy1, hy2⟩, rfl⟩
      refine ht_if_lt (tgt := 190) (D 90 rfl) (by decide) (fun hb183 => ?_) (fun hb183 => ?_)
      · skip
        have hsn : ¬ sgM (T b) := fun q => Int32.not_le.mpr hb183 (hy2 (isSg_M.mpr q))
        refine ht_iconst (v := 1) (D 93 rfl) (by decide) ?_
        refine pf_X7_27 rfl (D 94 rfl) hT1.k ?_
        refine ht_aload_n (D 95 rfl) rfl rfl ?_
        refine ht_dup (D 96 rfl) rfl ?_
        refine gf_X7_43 rfl (D 97 rfl) hT1.k ?_
        refine ht_iconst (v := 1) (D 98 rfl) (by decide) ?_
        refine ht_iadd (D 99 rfl) ?_
        refine pf_X7_43 rfl (D 100 rfl) hT1.k ?_
        refine ht_vret (D 101 rfl) rfl ?_
        first | exact ⟨rfl, b, e, k, TF_t hF hF2, ⟨hSk, Or.inr (Or.inr (Or.inl ⟨hbn, hnl, hdg, hR, hk⟩))⟩, g4, g2, g3, fun q => absurd q (by omega), fun _ => g5, fun q => absurd q (by omega), fun q => absurd q (by omega), fun _ => g8⟩ | exact ⟨rfl, b, b + 1, 3, TF_I (TF_I (TF_I hF (by decide) _) (by decide) _) (by decide) _, ⟨hSk, Or.inr (Or.inr (Or.inr ⟨hbn, hnl, hnd, rfl, Or.inl ⟨hsg, rfl⟩⟩))⟩, by rw [zI_k _ _ (by decide), zI_k _ _ (by decide), zI_k _ _ (by decide)]; exact h4, by rw [zI_s, zI_k _ _ (by decide), zI_k _ _ (by decide), h2]; exact nI_1 b, by rw [zI_k _ _ (by decide), zI_s]; rfl, fun q => absurd q (by decide), fun q => absurd q (by decide), fun _ => by rw [zI_k _ _ (by decide), zI_k _ _ (by decide), zI_s], fun q => absurd q (by decide), fun _ => h8⟩ | exact ⟨rfl, b, b + 1, 4, TF_I (TF_I (TF_I hF (by decide) _) (by decide) _) (by decide) _, ⟨hSk, Or.inr (Or.inr (Or.inr ⟨hbn, hnl, hnd, rfl, Or.inr ⟨hsn, rfl⟩⟩))⟩, by rw [zI_k _ _ (by decide), zI_k _ _ (by decide), zI_k _ _ (by decide)]; exact h4, by rw [zI_s, zI_k _ _ (by decide), zI_k _ _ (by decide), h2]; exact nI_1 b, by rw [zI_k _ _ (by decide), zI_s]; rfl, fun q => absurd q (by decide), fun q => absurd q (by decide), fun _ => by rw [zI_k _ _ (by decide), zI_k _ _ (by decide), zI_s], fun q => absurd q (by decide), fun _ => h8⟩
      · skip
        have hsg : sgM (T b) := isSg_M.mp (hy1 (Int32.not_lt.mp hb183))
        refine ht_iconst (v := 4) (D 91 rfl) (by decide) ?_
        refine ht_goto (tgt := 191) (D 92 rfl) (by decide) ?_
        refine pf_X7_27 rfl (D 94 rfl) hT1.k ?_
        refine ht_aload_n (D 95 rfl) rfl rfl ?_
        refine ht_dup (D 96 rfl) rfl ?_
        refine gf_X7_43 rfl (D 97 rfl) hT1.k ?_
        refine ht_iconst (v := 1) (D 98 rfl) (by decide) ?_
        refine ht_iadd (D 99 rfl) ?_
        refine pf_X7_43 rfl (D 100 rfl) hT1.k ?_
        refine ht_vret (D 101 rfl) rfl ?_
        first | exact ⟨rfl, b, e, k, TF_t hF hF2, ⟨hSk, Or.inr (Or.inr (Or.inl ⟨hbn, hnl, hdg, hR, hk⟩))⟩, g4, g2, g3, fun q => absurd q (by omega), fun _ => g5, fun q => absurd q (by omega), fun q => absurd q (by omega), fun _ => g8⟩ | exact ⟨rfl, b, b + 1, 3, TF_I (TF_I (TF_I hF (by decide) _) (by decide) _) (by decide) _, ⟨hSk, Or.inr (Or.inr (Or.inr ⟨hbn, hnl, hnd, rfl, Or.inl ⟨hsg, rfl⟩⟩))⟩, by rw [zI_k _ _ (by decide), zI_k _ _ (by decide), zI_k _ _ (by decide)]; exact h4, by rw [zI_s, zI_k _ _ (by decide), zI_k _ _ (by decide), h2]; exact nI_1 b, by rw [zI_k _ _ (by decide), zI_s]; rfl, fun q => absurd q (by decide), fun q => absurd q (by decide), fun _ => by rw [zI_k _ _ (by decide), zI_k _ _ (by decide), zI_s], fun q => absurd q (by decide), fun _ => h8⟩ | exact ⟨rfl, b, b + 1, 4, TF_I (TF_I (TF_I hF (by decide) _) (by decide) _) (by decide) _, ⟨hSk, Or.inr (Or.inr (Or.inr ⟨hbn, hnl, hnd, rfl, Or.inr ⟨hsn, rfl⟩⟩))⟩, by rw [zI_k _ _ (by decide), zI_k _ _ (by decide), zI_k _ _ (by decide)]; exact h4, by rw [zI_s, zI_k _ _ (by decide), zI_k _ _ (by decide), h2]; exact nI_1 b, by rw [zI_k _ _ (by decide), zI_s]; rfl, fun q => absurd q (by decide), fun q => absurd q (by decide), fun _ => by rw [zI_k _ _ (by decide), zI_k _ _ (by decide), zI_s], fun q => absurd q (by decide), fun _ => h8⟩
    · skip
      have hdg : Rg 48 57 (T b) := (show (48 ≤ T b ∧ T b ≤ 57) from b01_ne hb149)
      refine ht_aload_n (D 74 rfl) rfl rfl ?_
      refine kVX7_takeNumber (As := []) cl_X7_66 (D 75 rfl) (sc_takeNumber hT1 hA2 h2 h4 h8 (by omega)) hT1.k rfl (Nat.le_of_ble_eq_true rfl) rfl (Nat.le_of_ble_eq_true rfl) (by omega) ?_
      rintro _ σ2 ⟨rfl, e, k, hF2, hR, hk, g4, g2, g3, g5, g8⟩
      refine ht_goto (tgt := 204) (D 76 rfl) (by decide) ?_
      refine ht_vret (D 101 rfl) rfl ?_
      first | exact ⟨rfl, b, e, k, TF_t hF hF2, ⟨hSk, Or.inr (Or.inr (Or.inl ⟨hbn, hnl, hdg, hR, hk⟩))⟩, g4, g2, g3, fun q => absurd q (by omega), fun _ => g5, fun q => absurd q (by omega), fun q => absurd q (by omega), fun _ => g8⟩ | exact ⟨rfl, b, b + 1, 3, TF_I (TF_I (TF_I hF (by decide) _) (by decide) _) (by decide) _, ⟨hSk, Or.inr (Or.inr (Or.inr ⟨hbn, hnl, hnd, rfl, Or.inl ⟨hsg, rfl⟩⟩))⟩, by rw [zI_k _ _ (by decide), zI_k _ _ (by decide), zI_k _ _ (by decide)]; exact h4, by rw [zI_s, zI_k _ _ (by decide), zI_k _ _ (by decide), h2]; exact nI_1 b, by rw [zI_k _ _ (by decide), zI_s]; rfl, fun q => absurd q (by decide), fun q => absurd q (by decide), fun _ => by rw [zI_k _ _ (by decide), zI_k _ _ (by decide), zI_s], fun q => absurd q (by decide), fun _ => h8⟩ | exact ⟨rfl, b, b + 1, 4, TF_I (TF_I (TF_I hF (by decide) _) (by decide) _) (by decide) _, ⟨hSk, Or.inr (Or.inr (Or.inr ⟨hbn, hnl, hnd, rfl, Or.inr ⟨hsn, rfl⟩⟩))⟩, by rw [zI_k _ _ (by decide), zI_k _ _ (by decide), zI_k _ _ (by decide)]; exact h4, by rw [zI_s, zI_k _ _ (by decide), zI_k _ _ (by decide), h2]; exact nI_1 b, by rw [zI_k _ _ (by decide), zI_s]; rfl, fun q => absurd q (by decide), fun q => absurd q (by decide), fun _ => by rw [zI_k _ _ (by decide), zI_k _ _ (by decide), zI_s], fun q => absurd q (by decide), fun _ => h8⟩
  · skip
    have hl : Rg 97 122 (T b) := (show (97 ≤ T b ∧ T b ≤ 122) from b01_ne hb100)
    refine ht_aload_n (D 51 rfl) rfl rfl ?_
    refine kVX7_takeWord (As := []) cl_X7_55 (D 52 rfl) (sc_takeWord hT1 hA2 h2 h4 h8 (by omega)) hT1.k rfl (Nat.le_of_ble_eq_true rfl) rfl (Nat.le_of_ble_eq_true rfl) (by omega) ?_
    rintro _ σ2 ⟨rfl, e, k, hF2, hR, hk, g4, g2, g3, g7, g8⟩
    have hT2 : TS σ2 t sA n := hT1.tf hF2
    rcases hk with ⟨hk1, rfl⟩ | ⟨hk1, rfl⟩
    · skip
      refine ht_aload_n (D 53 rfl) rfl rfl ?_
      refine ht_aload_n (D 54 rfl) rfl rfl ?_
      refine gf_X7_27 rfl (D 55 rfl) hT2.k ?_
      rw [g3]
      refine ht_iconst (v := 2) (D 56 rfl) (by decide) ?_
      refine ht_icmp_ne (tgt := 126) (D 57 rfl) (by decide) (fun hb113 => ?_) (fun hb113 => ?_)
      · skip
        exact absurd (show ckd 1 = 2 from rfl) hb113
      · skip
        refine ht_aload_n (D 58 rfl) rfl rfl ?_
        refine gf_X7_58 rfl (D 59 rfl) hT2.k ?_
        rw [g7]
        refine kSX8_named (As := [_]) cl_X7_62 (D 60 rfl) (sb_named hB _) rfl (Nat.le_of_ble_eq_true rfl) rfl (Nat.le_of_ble_eq_true rfl) (by omega) ?_
        rintro _ _ ⟨⟨i9, hi9, hx9, rfl⟩ | ⟨hx9, rfl⟩, rfl⟩
        · skip
          refine ht_goto (tgt := 127) (D 61 rfl) (by decide) ?_
          refine pf_X7_33 (some (ad i9)) rfl (D 63 rfl) hT2.k ?_
          refine ht_goto (tgt := 204) (D 64 rfl) (by decide) ?_
          refine ht_vret (D 101 rfl) rfl ?_
          exact ⟨rfl, b, e, 1, TF_Q (TF_t hF hF2) _, ⟨hSk, Or.inr (Or.inl ⟨hbn, hl, hR, Or.inl ⟨hk1, rfl⟩⟩)⟩, g4, g2, g3, fun _ => g7, fun q => absurd q (by decide), fun q => absurd q (by decide), fun _ => Or.inl ⟨i9, hi9, hx9, zQ_s _ _ _ _⟩, fun q => absurd rfl q⟩
        · skip
          refine ht_goto (tgt := 127) (D 61 rfl) (by decide) ?_
          refine pf_X7_33 none rfl (D 63 rfl) hT2.k ?_
          refine ht_goto (tgt := 204) (D 64 rfl) (by decide) ?_
          refine ht_vret (D 101 rfl) rfl ?_
          exact ⟨rfl, b, e, 1, TF_Q (TF_t hF hF2) _, ⟨hSk, Or.inr (Or.inl ⟨hbn, hl, hR, Or.inl ⟨hk1, rfl⟩⟩)⟩, g4, g2, g3, fun _ => g7, fun q => absurd q (by decide), fun q => absurd q (by decide), fun _ => Or.inr ⟨hx9, zQ_s _ _ _ _⟩, fun q => absurd rfl q⟩
    · skip
      refine ht_aload_n (D 53 rfl) rfl rfl ?_
      refine ht_aload_n (D 54 rfl) rfl rfl ?_
      refine gf_X7_27 rfl (D 55 rfl) hT2.k ?_
      rw [g3]
      refine ht_iconst (v := 2) (D 56 rfl) (by decide) ?_
      refine ht_icmp_ne (tgt := 126) (D 57 rfl) (by decide) (fun hb113 => ?_) (fun hb113 => ?_)
      · skip
        refine ht_null (D 62 rfl) ?_
        refine pf_X7_33 none rfl (D 63 rfl) hT2.k ?_
        refine ht_goto (tgt := 204) (D 64 rfl) (by decide) ?_
        refine ht_vret (D 101 rfl) rfl ?_
        exact ⟨rfl, b, e, 4, TF_Q (TF_t hF hF2) _, ⟨hSk, Or.inr (Or.inl ⟨hbn, hl, hR, Or.inr ⟨hk1, rfl⟩⟩)⟩, g4, g2, g3, fun q => absurd q (by decide), fun q => absurd q (by decide), fun q => absurd q (by decide), fun q => absurd q (by decide), fun _ => zQ_s _ _ _ _⟩
      · skip
        exact absurd hb113 (show ¬ ckd 4 = 2 by decide)
set_option maxRecDepth 100000 in
set_option maxHeartbeats 1000000 in
theorem sc_next (hE : NE G) (hB : BK G ad aA aS aV) (hT : TS σ t sA n) (hA : zI σ sA = T) {p : Nat} (hok : ∀ i, i < n → okS (T i)) (hp : zI σ t 2 = nI p) (hpn : p ≤ n) : Sp G mX7_next 4 [.ref t] σ (fun rv σ' => rv = none ∧ ∃ b e k, TF t σ σ' ∧ CT ad T n p b e k t σ') := by
  have D := dat dl_X7_next
  have hn2 : n ≤ 1000 := hT.2.2.2.2.2.1
  have loop : ∀ (r b : Nat) (σ1 : Hp), TF t σ σ1 → zI σ1 t 2 = nI b → p ≤ b → b ≤ n → (∀ i, p ≤ i → i < b → isBl (T i)) → n - b = r → HT G mX7_next 0 [some (.ref t)] [] σ1 4 (fun rv σ' => rv = none ∧ ∃ b e k, TF t σ σ' ∧ CT ad T n p b e k t σ') := by
    intro r
    induction r using Nat.strongRecOn with
    | _ r ih =>
      intro b σ1 hF h2 hpb hbn hall hr
      have hT1 : TS σ1 t sA n := hT.tf hF
      have hA1 : zI σ1 sA b = T b := by rw [hT.ta hF, hA]
      refine ht_aload_n (D 0 rfl) rfl rfl ?_
      refine gf_X7_43 rfl (D 1 rfl) hT1.k ?_
      refine ht_aload_n (D 2 rfl) rfl rfl ?_
      refine gf_X7_26 rfl (D 3 rfl) hT1.k ?_
      rw [h2, hT1.l]
      refine ht_icmp_ge (tgt := 52) (D 4 rfl) (by decide) (fun hb8 => ?_) (fun hb8 => ?_)
      · skip
        have hbe : b = n := by have h9 := (nI_leI (a := n) (b := b) (by omega) (by omega)).mp hb8; omega
        have hSk : Sk T n p b := ⟨hpb, hbn, hall, fun q => absurd q (by omega)⟩
        refine ht_aload_n (D 26 rfl) rfl rfl ?_
        refine ht_aload_n (D 27 rfl) rfl rfl ?_
        refine gf_X7_43 rfl (D 28 rfl) hT1.k ?_
        rw [h2]
        refine pf_X7_46 rfl (D 29 rfl) hT1.k ?_
        refine ht_aload_n (D 30 rfl) rfl rfl ?_
        refine ht_null (D 31 rfl) ?_
        refine pf_X7_33 none rfl (D 32 rfl) hT1.k ?_
        refine ht_aload_n (D 33 rfl) rfl rfl ?_
        refine gf_X7_43 rfl (D 34 rfl) hT1.k ?_
        refine ht_aload_n (D 35 rfl) rfl rfl ?_
        refine gf_X7_26 rfl (D 36 rfl) hT1.k ?_
        rw [show zI (wQ (wI σ1 t 4 (nI b)) t 8 none) t 2 = nI b from (zI_k σ1 _ (by decide)).trans h2, show zI (wQ (wI σ1 t 4 (nI b)) t 8 none) t 1 = nI n from (zI_k σ1 _ (by decide)).trans hT1.l]
        refine ht_icmp_lt (tgt := 84) (D 37 rfl) (by decide) (fun hb73 => ?_) (fun hb73 => ?_)
        · skip
          have hbl : b < n := (nI_ltI (a := b) (b := n) (by omega) (by omega)).mp hb73
          exact ht_cast (sc_nextC hE hB hT hA (hok b hbl) hSk hbl (TF_Q (TF_I hF (by decide) _) none) ((zI_k σ1 _ (by decide)).trans h2) (zI_s _ _ _ _) (zQ_s _ _ _ _)) rfl rfl rfl
        · skip
          have hbe : b = n := by have h9 := mt (nI_ltI (a := b) (b := n) (by omega) (by omega)).mpr hb73; omega
          refine ht_aload_n (D 38 rfl) rfl rfl ?_
          refine ht_iconst (v := 0) (D 39 rfl) (by decide) ?_
          refine pf_X7_27 rfl (D 40 rfl) hT1.k ?_
          refine ht_goto (tgt := 204) (D 41 rfl) (by decide) ?_
          refine ht_vret (D 101 rfl) rfl ?_
          exact ⟨rfl, b, b, 0, TF_I (TF_Q (TF_I hF (by decide) _) none) (by decide) _, ⟨hSk, Or.inl ⟨hbe, rfl, rfl⟩⟩, by rw [zI_k _ _ (by decide), zI_Q, zI_s], by rw [zI_k _ _ (by decide), zI_Q, zI_k _ _ (by decide)]; exact h2, by rw [zI_s]; rfl, fun q => absurd q (by decide), fun q => absurd q (by decide), fun q => absurd q (by decide), fun q => absurd q (by decide), fun _ => by rw [zQ_I, zQ_s]⟩
      · skip
        have hbl : b < n := by have h9 := mt (nI_leI (a := n) (b := b) (by omega) (by omega)).mpr hb8; omega
        refine ht_aload_n (D 5 rfl) rfl rfl ?_
        refine gf_X7_13 rfl (D 6 rfl) hT1.k hT1.q ?_
        refine ht_aload_n (D 7 rfl) rfl rfl ?_
        refine gf_X7_43 rfl (D 8 rfl) hT1.k ?_
        rw [h2]
        refine ht_bld (n := b) (D 9 rfl) hT1.sk hT1.sn (by first | rfl | exact nI_add _ _ | assumption) (by omega) (by first | decide | omega) ?_
        refine ht_bipush (v := 32) (D 10 rfl) (by decide) ?_
        refine ht_icmp_eq (tgt := 39) (D 11 rfl) (by decide) (fun hb22 => ?_) (fun hb22 => ?_)
        · skip
          rw [hA1] at hb22
          have hbk : isBl (T b) := Or.inl hb22
          refine ht_aload_n (D 19 rfl) rfl rfl ?_
          refine ht_dup (D 20 rfl) rfl ?_
          refine gf_X7_43 rfl (D 21 rfl) hT1.k ?_
          rw [h2]
          refine ht_iconst (v := 1) (D 22 rfl) (by decide) ?_
          refine ht_iadd (D 23 rfl) ?_
          refine pf_X7_43 rfl (D 24 rfl) hT1.k ?_
          refine ht_goto (tgt := 0) (D 25 rfl) (by decide) ?_
          exact ih (n - (b + 1)) (by omega) (b + 1) _ (TF_I hF (by decide) _) (by rw [zI_s]; exact nI_1 b) (by omega) (by omega) (fun i q1 q2 => by (by_cases q3 : i = b); (rw [q3]; exact hbk); exact hall i q1 (by omega)) rfl
        · skip
          refine ht_aload_n (D 12 rfl) rfl rfl ?_
          refine gf_X7_13 rfl (D 13 rfl) hT1.k hT1.q ?_
          refine ht_aload_n (D 14 rfl) rfl rfl ?_
          refine gf_X7_43 rfl (D 15 rfl) hT1.k ?_
          rw [h2]
          refine ht_bld (n := b) (D 16 rfl) hT1.sk hT1.sn (by first | rfl | exact nI_add _ _ | assumption) (by omega) (by first | decide | omega) ?_
          refine ht_bipush (v := 10) (D 17 rfl) (by decide) ?_
          refine ht_icmp_ne (tgt := 52) (D 18 rfl) (by decide) (fun hb36 => ?_) (fun hb36 => ?_)
          · skip
            rw [hA1] at hb22 hb36
            have hSk : Sk T n p b := ⟨hpb, hbn, hall, fun _ q => by
              rcases q with q | q
              · exact hb22 q
              · exact hb36 q⟩
            refine ht_aload_n (D 26 rfl) rfl rfl ?_
            refine ht_aload_n (D 27 rfl) rfl rfl ?_
            refine gf_X7_43 rfl (D 28 rfl) hT1.k ?_
            rw [h2]
            refine pf_X7_46 rfl (D 29 rfl) hT1.k ?_
            refine ht_aload_n (D 30 rfl) rfl rfl ?_
            refine ht_null (D 31 rfl) ?_
            refine pf_X7_33 none rfl (D 32 rfl) hT1.k ?_
            refine ht_aload_n (D 33 rfl) rfl rfl ?_
            refine gf_X7_43 rfl (D 34 rfl) hT1.k ?_
            refine ht_aload_n (D 35 rfl) rfl rfl ?_
            refine gf_X7_26 rfl (D 36 rfl) hT1.k ?_
            rw [show zI (wQ (wI σ1 t 4 (nI b)) t 8 none) t 2 = nI b from (zI_k σ1 _ (by decide)).trans h2, show zI (wQ (wI σ1 t 4 (nI b)) t 8 none) t 1 = nI n from (zI_k σ1 _ (by decide)).trans hT1.l]
            refine ht_icmp_lt (tgt := 84) (D 37 rfl) (by decide) (fun hb73 => ?_) (fun hb73 => ?_)
            · skip
              have hbl : b < n := (nI_ltI (a := b) (b := n) (by omega) (by omega)).mp hb73
              exact ht_cast (sc_nextC hE hB hT hA (hok b hbl) hSk hbl (TF_Q (TF_I hF (by decide) _) none) ((zI_k σ1 _ (by decide)).trans h2) (zI_s _ _ _ _) (zQ_s _ _ _ _)) rfl rfl rfl
            · skip
              have hbe : b = n := by have h9 := mt (nI_ltI (a := b) (b := n) (by omega) (by omega)).mpr hb73; omega
              refine ht_aload_n (D 38 rfl) rfl rfl ?_
              refine ht_iconst (v := 0) (D 39 rfl) (by decide) ?_
              refine pf_X7_27 rfl (D 40 rfl) hT1.k ?_
              refine ht_goto (tgt := 204) (D 41 rfl) (by decide) ?_
              refine ht_vret (D 101 rfl) rfl ?_
              exact ⟨rfl, b, b, 0, TF_I (TF_Q (TF_I hF (by decide) _) none) (by decide) _, ⟨hSk, Or.inl ⟨hbe, rfl, rfl⟩⟩, by rw [zI_k _ _ (by decide), zI_Q, zI_s], by rw [zI_k _ _ (by decide), zI_Q, zI_k _ _ (by decide)]; exact h2, by rw [zI_s]; rfl, fun q => absurd q (by decide), fun q => absurd q (by decide), fun q => absurd q (by decide), fun q => absurd q (by decide), fun _ => by rw [zQ_I, zQ_s]⟩
          · skip
            rw [hA1] at hb36
            have hbk : isBl (T b) := Or.inr hb36
            refine ht_aload_n (D 19 rfl) rfl rfl ?_
            refine ht_dup (D 20 rfl) rfl ?_
            refine gf_X7_43 rfl (D 21 rfl) hT1.k ?_
            rw [h2]
            refine ht_iconst (v := 1) (D 22 rfl) (by decide) ?_
            refine ht_iadd (D 23 rfl) ?_
            refine pf_X7_43 rfl (D 24 rfl) hT1.k ?_
            refine ht_goto (tgt := 0) (D 25 rfl) (by decide) ?_
            exact ih (n - (b + 1)) (by omega) (b + 1) _ (TF_I hF (by decide) _) (by rw [zI_s]; exact nI_1 b) (by omega) (by omega) (fun i q1 q2 => by (by_cases q3 : i = b); (rw [q3]; exact hbk); exact hall i q1 (by omega)) rfl
  exact loop (n - p) p σ (TF_r t σ) hp (Nat.le_refl _) hpn (fun i q1 q2 => absurd q2 (by omega)) rfl
end P2
