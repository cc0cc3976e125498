/-! ===== the class: tokens ===== -/
section P1
variable {G : GG} {σ σ1 : Hp} {ad : Nat → Nat} {aA aS aV t sA n : Nat} {T : ST}
theorem zI_s (σ : Hp) (a k : Nat) (x : Int32) : zI (wI σ a k x) a k = x := up2_s (zI σ) a k x
theorem zI_k (σ : Hp) {a k b j : Nat} (x : Int32) (h : j ≠ k) : zI (wI σ a k x) b j = zI σ b j := up2_k (zI σ) x h
theorem zI_a (σ : Hp) {a k b : Nat} (x : Int32) (h : b ≠ a) : zI (wI σ a k x) b = zI σ b := up2_o (zI σ) x h
theorem zI_J (σ : Hp) (a k : Nat) (x : Int64) : zI (wJ σ a k x) = zI σ := rfl
theorem zI_Q (σ : Hp) (a k : Nat) (x : Option Nat) : zI (wQ σ a k x) = zI σ := rfl
theorem zJ_s (σ : Hp) (a k : Nat) (x : Int64) : zJ (wJ σ a k x) a k = x := up2_s (zJ σ) a k x
theorem zJ_k (σ : Hp) {a k b j : Nat} (x : Int64) (h : j ≠ k) : zJ (wJ σ a k x) b j = zJ σ b j := up2_k (zJ σ) x h
theorem zJ_a (σ : Hp) {a k b : Nat} (x : Int64) (h : b ≠ a) : zJ (wJ σ a k x) b = zJ σ b := up2_o (zJ σ) x h
theorem zJ_I (σ : Hp) (a k : Nat) (x : Int32) : zJ (wI σ a k x) = zJ σ := rfl
theorem zJ_Q (σ : Hp) (a k : Nat) (x : Option Nat) : zJ (wQ σ a k x) = zJ σ := rfl
theorem zQ_s (σ : Hp) (a k : Nat) (x : Option Nat) : zQ (wQ σ a k x) a k = x := up2_s (zQ σ) a k x
theorem zQ_k (σ : Hp) {a k b j : Nat} (x : Option Nat) (h : j ≠ k) : zQ (wQ σ a k x) b j = zQ σ b j := up2_k (zQ σ) x h
theorem zQ_a (σ : Hp) {a k b : Nat} (x : Option Nat) (h : b ≠ a) : zQ (wQ σ a k x) b = zQ σ b := up2_o (zQ σ) x h
theorem zQ_I (σ : Hp) (a k : Nat) (x : Int32) : zQ (wI σ a k x) = zQ σ := rfl
theorem zQ_J (σ : Hp) (a k : Nat) (x : Int64) : zQ (wJ σ a k x) = zQ σ := rfl
/-- nothing but what the tokens at t keep has changed -/
def TF (t : Nat) (σ σ1 : Hp) : Prop := zK σ1 = zK σ ∧ zN σ1 = zN σ ∧ zX σ1 = zX σ ∧ zS σ1 = zS σ ∧ (∀ a, a ≠ t → zI σ1 a = zI σ a ∧ zJ σ1 a = zJ σ a ∧ zQ σ1 a = zQ σ a) ∧ (∀ k, k ≠ 8 → zQ σ1 t k = zQ σ t k) ∧ zI σ1 t 1 = zI σ t 1
theorem TF_r (t : Nat) (σ : Hp) : TF t σ σ := ⟨rfl, rfl, rfl, rfl, fun _ _ => ⟨rfl, rfl, rfl⟩, fun _ _ => rfl, rfl⟩
theorem TF_t {t : Nat} {σ σ1 σ2 : Hp} (h : TF t σ σ1) (h2 : TF t σ1 σ2) : TF t σ σ2 := ⟨h2.1.trans h.1, h2.2.1.trans h.2.1, h2.2.2.1.trans h.2.2.1, h2.2.2.2.1.trans h.2.2.2.1, fun a q => ⟨(h2.2.2.2.2.1 a q).1.trans (h.2.2.2.2.1 a q).1, (h2.2.2.2.2.1 a q).2.1.trans (h.2.2.2.2.1 a q).2.1, (h2.2.2.2.2.1 a q).2.2.trans (h.2.2.2.2.1 a q).2.2⟩, fun k q => (h2.2.2.2.2.2.1 k q).trans (h.2.2.2.2.2.1 k q), h2.2.2.2.2.2.2.trans h.2.2.2.2.2.2⟩
theorem TF_I (h : TF t σ σ1) {k : Nat} (hk : k ≠ 1) (x : Int32) : TF t σ (wI σ1 t k x) := TF_t h ⟨rfl, rfl, rfl, rfl, fun _ q => ⟨zI_a σ1 x q, rfl, rfl⟩, fun _ _ => rfl, zI_k σ1 x (fun e => hk e.symm)⟩
theorem TF_J (h : TF t σ σ1) (k : Nat) (x : Int64) : TF t σ (wJ σ1 t k x) := TF_t h ⟨rfl, rfl, rfl, rfl, fun _ q => ⟨rfl, zJ_a σ1 x q, rfl⟩, fun _ _ => rfl, rfl⟩
theorem TF_Q (h : TF t σ σ1) (x : Option Nat) : TF t σ (wQ σ1 t 8 x) := TF_t h ⟨rfl, rfl, rfl, rfl, fun _ q => ⟨rfl, rfl, zQ_a σ1 x q⟩, fun k q => zQ_k σ1 x q, rfl⟩
/-- the tokens at t over the signs at sA -/
def TS (σ : Hp) (t sA n : Nat) : Prop := zK σ t = 7 ∧ zQ σ t 0 = some sA ∧ zK σ sA = 22 ∧ zN σ sA = 1000 ∧ zI σ t 1 = nI n ∧ n ≤ 1000 ∧ sA ≠ t
theorem TS.k (h : TS σ t sA n) : zK σ t = 7 := h.1
theorem TS.q (h : TS σ t sA n) : zQ σ t 0 = some sA := h.2.1
theorem TS.sk (h : TS σ t sA n) : zK σ sA = 22 := h.2.2.1
theorem TS.sn (h : TS σ t sA n) : zN σ sA = 1000 := h.2.2.2.1
theorem TS.l (h : TS σ t sA n) : zI σ t 1 = nI n := h.2.2.2.2.1
theorem TS.tf (h : TS σ t sA n) (f : TF t σ σ1) : TS σ1 t sA n := ⟨by rw [f.1]; exact h.1, (f.2.2.2.2.2.1 0 (by decide)).trans h.2.1, by rw [f.1]; exact h.2.2.1, by rw [f.2.1]; exact h.2.2.2.1, f.2.2.2.2.2.2.trans h.l, h.2.2.2.2.2.1, h.2.2.2.2.2.2⟩
theorem TS.ta (h : TS σ t sA n) (f : TF t σ σ1) : zI σ1 sA = zI σ sA := (f.2.2.2.2.1 sA h.2.2.2.2.2.2).1
def pkD (T : ST) (b : Nat) : Nat → Int64
  | 0 => 0
  | j + 1 => pkD T b j * 32 + (T (b + j) - 97 + 1).toInt64
def dgB (T : ST) (b : Nat) : Nat → Int32
  | 0 => 0
  | j + 1 => dgB T b j * 10 + (T (b + j) - 48)
def ckd (k : Nat) : Int32 := if k = 0 then 0 else if k = 1 then 2 else if k = 2 then 3 else if k = 3 then 4 else 1
/-- the word that a name is -/
def wdQ (ad : Nat → Nat) (x : Int64) (q : Option Nat) : Prop := (∃ i, i < 22 ∧ Int64.ofNat (wNa.getD i 0) = x ∧ q = some (ad i)) ∨ ((∀ i, i < 22 → ¬ Int64.ofNat (wNa.getD i 0) = x) ∧ q = none)
/-- the class stands at a token -/
def CT (ad : Nat → Nat) (T : ST) (n p b e k : Nat) (t : Nat) (σ : Hp) : Prop := TK T n p b e k ∧ zI σ t 4 = nI b ∧ zI σ t 2 = nI e ∧ zI σ t 3 = ckd k ∧ (k = 1 → zJ σ t 7 = pkD T b (e - b)) ∧ (k = 2 → zI σ t 5 = dgB T b (e - b)) ∧ (k = 3 → zI σ t 6 = T b) ∧ (k = 1 → wdQ ad (pkD T b (e - b)) (zQ σ t 8)) ∧ (k ≠ 1 → zQ σ t 8 = none)
theorem md32 {x : Int32} (h : Rg 97 122 x) : x - x / 32 * 32 = x - 97 + 1 := by
  have key : ∀ k : Nat, k < 123 → 97 ≤ k → nI k - nI k / 32 * 32 = nI k - 97 + 1 := by decide +kernel
  obtain ⟨k, h1, h2, rfl⟩ := rngW (lo := 97) 122 (by decide) h (by decide)
  exact key k (by omega) h2
set_option maxRecDepth 100000 in
set_option maxHeartbeats 1000000 in
theorem sc_takeWord (hT : TS σ t sA n) (hA : zI σ sA = T) {b : Nat} (hb2 : zI σ t 2 = nI b) (hb4 : zI σ t 4 = nI b) (hq8 : zQ σ t 8 = none) (hbn : b ≤ n) : Sp G mX7_takeWord 1 [.ref t] σ (fun rv σ' => rv = none ∧ ∃ e k, TF t σ σ' ∧ Rn T n 97 122 b e ∧ ((e - b ≤ 8 ∧ k = 1) ∨ (8 < e - b ∧ k = 4)) ∧ zI σ' t 4 = nI b ∧ zI σ' t 2 = nI e ∧ zI σ' t 3 = ckd k ∧ zJ σ' t 7 = pkD T b (e - b) ∧ zQ σ' t 8 = none) := by
  have D := dat dl_X7_takeWord
  have hn2 : n ≤ 1000 := hT.2.2.2.2.2.1
  have loop : ∀ (r e : Nat) (σ1 : Hp), TF t σ σ1 → zI σ1 t 2 = nI e → zI σ1 t 4 = nI b → zJ σ1 t 7 = pkD T b (e - b) → zQ σ1 t 8 = none → b ≤ e → e ≤ n → (∀ i, b ≤ i → i < e → Rg 97 122 (T i)) → n - e = r → HT G mX7_takeWord 5 [some (.ref t)] [] σ1 1 (fun rv σ' => rv = none ∧ ∃ e k, TF t σ σ' ∧ Rn T n 97 122 b e ∧ ((e - b ≤ 8 ∧ k = 1) ∨ (8 < e - b ∧ k = 4)) ∧ zI σ' t 4 = nI b ∧ zI σ' t 2 = nI e ∧ zI σ' t 3 = ckd k ∧ zJ σ' t 7 = pkD T b (e - b) ∧ zQ σ' t 8 = none) := by
    intro r
    induction r using Nat.strongRecOn with
    | _ r ih =>
      intro e σ1 hF h2 h4 h7 h8 hbe hen hall hr
      have hT1 : TS σ1 t sA n := hT.tf hF
      have hA1 : zI σ1 sA e = T e := by rw [hT.ta hF, hA]
      refine ht_aload_n (D 3 rfl) rfl rfl ?_
      refine gf_X7_43 rfl (D 4 rfl) hT1.k ?_
      refine ht_aload_n (D 5 rfl) rfl rfl ?_
      refine gf_X7_26 rfl (D 6 rfl) hT1.k ?_
      rw [h2, hT1.l]
      refine ht_icmp_ge (tgt := 83) (D 7 rfl) (by decide) (fun hb13 => ?_) (fun hb13 => ?_)
      · skip
        have hnn : n = e := by have h9 := (nI_leI (a := n) (b := e) (by omega) (by omega)).mp hb13; omega
        have hfin : e < n → ¬ Rg 97 122 (T e) := fun q => absurd q (by omega)
        refine ht_aload_n (D 44 rfl) rfl rfl ?_
        refine ht_aload_n (D 45 rfl) rfl rfl ?_
        refine gf_X7_43 rfl (D 46 rfl) hT1.k ?_
        refine ht_aload_n (D 47 rfl) rfl rfl ?_
        refine gf_X7_46 rfl (D 48 rfl) hT1.k ?_
        rw [h2, h4]
        refine ht_isub (D 49 rfl) ?_
        rw [nI_subb hbe]
        refine ht_bipush (v := 8) (D 50 rfl) (by decide) ?_
        refine ht_icmp_gt (tgt := 102) (D 51 rfl) (by decide) (fun hb95 => ?_) (fun hb95 => ?_)
        · skip
          have hgt : 8 < e - b := (nI_ltI (a := 8) (b := e - b) (by omega) (by omega)).mp hb95
          refine ht_iconst (v := 1) (D 54 rfl) (by decide) ?_
          refine pf_X7_27 rfl (D 55 rfl) hT1.k ?_
          refine ht_vret (D 56 rfl) rfl ?_
          first | exact ⟨rfl, e, 4, TF_I hF (by decide) _, ⟨hbe, hen, hall, hfin⟩, Or.inr ⟨hgt, rfl⟩, (zI_k _ _ (by decide)).trans h4, (zI_k _ _ (by decide)).trans h2, zI_s _ _ _ _, h7, h8⟩ | exact ⟨rfl, e, 1, TF_I hF (by decide) _, ⟨hbe, hen, hall, hfin⟩, Or.inl ⟨hle, rfl⟩, (zI_k _ _ (by decide)).trans h4, (zI_k _ _ (by decide)).trans h2, zI_s _ _ _ _, h7, h8⟩
        · skip
          have hle : e - b ≤ 8 := by have h9 := mt (nI_ltI (a := 8) (b := e - b) (by omega) (by omega)).mpr hb95; omega
          refine ht_iconst (v := 2) (D 52 rfl) (by decide) ?_
          refine ht_goto (tgt := 103) (D 53 rfl) (by decide) ?_
          refine pf_X7_27 rfl (D 55 rfl) hT1.k ?_
          refine ht_vret (D 56 rfl) rfl ?_
          first | exact ⟨rfl, e, 4, TF_I hF (by decide) _, ⟨hbe, hen, hall, hfin⟩, Or.inr ⟨hgt, rfl⟩, (zI_k _ _ (by decide)).trans h4, (zI_k _ _ (by decide)).trans h2, zI_s _ _ _ _, h7, h8⟩ | exact ⟨rfl, e, 1, TF_I hF (by decide) _, ⟨hbe, hen, hall, hfin⟩, Or.inl ⟨hle, rfl⟩, (zI_k _ _ (by decide)).trans h4, (zI_k _ _ (by decide)).trans h2, zI_s _ _ _ _, h7, h8⟩
      · skip
        have hte : e < n := by have h9 := mt (nI_leI (a := n) (b := e) (by omega) (by omega)).mpr hb13; omega
        refine ht_aload_n (D 8 rfl) rfl rfl ?_
        refine gf_X7_13 rfl (D 9 rfl) hT1.k hT1.q ?_
        refine ht_aload_n (D 10 rfl) rfl rfl ?_
        refine gf_X7_43 rfl (D 11 rfl) hT1.k ?_
        rw [h2]
        refine ht_bld (n := e) (D 12 rfl) hT1.sk hT1.sn (by first | rfl | exact nI_add _ _ | assumption) (by omega) (by first | decide | omega) ?_
        rw [hA1]
        refine ht_bipush (v := 97) (D 13 rfl) (by decide) ?_
        refine ht_icmp_lt (tgt := 83) (D 14 rfl) (by decide) (fun hb27 => ?_) (fun hb27 => ?_)
        · skip
          have hfin : e < n → ¬ Rg 97 122 (T e) := fun _ q => Int32.not_le.mpr hb27 q.1
          refine ht_aload_n (D 44 rfl) rfl rfl ?_
          refine ht_aload_n (D 45 rfl) rfl rfl ?_
          refine gf_X7_43 rfl (D 46 rfl) hT1.k ?_
          refine ht_aload_n (D 47 rfl) rfl rfl ?_
          refine gf_X7_46 rfl (D 48 rfl) hT1.k ?_
          rw [h2, h4]
          refine ht_isub (D 49 rfl) ?_
          rw [nI_subb hbe]
          refine ht_bipush (v := 8) (D 50 rfl) (by decide) ?_
          refine ht_icmp_gt (tgt := 102) (D 51 rfl) (by decide) (fun hb95 => ?_) (fun hb95 => ?_)
          · skip
            have hgt : 8 < e - b := (nI_ltI (a := 8) (b := e - b) (by omega) (by omega)).mp hb95
            refine ht_iconst (v := 1) (D 54 rfl) (by decide) ?_
            refine pf_X7_27 rfl (D 55 rfl) hT1.k ?_
            refine ht_vret (D 56 rfl) rfl ?_
            first | exact ⟨rfl, e, 4, TF_I hF (by decide) _, ⟨hbe, hen, hall, hfin⟩, Or.inr ⟨hgt, rfl⟩, (zI_k _ _ (by decide)).trans h4, (zI_k _ _ (by decide)).trans h2, zI_s _ _ _ _, h7, h8⟩ | exact ⟨rfl, e, 1, TF_I hF (by decide) _, ⟨hbe, hen, hall, hfin⟩, Or.inl ⟨hle, rfl⟩, (zI_k _ _ (by decide)).trans h4, (zI_k _ _ (by decide)).trans h2, zI_s _ _ _ _, h7, h8⟩
          · skip
            have hle : e - b ≤ 8 := by have h9 := mt (nI_ltI (a := 8) (b := e - b) (by omega) (by omega)).mpr hb95; omega
            refine ht_iconst (v := 2) (D 52 rfl) (by decide) ?_
            refine ht_goto (tgt := 103) (D 53 rfl) (by decide) ?_
            refine pf_X7_27 rfl (D 55 rfl) hT1.k ?_
            refine ht_vret (D 56 rfl) rfl ?_
            first | exact ⟨rfl, e, 4, TF_I hF (by decide) _, ⟨hbe, hen, hall, hfin⟩, Or.inr ⟨hgt, rfl⟩, (zI_k _ _ (by decide)).trans h4, (zI_k _ _ (by decide)).trans h2, zI_s _ _ _ _, h7, h8⟩ | exact ⟨rfl, e, 1, TF_I hF (by decide) _, ⟨hbe, hen, hall, hfin⟩, Or.inl ⟨hle, rfl⟩, (zI_k _ _ (by decide)).trans h4, (zI_k _ _ (by decide)).trans h2, zI_s _ _ _ _, h7, h8⟩
        · skip
          have hlo : 97 ≤ T e := Int32.not_lt.mp hb27
          refine ht_aload_n (D 15 rfl) rfl rfl ?_
          refine gf_X7_13 rfl (D 16 rfl) hT1.k hT1.q ?_
          refine ht_aload_n (D 17 rfl) rfl rfl ?_
          refine gf_X7_43 rfl (D 18 rfl) hT1.k ?_
          rw [h2]
          refine ht_bld (n := e) (D 19 rfl) hT1.sk hT1.sn (by first | rfl | exact nI_add _ _ | assumption) (by omega) (by first | decide | omega) ?_
          rw [hA1]
          refine ht_bipush (v := 122) (D 20 rfl) (by decide) ?_
          refine ht_icmp_gt (tgt := 83) (D 21 rfl) (by decide) (fun hb41 => ?_) (fun hb41 => ?_)
          · skip
            have hfin : e < n → ¬ Rg 97 122 (T e) := fun _ q => Int32.not_le.mpr hb41 q.2
            refine ht_aload_n (D 44 rfl) rfl rfl ?_
            refine ht_aload_n (D 45 rfl) rfl rfl ?_
            refine gf_X7_43 rfl (D 46 rfl) hT1.k ?_
            refine ht_aload_n (D 47 rfl) rfl rfl ?_
            refine gf_X7_46 rfl (D 48 rfl) hT1.k ?_
            rw [h2, h4]
            refine ht_isub (D 49 rfl) ?_
            rw [nI_subb hbe]
            refine ht_bipush (v := 8) (D 50 rfl) (by decide) ?_
            refine ht_icmp_gt (tgt := 102) (D 51 rfl) (by decide) (fun hb95 => ?_) (fun hb95 => ?_)
            · skip
              have hgt : 8 < e - b := (nI_ltI (a := 8) (b := e - b) (by omega) (by omega)).mp hb95
              refine ht_iconst (v := 1) (D 54 rfl) (by decide) ?_
              refine pf_X7_27 rfl (D 55 rfl) hT1.k ?_
              refine ht_vret (D 56 rfl) rfl ?_
              first | exact ⟨rfl, e, 4, TF_I hF (by decide) _, ⟨hbe, hen, hall, hfin⟩, Or.inr ⟨hgt, rfl⟩, (zI_k _ _ (by decide)).trans h4, (zI_k _ _ (by decide)).trans h2, zI_s _ _ _ _, h7, h8⟩ | exact ⟨rfl, e, 1, TF_I hF (by decide) _, ⟨hbe, hen, hall, hfin⟩, Or.inl ⟨hle, rfl⟩, (zI_k _ _ (by decide)).trans h4, (zI_k _ _ (by decide)).trans h2, zI_s _ _ _ _, h7, h8⟩
            · skip
              have hle : e - b ≤ 8 := by have h9 := mt (nI_ltI (a := 8) (b := e - b) (by omega) (by omega)).mpr hb95; omega
              refine ht_iconst (v := 2) (D 52 rfl) (by decide) ?_
              refine ht_goto (tgt := 103) (D 53 rfl) (by decide) ?_
              refine pf_X7_27 rfl (D 55 rfl) hT1.k ?_
              refine ht_vret (D 56 rfl) rfl ?_
              first | exact ⟨rfl, e, 4, TF_I hF (by decide) _, ⟨hbe, hen, hall, hfin⟩, Or.inr ⟨hgt, rfl⟩, (zI_k _ _ (by decide)).trans h4, (zI_k _ _ (by decide)).trans h2, zI_s _ _ _ _, h7, h8⟩ | exact ⟨rfl, e, 1, TF_I hF (by decide) _, ⟨hbe, hen, hall, hfin⟩, Or.inl ⟨hle, rfl⟩, (zI_k _ _ (by decide)).trans h4, (zI_k _ _ (by decide)).trans h2, zI_s _ _ _ _, h7, h8⟩
          · skip
            have hin : Rg 97 122 (T e) := ⟨hlo, Int32.not_lt.mp hb41⟩
            have hall2 : ∀ i, b ≤ i → i < e + 1 → Rg 97 122 (T i) := fun i q1 q2 => by
              by_cases q3 : i = e
              · rw [q3]; exact hin
              · exact hall i q1 (by omega)
            have hacc : pkD T b (e + 1 - b) = pkD T b (e - b) * 32 + (T e - 97 + 1).toInt64 := by
              rw [show e + 1 - b = (e - b) + 1 by omega]
              show _ + _ = _
              rw [show b + (e - b) = e by omega]
            refine ht_aload_n (D 22 rfl) rfl rfl ?_
            refine ht_aload_n (D 23 rfl) rfl rfl ?_
            refine gf_X7_58 rfl (D 24 rfl) hT1.k ?_
            rw [h7]
            refine ht_ldc2 kl_X7_77 (D 25 rfl) ?_
            refine ht_lmul (D 26 rfl) ?_
            refine ht_aload_n (D 27 rfl) rfl rfl ?_
            refine gf_X7_13 rfl (D 28 rfl) hT1.k hT1.q ?_
            refine ht_aload_n (D 29 rfl) rfl rfl ?_
            refine gf_X7_43 rfl (D 30 rfl) hT1.k ?_
            rw [h2]
            refine ht_bld (n := e) (D 31 rfl) hT1.sk hT1.sn (by first | rfl | exact nI_add _ _ | assumption) (by omega) (by first | decide | omega) ?_
            rw [hA1]
            refine ht_bipush (v := 32) (D 32 rfl) (by decide) ?_
            refine ht_irem (D 33 rfl) (by decide) ?_
            rw [md32 hin]
            refine ht_i2l (D 34 rfl) ?_
            refine ht_ladd (D 35 rfl) ?_
            refine pf_X7_58 rfl (D 36 rfl) hT1.k ?_
            refine ht_aload_n (D 37 rfl) rfl rfl ?_
            refine ht_dup (D 38 rfl) rfl ?_
            refine gf_X7_43 rfl (D 39 rfl) hT1.k ?_
            rw [show zI (wJ σ1 t 7 _) t 2 = nI e from h2]
            refine ht_iconst (v := 1) (D 40 rfl) (by decide) ?_
            refine ht_iadd (D 41 rfl) ?_
            refine pf_X7_43 rfl (D 42 rfl) hT1.k ?_
            refine ht_goto (tgt := 5) (D 43 rfl) (by decide) ?_
            exact ih (n - (e + 1)) (by omega) (e + 1) _ (TF_I (TF_J hF 7 _) (by decide) _) (by rw [zI_s]; exact nI_1 e) (by rw [zI_k _ _ (by decide), zI_J]; exact h4) (by rw [zJ_I, zJ_s]; exact hacc.symm) h8 (by omega) (by omega) hall2 rfl
  show HT G mX7_takeWord 0 [some (.ref t)] [] σ 1 _
  refine ht_aload_n (D 0 rfl) rfl rfl ?_
  refine ht_lconst (v := 0) (D 1 rfl) (by decide) ?_
  refine pf_X7_58 rfl (D 2 rfl) hT.k ?_
  exact ht_cast (loop (n - b) b _ (TF_J (TF_r t σ) 7 _) hb2 hb4 (by rw [zJ_s, Nat.sub_self]; rfl) hq8 (Nat.le_refl _) hbn (fun i q1 q2 => absurd q2 (by omega)) rfl) rfl rfl rfl
end P1
