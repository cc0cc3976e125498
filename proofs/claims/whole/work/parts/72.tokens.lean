/-! ===== tokens; the reference: signAt, nextToken ===== -/
def isBl (x : Int32) : Prop := x = 32 ∨ x = 10
def Rg (lo hi x : Int32) : Prop := lo ≤ x ∧ x ≤ hi
def sgM (x : Int32) : Prop := Rg 40 43 x ∨ x = 45 ∨ Rg 59 61 x
/-- blanks from p up to b -/
def Sk (T : ST) (n p b : Nat) : Prop := p ≤ b ∧ b ≤ n ∧ (∀ i, p ≤ i → i < b → isBl (T i)) ∧ (b < n → ¬ isBl (T b))
/-- a run of like signs from b up to e -/
def Rn (T : ST) (n : Nat) (lo hi : Int32) (b e : Nat) : Prop := b ≤ e ∧ e ≤ n ∧ (∀ i, b ≤ i → i < e → Rg lo hi (T i)) ∧ (e < n → ¬ Rg lo hi (T e))
theorem Sk_u {T : ST} {n p b b2 : Nat} (h : Sk T n p b) (h2 : Sk T n p b2) : b = b2 := by
  rcases Nat.lt_trichotomy b b2 with c | c | c
  · exact absurd (h2.2.2.1 b h.1 c) (h.2.2.2 (by have := h2.2.1; omega))
  · exact c
  · exact absurd (h.2.2.1 b2 h2.1 c) (h2.2.2.2 (by have := h.2.1; omega))
theorem Rn_u {T : ST} {n b e e2 : Nat} {lo hi : Int32} (h : Rn T n lo hi b e) (h2 : Rn T n lo hi b e2) : e = e2 := by
  rcases Nat.lt_trichotomy e e2 with c | c | c
  · exact absurd (h2.2.2.1 e h.1 c) (h.2.2.2 (by have := h2.2.1; omega))
  · exact c
  · exact absurd (h.2.2.1 e2 h2.1 c) (h2.2.2.2 (by have := h.2.1; omega))
/-- behind place p the next token begins at b, ends ahead of e, and is of kind k: 0 end, 1 word, 2 number, 3 sign, 4 none -/
def TK (T : ST) (n p b e k : Nat) : Prop := Sk T n p b ∧ ((b = n ∧ e = b ∧ k = 0) ∨ (b < n ∧ Rg 97 122 (T b) ∧ Rn T n 97 122 b e ∧ ((e - b ≤ 8 ∧ k = 1) ∨ (8 < e - b ∧ k = 4))) ∨ (b < n ∧ ¬ Rg 97 122 (T b) ∧ Rg 48 57 (T b) ∧ Rn T n 48 57 b e ∧ ((e - b ≤ 4 ∧ k = 2) ∨ (4 < e - b ∧ k = 4))) ∨ (b < n ∧ ¬ Rg 97 122 (T b) ∧ ¬ Rg 48 57 (T b) ∧ e = b + 1 ∧ ((sgM (T b) ∧ k = 3) ∨ (¬ sgM (T b) ∧ k = 4))))
theorem TK_u {T : ST} {n p b e k b2 e2 k2 : Nat} (h : TK T n p b e k) (h2 : TK T n p b2 e2 k2) : b = b2 ∧ e = e2 ∧ k = k2 := by
  obtain ⟨s, h⟩ := h
  obtain ⟨s2, h2⟩ := h2
  obtain rfl := Sk_u s s2
  refine ⟨rfl, ?_⟩
  rcases h with ⟨a1, a2, a3⟩ | ⟨a1, a2, a3, a4⟩ | ⟨a1, a0, a2, a3, a4⟩ | ⟨a1, a2, a0, a3, a4⟩ <;> rcases h2 with ⟨b1, b2, b3⟩ | ⟨b1, b2, b3, b4⟩ | ⟨b1, b0, b2, b3, b4⟩ | ⟨b1, b2, b0, b3, b4⟩ <;> first | omega | exact absurd a2 b2 | exact absurd b2 a2 | exact absurd a2 b0 | exact absurd b2 a0 | skip
  · obtain rfl := Rn_u a3 b3
    omega
  · obtain rfl := Rn_u a3 b3
    omega
  · refine ⟨by omega, ?_⟩
    rcases a4 with ⟨q, r⟩ | ⟨q, r⟩ <;> rcases b4 with ⟨q2, r2⟩ | ⟨q2, r2⟩ <;> first | omega | exact absurd q q2 | exact absurd q2 q
theorem TK_le {T : ST} {n p b e k : Nat} (h : TK T n p b e k) : p ≤ b ∧ b ≤ e ∧ e ≤ n ∧ (k = 0 ↔ b = n) ∧ (b < n → b < e) ∧ k ≤ 4 := by
  obtain ⟨s, h⟩ := h
  have := s.1
  have := s.2.1
  rcases h with ⟨a1, a2, a3⟩ | ⟨a1, a2, a3, a4⟩ | ⟨a1, a0, a2, a3, a4⟩ | ⟨a1, a2, a0, a3, a4⟩
  · omega
  · have h1 := a3.1
    have h2 := a3.2.1
    have h3 : b < e := by
      rcases Nat.lt_or_ge b e with c | c
      · exact c
      · have e1 : e = b := by omega
        exact absurd (e1 ▸ a2) (a3.2.2.2 (by omega))
    omega
  · have h1 := a3.1
    have h2 := a3.2.1
    have h3 : b < e := by
      rcases Nat.lt_or_ge b e with c | c
      · exact c
      · have e1 : e = b := by omega
        exact absurd (e1 ▸ a2) (a3.2.2.2 (by omega))
    omega
  · omega
/-- a word's letters, as the reference packs them -/
def pkA (T : ST) (b : Nat) : Nat → Int64
  | 0 => 0
  | j + 1 => if j < 8 then pkA T b j * 27 + (T (b + j)).toInt64 - 96 else pkA T b j
def dgA (T : ST) (b : Nat) : Nat → Int32
  | 0 => 0
  | j + 1 => if j < 4 then dgA T b j * 10 + T (b + j) - 48 else dgA T b j
def NF (V V' : VT) : Prop := (∀ o, o ≠ 0 → V' o = V o) ∧ ∀ k, k ≠ 4 → k ≠ 5 → k ≠ 6 → k ≠ 8 → V' 0 k = V 0 k
def NU (U U' : UT) : Prop := ∀ o i, ¬ (o = 0 ∧ i = 7) → U' o i = U o i
theorem NF_r (V : VT) : NF V V := ⟨fun _ _ => rfl, fun _ _ _ _ _ => rfl⟩
theorem NU_r (U : UT) : NU U U := fun _ _ _ => rfl
theorem NF_t {V V1 V2 : VT} (h : NF V V1) (h2 : NF V1 V2) : NF V V2 := ⟨fun o q => (h2.1 o q).trans (h.1 o q), fun k a b c e => (h2.2 k a b c e).trans (h.2 k a b c e)⟩
theorem NU_t {U U1 U2 : UT} (h : NU U U1) (h2 : NU U1 U2) : NU U U2 := fun o i q => (h2 o i q).trans (h o i q)
theorem NF_up {V V1 : VT} (h : NF V V1) {k : Nat} (hk : k = 4 ∨ k = 5 ∨ k = 6 ∨ k = 8) (x : Int32) : NF V (up2 V1 0 k x) := ⟨fun o q => (up2_o V1 x q).trans (h.1 o q), fun j a b c e => (up2_k V1 x (by omega)).trans (h.2 j a b c e)⟩
theorem NU_up {U U1 : UT} (h : NU U U1) (x : Int64) : NU U (up2 U1 0 7 x) := fun o i q => by
  unfold up2
  rw [if_neg q]
  exact h o i q
/-- the reference stands at a token -/
def RT (T : ST) (n p b e k : Nat) (V : VT) (U : UT) : Prop := TK T n p b e k ∧ V 0 5 = nI b ∧ V 0 4 = nI e ∧ V 0 6 = nI k ∧ (k = 1 → U 0 7 = pkA T b (e - b)) ∧ (k = 2 → V 0 8 = dgA T b (e - b))
section P0
variable {G : GG} {σ : Hp} {m : Nat} {V : VT} {U : UT}
set_option maxRecDepth 100000 in
theorem sm_signAt (hM : MS σ m) {n k : Nat} (hn : V 0 3 = nI n) (hn2 : n ≤ 1000) (hk : k ≤ n) : Sp G mX10_signAt 0 [.ref m, .int (nI k)] (sv σ m V U) (fun rv σ' => rv = some (.int (if k < n then V 1 k else 0)) ∧ σ' = sv σ m V U) := by
  have D := dat dl_X10_signAt
  show HT G mX10_signAt 0 [some (.ref m), some (.int (nI k))] [] (sv σ m V U) 0 _
  refine ht_iload_n (D 0 rfl) rfl rfl ?_
  refine ht_aload_n (D 1 rfl) rfl rfl ?_
  refine gm_X10_144 hM rfl (D 2 rfl) ?_
  rw [hn]
  refine ht_icmp_ge (tgt := 17) (D 3 rfl) (by decide) (fun hb5 => ?_) (fun hb5 => ?_)
  · skip
    have hkn : ¬ k < n := by have h9 := (nI_leI (a := n) (b := k) (by omega) (by omega)).mp hb5; omega
    refine ht_iconst (v := 0) (D 9 rfl) (by decide) ?_
    refine ht_iret (D 10 rfl) rfl rfl ?_
    first | exact ⟨by rw [if_pos hkn], rfl⟩ | exact ⟨by rw [if_neg hkn], rfl⟩
  · skip
    have hkn : k < n := by have h9 := mt (nI_leI (a := n) (b := k) (by omega) (by omega)).mpr hb5; omega
    refine ht_aload_n (D 4 rfl) rfl rfl ?_
    refine gf_X10_7 rfl (D 5 rfl) hM.k0 hM.q1 ?_
    refine ht_iload_n (D 6 rfl) rfl rfl ?_
    refine hm_ild (o := 1) (n := k) (by decide) (D 7 rfl) hM.k1 hM.n1 (by first | rfl | exact nI_add _ _ | assumption) (by omega) (by decide) ?_
    refine ht_goto (tgt := 18) (D 8 rfl) (by decide) ?_
    refine ht_iret (D 10 rfl) rfl rfl ?_
    first | exact ⟨by rw [if_pos hkn], rfl⟩ | exact ⟨by rw [if_neg hkn], rfl⟩
theorem nI_subb {b e : Nat} (h : b ≤ e) : nI e - nI b = nI (e - b) := by
  have e1 : e = b + (e - b) := by omega
  rw [e1, ← nI_add, show b + (e - b) - b = e - b by omega, Int32.add_comm, Int32.add_sub_cancel]
set_option maxRecDepth 100000 in
set_option maxHeartbeats 1000000 in
theorem sm_ntA (hM : MS σ m) {T : ST} {n p b : Nat} (hV : V 1 = T) (hn : V 0 3 = nI n) (hn2 : n ≤ 1000) (hTK : ∀ e k, Rn T n 97 122 b e → (e - b ≤ 8 ∧ k = 1) ∨ (8 < e - b ∧ k = 4) → TK T n p b e k) {s : Int32} : ∀ (r e : Nat) (V1 : VT) (U1 : UT), NF V V1 → NU U U1 → V1 0 4 = nI e → V1 0 5 = nI b → U1 0 7 = pkA T b (e - b) → b ≤ e → e ≤ n → (∀ i, b ≤ i → i < e → Rg 97 122 (T i)) → n - e = r → HT G mX10_nextToken 109 [some (.ref m), some (.int s)] [] (sv σ m V1 U1) 1 (fun rv σ' => rv = none ∧ ∃ (V' : VT) (U' : UT) (b e k : Nat), σ' = sv σ m V' U' ∧ NF V V' ∧ NU U U' ∧ RT T n p b e k V' U') := by
  have D := dat dl_X10_nextToken
  intro r
  induction r using Nat.strongRecOn with
  | _ r ih =>
    intro e V1 U1 hF hU h4 h5 ha hbe hen hall hr
    have hV1 : V1 1 e = T e := by rw [hF.1 1 (by decide), hV]
    refine ht_aload_n (D 57 rfl) rfl rfl ?_
    refine ht_aload_n (D 58 rfl) rfl rfl ?_
    refine gm_X10_147 hM rfl (D 59 rfl) ?_
    rw [h4]
    refine kVX10_signAt (As := [_]) cl_X10_163 (D 60 rfl) (sm_signAt hM (n := n) (k := e) (by rw [hF.2 3 (by decide) (by decide) (by decide) (by decide)]; exact hn) hn2 (by omega)) hM.k0 rfl (Nat.le_of_ble_eq_true rfl) rfl (Nat.le_of_ble_eq_true rfl) (by omega) ?_
    rintro rv σ1 ⟨rfl, rfl⟩
    refine ht_bipush (v := 97) (D 61 rfl) (by decide) ?_
    refine ht_icmp_lt (tgt := 188) (D 62 rfl) (by decide) (fun hb119 => ?_) (fun hb119 => ?_)
    · skip
      have hfin : e < n → ¬ Rg 97 122 (T e) := by
        intro hte q
        have q1 := q.1
        rw [if_pos hte, hV1] at hb119
        exact Int32.not_le.mpr hb119 q1
      refine ht_aload_n (D 97 rfl) rfl rfl ?_
      refine ht_aload_n (D 98 rfl) rfl rfl ?_
      refine gm_X10_147 hM rfl (D 99 rfl) ?_
      refine ht_aload_n (D 100 rfl) rfl rfl ?_
      refine gm_X10_150 hM rfl (D 101 rfl) ?_
      rw [h4, h5]
      refine ht_isub (D 102 rfl) ?_
      rw [nI_subb hbe]
      refine ht_bipush (v := 8) (D 103 rfl) (by decide) ?_
      refine ht_icmp_le (tgt := 207) (D 104 rfl) (by decide) (fun hb200 => ?_) (fun hb200 => ?_)
      · skip
        have hle : e - b ≤ 8 := (nI_leI (a := e - b) (b := 8) (by omega) (by omega)).mp hb200
        refine ht_iconst (v := 1) (D 107 rfl) (by decide) ?_
        refine pm_X10_160 hM rfl (D 108 rfl) ?_
        refine ht_vret (D 109 rfl) rfl ?_
        first | exact ⟨rfl, _, U1, b, e, 1, rfl, NF_up hF (by omega) _, hU, hTK e 1 ⟨hbe, hen, hall, hfin⟩ (Or.inl ⟨hle, rfl⟩), (up2_k _ _ (by decide)).trans h5, (up2_k _ _ (by decide)).trans h4, up2_s _ _ _ _, fun q => ha, fun q => absurd q (by decide)⟩ | exact ⟨rfl, _, U1, b, e, 4, rfl, NF_up hF (by omega) _, hU, hTK e 4 ⟨hbe, hen, hall, hfin⟩ (Or.inr ⟨hgt, rfl⟩), (up2_k _ _ (by decide)).trans h5, (up2_k _ _ (by decide)).trans h4, up2_s _ _ _ _, fun q => absurd q (by decide), fun q => absurd q (by decide)⟩
      · skip
        have hgt : 8 < e - b := by have h9 := mt (nI_leI (a := e - b) (b := 8) (by omega) (by omega)).mpr hb200; omega
        refine ht_iconst (v := 4) (D 105 rfl) (by decide) ?_
        refine ht_goto (tgt := 208) (D 106 rfl) (by decide) ?_
        refine pm_X10_160 hM rfl (D 108 rfl) ?_
        refine ht_vret (D 109 rfl) rfl ?_
        first | exact ⟨rfl, _, U1, b, e, 1, rfl, NF_up hF (by omega) _, hU, hTK e 1 ⟨hbe, hen, hall, hfin⟩ (Or.inl ⟨hle, rfl⟩), (up2_k _ _ (by decide)).trans h5, (up2_k _ _ (by decide)).trans h4, up2_s _ _ _ _, fun q => ha, fun q => absurd q (by decide)⟩ | exact ⟨rfl, _, U1, b, e, 4, rfl, NF_up hF (by omega) _, hU, hTK e 4 ⟨hbe, hen, hall, hfin⟩ (Or.inr ⟨hgt, rfl⟩), (up2_k _ _ (by decide)).trans h5, (up2_k _ _ (by decide)).trans h4, up2_s _ _ _ _, fun q => absurd q (by decide), fun q => absurd q (by decide)⟩
    · skip
      have hte : e < n := by
        rcases Nat.lt_or_ge e n with c | c
        · exact c
        · rw [if_neg (by omega)] at hb119
          exact absurd (by decide) hb119
      rw [if_pos hte, hV1] at hb119
      refine ht_aload_n (D 63 rfl) rfl rfl ?_
      refine ht_aload_n (D 64 rfl) rfl rfl ?_
      refine gm_X10_147 hM rfl (D 65 rfl) ?_
      rw [h4]
      refine kVX10_signAt (As := [_]) cl_X10_163 (D 66 rfl) (sm_signAt hM (n := n) (k := e) (by rw [hF.2 3 (by decide) (by decide) (by decide) (by decide)]; exact hn) hn2 (by omega)) hM.k0 rfl (Nat.le_of_ble_eq_true rfl) rfl (Nat.le_of_ble_eq_true rfl) (by omega) ?_
      rintro rv σ1 ⟨rfl, rfl⟩
      refine ht_bipush (v := 122) (D 67 rfl) (by decide) ?_
      refine ht_icmp_gt (tgt := 188) (D 68 rfl) (by decide) (fun hb132 => ?_) (fun hb132 => ?_)
      · skip
        rw [if_pos hte, hV1] at hb132
        have hfin : e < n → ¬ Rg 97 122 (T e) := fun _ q => Int32.not_le.mpr hb132 q.2
        refine ht_aload_n (D 97 rfl) rfl rfl ?_
        refine ht_aload_n (D 98 rfl) rfl rfl ?_
        refine gm_X10_147 hM rfl (D 99 rfl) ?_
        refine ht_aload_n (D 100 rfl) rfl rfl ?_
        refine gm_X10_150 hM rfl (D 101 rfl) ?_
        rw [h4, h5]
        refine ht_isub (D 102 rfl) ?_
        rw [nI_subb hbe]
        refine ht_bipush (v := 8) (D 103 rfl) (by decide) ?_
        refine ht_icmp_le (tgt := 207) (D 104 rfl) (by decide) (fun hb200 => ?_) (fun hb200 => ?_)
        · skip
          have hle : e - b ≤ 8 := (nI_leI (a := e - b) (b := 8) (by omega) (by omega)).mp hb200
          refine ht_iconst (v := 1) (D 107 rfl) (by decide) ?_
          refine pm_X10_160 hM rfl (D 108 rfl) ?_
          refine ht_vret (D 109 rfl) rfl ?_
          first | exact ⟨rfl, _, U1, b, e, 1, rfl, NF_up hF (by omega) _, hU, hTK e 1 ⟨hbe, hen, hall, hfin⟩ (Or.inl ⟨hle, rfl⟩), (up2_k _ _ (by decide)).trans h5, (up2_k _ _ (by decide)).trans h4, up2_s _ _ _ _, fun q => ha, fun q => absurd q (by decide)⟩ | exact ⟨rfl, _, U1, b, e, 4, rfl, NF_up hF (by omega) _, hU, hTK e 4 ⟨hbe, hen, hall, hfin⟩ (Or.inr ⟨hgt, rfl⟩), (up2_k _ _ (by decide)).trans h5, (up2_k _ _ (by decide)).trans h4, up2_s _ _ _ _, fun q => absurd q (by decide), fun q => absurd q (by decide)⟩
        · skip
          have hgt : 8 < e - b := by have h9 := mt (nI_leI (a := e - b) (b := 8) (by omega) (by omega)).mpr hb200; omega
          refine ht_iconst (v := 4) (D 105 rfl) (by decide) ?_
          refine ht_goto (tgt := 208) (D 106 rfl) (by decide) ?_
          refine pm_X10_160 hM rfl (D 108 rfl) ?_
          refine ht_vret (D 109 rfl) rfl ?_
          first | exact ⟨rfl, _, U1, b, e, 1, rfl, NF_up hF (by omega) _, hU, hTK e 1 ⟨hbe, hen, hall, hfin⟩ (Or.inl ⟨hle, rfl⟩), (up2_k _ _ (by decide)).trans h5, (up2_k _ _ (by decide)).trans h4, up2_s _ _ _ _, fun q => ha, fun q => absurd q (by decide)⟩ | exact ⟨rfl, _, U1, b, e, 4, rfl, NF_up hF (by omega) _, hU, hTK e 4 ⟨hbe, hen, hall, hfin⟩ (Or.inr ⟨hgt, rfl⟩), (up2_k _ _ (by decide)).trans h5, (up2_k _ _ (by decide)).trans h4, up2_s _ _ _ _, fun q => absurd q (by decide), fun q => absurd q (by decide)⟩
      · skip
        rw [if_pos hte, hV1] at hb132
        have hin : Rg 97 122 (T e) := ⟨Int32.not_lt.mp hb119, Int32.not_lt.mp hb132⟩
        have hall2 : ∀ i, b ≤ i → i < e + 1 → Rg 97 122 (T i) := fun i q1 q2 => by
          by_cases q3 : i = e
          · rw [q3]; exact hin
          · exact hall i q1 (by omega)
        refine ht_aload_n (D 69 rfl) rfl rfl ?_
        refine gm_X10_147 hM rfl (D 70 rfl) ?_
        refine ht_aload_n (D 71 rfl) rfl rfl ?_
        refine gm_X10_150 hM rfl (D 72 rfl) ?_
        rw [h4, h5]
        refine ht_isub (D 73 rfl) ?_
        rw [nI_subb hbe]
        refine ht_bipush (v := 8) (D 74 rfl) (by decide) ?_
        refine ht_icmp_ge (tgt := 175) (D 75 rfl) (by decide) (fun hb146 => ?_) (fun hb146 => ?_)
        · skip
          have hcp : ¬ e - b < 8 := by have h9 := (nI_leI (a := 8) (b := e - b) (by omega) (by omega)).mp hb146; omega
          have hacc : pkA T b (e + 1 - b) = pkA T b (e - b) := by rw [show e + 1 - b = (e - b) + 1 by omega]; exact if_neg hcp
          refine ht_aload_n (D 90 rfl) rfl rfl ?_
          refine ht_dup (D 91 rfl) rfl ?_
          refine gm_X10_147 hM rfl (D 92 rfl) ?_
          refine ht_iconst (v := 1) (D 93 rfl) (by decide) ?_
          refine ht_iadd (D 94 rfl) ?_
          refine pm_X10_147 hM rfl (D 95 rfl) ?_
          refine ht_goto (tgt := 109) (D 96 rfl) (by decide) ?_
          first | exact ih (n - (e + 1)) (by omega) (e + 1) _ _ (NF_up hF (by omega) _) hU (by rw [up2_s, h4]; exact nI_1 e) ((up2_k _ _ (by decide)).trans h5) (ha.trans hacc.symm) (by omega) (by omega) hall2 rfl | exact ih (n - (e + 1)) (by omega) (e + 1) _ _ (NF_up hF (by omega) _) (NU_up hU _) (by rw [up2_s, h4]; exact nI_1 e) ((up2_k _ _ (by decide)).trans h5) (by rw [up2_s, if_pos hte, hV1, ha]; exact hacc.symm) (by omega) (by omega) hall2 rfl
        · skip
          have hcp : e - b < 8 := by have h9 := mt (nI_leI (a := 8) (b := e - b) (by omega) (by omega)).mpr hb146; omega
          have hacc : pkA T b (e + 1 - b) = pkA T b (e - b) * 27 + (T e).toInt64 - 96 := by
            rw [show e + 1 - b = (e - b) + 1 by omega]
            show (if _ then _ else _) = _
            rw [if_pos hcp, show b + (e - b) = e by omega]
          refine ht_aload_n (D 76 rfl) rfl rfl ?_
          refine ht_aload_n (D 77 rfl) rfl rfl ?_
          refine gm_X10_153 hM rfl (D 78 rfl) ?_
          refine ht_ldc2 kl_X10_167 (D 79 rfl) ?_
          refine ht_lmul (D 80 rfl) ?_
          refine ht_aload_n (D 81 rfl) rfl rfl ?_
          refine ht_aload_n (D 82 rfl) rfl rfl ?_
          refine gm_X10_147 hM rfl (D 83 rfl) ?_
          rw [h4]
          refine kVX10_signAt (As := [_]) cl_X10_163 (D 84 rfl) (sm_signAt hM (n := n) (k := e) (by rw [hF.2 3 (by decide) (by decide) (by decide) (by decide)]; exact hn) hn2 (by omega)) hM.k0 rfl (Nat.le_of_ble_eq_true rfl) rfl (Nat.le_of_ble_eq_true rfl) (by omega) ?_
          rintro rv σ1 ⟨rfl, rfl⟩
          refine ht_i2l (D 85 rfl) ?_
          refine ht_ladd (D 86 rfl) ?_
          refine ht_ldc2 kl_X10_169 (D 87 rfl) ?_
          refine ht_lsub (D 88 rfl) ?_
          refine pm_X10_153 hM rfl (D 89 rfl) ?_
          refine ht_aload_n (D 90 rfl) rfl rfl ?_
          refine ht_dup (D 91 rfl) rfl ?_
          refine gm_X10_147 hM rfl (D 92 rfl) ?_
          refine ht_iconst (v := 1) (D 93 rfl) (by decide) ?_
          refine ht_iadd (D 94 rfl) ?_
          refine pm_X10_147 hM rfl (D 95 rfl) ?_
          refine ht_goto (tgt := 109) (D 96 rfl) (by decide) ?_
          first | exact ih (n - (e + 1)) (by omega) (e + 1) _ _ (NF_up hF (by omega) _) hU (by rw [up2_s, h4]; exact nI_1 e) ((up2_k _ _ (by decide)).trans h5) (ha.trans hacc.symm) (by omega) (by omega) hall2 rfl | exact ih (n - (e + 1)) (by omega) (e + 1) _ _ (NF_up hF (by omega) _) (NU_up hU _) (by rw [up2_s, h4]; exact nI_1 e) ((up2_k _ _ (by decide)).trans h5) (by rw [up2_s, if_pos hte, hV1, ha]; exact hacc.symm) (by omega) (by omega) hall2 rfl
set_option maxRecDepth 100000 in
set_option maxHeartbeats 1000000 in
theorem sm_ntB (hM : MS σ m) {T : ST} {n p b : Nat} (hV : V 1 = T) (hn : V 0 3 = nI n) (hn2 : n ≤ 1000) (hTK : ∀ e k, Rn T n 48 57 b e → (e - b ≤ 4 ∧ k = 2) ∨ (4 < e - b ∧ k = 4) → TK T n p b e k) {s : Int32} : ∀ (r e : Nat) (V1 : VT) (U1 : UT), NF V V1 → NU U U1 → V1 0 4 = nI e → V1 0 5 = nI b → V1 0 8 = dgA T b (e - b) → b ≤ e → e ≤ n → (∀ i, b ≤ i → i < e → Rg 48 57 (T i)) → n - e = r → HT G mX10_nextToken 224 [some (.ref m), some (.int s)] [] (sv σ m V1 U1) 1 (fun rv σ' => rv = none ∧ ∃ (V' : VT) (U' : UT) (b e k : Nat), σ' = sv σ m V' U' ∧ NF V V' ∧ NU U U' ∧ RT T n p b e k V' U') := by
  have D := dat dl_X10_nextToken
  intro r
  induction r using Nat.strongRecOn with
  | _ r ih =>
    intro e V1 U1 hF hU h4 h5 ha hbe hen hall hr
    have hV1 : V1 1 e = T e := by rw [hF.1 1 (by decide), hV]
    refine ht_aload_n (D 116 rfl) rfl rfl ?_
    refine ht_aload_n (D 117 rfl) rfl rfl ?_
    refine gm_X10_147 hM rfl (D 118 rfl) ?_
    rw [h4]
    refine kVX10_signAt (As := [_]) cl_X10_163 (D 119 rfl) (sm_signAt hM (n := n) (k := e) (by rw [hF.2 3 (by decide) (by decide) (by decide) (by decide)]; exact hn) hn2 (by omega)) hM.k0 rfl (Nat.le_of_ble_eq_true rfl) rfl (Nat.le_of_ble_eq_true rfl) (by omega) ?_
    rintro rv σ1 ⟨rfl, rfl⟩
    refine ht_bipush (v := 48) (D 120 rfl) (by decide) ?_
    refine ht_icmp_lt (tgt := 299) (D 121 rfl) (by decide) (fun hb234 => ?_) (fun hb234 => ?_)
    · skip
      have hfin : e < n → ¬ Rg 48 57 (T e) := by
        intro hte q
        have q1 := q.1
        rw [if_pos hte, hV1] at hb234
        exact Int32.not_le.mpr hb234 q1
      refine ht_aload_n (D 155 rfl) rfl rfl ?_
      refine ht_aload_n (D 156 rfl) rfl rfl ?_
      refine gm_X10_147 hM rfl (D 157 rfl) ?_
      refine ht_aload_n (D 158 rfl) rfl rfl ?_
      refine gm_X10_150 hM rfl (D 159 rfl) ?_
      rw [h4, h5]
      refine ht_isub (D 160 rfl) ?_
      rw [nI_subb hbe]
      refine ht_iconst (v := 4) (D 161 rfl) (by decide) ?_
      refine ht_icmp_le (tgt := 317) (D 162 rfl) (by decide) (fun hb310 => ?_) (fun hb310 => ?_)
      · skip
        have hle : e - b ≤ 4 := (nI_leI (a := e - b) (b := 4) (by omega) (by omega)).mp hb310
        refine ht_iconst (v := 2) (D 165 rfl) (by decide) ?_
        refine pm_X10_160 hM rfl (D 166 rfl) ?_
        refine ht_vret (D 167 rfl) rfl ?_
        first | exact ⟨rfl, _, U1, b, e, 2, rfl, NF_up hF (by omega) _, hU, hTK e 2 ⟨hbe, hen, hall, hfin⟩ (Or.inl ⟨hle, rfl⟩), (up2_k _ _ (by decide)).trans h5, (up2_k _ _ (by decide)).trans h4, up2_s _ _ _ _, fun q => absurd q (by decide), fun q => (up2_k _ _ (by decide)).trans ha⟩ | exact ⟨rfl, _, U1, b, e, 4, rfl, NF_up hF (by omega) _, hU, hTK e 4 ⟨hbe, hen, hall, hfin⟩ (Or.inr ⟨hgt, rfl⟩), (up2_k _ _ (by decide)).trans h5, (up2_k _ _ (by decide)).trans h4, up2_s _ _ _ _, fun q => absurd q (by decide), fun q => absurd q (by decide)⟩
      · skip
        have hgt : 4 < e - b := by have h9 := mt (nI_leI (a := e - b) (b := 4) (by omega) (by omega)).mpr hb310; omega
        refine ht_iconst (v := 4) (D 163 rfl) (by decide) ?_
        refine ht_goto (tgt := 318) (D 164 rfl) (by decide) ?_
        refine pm_X10_160 hM rfl (D 166 rfl) ?_
        refine ht_vret (D 167 rfl) rfl ?_
        first | exact ⟨rfl, _, U1, b, e, 2, rfl, NF_up hF (by omega) _, hU, hTK e 2 ⟨hbe, hen, hall, hfin⟩ (Or.inl ⟨hle, rfl⟩), (up2_k _ _ (by decide)).trans h5, (up2_k _ _ (by decide)).trans h4, up2_s _ _ _ _, fun q => absurd q (by decide), fun q => (up2_k _ _ (by decide)).trans ha⟩ | exact ⟨rfl, _, U1, b, e, 4, rfl, NF_up hF (by omega) _, hU, hTK e 4 ⟨hbe, hen, hall, hfin⟩ (Or.inr ⟨hgt, rfl⟩), (up2_k _ _ (by decide)).trans h5, (up2_k _ _ (by decide)).trans h4, up2_s _ _ _ _, fun q => absurd q (by decide), fun q => absurd q (by decide)⟩
    · skip
      have hte : e < n := by
        rcases Nat.lt_or_ge e n with c | c
        · exact c
        · rw [if_neg (by omega)] at hb234
          exact absurd (by decide) hb234
      rw [if_pos hte, hV1] at hb234
      refine ht_aload_n (D 122 rfl) rfl rfl ?_
      refine ht_aload_n (D 123 rfl) rfl rfl ?_
      refine gm_X10_147 hM rfl (D 124 rfl) ?_
      rw [h4]
      refine kVX10_signAt (As := [_]) cl_X10_163 (D 125 rfl) (sm_signAt hM (n := n) (k := e) (by rw [hF.2 3 (by decide) (by decide) (by decide) (by decide)]; exact hn) hn2 (by omega)) hM.k0 rfl (Nat.le_of_ble_eq_true rfl) rfl (Nat.le_of_ble_eq_true rfl) (by omega) ?_
      rintro rv σ1 ⟨rfl, rfl⟩
      refine ht_bipush (v := 57) (D 126 rfl) (by decide) ?_
      refine ht_icmp_gt (tgt := 299) (D 127 rfl) (by decide) (fun hb247 => ?_) (fun hb247 => ?_)
      · skip
        rw [if_pos hte, hV1] at hb247
        have hfin : e < n → ¬ Rg 48 57 (T e) := fun _ q => Int32.not_le.mpr hb247 q.2
        refine ht_aload_n (D 155 rfl) rfl rfl ?_
        refine ht_aload_n (D 156 rfl) rfl rfl ?_
        refine gm_X10_147 hM rfl (D 157 rfl) ?_
        refine ht_aload_n (D 158 rfl) rfl rfl ?_
        refine gm_X10_150 hM rfl (D 159 rfl) ?_
        rw [h4, h5]
        refine ht_isub (D 160 rfl) ?_
        rw [nI_subb hbe]
        refine ht_iconst (v := 4) (D 161 rfl) (by decide) ?_
        refine ht_icmp_le (tgt := 317) (D 162 rfl) (by decide) (fun hb310 => ?_) (fun hb310 => ?_)
        · skip
          have hle : e - b ≤ 4 := (nI_leI (a := e - b) (b := 4) (by omega) (by omega)).mp hb310
          refine ht_iconst (v := 2) (D 165 rfl) (by decide) ?_
          refine pm_X10_160 hM rfl (D 166 rfl) ?_
          refine ht_vret (D 167 rfl) rfl ?_
          first | exact ⟨rfl, _, U1, b, e, 2, rfl, NF_up hF (by omega) _, hU, hTK e 2 ⟨hbe, hen, hall, hfin⟩ (Or.inl ⟨hle, rfl⟩), (up2_k _ _ (by decide)).trans h5, (up2_k _ _ (by decide)).trans h4, up2_s _ _ _ _, fun q => absurd q (by decide), fun q => (up2_k _ _ (by decide)).trans ha⟩ | exact ⟨rfl, _, U1, b, e, 4, rfl, NF_up hF (by omega) _, hU, hTK e 4 ⟨hbe, hen, hall, hfin⟩ (Or.inr ⟨hgt, rfl⟩), (up2_k _ _ (by decide)).trans h5, (up2_k _ _ (by decide)).trans h4, up2_s _ _ _ _, fun q => absurd q (by decide), fun q => absurd q (by decide)⟩
        · skip
          have hgt : 4 < e - b := by have h9 := mt (nI_leI (a := e - b) (b := 4) (by omega) (by omega)).mpr hb310; omega
          refine ht_iconst (v := 4) (D 163 rfl) (by decide) ?_
          refine ht_goto (tgt := 318) (D 164 rfl) (by decide) ?_
          refine pm_X10_160 hM rfl (D 166 rfl) ?_
          refine ht_vret (D 167 rfl) rfl ?_
          first | exact ⟨rfl, _, U1, b, e, 2, rfl, NF_up hF (by omega) _, hU, hTK e 2 ⟨hbe, hen, hall, hfin⟩ (Or.inl ⟨hle, rfl⟩), (up2_k _ _ (by decide)).trans h5, (up2_k _ _ (by decide)).trans h4, up2_s _ _ _ _, fun q => absurd q (by decide), fun q => (up2_k _ _ (by decide)).trans ha⟩ | exact ⟨rfl, _, U1, b, e, 4, rfl, NF_up hF (by omega) _, hU, hTK e 4 ⟨hbe, hen, hall, hfin⟩ (Or.inr ⟨hgt, rfl⟩), (up2_k _ _ (by decide)).trans h5, (up2_k _ _ (by decide)).trans h4, up2_s _ _ _ _, fun q => absurd q (by decide), fun q => absurd q (by decide)⟩
      · skip
        rw [if_pos hte, hV1] at hb247
        have hin : Rg 48 57 (T e) := ⟨Int32.not_lt.mp hb234, Int32.not_lt.mp hb247⟩
        have hall2 : ∀ i, b ≤ i → i < e + 1 → Rg 48 57 (T i) := fun i q1 q2 => by
          by_cases q3 : i = e
          · rw [q3]; exact hin
          · exact hall i q1 (by omega)
        refine ht_aload_n (D 128 rfl) rfl rfl ?_
        refine gm_X10_147 hM rfl (D 129 rfl) ?_
        refine ht_aload_n (D 130 rfl) rfl rfl ?_
        refine gm_X10_150 hM rfl (D 131 rfl) ?_
        rw [h4, h5]
        refine ht_isub (D 132 rfl) ?_
        rw [nI_subb hbe]
        refine ht_iconst (v := 4) (D 133 rfl) (by decide) ?_
        refine ht_icmp_ge (tgt := 286) (D 134 rfl) (by decide) (fun hb260 => ?_) (fun hb260 => ?_)
        · skip
          have hcp : ¬ e - b < 4 := by have h9 := (nI_leI (a := 4) (b := e - b) (by omega) (by omega)).mp hb260; omega
          have hacc : dgA T b (e + 1 - b) = dgA T b (e - b) := by rw [show e + 1 - b = (e - b) + 1 by omega]; exact if_neg hcp
          refine ht_aload_n (D 148 rfl) rfl rfl ?_
          refine ht_dup (D 149 rfl) rfl ?_
          refine gm_X10_147 hM rfl (D 150 rfl) ?_
          refine ht_iconst (v := 1) (D 151 rfl) (by decide) ?_
          refine ht_iadd (D 152 rfl) ?_
          refine pm_X10_147 hM rfl (D 153 rfl) ?_
          refine ht_goto (tgt := 224) (D 154 rfl) (by decide) ?_
          first | exact ih (n - (e + 1)) (by omega) (e + 1) _ _ (NF_up hF (by omega) _) hU (by rw [up2_s, h4]; exact nI_1 e) ((up2_k _ _ (by decide)).trans h5) ((up2_k _ _ (by decide)).trans (ha.trans hacc.symm)) (by omega) (by omega) hall2 rfl | exact ih (n - (e + 1)) (by omega) (e + 1) _ _ (NF_up (NF_up hF (by omega) _) (by omega) _) hU (by rw [up2_s, up2_k _ _ (by decide), h4]; exact nI_1 e) ((up2_k _ _ (by decide)).trans ((up2_k _ _ (by decide)).trans h5)) (by rw [up2_k _ _ (by decide), up2_s, if_pos hte, hV1, ha]; exact hacc.symm) (by omega) (by omega) hall2 rfl
        · skip
          have hcp : e - b < 4 := by have h9 := mt (nI_leI (a := 4) (b := e - b) (by omega) (by omega)).mpr hb260; omega
          have hacc : dgA T b (e + 1 - b) = dgA T b (e - b) * 10 + T e - 48 := by
            rw [show e + 1 - b = (e - b) + 1 by omega]
            show (if _ then _ else _) = _
            rw [if_pos hcp, show b + (e - b) = e by omega]
          refine ht_aload_n (D 135 rfl) rfl rfl ?_
          refine ht_aload_n (D 136 rfl) rfl rfl ?_
          refine gm_X10_157 hM rfl (D 137 rfl) ?_
          refine ht_bipush (v := 10) (D 138 rfl) (by decide) ?_
          refine ht_imul (D 139 rfl) ?_
          refine ht_aload_n (D 140 rfl) rfl rfl ?_
          refine ht_aload_n (D 141 rfl) rfl rfl ?_
          refine gm_X10_147 hM rfl (D 142 rfl) ?_
          rw [h4]
          refine kVX10_signAt (As := [_]) cl_X10_163 (D 143 rfl) (sm_signAt hM (n := n) (k := e) (by rw [hF.2 3 (by decide) (by decide) (by decide) (by decide)]; exact hn) hn2 (by omega)) hM.k0 rfl (Nat.le_of_ble_eq_true rfl) rfl (Nat.le_of_ble_eq_true rfl) (by omega) ?_
          rintro rv σ1 ⟨rfl, rfl⟩
          refine ht_iadd (D 144 rfl) ?_
          refine ht_bipush (v := 48) (D 145 rfl) (by decide) ?_
          refine ht_isub (D 146 rfl) ?_
          refine pm_X10_157 hM rfl (D 147 rfl) ?_
          refine ht_aload_n (D 148 rfl) rfl rfl ?_
          refine ht_dup (D 149 rfl) rfl ?_
          refine gm_X10_147 hM rfl (D 150 rfl) ?_
          refine ht_iconst (v := 1) (D 151 rfl) (by decide) ?_
          refine ht_iadd (D 152 rfl) ?_
          refine pm_X10_147 hM rfl (D 153 rfl) ?_
          refine ht_goto (tgt := 224) (D 154 rfl) (by decide) ?_
          first | exact ih (n - (e + 1)) (by omega) (e + 1) _ _ (NF_up hF (by omega) _) hU (by rw [up2_s, h4]; exact nI_1 e) ((up2_k _ _ (by decide)).trans h5) ((up2_k _ _ (by decide)).trans (ha.trans hacc.symm)) (by omega) (by omega) hall2 rfl | exact ih (n - (e + 1)) (by omega) (e + 1) _ _ (NF_up (NF_up hF (by omega) _) (by omega) _) hU (by rw [up2_s, up2_k _ _ (by decide), h4]; exact nI_1 e) ((up2_k _ _ (by decide)).trans ((up2_k _ _ (by decide)).trans h5)) (by rw [up2_k _ _ (by decide), up2_s, if_pos hte, hV1, ha]; exact hacc.symm) (by omega) (by omega) hall2 rfl
set_option maxRecDepth 100000 in
set_option maxHeartbeats 1000000 in
theorem sm_ntC (hM : MS σ m) {T : ST} {n p b : Nat} (hV : V 1 = T) (hn : V 0 3 = nI n) (hn2 : n ≤ 1000) {l1 : Option Value} {V1 : VT} {U1 : UT} (hSk : Sk T n p b) (hbn : b < n) (hF : NF V V1) (hU : NU U U1) (h4 : V1 0 4 = nI b) (h5 : V1 0 5 = nI b) (h7 : U1 0 7 = 0) (h8 : V1 0 8 = 0) : HT G mX10_nextToken 87 [some (.ref m), l1] [] (sv σ m V1 U1) 1 (fun rv σ' => rv = none ∧ ∃ (V' : VT) (U' : UT) (b e k : Nat), σ' = sv σ m V' U' ∧ NF V V' ∧ NU U U' ∧ RT T n p b e k V' U') := by
  have D := dat dl_X10_nextToken
  have hV1 : V1 1 b = T b := by rw [hF.1 1 (by decide), hV]
  refine ht_aload_n (D 45 rfl) rfl rfl ?_
  refine gf_X10_7 rfl (D 46 rfl) hM.k0 hM.q1 ?_
  refine ht_aload_n (D 47 rfl) rfl rfl ?_
  refine gm_X10_147 hM rfl (D 48 rfl) ?_
  rw [h4]
  refine hm_ild (o := 1) (n := b) (by decide) (D 49 rfl) hM.k1 hM.n1 rfl (by omega) (by decide) ?_
  rw [hV1]
  refine ht_istore_n (D 50 rfl) rfl (by decide) rfl ?_
  refine ht_iload_n (D 51 rfl) rfl rfl ?_
  refine ht_bipush (v := 97) (D 52 rfl) (by decide) ?_
  refine ht_icmp_lt (tgt := 212) (D 53 rfl) (by decide) (fun hb100 => ?_) (fun hb100 => ?_)
  · skip
    have hnl : ¬ Rg 97 122 (T b) := fun q => Int32.not_le.mpr hb100 q.1
    refine ht_iload_n (D 110 rfl) rfl rfl ?_
    refine ht_bipush (v := 48) (D 111 rfl) (by decide) ?_
    refine ht_icmp_lt (tgt := 322) (D 112 rfl) (by decide) (fun hb215 => ?_) (fun hb215 => ?_)
    · skip
      have hnd : ¬ Rg 48 57 (T b) := fun q => Int32.not_le.mpr hb215 q.1
      refine ht_aload_n (D 168 rfl) rfl rfl ?_
      refine ht_dup (D 169 rfl) rfl ?_
      refine gm_X10_147 hM rfl (D 170 rfl) ?_
      rw [h4]
      refine ht_iconst (v := 1) (D 171 rfl) (by decide) ?_
      refine ht_iadd (D 172 rfl) ?_
      refine pm_X10_147 hM rfl (D 173 rfl) ?_
      refine ht_aload_n (D 174 rfl) rfl rfl ?_
      refine ht_iload_n (D 175 rfl) rfl rfl ?_
      refine ht_bipush (v := 40) (D 176 rfl) (by decide) ?_
      refine ht_icmp_lt (tgt := 345) (D 177 rfl) (by decide) (fun hb336 => ?_) (fun hb336 => ?_)
      · skip
        refine ht_iload_n (D 181 rfl) rfl rfl ?_
        refine ht_bipush (v := 45) (D 182 rfl) (by decide) ?_
        refine ht_icmp_eq (tgt := 363) (D 183 rfl) (by decide) (fun hb348 => ?_) (fun hb348 => ?_)
        · skip
          have hsg : sgM (T b) := Or.inr (Or.inl hb348)
          refine ht_iconst (v := 3) (D 190 rfl) (by decide) ?_
          refine ht_goto (tgt := 368) (D 191 rfl) (by decide) ?_
          refine pm_X10_160 hM rfl (D 193 rfl) ?_
          refine ht_vret (D 194 rfl) rfl ?_
          first | exact ⟨rfl, _, U1, b, b + 1, 3, rfl, NF_up (NF_up hF (by omega) _) (by omega) _, hU, ⟨hSk, Or.inr (Or.inr (Or.inr ⟨hbn, hnl, hnd, rfl, Or.inl ⟨hsg, rfl⟩⟩))⟩, by rw [up2_k _ _ (by decide), up2_k _ _ (by decide)]; exact h5, by rw [up2_k _ _ (by decide), up2_s]; exact nI_1 b, up2_s _ _ _ _, fun q => absurd q (by decide), fun q => absurd q (by decide)⟩ | exact ⟨rfl, _, U1, b, b + 1, 4, rfl, NF_up (NF_up hF (by omega) _) (by omega) _, hU, ⟨hSk, Or.inr (Or.inr (Or.inr ⟨hbn, hnl, hnd, rfl, Or.inr ⟨hsn, rfl⟩⟩))⟩, by rw [up2_k _ _ (by decide), up2_k _ _ (by decide)]; exact h5, by rw [up2_k _ _ (by decide), up2_s]; exact nI_1 b, up2_s _ _ _ _, fun q => absurd q (by decide), fun q => absurd q (by decide)⟩
        · skip
          refine ht_iload_n (D 184 rfl) rfl rfl ?_
          refine ht_bipush (v := 59) (D 185 rfl) (by decide) ?_
          refine ht_icmp_lt (tgt := 367) (D 186 rfl) (by decide) (fun hb354 => ?_) (fun hb354 => ?_)
          · skip
            have hsn : ¬ sgM (T b) := fun q => by
              rcases q with q | q | q
              · first | exact hb342 q.2 | exact Int32.not_le.mpr hb336 q.1
              · exact hb348 q
              · exact Int32.not_le.mpr hb354 q.1
            refine ht_iconst (v := 4) (D 192 rfl) (by decide) ?_
            refine pm_X10_160 hM rfl (D 193 rfl) ?_
            refine ht_vret (D 194 rfl) rfl ?_
            first | exact ⟨rfl, _, U1, b, b + 1, 3, rfl, NF_up (NF_up hF (by omega) _) (by omega) _, hU, ⟨hSk, Or.inr (Or.inr (Or.inr ⟨hbn, hnl, hnd, rfl, Or.inl ⟨hsg, rfl⟩⟩))⟩, by rw [up2_k _ _ (by decide), up2_k _ _ (by decide)]; exact h5, by rw [up2_k _ _ (by decide), up2_s]; exact nI_1 b, up2_s _ _ _ _, fun q => absurd q (by decide), fun q => absurd q (by decide)⟩ | exact ⟨rfl, _, U1, b, b + 1, 4, rfl, NF_up (NF_up hF (by omega) _) (by omega) _, hU, ⟨hSk, Or.inr (Or.inr (Or.inr ⟨hbn, hnl, hnd, rfl, Or.inr ⟨hsn, rfl⟩⟩))⟩, by rw [up2_k _ _ (by decide), up2_k _ _ (by decide)]; exact h5, by rw [up2_k _ _ (by decide), up2_s]; exact nI_1 b, up2_s _ _ _ _, fun q => absurd q (by decide), fun q => absurd q (by decide)⟩
          · skip
            refine ht_iload_n (D 187 rfl) rfl rfl ?_
            refine ht_bipush (v := 61) (D 188 rfl) (by decide) ?_
            refine ht_icmp_gt (tgt := 367) (D 189 rfl) (by decide) (fun hb360 => ?_) (fun hb360 => ?_)
            · skip
              have hsn : ¬ sgM (T b) := fun q => by
                rcases q with q | q | q
                · first | exact hb342 q.2 | exact Int32.not_le.mpr hb336 q.1
                · exact hb348 q
                · exact Int32.not_le.mpr hb360 q.2
              refine ht_iconst (v := 4) (D 192 rfl) (by decide) ?_
              refine pm_X10_160 hM rfl (D 193 rfl) ?_
              refine ht_vret (D 194 rfl) rfl ?_
              first | exact ⟨rfl, _, U1, b, b + 1, 3, rfl, NF_up (NF_up hF (by omega) _) (by omega) _, hU, ⟨hSk, Or.inr (Or.inr (Or.inr ⟨hbn, hnl, hnd, rfl, Or.inl ⟨hsg, rfl⟩⟩))⟩, by rw [up2_k _ _ (by decide), up2_k _ _ (by decide)]; exact h5, by rw [up2_k _ _ (by decide), up2_s]; exact nI_1 b, up2_s _ _ _ _, fun q => absurd q (by decide), fun q => absurd q (by decide)⟩ | exact ⟨rfl, _, U1, b, b + 1, 4, rfl, NF_up (NF_up hF (by omega) _) (by omega) _, hU, ⟨hSk, Or.inr (Or.inr (Or.inr ⟨hbn, hnl, hnd, rfl, Or.inr ⟨hsn, rfl⟩⟩))⟩, by rw [up2_k _ _ (by decide), up2_k _ _ (by decide)]; exact h5, by rw [up2_k _ _ (by decide), up2_s]; exact nI_1 b, up2_s _ _ _ _, fun q => absurd q (by decide), fun q => absurd q (by decide)⟩
            · skip
              have hsg : sgM (T b) := Or.inr (Or.inr ⟨Int32.not_lt.mp hb354, Int32.not_lt.mp hb360⟩)
              refine ht_iconst (v := 3) (D 190 rfl) (by decide) ?_
              refine ht_goto (tgt := 368) (D 191 rfl) (by decide) ?_
              refine pm_X10_160 hM rfl (D 193 rfl) ?_
              refine ht_vret (D 194 rfl) rfl ?_
              first | exact ⟨rfl, _, U1, b, b + 1, 3, rfl, NF_up (NF_up hF (by omega) _) (by omega) _, hU, ⟨hSk, Or.inr (Or.inr (Or.inr ⟨hbn, hnl, hnd, rfl, Or.inl ⟨hsg, rfl⟩⟩))⟩, by rw [up2_k _ _ (by decide), up2_k _ _ (by decide)]; exact h5, by rw [up2_k _ _ (by decide), up2_s]; exact nI_1 b, up2_s _ _ _ _, fun q => absurd q (by decide), fun q => absurd q (by decide)⟩ | exact ⟨rfl, _, U1, b, b + 1, 4, rfl, NF_up (NF_up hF (by omega) _) (by omega) _, hU, ⟨hSk, Or.inr (Or.inr (Or.inr ⟨hbn, hnl, hnd, rfl, Or.inr ⟨hsn, rfl⟩⟩))⟩, by rw [up2_k _ _ (by decide), up2_k _ _ (by decide)]; exact h5, by rw [up2_k _ _ (by decide), up2_s]; exact nI_1 b, up2_s _ _ _ _, fun q => absurd q (by decide), fun q => absurd q (by decide)⟩
      · skip
        refine ht_iload_n (D 178 rfl) rfl rfl ?_
        refine ht_bipush (v := 43) (D 179 rfl) (by decide) ?_
        refine ht_icmp_le (tgt := 363) (D 180 rfl) (by decide) (fun hb342 => ?_) (fun hb342 => ?_)
        · skip
          have hsg : sgM (T b) := Or.inl ⟨Int32.not_lt.mp hb336, hb342⟩
          refine ht_iconst (v := 3) (D 190 rfl) (by decide) ?_
          refine ht_goto (tgt := 368) (D 191 rfl) (by decide) ?_
          refine pm_X10_160 hM rfl (D 193 rfl) ?_
          refine ht_vret (D 194 rfl) rfl ?_
          first | exact ⟨rfl, _, U1, b, b + 1, 3, rfl, NF_up (NF_up hF (by omega) _) (by omega) _, hU, ⟨hSk, Or.inr (Or.inr (Or.inr ⟨hbn, hnl, hnd, rfl, Or.inl ⟨hsg, rfl⟩⟩))⟩, by rw [up2_k _ _ (by decide), up2_k _ _ (by decide)]; exact h5, by rw [up2_k _ _ (by decide), up2_s]; exact nI_1 b, up2_s _ _ _ _, fun q => absurd q (by decide), fun q => absurd q (by decide)⟩ | exact ⟨rfl, _, U1, b, b + 1, 4, rfl, NF_up (NF_up hF (by omega) _) (by omega) _, hU, ⟨hSk, Or.inr (Or.inr (Or.inr ⟨hbn, hnl, hnd, rfl, Or.inr ⟨hsn, rfl⟩⟩))⟩, by rw [up2_k _ _ (by decide), up2_k _ _ (by decide)]; exact h5, by rw [up2_k _ _ (by decide), up2_s]; exact nI_1 b, up2_s _ _ _ _, fun q => absurd q (by decide), fun q => absurd q (by decide)⟩
        · skip
          refine ht_iload_n (D 181 rfl) rfl rfl ?_
          refine ht_bipush (v := 45) (D 182 rfl) (by decide) ?_
          refine ht_icmp_eq (tgt := 363) (D 183 rfl) (by decide) (fun hb348 => ?_) (fun hb348 => ?_)
          · skip
            have hsg : sgM (T b) := Or.inr (Or.inl hb348)
            refine ht_iconst (v := 3) (D 190 rfl) (by decide) ?_
            refine ht_goto (tgt := 368) (D 191 rfl) (by decide) ?_
            refine pm_X10_160 hM rfl (D 193 rfl) ?_
            refine ht_vret (D 194 rfl) rfl ?_
            first | exact ⟨rfl, _, U1, b, b + 1, 3, rfl, NF_up (NF_up hF (by omega) _) (by omega) _, hU, ⟨hSk, Or.inr (Or.inr (Or.inr ⟨hbn, hnl, hnd, rfl, Or.inl ⟨hsg, rfl⟩⟩))⟩, by rw [up2_k _ _ (by decide), up2_k _ _ (by decide)]; exact h5, by rw [up2_k _ _ (by decide), up2_s]; exact nI_1 b, up2_s _ _ _ _, fun q => absurd q (by decide), fun q => absurd q (by decide)⟩ | exact ⟨rfl, _, U1, b, b + 1, 4, rfl, NF_up (NF_up hF (by omega) _) (by omega) _, hU, ⟨hSk, Or.inr (Or.inr (Or.inr ⟨hbn, hnl, hnd, rfl, Or.inr ⟨hsn, rfl⟩⟩))⟩, by rw [up2_k _ _ (by decide), up2_k _ _ (by decide)]; exact h5, by rw [up2_k _ _ (by decide), up2_s]; exact nI_1 b, up2_s _ _ _ _, fun q => absurd q (by decide), fun q => absurd q (by decide)⟩
          · skip
            refine ht_iload_n (D 184 rfl) rfl rfl ?_
            refine ht_bipush (v := 59) (D 185 rfl) (by decide) ?_
            refine ht_icmp_lt (tgt := 367) (D 186 rfl) (by decide) (fun hb354 => ?_) (fun hb354 => ?_)
            · skip
              have hsn : ¬ sgM (T b) := fun q => by
                rcases q with q | q | q
                · first | exact hb342 q.2 | exact Int32.not_le.mpr hb336 q.1
                · exact hb348 q
                · exact Int32.not_le.mpr hb354 q.1
              refine ht_iconst (v := 4) (D 192 rfl) (by decide) ?_
              refine pm_X10_160 hM rfl (D 193 rfl) ?_
              refine ht_vret (D 194 rfl) rfl ?_
              first | exact ⟨rfl, _, U1, b, b + 1, 3, rfl, NF_up (NF_up hF (by omega) _) (by omega) _, hU, ⟨hSk, Or.inr (Or.inr (Or.inr ⟨hbn, hnl, hnd, rfl, Or.inl ⟨hsg, rfl⟩⟩))⟩, by rw [up2_k _ _ (by decide), up2_k _ _ (by decide)]; exact h5, by rw [up2_k _ _ (by decide), up2_s]; exact nI_1 b, up2_s _ _ _ _, fun q => absurd q (by decide), fun q => absurd q (by decide)⟩ | exact ⟨rfl, _, U1, b, b + 1, 4, rfl, NF_up (NF_up hF (by omega) _) (by omega) _, hU, ⟨hSk, Or.inr (Or.inr (Or.inr ⟨hbn, hnl, hnd, rfl, Or.inr ⟨hsn, rfl⟩⟩))⟩, by rw [up2_k _ _ (by decide), up2_k _ _ (by decide)]; exact h5, by rw [up2_k _ _ (by decide), up2_s]; exact nI_1 b, up2_s _ _ _ _, fun q => absurd q (by decide), fun q => absurd q (by decide)⟩
            · skip
              refine ht_iload_n (D 187 rfl) rfl rfl ?_
              refine ht_bipush (v := 61) (D 188 rfl) (by decide) ?_
              refine ht_icmp_gt (tgt := 367) (D 189 rfl) (by decide) (fun hb360 => ?_) (fun hb360 => ?_)
              · skip
                have hsn : ¬ sgM (T b) := fun q => by
                  rcases q with q | q | q
                  · first | exact hb342 q.2 | exact Int32.not_le.mpr hb336 q.1
                  · exact hb348 q
                  · exact Int32.not_le.mpr hb360 q.2
                refine ht_iconst (v := 4) (D 192 rfl) (by decide) ?_
                refine pm_X10_160 hM rfl (D 193 rfl) ?_
                refine ht_vret (D 194 rfl) rfl ?_
                first | exact ⟨rfl, _, U1, b, b + 1, 3, rfl, NF_up (NF_up hF (by omega) _) (by omega) _, hU, ⟨hSk, Or.inr (Or.inr (Or.inr ⟨hbn, hnl, hnd, rfl, Or.inl ⟨hsg, rfl⟩⟩))⟩, by rw [up2_k _ _ (by decide), up2_k _ _ (by decide)]; exact h5, by rw [up2_k _ _ (by decide), up2_s]; exact nI_1 b, up2_s _ _ _ _, fun q => absurd q (by decide), fun q => absurd q (by decide)⟩ | exact ⟨rfl, _, U1, b, b + 1, 4, rfl, NF_up (NF_up hF (by omega) _) (by omega) _, hU, ⟨hSk, Or.inr (Or.inr (Or.inr ⟨hbn, hnl, hnd, rfl, Or.inr ⟨hsn, rfl⟩⟩))⟩, by rw [up2_k _ _ (by decide), up2_k _ _ (by decide)]; exact h5, by rw [up2_k _ _ (by decide), up2_s]; exact nI_1 b, up2_s _ _ _ _, fun q => absurd q (by decide), fun q => absurd q (by decide)⟩
              · skip
                have hsg : sgM (T b) := Or.inr (Or.inr ⟨Int32.not_lt.mp hb354, Int32.not_lt.mp hb360⟩)
                refine ht_iconst (v := 3) (D 190 rfl) (by decide) ?_
                refine ht_goto (tgt := 368) (D 191 rfl) (by decide) ?_
                refine pm_X10_160 hM rfl (D 193 rfl) ?_
                refine ht_vret (D 194 rfl) rfl ?_
                first | exact ⟨rfl, _, U1, b, b + 1, 3, rfl, NF_up (NF_up hF (by omega) _) (by omega) _, hU, ⟨hSk, Or.inr (Or.inr (Or.inr ⟨hbn, hnl, hnd, rfl, Or.inl ⟨hsg, rfl⟩⟩))⟩, by rw [up2_k _ _ (by decide), up2_k _ _ (by decide)]; exact h5, by rw [up2_k _ _ (by decide), up2_s]; exact nI_1 b, up2_s _ _ _ _, fun q => absurd q (by decide), fun q => absurd q (by decide)⟩ | exact ⟨rfl, _, U1, b, b + 1, 4, rfl, NF_up (NF_up hF (by omega) _) (by omega) _, hU, ⟨hSk, Or.inr (Or.inr (Or.inr ⟨hbn, hnl, hnd, rfl, Or.inr ⟨hsn, rfl⟩⟩))⟩, by rw [up2_k _ _ (by decide), up2_k _ _ (by decide)]; exact h5, by rw [up2_k _ _ (by decide), up2_s]; exact nI_1 b, up2_s _ _ _ _, fun q => absurd q (by decide), fun q => absurd q (by decide)⟩
    · skip
      refine ht_iload_n (D 113 rfl) rfl rfl ?_
      refine ht_bipush (v := 57) (D 114 rfl) (by decide) ?_
      refine ht_icmp_gt (tgt := 322) (D 115 rfl) (by decide) (fun hb221 => ?_) (fun hb221 => ?_)
      · skip
        have hnd : ¬ Rg 48 57 (T b) := fun q => Int32.not_le.mpr hb221 q.2
        refine ht_aload_n (D 168 rfl) rfl rfl ?_
        refine ht_dup (D 169 rfl) rfl ?_
        refine gm_X10_147 hM rfl (D 170 rfl) ?_
        rw [h4]
        refine ht_iconst (v := 1) (D 171 rfl) (by decide) ?_
        refine ht_iadd (D 172 rfl) ?_
        refine pm_X10_147 hM rfl (D 173 rfl) ?_
        refine ht_aload_n (D 174 rfl) rfl rfl ?_
        refine ht_iload_n (D 175 rfl) rfl rfl ?_
        refine ht_bipush (v := 40) (D 176 rfl) (by decide) ?_
        refine ht_icmp_lt (tgt := 345) (D 177 rfl) (by decide) (fun hb336 => ?_) (fun hb336 => ?_)
        · skip
          refine ht_iload_n (D 181 rfl) rfl rfl ?_
          refine ht_bipush (v := 45) (D 182 rfl) (by decide) ?_
          refine ht_icmp_eq (tgt := 363) (D 183 rfl) (by decide) (fun hb348 => ?_) (fun hb348 => ?_)
          · skip
            have hsg : sgM (T b) := Or.inr (Or.inl hb348)
            refine ht_iconst (v := 3) (D 190 rfl) (by decide) ?_
            refine ht_goto (tgt := 368) (D 191 rfl) (by decide) ?_
            refine pm_X10_160 hM rfl (D 193 rfl) ?_
            refine ht_vret (D 194 rfl) rfl ?_
            first | exact ⟨rfl, _, U1, b, b + 1, 3, rfl, NF_up (NF_up hF (by omega) _) (by omega) _, hU, ⟨hSk, Or.inr (Or.inr (Or.inr ⟨hbn, hnl, hnd, rfl, Or.inl ⟨hsg, rfl⟩⟩))⟩, by rw [up2_k _ _ (by decide), up2_k _ _ (by decide)]; exact h5, by rw [up2_k _ _ (by decide), up2_s]; exact nI_1 b, up2_s _ _ _ _, fun q => absurd q (by decide), fun q => absurd q (by decide)⟩ | exact ⟨rfl, _, U1, b, b + 1, 4, rfl, NF_up (NF_up hF (by omega) _) (by omega) _, hU, ⟨hSk, Or.inr (Or.inr (Or.inr ⟨hbn, hnl, hnd, rfl, Or.inr ⟨hsn, rfl⟩⟩))⟩, by rw [up2_k _ _ (by decide), up2_k _ _ (by decide)]; exact h5, by rw [up2_k _ _ (by decide), up2_s]; exact nI_1 b, up2_s _ _ _ _, fun q => absurd q (by decide), fun q => absurd q (by decide)⟩
          · skip
            refine ht_iload_n (D 184 rfl) rfl rfl ?_
            refine ht_bipush (v := 59) (D 185 rfl) (by decide) ?_
            refine ht_icmp_lt (tgt := 367) (D 186 rfl) (by decide) (fun hb354 => ?_) (fun hb354 => ?_)
            · skip
              have hsn : ¬ sgM (T b) := fun q => by
                rcases q with q | q | q
                · first | exact hb342 q.2 | exact Int32.not_le.mpr hb336 q.1
                · exact hb348 q
                · exact Int32.not_le.mpr hb354 q.1
              refine ht_iconst (v := 4) (D 192 rfl) (by decide) ?_
              refine pm_X10_160 hM rfl (D 193 rfl) ?_
              refine ht_vret (D 194 rfl) rfl ?_
              first | exact ⟨rfl, _, U1, b, b + 1, 3, rfl, NF_up (NF_up hF (by omega) _) (by omega) _, hU, ⟨hSk, Or.inr (Or.inr (Or.inr ⟨hbn, hnl, hnd, rfl, Or.inl ⟨hsg, rfl⟩⟩))⟩, by rw [up2_k _ _ (by decide), up2_k _ _ (by decide)]; exact h5, by rw [up2_k _ _ (by decide), up2_s]; exact nI_1 b, up2_s _ _ _ _, fun q => absurd q (by decide), fun q => absurd q (by decide)⟩ | exact ⟨rfl, _, U1, b, b + 1, 4, rfl, NF_up (NF_up hF (by omega) _) (by omega) _, hU, ⟨hSk, Or.inr (Or.inr (Or.inr ⟨hbn, hnl, hnd, rfl, Or.inr ⟨hsn, rfl⟩⟩))⟩, by rw [up2_k _ _ (by decide), up2_k _ _ (by decide)]; exact h5, by rw [up2_k _ _ (by decide), up2_s]; exact nI_1 b, up2_s _ _ _ _, fun q => absurd q (by decide), fun q => absurd q (by decide)⟩
            · skip
              refine ht_iload_n (D 187 rfl) rfl rfl ?_
              refine ht_bipush (v := 61) (D 188 rfl) (by decide) ?_
              refine ht_icmp_gt (tgt := 367) (D 189 rfl) (by decide) (fun hb360 => ?_) (fun hb360 => ?_)
              · skip
                have hsn : ¬ sgM (T b) := fun q => by
                  rcases q with q | q | q
                  · first | exact hb342 q.2 | exact Int32.not_le.mpr hb336 q.1
                  · exact hb348 q
                  · exact Int32.not_le.mpr hb360 q.2
                refine ht_iconst (v := 4) (D 192 rfl) (by decide) ?_
                refine pm_X10_160 hM rfl (D 193 rfl) ?_
                refine ht_vret (D 194 rfl) rfl ?_
                first | exact ⟨rfl, _, U1, b, b + 1, 3, rfl, NF_up (NF_up hF (by omega) _) (by omega) _, hU, ⟨hSk, Or.inr (Or.inr (Or.inr ⟨hbn, hnl, hnd, rfl, Or.inl ⟨hsg, rfl⟩⟩))⟩, by rw [up2_k _ _ (by decide), up2_k _ _ (by decide)]; exact h5, by rw [up2_k _ _ (by decide), up2_s]; exact nI_1 b, up2_s _ _ _ _, fun q => absurd q (by decide), fun q => absurd q (by decide)⟩ | exact ⟨rfl, _, U1, b, b + 1, 4, rfl, NF_up (NF_up hF (by omega) _) (by omega) _, hU, ⟨hSk, Or.inr (Or.inr (Or.inr ⟨hbn, hnl, hnd, rfl, Or.inr ⟨hsn, rfl⟩⟩))⟩, by rw [up2_k _ _ (by decide), up2_k _ _ (by decide)]; exact h5, by rw [up2_k _ _ (by decide), up2_s]; exact nI_1 b, up2_s _ _ _ _, fun q => absurd q (by decide), fun q => absurd q (by decide)⟩
              · skip
                have hsg : sgM (T b) := Or.inr (Or.inr ⟨Int32.not_lt.mp hb354, Int32.not_lt.mp hb360⟩)
                refine ht_iconst (v := 3) (D 190 rfl) (by decide) ?_
                refine ht_goto (tgt := 368) (D 191 rfl) (by decide) ?_
                refine pm_X10_160 hM rfl (D 193 rfl) ?_
                refine ht_vret (D 194 rfl) rfl ?_
                first | exact ⟨rfl, _, U1, b, b + 1, 3, rfl, NF_up (NF_up hF (by omega) _) (by omega) _, hU, ⟨hSk, Or.inr (Or.inr (Or.inr ⟨hbn, hnl, hnd, rfl, Or.inl ⟨hsg, rfl⟩⟩))⟩, by rw [up2_k _ _ (by decide), up2_k _ _ (by decide)]; exact h5, by rw [up2_k _ _ (by decide), up2_s]; exact nI_1 b, up2_s _ _ _ _, fun q => absurd q (by decide), fun q => absurd q (by decide)⟩ | exact ⟨rfl, _, U1, b, b + 1, 4, rfl, NF_up (NF_up hF (by omega) _) (by omega) _, hU, ⟨hSk, Or.inr (Or.inr (Or.inr ⟨hbn, hnl, hnd, rfl, Or.inr ⟨hsn, rfl⟩⟩))⟩, by rw [up2_k _ _ (by decide), up2_k _ _ (by decide)]; exact h5, by rw [up2_k _ _ (by decide), up2_s]; exact nI_1 b, up2_s _ _ _ _, fun q => absurd q (by decide), fun q => absurd q (by decide)⟩
        · skip
          refine ht_iload_n (D 178 rfl) rfl rfl ?_
          refine ht_bipush (v := 43) (D 179 rfl) (by decide) ?_
          refine ht_icmp_le (tgt := 363) (D 180 rfl) (by decide) (fun hb342 => ?_) (fun hb342 => ?_)
          · skip
            have hsg : sgM (T b) := Or.inl ⟨Int32.not_lt.mp hb336, hb342⟩
            refine ht_iconst (v := 3) (D 190 rfl) (by decide) ?_
            refine ht_goto (tgt := 368) (D 191 rfl) (by decide) ?_
            refine pm_X10_160 hM rfl (D 193 rfl) ?_
            refine ht_vret (D 194 rfl) rfl ?_
            first | exact ⟨rfl, _, U1, b, b + 1, 3, rfl, NF_up (NF_up hF (by omega) _) (by omega) _, hU, ⟨hSk, Or.inr (Or.inr (Or.inr ⟨hbn, hnl, hnd, rfl, Or.inl ⟨hsg, rfl⟩⟩))⟩, by rw [up2_k _ _ (by decide), up2_k _ _ (by decide)]; exact h5, by rw [up2_k _ _ (by decide), up2_s]; exact nI_1 b, up2_s _ _ _ _, fun q => absurd q (by decide), fun q => absurd q (by decide)⟩ | exact ⟨rfl, _, U1, b, b + 1, 4, rfl, NF_up (NF_up hF (by omega) _) (by omega) _, hU, ⟨hSk, Or.inr (Or.inr (Or.inr ⟨hbn, hnl, hnd, rfl, Or.inr ⟨hsn, rfl⟩⟩))⟩, by rw [up2_k _ _ (by decide), up2_k _ _ (by decide)]; exact h5, by rw [up2_k _ _ (by decide), up2_s]; exact nI_1 b, up2_s _ _ _ _, fun q => absurd q (by decide), fun q => absurd q (by decide)⟩
          · skip
            refine ht_iload_n (D 181 rfl) rfl rfl ?_
            refine ht_bipush (v := 45) (D 182 rfl) (by decide) ?_
            refine ht_icmp_eq (tgt := 363) (D 183 rfl) (by decide) (fun hb348 => ?_) (fun hb348 => ?_)
            · skip
              have hsg : sgM (T b) := Or.inr (Or.inl hb348)
              refine ht_iconst (v := 3) (D 190 rfl) (by decide) ?_
              refine ht_goto (tgt := 368) (D 191 rfl) (by decide) ?_
              refine pm_X10_160 hM rfl (D 193 rfl) ?_
              refine ht_vret (D 194 rfl) rfl ?_
              first | exact ⟨rfl, _, U1, b, b + 1, 3, rfl, NF_up (NF_up hF (by omega) _) (by omega) _, hU, ⟨hSk, Or.inr (Or.inr (Or.inr ⟨hbn, hnl, hnd, rfl, Or.inl ⟨hsg, rfl⟩⟩))⟩, by rw [up2_k _ _ (by decide), up2_k _ _ (by decide)]; exact h5, by rw [up2_k _ _ (by decide), up2_s]; exact nI_1 b, up2_s _ _ _ _, fun q => absurd q (by decide), fun q => absurd q (by decide)⟩ | exact ⟨rfl, _, U1, b, b + 1, 4, rfl, NF_up (NF_up hF (by omega) _) (by omega) _, hU, ⟨hSk, Or.inr (Or.inr (Or.inr ⟨hbn, hnl, hnd, rfl, Or.inr ⟨hsn, rfl⟩⟩))⟩, by rw [up2_k _ _ (by decide), up2_k _ _ (by decide)]; exact h5, by rw [up2_k _ _ (by decide), up2_s]; exact nI_1 b, up2_s _ _ _ _, fun q => absurd q (by decide), fun q => absurd q (by decide)⟩
            · skip
              refine ht_iload_n (D 184 rfl) rfl rfl ?_
              refine ht_bipush (v := 59) (D 185 rfl) (by decide) ?_
              refine ht_icmp_lt (tgt := 367) (D 186 rfl) (by decide) (fun hb354 => ?_) (fun hb354 => ?_)
              · skip
                have hsn : ¬ sgM (T b) := fun q => by
                  rcases q with q | q | q
                  · first | exact hb342 q.2 | exact Int32.not_le.mpr hb336 q.1
                  · exact hb348 q
                  · exact Int32.not_le.mpr hb354 q.1
                refine ht_iconst (v := 4) (D 192 rfl) (by decide) ?_
                refine pm_X10_160 hM rfl (D 193 rfl) ?_
                refine ht_vret (D 194 rfl) rfl ?_
                first | exact ⟨rfl, _, U1, b, b + 1, 3, rfl, NF_up (NF_up hF (by omega) _) (by omega) _, hU, ⟨hSk, Or.inr (Or.inr (Or.inr ⟨hbn, hnl, hnd, rfl, Or.inl ⟨hsg, rfl⟩⟩))⟩, by rw [up2_k _ _ (by decide), up2_k _ _ (by decide)]; exact h5, by rw [up2_k _ _ (by decide), up2_s]; exact nI_1 b, up2_s _ _ _ _, fun q => absurd q (by decide), fun q => absurd q (by decide)⟩ | exact ⟨rfl, _, U1, b, b + 1, 4, rfl, NF_up (NF_up hF (by omega) _) (by omega) _, hU, ⟨hSk, Or.inr (Or.inr (Or.inr ⟨hbn, hnl, hnd, rfl, Or.inr ⟨hsn, rfl⟩⟩))⟩, by rw [up2_k _ _ (by decide), up2_k _ _ (by decide)]; exact h5, by rw [up2_k _ _ (by decide), up2_s]; exact nI_1 b, up2_s _ _ _ _, fun q => absurd q (by decide), fun q => absurd q (by decide)⟩
              · skip
                refine ht_iload_n (D 187 rfl) rfl rfl ?_
                refine ht_bipush (v := 61) (D 188 rfl) (by decide) ?_
                refine ht_icmp_gt (tgt := 367) (D 189 rfl) (by decide) (fun hb360 => ?_) (fun hb360 => ?_)
                · skip
                  have hsn : ¬ sgM (T b) := fun q => by
                    rcases q with q | q | q
                    · first | exact hb342 q.2 | exact Int32.not_le.mpr hb336 q.1
                    · exact hb348 q
                    · exact Int32.not_le.mpr hb360 q.2
                  refine ht_iconst (v := 4) (D 192 rfl) (by decide) ?_
                  refine pm_X10_160 hM rfl (D 193 rfl) ?_
                  refine ht_vret (D 194 rfl) rfl ?_
                  first | exact ⟨rfl, _, U1, b, b + 1, 3, rfl, NF_up (NF_up hF (by omega) _) (by omega) _, hU, ⟨hSk, Or.inr (Or.inr (Or.inr ⟨hbn, hnl, hnd, rfl, Or.inl ⟨hsg, rfl⟩⟩))⟩, by rw [up2_k _ _ (by decide), up2_k _ _ (by decide)]; exact h5, by rw [up2_k _ _ (by decide), up2_s]; exact nI_1 b, up2_s _ _ _ _, fun q => absurd q (by decide), fun q => absurd q (by decide)⟩ | exact ⟨rfl, _, U1, b, b + 1, 4, rfl, NF_up (NF_up hF (by omega) _) (by omega) _, hU, ⟨hSk, Or.inr (Or.inr (Or.inr ⟨hbn, hnl, hnd, rfl, Or.inr ⟨hsn, rfl⟩⟩))⟩, by rw [up2_k _ _ (by decide), up2_k _ _ (by decide)]; exact h5, by rw [up2_k _ _ (by decide), up2_s]; exact nI_1 b, up2_s _ _ _ _, fun q => absurd q (by decide), fun q => absurd q (by decide)⟩
                · skip
                  have hsg : sgM (T b) := Or.inr (Or.inr ⟨Int32.not_lt.mp hb354, Int32.not_lt.mp hb360⟩)
                  refine ht_iconst (v := 3) (D 190 rfl) (by decide) ?_
                  refine ht_goto (tgt := 368) (D 191 rfl) (by decide) ?_
                  refine pm_X10_160 hM rfl (D 193 rfl) ?_
                  refine ht_vret (D 194 rfl) rfl ?_
                  first | exact ⟨rfl, _, U1, b, b + 1, 3, rfl, NF_up (NF_up hF (by omega) _) (by omega) _, hU, ⟨hSk, Or.inr (Or.inr (Or.inr ⟨hbn, hnl, hnd, rfl, Or.inl ⟨hsg, rfl⟩⟩))⟩, by rw [up2_k _ _ (by decide), up2_k _ _ (by decide)]; exact h5, by rw [up2_k _ _ (by decide), up2_s]; exact nI_1 b, up2_s _ _ _ _, fun q => absurd q (by decide), fun q => absurd q (by decide)⟩ | exact ⟨rfl, _, U1, b, b + 1, 4, rfl, NF_up (NF_up hF (by omega) _) (by omega) _, hU, ⟨hSk, Or.inr (Or.inr (Or.inr ⟨hbn, hnl, hnd, rfl, Or.inr ⟨hsn, rfl⟩⟩))⟩, by rw [up2_k _ _ (by decide), up2_k _ _ (by decide)]; exact h5, by rw [up2_k _ _ (by decide), up2_s]; exact nI_1 b, up2_s _ _ _ _, fun q => absurd q (by decide), fun q => absurd q (by decide)⟩
      · skip
        exact sm_ntB hM hV hn hn2 (fun e k h1 h2 => ⟨hSk, Or.inr (Or.inr (Or.inl ⟨hbn, hnl, ⟨Int32.not_lt.mp hb215, Int32.not_lt.mp hb221⟩, h1, h2⟩))⟩) (n - b) b V1 U1 hF hU h4 h5 (by rw [Nat.sub_self]; exact h8) (Nat.le_refl _) (by omega) (fun i q1 q2 => absurd q2 (by omega)) rfl
  · skip
    refine ht_iload_n (D 54 rfl) rfl rfl ?_
    refine ht_bipush (v := 122) (D 55 rfl) (by decide) ?_
    refine ht_icmp_gt (tgt := 212) (D 56 rfl) (by decide) (fun hb106 => ?_) (fun hb106 => ?_)
    · skip
      have hnl : ¬ Rg 97 122 (T b) := fun q => Int32.not_le.mpr hb106 q.2
      refine ht_iload_n (D 110 rfl) rfl rfl ?_
      refine ht_bipush (v := 48) (D 111 rfl) (by decide) ?_
      refine ht_icmp_lt (tgt := 322) (D 112 rfl) (by decide) (fun hb215 => ?_) (fun hb215 => ?_)
      · skip
        have hnd : ¬ Rg 48 57 (T b) := fun q => Int32.not_le.mpr hb215 q.1
        refine ht_aload_n (D 168 rfl) rfl rfl ?_
        refine ht_dup (D 169 rfl) rfl ?_
        refine gm_X10_147 hM rfl (D 170 rfl) ?_
        rw [h4]
        refine ht_iconst (v := 1) (D 171 rfl) (by decide) ?_
        refine ht_iadd (D 172 rfl) ?_
        refine pm_X10_147 hM rfl (D 173 rfl) ?_
        refine ht_aload_n (D 174 rfl) rfl rfl ?_
        refine ht_iload_n (D 175 rfl) rfl rfl ?_
        refine ht_bipush (v := 40) (D 176 rfl) (by decide) ?_
        refine ht_icmp_lt (tgt := 345) (D 177 rfl) (by decide) (fun hb336 => ?_) (fun hb336 => ?_)
        · skip
          refine ht_iload_n (D 181 rfl) rfl rfl ?_
          refine ht_bipush (v := 45) (D 182 rfl) (by decide) ?_
          refine ht_icmp_eq (tgt := 363) (D 183 rfl) (by decide) (fun hb348 => ?_) (fun hb348 => ?_)
          · skip
            have hsg : sgM (T b) := Or.inr (Or.inl hb348)
            refine ht_iconst (v := 3) (D 190 rfl) (by decide) ?_
            refine ht_goto (tgt := 368) (D 191 rfl) (by decide) ?_
            refine pm_X10_160 hM rfl (D 193 rfl) ?_
            refine ht_vret (D 194 rfl) rfl ?_
            first | exact ⟨rfl, _, U1, b, b + 1, 3, rfl, NF_up (NF_up hF (by omega) _) (by omega) _, hU, ⟨hSk, Or.inr (Or.inr (Or.inr ⟨hbn, hnl, hnd, rfl, Or.inl ⟨hsg, rfl⟩⟩))⟩, by rw [up2_k _ _ (by decide), up2_k _ _ (by decide)]; exact h5, by rw [up2_k _ _ (by decide), up2_s]; exact nI_1 b, up2_s _ _ _ _, fun q => absurd q (by decide), fun q => absurd q (by decide)⟩ | exact ⟨rfl, _, U1, b, b + 1, 4, rfl, NF_up (NF_up hF (by omega) _) (by omega) _, hU, ⟨hSk, Or.inr (Or.inr (Or.inr ⟨hbn, hnl, hnd, rfl, Or.inr ⟨hsn, rfl⟩⟩))⟩, by rw [up2_k _ _ (by decide), up2_k _ _ (by decide)]; exact h5, by rw [up2_k _ _ (by decide), up2_s]; exact nI_1 b, up2_s _ _ _ _, fun q => absurd q (by decide), fun q => absurd q (by decide)⟩
          · skip
            refine ht_iload_n (D 184 rfl) rfl rfl ?_
            refine ht_bipush (v := 59) (D 185 rfl) (by decide) ?_
            refine ht_icmp_lt (tgt := 367) (D 186 rfl) (by decide) (fun hb354 => ?_) (fun hb354 => ?_)
            · skip
              have hsn : ¬ sgM (T b) := fun q => by
                rcases q with q | q | q
                · first | exact hb342 q.2 | exact Int32.not_le.mpr hb336 q.1
                · exact hb348 q
                · exact Int32.not_le.mpr hb354 q.1
              refine ht_iconst (v := 4) (D 192 rfl) (by decide) ?_
              refine pm_X10_160 hM rfl (D 193 rfl) ?_
              refine ht_vret (D 194 rfl) rfl ?_
              first | exact ⟨rfl, _, U1, b, b + 1, 3, rfl, NF_up (NF_up hF (by omega) _) (by omega) _, hU, ⟨hSk, Or.inr (Or.inr (Or.inr ⟨hbn, hnl, hnd, rfl, Or.inl ⟨hsg, rfl⟩⟩))⟩, by rw [up2_k _ _ (by decide), up2_k _ _ (by decide)]; exact h5, by rw [up2_k _ _ (by decide), up2_s]; exact nI_1 b, up2_s _ _ _ _, fun q => absurd q (by decide), fun q => absurd q (by decide)⟩ | exact ⟨rfl, _, U1, b, b + 1, 4, rfl, NF_up (NF_up hF (by omega) _) (by omega) _, hU, ⟨hSk, Or.inr (Or.inr (Or.inr ⟨hbn, hnl, hnd, rfl, Or.inr ⟨hsn, rfl⟩⟩))⟩, by rw [up2_k _ _ (by decide), up2_k _ _ (by decide)]; exact h5, by rw [up2_k _ _ (by decide), up2_s]; exact nI_1 b, up2_s _ _ _ _, fun q => absurd q (by decide), fun q => absurd q (by decide)⟩
            · skip
              refine ht_iload_n (D 187 rfl) rfl rfl ?_
              refine ht_bipush (v := 61) (D 188 rfl) (by decide) ?_
              refine ht_icmp_gt (tgt := 367) (D 189 rfl) (by decide) (fun hb360 => ?_) (fun hb360 => ?_)
              · skip
                have hsn : ¬ sgM (T b) := fun q => by
                  rcases q with q | q | q
                  · first | exact hb342 q.2 | exact Int32.not_le.mpr hb336 q.1
                  · exact hb348 q
                  · exact Int32.not_le.mpr hb360 q.2
                refine ht_iconst (v := 4) (D 192 rfl) (by decide) ?_
                refine pm_X10_160 hM rfl (D 193 rfl) ?_
                refine ht_vret (D 194 rfl) rfl ?_
                first | exact ⟨rfl, _, U1, b, b + 1, 3, rfl, NF_up (NF_up hF (by omega) _) (by omega) _, hU, ⟨hSk, Or.inr (Or.inr (Or.inr ⟨hbn, hnl, hnd, rfl, Or.inl ⟨hsg, rfl⟩⟩))⟩, by rw [up2_k _ _ (by decide), up2_k _ _ (by decide)]; exact h5, by rw [up2_k _ _ (by decide), up2_s]; exact nI_1 b, up2_s _ _ _ _, fun q => absurd q (by decide), fun q => absurd q (by decide)⟩ | exact ⟨rfl, _, U1, b, b + 1, 4, rfl, NF_up (NF_up hF (by omega) _) (by omega) _, hU, ⟨hSk, Or.inr (Or.inr (Or.inr ⟨hbn, hnl, hnd, rfl, Or.inr ⟨hsn, rfl⟩⟩))⟩, by rw [up2_k _ _ (by decide), up2_k _ _ (by decide)]; exact h5, by rw [up2_k _ _ (by decide), up2_s]; exact nI_1 b, up2_s _ _ _ _, fun q => absurd q (by decide), fun q => absurd q (by decide)⟩
              · skip
                have hsg : sgM (T b) := Or.inr (Or.inr ⟨Int32.not_lt.mp hb354, Int32.not_lt.mp hb360⟩)
                refine ht_iconst (v := 3) (D 190 rfl) (by decide) ?_
                refine ht_goto (tgt := 368) (D 191 rfl) (by decide) ?_
                refine pm_X10_160 hM rfl (D 193 rfl) ?_
                refine ht_vret (D 194 rfl) rfl ?_
                first | exact ⟨rfl, _, U1, b, b + 1, 3, rfl, NF_up (NF_up hF (by omega) _) (by omega) _, hU, ⟨hSk, Or.inr (Or.inr (Or.inr ⟨hbn, hnl, hnd, rfl, Or.inl ⟨hsg, rfl⟩⟩))⟩, by rw [up2_k _ _ (by decide), up2_k _ _ (by decide)]; exact h5, by rw [up2_k _ _ (by decide), up2_s]; exact nI_1 b, up2_s _ _ _ _, fun q => absurd q (by decide), fun q => absurd q (by decide)⟩ | exact ⟨rfl, _, U1, b, b + 1, 4, rfl, NF_up (NF_up hF (by omega) _) (by omega) _, hU, ⟨hSk, Or.inr (Or.inr (Or.inr ⟨hbn, hnl, hnd, rfl, Or.inr ⟨hsn, rfl⟩⟩))⟩, by rw [up2_k _ _ (by decide), up2_k _ _ (by decide)]; exact h5, by rw [up2_k _ _ (by decide), up2_s]; exact nI_1 b, up2_s _ _ _ _, fun q => absurd q (by decide), fun q => absurd q (by decide)⟩
        · skip
          refine ht_iload_n (D 178 rfl) rfl rfl ?_
          refine ht_bipush (v := 43) (D 179 rfl) (by decide) ?_
          refine ht_icmp_le (tgt := 363) (D 180 rfl) (by decide) (fun hb342 => ?_) (fun hb342 => ?_)
          · skip
            have hsg : sgM (T b) := Or.inl ⟨Int32.not_lt.mp hb336, hb342⟩
            refine ht_iconst (v := 3) (D 190 rfl) (by decide) ?_
            refine ht_goto (tgt := 368) (D 191 rfl) (by decide) ?_
            refine pm_X10_160 hM rfl (D 193 rfl) ?_
            refine ht_vret (D 194 rfl) rfl ?_
            first | exact ⟨rfl, _, U1, b, b + 1, 3, rfl, NF_up (NF_up hF (by omega) _) (by omega) _, hU, ⟨hSk, Or.inr (Or.inr (Or.inr ⟨hbn, hnl, hnd, rfl, Or.inl ⟨hsg, rfl⟩⟩))⟩, by rw [up2_k _ _ (by decide), up2_k _ _ (by decide)]; exact h5, by rw [up2_k _ _ (by decide), up2_s]; exact nI_1 b, up2_s _ _ _ _, fun q => absurd q (by decide), fun q => absurd q (by decide)⟩ | exact ⟨rfl, _, U1, b, b + 1, 4, rfl, NF_up (NF_up hF (by omega) _) (by omega) _, hU, ⟨hSk, Or.inr (Or.inr (Or.inr ⟨hbn, hnl, hnd, rfl, Or.inr ⟨hsn, rfl⟩⟩))⟩, by rw [up2_k _ _ (by decide), up2_k _ _ (by decide)]; exact h5, by rw [up2_k _ _ (by decide), up2_s]; exact nI_1 b, up2_s _ _ _ _, fun q => absurd q (by decide), fun q => absurd q (by decide)⟩
          · skip
            refine ht_iload_n (D 181 rfl) rfl rfl ?_
            refine ht_bipush (v := 45) (D 182 rfl) (by decide) ?_
            refine ht_icmp_eq (tgt := 363) (D 183 rfl) (by decide) (fun hb348 => ?_) (fun hb348 => ?_)
            · skip
              have hsg : sgM (T b) := Or.inr (Or.inl hb348)
              refine ht_iconst (v := 3) (D 190 rfl) (by decide) ?_
              refine ht_goto (tgt := 368) (D 191 rfl) (by decide) ?_
              refine pm_X10_160 hM rfl (D 193 rfl) ?_
              refine ht_vret (D 194 rfl) rfl ?_
              first | exact ⟨rfl, _, U1, b, b + 1, 3, rfl, NF_up (NF_up hF (by omega) _) (by omega) _, hU, ⟨hSk, Or.inr (Or.inr (Or.inr ⟨hbn, hnl, hnd, rfl, Or.inl ⟨hsg, rfl⟩⟩))⟩, by rw [up2_k _ _ (by decide), up2_k _ _ (by decide)]; exact h5, by rw [up2_k _ _ (by decide), up2_s]; exact nI_1 b, up2_s _ _ _ _, fun q => absurd q (by decide), fun q => absurd q (by decide)⟩ | exact ⟨rfl, _, U1, b, b + 1, 4, rfl, NF_up (NF_up hF (by omega) _) (by omega) _, hU, ⟨hSk, Or.inr (Or.inr (Or.inr ⟨hbn, hnl, hnd, rfl, Or.inr ⟨hsn, rfl⟩⟩))⟩, by rw [up2_k _ _ (by decide), up2_k _ _ (by decide)]; exact h5, by rw [up2_k _ _ (by decide), up2_s]; exact nI_1 b, up2_s _ _ _ _, fun q => absurd q (by decide), fun q => absurd q (by decide)⟩
            · skip
              refine ht_iload_n (D 184 rfl) rfl rfl ?_
              refine ht_bipush (v := 59) (D 185 rfl) (by decide) ?_
              refine ht_icmp_lt (tgt := 367) (D 186 rfl) (by decide) (fun hb354 => ?_) (fun hb354 => ?_)
              · skip
                have hsn : ¬ sgM (T b) := fun q => by
                  rcases q with q | q | q
                  · first | exact hb342 q.2 | exact Int32.not_le.mpr hb336 q.1
                  · exact hb348 q
                  · exact Int32.not_le.mpr hb354 q.1
                refine ht_iconst (v := 4) (D 192 rfl) (by decide) ?_
                refine pm_X10_160 hM rfl (D 193 rfl) ?_
                refine ht_vret (D 194 rfl) rfl ?_
                first | exact ⟨rfl, _, U1, b, b + 1, 3, rfl, NF_up (NF_up hF (by omega) _) (by omega) _, hU, ⟨hSk, Or.inr (Or.inr (Or.inr ⟨hbn, hnl, hnd, rfl, Or.inl ⟨hsg, rfl⟩⟩))⟩, by rw [up2_k _ _ (by decide), up2_k _ _ (by decide)]; exact h5, by rw [up2_k _ _ (by decide), up2_s]; exact nI_1 b, up2_s _ _ _ _, fun q => absurd q (by decide), fun q => absurd q (by decide)⟩ | exact ⟨rfl, _, U1, b, b + 1, 4, rfl, NF_up (NF_up hF (by omega) _) (by omega) _, hU, ⟨hSk, Or.inr (Or.inr (Or.inr ⟨hbn, hnl, hnd, rfl, Or.inr ⟨hsn, rfl⟩⟩))⟩, by rw [up2_k _ _ (by decide), up2_k _ _ (by decide)]; exact h5, by rw [up2_k _ _ (by decide), up2_s]; exact nI_1 b, up2_s _ _ _ _, fun q => absurd q (by decide), fun q => absurd q (by decide)⟩
              · skip
                refine ht_iload_n (D 187 rfl) rfl rfl ?_
                refine ht_bipush (v := 61) (D 188 rfl) (by decide) ?_
                refine ht_icmp_gt (tgt := 367) (D 189 rfl) (by decide) (fun hb360 => ?_) (fun hb360 => ?_)
                · skip
                  have hsn : ¬ sgM (T b) := fun q => by
                    rcases q with q | q | q
                    · first | exact hb342 q.2 | exact Int32.not_le.mpr hb336 q.1
                    · exact hb348 q
                    · exact Int32.not_le.mpr hb360 q.2
                  refine ht_iconst (v := 4) (D 192 rfl) (by decide) ?_
                  refine pm_X10_160 hM rfl (D 193 rfl) ?_
                  refine ht_vret (D 194 rfl) rfl ?_
                  first | exact ⟨rfl, _, U1, b, b + 1, 3, rfl, NF_up (NF_up hF (by omega) _) (by omega) _, hU, ⟨hSk, Or.inr (Or.inr (Or.inr ⟨hbn, hnl, hnd, rfl, Or.inl ⟨hsg, rfl⟩⟩))⟩, by rw [up2_k _ _ (by decide), up2_k _ _ (by decide)]; exact h5, by rw [up2_k _ _ (by decide), up2_s]; exact nI_1 b, up2_s _ _ _ _, fun q => absurd q (by decide), fun q => absurd q (by decide)⟩ | exact ⟨rfl, _, U1, b, b + 1, 4, rfl, NF_up (NF_up hF (by omega) _) (by omega) _, hU, ⟨hSk, Or.inr (Or.inr (Or.inr ⟨hbn, hnl, hnd, rfl, Or.inr ⟨hsn, rfl⟩⟩))⟩, by rw [up2_k _ _ (by decide), up2_k _ _ (by decide)]; exact h5, by rw [up2_k _ _ (by decide), up2_s]; exact nI_1 b, up2_s _ _ _ _, fun q => absurd q (by decide), fun q => absurd q (by decide)⟩
                · skip
                  have hsg : sgM (T b) := Or.inr (Or.inr ⟨Int32.not_lt.mp hb354, Int32.not_lt.mp hb360⟩)
                  refine ht_iconst (v := 3) (D 190 rfl) (by decide) ?_
                  refine ht_goto (tgt := 368) (D 191 rfl) (by decide) ?_
                  refine pm_X10_160 hM rfl (D 193 rfl) ?_
                  refine ht_vret (D 194 rfl) rfl ?_
                  first | exact ⟨rfl, _, U1, b, b + 1, 3, rfl, NF_up (NF_up hF (by omega) _) (by omega) _, hU, ⟨hSk, Or.inr (Or.inr (Or.inr ⟨hbn, hnl, hnd, rfl, Or.inl ⟨hsg, rfl⟩⟩))⟩, by rw [up2_k _ _ (by decide), up2_k _ _ (by decide)]; exact h5, by rw [up2_k _ _ (by decide), up2_s]; exact nI_1 b, up2_s _ _ _ _, fun q => absurd q (by decide), fun q => absurd q (by decide)⟩ | exact ⟨rfl, _, U1, b, b + 1, 4, rfl, NF_up (NF_up hF (by omega) _) (by omega) _, hU, ⟨hSk, Or.inr (Or.inr (Or.inr ⟨hbn, hnl, hnd, rfl, Or.inr ⟨hsn, rfl⟩⟩))⟩, by rw [up2_k _ _ (by decide), up2_k _ _ (by decide)]; exact h5, by rw [up2_k _ _ (by decide), up2_s]; exact nI_1 b, up2_s _ _ _ _, fun q => absurd q (by decide), fun q => absurd q (by decide)⟩
      · skip
        refine ht_iload_n (D 113 rfl) rfl rfl ?_
        refine ht_bipush (v := 57) (D 114 rfl) (by decide) ?_
        refine ht_icmp_gt (tgt := 322) (D 115 rfl) (by decide) (fun hb221 => ?_) (fun hb221 => ?_)
        · skip
          have hnd : ¬ Rg 48 57 (T b) := fun q => Int32.not_le.mpr hb221 q.2
          refine ht_aload_n (D 168 rfl) rfl rfl ?_
          refine ht_dup (D 169 rfl) rfl ?_
          refine gm_X10_147 hM rfl (D 170 rfl) ?_
          rw [h4]
          refine ht_iconst (v := 1) (D 171 rfl) (by decide) ?_
          refine ht_iadd (D 172 rfl) ?_
          refine pm_X10_147 hM rfl (D 173 rfl) ?_
          refine ht_aload_n (D 174 rfl) rfl rfl ?_
          refine ht_iload_n (D 175 rfl) rfl rfl ?_
          refine ht_bipush (v := 40) (D 176 rfl) (by decide) ?_
          refine ht_icmp_lt (tgt := 345) (D 177 rfl) (by decide) (fun hb336 => ?_) (fun hb336 => ?_)
          · skip
            refine ht_iload_n (D 181 rfl) rfl rfl ?_
            refine ht_bipush (v := 45) (D 182 rfl) (by decide) ?_
            refine ht_icmp_eq (tgt := 363) (D 183 rfl) (by decide) (fun hb348 => ?_) (fun hb348 => ?_)
            · skip
              have hsg : sgM (T b) := Or.inr (Or.inl hb348)
              refine ht_iconst (v := 3) (D 190 rfl) (by decide) ?_
              refine ht_goto (tgt := 368) (D 191 rfl) (by decide) ?_
              refine pm_X10_160 hM rfl (D 193 rfl) ?_
              refine ht_vret (D 194 rfl) rfl ?_
              first | exact ⟨rfl, _, U1, b, b + 1, 3, rfl, NF_up (NF_up hF (by omega) _) (by omega) _, hU, ⟨hSk, Or.inr (Or.inr (Or.inr ⟨hbn, hnl, hnd, rfl, Or.inl ⟨hsg, rfl⟩⟩))⟩, by rw [up2_k _ _ (by decide), up2_k _ _ (by decide)]; exact h5, by rw [up2_k _ _ (by decide), up2_s]; exact nI_1 b, up2_s _ _ _ _, fun q => absurd q (by decide), fun q => absurd q (by decide)⟩ | exact ⟨rfl, _, U1, b, b + 1, 4, rfl, NF_up (NF_up hF (by omega) _) (by omega) _, hU, ⟨hSk, Or.inr (Or.inr (Or.inr ⟨hbn, hnl, hnd, rfl, Or.inr ⟨hsn, rfl⟩⟩))⟩, by rw [up2_k _ _ (by decide), up2_k _ _ (by decide)]; exact h5, by rw [up2_k _ _ (by decide), up2_s]; exact nI_1 b, up2_s _ _ _ _, fun q => absurd q (by decide), fun q => absurd q (by decide)⟩
            · skip
              refine ht_iload_n (D 184 rfl) rfl rfl ?_
              refine ht_bipush (v := 59) (D 185 rfl) (by decide) ?_
              refine ht_icmp_lt (tgt := 367) (D 186 rfl) (by decide) (fun hb354 => ?_) (fun hb354 => ?_)
              · skip
                have hsn : ¬ sgM (T b) := fun q => by
                  rcases q with q | q | q
                  · first | exact hb342 q.2 | exact Int32.not_le.mpr hb336 q.1
                  · exact hb348 q
                  · exact Int32.not_le.mpr hb354 q.1
                refine ht_iconst (v := 4) (D 192 rfl) (by decide) ?_
                refine pm_X10_160 hM rfl (D 193 rfl) ?_
                refine ht_vret (D 194 rfl) rfl ?_
                first | exact ⟨rfl, _, U1, b, b + 1, 3, rfl, NF_up (NF_up hF (by omega) _) (by omega) _, hU, ⟨hSk, Or.inr (Or.inr (Or.inr ⟨hbn, hnl, hnd, rfl, Or.inl ⟨hsg, rfl⟩⟩))⟩, by rw [up2_k _ _ (by decide), up2_k _ _ (by decide)]; exact h5, by rw [up2_k _ _ (by decide), up2_s]; exact nI_1 b, up2_s _ _ _ _, fun q => absurd q (by decide), fun q => absurd q (by decide)⟩ | exact ⟨rfl, _, U1, b, b + 1, 4, rfl, NF_up (NF_up hF (by omega) _) (by omega) _, hU, ⟨hSk, Or.inr (Or.inr (Or.inr ⟨hbn, hnl, hnd, rfl, Or.inr ⟨hsn, rfl⟩⟩))⟩, by rw [up2_k _ _ (by decide), up2_k _ _ (by decide)]; exact h5, by rw [up2_k _ _ (by decide), up2_s]; exact nI_1 b, up2_s _ _ _ _, fun q => absurd q (by decide), fun q => absurd q (by decide)⟩
              · skip
                refine ht_iload_n (D 187 rfl) rfl rfl ?_
                refine ht_bipush (v := 61) (D 188 rfl) (by decide) ?_
                refine ht_icmp_gt (tgt := 367) (D 189 rfl) (by decide) (fun hb360 => ?_) (fun hb360 => ?_)
                · skip
                  have hsn : ¬ sgM (T b) := fun q => by
                    rcases q with q | q | q
                    · first | exact hb342 q.2 | exact Int32.not_le.mpr hb336 q.1
                    · exact hb348 q
                    · exact Int32.not_le.mpr hb360 q.2
                  refine ht_iconst (v := 4) (D 192 rfl) (by decide) ?_
                  refine pm_X10_160 hM rfl (D 193 rfl) ?_
                  refine ht_vret (D 194 rfl) rfl ?_
                  first | exact ⟨rfl, _, U1, b, b + 1, 3, rfl, NF_up (NF_up hF (by omega) _) (by omega) _, hU, ⟨hSk, Or.inr (Or.inr (Or.inr ⟨hbn, hnl, hnd, rfl, Or.inl ⟨hsg, rfl⟩⟩))⟩, by rw [up2_k _ _ (by decide), up2_k _ _ (by decide)]; exact h5, by rw [up2_k _ _ (by decide), up2_s]; exact nI_1 b, up2_s _ _ _ _, fun q => absurd q (by decide), fun q => absurd q (by decide)⟩ | exact ⟨rfl, _, U1, b, b + 1, 4, rfl, NF_up (NF_up hF (by omega) _) (by omega) _, hU, ⟨hSk, Or.inr (Or.inr (Or.inr ⟨hbn, hnl, hnd, rfl, Or.inr ⟨hsn, rfl⟩⟩))⟩, by rw [up2_k _ _ (by decide), up2_k _ _ (by decide)]; exact h5, by rw [up2_k _ _ (by decide), up2_s]; exact nI_1 b, up2_s _ _ _ _, fun q => absurd q (by decide), fun q => absurd q (by decide)⟩
                · skip
                  have hsg : sgM (T b) := Or.inr (Or.inr ⟨Int32.not_lt.mp hb354, Int32.not_lt.mp hb360⟩)
                  refine ht_iconst (v := 3) (D 190 rfl) (by decide) ?_
                  refine ht_goto (tgt := 368) (D 191 rfl) (by decide) ?_
                  refine pm_X10_160 hM rfl (D 193 rfl) ?_
                  refine ht_vret (D 194 rfl) rfl ?_
                  first | exact ⟨rfl, _, U1, b, b + 1, 3, rfl, NF_up (NF_up hF (by omega) _) (by omega) _, hU, ⟨hSk, Or.inr (Or.inr (Or.inr ⟨hbn, hnl, hnd, rfl, Or.inl ⟨hsg, rfl⟩⟩))⟩, by rw [up2_k _ _ (by decide), up2_k _ _ (by decide)]; exact h5, by rw [up2_k _ _ (by decide), up2_s]; exact nI_1 b, up2_s _ _ _ _, fun q => absurd q (by decide), fun q => absurd q (by decide)⟩ | exact ⟨rfl, _, U1, b, b + 1, 4, rfl, NF_up (NF_up hF (by omega) _) (by omega) _, hU, ⟨hSk, Or.inr (Or.inr (Or.inr ⟨hbn, hnl, hnd, rfl, Or.inr ⟨hsn, rfl⟩⟩))⟩, by rw [up2_k _ _ (by decide), up2_k _ _ (by decide)]; exact h5, by rw [up2_k _ _ (by decide), up2_s]; exact nI_1 b, up2_s _ _ _ _, fun q => absurd q (by decide), fun q => absurd q (by decide)⟩
          · skip
            refine ht_iload_n (D 178 rfl) rfl rfl ?_
            refine ht_bipush (v := 43) (D 179 rfl) (by decide) ?_
            refine ht_icmp_le (tgt := 363) (D 180 rfl) (by decide) (fun hb342 => ?_) (fun hb342 => ?_)
            · skip
              have hsg : sgM (T b) := Or.inl ⟨Int32.not_lt.mp hb336, hb342⟩
              refine ht_iconst (v := 3) (D 190 rfl) (by decide) ?_
              refine ht_goto (tgt := 368) (D 191 rfl) (by decide) ?_
              refine pm_X10_160 hM rfl (D 193 rfl) ?_
              refine ht_vret (D 194 rfl) rfl ?_
              first | exact ⟨rfl, _, U1, b, b + 1, 3, rfl, NF_up (NF_up hF (by omega) _) (by omega) _, hU, ⟨hSk, Or.inr (Or.inr (Or.inr ⟨hbn, hnl, hnd, rfl, Or.inl ⟨hsg, rfl⟩⟩))⟩, by rw [up2_k _ _ (by decide), up2_k _ _ (by decide)]; exact h5, by rw [up2_k _ _ (by decide), up2_s]; exact nI_1 b, up2_s _ _ _ _, fun q => absurd q (by decide), fun q => absurd q (by decide)⟩ | exact ⟨rfl, _, U1, b, b + 1, 4, rfl, NF_up (NF_up hF (by omega) _) (by omega) _, hU, ⟨hSk, Or.inr (Or.inr (Or.inr ⟨hbn, hnl, hnd, rfl, Or.inr ⟨hsn, rfl⟩⟩))⟩, by rw [up2_k _ _ (by decide), up2_k _ _ (by decide)]; exact h5, by rw [up2_k _ _ (by decide), up2_s]; exact nI_1 b, up2_s _ _ _ _, fun q => absurd q (by decide), fun q => absurd q (by decide)⟩
            · skip
              refine ht_iload_n (D 181 rfl) rfl rfl ?_
              refine ht_bipush (v := 45) (D 182 rfl) (by decide) ?_
              refine ht_icmp_eq (tgt := 363) (D 183 rfl) (by decide) (fun hb348 => ?_) (fun hb348 => ?_)
              · skip
                have hsg : sgM (T b) := Or.inr (Or.inl hb348)
                refine ht_iconst (v := 3) (D 190 rfl) (by decide) ?_
                refine ht_goto (tgt := 368) (D 191 rfl) (by decide) ?_
                refine pm_X10_160 hM rfl (D 193 rfl) ?_
                refine ht_vret (D 194 rfl) rfl ?_
                first | exact ⟨rfl, _, U1, b, b + 1, 3, rfl, NF_up (NF_up hF (by omega) _) (by omega) _, hU, ⟨hSk, Or.inr (Or.inr (Or.inr ⟨hbn, hnl, hnd, rfl, Or.inl ⟨hsg, rfl⟩⟩))⟩, by rw [up2_k _ _ (by decide), up2_k _ _ (by decide)]; exact h5, by rw [up2_k _ _ (by decide), up2_s]; exact nI_1 b, up2_s _ _ _ _, fun q => absurd q (by decide), fun q => absurd q (by decide)⟩ | exact ⟨rfl, _, U1, b, b + 1, 4, rfl, NF_up (NF_up hF (by omega) _) (by omega) _, hU, ⟨hSk, Or.inr (Or.inr (Or.inr ⟨hbn, hnl, hnd, rfl, Or.inr ⟨hsn, rfl⟩⟩))⟩, by rw [up2_k _ _ (by decide), up2_k _ _ (by decide)]; exact h5, by rw [up2_k _ _ (by decide), up2_s]; exact nI_1 b, up2_s _ _ _ _, fun q => absurd q (by decide), fun q => absurd q (by decide)⟩
              · skip
                refine ht_iload_n (D 184 rfl) rfl rfl ?_
                refine ht_bipush (v := 59) (D 185 rfl) (by decide) ?_
                refine ht_icmp_lt (tgt := 367) (D 186 rfl) (by decide) (fun hb354 => ?_) (fun hb354 => ?_)
                · skip
                  have hsn : ¬ sgM (T b) := fun q => by
                    rcases q with q | q | q
                    · first | exact hb342 q.2 | exact Int32.not_le.mpr hb336 q.1
                    · exact hb348 q
                    · exact Int32.not_le.mpr hb354 q.1
                  refine ht_iconst (v := 4) (D 192 rfl) (by decide) ?_
                  refine pm_X10_160 hM rfl (D 193 rfl) ?_
                  refine ht_vret (D 194 rfl) rfl ?_
                  first | exact ⟨rfl, _, U1, b, b + 1, 3, rfl, NF_up (NF_up hF (by omega) _) (by omega) _, hU, ⟨hSk, Or.inr (Or.inr (Or.inr ⟨hbn, hnl, hnd, rfl, Or.inl ⟨hsg, rfl⟩⟩))⟩, by rw [up2_k _ _ (by decide), up2_k _ _ (by decide)]; exact h5, by rw [up2_k _ _ (by decide), up2_s]; exact nI_1 b, up2_s _ _ _ _, fun q => absurd q (by decide), fun q => absurd q (by decide)⟩ | exact ⟨rfl, _, U1, b, b + 1, 4, rfl, NF_up (NF_up hF (by omega) _) (by omega) _, hU, ⟨hSk, Or.inr (Or.inr (Or.inr ⟨hbn, hnl, hnd, rfl, Or.inr ⟨hsn, rfl⟩⟩))⟩, by rw [up2_k _ _ (by decide), up2_k _ _ (by decide)]; exact h5, by rw [up2_k _ _ (by decide), up2_s]; exact nI_1 b, up2_s _ _ _ _, fun q => absurd q (by decide), fun q => absurd q (by decide)⟩
                · skip
                  refine ht_iload_n (D 187 rfl) rfl rfl ?_
                  refine ht_bipush (v := 61) (D 188 rfl) (by decide) ?_
                  refine ht_icmp_gt (tgt := 367) (D 189 rfl) (by decide) (fun hb360 => ?_) (fun hb360 => ?_)
                  · skip
                    have hsn : ¬ sgM (T b) := fun q => by
                      rcases q with q | q | q
                      · first | exact hb342 q.2 | exact Int32.not_le.mpr hb336 q.1
                      · exact hb348 q
                      · exact Int32.not_le.mpr hb360 q.2
                    refine ht_iconst (v := 4) (D 192 rfl) (by decide) ?_
                    refine pm_X10_160 hM rfl (D 193 rfl) ?_
                    refine ht_vret (D 194 rfl) rfl ?_
                    first | exact ⟨rfl, _, U1, b, b + 1, 3, rfl, NF_up (NF_up hF (by omega) _) (by omega) _, hU, ⟨hSk, Or.inr (Or.inr (Or.inr ⟨hbn, hnl, hnd, rfl, Or.inl ⟨hsg, rfl⟩⟩))⟩, by rw [up2_k _ _ (by decide), up2_k _ _ (by decide)]; exact h5, by rw [up2_k _ _ (by decide), up2_s]; exact nI_1 b, up2_s _ _ _ _, fun q => absurd q (by decide), fun q => absurd q (by decide)⟩ | exact ⟨rfl, _, U1, b, b + 1, 4, rfl, NF_up (NF_up hF (by omega) _) (by omega) _, hU, ⟨hSk, Or.inr (Or.inr (Or.inr ⟨hbn, hnl, hnd, rfl, Or.inr ⟨hsn, rfl⟩⟩))⟩, by rw [up2_k _ _ (by decide), up2_k _ _ (by decide)]; exact h5, by rw [up2_k _ _ (by decide), up2_s]; exact nI_1 b, up2_s _ _ _ _, fun q => absurd q (by decide), fun q => absurd q (by decide)⟩
                  · skip
                    have hsg : sgM (T b) := Or.inr (Or.inr ⟨Int32.not_lt.mp hb354, Int32.not_lt.mp hb360⟩)
                    refine ht_iconst (v := 3) (D 190 rfl) (by decide) ?_
                    refine ht_goto (tgt := 368) (D 191 rfl) (by decide) ?_
                    refine pm_X10_160 hM rfl (D 193 rfl) ?_
                    refine ht_vret (D 194 rfl) rfl ?_
                    first | exact ⟨rfl, _, U1, b, b + 1, 3, rfl, NF_up (NF_up hF (by omega) _) (by omega) _, hU, ⟨hSk, Or.inr (Or.inr (Or.inr ⟨hbn, hnl, hnd, rfl, Or.inl ⟨hsg, rfl⟩⟩))⟩, by rw [up2_k _ _ (by decide), up2_k _ _ (by decide)]; exact h5, by rw [up2_k _ _ (by decide), up2_s]; exact nI_1 b, up2_s _ _ _ _, fun q => absurd q (by decide), fun q => absurd q (by decide)⟩ | exact ⟨rfl, _, U1, b, b + 1, 4, rfl, NF_up (NF_up hF (by omega) _) (by omega) _, hU, ⟨hSk, Or.inr (Or.inr (Or.inr ⟨hbn, hnl, hnd, rfl, Or.inr ⟨hsn, rfl⟩⟩))⟩, by rw [up2_k _ _ (by decide), up2_k _ _ (by decide)]; exact h5, by rw [up2_k _ _ (by decide), up2_s]; exact nI_1 b, up2_s _ _ _ _, fun q => absurd q (by decide), fun q => absurd q (by decide)⟩
        · skip
          exact sm_ntB hM hV hn hn2 (fun e k h1 h2 => ⟨hSk, Or.inr (Or.inr (Or.inl ⟨hbn, hnl, ⟨Int32.not_lt.mp hb215, Int32.not_lt.mp hb221⟩, h1, h2⟩))⟩) (n - b) b V1 U1 hF hU h4 h5 (by rw [Nat.sub_self]; exact h8) (Nat.le_refl _) (by omega) (fun i q1 q2 => absurd q2 (by omega)) rfl
    · skip
      exact sm_ntA hM hV hn hn2 (fun e k h1 h2 => ⟨hSk, Or.inr (Or.inl ⟨hbn, ⟨Int32.not_lt.mp hb100, Int32.not_lt.mp hb106⟩, h1, h2⟩)⟩) (n - b) b V1 U1 hF hU h4 h5 (by rw [Nat.sub_self]; exact h7) (Nat.le_refl _) (by omega) (fun i q1 q2 => absurd q2 (by omega)) rfl
set_option maxRecDepth 100000 in
set_option maxHeartbeats 1000000 in
theorem sm_nextToken (hM : MS σ m) {T : ST} {n p : Nat} (hV : V 1 = T) (hn : V 0 3 = nI n) (hn2 : n ≤ 1000) (hp : V 0 4 = nI p) (hpn : p ≤ n) : Sp G mX10_nextToken 1 [.ref m] (sv σ m V U) (fun rv σ' => rv = none ∧ ∃ (V' : VT) (U' : UT) (b e k : Nat), σ' = sv σ m V' U' ∧ NF V V' ∧ NU U U' ∧ RT T n p b e k V' U') := by
  have D := dat dl_X10_nextToken
  have loop : ∀ (r b : Nat) (V1 : VT), NF V V1 → NU U U → V1 0 4 = nI b → p ≤ b → b ≤ n → (∀ i, p ≤ i → i < b → isBl (T i)) → n - b = r → HT G mX10_nextToken 0 [some (.ref m), none] [] (sv σ m V1 U) 1 (fun rv σ' => rv = none ∧ ∃ (V' : VT) (U' : UT) (b e k : Nat), σ' = sv σ m V' U' ∧ NF V V' ∧ NU U U' ∧ RT T n p b e k V' U') := by
    intro r
    induction r using Nat.strongRecOn with
    | _ r ih =>
      intro b V1 hF hU h4 hpb hbn hall hr
      have hV1 : V1 1 b = T b := by rw [hF.1 1 (by decide), hV]
      refine ht_aload_n (D 0 rfl) rfl rfl ?_
      refine gm_X10_147 hM rfl (D 1 rfl) ?_
      refine ht_aload_n (D 2 rfl) rfl rfl ?_
      refine gm_X10_144 hM rfl (D 3 rfl) ?_
      rw [h4, hF.2 3 (by decide) (by decide) (by decide) (by decide), hn]
      refine ht_icmp_ge (tgt := 52) (D 4 rfl) (by decide) (fun hb8 => ?_) (fun hb8 => ?_)
      · skip
        have hbe : b = n := by have h9 := (nI_leI (a := n) (b := b) (by omega) (by omega)).mp hb8; omega
        have hSk : Sk T n p b := ⟨hpb, hbn, hall, fun q => absurd q (by omega)⟩
        refine ht_aload_n (D 26 rfl) rfl rfl ?_
        refine ht_aload_n (D 27 rfl) rfl rfl ?_
        refine gm_X10_147 hM rfl (D 28 rfl) ?_
        rw [h4]
        refine pm_X10_150 hM rfl (D 29 rfl) ?_
        refine ht_aload_n (D 30 rfl) rfl rfl ?_
        refine ht_lconst (v := 0) (D 31 rfl) (by decide) ?_
        refine pm_X10_153 hM rfl (D 32 rfl) ?_
        refine ht_aload_n (D 33 rfl) rfl rfl ?_
        refine ht_iconst (v := 0) (D 34 rfl) (by decide) ?_
        refine pm_X10_157 hM rfl (D 35 rfl) ?_
        refine ht_aload_n (D 36 rfl) rfl rfl ?_
        refine gm_X10_147 hM rfl (D 37 rfl) ?_
        refine ht_aload_n (D 38 rfl) rfl rfl ?_
        refine gm_X10_144 hM rfl (D 39 rfl) ?_
        rw [up2_k _ _ (by decide), up2_k _ _ (by decide), up2_k _ _ (by decide), up2_k _ _ (by decide), h4, hF.2 3 (by decide) (by decide) (by decide) (by decide), hn]
        refine ht_icmp_ne (tgt := 87) (D 40 rfl) (by decide) (fun hb78 => ?_) (fun hb78 => ?_)
        · skip
          have hbl : b < n := by
            rcases Nat.lt_or_ge b n with c | c
            · exact c
            · exact absurd (by rw [show b = n by omega]) hb78
          refine ht_cast (sm_ntC hM hV hn hn2 (l1 := none) hSk hbl (NF_up (NF_up hF (Or.inr (Or.inl rfl)) _) (Or.inr (Or.inr (Or.inr rfl))) _) (NU_up hU _) (by rw [up2_k _ _ (by decide), up2_k _ _ (by decide)]; exact h4) (by rw [up2_k _ _ (by decide), up2_s]) (up2_s _ _ _ _) (up2_s _ _ _ _)) rfl rfl rfl
        · skip
          have hbe : b = n := (nI_eq (by omega) (by omega)).mp hb78
          refine ht_aload_n (D 41 rfl) rfl rfl ?_
          refine ht_iconst (v := 0) (D 42 rfl) (by decide) ?_
          refine pm_X10_160 hM rfl (D 43 rfl) ?_
          refine ht_vret (D 44 rfl) rfl ?_
          exact ⟨rfl, _, _, b, b, 0, rfl, NF_up (NF_up (NF_up hF (Or.inr (Or.inl rfl)) _) (Or.inr (Or.inr (Or.inr rfl))) _) (Or.inr (Or.inr (Or.inl rfl))) _, NU_up hU _, ⟨hSk, Or.inl ⟨hbe, rfl, rfl⟩⟩, by rw [up2_k _ _ (by decide), up2_k _ _ (by decide), up2_s], by rw [up2_k _ _ (by decide), up2_k _ _ (by decide), up2_k _ _ (by decide)]; exact h4, up2_s _ _ _ _, fun q => absurd q (by decide), fun q => absurd q (by decide)⟩
      · skip
        have hbl : b < n := by have h9 := mt (nI_leI (a := n) (b := b) (by omega) (by omega)).mpr hb8; omega
        refine ht_aload_n (D 5 rfl) rfl rfl ?_
        refine gf_X10_7 rfl (D 6 rfl) hM.k0 hM.q1 ?_
        refine ht_aload_n (D 7 rfl) rfl rfl ?_
        refine gm_X10_147 hM rfl (D 8 rfl) ?_
        rw [h4]
        refine hm_ild (o := 1) (n := b) (by decide) (D 9 rfl) hM.k1 hM.n1 rfl (by omega) (by decide) ?_
        refine ht_bipush (v := 32) (D 10 rfl) (by decide) ?_
        refine ht_icmp_eq (tgt := 39) (D 11 rfl) (by decide) (fun hb22 => ?_) (fun hb22 => ?_)
        · skip
          rw [hV1] at hb22
          have hbk : isBl (T b) := Or.inl hb22
          refine ht_aload_n (D 19 rfl) rfl rfl ?_
          refine ht_dup (D 20 rfl) rfl ?_
          refine gm_X10_147 hM rfl (D 21 rfl) ?_
          rw [h4]
          refine ht_iconst (v := 1) (D 22 rfl) (by decide) ?_
          refine ht_iadd (D 23 rfl) ?_
          refine pm_X10_147 hM rfl (D 24 rfl) ?_
          refine ht_goto (tgt := 0) (D 25 rfl) (by decide) ?_
          exact ih (n - (b + 1)) (by omega) (b + 1) _ (NF_up hF (Or.inl rfl) _) hU (by rw [up2_s]; exact nI_1 b) (by omega) (by omega) (fun i q1 q2 => by (by_cases q3 : i = b); (rw [q3]; exact hbk); exact hall i q1 (by omega)) rfl
        · skip
          refine ht_aload_n (D 12 rfl) rfl rfl ?_
          refine gf_X10_7 rfl (D 13 rfl) hM.k0 hM.q1 ?_
          refine ht_aload_n (D 14 rfl) rfl rfl ?_
          refine gm_X10_147 hM rfl (D 15 rfl) ?_
          rw [h4]
          refine hm_ild (o := 1) (n := b) (by decide) (D 16 rfl) hM.k1 hM.n1 rfl (by omega) (by decide) ?_
          refine ht_bipush (v := 10) (D 17 rfl) (by decide) ?_
          refine ht_icmp_ne (tgt := 52) (D 18 rfl) (by decide) (fun hb36 => ?_) (fun hb36 => ?_)
          · skip
            rw [hV1] at hb22 hb36
            have hSk : Sk T n p b := ⟨hpb, hbn, hall, fun _ q => by
              rcases q with q | q
              · exact hb22 q
              · exact hb36 q⟩
            refine ht_aload_n (D 26 rfl) rfl rfl ?_
            refine ht_aload_n (D 27 rfl) rfl rfl ?_
            refine gm_X10_147 hM rfl (D 28 rfl) ?_
            rw [h4]
            refine pm_X10_150 hM rfl (D 29 rfl) ?_
            refine ht_aload_n (D 30 rfl) rfl rfl ?_
            refine ht_lconst (v := 0) (D 31 rfl) (by decide) ?_
            refine pm_X10_153 hM rfl (D 32 rfl) ?_
            refine ht_aload_n (D 33 rfl) rfl rfl ?_
            refine ht_iconst (v := 0) (D 34 rfl) (by decide) ?_
            refine pm_X10_157 hM rfl (D 35 rfl) ?_
            refine ht_aload_n (D 36 rfl) rfl rfl ?_
            refine gm_X10_147 hM rfl (D 37 rfl) ?_
            refine ht_aload_n (D 38 rfl) rfl rfl ?_
            refine gm_X10_144 hM rfl (D 39 rfl) ?_
            rw [up2_k _ _ (by decide), up2_k _ _ (by decide), up2_k _ _ (by decide), up2_k _ _ (by decide), h4, hF.2 3 (by decide) (by decide) (by decide) (by decide), hn]
            refine ht_icmp_ne (tgt := 87) (D 40 rfl) (by decide) (fun hb78 => ?_) (fun hb78 => ?_)
            · skip
              have hbl : b < n := by
                rcases Nat.lt_or_ge b n with c | c
                · exact c
                · exact absurd (by rw [show b = n by omega]) hb78
              refine ht_cast (sm_ntC hM hV hn hn2 (l1 := none) hSk hbl (NF_up (NF_up hF (Or.inr (Or.inl rfl)) _) (Or.inr (Or.inr (Or.inr rfl))) _) (NU_up hU _) (by rw [up2_k _ _ (by decide), up2_k _ _ (by decide)]; exact h4) (by rw [up2_k _ _ (by decide), up2_s]) (up2_s _ _ _ _) (up2_s _ _ _ _)) rfl rfl rfl
            · skip
              have hbe : b = n := (nI_eq (by omega) (by omega)).mp hb78
              refine ht_aload_n (D 41 rfl) rfl rfl ?_
              refine ht_iconst (v := 0) (D 42 rfl) (by decide) ?_
              refine pm_X10_160 hM rfl (D 43 rfl) ?_
              refine ht_vret (D 44 rfl) rfl ?_
              exact ⟨rfl, _, _, b, b, 0, rfl, NF_up (NF_up (NF_up hF (Or.inr (Or.inl rfl)) _) (Or.inr (Or.inr (Or.inr rfl))) _) (Or.inr (Or.inr (Or.inl rfl))) _, NU_up hU _, ⟨hSk, Or.inl ⟨hbe, rfl, rfl⟩⟩, by rw [up2_k _ _ (by decide), up2_k _ _ (by decide), up2_s], by rw [up2_k _ _ (by decide), up2_k _ _ (by decide), up2_k _ _ (by decide)]; exact h4, up2_s _ _ _ _, fun q => absurd q (by decide), fun q => absurd q (by decide)⟩
          · skip
            rw [hV1] at hb36
            have hbk : isBl (T b) := Or.inr hb36
            refine ht_aload_n (D 19 rfl) rfl rfl ?_
            refine ht_dup (D 20 rfl) rfl ?_
            refine gm_X10_147 hM rfl (D 21 rfl) ?_
            rw [h4]
            refine ht_iconst (v := 1) (D 22 rfl) (by decide) ?_
            refine ht_iadd (D 23 rfl) ?_
            refine pm_X10_147 hM rfl (D 24 rfl) ?_
            refine ht_goto (tgt := 0) (D 25 rfl) (by decide) ?_
            exact ih (n - (b + 1)) (by omega) (b + 1) _ (NF_up hF (Or.inl rfl) _) hU (by rw [up2_s]; exact nI_1 b) (by omega) (by omega) (fun i q1 q2 => by (by_cases q3 : i = b); (rw [q3]; exact hbk); exact hall i q1 (by omega)) rfl
  exact loop (n - p) p V (NF_r V) (NU_r U) hp (Nat.le_refl _) hpn (fun i q1 q2 => absurd q2 (by omega)) rfl
end P0
