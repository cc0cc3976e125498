/-! ===== the reference: questions to a token ===== -/
abbrev wB (i : Nat) : Int64 := Int64.ofNat (wNb.getD i 0)
/-- the words of the facts, by the reference's numbers -/
def fcW (ice : Bool) (f : Nat) : Nat := if ice then [0, 19, 4, 11, 20, 1, 21].getD f 0 else [0, 17, 18, 2].getD f 0
def fcN (ice : Bool) : Nat := if ice then 6 else 3
def kpR (V : VT) (U : UT) : Prop := ¬ V 0 6 = 1 ∨ ∃ i, i < 17 ∧ U 0 7 = wB i
section P4
variable {G : GG} {σ : Hp} {m : Nat} {V : VT} {U : UT}
set_option maxRecDepth 100000 in
theorem sm_isWord (hM : MS σ m) (w : Int64) : Sp G mX10_isWord 0 [.ref m, .long w] (sv σ m V U) (fun rv σ' => rv = some (.int (b01 (V 0 6 = 1 ∧ U 0 7 = w))) ∧ σ' = sv σ m V U) := by
  have D := dat dl_X10_isWord
  show HT G mX10_isWord 0 [some (.ref m), some (.long w), none] [] (sv σ m V U) 0 _
  refine ht_aload_n (D 0 rfl) rfl rfl ?_
  refine gm_X10_160 hM rfl (D 1 rfl) ?_
  refine ht_iconst (v := 1) (D 2 rfl) (by decide) ?_
  refine ht_icmp_ne (tgt := 21) (D 3 rfl) (by decide) (fun hb5 => ?_) (fun hb5 => ?_)
  · skip
    have hno : ¬ (V 0 6 = 1 ∧ U 0 7 = w) := fun q => hb5 q.1
    refine ht_iconst (v := 0) (D 11 rfl) (by decide) ?_
    refine ht_iret (D 12 rfl) rfl rfl ?_
    first | exact ⟨by rw [b01_t hye], rfl⟩ | exact ⟨by rw [b01_f hno], rfl⟩
  · skip
    refine ht_aload_n (D 4 rfl) rfl rfl ?_
    refine gm_X10_153 hM rfl (D 5 rfl) ?_
    refine ht_lload_n (D 6 rfl) rfl rfl ?_
    refine ht_lcmp (D 7 rfl) ?_
    refine ht_if_ne (tgt := 21) (D 8 rfl) (by decide) (fun hb14 => ?_) (fun hb14 => ?_)
    · skip
      have hno : ¬ (V 0 6 = 1 ∧ U 0 7 = w) := fun q => hb14 ((lg_cmp_eq _ _).mpr q.2)
      refine ht_iconst (v := 0) (D 11 rfl) (by decide) ?_
      refine ht_iret (D 12 rfl) rfl rfl ?_
      first | exact ⟨by rw [b01_t hye], rfl⟩ | exact ⟨by rw [b01_f hno], rfl⟩
    · skip
      have hye : V 0 6 = 1 ∧ U 0 7 = w := ⟨hb5, (lg_cmp_eq _ _).mp hb14⟩
      refine ht_iconst (v := 1) (D 9 rfl) (by decide) ?_
      refine ht_goto (tgt := 22) (D 10 rfl) (by decide) ?_
      refine ht_iret (D 12 rfl) rfl rfl ?_
      first | exact ⟨by rw [b01_t hye], rfl⟩ | exact ⟨by rw [b01_f hno], rfl⟩
set_option maxRecDepth 100000 in
theorem sm_isSign (hM : MS σ m) (s : Int32) {b : Nat} (hb : V 0 5 = nI b) (hbn : V 0 6 = 3 → b < 1000) : Sp G mX10_isSign 0 [.ref m, .int s] (sv σ m V U) (fun rv σ' => rv = some (.int (b01 (V 0 6 = 3 ∧ V 1 b = s))) ∧ σ' = sv σ m V U) := by
  have D := dat dl_X10_isSign
  show HT G mX10_isSign 0 [some (.ref m), some (.int s)] [] (sv σ m V U) 0 _
  refine ht_aload_n (D 0 rfl) rfl rfl ?_
  refine gm_X10_160 hM rfl (D 1 rfl) ?_
  refine ht_iconst (v := 3) (D 2 rfl) (by decide) ?_
  refine ht_icmp_ne (tgt := 25) (D 3 rfl) (by decide) (fun hb5 => ?_) (fun hb5 => ?_)
  · skip
    have hno : ¬ (V 0 6 = 3 ∧ V 1 b = s) := fun q => hb5 q.1
    refine ht_iconst (v := 0) (D 13 rfl) (by decide) ?_
    refine ht_iret (D 14 rfl) rfl rfl ?_
    first | exact ⟨by rw [b01_t hye], rfl⟩ | exact ⟨by rw [b01_f hno], rfl⟩
  · skip
    have hbn2 := hbn hb5
    refine ht_aload_n (D 4 rfl) rfl rfl ?_
    refine gf_X10_7 rfl (D 5 rfl) hM.k0 hM.q1 ?_
    refine ht_aload_n (D 6 rfl) rfl rfl ?_
    refine gm_X10_150 hM rfl (D 7 rfl) ?_
    rw [hb]
    refine hm_ild (o := 1) (n := b) (by decide) (D 8 rfl) hM.k1 hM.n1 (by first | rfl | exact nI_add _ _ | assumption) (by omega) (by decide) ?_
    refine ht_iload_n (D 9 rfl) rfl rfl ?_
    refine ht_icmp_ne (tgt := 25) (D 10 rfl) (by decide) (fun hb18 => ?_) (fun hb18 => ?_)
    · skip
      have hno : ¬ (V 0 6 = 3 ∧ V 1 b = s) := fun q => hb18 q.2
      refine ht_iconst (v := 0) (D 13 rfl) (by decide) ?_
      refine ht_iret (D 14 rfl) rfl rfl ?_
      first | exact ⟨by rw [b01_t hye], rfl⟩ | exact ⟨by rw [b01_f hno], rfl⟩
    · skip
      have hye : V 0 6 = 3 ∧ V 1 b = s := ⟨hb5, hb18⟩
      refine ht_iconst (v := 1) (D 11 rfl) (by decide) ?_
      refine ht_goto (tgt := 26) (D 12 rfl) (by decide) ?_
      refine ht_iret (D 14 rfl) rfl rfl ?_
      first | exact ⟨by rw [b01_t hye], rfl⟩ | exact ⟨by rw [b01_f hno], rfl⟩
set_option maxRecDepth 100000 in
theorem sm_fails (hM : MS σ m) (k : Int32) : Sp G mX10_fails 0 [.ref m, .int k] (sv σ m V U) (fun rv σ' => rv = some (.int 0) ∧ σ' = sv σ m (up2 V 0 9 (k + 16 * V 0 5)) U) := by
  have D := dat dl_X10_fails
  show HT G mX10_fails 0 [some (.ref m), some (.int k)] [] (sv σ m V U) 0 _
  refine ht_aload_n (D 0 rfl) rfl rfl ?_
  refine ht_iload_n (D 1 rfl) rfl rfl ?_
  refine ht_bipush (v := 16) (D 2 rfl) (by decide) ?_
  refine ht_aload_n (D 3 rfl) rfl rfl ?_
  refine gm_X10_150 hM rfl (D 4 rfl) ?_
  refine ht_imul (D 5 rfl) ?_
  refine ht_iadd (D 6 rfl) ?_
  refine pm_X10_171 hM rfl (D 7 rfl) ?_
  refine ht_iconst (v := 0) (D 8 rfl) (by decide) ?_
  refine ht_iret (D 9 rfl) rfl rfl ?_
  exact ⟨rfl, rfl⟩
set_option maxRecDepth 100000 in
theorem sm_puts (hM : MS σ m) (x : Int32) {c : Nat} (hc : V 0 29 = nI c) (hc2 : c < 6000) : Sp G mX10_puts 0 [.ref m, .int x] (sv σ m V U) (fun rv σ' => rv = none ∧ σ' = sv σ m (up2 (up2 V 20 c x) 0 29 (nI (c + 1))) U) := by
  have D := dat dl_X10_puts
  show HT G mX10_puts 0 [some (.ref m), some (.int x)] [] (sv σ m V U) 0 _
  refine ht_aload_n (D 0 rfl) rfl rfl ?_
  refine gf_X10_68 rfl (D 1 rfl) hM.k0 hM.q20 ?_
  refine ht_aload_n (D 2 rfl) rfl rfl ?_
  refine gm_X10_174 hM rfl (D 3 rfl) ?_
  rw [hc]
  refine ht_iload_n (D 4 rfl) rfl rfl ?_
  refine hm_ist (o := 20) (n := c) (by decide) (D 5 rfl) hM.k20 hM.n20 (by first | rfl | exact nI_add _ _ | assumption) (by omega) (by decide) ?_
  refine ht_aload_n (D 6 rfl) rfl rfl ?_
  refine ht_dup (D 7 rfl) rfl ?_
  refine gm_X10_174 hM rfl (D 8 rfl) ?_
  rw [show up2 V 20 c x 0 29 = nI c from (up2_a V x (by decide)).trans hc]
  refine ht_iconst (v := 1) (D 9 rfl) (by decide) ?_
  refine ht_iadd (D 10 rfl) ?_
  rw [show nI c + 1 = nI (c + 1) from nI_1 c]
  refine pm_X10_174 hM rfl (D 11 rfl) ?_
  refine ht_vret (D 12 rfl) rfl ?_
  exact ⟨rfl, rfl⟩
set_option maxRecDepth 100000 in
theorem sm_factI (hM : MS σ m) (hi : V 0 30 = 1) : Sp G mX10_fact 0 [.ref m] (sv σ m V U) (fun rv σ' => ((∃ f, 1 ≤ f ∧ f ≤ fcN true ∧ rv = some (.int (nI f)) ∧ V 0 6 = 1 ∧ U 0 7 = wB (fcW true f)) ∨ (rv = some (.int 0) ∧ ∀ f, 1 ≤ f → f ≤ fcN true → V 0 6 = 1 → ¬ U 0 7 = wB (fcW true f))) ∧ σ' = sv σ m V U) := by
  have D := dat dl_X10_fact
  show HT G mX10_fact 0 [some (.ref m)] [] (sv σ m V U) 0 _
  refine ht_aload_n (D 0 rfl) rfl rfl ?_
  refine gm_X10_160 hM rfl (D 1 rfl) ?_
  refine ht_iconst (v := 1) (D 2 rfl) (by decide) ?_
  refine ht_icmp_eq (tgt := 10) (D 3 rfl) (by decide) (fun hb5 => ?_) (fun hb5 => ?_)
  · skip
    refine ht_aload_n (D 6 rfl) rfl rfl ?_
    refine gm_X10_177 hM rfl (D 7 rfl) ?_
    rw [hi]
    refine ht_if_eq (tgt := 98) (D 8 rfl) (by decide) (fun hb14 => ?_) (fun hb14 => ?_)
    · skip
      exact absurd hb14 (by decide)
    · skip
      refine ht_aload_n (D 9 rfl) rfl rfl ?_
      refine gm_X10_153 hM rfl (D 10 rfl) ?_
      refine ht_ldc2 kl_X10_181 (D 11 rfl) ?_
      refine ht_lcmp (D 12 rfl) ?_
      refine ht_if_ne (tgt := 30) (D 13 rfl) (by decide) (fun hb25 => ?_) (fun hb25 => ?_)
      · skip
        refine ht_aload_n (D 16 rfl) rfl rfl ?_
        refine gm_X10_153 hM rfl (D 17 rfl) ?_
        refine ht_ldc2 kl_X10_183 (D 18 rfl) ?_
        refine ht_lcmp (D 19 rfl) ?_
        refine ht_if_ne (tgt := 43) (D 20 rfl) (by decide) (fun hb38 => ?_) (fun hb38 => ?_)
        · skip
          refine ht_aload_n (D 23 rfl) rfl rfl ?_
          refine gm_X10_153 hM rfl (D 24 rfl) ?_
          refine ht_ldc2 kl_X10_185 (D 25 rfl) ?_
          refine ht_lcmp (D 26 rfl) ?_
          refine ht_if_ne (tgt := 56) (D 27 rfl) (by decide) (fun hb51 => ?_) (fun hb51 => ?_)
          · skip
            refine ht_aload_n (D 30 rfl) rfl rfl ?_
            refine gm_X10_153 hM rfl (D 31 rfl) ?_
            refine ht_ldc2 kl_X10_187 (D 32 rfl) ?_
            refine ht_lcmp (D 33 rfl) ?_
            refine ht_if_ne (tgt := 69) (D 34 rfl) (by decide) (fun hb64 => ?_) (fun hb64 => ?_)
            · skip
              refine ht_aload_n (D 37 rfl) rfl rfl ?_
              refine gm_X10_153 hM rfl (D 38 rfl) ?_
              refine ht_ldc2 kl_X10_189 (D 39 rfl) ?_
              refine ht_lcmp (D 40 rfl) ?_
              refine ht_if_ne (tgt := 82) (D 41 rfl) (by decide) (fun hb77 => ?_) (fun hb77 => ?_)
              · skip
                refine ht_aload_n (D 44 rfl) rfl rfl ?_
                refine gm_X10_153 hM rfl (D 45 rfl) ?_
                refine ht_ldc2 kl_X10_191 (D 46 rfl) ?_
                refine ht_lcmp (D 47 rfl) ?_
                refine ht_if_ne (tgt := 96) (D 48 rfl) (by decide) (fun hb90 => ?_) (fun hb90 => ?_)
                · skip
                  refine ht_iconst (v := 0) (D 51 rfl) (by decide) ?_
                  refine ht_iret (D 52 rfl) rfl rfl ?_
                  refine ⟨Or.inr ⟨rfl, fun f h1 h2 q1 q2 => ?_⟩, rfl⟩
                  have h3 : f ≤ 6 := h2
                  (have h4 : f = 1 ∨ f = 2 ∨ f = 3 ∨ f = 4 ∨ f = 5 ∨ f = 6 := by omega)
                  rcases h4 with rfl | rfl | rfl | rfl | rfl | rfl
                  · exact hb25 ((lg_cmp_eq _ _).mpr q2)
                  · exact hb38 ((lg_cmp_eq _ _).mpr q2)
                  · exact hb51 ((lg_cmp_eq _ _).mpr q2)
                  · exact hb64 ((lg_cmp_eq _ _).mpr q2)
                  · exact hb77 ((lg_cmp_eq _ _).mpr q2)
                  · exact hb90 ((lg_cmp_eq _ _).mpr q2)
                · skip
                  refine ht_bipush (v := 6) (D 49 rfl) (by decide) ?_
                  refine ht_iret (D 50 rfl) rfl rfl ?_
                  exact ⟨Or.inl ⟨6, by decide, by decide, rfl, hb5, (lg_cmp_eq _ _).mp hb90⟩, rfl⟩
              · skip
                refine ht_iconst (v := 5) (D 42 rfl) (by decide) ?_
                refine ht_iret (D 43 rfl) rfl rfl ?_
                exact ⟨Or.inl ⟨5, by decide, by decide, rfl, hb5, (lg_cmp_eq _ _).mp hb77⟩, rfl⟩
            · skip
              refine ht_iconst (v := 4) (D 35 rfl) (by decide) ?_
              refine ht_iret (D 36 rfl) rfl rfl ?_
              exact ⟨Or.inl ⟨4, by decide, by decide, rfl, hb5, (lg_cmp_eq _ _).mp hb64⟩, rfl⟩
          · skip
            refine ht_iconst (v := 3) (D 28 rfl) (by decide) ?_
            refine ht_iret (D 29 rfl) rfl rfl ?_
            exact ⟨Or.inl ⟨3, by decide, by decide, rfl, hb5, (lg_cmp_eq _ _).mp hb51⟩, rfl⟩
        · skip
          refine ht_iconst (v := 2) (D 21 rfl) (by decide) ?_
          refine ht_iret (D 22 rfl) rfl rfl ?_
          exact ⟨Or.inl ⟨2, by decide, by decide, rfl, hb5, (lg_cmp_eq _ _).mp hb38⟩, rfl⟩
      · skip
        refine ht_iconst (v := 1) (D 14 rfl) (by decide) ?_
        refine ht_iret (D 15 rfl) rfl rfl ?_
        exact ⟨Or.inl ⟨1, by decide, by decide, rfl, hb5, (lg_cmp_eq _ _).mp hb25⟩, rfl⟩
  · skip
    refine ht_iconst (v := 0) (D 4 rfl) (by decide) ?_
    refine ht_iret (D 5 rfl) rfl rfl ?_
    exact ⟨Or.inr ⟨rfl, fun f _ _ q1 _ => hb5 q1⟩, rfl⟩
set_option maxRecDepth 100000 in
theorem sm_factW (hM : MS σ m) (hi : V 0 30 = 0) : Sp G mX10_fact 0 [.ref m] (sv σ m V U) (fun rv σ' => ((∃ f, 1 ≤ f ∧ f ≤ fcN false ∧ rv = some (.int (nI f)) ∧ V 0 6 = 1 ∧ U 0 7 = wB (fcW false f)) ∨ (rv = some (.int 0) ∧ ∀ f, 1 ≤ f → f ≤ fcN false → V 0 6 = 1 → ¬ U 0 7 = wB (fcW false f))) ∧ σ' = sv σ m V U) := by
  have D := dat dl_X10_fact
  show HT G mX10_fact 0 [some (.ref m)] [] (sv σ m V U) 0 _
  refine ht_aload_n (D 0 rfl) rfl rfl ?_
  refine gm_X10_160 hM rfl (D 1 rfl) ?_
  refine ht_iconst (v := 1) (D 2 rfl) (by decide) ?_
  refine ht_icmp_eq (tgt := 10) (D 3 rfl) (by decide) (fun hb5 => ?_) (fun hb5 => ?_)
  · skip
    refine ht_aload_n (D 6 rfl) rfl rfl ?_
    refine gm_X10_177 hM rfl (D 7 rfl) ?_
    rw [hi]
    refine ht_if_eq (tgt := 98) (D 8 rfl) (by decide) (fun hb14 => ?_) (fun hb14 => ?_)
    · skip
      refine ht_aload_n (D 53 rfl) rfl rfl ?_
      refine gm_X10_153 hM rfl (D 54 rfl) ?_
      refine ht_ldc2 kl_X10_193 (D 55 rfl) ?_
      refine ht_lcmp (D 56 rfl) ?_
      refine ht_if_ne (tgt := 111) (D 57 rfl) (by decide) (fun hb106 => ?_) (fun hb106 => ?_)
      · skip
        refine ht_aload_n (D 60 rfl) rfl rfl ?_
        refine gm_X10_153 hM rfl (D 61 rfl) ?_
        refine ht_ldc2 kl_X10_195 (D 62 rfl) ?_
        refine ht_lcmp (D 63 rfl) ?_
        refine ht_if_ne (tgt := 124) (D 64 rfl) (by decide) (fun hb119 => ?_) (fun hb119 => ?_)
        · skip
          refine ht_aload_n (D 67 rfl) rfl rfl ?_
          refine gm_X10_153 hM rfl (D 68 rfl) ?_
          refine ht_ldc2 kl_X10_197 (D 69 rfl) ?_
          refine ht_lcmp (D 70 rfl) ?_
          refine ht_if_ne (tgt := 137) (D 71 rfl) (by decide) (fun hb132 => ?_) (fun hb132 => ?_)
          · skip
            refine ht_iconst (v := 0) (D 74 rfl) (by decide) ?_
            refine ht_iret (D 75 rfl) rfl rfl ?_
            refine ⟨Or.inr ⟨rfl, fun f h1 h2 q1 q2 => ?_⟩, rfl⟩
            have h3 : f ≤ 3 := h2
            (have h4 : f = 1 ∨ f = 2 ∨ f = 3 := by omega)
            rcases h4 with rfl | rfl | rfl
            · exact hb106 ((lg_cmp_eq _ _).mpr q2)
            · exact hb119 ((lg_cmp_eq _ _).mpr q2)
            · exact hb132 ((lg_cmp_eq _ _).mpr q2)
          · skip
            refine ht_iconst (v := 3) (D 72 rfl) (by decide) ?_
            refine ht_iret (D 73 rfl) rfl rfl ?_
            exact ⟨Or.inl ⟨3, by decide, by decide, rfl, hb5, (lg_cmp_eq _ _).mp hb132⟩, rfl⟩
        · skip
          refine ht_iconst (v := 2) (D 65 rfl) (by decide) ?_
          refine ht_iret (D 66 rfl) rfl rfl ?_
          exact ⟨Or.inl ⟨2, by decide, by decide, rfl, hb5, (lg_cmp_eq _ _).mp hb119⟩, rfl⟩
      · skip
        refine ht_iconst (v := 1) (D 58 rfl) (by decide) ?_
        refine ht_iret (D 59 rfl) rfl rfl ?_
        exact ⟨Or.inl ⟨1, by decide, by decide, rfl, hb5, (lg_cmp_eq _ _).mp hb106⟩, rfl⟩
    · skip
      exact absurd rfl hb14
  · skip
    refine ht_iconst (v := 0) (D 4 rfl) (by decide) ?_
    refine ht_iret (D 5 rfl) rfl rfl ?_
    exact ⟨Or.inr ⟨rfl, fun f _ _ q1 _ => hb5 q1⟩, rfl⟩
theorem sm_fact (hM : MS σ m) {ice : Bool} (hi : V 0 30 = (if ice then 1 else 0)) : Sp G mX10_fact 0 [.ref m] (sv σ m V U) (fun rv σ' => ((∃ f, 1 ≤ f ∧ f ≤ fcN ice ∧ rv = some (.int (nI f)) ∧ V 0 6 = 1 ∧ U 0 7 = wB (fcW ice f)) ∨ (rv = some (.int 0) ∧ ∀ f, 1 ≤ f → f ≤ fcN ice → V 0 6 = 1 → ¬ U 0 7 = wB (fcW ice f))) ∧ σ' = sv σ m V U) := by
  cases ice with
  | true => exact sm_factI hM hi
  | false => exact sm_factW hM hi
set_option maxRecDepth 100000 in
theorem sm_isKept (hM : MS σ m) : Sp G mX10_isKept 0 [.ref m] (sv σ m V U) (fun rv σ' => ((rv = some (.int 1) ∧ kpR V U) ∨ (rv = some (.int 0) ∧ ¬ kpR V U)) ∧ σ' = sv σ m V U) := by
  have D := dat dl_X10_isKept
  show HT G mX10_isKept 0 [some (.ref m)] [] (sv σ m V U) 0 _
  refine ht_aload_n (D 0 rfl) rfl rfl ?_
  refine gm_X10_160 hM rfl (D 1 rfl) ?_
  refine ht_iconst (v := 1) (D 2 rfl) (by decide) ?_
  refine ht_icmp_eq (tgt := 10) (D 3 rfl) (by decide) (fun hb5 => ?_) (fun hb5 => ?_)
  · skip
    refine ht_aload_n (D 6 rfl) rfl rfl ?_
    refine gm_X10_153 hM rfl (D 7 rfl) ?_
    refine ht_ldc2 kl_X10_236 (D 8 rfl) ?_
    refine ht_lcmp (D 9 rfl) ?_
    refine ht_if_eq (tgt := 197) (D 10 rfl) (by decide) (fun hb18 => ?_) (fun hb18 => ?_)
    · skip
      have hkp : kpR V U := Or.inr ⟨0, by decide, (lg_cmp_eq _ _).mp hb18⟩
      refine ht_iconst (v := 1) (D 91 rfl) (by decide) ?_
      refine ht_goto (tgt := 202) (D 92 rfl) (by decide) ?_
      refine ht_iret (D 94 rfl) rfl rfl ?_
      first | exact ⟨Or.inl ⟨rfl, hkp⟩, rfl⟩ | exact ⟨Or.inr ⟨rfl, hnk⟩, rfl⟩
    · skip
      refine ht_aload_n (D 11 rfl) rfl rfl ?_
      refine gm_X10_153 hM rfl (D 12 rfl) ?_
      refine ht_ldc2 kl_X10_189 (D 13 rfl) ?_
      refine ht_lcmp (D 14 rfl) ?_
      refine ht_if_eq (tgt := 197) (D 15 rfl) (by decide) (fun hb29 => ?_) (fun hb29 => ?_)
      · skip
        have hkp : kpR V U := Or.inr ⟨1, by decide, (lg_cmp_eq _ _).mp hb29⟩
        refine ht_iconst (v := 1) (D 91 rfl) (by decide) ?_
        refine ht_goto (tgt := 202) (D 92 rfl) (by decide) ?_
        refine ht_iret (D 94 rfl) rfl rfl ?_
        first | exact ⟨Or.inl ⟨rfl, hkp⟩, rfl⟩ | exact ⟨Or.inr ⟨rfl, hnk⟩, rfl⟩
      · skip
        refine ht_aload_n (D 16 rfl) rfl rfl ?_
        refine gm_X10_153 hM rfl (D 17 rfl) ?_
        refine ht_ldc2 kl_X10_197 (D 18 rfl) ?_
        refine ht_lcmp (D 19 rfl) ?_
        refine ht_if_eq (tgt := 197) (D 20 rfl) (by decide) (fun hb40 => ?_) (fun hb40 => ?_)
        · skip
          have hkp : kpR V U := Or.inr ⟨2, by decide, (lg_cmp_eq _ _).mp hb40⟩
          refine ht_iconst (v := 1) (D 91 rfl) (by decide) ?_
          refine ht_goto (tgt := 202) (D 92 rfl) (by decide) ?_
          refine ht_iret (D 94 rfl) rfl rfl ?_
          first | exact ⟨Or.inl ⟨rfl, hkp⟩, rfl⟩ | exact ⟨Or.inr ⟨rfl, hnk⟩, rfl⟩
        · skip
          refine ht_aload_n (D 21 rfl) rfl rfl ?_
          refine gm_X10_153 hM rfl (D 22 rfl) ?_
          refine ht_ldc2 kl_X10_238 (D 23 rfl) ?_
          refine ht_lcmp (D 24 rfl) ?_
          refine ht_if_eq (tgt := 197) (D 25 rfl) (by decide) (fun hb51 => ?_) (fun hb51 => ?_)
          · skip
            have hkp : kpR V U := Or.inr ⟨3, by decide, (lg_cmp_eq _ _).mp hb51⟩
            refine ht_iconst (v := 1) (D 91 rfl) (by decide) ?_
            refine ht_goto (tgt := 202) (D 92 rfl) (by decide) ?_
            refine ht_iret (D 94 rfl) rfl rfl ?_
            first | exact ⟨Or.inl ⟨rfl, hkp⟩, rfl⟩ | exact ⟨Or.inr ⟨rfl, hnk⟩, rfl⟩
          · skip
            refine ht_aload_n (D 26 rfl) rfl rfl ?_
            refine gm_X10_153 hM rfl (D 27 rfl) ?_
            refine ht_ldc2 kl_X10_183 (D 28 rfl) ?_
            refine ht_lcmp (D 29 rfl) ?_
            refine ht_if_eq (tgt := 197) (D 30 rfl) (by decide) (fun hb62 => ?_) (fun hb62 => ?_)
            · skip
              have hkp : kpR V U := Or.inr ⟨4, by decide, (lg_cmp_eq _ _).mp hb62⟩
              refine ht_iconst (v := 1) (D 91 rfl) (by decide) ?_
              refine ht_goto (tgt := 202) (D 92 rfl) (by decide) ?_
              refine ht_iret (D 94 rfl) rfl rfl ?_
              first | exact ⟨Or.inl ⟨rfl, hkp⟩, rfl⟩ | exact ⟨Or.inr ⟨rfl, hnk⟩, rfl⟩
            · skip
              refine ht_aload_n (D 31 rfl) rfl rfl ?_
              refine gm_X10_153 hM rfl (D 32 rfl) ?_
              refine ht_ldc2 kl_X10_240 (D 33 rfl) ?_
              refine ht_lcmp (D 34 rfl) ?_
              refine ht_if_eq (tgt := 197) (D 35 rfl) (by decide) (fun hb73 => ?_) (fun hb73 => ?_)
              · skip
                have hkp : kpR V U := Or.inr ⟨5, by decide, (lg_cmp_eq _ _).mp hb73⟩
                refine ht_iconst (v := 1) (D 91 rfl) (by decide) ?_
                refine ht_goto (tgt := 202) (D 92 rfl) (by decide) ?_
                refine ht_iret (D 94 rfl) rfl rfl ?_
                first | exact ⟨Or.inl ⟨rfl, hkp⟩, rfl⟩ | exact ⟨Or.inr ⟨rfl, hnk⟩, rfl⟩
              · skip
                refine ht_aload_n (D 36 rfl) rfl rfl ?_
                refine gm_X10_153 hM rfl (D 37 rfl) ?_
                refine ht_ldc2 kl_X10_242 (D 38 rfl) ?_
                refine ht_lcmp (D 39 rfl) ?_
                refine ht_if_eq (tgt := 197) (D 40 rfl) (by decide) (fun hb84 => ?_) (fun hb84 => ?_)
                · skip
                  have hkp : kpR V U := Or.inr ⟨6, by decide, (lg_cmp_eq _ _).mp hb84⟩
                  refine ht_iconst (v := 1) (D 91 rfl) (by decide) ?_
                  refine ht_goto (tgt := 202) (D 92 rfl) (by decide) ?_
                  refine ht_iret (D 94 rfl) rfl rfl ?_
                  first | exact ⟨Or.inl ⟨rfl, hkp⟩, rfl⟩ | exact ⟨Or.inr ⟨rfl, hnk⟩, rfl⟩
                · skip
                  refine ht_aload_n (D 41 rfl) rfl rfl ?_
                  refine gm_X10_153 hM rfl (D 42 rfl) ?_
                  refine ht_ldc2 kl_X10_244 (D 43 rfl) ?_
                  refine ht_lcmp (D 44 rfl) ?_
                  refine ht_if_eq (tgt := 197) (D 45 rfl) (by decide) (fun hb95 => ?_) (fun hb95 => ?_)
                  · skip
                    have hkp : kpR V U := Or.inr ⟨7, by decide, (lg_cmp_eq _ _).mp hb95⟩
                    refine ht_iconst (v := 1) (D 91 rfl) (by decide) ?_
                    refine ht_goto (tgt := 202) (D 92 rfl) (by decide) ?_
                    refine ht_iret (D 94 rfl) rfl rfl ?_
                    first | exact ⟨Or.inl ⟨rfl, hkp⟩, rfl⟩ | exact ⟨Or.inr ⟨rfl, hnk⟩, rfl⟩
                  · skip
                    refine ht_aload_n (D 46 rfl) rfl rfl ?_
                    refine gm_X10_153 hM rfl (D 47 rfl) ?_
                    refine ht_ldc2 kl_X10_246 (D 48 rfl) ?_
                    refine ht_lcmp (D 49 rfl) ?_
                    refine ht_if_eq (tgt := 197) (D 50 rfl) (by decide) (fun hb106 => ?_) (fun hb106 => ?_)
                    · skip
                      have hkp : kpR V U := Or.inr ⟨8, by decide, (lg_cmp_eq _ _).mp hb106⟩
                      refine ht_iconst (v := 1) (D 91 rfl) (by decide) ?_
                      refine ht_goto (tgt := 202) (D 92 rfl) (by decide) ?_
                      refine ht_iret (D 94 rfl) rfl rfl ?_
                      first | exact ⟨Or.inl ⟨rfl, hkp⟩, rfl⟩ | exact ⟨Or.inr ⟨rfl, hnk⟩, rfl⟩
                    · skip
                      refine ht_aload_n (D 51 rfl) rfl rfl ?_
                      refine gm_X10_153 hM rfl (D 52 rfl) ?_
                      refine ht_ldc2 kl_X10_248 (D 53 rfl) ?_
                      refine ht_lcmp (D 54 rfl) ?_
                      refine ht_if_eq (tgt := 197) (D 55 rfl) (by decide) (fun hb117 => ?_) (fun hb117 => ?_)
                      · skip
                        have hkp : kpR V U := Or.inr ⟨9, by decide, (lg_cmp_eq _ _).mp hb117⟩
                        refine ht_iconst (v := 1) (D 91 rfl) (by decide) ?_
                        refine ht_goto (tgt := 202) (D 92 rfl) (by decide) ?_
                        refine ht_iret (D 94 rfl) rfl rfl ?_
                        first | exact ⟨Or.inl ⟨rfl, hkp⟩, rfl⟩ | exact ⟨Or.inr ⟨rfl, hnk⟩, rfl⟩
                      · skip
                        refine ht_aload_n (D 56 rfl) rfl rfl ?_
                        refine gm_X10_153 hM rfl (D 57 rfl) ?_
                        refine ht_ldc2 kl_X10_250 (D 58 rfl) ?_
                        refine ht_lcmp (D 59 rfl) ?_
                        refine ht_if_eq (tgt := 197) (D 60 rfl) (by decide) (fun hb128 => ?_) (fun hb128 => ?_)
                        · skip
                          have hkp : kpR V U := Or.inr ⟨10, by decide, (lg_cmp_eq _ _).mp hb128⟩
                          refine ht_iconst (v := 1) (D 91 rfl) (by decide) ?_
                          refine ht_goto (tgt := 202) (D 92 rfl) (by decide) ?_
                          refine ht_iret (D 94 rfl) rfl rfl ?_
                          first | exact ⟨Or.inl ⟨rfl, hkp⟩, rfl⟩ | exact ⟨Or.inr ⟨rfl, hnk⟩, rfl⟩
                        · skip
                          refine ht_aload_n (D 61 rfl) rfl rfl ?_
                          refine gm_X10_153 hM rfl (D 62 rfl) ?_
                          refine ht_ldc2 kl_X10_185 (D 63 rfl) ?_
                          refine ht_lcmp (D 64 rfl) ?_
                          refine ht_if_eq (tgt := 197) (D 65 rfl) (by decide) (fun hb139 => ?_) (fun hb139 => ?_)
                          · skip
                            have hkp : kpR V U := Or.inr ⟨11, by decide, (lg_cmp_eq _ _).mp hb139⟩
                            refine ht_iconst (v := 1) (D 91 rfl) (by decide) ?_
                            refine ht_goto (tgt := 202) (D 92 rfl) (by decide) ?_
                            refine ht_iret (D 94 rfl) rfl rfl ?_
                            first | exact ⟨Or.inl ⟨rfl, hkp⟩, rfl⟩ | exact ⟨Or.inr ⟨rfl, hnk⟩, rfl⟩
                          · skip
                            refine ht_aload_n (D 66 rfl) rfl rfl ?_
                            refine gm_X10_153 hM rfl (D 67 rfl) ?_
                            refine ht_ldc2 kl_X10_252 (D 68 rfl) ?_
                            refine ht_lcmp (D 69 rfl) ?_
                            refine ht_if_eq (tgt := 197) (D 70 rfl) (by decide) (fun hb150 => ?_) (fun hb150 => ?_)
                            · skip
                              have hkp : kpR V U := Or.inr ⟨12, by decide, (lg_cmp_eq _ _).mp hb150⟩
                              refine ht_iconst (v := 1) (D 91 rfl) (by decide) ?_
                              refine ht_goto (tgt := 202) (D 92 rfl) (by decide) ?_
                              refine ht_iret (D 94 rfl) rfl rfl ?_
                              first | exact ⟨Or.inl ⟨rfl, hkp⟩, rfl⟩ | exact ⟨Or.inr ⟨rfl, hnk⟩, rfl⟩
                            · skip
                              refine ht_aload_n (D 71 rfl) rfl rfl ?_
                              refine gm_X10_153 hM rfl (D 72 rfl) ?_
                              refine ht_ldc2 kl_X10_254 (D 73 rfl) ?_
                              refine ht_lcmp (D 74 rfl) ?_
                              refine ht_if_eq (tgt := 197) (D 75 rfl) (by decide) (fun hb161 => ?_) (fun hb161 => ?_)
                              · skip
                                have hkp : kpR V U := Or.inr ⟨13, by decide, (lg_cmp_eq _ _).mp hb161⟩
                                refine ht_iconst (v := 1) (D 91 rfl) (by decide) ?_
                                refine ht_goto (tgt := 202) (D 92 rfl) (by decide) ?_
                                refine ht_iret (D 94 rfl) rfl rfl ?_
                                first | exact ⟨Or.inl ⟨rfl, hkp⟩, rfl⟩ | exact ⟨Or.inr ⟨rfl, hnk⟩, rfl⟩
                              · skip
                                refine ht_aload_n (D 76 rfl) rfl rfl ?_
                                refine gm_X10_153 hM rfl (D 77 rfl) ?_
                                refine ht_ldc2 kl_X10_203 (D 78 rfl) ?_
                                refine ht_lcmp (D 79 rfl) ?_
                                refine ht_if_eq (tgt := 197) (D 80 rfl) (by decide) (fun hb172 => ?_) (fun hb172 => ?_)
                                · skip
                                  have hkp : kpR V U := Or.inr ⟨14, by decide, (lg_cmp_eq _ _).mp hb172⟩
                                  refine ht_iconst (v := 1) (D 91 rfl) (by decide) ?_
                                  refine ht_goto (tgt := 202) (D 92 rfl) (by decide) ?_
                                  refine ht_iret (D 94 rfl) rfl rfl ?_
                                  first | exact ⟨Or.inl ⟨rfl, hkp⟩, rfl⟩ | exact ⟨Or.inr ⟨rfl, hnk⟩, rfl⟩
                                · skip
                                  refine ht_aload_n (D 81 rfl) rfl rfl ?_
                                  refine gm_X10_153 hM rfl (D 82 rfl) ?_
                                  refine ht_ldc2 kl_X10_223 (D 83 rfl) ?_
                                  refine ht_lcmp (D 84 rfl) ?_
                                  refine ht_if_eq (tgt := 197) (D 85 rfl) (by decide) (fun hb183 => ?_) (fun hb183 => ?_)
                                  · skip
                                    have hkp : kpR V U := Or.inr ⟨15, by decide, (lg_cmp_eq _ _).mp hb183⟩
                                    refine ht_iconst (v := 1) (D 91 rfl) (by decide) ?_
                                    refine ht_goto (tgt := 202) (D 92 rfl) (by decide) ?_
                                    refine ht_iret (D 94 rfl) rfl rfl ?_
                                    first | exact ⟨Or.inl ⟨rfl, hkp⟩, rfl⟩ | exact ⟨Or.inr ⟨rfl, hnk⟩, rfl⟩
                                  · skip
                                    refine ht_aload_n (D 86 rfl) rfl rfl ?_
                                    refine gm_X10_153 hM rfl (D 87 rfl) ?_
                                    refine ht_ldc2 kl_X10_225 (D 88 rfl) ?_
                                    refine ht_lcmp (D 89 rfl) ?_
                                    refine ht_if_ne (tgt := 201) (D 90 rfl) (by decide) (fun hb194 => ?_) (fun hb194 => ?_)
                                    · skip
                                      have hnk : ¬ kpR V U := by
                                        rintro (q | ⟨i, hi, q⟩)
                                        · exact q hb5
                                        · (have h4 : i = 0 ∨ i = 1 ∨ i = 2 ∨ i = 3 ∨ i = 4 ∨ i = 5 ∨ i = 6 ∨ i = 7 ∨ i = 8 ∨ i = 9 ∨ i = 10 ∨ i = 11 ∨ i = 12 ∨ i = 13 ∨ i = 14 ∨ i = 15 ∨ i = 16 := by omega)
                                          rcases h4 with rfl | rfl | rfl | rfl | rfl | rfl | rfl | rfl | rfl | rfl | rfl | rfl | rfl | rfl | rfl | rfl | rfl
                                          · exact hb18 ((lg_cmp_eq _ _).mpr q)
                                          · exact hb29 ((lg_cmp_eq _ _).mpr q)
                                          · exact hb40 ((lg_cmp_eq _ _).mpr q)
                                          · exact hb51 ((lg_cmp_eq _ _).mpr q)
                                          · exact hb62 ((lg_cmp_eq _ _).mpr q)
                                          · exact hb73 ((lg_cmp_eq _ _).mpr q)
                                          · exact hb84 ((lg_cmp_eq _ _).mpr q)
                                          · exact hb95 ((lg_cmp_eq _ _).mpr q)
                                          · exact hb106 ((lg_cmp_eq _ _).mpr q)
                                          · exact hb117 ((lg_cmp_eq _ _).mpr q)
                                          · exact hb128 ((lg_cmp_eq _ _).mpr q)
                                          · exact hb139 ((lg_cmp_eq _ _).mpr q)
                                          · exact hb150 ((lg_cmp_eq _ _).mpr q)
                                          · exact hb161 ((lg_cmp_eq _ _).mpr q)
                                          · exact hb172 ((lg_cmp_eq _ _).mpr q)
                                          · exact hb183 ((lg_cmp_eq _ _).mpr q)
                                          · exact hb194 ((lg_cmp_eq _ _).mpr q)
                                      refine ht_iconst (v := 0) (D 93 rfl) (by decide) ?_
                                      refine ht_iret (D 94 rfl) rfl rfl ?_
                                      first | exact ⟨Or.inl ⟨rfl, hkp⟩, rfl⟩ | exact ⟨Or.inr ⟨rfl, hnk⟩, rfl⟩
                                    · skip
                                      have hkp : kpR V U := Or.inr ⟨16, by decide, (lg_cmp_eq _ _).mp hb194⟩
                                      refine ht_iconst (v := 1) (D 91 rfl) (by decide) ?_
                                      refine ht_goto (tgt := 202) (D 92 rfl) (by decide) ?_
                                      refine ht_iret (D 94 rfl) rfl rfl ?_
                                      first | exact ⟨Or.inl ⟨rfl, hkp⟩, rfl⟩ | exact ⟨Or.inr ⟨rfl, hnk⟩, rfl⟩
  · skip
    refine ht_iconst (v := 1) (D 4 rfl) (by decide) ?_
    refine ht_iret (D 5 rfl) rfl rfl ?_
    exact ⟨Or.inl ⟨rfl, Or.inl hb5⟩, rfl⟩
end P4
