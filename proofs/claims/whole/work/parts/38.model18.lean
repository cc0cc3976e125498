/-! ===== the reference: tries, plan ===== -/
abbrev TQ : Type := Int32 × Int32 × ST × ST
def trK (q : TQ) (salt : Int32) (k : Nat) : Prop := q.1 < 0 ∨ (¬ q.1 < salt ∧ ¬ (salt = q.1 ∧ q.2.1 ≤ nI k))
noncomputable def trL (q : TQ) (salt : Int32) (k : Nat) : TQ := (Classical.propDecidable (trK q salt k)).casesOn (fun _ => q) (fun _ => (salt, nI k, (fun i => if i < k then q.2.2.2 i else q.2.2.1 i), q.2.2.2))
theorem trL_y {q : TQ} {salt : Int32} {k : Nat} (h : trK q salt k) : trL q salt k = (salt, nI k, (fun i => if i < k then q.2.2.2 i else q.2.2.1 i), q.2.2.2) := by
  unfold trL
  cases Classical.propDecidable (trK q salt k) with
  | isTrue _ => rfl
  | isFalse hn => exact absurd h hn
theorem trL_n {q : TQ} {salt : Int32} {k : Nat} (h : ¬ trK q salt k) : trL q salt k = q := by
  unfold trL
  cases Classical.propDecidable (trK q salt k) with
  | isTrue hy => exact absurd hy h
  | isFalse _ => rfl
/-- a cell stands in the set -/
def sb (x p : Int32) : Prop := (x >>> (p &&& 31)) &&& 1 = 1
def trN (V : VT) (j : Nat) (cell seen : Int32) : Prop := ld V j cell = -2 ∨ (0 ≤ ld V j cell ∧ sb seen (ld V j cell))
def tSn (V : VT) (j : Nat) (cell seen : Int32) : Int32 := if ld V j cell < 0 then seen else seen ||| 1 <<< (ld V j cell &&& 31)
noncomputable def trE (V : VT) (S : ST) (cell seen : Int32) (k : Nat) (salt : Int32) (rc : Int32 → Int32 → Nat → Int32 → TQ → TQ) (j : Nat) (q : TQ) : TQ := (Classical.propDecidable (trN V j cell seen)).casesOn (fun _ => rc (ld V j cell) (tSn V j cell seen) (k + 1) (salt + (S j + 4) / 5) (q.1, q.2.1, q.2.2.1, va_up q.2.2.2 k (nI j))) (fun _ => q)
theorem trE_y {V : VT} {S : ST} {cell seen : Int32} {k : Nat} {salt : Int32} {rc : Int32 → Int32 → Nat → Int32 → TQ → TQ} {j : Nat} {q : TQ} (h : trN V j cell seen) : trE V S cell seen k salt rc j q = q := by
  unfold trE
  cases Classical.propDecidable (trN V j cell seen) with
  | isTrue _ => rfl
  | isFalse hn => exact absurd h hn
theorem trE_n {V : VT} {S : ST} {cell seen : Int32} {k : Nat} {salt : Int32} {rc : Int32 → Int32 → Nat → Int32 → TQ → TQ} {j : Nat} {q : TQ} (h : ¬ trN V j cell seen) : trE V S cell seen k salt rc j q = rc (ld V j cell) (tSn V j cell seen) (k + 1) (salt + (S j + 4) / 5) (q.1, q.2.1, q.2.2.1, va_up q.2.2.2 k (nI j)) := by
  unfold trE
  cases Classical.propDecidable (trN V j cell seen) with
  | isTrue hy => exact absurd hy h
  | isFalse _ => rfl
noncomputable def trD (V : VT) (S : ST) (cell seen : Int32) (k : Nat) (salt : Int32) (rc : Int32 → Int32 → Nat → Int32 → TQ → TQ) (q : TQ) : Nat → TQ
  | 0 => q
  | j + 1 => trE V S cell seen k salt rc j (trD V S cell seen k salt rc q j)
noncomputable def trC (V : VT) (S : ST) (dN : Nat) : Nat → Int32 → Int32 → Nat → Int32 → TQ → TQ
  | 0, _, _, _, _, q => q
  | f + 1, c0, seen, k, salt, q => if c0 < 0 then trL q salt k else trD V S c0 seen k salt (trC V S dN f) q dN
theorem sb_lsb (x : Int32) {c : Nat} (hc : c < 8) : sb x (nI c) ↔ x.toBitVec.getLsbD c = true := by
  have key : ∀ (c : Nat), c < 8 → (x >>> (nI c &&& 31)).toBitVec = x.toBitVec.sshiftRight c := by
    intro c hc
    rw [Int32.toBitVec_shiftRight]
    have e : ((nI c &&& 31).toBitVec.smod 32) = BitVec.ofNat 32 c := by
      have : c = 0 ∨ c = 1 ∨ c = 2 ∨ c = 3 ∨ c = 4 ∨ c = 5 ∨ c = 6 ∨ c = 7 := by omega
      rcases this with rfl | rfl | rfl | rfl | rfl | rfl | rfl | rfl <;> decide
    rw [e]
    show x.toBitVec.sshiftRight (BitVec.ofNat 32 c).toNat = _
    rw [BitVec.toNat_ofNat, Nat.mod_eq_of_lt (by omega)]
  unfold sb
  rw [← Int32.toBitVec_inj, Int32.toBitVec_and, key c hc]
  show x.toBitVec.sshiftRight c &&& 1#32 = 1#32 ↔ _
  rw [BitVec.and_one_eq_setWidth_ofBool_getLsbD, BitVec.getLsbD_sshiftRight]
  have e1 : (!decide (32 ≤ 0) && if c + 0 < 32 then x.toBitVec.getLsbD (c + 0) else x.toBitVec.msb) = x.toBitVec.getLsbD c := by
    rw [if_pos (by omega)]
    simp
  rw [e1]
  cases x.toBitVec.getLsbD c <;> decide
theorem sb_or (x : Int32) {c e : Nat} (hc : c < 8) (he : e < 8) : sb (x ||| 1 <<< (nI c &&& 31)) (nI e) ↔ (e = c ∨ sb x (nI e)) := by
  rw [sb_lsb _ he, sb_lsb _ he, Int32.toBitVec_or, BitVec.getLsbD_or]
  have k1 : ∀ c, c < 8 → ∀ e, e < 8 → (1 <<< (nI c &&& 31) : Int32).toBitVec.getLsbD e = decide (e = c) := by decide
  rw [k1 c hc e he, Bool.or_eq_true, decide_eq_true_iff]
  exact Or.comm
/-- cells not in the set -/
noncomputable def unS (x : Int32) : Nat := cn (fun c => !(x.toBitVec.getLsbD c)) 8
theorem un_step {x : Int32} {c : Nat} (hc : c < 8) (h : ¬ sb x (nI c)) : unS (x ||| 1 <<< (nI c &&& 31)) + 1 = unS x := by
  unfold unS
  refine (cn_step (j := c) hc ?_ ?_ (fun e he hne => ?_)).symm
  · have h1 := (sb_lsb (x ||| 1 <<< (nI c &&& 31)) hc).mp ((sb_or x hc hc).mpr (Or.inl rfl))
    simp only [h1, Bool.not_true]
  · have h1 : ¬ x.toBitVec.getLsbD c = true := fun q => h ((sb_lsb x hc).mpr q)
    simp only [Bool.not_eq_true] at h1
    simp only [h1, Bool.not_false]
  · congr 1
    rw [Bool.eq_iff_iff, ← sb_lsb _ he, ← sb_lsb _ he, sb_or x hc he]
    exact ⟨fun q => Or.inr q, fun q => q.resolve_left hne⟩
theorem un_one {c : Nat} (hc : c < 8) : unS (1 <<< (nI c &&& 31)) = 7 := by
  have k1 : ∀ c, c < 8 → ∀ e, e < 8 → (1 <<< (nI c &&& 31) : Int32).toBitVec.getLsbD e = decide (e = c) := by decide
  unfold unS
  have h1 := cn_step (p := fun e => !(decide (e = c))) (q := fun _ => true) (k := 8) (j := c) hc (by simp) rfl (fun e _ hne => by simp [hne])
  rw [cn_all (p := fun _ => true) (fun _ _ => rfl)] at h1
  rw [cn_congr (q := fun e => !(decide (e = c))) (fun e he => by simp only [k1 c hc e he])]
  omega
def Dt (V V' : VT) : Prop := (∀ o, o ≠ 0 → o ≠ 39 → o ≠ 40 → V' o = V o) ∧ V' 0 1 = V 0 1 ∧ V' 0 30 = V 0 30
def Tq (V : VT) (q : TQ) : Prop := V 0 51 = q.1 ∧ V 0 52 = q.2.1 ∧ V 39 = q.2.2.1 ∧ V 40 = q.2.2.2
theorem Dt.rf (V : VT) : Dt V V := ⟨fun _ _ _ _ => rfl, rfl, rfl⟩
theorem Dt.up0 {V V1 : VT} (h : Dt V V1) {k : Nat} (x : Int32) (hk : 1 ≠ k ∧ 30 ≠ k) : Dt V (up2 V1 0 k x) := ⟨fun o a b c => (up2_o V1 x a).trans (h.1 o a b c), by rw [up2_k V1 x hk.1, up2_k V1 x hk.2]; exact h.2⟩
theorem Dt.up {V V1 : VT} (h : Dt V V1) {r : Nat} (k : Nat) (x : Int32) (hr : r = 39 ∨ r = 40) : Dt V (up2 V1 r k x) := ⟨fun o a b c => (up2_o V1 x (show o ≠ r from fun e => by rcases hr with h | h; exact b (e.trans h); exact c (e.trans h))).trans (h.1 o a b c), by rw [up2_o V1 x (show (0 : Nat) ≠ r by rcases hr with h | h <;> rw [h] <;> decide)]; exact h.2⟩
section M18
variable {G : GG} {σ : Hp} {m : Nat} {V : VT} {U : UT}
set_option maxRecDepth 100000 in
theorem sm_triesL (hM : MS σ m) {V1 : VT} (hd1 : Dt V V1) {q : TQ} (hq : Tq V1 q) {k : Nat} (hk : k ≤ 8) {cell : Int32} (hc : cell < 0) (seen salt : Int32) (d : Nat) : Sp G mX10_tries d [.ref m, .int cell, .int seen, .int (nI k), .int salt] (sv σ m V1 U) (fun rv σ' => rv = none ∧ ∃ V' : VT, σ' = sv σ m V' U ∧ Dt V V' ∧ Tq V' (trL q salt k)) := by
  have D := dat dl_X10_tries
  have loop : ∀ (r j : Nat) (V1 : VT), j ≤ k → k - j = r → Dt V V1 → V1 0 51 = salt → V1 0 52 = nI k → (V1 39 = fun i => if i < j then q.2.2.2 i else q.2.2.1 i) → V1 40 = q.2.2.2 → HT G mX10_tries 52 [some (.ref m), some (.int cell), some (.int seen), some (.int (nI k)), some (.int salt), some (.int (nI j)), none] [] (sv σ m V1 U) d (fun rv σ' => rv = none ∧ ∃ V' : VT, σ' = sv σ m V' U ∧ Dt V V' ∧ Tq V' ((salt, nI k, (fun i => if i < k then q.2.2.2 i else q.2.2.1 i), q.2.2.2))) := by
    intro r
    induction r using Nat.strongRecOn with
    | _ r ih =>
      intro j V1 hj hr hd1 h51 h52 h39 h40
      refine ht_iload (D 26 rfl) rfl ?_
      refine ht_iload_n (D 27 rfl) rfl rfl ?_
      refine ht_icmp_ge (tgt := 78) (D 28 rfl) (by decide) (fun hb55 => ?_) (fun hb55 => ?_)
      · skip
        have hjk : k = j := by have h9 := (nI_leI (a := k) (b := j) (by omega) (by omega)).mp hb55; omega
        subst hjk
        refine ht_vret (D 39 rfl) rfl ?_
        exact ⟨rfl, V1, rfl, hd1, h51, h52, h39, h40⟩
      · skip
        have hjk : j < k := by have h9 := mt (nI_leI (a := k) (b := j) (by omega) (by omega)).mpr hb55; omega
        refine ht_aload_n (D 29 rfl) rfl rfl ?_
        refine gf_X10_126 rfl (D 30 rfl) hM.k0 hM.q39 ?_
        refine ht_iload (D 31 rfl) rfl ?_
        refine ht_aload_n (D 32 rfl) rfl rfl ?_
        refine gf_X10_129 rfl (D 33 rfl) hM.k0 hM.q40 ?_
        refine ht_iload (D 34 rfl) rfl ?_
        refine hm_ild (o := 40) (n := j) (by decide) (D 35 rfl) hM.k40 hM.n40 (by first | rfl | exact nI_add _ _ | assumption) (by omega) (by decide) ?_
        refine hm_ist (o := 39) (n := j) (by decide) (D 36 rfl) hM.k39 hM.n39 (by first | rfl | exact nI_add _ _ | assumption) (by omega) (by decide) ?_
        refine ht_iinc (v := nI (j + 1)) (D 37 rfl) rfl (nI_i1 _) (by decide) rfl ?_
        refine ht_goto (tgt := 52) (D 38 rfl) (by decide) ?_
        refine ih (k - (j + 1)) (by omega) (j + 1) _ (by omega) rfl (hd1.up _ _ (Or.inl rfl)) (by rw [up2_o _ _ (by decide)]; exact h51) (by rw [up2_o _ _ (by decide)]; exact h52) ?_ (by rw [up2_o _ _ (by decide)]; exact h40)
        rw [up2_row, h39, h40]
        funext i
        show (if i = j then q.2.2.2 j else if i < j then q.2.2.2 i else q.2.2.1 i) = if i < j + 1 then q.2.2.2 i else q.2.2.1 i
        by_cases e1 : i = j
        · rw [if_pos e1, if_pos (by omega), e1]
        · rw [if_neg e1]
          by_cases e2 : i < j
          · rw [if_pos e2, if_pos (by omega)]
          · rw [if_neg e2, if_neg (by omega)]
  show HT G mX10_tries 0 [some (.ref m), some (.int cell), some (.int seen), some (.int (nI k)), some (.int salt), none, none] [] (sv σ m V1 U) d _
  refine ht_iload_n (D 0 rfl) rfl rfl ?_
  refine ht_if_ge (tgt := 79) (D 1 rfl) (by decide) (fun hb1 => ?_) (fun hb1 => ?_)
  · skip
    exact absurd hc (by simp only [i_lt, i_le] at hb1 ⊢; omega)
  · skip
    refine ht_aload_n (D 2 rfl) rfl rfl ?_
    refine gm_X10_412 hM rfl (D 3 rfl) ?_
    refine ht_if_lt (tgt := 38) (D 4 rfl) (by decide) (fun hb8 => ?_) (fun hb8 => ?_)
    · skip
      have hk9 : trK q salt k := Or.inl (by rw [← hq.1]; exact hb8)
      refine ht_aload_n (D 18 rfl) rfl rfl ?_
      refine ht_iload (D 19 rfl) rfl ?_
      refine pm_X10_412 hM rfl (D 20 rfl) ?_
      refine ht_aload_n (D 21 rfl) rfl rfl ?_
      refine ht_iload_n (D 22 rfl) rfl rfl ?_
      refine pm_X10_415 hM rfl (D 23 rfl) ?_
      refine ht_iconst (v := 0) (D 24 rfl) (by decide) ?_
      refine ht_istore (D 25 rfl) (by decide) rfl ?_
      rw [trL_y hk9]
      exact ht_cast (loop k 0 (up2 (up2 V1 0 51 salt) 0 52 (nI k)) (by omega) (by omega) ((hd1.up0 _ (by decide)).up0 _ (by decide)) (by rw [up2_k _ _ (by decide), up2_s]) (by rw [up2_s]) (by rw [up2_o _ _ (by decide), up2_o _ _ (by decide), hq.2.2.1]; funext i; rw [if_neg (by omega)]) (by rw [up2_o _ _ (by decide), up2_o _ _ (by decide), hq.2.2.2])) rfl rfl rfl
    · skip
      refine ht_iload (D 5 rfl) rfl ?_
      refine ht_aload_n (D 6 rfl) rfl rfl ?_
      refine gm_X10_412 hM rfl (D 7 rfl) ?_
      refine ht_icmp_gt (tgt := 37) (D 8 rfl) (by decide) (fun hb17 => ?_) (fun hb17 => ?_)
      · skip
        have hn9 : ¬ trK q salt k := by
          rintro (h9 | h9)
          · rw [← hq.1] at h9
            exact hb8 h9
          · exact h9.1 (by rw [← hq.1]; exact hb17)
        refine ht_vret (D 17 rfl) rfl ?_
        rw [trL_n hn9]
        exact ⟨rfl, V1, rfl, hd1, hq⟩
      · skip
        refine ht_iload (D 9 rfl) rfl ?_
        refine ht_aload_n (D 10 rfl) rfl rfl ?_
        refine gm_X10_412 hM rfl (D 11 rfl) ?_
        refine ht_icmp_ne (tgt := 38) (D 12 rfl) (by decide) (fun hb26 => ?_) (fun hb26 => ?_)
        · skip
          have hk9 : trK q salt k := Or.inr ⟨by rw [← hq.1]; exact hb17, fun h9 => hb26 (by rw [hq.1]; exact h9.1)⟩
          refine ht_aload_n (D 18 rfl) rfl rfl ?_
          refine ht_iload (D 19 rfl) rfl ?_
          refine pm_X10_412 hM rfl (D 20 rfl) ?_
          refine ht_aload_n (D 21 rfl) rfl rfl ?_
          refine ht_iload_n (D 22 rfl) rfl rfl ?_
          refine pm_X10_415 hM rfl (D 23 rfl) ?_
          refine ht_iconst (v := 0) (D 24 rfl) (by decide) ?_
          refine ht_istore (D 25 rfl) (by decide) rfl ?_
          rw [trL_y hk9]
          exact ht_cast (loop k 0 (up2 (up2 V1 0 51 salt) 0 52 (nI k)) (by omega) (by omega) ((hd1.up0 _ (by decide)).up0 _ (by decide)) (by rw [up2_k _ _ (by decide), up2_s]) (by rw [up2_s]) (by rw [up2_o _ _ (by decide), up2_o _ _ (by decide), hq.2.2.1]; funext i; rw [if_neg (by omega)]) (by rw [up2_o _ _ (by decide), up2_o _ _ (by decide), hq.2.2.2])) rfl rfl rfl
        · skip
          refine ht_iload_n (D 13 rfl) rfl rfl ?_
          refine ht_aload_n (D 14 rfl) rfl rfl ?_
          refine gm_X10_415 hM rfl (D 15 rfl) ?_
          refine ht_icmp_lt (tgt := 38) (D 16 rfl) (by decide) (fun hb34 => ?_) (fun hb34 => ?_)
          · skip
            have hk9 : trK q salt k := Or.inr ⟨by rw [← hq.1]; exact hb17, fun h9 => by have h8 := h9.2; rw [← hq.2.1] at h8; simp only [i_lt, i_le] at h8 hb34; omega⟩
            refine ht_aload_n (D 18 rfl) rfl rfl ?_
            refine ht_iload (D 19 rfl) rfl ?_
            refine pm_X10_412 hM rfl (D 20 rfl) ?_
            refine ht_aload_n (D 21 rfl) rfl rfl ?_
            refine ht_iload_n (D 22 rfl) rfl rfl ?_
            refine pm_X10_415 hM rfl (D 23 rfl) ?_
            refine ht_iconst (v := 0) (D 24 rfl) (by decide) ?_
            refine ht_istore (D 25 rfl) (by decide) rfl ?_
            rw [trL_y hk9]
            exact ht_cast (loop k 0 (up2 (up2 V1 0 51 salt) 0 52 (nI k)) (by omega) (by omega) ((hd1.up0 _ (by decide)).up0 _ (by decide)) (by rw [up2_k _ _ (by decide), up2_s]) (by rw [up2_s]) (by rw [up2_o _ _ (by decide), up2_o _ _ (by decide), hq.2.2.1]; funext i; rw [if_neg (by omega)]) (by rw [up2_o _ _ (by decide), up2_o _ _ (by decide), hq.2.2.2])) rfl rfl rfl
          · skip
            have hn9 : ¬ trK q salt k := by
              rintro (h9 | h9)
              · rw [← hq.1] at h9
                exact hb8 h9
              · exact h9.2 ⟨by rw [← hq.1]; exact hb26, by rw [← hq.2.1]; simp only [i_lt, i_le] at hb34 ⊢; omega⟩
            refine ht_vret (D 17 rfl) rfl ?_
            rw [trL_n hn9]
            exact ⟨rfl, V1, rfl, hd1, hq⟩
set_option maxRecDepth 100000 in
set_option maxHeartbeats 2000000 in
theorem sm_tries (hM : MS σ m) {cN dN mN gk : Nat} (hP : PL V cN dN mN gk) : ∀ (f : Nat) (V1 : VT), Dt V V1 → ∀ (q : TQ), Tq V1 q → ∀ (k : Nat) (cell seen salt : Int32), (cell < 0 ∧ k ≤ 8 ∧ 1 ≤ f) ∨ (∃ cc, cc < cN ∧ cell = nI cc ∧ k + unS seen ≤ 7 ∧ unS seen + 2 ≤ f) → Sp G mX10_tries f [.ref m, .int cell, .int seen, .int (nI k), .int salt] (sv σ m V1 U) (fun rv σ' => rv = none ∧ ∃ V' : VT, σ' = sv σ m V' U ∧ Dt V V' ∧ Tq V' (trC V (V 33) dN f cell seen k salt q)) := by
  have D := dat dl_X10_tries
  have hd10 : dN ≤ 10 := hP.2.1.2
  have hc8 : cN ≤ 8 := hP.1.2
  intro f
  induction f with
  | zero =>
    intro V1 hd1 q hq k cell seen salt hor
    rcases hor with h9 | ⟨cc, h9, h8, h7, h6⟩ <;> omega
  | succ f ihf =>
    intro V1 hd1 q hq k cell seen salt hor
    rcases hor with ⟨h9, h8, h7⟩ | ⟨cc, hcc1, rfl, hku, huf⟩
    · rw [show trC V (V 33) dN (f + 1) cell seen k salt q = trL q salt k from if_pos h9]
      exact sm_triesL hM hd1 hq h8 h9 seen salt (f + 1)
    rw [show trC V (V 33) dN (f + 1) (nI cc) seen k salt q = trD V (V 33) (nI cc) seen k salt (trC V (V 33) dN f) q dN from if_neg (nI_pos (by omega))]
    have rec9 : ∀ (j : Nat) (q1 : TQ) (V2 : VT), j < dN → ¬ trN V j (nI cc) seen → Dt V V2 → Tq V2 (q1.1, q1.2.1, q1.2.2.1, va_up q1.2.2.2 k (nI j)) → Sp G mX10_tries f [.ref m, .int (ld V j (nI cc)), .int (tSn V j (nI cc) seen), .int (nI (k + 1)), .int (salt + (V 33 j + 4) / 5)] (sv σ m V2 U) (fun rv σ' => rv = none ∧ ∃ V' : VT, σ' = sv σ m V' U ∧ Dt V V' ∧ Tq V' (trC V (V 33) dN f (ld V j (nI cc)) (tSn V j (nI cc) seen) (k + 1) (salt + (V 33 j + 4) / 5) (q1.1, q1.2.1, q1.2.2.1, va_up q1.2.2.2 k (nI j)))) := by
      intro j q1 V2 hj hgo hd2 hq2
      refine ihf V2 hd2 _ hq2 (k + 1) _ _ _ ?_
      rcases ld_cases hP hj (nI cc) with h9 | h9 | ⟨tq, h9, h8⟩
      · exact absurd (Or.inl h9) hgo
      · exact Or.inl ⟨by rw [h9]; decide, by omega, by omega⟩
      · refine Or.inr ⟨tq, h9, h8, ?_⟩
        have hns : ¬ sb seen (nI tq) := fun h7 => hgo (Or.inr ⟨by rw [h8]; exact nI_pos' (by omega), by rw [h8]; exact h7⟩)
        have hst := un_step (x := seen) (c := tq) (by omega) hns
        have e : tSn V j (nI cc) seen = seen ||| 1 <<< (nI tq &&& 31) := by
          unfold tSn
          rw [h8, if_neg (nI_pos (by omega))]
        rw [e]
        omega
    have loop : ∀ (r j : Nat) (V1 : VT) (l6 : Option Value), j ≤ dN → dN - j = r → Dt V V1 → Tq V1 (trD V (V 33) (nI cc) seen k salt (trC V (V 33) dN f) q j) → HT G mX10_tries 82 [some (.ref m), some (.int (nI cc)), some (.int seen), some (.int (nI k)), some (.int salt), some (.int (nI j)), l6] [] (sv σ m V1 U) (f + 1) (fun rv σ' => rv = none ∧ ∃ V' : VT, σ' = sv σ m V' U ∧ Dt V V' ∧ Tq V' (trD V (V 33) (nI cc) seen k salt (trC V (V 33) dN f) q dN)) := by
      intro r
      induction r using Nat.strongRecOn with
      | _ r ih =>
        intro j V1 l6 hj hr hd1 hq1
        have nx : ∀ V2 : VT, Dt V V2 → Tq V2 (trD V (V 33) (nI cc) seen k salt (trC V (V 33) dN f) q (j + 1)) → ∀ l6 : Option Value, j < dN → HT G mX10_tries 173 [some (.ref m), some (.int (nI cc)), some (.int seen), some (.int (nI k)), some (.int salt), some (.int (nI j)), l6] [] (sv σ m V2 U) (f + 1) (fun rv σ' => rv = none ∧ ∃ V' : VT, σ' = sv σ m V' U ∧ Dt V V' ∧ Tq V' (trD V (V 33) (nI cc) seen k salt (trC V (V 33) dN f) q dN)) := by
          intro V2 h2 h3 l6 hjk
          refine ht_iinc (v := nI (j + 1)) (D 96 rfl) rfl (nI_i1 _) (by decide) rfl ?_
          refine ht_goto (tgt := 82) (D 97 rfl) (by decide) ?_
          exact ih (dN - (j + 1)) (by omega) (j + 1) V2 l6 (by omega) rfl h2 h3
        refine ht_iload (D 42 rfl) rfl ?_
        refine ht_aload_n (D 43 rfl) rfl rfl ?_
        refine gf_X10_16 rfl (D 44 rfl) hM.k0 hM.q3 ?_
        refine ht_iconst (v := 0) (D 45 rfl) (by decide) ?_
        refine hm_ild (o := 3) (n := 0) (by decide) (D 46 rfl) hM.k3 hM.n3 (by first | rfl | exact nI_add _ _ | assumption) (by omega) (by decide) ?_
        refine ht_icmp_ge (tgt := 179) (D 47 rfl) (by decide) (fun hb90 => ?_) (fun hb90 => ?_)
        · skip
          have hjk : dN = j := by rw [hd1.1 3 (by decide) (by decide) (by decide), hP.2.1.1] at hb90; have h9 := (nI_leI (a := dN) (b := j) (by omega) (by omega)).mp hb90; omega
          subst hjk
          refine ht_vret (D 98 rfl) rfl ?_
          exact ⟨rfl, V1, rfl, hd1, hq1⟩
        · skip
          have hjk : j < dN := by rw [hd1.1 3 (by decide) (by decide) (by decide), hP.2.1.1] at hb90; have h9 := mt (nI_leI (a := dN) (b := j) (by omega) (by omega)).mpr hb90; omega
          have hlc := ld_cases hP hjk (nI cc)
          refine ht_aload_n (D 48 rfl) rfl rfl ?_
          refine ht_iload (D 49 rfl) rfl ?_
          refine ht_iload_n (D 50 rfl) rfl rfl ?_
          refine kVX10_leads (As := [_, _]) cl_X10_361 (D 51 rfl) (sm_leads hM (j := j) (by omega) _) hM.k0 rfl (Nat.le_of_ble_eq_true rfl) rfl (Nat.le_of_ble_eq_true rfl) (by omega) ?_
          rintro rv σ1 ⟨rfl, rfl⟩
          rw [show ld V1 j (nI cc) = ld V j (nI cc) by unfold ld; rw [hd1.1 10 (by decide) (by decide) (by decide), hd1.1 11 (by decide) (by decide) (by decide)]]
          refine ht_istore (D 52 rfl) (by decide) rfl ?_
          refine ht_iload (D 53 rfl) rfl ?_
          refine ht_bipush (v := -2) (D 54 rfl) (by decide) ?_
          refine ht_icmp_eq (tgt := 173) (D 55 rfl) (by decide) (fun hb106 => ?_) (fun hb106 => ?_)
          · skip
            have hskip : trN V j (nI cc) seen := Or.inl hb106
            first | exact nx V1 hd1 (by rw [show trD V (V 33) (nI cc) seen k salt (trC V (V 33) dN f) q (j + 1) = trD V (V 33) (nI cc) seen k salt (trC V (V 33) dN f) q j from trE_y hskip]; exact hq1) _ hjk | exact nx V2 hd2 hq3 _ hjk
          · skip
            refine ht_iload (D 56 rfl) rfl ?_
            refine ht_if_lt (tgt := 127) (D 57 rfl) (by decide) (fun hb111 => ?_) (fun hb111 => ?_)
            · skip
              have hgo : ¬ trN V j (nI cc) seen := by
                rintro (h9 | h9)
                · exact hb106 h9
                · have h8 := h9.1
                  simp only [i_lt, i_le] at h8 hb111
                  omega
              refine ht_aload_n (D 66 rfl) rfl rfl ?_
              refine gf_X10_129 rfl (D 67 rfl) hM.k0 hM.q40 ?_
              refine ht_iload_n (D 68 rfl) rfl rfl ?_
              refine ht_iload (D 69 rfl) rfl ?_
              refine hm_ist (o := 40) (n := k) (by decide) (D 70 rfl) hM.k40 hM.n40 (by first | rfl | exact nI_add _ _ | assumption) (by omega) (by decide) ?_
              refine ht_aload_n (D 71 rfl) rfl rfl ?_
              refine ht_iload (D 72 rfl) rfl ?_
              refine ht_iload (D 73 rfl) rfl ?_
              refine ht_if_ge (tgt := 147) (D 74 rfl) (by decide) (fun hb140 => ?_) (fun hb140 => ?_)
              · skip
                have hsn : seen ||| 1 <<< (ld V j (nI cc) &&& 31) = tSn V j (nI cc) seen := by unfold tSn; rw [if_neg (by simp only [i_lt, i_le] at hb140 ⊢; omega)]
                refine ht_iload_n (D 77 rfl) rfl rfl ?_
                refine ht_iconst (v := 1) (D 78 rfl) (by decide) ?_
                refine ht_iload (D 79 rfl) rfl ?_
                refine ht_ishl (D 80 rfl) ?_
                refine ht_ior (D 81 rfl) ?_
                first | rw [show (.int (seen ||| 1 <<< (ld V j (nI cc) &&& 31)) : Value) = .int (tSn V j (nI cc) seen) by rw [hsn]] | refine ht_cast (st' := [.int (tSn V j (nI cc) seen), .int (ld V j (nI cc)), .ref m]) ?_ rfl (by rw [← hsn]; rfl) rfl
                refine ht_iload_n (D 82 rfl) rfl rfl ?_
                refine ht_iconst (v := 1) (D 83 rfl) (by decide) ?_
                refine ht_iadd (D 84 rfl) ?_
                refine ht_iload (D 85 rfl) rfl ?_
                refine ht_aload_n (D 86 rfl) rfl rfl ?_
                refine gf_X10_108 rfl (D 87 rfl) hM.k0 hM.q33 ?_
                refine ht_iload (D 88 rfl) rfl ?_
                refine hm_ild (o := 33) (n := j) (by decide) (D 89 rfl) hM.k33 hM.n33 (by first | rfl | exact nI_add _ _ | assumption) (by omega) (by decide) ?_
                rw [up2_o _ _ (show (33 : Nat) ≠ 40 by decide), hd1.1 33 (by decide) (by decide) (by decide)]
                refine ht_iconst (v := 4) (D 90 rfl) (by decide) ?_
                refine ht_iadd (D 91 rfl) ?_
                refine ht_iconst (v := 5) (D 92 rfl) (by decide) ?_
                refine ht_idiv (D 93 rfl) (by decide) ?_
                refine ht_iadd (D 94 rfl) ?_
                rw [show nI k + 1 = nI (k + 1) from nI_1 k]
                have hway : Tq (up2 V1 40 k (nI j)) ((trD V (V 33) (nI cc) seen k salt (trC V (V 33) dN f) q j).1, (trD V (V 33) (nI cc) seen k salt (trC V (V 33) dN f) q j).2.1, (trD V (V 33) (nI cc) seen k salt (trC V (V 33) dN f) q j).2.2.1, va_up (trD V (V 33) (nI cc) seen k salt (trC V (V 33) dN f) q j).2.2.2 k (nI j)) := ⟨by rw [up2_o _ _ (by decide)]; exact hq1.1, by rw [up2_o _ _ (by decide)]; exact hq1.2.1, by rw [up2_o _ _ (by decide)]; exact hq1.2.2.1, by rw [up2_row, hq1.2.2.2]⟩
                refine kVX10_tries (As := [_, _, _, _]) cl_X10_418 (D 95 rfl) (rec9 j (trD V (V 33) (nI cc) seen k salt (trC V (V 33) dN f) q j) _ hjk hgo (hd1.up _ _ (Or.inr rfl)) hway) hM.k0 rfl (Nat.le_of_ble_eq_true rfl) rfl (Nat.le_of_ble_eq_true rfl) (by omega) ?_
                rintro rv σ1 ⟨rfl, V2, rfl, hd2, hq2⟩
                have hq3 : Tq V2 (trD V (V 33) (nI cc) seen k salt (trC V (V 33) dN f) q (j + 1)) := by rw [show trD V (V 33) (nI cc) seen k salt (trC V (V 33) dN f) q (j + 1) = _ from trE_n hgo]; exact hq2
                first | exact nx V1 hd1 (by rw [show trD V (V 33) (nI cc) seen k salt (trC V (V 33) dN f) q (j + 1) = trD V (V 33) (nI cc) seen k salt (trC V (V 33) dN f) q j from trE_y hskip]; exact hq1) _ hjk | exact nx V2 hd2 hq3 _ hjk
              · skip
                have hsn : seen = tSn V j (nI cc) seen := by unfold tSn; rw [if_pos (by simp only [i_lt, i_le] at hb140 ⊢; omega)]
                refine ht_iload_n (D 75 rfl) rfl rfl ?_
                refine ht_goto (tgt := 153) (D 76 rfl) (by decide) ?_
                first | rw [show (.int (seen ||| 1 <<< (ld V j (nI cc) &&& 31)) : Value) = .int (tSn V j (nI cc) seen) by rw [hsn]] | refine ht_cast (st' := [.int (tSn V j (nI cc) seen), .int (ld V j (nI cc)), .ref m]) ?_ rfl (by rw [← hsn]; rfl) rfl
                refine ht_iload_n (D 82 rfl) rfl rfl ?_
                refine ht_iconst (v := 1) (D 83 rfl) (by decide) ?_
                refine ht_iadd (D 84 rfl) ?_
                refine ht_iload (D 85 rfl) rfl ?_
                refine ht_aload_n (D 86 rfl) rfl rfl ?_
                refine gf_X10_108 rfl (D 87 rfl) hM.k0 hM.q33 ?_
                refine ht_iload (D 88 rfl) rfl ?_
                refine hm_ild (o := 33) (n := j) (by decide) (D 89 rfl) hM.k33 hM.n33 (by first | rfl | exact nI_add _ _ | assumption) (by omega) (by decide) ?_
                rw [up2_o _ _ (show (33 : Nat) ≠ 40 by decide), hd1.1 33 (by decide) (by decide) (by decide)]
                refine ht_iconst (v := 4) (D 90 rfl) (by decide) ?_
                refine ht_iadd (D 91 rfl) ?_
                refine ht_iconst (v := 5) (D 92 rfl) (by decide) ?_
                refine ht_idiv (D 93 rfl) (by decide) ?_
                refine ht_iadd (D 94 rfl) ?_
                rw [show nI k + 1 = nI (k + 1) from nI_1 k]
                have hway : Tq (up2 V1 40 k (nI j)) ((trD V (V 33) (nI cc) seen k salt (trC V (V 33) dN f) q j).1, (trD V (V 33) (nI cc) seen k salt (trC V (V 33) dN f) q j).2.1, (trD V (V 33) (nI cc) seen k salt (trC V (V 33) dN f) q j).2.2.1, va_up (trD V (V 33) (nI cc) seen k salt (trC V (V 33) dN f) q j).2.2.2 k (nI j)) := ⟨by rw [up2_o _ _ (by decide)]; exact hq1.1, by rw [up2_o _ _ (by decide)]; exact hq1.2.1, by rw [up2_o _ _ (by decide)]; exact hq1.2.2.1, by rw [up2_row, hq1.2.2.2]⟩
                refine kVX10_tries (As := [_, _, _, _]) cl_X10_418 (D 95 rfl) (rec9 j (trD V (V 33) (nI cc) seen k salt (trC V (V 33) dN f) q j) _ hjk hgo (hd1.up _ _ (Or.inr rfl)) hway) hM.k0 rfl (Nat.le_of_ble_eq_true rfl) rfl (Nat.le_of_ble_eq_true rfl) (by omega) ?_
                rintro rv σ1 ⟨rfl, V2, rfl, hd2, hq2⟩
                have hq3 : Tq V2 (trD V (V 33) (nI cc) seen k salt (trC V (V 33) dN f) q (j + 1)) := by rw [show trD V (V 33) (nI cc) seen k salt (trC V (V 33) dN f) q (j + 1) = _ from trE_n hgo]; exact hq2
                first | exact nx V1 hd1 (by rw [show trD V (V 33) (nI cc) seen k salt (trC V (V 33) dN f) q (j + 1) = trD V (V 33) (nI cc) seen k salt (trC V (V 33) dN f) q j from trE_y hskip]; exact hq1) _ hjk | exact nx V2 hd2 hq3 _ hjk
            · skip
              obtain ⟨tq, htq1, htq2⟩ : ∃ t, t < cN ∧ ld V j (nI cc) = nI t := by
                rcases hlc with h9 | h9 | h9
                · exact absurd h9 hb106
                · rw [h9] at hb111
                  exact absurd (by decide) hb111
                · exact h9
              refine ht_iload_n (D 58 rfl) rfl rfl ?_
              refine ht_iload (D 59 rfl) rfl ?_
              refine ht_ishr (D 60 rfl) ?_
              refine ht_iconst (v := 1) (D 61 rfl) (by decide) ?_
              refine ht_iand (D 62 rfl) ?_
              refine ht_iconst (v := 1) (D 63 rfl) (by decide) ?_
              refine ht_icmp_ne (tgt := 127) (D 64 rfl) (by decide) (fun hb121 => ?_) (fun hb121 => ?_)
              · skip
                have hgo : ¬ trN V j (nI cc) seen := by
                  rintro (h9 | h9)
                  · exact hb106 h9
                  · exact hb121 h9.2
                refine ht_aload_n (D 66 rfl) rfl rfl ?_
                refine gf_X10_129 rfl (D 67 rfl) hM.k0 hM.q40 ?_
                refine ht_iload_n (D 68 rfl) rfl rfl ?_
                refine ht_iload (D 69 rfl) rfl ?_
                refine hm_ist (o := 40) (n := k) (by decide) (D 70 rfl) hM.k40 hM.n40 (by first | rfl | exact nI_add _ _ | assumption) (by omega) (by decide) ?_
                refine ht_aload_n (D 71 rfl) rfl rfl ?_
                refine ht_iload (D 72 rfl) rfl ?_
                refine ht_iload (D 73 rfl) rfl ?_
                refine ht_if_ge (tgt := 147) (D 74 rfl) (by decide) (fun hb140 => ?_) (fun hb140 => ?_)
                · skip
                  have hsn : seen ||| 1 <<< (ld V j (nI cc) &&& 31) = tSn V j (nI cc) seen := by unfold tSn; rw [if_neg (by simp only [i_lt, i_le] at hb140 ⊢; omega)]
                  refine ht_iload_n (D 77 rfl) rfl rfl ?_
                  refine ht_iconst (v := 1) (D 78 rfl) (by decide) ?_
                  refine ht_iload (D 79 rfl) rfl ?_
                  refine ht_ishl (D 80 rfl) ?_
                  refine ht_ior (D 81 rfl) ?_
                  first | rw [show (.int (seen ||| 1 <<< (ld V j (nI cc) &&& 31)) : Value) = .int (tSn V j (nI cc) seen) by rw [hsn]] | refine ht_cast (st' := [.int (tSn V j (nI cc) seen), .int (ld V j (nI cc)), .ref m]) ?_ rfl (by rw [← hsn]; rfl) rfl
                  refine ht_iload_n (D 82 rfl) rfl rfl ?_
                  refine ht_iconst (v := 1) (D 83 rfl) (by decide) ?_
                  refine ht_iadd (D 84 rfl) ?_
                  refine ht_iload (D 85 rfl) rfl ?_
                  refine ht_aload_n (D 86 rfl) rfl rfl ?_
                  refine gf_X10_108 rfl (D 87 rfl) hM.k0 hM.q33 ?_
                  refine ht_iload (D 88 rfl) rfl ?_
                  refine hm_ild (o := 33) (n := j) (by decide) (D 89 rfl) hM.k33 hM.n33 (by first | rfl | exact nI_add _ _ | assumption) (by omega) (by decide) ?_
                  rw [up2_o _ _ (show (33 : Nat) ≠ 40 by decide), hd1.1 33 (by decide) (by decide) (by decide)]
                  refine ht_iconst (v := 4) (D 90 rfl) (by decide) ?_
                  refine ht_iadd (D 91 rfl) ?_
                  refine ht_iconst (v := 5) (D 92 rfl) (by decide) ?_
                  refine ht_idiv (D 93 rfl) (by decide) ?_
                  refine ht_iadd (D 94 rfl) ?_
                  rw [show nI k + 1 = nI (k + 1) from nI_1 k]
                  have hway : Tq (up2 V1 40 k (nI j)) ((trD V (V 33) (nI cc) seen k salt (trC V (V 33) dN f) q j).1, (trD V (V 33) (nI cc) seen k salt (trC V (V 33) dN f) q j).2.1, (trD V (V 33) (nI cc) seen k salt (trC V (V 33) dN f) q j).2.2.1, va_up (trD V (V 33) (nI cc) seen k salt (trC V (V 33) dN f) q j).2.2.2 k (nI j)) := ⟨by rw [up2_o _ _ (by decide)]; exact hq1.1, by rw [up2_o _ _ (by decide)]; exact hq1.2.1, by rw [up2_o _ _ (by decide)]; exact hq1.2.2.1, by rw [up2_row, hq1.2.2.2]⟩
                  refine kVX10_tries (As := [_, _, _, _]) cl_X10_418 (D 95 rfl) (rec9 j (trD V (V 33) (nI cc) seen k salt (trC V (V 33) dN f) q j) _ hjk hgo (hd1.up _ _ (Or.inr rfl)) hway) hM.k0 rfl (Nat.le_of_ble_eq_true rfl) rfl (Nat.le_of_ble_eq_true rfl) (by omega) ?_
                  rintro rv σ1 ⟨rfl, V2, rfl, hd2, hq2⟩
                  have hq3 : Tq V2 (trD V (V 33) (nI cc) seen k salt (trC V (V 33) dN f) q (j + 1)) := by rw [show trD V (V 33) (nI cc) seen k salt (trC V (V 33) dN f) q (j + 1) = _ from trE_n hgo]; exact hq2
                  first | exact nx V1 hd1 (by rw [show trD V (V 33) (nI cc) seen k salt (trC V (V 33) dN f) q (j + 1) = trD V (V 33) (nI cc) seen k salt (trC V (V 33) dN f) q j from trE_y hskip]; exact hq1) _ hjk | exact nx V2 hd2 hq3 _ hjk
                · skip
                  have hsn : seen = tSn V j (nI cc) seen := by unfold tSn; rw [if_pos (by simp only [i_lt, i_le] at hb140 ⊢; omega)]
                  refine ht_iload_n (D 75 rfl) rfl rfl ?_
                  refine ht_goto (tgt := 153) (D 76 rfl) (by decide) ?_
                  first | rw [show (.int (seen ||| 1 <<< (ld V j (nI cc) &&& 31)) : Value) = .int (tSn V j (nI cc) seen) by rw [hsn]] | refine ht_cast (st' := [.int (tSn V j (nI cc) seen), .int (ld V j (nI cc)), .ref m]) ?_ rfl (by rw [← hsn]; rfl) rfl
                  refine ht_iload_n (D 82 rfl) rfl rfl ?_
                  refine ht_iconst (v := 1) (D 83 rfl) (by decide) ?_
                  refine ht_iadd (D 84 rfl) ?_
                  refine ht_iload (D 85 rfl) rfl ?_
                  refine ht_aload_n (D 86 rfl) rfl rfl ?_
                  refine gf_X10_108 rfl (D 87 rfl) hM.k0 hM.q33 ?_
                  refine ht_iload (D 88 rfl) rfl ?_
                  refine hm_ild (o := 33) (n := j) (by decide) (D 89 rfl) hM.k33 hM.n33 (by first | rfl | exact nI_add _ _ | assumption) (by omega) (by decide) ?_
                  rw [up2_o _ _ (show (33 : Nat) ≠ 40 by decide), hd1.1 33 (by decide) (by decide) (by decide)]
                  refine ht_iconst (v := 4) (D 90 rfl) (by decide) ?_
                  refine ht_iadd (D 91 rfl) ?_
                  refine ht_iconst (v := 5) (D 92 rfl) (by decide) ?_
                  refine ht_idiv (D 93 rfl) (by decide) ?_
                  refine ht_iadd (D 94 rfl) ?_
                  rw [show nI k + 1 = nI (k + 1) from nI_1 k]
                  have hway : Tq (up2 V1 40 k (nI j)) ((trD V (V 33) (nI cc) seen k salt (trC V (V 33) dN f) q j).1, (trD V (V 33) (nI cc) seen k salt (trC V (V 33) dN f) q j).2.1, (trD V (V 33) (nI cc) seen k salt (trC V (V 33) dN f) q j).2.2.1, va_up (trD V (V 33) (nI cc) seen k salt (trC V (V 33) dN f) q j).2.2.2 k (nI j)) := ⟨by rw [up2_o _ _ (by decide)]; exact hq1.1, by rw [up2_o _ _ (by decide)]; exact hq1.2.1, by rw [up2_o _ _ (by decide)]; exact hq1.2.2.1, by rw [up2_row, hq1.2.2.2]⟩
                  refine kVX10_tries (As := [_, _, _, _]) cl_X10_418 (D 95 rfl) (rec9 j (trD V (V 33) (nI cc) seen k salt (trC V (V 33) dN f) q j) _ hjk hgo (hd1.up _ _ (Or.inr rfl)) hway) hM.k0 rfl (Nat.le_of_ble_eq_true rfl) rfl (Nat.le_of_ble_eq_true rfl) (by omega) ?_
                  rintro rv σ1 ⟨rfl, V2, rfl, hd2, hq2⟩
                  have hq3 : Tq V2 (trD V (V 33) (nI cc) seen k salt (trC V (V 33) dN f) q (j + 1)) := by rw [show trD V (V 33) (nI cc) seen k salt (trC V (V 33) dN f) q (j + 1) = _ from trE_n hgo]; exact hq2
                  first | exact nx V1 hd1 (by rw [show trD V (V 33) (nI cc) seen k salt (trC V (V 33) dN f) q (j + 1) = trD V (V 33) (nI cc) seen k salt (trC V (V 33) dN f) q j from trE_y hskip]; exact hq1) _ hjk | exact nx V2 hd2 hq3 _ hjk
              · skip
                have hskip : trN V j (nI cc) seen := Or.inr ⟨by simp only [i_lt, i_le] at hb111 ⊢; omega, hb121⟩
                refine ht_goto (tgt := 173) (D 65 rfl) (by decide) ?_
                first | exact nx V1 hd1 (by rw [show trD V (V 33) (nI cc) seen k salt (trC V (V 33) dN f) q (j + 1) = trD V (V 33) (nI cc) seen k salt (trC V (V 33) dN f) q j from trE_y hskip]; exact hq1) _ hjk | exact nx V2 hd2 hq3 _ hjk
    show HT G mX10_tries 0 [some (.ref m), some (.int (nI cc)), some (.int seen), some (.int (nI k)), some (.int salt), none, none] [] (sv σ m V1 U) (f + 1) _
    refine ht_iload_n (D 0 rfl) rfl rfl ?_
    refine ht_if_ge (tgt := 79) (D 1 rfl) (by decide) (fun hb1 => ?_) (fun hb1 => absurd (nI_pos' (n := cc) (by omega)) hb1)
    refine ht_iconst (v := 0) (D 40 rfl) (by decide) ?_
    refine ht_istore (D 41 rfl) (by decide) rfl ?_
    exact ht_cast (loop dN 0 V1 none (by omega) (by omega) hd1 hq) rfl rfl rfl
def plA (q : TQ) (w : Int32) : Int32 := if q.1 < 0 then -1 else if w = 0 then q.1 else if w = 1 then q.2.1 else if w - 2 < q.2.1 then q.2.2.1 (w - 2).toNatClampNeg else -1
def aPlOk (S : ST) (mN : Nat) (x w : Int32) : Prop := aHeld S mN x ∧ (0 ≤ w ∧ w ≤ 9)
noncomputable def plQ (V : VT) (S : ST) (dN : Nat) (c b : Int32) (F1 F2 : ST) : TQ := trC V S dN 9 c (1 <<< (c &&& 31)) 0 0 (-1, b, F1, F2)
theorem Dt.pz {V V' : VT} (h : Dt (tz V) V') : Pz V V' := ⟨fun o h1 h2 h3 => (h.1 o (by omega) (by omega) (by omega)).trans (tz_o V (by omega)), by rw [h.2.1, h.2.2]; exact ⟨up2_k V 0 (by decide), up2_k V 0 (by decide)⟩⟩
theorem trC_tz (V : VT) (S : ST) (dN : Nat) : trC (tz V) S dN = trC V S dN := by
  have hl : ld (tz V) = ld V := by
    funext j c
    unfold ld
    rw [tz_o V (by decide), tz_o V (by decide)]
  funext f
  induction f with
  | zero => rfl
  | succ f ih =>
    funext c0 seen k salt q
    show (if c0 < 0 then trL q salt k else trD (tz V) S c0 seen k salt (trC (tz V) S dN f) q dN) = if c0 < 0 then trL q salt k else trD V S c0 seen k salt (trC V S dN f) q dN
    rw [ih]
    have hE : ∀ j q, trE (tz V) S c0 seen k salt (trC V S dN f) j q = trE V S c0 seen k salt (trC V S dN f) j q := by
      intro j q
      unfold trE trN tSn
      rw [hl]
    have hD : ∀ j, trD (tz V) S c0 seen k salt (trC V S dN f) q j = trD V S c0 seen k salt (trC V S dN f) q j := by
      intro j
      induction j with
      | zero => rfl
      | succ j ihj =>
        show trE (tz V) S c0 seen k salt (trC V S dN f) j (trD (tz V) S c0 seen k salt (trC V S dN f) q j) = trE V S c0 seen k salt (trC V S dN f) j (trD V S c0 seen k salt (trC V S dN f) q j)
        rw [ihj, hE]
    rw [hD]
set_option maxRecDepth 100000 in
theorem sm_plan (hM : MS σ m) {cN dN mN gk : Nat} (hP : PL V cN dN mN gk) (hmn : Mn (V 33) cN mN) (x w : Int32) : Sp G mX10_plan 10 [.ref m, .int x, .int w] (sv σ m V U) (fun rv σ' => (¬ aPlOk (V 33) mN x w ∧ QA σ m V (-1) (V 33) rv σ') ∨ (aPlOk (V 33) mN x w ∧ QA σ m V (plA (plQ V (V 33) dN (V 33 (68 + x.toNatClampNeg)) (V 0 52) (V 39) (V 40)) w) (V 33) rv σ')) := by
  have D := dat dl_X10_plan
  show HT G mX10_plan 0 [some (.ref m), some (.int x), some (.int w)] [] (sv σ m V U) 10 _
  have hPt : PL (tz V) cN dN mN gk := hP.dz (tz_dz V)
  have hd10 : dN ≤ 10 := hP.2.1.2
  have hc8 : cN ≤ 8 := hP.1.2
  have hm6 : mN ≤ 6 := hP.2.2.1.2
  refine ht_aload_n (D 0 rfl) rfl rfl ?_
  refine ht_iconst (v := 0) (D 1 rfl) (by decide) ?_
  refine pm_X10_135 hM rfl (D 2 rfl) ?_
  show HT _ _ _ _ _ (sv σ m (tz V) U) _ _
  refine ht_aload_n (D 3 rfl) rfl rfl ?_
  refine ht_iload_n (D 4 rfl) rfl rfl ?_
  refine kVX10_isHeld (As := [_]) cl_X10_358 (D 5 rfl) (sm_isHeld hM hPt (by rw [tz_o V (show (33 : Nat) ≠ 0 by decide)]; exact hmn) x) hM.k0 rfl (Nat.le_of_ble_eq_true rfl) rfl (Nat.le_of_ble_eq_true rfl) (by omega) ?_
  rintro rv σ1 ⟨⟨yh, rfl, hyh⟩, rfl⟩
  rw [tz_o V (show (33 : Nat) ≠ 0 by decide)] at hyh
  refine ht_if_eq (tgt := 23) (D 6 rfl) (by decide) (fun hb10 => ?_) (fun hb10 => ?_)
  · skip
    have hng : ¬ aPlOk (V 33) mN x w := by
      rintro ⟨q, -⟩
      rcases hyh with h9 | h9
      · rw [h9.1] at hb10
        exact absurd hb10 (by decide)
      · exact h9.2 q
    refine ht_iconst (v := -1) (D 12 rfl) (by decide) ?_
    refine ht_iret (D 13 rfl) rfl rfl ?_
    exact Or.inl ⟨hng, QA_t rfl⟩
  · skip
    have hy : aHeld (V 33) mN x := by
      rcases hyh with h9 | h9
      · exact h9.2
      · exact absurd h9.1 hb10
    obtain ⟨j, hjm, rfl⟩ := rng (by omega) hy.1
    have hjc : (nI j).toNatClampNeg = j := nI_clamp (by omega)
    obtain ⟨cq, hcq1, hcq2⟩ : ∃ c, c < cN ∧ V 33 (68 + j) = nI c := by
      rcases hmn j hjm with h9 | h9
      · have h8 := hy.2
        rw [hjc, h9] at h8
        exact absurd h8 (by decide)
      · exact h9
    refine ht_iload_n (D 7 rfl) rfl rfl ?_
    refine ht_iconst (v := 0) (D 8 rfl) (by decide) ?_
    refine ht_bipush (v := 9) (D 9 rfl) (by decide) ?_
    refine kSX10_within (As := [_, _, _]) cl_X10_263 (D 10 rfl) (sm_within _ _ _) rfl (Nat.le_of_ble_eq_true rfl) rfl (Nat.le_of_ble_eq_true rfl) (by omega) ?_
    rintro rv σ1 ⟨rfl, rfl⟩
    refine ht_if_ne (tgt := 25) (D 11 rfl) (by decide) (fun hb20 => ?_) (fun hb20 => ?_)
    · skip
      have hw9 := b01_ne hb20
      obtain ⟨n, hn1, hn2, rfl⟩ := rngW (lo := 0) 9 (by decide) hw9 (by decide)
      have hok : aPlOk (V 33) mN (nI j) (nI n) := ⟨hy, hw9⟩
      refine ht_aload_n (D 14 rfl) rfl rfl ?_
      refine ht_iconst (v := -1) (D 15 rfl) (by decide) ?_
      refine pm_X10_412 hM rfl (D 16 rfl) ?_
      show HT G mX10_plan 30 [some (.ref m), some (.int (nI j)), some (.int (nI n))] [] (sv σ m (up2 (tz V) 0 51 (-1)) U) 10 _
      refine ht_aload_n (D 17 rfl) rfl rfl ?_
      refine ht_aload_n (D 18 rfl) rfl rfl ?_
      refine gf_X10_108 rfl (D 19 rfl) hM.k0 hM.q33 ?_
      refine ht_bipush (v := 68) (D 20 rfl) (by decide) ?_
      refine ht_iload_n (D 21 rfl) rfl rfl ?_
      refine ht_iadd (D 22 rfl) ?_
      refine hm_ild (o := 33) (n := 68 + j) (by decide) (D 23 rfl) hM.k33 hM.n33 (by exact nI_add 68 j) (by omega) (by decide) ?_
      rw [show up2 (tz V) 0 51 (-1) 33 = V 33 from (up2_o _ _ (by decide)).trans (tz_o V (by decide)), hcq2]
      refine ht_iconst (v := 1) (D 24 rfl) (by decide) ?_
      refine ht_aload_n (D 25 rfl) rfl rfl ?_
      refine gf_X10_108 rfl (D 26 rfl) hM.k0 hM.q33 ?_
      refine ht_bipush (v := 68) (D 27 rfl) (by decide) ?_
      refine ht_iload_n (D 28 rfl) rfl rfl ?_
      refine ht_iadd (D 29 rfl) ?_
      refine hm_ild (o := 33) (n := 68 + j) (by decide) (D 30 rfl) hM.k33 hM.n33 (by exact nI_add 68 j) (by omega) (by decide) ?_
      rw [show up2 (tz V) 0 51 (-1) 33 = V 33 from (up2_o _ _ (by decide)).trans (tz_o V (by decide)), hcq2]
      refine ht_ishl (D 31 rfl) ?_
      refine ht_iconst (v := 0) (D 32 rfl) (by decide) ?_
      refine ht_iconst (v := 0) (D 33 rfl) (by decide) ?_
      refine kVX10_tries (As := [_, _, _, _]) cl_X10_418 (D 34 rfl) (sm_tries hM hPt 9 (up2 (tz V) 0 51 (-1)) ((Dt.rf _).up0 _ (by decide)) (-1, V 0 52, V 39, V 40) ⟨up2_s _ _ _ _, by rw [up2_k _ _ (by decide)]; exact up2_k V 0 (by decide), by rw [up2_o _ _ (by decide)]; exact tz_o V (by decide), by rw [up2_o _ _ (by decide)]; exact tz_o V (by decide)⟩ 0 _ _ 0 (Or.inr ⟨cq, hcq1, rfl, by rw [show (1 : Int32) <<< (nI cq &&& 31) = 1 <<< (nI cq &&& 31) from rfl, un_one (by omega)]; omega, by rw [un_one (by omega)]; omega⟩)) hM.k0 rfl (Nat.le_of_ble_eq_true rfl) rfl (Nat.le_of_ble_eq_true rfl) (by omega) ?_
      rintro rv σ1 ⟨rfl, V2, rfl, hd2, hq2⟩
      rw [tz_o V (show (33 : Nat) ≠ 0 by decide), trC_tz] at hq2
      have hqe : trC V (V 33) dN 9 (nI cq) (1 <<< (nI cq &&& 31)) 0 0 (-1, V 0 52, V 39, V 40) = plQ V (V 33) dN (V 33 (68 + j)) (V 0 52) (V 39) (V 40) := by unfold plQ; rw [hcq2]
      rw [hqe] at hq2
      generalize hqg : plQ V (V 33) dN (V 33 (68 + j)) (V 0 52) (V 39) (V 40) = q at hq2
      refine ht_aload_n (D 35 rfl) rfl rfl ?_
      refine gm_X10_412 hM rfl (D 36 rfl) ?_
      refine ht_if_ge (tgt := 65) (D 37 rfl) (by decide) (fun hb60 => ?_) (fun hb60 => ?_)
      · skip
        have hq0 : ¬ q.1 < 0 := by rw [← hq2.1]; simp only [i_lt, i_le] at hb60 ⊢; omega
        refine ht_iload_n (D 40 rfl) rfl rfl ?_
        refine ht_if_ne (tgt := 76) (D 41 rfl) (by decide) (fun hb66 => ?_) (fun hb66 => ?_)
        · skip
          have hn0 : ¬ n = 0 := fun q => hb66 (by rw [q]; rfl)
          refine ht_iload_n (D 45 rfl) rfl rfl ?_
          refine ht_iconst (v := 1) (D 46 rfl) (by decide) ?_
          refine ht_icmp_ne (tgt := 88) (D 47 rfl) (by decide) (fun hb78 => ?_) (fun hb78 => ?_)
          · skip
            have hn1' : ¬ n = 1 := fun q => hb78 (by rw [q]; rfl)
            have hsub : nI n - 2 = nI (n - 2) := pk_sub (a := n) (b := 2) (by omega)
            refine ht_iload_n (D 51 rfl) rfl rfl ?_
            refine ht_iconst (v := 2) (D 52 rfl) (by decide) ?_
            refine ht_isub (D 53 rfl) ?_
            refine ht_aload_n (D 54 rfl) rfl rfl ?_
            refine gm_X10_415 hM rfl (D 55 rfl) ?_
            refine ht_icmp_ge (tgt := 109) (D 56 rfl) (by decide) (fun hb95 => ?_) (fun hb95 => ?_)
            · skip
              refine ht_iconst (v := -1) (D 64 rfl) (by decide) ?_
              refine ht_iret (D 65 rfl) rfl rfl ?_
              refine Or.inr ⟨hok, ?_, V2, U, rfl, hd2.pz, by rw [hd2.1 33 (by decide) (by decide) (by decide)]; exact tz_o V (by decide)⟩
              rw [hjc, hqg]
              unfold plA
              first | rw [if_pos hq0] | rw [if_neg hq0, if_pos hb66, ← hq2.1] | rw [if_neg hq0, if_neg hb66, if_pos hb78, ← hq2.2.1] | rw [if_neg hq0, if_neg hb66, if_neg hb78, if_neg (by rw [← hq2.2.1]; simp only [i_lt, i_le] at hb95 ⊢; omega)] | rw [if_neg hq0, if_neg hb66, if_neg hb78, if_pos (by rw [← hq2.2.1]; simp only [i_lt, i_le] at hb95 ⊢; omega), hsub, nI_clamp (by omega), hq2.2.2.1]
            · skip
              refine ht_aload_n (D 57 rfl) rfl rfl ?_
              refine gf_X10_126 rfl (D 58 rfl) hM.k0 hM.q39 ?_
              refine ht_iload_n (D 59 rfl) rfl rfl ?_
              refine ht_iconst (v := 2) (D 60 rfl) (by decide) ?_
              refine ht_isub (D 61 rfl) ?_
              refine hm_ild (o := 39) (n := n - 2) (by decide) (D 62 rfl) hM.k39 hM.n39 hsub (by omega) (by decide) ?_
              refine ht_goto (tgt := 110) (D 63 rfl) (by decide) ?_
              refine ht_iret (D 65 rfl) rfl rfl ?_
              refine Or.inr ⟨hok, ?_, V2, U, rfl, hd2.pz, by rw [hd2.1 33 (by decide) (by decide) (by decide)]; exact tz_o V (by decide)⟩
              rw [hjc, hqg]
              unfold plA
              first | rw [if_pos hq0] | rw [if_neg hq0, if_pos hb66, ← hq2.1] | rw [if_neg hq0, if_neg hb66, if_pos hb78, ← hq2.2.1] | rw [if_neg hq0, if_neg hb66, if_neg hb78, if_neg (by rw [← hq2.2.1]; simp only [i_lt, i_le] at hb95 ⊢; omega)] | rw [if_neg hq0, if_neg hb66, if_neg hb78, if_pos (by rw [← hq2.2.1]; simp only [i_lt, i_le] at hb95 ⊢; omega), hsub, nI_clamp (by omega), hq2.2.2.1]
          · skip
            refine ht_aload_n (D 48 rfl) rfl rfl ?_
            refine gm_X10_415 hM rfl (D 49 rfl) ?_
            refine ht_goto (tgt := 110) (D 50 rfl) (by decide) ?_
            refine ht_iret (D 65 rfl) rfl rfl ?_
            refine Or.inr ⟨hok, ?_, V2, U, rfl, hd2.pz, by rw [hd2.1 33 (by decide) (by decide) (by decide)]; exact tz_o V (by decide)⟩
            rw [hjc, hqg]
            unfold plA
            first | rw [if_pos hq0] | rw [if_neg hq0, if_pos hb66, ← hq2.1] | rw [if_neg hq0, if_neg hb66, if_pos hb78, ← hq2.2.1] | rw [if_neg hq0, if_neg hb66, if_neg hb78, if_neg (by rw [← hq2.2.1]; simp only [i_lt, i_le] at hb95 ⊢; omega)] | rw [if_neg hq0, if_neg hb66, if_neg hb78, if_pos (by rw [← hq2.2.1]; simp only [i_lt, i_le] at hb95 ⊢; omega), hsub, nI_clamp (by omega), hq2.2.2.1]
        · skip
          refine ht_aload_n (D 42 rfl) rfl rfl ?_
          refine gm_X10_412 hM rfl (D 43 rfl) ?_
          refine ht_goto (tgt := 110) (D 44 rfl) (by decide) ?_
          refine ht_iret (D 65 rfl) rfl rfl ?_
          refine Or.inr ⟨hok, ?_, V2, U, rfl, hd2.pz, by rw [hd2.1 33 (by decide) (by decide) (by decide)]; exact tz_o V (by decide)⟩
          rw [hjc, hqg]
          unfold plA
          first | rw [if_pos hq0] | rw [if_neg hq0, if_pos hb66, ← hq2.1] | rw [if_neg hq0, if_neg hb66, if_pos hb78, ← hq2.2.1] | rw [if_neg hq0, if_neg hb66, if_neg hb78, if_neg (by rw [← hq2.2.1]; simp only [i_lt, i_le] at hb95 ⊢; omega)] | rw [if_neg hq0, if_neg hb66, if_neg hb78, if_pos (by rw [← hq2.2.1]; simp only [i_lt, i_le] at hb95 ⊢; omega), hsub, nI_clamp (by omega), hq2.2.2.1]
      · skip
        have hq0 : q.1 < 0 := by rw [← hq2.1]; simp only [i_lt, i_le] at hb60 ⊢; omega
        refine ht_iconst (v := -1) (D 38 rfl) (by decide) ?_
        refine ht_iret (D 39 rfl) rfl rfl ?_
        refine Or.inr ⟨hok, ?_, V2, U, rfl, hd2.pz, by rw [hd2.1 33 (by decide) (by decide) (by decide)]; exact tz_o V (by decide)⟩
        rw [hjc, hqg]
        unfold plA
        first | rw [if_pos hq0] | rw [if_neg hq0, if_pos hb66, ← hq2.1] | rw [if_neg hq0, if_neg hb66, if_pos hb78, ← hq2.2.1] | rw [if_neg hq0, if_neg hb66, if_neg hb78, if_neg (by rw [← hq2.2.1]; simp only [i_lt, i_le] at hb95 ⊢; omega)] | rw [if_neg hq0, if_neg hb66, if_neg hb78, if_pos (by rw [← hq2.2.1]; simp only [i_lt, i_le] at hb95 ⊢; omega), hsub, nI_clamp (by omega), hq2.2.2.1]
    · skip
      have hng : ¬ aPlOk (V 33) mN (nI j) w := fun q => b01_eq hb20 q.2
      refine ht_iconst (v := -1) (D 12 rfl) (by decide) ?_
      refine ht_iret (D 13 rfl) rfl rfl ?_
      exact Or.inl ⟨hng, QA_t rfl⟩
end M18
