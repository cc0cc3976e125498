/-! ===== the class: what a line needs, over what was told ===== -/
section R3
variable {G : GG} {σ σ0 σ1 σ2 : Hp} {ad : Nat → Nat} {aA aS aV r sA n p b e k S1 : Nat} {T : ST} {s : TD}
theorem sk_next (hE : NE G) (hB : BK G ad aA aS aV) (hH : CS ad T n σ0 S1 s p b e k r sA σ) : Sp G mX7_next 4 [.ref (r + 14)] σ (fun rv σ' => rv = none ∧ CE ad T n σ0 S1 s e r sA σ') := ht_mono (sc_nxL hE hB hH.1) (fun rv σ' q => ⟨q.1, hH.nx q.2⟩)
theorem sk_wrong (hH : CS ad T n σ0 S1 s p b e k r sA σ) (x : Int32) (hx : okA x) : Sp G mX5_wrong 0 [.ref r, .int x] σ (fun rv σ' => rv = some (.int 0) ∧ FT σ0 S1 s r (x + 16 * nI b) σ') := by
  refine ht_mono (sc_wrongL hH.1 x) ?_
  rintro rv σ' ⟨q1, rfl⟩
  exact ⟨q1, hH.ft hx⟩
theorem sk_readWord (hE : NE G) (hB : BK G ad aA aS aV) (hJ : ∀ i j, i < 22 → j < 22 → ad i = ad j → i = j) (hH : CS ad T n σ0 S1 s p b e k r sA σ) {j : Nat} (hj : j < 22) : Sp G mX5_readWord 5 [.ref r, .ref (ad j)] σ (fun rv σ' => (¬ isW T b e k j ∧ rv = some (.int 0) ∧ FT σ0 S1 s r (1 + 16 * nI b) σ') ∨ (isW T b e k j ∧ rv = some (.int 1) ∧ CE ad T n σ0 S1 s e r sA σ')) := by
  refine ht_mono (sc_readWord hE hB hJ hH.1 hj) ?_
  rintro rv σ' (⟨q1, q2, rfl⟩ | ⟨q1, q2, q3⟩)
  · exact Or.inl ⟨q1, q2, hH.ft (by decide)⟩
  · exact Or.inr ⟨q1, q2, hH.nx q3⟩
theorem sk_lineEnd (hE : NE G) (hB : BK G ad aA aS aV) (hH : CS ad T n σ0 S1 s p b e k r sA σ) : Sp G mX5_readLineEnd 5 [.ref r] σ (fun rv σ' => (¬ isS T b k 59 ∧ rv = some (.int 0) ∧ FT σ0 S1 s r (1 + 16 * nI b) σ') ∨ (isS T b k 59 ∧ rv = some (.int 1) ∧ CE ad T n σ0 S1 s e r sA σ')) := by
  refine ht_mono (sc_rdEnd hE hB hH.1) ?_
  rintro rv σ' (⟨q1, q2, rfl⟩ | ⟨q1, q2, q3⟩)
  · exact Or.inl ⟨q1, q2, hH.ft (by decide)⟩
  · exact Or.inr ⟨q1, q2, hH.nx q3⟩
theorem sk_readNumber (hE : NE G) (hB : BK G ad aA aS aV) (hH : CS ad T n σ0 S1 s p b e k r sA σ) (hi : Int32) : Sp G mX5_readNumber 5 [.ref r, .int hi] σ (fun rv σ' => (¬ k = 2 ∧ rv = some (.int 0) ∧ FT σ0 S1 s r (1 + 16 * nI b) σ') ∨ (k = 2 ∧ ¬ dgA T b (e - b) ≤ hi ∧ rv = some (.int 0) ∧ FT σ0 S1 s r (4 + 16 * nI b) σ') ∨ (k = 2 ∧ dgA T b (e - b) ≤ hi ∧ rv = some (.int 1) ∧ zI σ' r 9 = dgA T b (e - b) ∧ CE ad T n σ0 S1 s e r sA σ')) := by
  refine ht_mono (sc_readNumber hE hB hH.1 hi) ?_
  rintro rv σ' (⟨q1, q2, rfl⟩ | ⟨q1, q2, q3, rfl⟩ | ⟨q1, q2, q3, q4⟩)
  · exact Or.inl ⟨q1, q2, hH.ft (by decide)⟩
  · exact Or.inr (Or.inl ⟨q1, q2, q3, hH.ft (by decide)⟩)
  · refine Or.inr (Or.inr ⟨q1, q2, q3, ?_, (hH.rI (by decide) _).nx q4⟩)
    rw [(q4.1.2.2.2.2.1 r (by omega)).1]
    exact zI_s _ _ _ _
theorem sk_isNewName (hB : BK G ad aA aS aV) (hH : CS ad T n σ0 S1 s p b e k r sA σ) (hV0 : tdC s 0 ≤ 8) (hV2 : tdC s 2 ≤ 6) : Sp G mX5_isNewName 1 [.ref r] σ (fun rv σ' => (¬ nmT T b e k ∧ rv = some (.int 0) ∧ FT σ0 S1 s r (1 + 16 * nI b) σ') ∨ (nmT T b e k ∧ ¬ nwS s (pkD T b (e - b)) ∧ rv = some (.int 0) ∧ FT σ0 S1 s r (3 + 16 * nI b) σ') ∨ (nmT T b e k ∧ nwS s (pkD T b (e - b)) ∧ rv = some (.int 1) ∧ σ' = σ)) := by
  have hw : nmT T b e k → (nwJ σ r (zJ σ (r + 14) 7) (tdC s 0) (tdC s 2) ↔ nwS s (pkD T b (e - b))) := by
    intro q
    rw [hH.nm q.1]
    unfold nwJ nwS
    rw [hH.2.1.2.2.2.1.1, hH.2.1.2.2.2.1.2]
  refine ht_mono (sc_isNewName hB hH.1 hH.2.1.1.1 hV0 hH.2.1.1.2.2.1 hV2) ?_
  rintro rv σ' (⟨q1, q2, rfl⟩ | ⟨q1, q2, q3, rfl⟩ | ⟨q1, q2, q3, q4⟩)
  · exact Or.inl ⟨q1, q2, hH.ft (by decide)⟩
  · exact Or.inr (Or.inl ⟨q1, mt (hw q1).mpr q2, q3, hH.ft (by decide)⟩)
  · exact Or.inr (Or.inr ⟨q1, (hw q1).mp q2, q3, q4⟩)
theorem sk_isCellName (hB : BK G ad aA aS aV) (hH : CS ad T n σ0 S1 s p b e k r sA σ) (hV0 : tdC s 0 ≤ 8) : Sp G mX5_isCellName 1 [.ref r] σ (fun rv σ' => (¬ nmT T b e k ∧ rv = some (.int 0) ∧ FT σ0 S1 s r (1 + 16 * nI b) σ') ∨ (nmT T b e k ∧ noC s (pkD T b (e - b)) ∧ rv = some (.int 0) ∧ FT σ0 S1 s r (2 + 16 * nI b) σ') ∨ (nmT T b e k ∧ (∃ j, cnI s (pkD T b (e - b)) j) ∧ rv = some (.int 1) ∧ σ' = σ)) := by
  refine ht_mono (sc_isCellName hB hH.1 hH.2.1.1.1 hV0) ?_
  rintro rv σ' (⟨q1, q2, rfl⟩ | ⟨q1, q2, q3, rfl⟩ | ⟨q1, j, q2, q3, q4, q5, q6⟩)
  · exact Or.inl ⟨q1, q2, hH.ft (by decide)⟩
  · refine Or.inr (Or.inl ⟨q1, ?_, q3, hH.ft (by decide)⟩)
    rw [hH.nm q1.1, hH.2.1.2.2.2.1.1] at q2
    exact q2
  · refine Or.inr (Or.inr ⟨q1, ⟨j, ?_⟩, q5, q6⟩)
    rw [hH.nm q1.1, hH.2.1.2.2.2.1.1] at q3 q4
    exact ⟨q2, q3, q4⟩
theorem sk_cellNamed (hH : CS ad T n σ0 S1 s p b e k r sA σ) (hV0 : tdC s 0 ≤ 8) (q1 : k = 1) {j : Nat} (hj : cnI s (pkD T b (e - b)) j) : Sp G mX5_cellNamed 0 [.ref r, .long (zJ σ (r + 14) 7)] σ (fun rv σ' => rv = some (.int (nI j)) ∧ σ' = σ) := by
  refine ht_mono (sc_cellNamed hH.1 _ hH.2.1.1.1 hV0) ?_
  rintro rv σ' ⟨⟨i, x1, x2, x3, x4⟩ | ⟨x1, x2⟩, x5⟩
  · rw [hH.nm q1, hH.2.1.2.2.2.1.1] at x2 x4
    rw [cnI_u (⟨x1, x2, x4⟩ : cnI s (pkD T b (e - b)) i) hj] at x3
    exact ⟨x3, x5⟩
  · rw [hH.nm q1, hH.2.1.2.2.2.1.1] at x1
    exact absurd hj.2.1 (x1 j hj.1)
/-- how a line ends on the class: with the fault, or behind it -/
def QL (ad : Nat → Nat) (T : ST) (n : Nat) (σ0 : Hp) (S1 : Nat) (s : TD) (e r sA : Nat) (F : (TD → Nat → Rl) → Rl → Prop) : Option Value → Hp → Prop := fun rv σ' => (∃ f, (∀ K, F K (.inr f)) ∧ rv = some (.int 0) ∧ FT σ0 S1 s r f σ') ∨ (∃ s2 q, (∀ K, F K (K s2 q)) ∧ e ≤ q ∧ rv = some (.int 1) ∧ TV T n s2 ∧ CE ad T n σ0 S1 s2 q r sA σ')
theorem dg_le {T : ST} {n p b e k : Nat} (hT : TK T n p b e k) (hk : k = 2) {hi : Nat} (hh : hi < 10000) (h : dgA T b (e - b) ≤ nI hi) : ∃ v, v ≤ hi ∧ dgA T b (e - b) = nI v := by
  subst hk
  obtain ⟨v, h1, h2, _⟩ := TK_dg hT
  rw [h2] at h
  exact ⟨v, (nI_leI (by omega) (by omega)).mp h, h2⟩
end R3
