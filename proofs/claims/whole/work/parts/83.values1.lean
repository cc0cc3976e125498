/-! ===== codes that were read have the value: by the rules ===== -/
theorem Kx_r (l : Nat) (V : VT) (d : Nat) : Kx l V V d := ⟨Kp.rf V, fun _ _ _ => rfl, rfl, fun _ => ⟨rfl, rfl⟩, fun _ => ⟨rfl, rfl⟩, fun _ => ⟨rfl, rfl⟩, fun _ => rfl⟩
theorem c24 {x : Nat} (h : x = 26 ∨ x = 27) (a b : Int32) (V : VT) (d : Nat) (h1 : V 24 d = nI x) (h2 : V 23 d = a) (h3 : t2v V d = b) : t4v V d = opV x a b := by
  unfold t4v opV
  rw [h1, h2, h3]
  rcases h with rfl | rfl
  · rfl
  · rfl
theorem c26 {x : Nat} (h : x = 24 ∨ x = 25) (a b : Int32) (V : VT) (d : Nat) (h1 : V 26 d = nI x) (h2 : V 25 d = a) (h3 : cur V d = b) : t2v V d = opV x a b := by
  unfold t2v opV
  rw [h1, h2, h3]
  rcases h with rfl | rfl
  · rfl
  · rfl
theorem c28 {x : Nat} (h : x = 20 ∨ x = 21) (a b : Int32) (V : VT) (d : Nat) (h1 : V 28 d = nI x) (h2 : V 27 d = a) (h3 : V 29 d = b) : cur V d = opV x a b := by
  unfold cur opV
  rw [h1, h2, h3]
  rcases h with rfl | rfl
  · rw [if_neg (by decide), if_neg (by decide), if_neg (by decide), if_neg (by decide), if_neg (by decide), if_pos rfl]
  · rw [if_pos (by decide), if_neg (by decide), if_neg (by decide), if_neg (by decide), if_neg (by decide), if_neg (by decide), if_pos rfl]
theorem ev_op {T : ST} {b e k l op d : Nat} {V : VT} {v0 : Int32} (hO : OP T b e k l op) (h26 : l = 1 → V 26 d = 0) (hC : Cvx l V d v0) : ∃ V1 : VT, stE V d (nI op) = some (V1, d) ∧ Kx l V V1 d ∧ Sx (l + 1) V1 d ∧ ∀ (V2 : VT) (v2 : Int32), Kx (l + 1) V1 V2 d → Cvx (l + 1) V2 d v2 → (l + 1 = 4 → V2 29 d = (if V1 30 d = 0 then v2 else V1 29 d * v2)) → Cvx l V2 d (opV op v0 v2) := by
  have L0 : l = 0 ∧ (op = 26 ∨ op = 27) ∨ l = 1 ∧ (op = 24 ∨ op = 25) ∨ l = 2 ∧ (op = 20 ∨ op = 21) ∨ l = 3 ∧ op = 22 := by
    unfold OP at hO
    omega
  rcases L0 with ⟨rfl, ho⟩ | ⟨rfl, ho⟩ | ⟨rfl, ho⟩ | ⟨rfl, rfl⟩
  · refine ⟨_, stE_ao ho, ⟨(tsF_kp V d).up _ (by decide), fun o i hi => by rw [up2_k _ _ (by omega), tsi V d (by omega)], by rw [up2_a _ _ (by decide), tso V d (by decide) (by decide) (by decide) (by decide) (by decide)], fun q => absurd q (by omega), fun q => absurd q (by omega), fun q => absurd q (by omega), fun q => absurd q (by omega)⟩, ⟨fun _ => by rw [up2_a _ _ (by decide), ts30], fun _ => ⟨by rw [up2_a _ _ (by decide), ts27], by rw [up2_a _ _ (by decide), ts28]⟩, fun _ => by rw [up2_a _ _ (by decide), ts26], fun q => absurd q (by omega)⟩, ?_⟩
    intro V2 v2 hK hC2 _
    have h23 := (hK.2.2.2.1 (by omega)).1
    have h24 := (hK.2.2.2.1 (by omega)).2
    refine ⟨fun q => absurd q (by omega), fun q => absurd q (by omega), fun q => absurd q (by omega), fun _ => c24 ho v0 v2 V2 d (h24.trans (up2_s _ _ _ _)) ?_ (hC2.2.2.1 rfl)⟩
    rw [h23, up2_a _ _ (by decide), ts23]
    exact hC.2.2.2 rfl
  · have hcur : cur V d = v0 := by
      have h1 := hC.2.2.1 rfl
      unfold t2v at h1
      rw [h26 rfl, if_neg (by decide), if_neg (by decide)] at h1
      exact h1
    refine ⟨_, stE_cm ho, ⟨((((smF_kp V d).up _ (by decide)).up _ (by decide)).up _ (by decide)).up _ (by decide), fun o i hi => by rw [up2_k _ _ (by omega), up2_k _ _ (by omega), up2_k _ _ (by omega), up2_k _ _ (by omega), smi V d (by omega)], by rw [up2_a _ _ (by decide), up2_a _ _ (by decide), up2_a _ _ (by decide), up2_a _ _ (by decide), smo V d (by decide) (by decide)], fun _ => ⟨by rw [up2_a _ _ (by decide), up2_a _ _ (by decide), up2_a _ _ (by decide), up2_a _ _ (by decide), smo V d (by decide) (by decide)], by rw [up2_a _ _ (by decide), up2_a _ _ (by decide), up2_a _ _ (by decide), up2_a _ _ (by decide), smo V d (by decide) (by decide)]⟩, fun q => absurd q (by omega), fun q => absurd q (by omega), fun q => absurd q (by omega)⟩, ⟨fun _ => by rw [up2_a _ _ (by decide), up2_a _ _ (by decide), up2_a _ _ (by decide), up2_a _ _ (by decide), sm30], fun _ => ⟨by rw [up2_a _ _ (by decide), up2_s], by rw [up2_s]⟩, fun q => absurd q (by omega), fun q => absurd q (by omega)⟩, ?_⟩
    intro V2 v2 hK hC2 _
    have h25 := (hK.2.2.2.2.1 (by omega)).1
    have h26b := (hK.2.2.2.2.1 (by omega)).2
    refine ⟨fun q => absurd q (by omega), fun q => absurd q (by omega), fun _ => c26 ho v0 v2 V2 d ?_ ?_ (hC2.2.1 rfl), fun q => absurd q (by omega)⟩
    · rw [h26b, up2_a _ _ (by decide), up2_a _ _ (by decide), up2_s]
    · rw [h25, up2_a _ _ (by decide), up2_a _ _ (by decide), up2_a _ _ (by decide), up2_s, sm27]
      exact hcur
  · refine ⟨_, stE_op ho, ⟨(smF_kp V d).up _ (by decide), fun o i hi => by rw [up2_k _ _ (by omega), smi V d (by omega)], by rw [up2_a _ _ (by decide), smo V d (by decide) (by decide)], fun _ => ⟨by rw [up2_a _ _ (by decide), smo V d (by decide) (by decide)], by rw [up2_a _ _ (by decide), smo V d (by decide) (by decide)]⟩, fun _ => ⟨by rw [up2_a _ _ (by decide), smo V d (by decide) (by decide)], by rw [up2_a _ _ (by decide), smo V d (by decide) (by decide)]⟩, fun q => absurd q (by omega), fun q => absurd q (by omega)⟩, ⟨fun _ => by rw [up2_a _ _ (by decide), sm30], fun q => absurd q (by omega), fun q => absurd q (by omega), fun q => absurd q (by omega)⟩, ?_⟩
    intro V2 v2 hK hC2 _
    have h27 := (hK.2.2.2.2.2.1 (by omega)).1
    have h28 := (hK.2.2.2.2.2.1 (by omega)).2
    refine ⟨fun q => absurd q (by omega), fun _ => c28 ho v0 v2 V2 d ?_ ?_ (hC2.1 rfl), fun q => absurd q (by omega), fun q => absurd q (by omega)⟩
    · rw [h28, up2_s]
    · rw [h27, up2_a _ _ (by decide), sm27]
      exact hC.2.1 rfl
  · refine ⟨_, stE_ti, ⟨(Kp.rf V).up _ (by decide), fun o i hi => by rw [up2_k _ _ (by omega)], by rw [up2_a _ _ (by decide)], fun _ => ⟨by rw [up2_a _ _ (by decide)], by rw [up2_a _ _ (by decide)]⟩, fun _ => ⟨by rw [up2_a _ _ (by decide)], by rw [up2_a _ _ (by decide)]⟩, fun _ => ⟨by rw [up2_a _ _ (by decide)], by rw [up2_a _ _ (by decide)]⟩, fun q => absurd q (by omega)⟩, ⟨fun q => absurd q (by omega), fun q => absurd q (by omega), fun q => absurd q (by omega), fun q => absurd q (by omega)⟩, ?_⟩
    intro V2 v2 hK hC2 h4
    refine ⟨fun _ => ?_, fun q => absurd q (by omega), fun q => absurd q (by omega), fun q => absurd q (by omega)⟩
    rw [h4 rfl, up2_s, if_neg (by decide), up2_a _ _ (by decide), hC.1 rfl]
    rfl
theorem Cv_up {l : Nat} {V V1 : VT} {d : Nat} {v : Int32} (hl : l < 4) (hS : Sx l V d) (hK : Kx (l + 1) V V1 d) (hC : Cvx (l + 1) V1 d v) (h4 : l + 1 = 4 → V1 29 d = (if V 30 d = 0 then v else V 29 d * v)) : Cvx l V1 d v := by
  have L0 : l = 0 ∨ l = 1 ∨ l = 2 ∨ l = 3 := by omega
  rcases L0 with rfl | rfl | rfl | rfl
  · refine ⟨fun q => absurd q (by omega), fun q => absurd q (by omega), fun q => absurd q (by omega), fun _ => ?_⟩
    unfold t4v
    rw [(hK.2.2.2.1 (by omega)).2, hS.2.2.2 rfl, if_neg (by decide), if_neg (by decide)]
    exact hC.2.2.1 rfl
  · refine ⟨fun q => absurd q (by omega), fun q => absurd q (by omega), fun _ => ?_, fun q => absurd q (by omega)⟩
    unfold t2v
    rw [(hK.2.2.2.2.1 (by omega)).2, hS.2.2.1 (by omega), if_neg (by decide), if_neg (by decide)]
    exact hC.2.1 rfl
  · refine ⟨fun q => absurd q (by omega), fun _ => ?_, fun q => absurd q (by omega), fun q => absurd q (by omega)⟩
    unfold cur
    rw [(hK.2.2.2.2.2.1 (by omega)).1, (hK.2.2.2.2.2.1 (by omega)).2, (hS.2.1 (by omega)).1, (hS.2.1 (by omega)).2, if_neg (by decide), hC.1 rfl, Int32.zero_add]
  · refine ⟨fun _ => ?_, fun q => absurd q (by omega), fun q => absurd q (by omega), fun q => absurd q (by omega)⟩
    rw [h4 rfl, hS.1 (by omega), if_pos rfl]
theorem Sx_up {l : Nat} {V : VT} {d : Nat} (h : Sx l V d) : Sx (l + 1) V d := ⟨fun q => h.1 (by omega), fun q => h.2.1 (by omega), fun q => h.2.2.1 (by omega), fun q => absurd q (by omega)⟩
set_option maxHeartbeats 1000000 in
theorem ClR_e (T : ST) (n : Nat) (ice : Bool) : ClR T n ice (E0m T n ice) (ELm T n ice) (EOm T n ice) := by
  refine ⟨?_, ?_, ?_, ?_, ?_, ?_, ?_, ?_, ?_, ?_, ?_, ?_, ?_⟩
  · intro d p b e k hT hns q E hr
    cases hr
  · intro d p b e k hT hns h5 q E hr
    cases hr
  · intro d p b e k E hT hlf hd5 q E2 hr V k2 hc hd
    cases hr
    obtain ⟨x, hE, hst⟩ := stE_lf (V := V) (d := d) hT hlf
    rw [hE] at hc ⊢
    refine ⟨V, ?_, Kp.rf V, fun _ _ _ => rfl⟩
    show evL V d k2 (0 + 1) = _
    rw [evL_one (CDs_hd hc).1 hst]
    rfl
  · intro d p b e k r hT hW hd5 ih q E hr V k2 hc hd
    cases r with
    | inr f => cases hr
    | inl x =>
      cases hr
      have hc2 := CDs_hd hc
      obtain ⟨V2, h1, h2, h3⟩ := ih x.1 x.2 rfl (opF (up2 V 31 (d + 1) 1) (d + 1)) (k2 + 1) (by rw [opF_kp _ _ 20 (by decide), up2_o _ _ (by decide)]; exact hc2.2) (by omega)
      have e32 : opF (up2 V 31 (d + 1) 1) (d + 1) 32 = V 32 := by rw [opF_kp _ _ 32 (by decide), up2_o _ _ (by decide)]
      rw [e32] at h1
      refine ⟨V2, ?_, ((Kp.rf V).up _ (by decide)).tr ((opF_kp _ _).tr h2), fun o i hi => by rw [h3 o i (by omega), opi _ _ (by omega), up2_k _ _ (by omega)]⟩
      show evL V d k2 (x.2.1.length + 1) = _
      rw [evL_one hc2.1 (stE_no (by omega)), h1]
      have h31 : V2 31 (d + 1) = 1 := by rw [h3 31 (d + 1) (Nat.le_refl _), op31, up2_s]
      unfold ppF
      rw [popN_s V2 d _ h31]
      rfl
  · intro d p b e k f hT hW hd5 ih q E hr
    cases hr
  · intro d p b e k q E b2 e2 k2 hT hW hd5 ih hT2 hS2 q2 E2 hr V k3 hc hd
    cases hr
    have hc1 := CDs_hd hc
    have hc2 := CDs_sp hc1.2
    have e20 : opF (up2 V 31 (d + 1) 0) (d + 1) 20 = V 20 := by rw [opF_kp _ _ 20 (by decide), up2_o _ _ (by decide)]
    have e32 : opF (up2 V 31 (d + 1) 0) (d + 1) 32 = V 32 := by rw [opF_kp _ _ 32 (by decide), up2_o _ _ (by decide)]
    obtain ⟨V2, h1, h2, h3, _⟩ := ih q E rfl (opF (up2 V 31 (d + 1) 0) (d + 1)) (k3 + 1) (by rw [e20]; exact hc2.1) (by omega) (Or.inr (by rw [op31, up2_s]; decide)) ⟨fun _ => op30 _ _, fun _ => ⟨op27 _ _, op28 _ _⟩, fun _ => op26 _ _, fun _ => op24 _ _⟩
    rw [e32] at h3
    have h29 : V2 20 (k3 + 1 + E.1.length) = 29 := by rw [h2.1 20 (by decide), e20]; exact (CDs_hd hc2.2).1
    refine ⟨tsF V2 (d + 1), ?_, ((Kp.rf V).up _ (by decide)).tr ((opF_kp _ _).tr (h2.1.tr (tsF_kp _ _))), fun o i hi => by rw [tsi _ _ (by omega), h2.2.1 o i (by omega), opi _ _ (by omega), up2_k _ _ (by omega)]⟩
    show evL V d k3 ((E.1 ++ [29]).length + 1) = _
    rw [evL_one hc1.1 (stE_pa (by omega)), List.length_append, evL_app h1]
    show evL V2 (d + 1) (k3 + 1 + E.1.length) (0 + 1) = _
    rw [evL_one h29 stE_cl, ts23, h3.2.2.2 rfl]
    rfl
  · intro d p b e k q E b2 e2 k2 hT hW hd5 ih hT2 hS2 q2 E2 hr
    cases hr
  · intro d p r ih q E hr V k hc hd hnb hS
    obtain ⟨V2, h1, h2, h3⟩ := ih q E hr V k hc hd
    have hnb2 : nB V2 d := by
      rcases hnb with z | z
      · exact Or.inl z
      · exact Or.inr (by rw [h3 31 d (Nat.le_refl _)]; exact z)
    have z := h3
    refine ⟨_, by rw [h1]; unfold ppF; rw [popN_b hnb2], ⟨h2.up _ (by decide), fun o i hi => by rw [up2_k _ _ (by omega), h3 o i (by omega)], by rw [up2_a _ _ (by decide), h3 31 d (Nat.le_refl _)], fun _ => ⟨by rw [up2_a _ _ (by decide), h3 23 d (Nat.le_refl _)], by rw [up2_a _ _ (by decide), h3 24 d (Nat.le_refl _)]⟩, fun _ => ⟨by rw [up2_a _ _ (by decide), h3 25 d (Nat.le_refl _)], by rw [up2_a _ _ (by decide), h3 26 d (Nat.le_refl _)]⟩, fun _ => ⟨by rw [up2_a _ _ (by decide), h3 27 d (Nat.le_refl _)], by rw [up2_a _ _ (by decide), h3 28 d (Nat.le_refl _)]⟩, fun _ => by rw [up2_a _ _ (by decide), h3 30 d (Nat.le_refl _)]⟩, ⟨fun q => absurd q (by omega), fun q => absurd q (by omega), fun q => absurd q (by omega), fun q => absurd q (by omega)⟩, fun _ => ?_⟩
    rw [up2_s, h3 30 d (Nat.le_refl _), h3 29 d (Nat.le_refl _)]
  · intro l d p f hl ih q E hr
    cases hr
  · intro l d p q E r hl ih1 ih2 q2 E2 hr V k hc hd hnb hS
    obtain ⟨ext, hE, h2⟩ := ih2 q2 E2 hr
    rw [hE] at hc
    have hc2 := CDs_sp hc
    obtain ⟨V1, g1, g2, g3, g4⟩ := ih1 q E rfl V k hc2.1 hd hnb (Sx_up hS)
    have e32 : V1 32 = V 32 := g2.1 32 (by decide)
    have hnb1 : nB V1 d := by
      rcases hnb with z | z
      · exact Or.inl z
      · exact Or.inr (by rw [g2.2.2.1]; exact z)
    obtain ⟨V2, f1, f2, f3⟩ := h2 V1 (k + E.1.length) (by rw [g2.1 20 (by decide)]; exact hc2.2) hd hnb1 (fun q _ => by rw [(g2.2.2.2.2.1 (by omega)).2]; exact hS.2.2.1 (by omega)) (by rw [e32]; exact Cv_up hl hS g2 g3 g4)
    rw [e32] at f3
    exact ⟨V2, by rw [hE, List.length_append, evL_app g1]; exact f1, Kx_t (by omega) g2 f2, f3, fun q => absurd q (by omega)⟩
  · intro l d u p E b e k hl hT hst q E2 hr
    cases hr
    exact ⟨[], (List.append_nil _).symm, fun V k _ _ _ _ hC => ⟨V, rfl, Kx_r l V d, hC⟩⟩
  · intro l d u p E b e k op f hl hT hop hu ih q E2 hr
    cases hr
  · intro l d u p E b e k op q E2 r hl hT hop hu ih1 ih2 q3 E3 hr
    obtain ⟨ext, hE, h2⟩ := ih2 q3 E3 hr
    refine ⟨nI op :: (E2.1 ++ ext), by rw [hE]; show E.1 ++ (nI op :: E2.1) ++ ext = _; rw [List.append_assoc]; rfl, fun V k hc hd hnb h26 hC => ?_⟩
    have hc1 := CDs_hd hc
    have hc2 := CDs_sp hc1.2
    obtain ⟨V1, s1, s2, s3, s4⟩ := ev_op (d := d) (V := V) hop (fun z => h26 z (by cases u with | false => rfl | true => exact absurd ⟨rfl, z⟩ hu)) hC
    have hnb1 : nB V1 d := by
      rcases hnb with z | z
      · exact Or.inl z
      · exact Or.inr (by rw [s2.2.2.1]; exact z)
    obtain ⟨V2, g1, g2, g3, g4⟩ := ih1 q E2 rfl V1 (k + 1) (by rw [s2.1 20 (by decide)]; exact hc2.1) hd hnb1 s3
    have e32 : V1 32 = V 32 := s2.1 32 (by decide)
    have e322 : V2 32 = V 32 := (g2.1 32 (by decide)).trans e32
    have hnb2 : nB V2 d := by
      rcases hnb1 with z | z
      · exact Or.inl z
      · exact Or.inr (by rw [g2.2.2.1]; exact z)
    rw [e32] at g3 g4
    obtain ⟨V3, f1, f2, f3⟩ := h2 V2 (k + 1 + E2.1.length) (by rw [g2.1 20 (by decide), s2.1 20 (by decide)]; exact hc2.2) hd hnb2 (fun _ z => Bool.noConfusion z) (by rw [e322]; exact s4 V2 _ g2 g3 g4)
    rw [e322] at f3
    refine ⟨V3, ?_, Kx_t (Nat.le_refl l) s2 (Kx_t (by omega) g2 f2), f3⟩
    show evL V d k ((E2.1 ++ ext).length + 1) = _
    rw [evL_one hc1.1 s1, List.length_append]
    show evL V1 d (k + 1) (E2.1.length + ext.length) = _
    rw [evL_app g1]
    exact f1
/-- codes that were read stand for their value -/
theorem FW_of {T : ST} {n : Nat} {ice : Bool} {p q : Nat} {E : EX} (h : RLv T n ice 0 0 p (.inl (q, E))) {cs : ST} {f : Nat} (hc : CDs cs f E.1) : FW cs f E.1.length E.2.2 := by
  intro V hV
  have e20 : opF V 0 20 = V 20 := opF_kp V 0 20 (by decide)
  have e32 : opF V 0 32 = V 32 := opF_kp V 0 32 (by decide)
  obtain ⟨V2, h1, _, h3, _⟩ := h _ _ _ (ClR_e T n ice) q E rfl (opF V 0) f (by rw [e20, hV]; exact hc) (by omega) (Or.inl rfl) ⟨fun _ => op30 _ _, fun _ => ⟨op27 _ _, op28 _ _⟩, fun _ => op26 _ _, fun _ => op24 _ _⟩
  rw [e32] at h3
  exact ⟨V2, 0, h1, by rw [ts23]; exact h3.2.2.2 rfl⟩
