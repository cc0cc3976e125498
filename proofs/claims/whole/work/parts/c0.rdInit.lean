/-! ===== the class: the reader is made ===== -/
section T0
variable {G : GG} {σ : Hp} {r sA n tp : Nat} {T : ST}
def rd1 (σ : Hp) (r : Nat) : Hp := wQ (iaL (nw σ 2 0 17) (r + 1) lwL) r 0 (some (r + 1))
def rd2 (σ : Hp) (r : Nat) : Hp := wQ (nw (rd1 σ r) 21 8 8) r 2 (some (r + 12))
def rd3 (σ : Hp) (r : Nat) : Hp := wQ (nw (rd2 σ r) 21 6 6) r 3 (some (r + 13))
def rd4 (σ : Hp) (r sA n : Nat) : Hp := wQ (wI (wQ (nw (rd3 σ r) 7 0 9) (r + 14) 0 (some sA)) (r + 14) 1 (nI n)) r 1 (some (r + 14))
def rd5 (σ : Hp) (r sA n : Nat) : Hp := wQ (nw (rd4 σ r sA n) 20 n n) r 4 (some (r + 15))
theorem rd1_x (hx : zX σ = r + 1) : zX (rd1 σ r) = r + 12 ∧ zS (rd1 σ r) = zS σ + 99 := by
  have h := iaL_x (r + 1) lwL (nw σ 2 0 17)
  have e1 : zX (rd1 σ r) = zX (iaL (nw σ 2 0 17) (r + 1) lwL) := rfl
  have e2 : zS (rd1 σ r) = zS (iaL (nw σ 2 0 17) (r + 1) lwL) := rfl
  rw [e1, e2, h.1, h.2, zX_nw, zS_nw, hx, show lwL.length = 10 from rfl, show sumL lwL = 82 from rfl]
  exact ⟨by omega, by omega⟩
theorem rd2_x (hx : zX σ = r + 1) : zX (rd2 σ r) = r + 13 ∧ zS (rd2 σ r) = zS σ + 107 := by
  have h := rd1_x hx
  have e1 : zX (rd2 σ r) = zX (rd1 σ r) + 1 := rfl
  have e2 : zS (rd2 σ r) = zS (rd1 σ r) + 8 := rfl
  omega
theorem rd3_x (hx : zX σ = r + 1) : zX (rd3 σ r) = r + 14 ∧ zS (rd3 σ r) = zS σ + 113 := by
  have h := rd2_x hx
  have e1 : zX (rd3 σ r) = zX (rd2 σ r) + 1 := rfl
  have e2 : zS (rd3 σ r) = zS (rd2 σ r) + 6 := rfl
  omega
theorem rd4_x (hx : zX σ = r + 1) : zX (rd4 σ r sA n) = r + 15 ∧ zS (rd4 σ r sA n) = zS σ + 122 := by
  have h := rd3_x hx
  have e1 : zX (rd4 σ r sA n) = zX (rd3 σ r) + 1 := rfl
  have e2 : zS (rd4 σ r sA n) = zS (rd3 σ r) + 9 := rfl
  omega
theorem rd5_x (hx : zX σ = r + 1) : zX (rd5 σ r sA n) = r + 16 ∧ zS (rd5 σ r sA n) = zS σ + 122 + n := by
  have h := rd4_x (sA := sA) (n := n) hx
  have e1 : zX (rd5 σ r sA n) = zX (rd4 σ r sA n) + 1 := rfl
  have e2 : zS (rd5 σ r sA n) = zS (rd4 σ r sA n) + n := rfl
  omega
theorem rd1_g (hx : zX σ = r + 1) : Gw σ (rd1 σ r) r := ((Gw.nw σ r 2 0 17).tr2 (iaL_gw (r + 1) lwL _) (by omega)).tr (Gw.wQ _ r 0 _)
theorem rd2_g : Gw (rd1 σ r) (rd2 σ r) r := (Gw.nw _ r 21 8 8).tr (Gw.wQ _ r 2 _)
theorem rd3_g : Gw (rd2 σ r) (rd3 σ r) r := (Gw.nw _ r 21 6 6).tr (Gw.wQ _ r 3 _)
theorem tk_g (σ : Hp) (b q : Nat) (hq : zX σ ≤ q) (x : Option Nat) (y : Int32) : Gw σ (wI (wQ (nw σ 7 0 9) q 0 x) q 1 y) b := by
  have h := Gw.nw σ b 7 0 9
  refine ⟨h.1, h.2.1, fun p hp => ?_⟩
  obtain ⟨h1, h2, h3, h4, h5⟩ := h.2.2 p hp
  exact ⟨h1, h2, (zI_a _ _ (by omega)).trans h3, h4, fun z => (zQ_a _ _ (by omega)).trans (h5 z)⟩
theorem rd4_g (hx : zX σ = r + 1) : Gw (rd3 σ r) (rd4 σ r sA n) r := (tk_g (rd3 σ r) r (r + 14) (by rw [(rd3_x hx).1]; omega) _ _).tr (Gw.wQ _ r 1 _)
theorem rd5_g : Gw (rd4 σ r sA n) (rd5 σ r sA n) r := (Gw.nw _ r 20 n n).tr (Gw.wQ _ r 4 _)
theorem rd_k (hK : zK σ r = 5) (hx : zX σ = r + 1) : zK (rd1 σ r) r = 5 ∧ zK (rd2 σ r) r = 5 ∧ zK (rd3 σ r) r = 5 ∧ zK (rd4 σ r sA n) r = 5 ∧ zK (rd5 σ r sA n) r = 5 := by
  have a1 := ((rd1_g hx).2.2 r (by omega)).1.trans hK
  have a2 := (rd2_g.2.2 r (by rw [(rd1_x hx).1]; omega)).1.trans a1
  have a3 := (rd3_g.2.2 r (by rw [(rd2_x hx).1]; omega)).1.trans a2
  have a4 := ((rd4_g (sA := sA) (n := n) hx).2.2 r (by rw [(rd3_x hx).1]; omega)).1.trans a3
  have a5 := (rd5_g.2.2 r (by rw [(rd4_x hx).1]; omega)).1.trans a4
  exact ⟨a1, a2, a3, a4, a5⟩
theorem rd_lo (hx : zX σ = r + 1) : Gw σ (rd5 σ r sA n) r := (((((rd1_g hx).tr rd2_g).tr rd3_g).tr (rd4_g hx)).tr rd5_g)
set_option maxRecDepth 100000 in
theorem sk_init (hE : NE G) (hK : zK σ r = 5) (hx : zX σ = r + 1) (hP : zK σ tp = 6) (hPq : zQ σ tp 0 = some sA) (hSK : zK σ sA = 22) (hSN : zN σ sA = 1000) (hlen : zI σ tp 1 = nI n) (hn : n ≤ 1000) (htp : tp < r) (hsA : sA < r) (hc : r + 16 ≤ gC G) (hs : zS σ + 122 + n ≤ gS G) : Sp G mX5_init 2 [.ref r, .ref tp] σ (fun rv σ' => rv = none ∧ σ' = rd5 σ r sA n) := by
  have D := dat dl_X5_init
  have x1 := rd1_x hx
  have x2 := rd2_x hx
  have x3 := rd3_x hx
  have x4 := rd4_x (sA := sA) (n := n) hx
  have g3 : Gw σ (nw (rd3 σ r) 7 0 9) r := (((rd1_g hx).tr rd2_g).tr rd3_g).tr (Gw.nw _ r 7 0 9)
  have gt := g3.2.2 tp (by omega)
  have gs := g3.2.2 sA (by omega)
  have hT7 : zK (nw (rd3 σ r) 7 0 9) (r + 14) = 7 := by rw [zK_nw, x3.1]; exact va_sm _ _ _
  have hP7 := gt.1.trans hP
  have hPq7 : zQ (nw (rd3 σ r) 7 0 9) tp 0 = some sA := by rw [gt.2.2.2.2 (by omega)]; exact hPq
  have hSK7 := gs.1.trans hSK
  have hSN7 := gs.2.1.trans hSN
  have hl7 : zI (nw (rd3 σ r) 7 0 9) tp 1 = nI n := by rw [gt.2.2.1]; exact hlen
  have hq41 : zQ (rd4 σ r sA n) r 1 = some (r + 14) := up2_s _ _ _ _
  have hk414 : zK (rd4 σ r sA n) (r + 14) = 7 := hT7
  have h41 : zI (rd4 σ r sA n) (r + 14) 1 = nI n := zI_s _ _ _ _
  show HT G mX5_init 0 [some (.ref r), some (.ref tp)] [] σ 2 _
  refine ht_aload_n (D 0 rfl) rfl rfl ?_
  refine ht_objInit cl_X5_3 ob_inst ob_code (D 1 rfl) (by decide) (by omega) ?_
  refine ht_aload_n (D 2 rfl) rfl rfl ?_
  refine ht_new (ci := 2) (by decide) kk_X5_9 ki_X2 kn_X2 (D 3 rfl) (by omega) (by show zS σ + 17 ≤ gS G; omega) ?_
  show HT G mX5_init 8 _ (.ref (zX σ) :: _) (nw σ 2 0 17) 2 _
  rw [hx]
  refine ht_dup (D 4 rfl) rfl ?_
  refine kNX2_init (As := []) hE.X5_11 (D 5 rfl) (sc_linit (b := r + 1) (by rw [zK_nw, hx]; exact va_sm _ _ _) (by rw [zX_nw, hx]; omega) (by rw [zX_nw, hx]; omega) (by rw [zS_nw]; omega)) rfl (Nat.le_of_ble_eq_true rfl) rfl (Nat.le_of_ble_eq_true rfl) (by omega) ?_
  rintro _ _ ⟨rfl, rfl⟩
  refine pf_X5_12 (some (r + 1)) rfl rfl (D 6 rfl) (((iaL_gw (r + 1) lwL (nw σ 2 0 17)).2.2 r (by rw [zX_nw]; omega)).1.trans (nw_k hK (by omega) 2 0 17)) ?_
  show HT G mX5_init 15 _ _ (rd1 σ r) 2 _
  refine ht_aload_n (D 7 rfl) rfl rfl ?_
  refine ht_bipush (v := 8) (D 8 rfl) (by decide) ?_
  refine ht_newa (atype := .long) (k := 21) (N := 8) (by decide) (by decide) rfl ka_long (D 9 rfl) (by decide) (by decide) (by decide) (by omega) (by omega) ?_
  rw [(rd1_x hx).1]
  refine pf_X5_18 (some (r + 12)) rfl rfl (D 10 rfl) (nw_k (rd_k (sA := sA) (n := n) hK hx).1 (by rw [(rd1_x hx).1]; omega) 21 8 8) ?_
  show HT G mX5_init 23 _ _ (rd2 σ r) 2 _
  refine ht_aload_n (D 11 rfl) rfl rfl ?_
  refine ht_bipush (v := 6) (D 12 rfl) (by decide) ?_
  refine ht_newa (atype := .long) (k := 21) (N := 6) (by decide) (by decide) rfl ka_long (D 13 rfl) (by decide) (by decide) (by decide) (by omega) (by omega) ?_
  rw [(rd2_x hx).1]
  refine pf_X5_22 (some (r + 13)) rfl rfl (D 14 rfl) (nw_k (rd_k (sA := sA) (n := n) hK hx).2.1 (by rw [(rd2_x hx).1]; omega) 21 6 6) ?_
  show HT G mX5_init 31 _ _ (rd3 σ r) 2 _
  refine ht_aload_n (D 15 rfl) rfl rfl ?_
  refine ht_new (ci := 7) (by decide) kk_X5_25 ki_X7 kn_X7 (D 16 rfl) (by omega) (show zS (rd3 σ r) + 9 ≤ gS G by omega) ?_
  show HT G mX5_init 35 _ (.ref (zX (rd3 σ r)) :: _) (nw (rd3 σ r) 7 0 9) 2 _
  rw [(rd3_x hx).1]
  refine ht_dup (D 17 rfl) rfl ?_
  refine ht_aload_n (D 18 rfl) rfl rfl ?_
  refine kIX7_init (As := [_]) cl_X5_27 (D 19 rfl) (sc_tokInit (σ := nw (rd3 σ r) 7 0 9) (t := r + 14) (tp := tp) (sA := sA) (n := n) hT7 hP7 hPq7 hSK7 hSN7 hl7 hn (by omega)) rfl (Nat.le_of_ble_eq_true rfl) rfl (Nat.le_of_ble_eq_true rfl) (by omega) ?_
  rintro _ _ ⟨rfl, rfl⟩
  refine pf_X5_30 (some (r + 14)) rfl rfl (D 20 rfl) (nw_k (rd_k (sA := sA) (n := n) hK hx).2.2.1 (by rw [(rd3_x hx).1]; omega) 7 0 9) ?_
  show HT G mX5_init 43 _ _ (rd4 σ r sA n) 2 _
  refine ht_aload_n (D 21 rfl) rfl rfl ?_
  refine ht_aload_n (D 22 rfl) rfl rfl ?_
  refine gf_X5_30 rfl (D 23 rfl) ((rd_k (sA := sA) (n := n) hK hx).2.2.2.1) hq41 ?_
  refine gf_X5_34 rfl (D 24 rfl) hk414 ?_
  rw [h41]
  refine ht_newa (atype := .int) (k := 20) (N := n) (by decide) (by decide) rfl ka_int (D 25 rfl) (nI_pos (by omega)) (nI_clamp (by omega)) (by omega) (by omega) (by omega) ?_
  rw [(rd4_x hx).1]
  refine pf_X5_38 (some (r + 15)) rfl rfl (D 26 rfl) (nw_k (rd_k (sA := sA) (n := n) hK hx).2.2.2.1 (by rw [(rd4_x hx).1]; omega) 20 n n) ?_
  refine ht_vret (D 27 rfl) rfl ?_
  exact ⟨rfl, rfl⟩
theorem rd_CI (hK : zK σ r = 5) (hx : zX σ = r + 1) (hI0 : zI σ r = fun _ => 0) (hQ0 : zQ σ r = fun _ => none) (hSK : zK σ sA = 22) (hSN : zN σ sA = 1000) (hT : zI σ sA = T) (ho : ∀ i, i < n → okS (T i)) (hn : n ≤ 1000) (hsA : sA < r) : CI T n σ (zS σ + 122 + n) tdZ r sA (rd5 σ r sA n) := by
  have x1 := rd1_x hx
  have x2 := rd2_x hx
  have x3 := rd3_x hx
  have x4 := rd4_x (sA := sA) (n := n) hx
  have x5 := rd5_x (sA := sA) (n := n) hx
  have g5 : Gw σ (rd5 σ r sA n) r := rd_lo hx
  have g1 : Gw (iaL (nw σ 2 0 17) (r + 1) lwL) (rd5 σ r sA n) r := ((((Gw.wQ _ r 0 _).tr rd2_g).tr rd3_g).tr (rd4_g hx)).tr rd5_g
  have hx1 : zX (iaL (nw σ 2 0 17) (r + 1) lwL) = r + 12 := x1.1
  have g2 : Gw (nw (rd1 σ r) 21 8 8) (rd5 σ r sA n) r := (((Gw.wQ _ r 2 _).tr rd3_g).tr (rd4_g hx)).tr rd5_g
  have g3 : Gw (nw (rd2 σ r) 21 6 6) (rd5 σ r sA n) r := ((Gw.wQ _ r 3 _).tr (rd4_g hx)).tr rd5_g
  have g4 : Gw (wI (wQ (nw (rd3 σ r) 7 0 9) (r + 14) 0 (some sA)) (r + 14) 1 (nI n)) (rd5 σ r sA n) r := (Gw.wQ _ r 1 _).tr rd5_g
  have hx2 : zX (nw (rd1 σ r) 21 8 8) = r + 13 := by rw [zX_nw, x1.1]
  have hx3 : zX (nw (rd2 σ r) 21 6 6) = r + 14 := by rw [zX_nw, x2.1]
  have hx4 : zX (wI (wQ (nw (rd3 σ r) 7 0 9) (r + 14) 0 (some sA)) (r + 14) 1 (nI n)) = r + 15 := x4.1
  have lw : LwS (rd5 σ r sA n) (r + 1) := (lw_made (σ := nw σ 2 0 17) (b := r + 1) (by rw [zK_nw, hx]; exact va_sm _ _ _) (by rw [zX_nw, hx])).loc (fun p h1 h2 => ⟨(g1.2.2 p (by omega)).1, (g1.2.2 p (by omega)).2.1, (g1.2.2 p (by omega)).2.2.2.2 (by omega)⟩)
  have i12 := g2.2.2 (r + 12) (by omega)
  have i13 := g3.2.2 (r + 13) (by omega)
  have i14 := g4.2.2 (r + 14) (by omega)
  have n12 := nw_N (rd1 σ r) 21 8 8
  have n13 := nw_N (rd2 σ r) 21 6 6
  have n14 := nw_N (rd3 σ r) 7 0 9
  have n15 := nw_N (rd4 σ r sA n) 20 n n
  rw [x1.1] at n12
  rw [x2.1] at n13
  rw [x3.1] at n14
  rw [x4.1] at n15
  have j12 : zJ (nw (rd1 σ r) 21 8 8) (r + 12) = fun _ => 0 := by
    have h9 : zJ (nw (rd1 σ r) 21 8 8) (zX (rd1 σ r)) = fun _ => 0 := vaS _ _ _
    rw [x1.1] at h9; exact h9
  have j13 : zJ (nw (rd2 σ r) 21 6 6) (r + 13) = fun _ => 0 := by
    have h9 : zJ (nw (rd2 σ r) 21 6 6) (zX (rd2 σ r)) = fun _ => 0 := vaS _ _ _
    rw [x2.1] at h9; exact h9
  have z14 : zI (nw (rd3 σ r) 7 0 9) (r + 14) = fun _ => 0 := by
    have h9 : zI (nw (rd3 σ r) 7 0 9) (zX (rd3 σ r)) = fun _ => 0 := vaS _ _ _
    rw [x3.1] at h9; exact h9
  have zl : zI (rd5 σ r sA n) (r + 1) = fun _ => 0 := by
    rw [(g1.2.2 (r + 1) (by omega)).2.2.1, ((iaL_gw (r + 1) lwL (nw σ 2 0 17)).2.2 (r + 1) (by rw [zX_nw, hx]; omega)).2.2.1]
    have h9 : zI (nw σ 2 0 17) (zX σ) = fun _ => 0 := vaS _ _ _
    rw [hx] at h9; exact h9
  have za : ∀ k, k < 10 → zI (rd5 σ r sA n) (r + 1 + (k + 1)) = fun _ => 0 := by
    intro k hk
    have hl : lwL[k]? = some (lwL[k]'hk) := List.getElem?_eq_getElem hk
    have h9 := (iaL_at (r + 1) lwL (nw σ 2 0 17) (by rw [zX_nw, hx]; omega) rfl k _ hl).2.2.2.1
    rw [zX_nw, hx] at h9
    rw [(g1.2.2 (r + 1 + (k + 1)) (by omega)).2.2.1, show r + 1 + (k + 1) = r + 1 + 1 + k by omega]
    exact h9
  have lq : ∀ k, k = 5 ∨ k = 6 → zQ (rd5 σ r sA n) (r + 1) k = none := by
    intro k hk
    rw [(g1.2.2 (r + 1) (by omega)).2.2.2.2 (by omega), iaL_o (r + 1) lwL (nw σ 2 0 17) k (by rw [zX_nw, hx]; omega) (by rcases hk with rfl | rfl <;> decide)]
    have h9 : zQ (nw σ 2 0 17) (zX σ) = fun _ => none := vaS _ _ _
    rw [hx] at h9; rw [h9]
  have qn : ∀ (σ2 : Hp) (a b c k : Nat), r ≠ zX σ2 → zQ (nw σ2 a b c) r k = zQ σ2 r k := fun σ2 a b c k h => congrFun (vaU _ _ h) k
  have q5 : ∀ k, k ≠ 4 → zQ (rd5 σ r sA n) r k = zQ (rd4 σ r sA n) r k := fun k hk => (zQ_k _ _ hk).trans (qn _ _ _ _ _ (by omega))
  have q4 : ∀ k, k ≠ 1 → zQ (rd4 σ r sA n) r k = zQ (rd3 σ r) r k := fun k hk => (zQ_k _ _ hk).trans ((congrFun (zQ_a (nw (rd3 σ r) 7 0 9) (a := r + 14) (k := 0) (some sA) (by omega)) k).trans (qn _ _ _ _ _ (by omega)))
  have q3 : ∀ k, k ≠ 3 → zQ (rd3 σ r) r k = zQ (rd2 σ r) r k := fun k hk => (zQ_k _ _ hk).trans (qn _ _ _ _ _ (by omega))
  have q2 : ∀ k, k ≠ 2 → zQ (rd2 σ r) r k = zQ (rd1 σ r) r k := fun k hk => (zQ_k _ _ hk).trans (qn _ _ _ _ _ (by omega))
  have lo := fun {p : Nat} (hp : p < r) => g5.2.2 p (by omega)
  refine ⟨⟨(rd_k hK hx).2.2.2.2, ⟨?_, ?_, ?_, ?_, ?_⟩, ⟨i14.1.trans n14.1, ?_, (lo hsA).1.trans hSK, (lo hsA).2.1.trans hSN, ?_, hn, by omega⟩, ⟨n15.1, n15.2⟩, ⟨i12.1.trans n12.1, i12.2.1.trans n12.2⟩, ⟨i13.1.trans n13.1, i13.2.1.trans n13.2⟩, lw, Or.inl hsA⟩, ?_, ho, ?_, ⟨?_, ?_, fun o2 ho2 => ?_, ⟨?_, ?_⟩, ⟨fun i2 => ⟨fun _ => lq _ (fxI_n i2), fun E q => by cases q⟩, fun f f2 q => by rw [lq 5 (Or.inl rfl)] at q; cases q⟩⟩, fun a ha => ?_, ?_, ?_⟩
  · rw [q5 0 (by decide), q4 0 (by decide), q3 0 (by decide), q2 0 (by decide)]; exact zQ_s _ _ _ _
  · rw [q5 1 (by decide)]; exact zQ_s _ _ _ _
  · rw [q5 2 (by decide), q4 2 (by decide), q3 2 (by decide)]; exact zQ_s _ _ _ _
  · rw [q5 3 (by decide), q4 3 (by decide)]; exact zQ_s _ _ _ _
  · exact zQ_s _ _ _ _
  · rw [i14.2.2.2.2 (by omega)]; exact zQ_s _ _ _ _
  · rw [i14.2.2.1]; exact zI_s _ _ _ _
  · rw [(lo hsA).2.2.1]; exact hT
  · rw [i14.2.2.1, zI_k _ _ (by decide), zI_Q, z14]
  · rw [zl]; exact ⟨rfl, rfl, rfl, rfl, rfl⟩
  · rw [(g5.2.2 r (by omega)).2.2.1, hI0]; rfl
  · have h1 := lwB_r ho2
    rw [show lwB o2 = (lwB o2 - 1) + 1 by omega, za _ (by omega)]; rfl
  · rw [i12.2.2.2.1, j12]; rfl
  · rw [i13.2.2.2.1, j13]; rfl
  · have h1 := lo ha
    exact ⟨h1.1, h1.2.1, h1.2.2.1, h1.2.2.2.1, h1.2.2.2.2 (by omega)⟩
  · rw [x5.1]; rfl
  · rw [x5.2]; exact Nat.le_refl _
end T0
