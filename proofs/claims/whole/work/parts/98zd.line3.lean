theorem NMR_step {uc uc' um um' : mU} {vc vc' vm vm' : mV} {M nn : Nat} {nm : Nat → List Nat} {ss xx : Nat → Nat} (hM : 88 ≤ M) (h1 : cfT uc uc') (h2 : cfV vc vc') (h3 : mfT um um') (h4 : mfV vm vm') (h : NMR uc vc um vm M nn nm ss xx) : NMR uc' vc' um' vm' M nn nm ss xx := by
  unfold NMR at *
  rw [cfT_5 h1, cfT_q h1 (show 26 ≠ 1 by decide), cfV_q h2 (show 24 ≠ 1 by decide), mfT_q h3 (show M ≠ 75 by omega), mfT_q h3 (show M + 23 ≠ 75 by omega), mfT_q h3 (show M + 24 ≠ 75 by omega), mfV_q h4 (show M + 22 ≠ 75 by omega)]
  exact h
theorem NMR_wr {uc um : mU} {vc vm : mV} {M nn r i : Nat} {y : Int32} {nm : Nat → List Nat} {ss xx : Nat → Nat} (h1 : r ≠ 1) (h2 : r ≠ 26) (h : NMR uc vc um vm M nn nm ss xx) : NMR (wr uc r i y) vc um vm M nn nm ss xx := by
  unfold NMR at *
  rw [wr_role (fun z => h1 z.symm), wr_off (fun z => h2 z.symm)]
  exact h
section LI3
variable {T D m T2 D2 m2 M : Nat} {c3 c4 c3b : sF} {uc um : mU} {vc vm : mV} {L s k x nn : Nat} {l : List Nat} {N : Nat → Nat}
def mGift (g : qS) : Option qS := q_b2 (f_X12_readKnown g 75 3) fun v5 g4 => q_b2 (f_X12_readKnown g4 75 0) fun v7 g6 => q_b2 (f_X12_readKnown g6 75 1) fun v9 g8 => (g_R g8 75 11 4).bind fun v10 => (g_I g8 v10 10 0).bind fun v11 => q_b2 (f_X12_readWhole g8 75 0 (v11 - 1)) fun v13 g12 => (g_I g12 75 11 9).bind fun v14 => if v14 = 5 then (some g12) else ((g_R g12 75 11 4).bind fun v15 => (g_R g12 v15 10 23).bind fun v16 => (g_R g12 75 11 4).bind fun v17 => (g_I g12 v17 10 7).bind fun v18 => (s_I g12 v16 v18 v5).bind fun g19 => (g_R g19 75 11 4).bind fun v20 => (g_R g19 v20 10 24).bind fun v21 => (g_R g19 75 11 4).bind fun v22 => (g_I g19 v22 10 7).bind fun v23 => (s_I g19 v21 v23 v7).bind fun g24 => (g_R g24 75 11 4).bind fun v25 => (g_R g24 v25 10 25).bind fun v26 => (g_R g24 75 11 4).bind fun v27 => (g_I g24 v27 10 7).bind fun v28 => (s_I g24 v26 v28 v9).bind fun g29 => (g_R g29 75 11 4).bind fun v30 => (g_R g29 v30 10 26).bind fun v31 => (g_R g29 75 11 4).bind fun v32 => (g_I g29 v32 10 7).bind fun v33 => (s_I g29 v31 v33 v13).bind fun g34 => (g_R g34 75 11 4).bind fun v35 => (g_I g34 v35 10 7).bind fun v36 => (p_I g34 v35 10 7 (v36 + 1)).bind fun g37 => some g37)
theorem ln_gift (ho : okTD T D) (hMs : mSh (SH T2 D2 c3b (fR M) m2) M) (hM : 88 ≤ M) (h : TKR L uc vc um vm s k l x) (hJ : J1 uc um D M N) (hJ2 : J2 uc vc um vm M N) (hf : N 7 < 12) : LNE T D m c3 c4 T2 D2 m2 M c3b L s uc um (f_X6_readRest (Rep (SH T D c3 c4 m) uc vc) 1 7) (mGift (Rep (SH T2 D2 c3b (fR M) m2) um vm)) := by
  have hCt := SH_draft (c3 := c3) (c4 := c4) (m := m) ho
  have hD : D = 54 ∨ D = 3 := by rcases ho with ⟨rfl, rfl⟩ | ⟨rfl, rfl⟩ <;> simp
  obtain ⟨j0, j1, j2, j3, j4, j5, j6, j7, j8, j9, j10⟩ := hJ
  have b0 : N 0 ≤ 7 := (j0 0 (by decide)).2.2
  obtain ⟨nm, ss, xx, hN0, hxx⟩ := hJ2
  generalize hnn : N 2 + N 3 + N 4 + N 5 = nn at *
  have hn16 : nn ≤ 16 := hN0.2.2.1
  have hday : nI (N 0) - 1 = nI (N 0 - 1) := by rw [show (1 : Int32) = nI 1 from rfl, nI_dif (by omega)]
  have eC : f_X3_count (Rep (SH T D c3 c4 m) uc vc) D 7 = some (nI (N 7)) := cnt_D (c := 7) ho (by decide) (j0 7 (by decide)).1
  have fin : ∀ X, f_X6_readGift (Rep (SH T D c3 c4 m) uc vc) 1 = X → f_X6_readRest (Rep (SH T D c3 c4 m) uc vc) 1 7 = (q_b2 X fun v2 g1 => if v2 = 0 then (some (0, g1)) else (q_b2 (f_X6_addTo g1 1 7) fun v4 g3 => if v4 = 0 then (some (0, g3)) else (some (1, g3)))) := by
    intro X hX
    unfold f_X6_readRest
    rw [gC_1, Option.bind_some, if_neg (by decide), if_neg (by decide), if_neg (by decide), if_neg (by decide), if_neg (by decide), if_neg (by decide), if_pos rfl, hX]
  have hk1 := pr_known (T := T) (D := D) (m := m) (c3 := c3) (c4 := c4) (T2 := T2) (D2 := D2) (m2 := m2) (M := M) (c3b := c3b) (c := 3) hMs hM hN0 (by decide) h
  rw [show nI (3 + 2) = (5 : Int32) from rfl, show nI 3 = (3 : Int32) from rfl] at hk1
  rcases hk1 with ⟨a, u1, v1, w1, z1, e11, e12, e13, e14, ⟨q1, hq1, hs1, rfl, e15⟩, ⟨s1, k1, l1, x1, t1, ts1⟩, g1, g1v, g1m, g1w⟩ | ⟨a, u1, v1, w1, z1, e11, e12, e13, e14, e15⟩
  · have hb1 : xx q1 < N 5 := by have := hxx q1 hq1; rw [hs1] at this; exact this
    have hp1 := put_D (T := T) (D := D) (m := m) (c3 := c3) (c4 := c4) (uc := u1) (vc := v1) (i := N 7) (j := 0) hCt.2.2.2.2.2.1 (by decide) (by decide) hf (by decide) e15
    rw [nI_0] at hp1
    have tp1 : TKR L (wr u1 (D + 10) (N 7 * 4 + 0) (nI (xx q1))) v1 w1 z1 s1 k1 l1 x1 := TKR_c (wr_role (by omega)) (wr_role (by omega)) (wr_role (by omega)) (wr_role (by omega)) (wr_off (by omega)) rfl t1
    have hN1 : NMR (wr u1 (D + 10) (N 7 * 4 + 0) (nI (xx q1))) v1 w1 z1 M nn nm ss xx := NMR_wr (by omega) (by omega) (NMR_step hM g1 g1v g1m g1w hN0)
    have hk2 := pr_known (T := T) (D := D) (m := m) (c3 := c3) (c4 := c4) (T2 := T2) (D2 := D2) (m2 := m2) (M := M) (c3b := c3b) (c := 0) hMs hM hN1 (by decide) tp1
    rw [show nI (0 + 2) = (2 : Int32) from rfl, nI_0] at hk2
    rcases hk2 with ⟨a, u2, v2, w2, z2, e21, e22, e23, e24, ⟨q2, hq2, hs2, rfl, e25⟩, ⟨s2, k2, l2, x2, t2, ts2⟩, g2, g2v, g2m, g2w⟩ | ⟨a, u2, v2, w2, z2, e21, e22, e23, e24, e25⟩
    · have hb2 : xx q2 < N 2 := by have := hxx q2 hq2; rw [hs2] at this; exact this
      have hp2 := put_D (T := T) (D := D) (m := m) (c3 := c3) (c4 := c4) (uc := u2) (vc := v2) (i := N 7) (j := 1) hCt.2.2.2.2.2.1 (by decide) (by decide) hf (by decide) e25
      rw [show nI 1 = (1 : Int32) from rfl] at hp2
      have tp2 : TKR L (wr u2 (D + 10) (N 7 * 4 + 1) (nI (xx q2))) v2 w2 z2 s2 k2 l2 x2 := TKR_c (wr_role (by omega)) (wr_role (by omega)) (wr_role (by omega)) (wr_role (by omega)) (wr_off (by omega)) rfl t2
      have hN2 : NMR (wr u2 (D + 10) (N 7 * 4 + 1) (nI (xx q2))) v2 w2 z2 M nn nm ss xx := NMR_wr (by omega) (by omega) (NMR_step hM g2 g2v g2m g2w hN1)
      have hk3 := pr_known (T := T) (D := D) (m := m) (c3 := c3) (c4 := c4) (T2 := T2) (D2 := D2) (m2 := m2) (M := M) (c3b := c3b) (c := 1) hMs hM hN2 (by decide) tp2
      rw [show nI (1 + 2) = (3 : Int32) from rfl, show nI 1 = (1 : Int32) from rfl] at hk3
      rcases hk3 with ⟨a, u3, v3, w3, z3, e31, e32, e33, e34, ⟨q3, hq3, hs3, rfl, e35⟩, ⟨s3, k3, l3, x3, t3, ts3⟩, g3, g3v, g3m, g3w⟩ | ⟨a, u3, v3, w3, z3, e31, e32, e33, e34, e35⟩
      · have hb3 : xx q3 < N 3 := by have := hxx q3 hq3; rw [hs3] at this; exact this
        have hp3 := put_D (T := T) (D := D) (m := m) (c3 := c3) (c4 := c4) (uc := u3) (vc := v3) (i := N 7) (j := 2) hCt.2.2.2.2.2.1 (by decide) (by decide) hf (by decide) e35
        rw [show nI 2 = (2 : Int32) from rfl] at hp3
        have tp3 : TKR L (wr u3 (D + 10) (N 7 * 4 + 2) (nI (xx q3))) v3 w3 z3 s3 k3 l3 x3 := TKR_c (wr_role (by omega)) (wr_role (by omega)) (wr_role (by omega)) (wr_role (by omega)) (wr_off (by omega)) rfl t3
        have hN3 : NMR (wr u3 (D + 10) (N 7 * 4 + 2) (nI (xx q3))) v3 w3 z3 M nn nm ss xx := NMR_wr (by omega) (by omega) (NMR_step hM g3 g3v g3m g3w hN2)
        have e0 : (wr u3 (D + 10) (N 7 * 4 + 2) (nI (xx q3))) (D + 20) = uc (D + 20) := by rw [wr_off (by omega), cfT_q g3 (by omega), wr_off (by omega), cfT_q g2 (by omega), wr_off (by omega), cfT_q g1 (by omega)]
        have eC0 : f_X3_count (Rep (SH T D c3 c4 m) (wr u3 (D + 10) (N 7 * 4 + 2) (nI (xx q3))) v3) D 0 = some (nI (N 0)) := by
          have := cnt_D (T := T) (D := D) (m := m) (c3 := c3) (c4 := c4) (uc := wr u3 (D + 10) (N 7 * 4 + 2) (nI (xx q3))) (vc := v3) (c := 0) (n := N 0) ho (by decide) (by rw [e0]; exact (j0 0 (by decide)).1)
          rw [nI_0] at this; exact this
        have m0 : w3 M 0 = nI (N 0) := by rw [mfT_q g3m (by omega), mfT_q g2m (by omega), mfT_q g1m (by omega)]; exact (j0 0 (by decide)).2.1
        have hk4 := pr_whole (T := T) (D := D) (m := m) (c3 := c3) (c4 := c4) (T2 := T2) (D2 := D2) (m2 := m2) (M := M) (c3b := c3b) (lo := 0) (hi := N 0 - 1) (by decide) (by omega) tp3
        rw [nI_0] at hk4
        rcases hk4 with ⟨a, u4, v4, w4, z4, e41, e42, e43, e44, ⟨dy, -, hdy, rfl, e45⟩, ⟨s4, k4, l4, x4, t4, ts4⟩, g4, g4v, g4m, g4w⟩ | ⟨a, u4, v4, w4, z4, e41, e42, e43, e44, e45⟩
        · have hdy' : dy < N 0 := by omega
          have hp4 := put_D (T := T) (D := D) (m := m) (c3 := c3) (c4 := c4) (uc := u4) (vc := v4) (i := N 7) (j := 3) hCt.2.2.2.2.2.1 (by decide) (by decide) hf (by decide) e45
          rw [show nI 3 = (3 : Int32) from rfl] at hp4
          have cq : ∀ q, q ≠ 1 → q ≠ D + 10 → u4 q = uc q := fun q h1 h3 => by
            rw [cfT_q g4 h1, wr_off h3, cfT_q g3 h1, wr_off h3, cfT_q g2 h1, wr_off h3, cfT_q g1 h1]
          have c2 : u4 (D + 10) = upd (upd (upd (uc (D + 10)) (N 7 * 4 + 0) (nI (xx q1))) (N 7 * 4 + 1) (nI (xx q2))) (N 7 * 4 + 2) (nI (xx q3)) := by
            rw [cfT_q g4 (by omega), wr_arr, cfT_q g3 (by omega), wr_arr, cfT_q g2 (by omega), wr_arr, cfT_q g1 (by omega)]
          have c5 : u4 1 5 = uc 1 5 := by
            rw [cfT_5 g4, wr_role (by omega), cfT_5 g3, wr_role (by omega), cfT_5 g2, wr_role (by omega), cfT_5 g1]
          have cv : v4 24 = vc 24 := by rw [cfV_q g4v (by decide), cfV_q g3v (by decide), cfV_q g2v (by decide), cfV_q g1v (by decide)]
          have cad : f_X6_addTo (Rep (SH T D c3 c4 m) (wr u4 (D + 10) (N 7 * 4 + 3) (nI dy)) v4) 1 7 = some (1, Rep (SH T D c3 c4 m) (wr (wr u4 (D + 10) (N 7 * 4 + 3) (nI dy)) (D + 20) 7 (nI (N 7 + 1))) v4) := add_D (c := 7) ho (by decide) (by rw [wr_role (by omega), cq _ (by omega) (by omega)]; exact (j0 7 (by decide)).1)
          have mq : ∀ q, q ≠ 75 → w4 q = um q := fun q h1 => by rw [mfT_q g4m h1, mfT_q g3m h1, mfT_q g2m h1, mfT_q g1m h1]
          have mv : z4 (M + 22) = vm (M + 22) := by rw [mfV_q g4w (by omega), mfV_q g3w (by omega), mfV_q g2w (by omega), mfV_q g1w (by omega)]
          have ma0 : w4 M 7 = nI (N 7) := by rw [mq M (by omega)]; exact (j0 7 (by decide)).2.1
          have n9 : ¬ w4 75 9 = 5 := by
            obtain ⟨-, -, -, -, -, hk5, -, -, e, -, -, -, -, hMt⟩ := t4
            rw [hMt.1]; exact mkK_ne hk5
          have ma1 : (wr (w4) (M + 13) (N 7) (nI (xx q1))) M 7 = nI (N 7) := by rw [wr_role (by omega), ma0]
          have ma2 : (wr (wr (w4) (M + 13) (N 7) (nI (xx q1))) (M + 14) (N 7) (nI (xx q2))) M 7 = nI (N 7) := by rw [wr_role (by omega), ma1]
          have ma3 : (wr (wr (wr (w4) (M + 13) (N 7) (nI (xx q1))) (M + 14) (N 7) (nI (xx q2))) (M + 15) (N 7) (nI (xx q3))) M 7 = nI (N 7) := by rw [wr_role (by omega), ma2]
          have ma4 : (wr (wr (wr (wr (w4) (M + 13) (N 7) (nI (xx q1))) (M + 14) (N 7) (nI (xx q2))) (M + 15) (N 7) (nI (xx q3))) (M + 16) (N 7) (nI dy)) M 7 = nI (N 7) := by rw [wr_role (by omega), ma3]
          refine Or.inl ⟨wr (wr u4 (D + 10) (N 7 * 4 + 3) (nI dy)) (D + 20) 7 (nI (N 7 + 1)), v4, wr (wr (wr (wr (wr (w4) (M + 13) (N 7) (nI (xx q1))) (M + 14) (N 7) (nI (xx q2))) (M + 15) (N 7) (nI (xx q3))) (M + 16) (N 7) (nI dy)) M 7 (nI (N 7 + 1)), z4, ?_, ?_, ?_, ?_, ⟨?_, ?_⟩, ⟨s4, k4, l4, x4, ?_, by omega⟩, updN N 7 (N 7 + 1), ?_, ?_⟩
          · rw [fin _ rfl]
            unfold f_X6_readGift
            rw [gC_1, Option.bind_some, gR_1_2, Option.bind_some, eC, Option.bind_some, e11, q_b2_some, if_neg (by decide), gR_1_2, Option.bind_some, cR_4 hCt, Option.bind_some, hp1, q_b2_some, if_neg (by decide), e21, q_b2_some, if_neg (by decide), gR_1_2, Option.bind_some, cR_4 hCt, Option.bind_some, hp2, q_b2_some, if_neg (by decide), e31, q_b2_some, if_neg (by decide), gR_1_2, Option.bind_some, cR_4 hCt, Option.bind_some, hp3, q_b2_some, if_neg (by decide), gR_1_2, Option.bind_some, eC0, Option.bind_some, hday, e41, q_b2_some, if_neg (by decide), gR_1_2, Option.bind_some, cR_4 hCt, Option.bind_some, hp4, q_b2_some, if_neg (by decide), q_b2_some, if_neg (by decide), cad, q_b2_some, if_neg (by decide)]
          · unfold mGift
            rw [e12, q_b2_some, e22, q_b2_some, e32, q_b2_some, gR_75_4, Option.bind_some, mI_0 hMs, Option.bind_some, m0, hday, e42, q_b2_some, gI_75_9, Option.bind_some, if_neg n9, gR_75_4, Option.bind_some, mR_23 hMs, Option.bind_some, Option.bind_some, mI_7 hMs, Option.bind_some, ma0, ms_13 hMs hf, Option.bind_some, gR_75_4, Option.bind_some, mR_24 hMs, Option.bind_some, Option.bind_some, mI_7 hMs, Option.bind_some, ma1, ms_14 hMs hf, Option.bind_some, gR_75_4, Option.bind_some, mR_25 hMs, Option.bind_some, Option.bind_some, mI_7 hMs, Option.bind_some, ma2, ms_15 hMs hf, Option.bind_some, gR_75_4, Option.bind_some, mR_26 hMs, Option.bind_some, Option.bind_some, mI_7 hMs, Option.bind_some, ma3, ms_16 hMs hf, Option.bind_some, gR_75_4, Option.bind_some, mI_7 hMs, Option.bind_some, ma4, nI_1, mW_7 hMs, Option.bind_some]
          · exact rdC_wr (rdC_wr (rdC_trans (rdC_wr (rdC_trans (rdC_wr (rdC_trans (rdC_wr (rdC_trans (rdC_refl) (rdC_T g1)) (by omega)) (rdC_T g2)) (by omega)) (rdC_T g3)) (by omega)) (rdC_T g4)) (by omega)) (by omega)
          · exact rdM_wr (rdM_wr (rdM_wr (rdM_wr (rdM_wr (rdM_trans (rdM_trans (rdM_trans (rdM_trans (rdM_refl) (rdM_T g1m)) (rdM_T g2m)) (rdM_T g3m)) (rdM_T g4m)) (by omega)) (by omega)) (by omega)) (by omega)) (by omega)
          · rw [wr_role (by omega), wr_role (by omega), cfT_13 g4, wr_role (by omega), cfT_13 g3, wr_role (by omega), cfT_13 g2, wr_role (by omega), cfT_13 g1]
          · rw [wr_role (by omega), wr_role (by omega), wr_role (by omega), wr_role (by omega), wr_role (by omega), mfT_12 g4m, mfT_12 g3m, mfT_12 g2m, mfT_12 g1m]
          · refine TKR_c (uc := u4) ?_ ?_ ?_ ?_ ?_ rfl (TKR_m (um := w4) ?_ ?_ rfl t4)
            · rw [wr_role (by omega), wr_role (by omega)]
            · rw [wr_role (by omega), wr_role (by omega)]
            · rw [wr_role (by omega), wr_role (by omega)]
            · rw [wr_role (by omega), wr_role (by omega)]
            · rw [wr_off (by omega), wr_off (by omega)]
            · rw [wr_off (by omega), wr_off (by omega), wr_off (by omega), wr_off (by omega), wr_off (by omega)]
            · rw [wr_off (by omega), wr_off (by omega), wr_off (by omega), wr_off (by omega), wr_off (by omega)]
          · have hoff : ∀ q, q ≠ 1 → q ≠ D + 10 → q ≠ D + 20 → (wr (wr u4 (D + 10) (N 7 * 4 + 3) (nI dy)) (D + 20) 7 (nI (N 7 + 1))) q = uc q := fun q h1 h3 h4 => by rw [wr_off h4, wr_off h3, cq q h1 h3]
            have hom : ∀ q, q ≠ 75 → q ≠ M → q ≠ M + 13 → q ≠ M + 14 → q ≠ M + 15 → q ≠ M + 16 → (wr (wr (wr (wr (wr (w4) (M + 13) (N 7) (nI (xx q1))) (M + 14) (N 7) (nI (xx q2))) (M + 15) (N 7) (nI (xx q3))) (M + 16) (N 7) (nI dy)) M 7 (nI (N 7 + 1))) q = um q := fun q h0 h1 h2 h3 h4 h5 => by
              rw [wr_off h1, wr_off h5, wr_off h4, wr_off h3, wr_off h2, mq q h0]
            have hn : ∀ q, q ≠ 7 → updN N 7 (N 7 + 1) q = N q := fun q hq => by rw [updN_at, if_neg hq]
            have hn2 : updN N 7 (N 7 + 1) 7 = N 7 + 1 := if_pos rfl
            have kc : (wr (wr u4 (D + 10) (N 7 * 4 + 3) (nI dy)) (D + 20) 7 (nI (N 7 + 1))) (D + 10) = upd (upd (upd (upd (uc (D + 10)) (N 7 * 4 + 0) (nI (xx q1))) (N 7 * 4 + 1) (nI (xx q2))) (N 7 * 4 + 2) (nI (xx q3))) (N 7 * 4 + 3) (nI dy) := by rw [wr_off (by omega), wr_arr, c2]
            have km0 : (wr (wr (wr (wr (wr (w4) (M + 13) (N 7) (nI (xx q1))) (M + 14) (N 7) (nI (xx q2))) (M + 15) (N 7) (nI (xx q3))) (M + 16) (N 7) (nI dy)) M 7 (nI (N 7 + 1))) (M + 13) = upd (um (M + 13)) (N 7) (nI (xx q1)) := by
              rw [wr_off (by omega), wr_off (by omega), wr_off (by omega), wr_off (by omega), wr_arr, mq _ (by omega)]
            have km1 : (wr (wr (wr (wr (wr (w4) (M + 13) (N 7) (nI (xx q1))) (M + 14) (N 7) (nI (xx q2))) (M + 15) (N 7) (nI (xx q3))) (M + 16) (N 7) (nI dy)) M 7 (nI (N 7 + 1))) (M + 14) = upd (um (M + 14)) (N 7) (nI (xx q2)) := by
              rw [wr_off (by omega), wr_off (by omega), wr_off (by omega), wr_arr, wr_off (by omega), mq _ (by omega)]
            have km2 : (wr (wr (wr (wr (wr (w4) (M + 13) (N 7) (nI (xx q1))) (M + 14) (N 7) (nI (xx q2))) (M + 15) (N 7) (nI (xx q3))) (M + 16) (N 7) (nI dy)) M 7 (nI (N 7 + 1))) (M + 15) = upd (um (M + 15)) (N 7) (nI (xx q3)) := by
              rw [wr_off (by omega), wr_off (by omega), wr_arr, wr_off (by omega), wr_off (by omega), mq _ (by omega)]
            have km3 : (wr (wr (wr (wr (wr (w4) (M + 13) (N 7) (nI (xx q1))) (M + 14) (N 7) (nI (xx q2))) (M + 15) (N 7) (nI (xx q3))) (M + 16) (N 7) (nI dy)) M 7 (nI (N 7 + 1))) (M + 16) = upd (um (M + 16)) (N 7) (nI dy) := by
              rw [wr_off (by omega), wr_arr, wr_off (by omega), wr_off (by omega), wr_off (by omega), mq _ (by omega)]
            refine ⟨ad_Cnt (by decide) (show N 7 + 1 ≤ 12 by omega) ?_ ?_ j0, cg_Thing (hoff _ (by omega) (by omega) (by omega)) (hom _ (by omega) (by omega) (by omega) (by omega) (by omega) (by omega)) (hom _ (by omega) (by omega) (by omega) (by omega) (by omega) (by omega)) (hn 2 (by decide)) j1, cg_Pers (hoff _ (by omega) (by omega) (by omega)) (hom _ (by omega) (by omega) (by omega) (by omega) (by omega) (by omega)) (hom _ (by omega) (by omega) (by omega) (by omega) (by omega) (by omega)) (hom _ (by omega) (by omega) (by omega) (by omega) (by omega) (by omega)) (hn 3 (by decide)) j2, cg_Tram (hoff _ (by omega) (by omega) (by omega)) (hom _ (by omega) (by omega) (by omega) (by omega) (by omega) (by omega)) (hom _ (by omega) (by omega) (by omega) (by omega) (by omega) (by omega)) (hn 4 (by decide)) j3, cg_Givr (hoff _ (by omega) (by omega) (by omega)) (hom _ (by omega) (by omega) (by omega) (by omega) (by omega) (by omega)) (hn 5 (by decide)) j4, cg_Ride (hoff _ (by omega) (by omega) (by omega)) (hom _ (by omega) (by omega) (by omega) (by omega) (by omega) (by omega)) (updN_le 4) j5, cg_Take (hoff _ (by omega) (by omega) (by omega)) (hom _ (by omega) (by omega) (by omega) (by omega) (by omega) (by omega)) (updN_le 4) j6, ?_, cg_Fnd (hoff _ (by omega) (by omega) (by omega)) (hom _ (by omega) (by omega) (by omega) (by omega) (by omega) (by omega)) (hom _ (by omega) (by omega) (by omega) (by omega) (by omega) (by omega)) (hn 8 (by decide)) updN_le j8, cg_Exam (hoff _ (by omega) (by omega) (by omega)) (hom _ (by omega) (by omega) (by omega) (by omega) (by omega) (by omega)) (hom _ (by omega) (by omega) (by omega) (by omega) (by omega) (by omega)) (hom _ (by omega) (by omega) (by omega) (by omega) (by omega) (by omega)) (hom _ (by omega) (by omega) (by omega) (by omega) (by omega) (by omega)) (hom _ (by omega) (by omega) (by omega) (by omega) (by omega) (by omega)) (hn 9 (by decide)) updN_le j9, ?_⟩
            · rw [wr_arr, wr_off (by omega), cq _ (by omega) (by omega)]
            · intro q hq
              by_cases e : q = 7
              · subst e; rw [wr_same, if_pos rfl]
              · rw [wr_ix e, wr_role (by omega), wr_role (by omega), wr_role (by omega), wr_role (by omega), if_neg e, mq _ (by omega)]
            · unfold r2Gift
              rw [kc, km0, km1, km2, km3, hn2, hn 5 (by decide), hn 2 (by decide), hn 3 (by decide), hn 0 (by decide)]
              intro t ht
              simp -implicitDefEqProofs only [upd_at]
              by_cases e : t = N 7
              · subst e
                simp -implicitDefEqProofs only [show ¬ N 7 * 4 + 0 = N 7 * 4 + 1 from by omega, show ¬ N 7 * 4 + 0 = N 7 * 4 + 2 from by omega, show ¬ N 7 * 4 + 0 = N 7 * 4 + 3 from by omega, show ¬ N 7 * 4 + 1 = N 7 * 4 + 0 from by omega, show ¬ N 7 * 4 + 1 = N 7 * 4 + 2 from by omega, show ¬ N 7 * 4 + 1 = N 7 * 4 + 3 from by omega, show ¬ N 7 * 4 + 2 = N 7 * 4 + 0 from by omega, show ¬ N 7 * 4 + 2 = N 7 * 4 + 1 from by omega, show ¬ N 7 * 4 + 2 = N 7 * 4 + 3 from by omega, show ¬ N 7 * 4 + 3 = N 7 * 4 + 0 from by omega, show ¬ N 7 * 4 + 3 = N 7 * 4 + 1 from by omega, show ¬ N 7 * 4 + 3 = N 7 * 4 + 2 from by omega, if_true, if_false]
                exact ⟨⟨(xx q1), hb1, rfl⟩, ⟨(xx q2), hb2, rfl⟩, ⟨(xx q3), hb3, rfl⟩, ⟨dy, hdy', rfl⟩, trivial, trivial, trivial, trivial⟩
              · obtain ho1 := j7 t (by omega)
                simp -implicitDefEqProofs only [show ¬ t * 4 + 0 = N 7 * 4 + 0 from by omega, show ¬ t * 4 + 0 = N 7 * 4 + 1 from by omega, show ¬ t * 4 + 0 = N 7 * 4 + 2 from by omega, show ¬ t * 4 + 0 = N 7 * 4 + 3 from by omega, show ¬ t * 4 + 1 = N 7 * 4 + 0 from by omega, show ¬ t * 4 + 1 = N 7 * 4 + 1 from by omega, show ¬ t * 4 + 1 = N 7 * 4 + 2 from by omega, show ¬ t * 4 + 1 = N 7 * 4 + 3 from by omega, show ¬ t * 4 + 2 = N 7 * 4 + 0 from by omega, show ¬ t * 4 + 2 = N 7 * 4 + 1 from by omega, show ¬ t * 4 + 2 = N 7 * 4 + 2 from by omega, show ¬ t * 4 + 2 = N 7 * 4 + 3 from by omega, show ¬ t * 4 + 3 = N 7 * 4 + 0 from by omega, show ¬ t * 4 + 3 = N 7 * 4 + 1 from by omega, show ¬ t * 4 + 3 = N 7 * 4 + 2 from by omega, show ¬ t * 4 + 3 = N 7 * 4 + 3 from by omega, e, if_false]
                exact ho1
            · rw [hn 0 (by decide)]; exact j10
          · refine J2_keep (uc := uc) (vc := vc) (um := um) (vm := vm) (N := N) ?_ ?_ ?_ ?_ ?_ cv mv ⟨if_neg (by decide), if_neg (by decide), if_neg (by decide), if_neg (by decide)⟩ ⟨nm, ss, xx, by rw [hnn]; exact hN0, by rw [hnn]; exact hxx⟩
            · rw [wr_role (by omega), wr_role (by omega), c5]
            · rw [wr_off (by omega), wr_off (by omega), cq _ (by omega) (by omega)]
            · rw [wr_ix (by decide), wr_role (by omega), wr_role (by omega), wr_role (by omega), wr_role (by omega), mq _ (by omega)]
            · rw [wr_off (by omega), wr_off (by omega), wr_off (by omega), wr_off (by omega), wr_off (by omega), mq _ (by omega)]
            · rw [wr_off (by omega), wr_off (by omega), wr_off (by omega), wr_off (by omega), wr_off (by omega), mq _ (by omega)]
        · have e5' := e45
          obtain ⟨dn, ds, -, -, -, -, -, -, h5⟩ := e5'
          refine Or.inr ⟨u4, v4, w4, z4, ?_, ?_, ?_, ?_, e45⟩
          · rw [fin _ rfl]
            unfold f_X6_readGift
            rw [gC_1, Option.bind_some, gR_1_2, Option.bind_some, eC, Option.bind_some, e11, q_b2_some, if_neg (by decide), gR_1_2, Option.bind_some, cR_4 hCt, Option.bind_some, hp1, q_b2_some, if_neg (by decide), e21, q_b2_some, if_neg (by decide), gR_1_2, Option.bind_some, cR_4 hCt, Option.bind_some, hp2, q_b2_some, if_neg (by decide), e31, q_b2_some, if_neg (by decide), gR_1_2, Option.bind_some, cR_4 hCt, Option.bind_some, hp3, q_b2_some, if_neg (by decide), gR_1_2, Option.bind_some, eC0, Option.bind_some, hday, e41, q_b2_some, if_pos rfl, q_b2_some, if_pos rfl]
          · unfold mGift
            rw [e12, q_b2_some, e22, q_b2_some, e32, q_b2_some, gR_75_4, Option.bind_some, mI_0 hMs, Option.bind_some, m0, hday, e42, q_b2_some, gI_75_9, Option.bind_some, if_pos h5]
          · exact rdC_trans (rdC_wr (rdC_trans (rdC_wr (rdC_trans (rdC_wr (rdC_trans (rdC_refl) (rdC_T g1)) (by omega)) (rdC_T g2)) (by omega)) (rdC_T g3)) (by omega)) e43
          · exact rdM_trans (rdM_trans (rdM_trans (rdM_trans (rdM_refl) (rdM_T g1m)) (rdM_T g2m)) (rdM_T g3m)) (rdM_F e44)
      · have e5' := e35
        obtain ⟨dn, ds, -, -, -, -, -, -, h5⟩ := e5'
        have hd : w3 M 10 = nI nn := by rw [e34 M 10 (by omega)]; exact hN2.2.1
        refine Or.inr ⟨u3, v3, w3, z3, ?_, ?_, ?_, ?_, e35⟩
        · rw [fin _ rfl]
          unfold f_X6_readGift
          rw [gC_1, Option.bind_some, gR_1_2, Option.bind_some, eC, Option.bind_some, e11, q_b2_some, if_neg (by decide), gR_1_2, Option.bind_some, cR_4 hCt, Option.bind_some, hp1, q_b2_some, if_neg (by decide), e21, q_b2_some, if_neg (by decide), gR_1_2, Option.bind_some, cR_4 hCt, Option.bind_some, hp2, q_b2_some, if_neg (by decide), e31, q_b2_some, if_pos rfl, q_b2_some, if_pos rfl]
        · unfold mGift
          rw [e12, q_b2_some, e22, q_b2_some, e32, q_b2_some, gR_75_4, Option.bind_some, mI_0 hMs, Option.bind_some, whole_dead h5, q_b2_some, gI_75_9, Option.bind_some, if_pos h5]
        · exact rdC_trans (rdC_wr (rdC_trans (rdC_wr (rdC_trans (rdC_refl) (rdC_T g1)) (by omega)) (rdC_T g2)) (by omega)) e33
        · exact rdM_trans (rdM_trans (rdM_trans (rdM_refl) (rdM_T g1m)) (rdM_T g2m)) (rdM_F e34)
    · have e5' := e25
      obtain ⟨dn, ds, -, -, -, -, -, -, h5⟩ := e5'
      have hd : w2 M 10 = nI nn := by rw [e24 M 10 (by omega)]; exact hN1.2.1
      refine Or.inr ⟨u2, v2, w2, z2, ?_, ?_, ?_, ?_, e25⟩
      · rw [fin _ rfl]
        unfold f_X6_readGift
        rw [gC_1, Option.bind_some, gR_1_2, Option.bind_some, eC, Option.bind_some, e11, q_b2_some, if_neg (by decide), gR_1_2, Option.bind_some, cR_4 hCt, Option.bind_some, hp1, q_b2_some, if_neg (by decide), e21, q_b2_some, if_pos rfl, q_b2_some, if_pos rfl]
      · unfold mGift
        rw [e12, q_b2_some, e22, q_b2_some, rknown_dead hMs hd hn16 h5, q_b2_some, gR_75_4, Option.bind_some, mI_0 hMs, Option.bind_some, whole_dead h5, q_b2_some, gI_75_9, Option.bind_some, if_pos h5]
      · exact rdC_trans (rdC_wr (rdC_trans (rdC_refl) (rdC_T g1)) (by omega)) e23
      · exact rdM_trans (rdM_trans (rdM_refl) (rdM_T g1m)) (rdM_F e24)
  · have e5' := e15
    obtain ⟨dn, ds, -, -, -, -, -, -, h5⟩ := e5'
    have hd : w1 M 10 = nI nn := by rw [e14 M 10 (by omega)]; exact hN0.2.1
    refine Or.inr ⟨u1, v1, w1, z1, ?_, ?_, ?_, ?_, e15⟩
    · rw [fin _ rfl]
      unfold f_X6_readGift
      rw [gC_1, Option.bind_some, gR_1_2, Option.bind_some, eC, Option.bind_some, e11, q_b2_some, if_pos rfl, q_b2_some, if_pos rfl]
    · unfold mGift
      rw [e12, q_b2_some, rknown_dead hMs hd hn16 h5, q_b2_some, rknown_dead hMs hd hn16 h5, q_b2_some, gR_75_4, Option.bind_some, mI_0 hMs, Option.bind_some, whole_dead h5, q_b2_some, gI_75_9, Option.bind_some, if_pos h5]
    · exact rdC_trans (rdC_refl) e13
    · exact rdM_trans (rdM_refl) (rdM_F e14)
def mExam (g : qS) : Option qS := q_b2 (f_X12_readKnown g 75 3) fun v5 g4 => q_b2 (f_X12_readKnown g4 75 0) fun v7 g6 => q_b2 (f_X12_readKnown g6 75 1) fun v9 g8 => q_b2 (f_X12_readKnown g8 75 2) fun v11 g10 => (f_X12_isWord g10 75 54).bind fun v12 => if v12 = 0 then ((f_X12_isWord g10 75 55).bind fun v13 => if v13 = 0 then ((f_X12_flaw g10 75 1).bind fun g14 => J_X12_readExam_67 75 v5 v7 v9 v11 v12 g14) else (J_X12_readExam_67 75 v5 v7 v9 v11 v12 g10)) else (J_X12_readExam_67 75 v5 v7 v9 v11 v12 g10)
theorem ln_exam (ho : okTD T D) (hMs : mSh (SH T2 D2 c3b (fR M) m2) M) (hM : 88 ≤ M) (h : TKR L uc vc um vm s k l x) (hJ : J1 uc um D M N) (hJ2 : J2 uc vc um vm M N) (hf : N 9 < 8) : LNE T D m c3 c4 T2 D2 m2 M c3b L s uc um (f_X6_readRest (Rep (SH T D c3 c4 m) uc vc) 1 9) (mExam (Rep (SH T2 D2 c3b (fR M) m2) um vm)) := by
  have hCt := SH_draft (c3 := c3) (c4 := c4) (m := m) ho
  have hD : D = 54 ∨ D = 3 := by rcases ho with ⟨rfl, rfl⟩ | ⟨rfl, rfl⟩ <;> simp
  obtain ⟨j0, j1, j2, j3, j4, j5, j6, j7, j8, j9, j10⟩ := hJ
  have b0 : N 0 ≤ 7 := (j0 0 (by decide)).2.2
  obtain ⟨nm, ss, xx, hN0, hxx⟩ := hJ2
  generalize hnn : N 2 + N 3 + N 4 + N 5 = nn at *
  have hn16 : nn ≤ 16 := hN0.2.2.1
  have hday : nI (N 0) - 1 = nI (N 0 - 1) := by rw [show (1 : Int32) = nI 1 from rfl, nI_dif (by omega)]
  have eC : f_X3_count (Rep (SH T D c3 c4 m) uc vc) D 9 = some (nI (N 9)) := cnt_D (c := 9) ho (by decide) (j0 9 (by decide)).1
  have fin : ∀ X, f_X6_readExam (Rep (SH T D c3 c4 m) uc vc) 1 = X → f_X6_readRest (Rep (SH T D c3 c4 m) uc vc) 1 9 = (q_b2 X fun v2 g1 => if v2 = 0 then (some (0, g1)) else (q_b2 (f_X6_addTo g1 1 9) fun v4 g3 => if v4 = 0 then (some (0, g3)) else (some (1, g3)))) := by
    intro X hX
    unfold f_X6_readRest
    rw [gC_1, Option.bind_some, if_neg (by decide), if_neg (by decide), if_neg (by decide), if_neg (by decide), if_neg (by decide), if_neg (by decide), if_neg (by decide), if_neg (by decide), hX]
  have hk1 := pr_known (T := T) (D := D) (m := m) (c3 := c3) (c4 := c4) (T2 := T2) (D2 := D2) (m2 := m2) (M := M) (c3b := c3b) (c := 3) hMs hM hN0 (by decide) h
  rw [show nI (3 + 2) = (5 : Int32) from rfl, show nI 3 = (3 : Int32) from rfl] at hk1
  rcases hk1 with ⟨a, u1, v1, w1, z1, e11, e12, e13, e14, ⟨q1, hq1, hs1, rfl, e15⟩, ⟨s1, k1, l1, x1, t1, ts1⟩, g1, g1v, g1m, g1w⟩ | ⟨a, u1, v1, w1, z1, e11, e12, e13, e14, e15⟩
  · have hb1 : xx q1 < N 5 := by have := hxx q1 hq1; rw [hs1] at this; exact this
    have hp1 := put_D (T := T) (D := D) (m := m) (c3 := c3) (c4 := c4) (uc := u1) (vc := v1) (i := N 9) (j := 0) hCt.2.2.2.2.2.2.2.1 (by decide) (by decide) hf (by decide) e15
    rw [nI_0] at hp1
    have tp1 : TKR L (wr u1 (D + 14) (N 9 * 5 + 0) (nI (xx q1))) v1 w1 z1 s1 k1 l1 x1 := TKR_c (wr_role (by omega)) (wr_role (by omega)) (wr_role (by omega)) (wr_role (by omega)) (wr_off (by omega)) rfl t1
    have hN1 : NMR (wr u1 (D + 14) (N 9 * 5 + 0) (nI (xx q1))) v1 w1 z1 M nn nm ss xx := NMR_wr (by omega) (by omega) (NMR_step hM g1 g1v g1m g1w hN0)
    have hk2 := pr_known (T := T) (D := D) (m := m) (c3 := c3) (c4 := c4) (T2 := T2) (D2 := D2) (m2 := m2) (M := M) (c3b := c3b) (c := 0) hMs hM hN1 (by decide) tp1
    rw [show nI (0 + 2) = (2 : Int32) from rfl, nI_0] at hk2
    rcases hk2 with ⟨a, u2, v2, w2, z2, e21, e22, e23, e24, ⟨q2, hq2, hs2, rfl, e25⟩, ⟨s2, k2, l2, x2, t2, ts2⟩, g2, g2v, g2m, g2w⟩ | ⟨a, u2, v2, w2, z2, e21, e22, e23, e24, e25⟩
    · have hb2 : xx q2 < N 2 := by have := hxx q2 hq2; rw [hs2] at this; exact this
      have hp2 := put_D (T := T) (D := D) (m := m) (c3 := c3) (c4 := c4) (uc := u2) (vc := v2) (i := N 9) (j := 1) hCt.2.2.2.2.2.2.2.1 (by decide) (by decide) hf (by decide) e25
      rw [show nI 1 = (1 : Int32) from rfl] at hp2
      have tp2 : TKR L (wr u2 (D + 14) (N 9 * 5 + 1) (nI (xx q2))) v2 w2 z2 s2 k2 l2 x2 := TKR_c (wr_role (by omega)) (wr_role (by omega)) (wr_role (by omega)) (wr_role (by omega)) (wr_off (by omega)) rfl t2
      have hN2 : NMR (wr u2 (D + 14) (N 9 * 5 + 1) (nI (xx q2))) v2 w2 z2 M nn nm ss xx := NMR_wr (by omega) (by omega) (NMR_step hM g2 g2v g2m g2w hN1)
      have hk3 := pr_known (T := T) (D := D) (m := m) (c3 := c3) (c4 := c4) (T2 := T2) (D2 := D2) (m2 := m2) (M := M) (c3b := c3b) (c := 1) hMs hM hN2 (by decide) tp2
      rw [show nI (1 + 2) = (3 : Int32) from rfl, show nI 1 = (1 : Int32) from rfl] at hk3
      rcases hk3 with ⟨a, u3, v3, w3, z3, e31, e32, e33, e34, ⟨q3, hq3, hs3, rfl, e35⟩, ⟨s3, k3, l3, x3, t3, ts3⟩, g3, g3v, g3m, g3w⟩ | ⟨a, u3, v3, w3, z3, e31, e32, e33, e34, e35⟩
      · have hb3 : xx q3 < N 3 := by have := hxx q3 hq3; rw [hs3] at this; exact this
        have hp3 := put_D (T := T) (D := D) (m := m) (c3 := c3) (c4 := c4) (uc := u3) (vc := v3) (i := N 9) (j := 2) hCt.2.2.2.2.2.2.2.1 (by decide) (by decide) hf (by decide) e35
        rw [show nI 2 = (2 : Int32) from rfl] at hp3
        have tp3 : TKR L (wr u3 (D + 14) (N 9 * 5 + 2) (nI (xx q3))) v3 w3 z3 s3 k3 l3 x3 := TKR_c (wr_role (by omega)) (wr_role (by omega)) (wr_role (by omega)) (wr_role (by omega)) (wr_off (by omega)) rfl t3
        have hN3 : NMR (wr u3 (D + 14) (N 9 * 5 + 2) (nI (xx q3))) v3 w3 z3 M nn nm ss xx := NMR_wr (by omega) (by omega) (NMR_step hM g3 g3v g3m g3w hN2)
        have hk4 := pr_known (T := T) (D := D) (m := m) (c3 := c3) (c4 := c4) (T2 := T2) (D2 := D2) (m2 := m2) (M := M) (c3b := c3b) (c := 2) hMs hM hN3 (by decide) tp3
        rw [show nI (2 + 2) = (4 : Int32) from rfl, show nI 2 = (2 : Int32) from rfl] at hk4
        rcases hk4 with ⟨a, u4, v4, w4, z4, e41, e42, e43, e44, ⟨q4, hq4, hs4, rfl, e45⟩, ⟨s4, k4, l4, x4, t4, ts4⟩, g4, g4v, g4m, g4w⟩ | ⟨a, u4, v4, w4, z4, e41, e42, e43, e44, e45⟩
        · have hb4 : xx q4 < N 4 := by have := hxx q4 hq4; rw [hs4] at this; exact this
          have hp4 := put_D (T := T) (D := D) (m := m) (c3 := c3) (c4 := c4) (uc := u4) (vc := v4) (i := N 9) (j := 3) hCt.2.2.2.2.2.2.2.1 (by decide) (by decide) hf (by decide) e45
          rw [show nI 3 = (3 : Int32) from rfl] at hp4
          have tp4 : TKR L (wr u4 (D + 14) (N 9 * 5 + 3) (nI (xx q4))) v4 w4 z4 s4 k4 l4 x4 := TKR_c (wr_role (by omega)) (wr_role (by omega)) (wr_role (by omega)) (wr_role (by omega)) (wr_off (by omega)) rfl t4
          have hN4 : NMR (wr u4 (D + 14) (N 9 * 5 + 3) (nI (xx q4))) v4 w4 z4 M nn nm ss xx := NMR_wr (by omega) (by omega) (NMR_step hM g4 g4v g4m g4w hN3)
          rcases exam_kd (T := T) (D := D) (m := m) (c3 := c3) (c4 := c4) (T2 := T2) (D2 := D2) (m2 := m2) (M := M) (c3b := c3b) (a := nI (xx q1)) (b := nI (xx q2)) (c := nI (xx q3)) (d := nI (xx q4)) tp4 with ⟨i, u5, v5, w5, z5, hi, a1, a2, a3, ⟨⟨s5, k5, l5, x5, t5, ts5⟩, g5, g5v, g5m, g5w⟩, a4⟩ | ⟨u5, w5, a1, a2, a3, a4, a5⟩
          · have hp5 := put_D (T := T) (D := D) (m := m) (c3 := c3) (c4 := c4) (uc := u5) (vc := v5) (i := N 9) (j := 4) hCt.2.2.2.2.2.2.2.1 (by decide) (by decide) hf (by decide) a3
            rw [show nI 4 = (4 : Int32) from rfl] at hp5
            have cq : ∀ q, q ≠ 1 → q ≠ D + 14 → u5 q = uc q := fun q h1 h3 => by
              rw [cfT_q g5 h1, wr_off h3, cfT_q g4 h1, wr_off h3, cfT_q g3 h1, wr_off h3, cfT_q g2 h1, wr_off h3, cfT_q g1 h1]
            have c2 : u5 (D + 14) = upd (upd (upd (upd (uc (D + 14)) (N 9 * 5 + 0) (nI (xx q1))) (N 9 * 5 + 1) (nI (xx q2))) (N 9 * 5 + 2) (nI (xx q3))) (N 9 * 5 + 3) (nI (xx q4)) := by
              rw [cfT_q g5 (by omega), wr_arr, cfT_q g4 (by omega), wr_arr, cfT_q g3 (by omega), wr_arr, cfT_q g2 (by omega), wr_arr, cfT_q g1 (by omega)]
            have c5 : u5 1 5 = uc 1 5 := by
              rw [cfT_5 g5, wr_role (by omega), cfT_5 g4, wr_role (by omega), cfT_5 g3, wr_role (by omega), cfT_5 g2, wr_role (by omega), cfT_5 g1]
            have cv : v5 24 = vc 24 := by rw [cfV_q g5v (by decide), cfV_q g4v (by decide), cfV_q g3v (by decide), cfV_q g2v (by decide), cfV_q g1v (by decide)]
            have cad : f_X6_addTo (Rep (SH T D c3 c4 m) (wr u5 (D + 14) (N 9 * 5 + 4) (nI i)) v5) 1 9 = some (1, Rep (SH T D c3 c4 m) (wr (wr u5 (D + 14) (N 9 * 5 + 4) (nI i)) (D + 20) 9 (nI (N 9 + 1))) v5) := add_D (c := 9) ho (by decide) (by rw [wr_role (by omega), cq _ (by omega) (by omega)]; exact (j0 9 (by decide)).1)
            have mq : ∀ q, q ≠ 75 → w5 q = um q := fun q h1 => by rw [mfT_q g5m h1, mfT_q g4m h1, mfT_q g3m h1, mfT_q g2m h1, mfT_q g1m h1]
            have mv : z5 (M + 22) = vm (M + 22) := by rw [mfV_q g5w (by omega), mfV_q g4w (by omega), mfV_q g3w (by omega), mfV_q g2w (by omega), mfV_q g1w (by omega)]
            have ma0 : w5 M 9 = nI (N 9) := by rw [mq M (by omega)]; exact (j0 9 (by decide)).2.1
            have n9 : ¬ w5 75 9 = 5 := by
              obtain ⟨-, -, -, -, -, hk5, -, -, e, -, -, -, -, hMt⟩ := t5
              rw [hMt.1]; exact mkK_ne hk5
            have ma1 : (wr (w5) (M + 17) (N 9) (nI (xx q1))) M 9 = nI (N 9) := by rw [wr_role (by omega), ma0]
            have ma2 : (wr (wr (w5) (M + 17) (N 9) (nI (xx q1))) (M + 18) (N 9) (nI (xx q2))) M 9 = nI (N 9) := by rw [wr_role (by omega), ma1]
            have ma3 : (wr (wr (wr (w5) (M + 17) (N 9) (nI (xx q1))) (M + 18) (N 9) (nI (xx q2))) (M + 19) (N 9) (nI (xx q3))) M 9 = nI (N 9) := by rw [wr_role (by omega), ma2]
            have ma4 : (wr (wr (wr (wr (w5) (M + 17) (N 9) (nI (xx q1))) (M + 18) (N 9) (nI (xx q2))) (M + 19) (N 9) (nI (xx q3))) (M + 20) (N 9) (nI (xx q4))) M 9 = nI (N 9) := by rw [wr_role (by omega), ma3]
            have ma5 : (wr (wr (wr (wr (wr (w5) (M + 17) (N 9) (nI (xx q1))) (M + 18) (N 9) (nI (xx q2))) (M + 19) (N 9) (nI (xx q3))) (M + 20) (N 9) (nI (xx q4))) (M + 21) (N 9) (vp_nar .boolean (nI (1 - i)))) M 9 = nI (N 9) := by rw [wr_role (by omega), ma4]
            refine Or.inl ⟨wr (wr u5 (D + 14) (N 9 * 5 + 4) (nI i)) (D + 20) 9 (nI (N 9 + 1)), v5, wr (wr (wr (wr (wr (wr (w5) (M + 17) (N 9) (nI (xx q1))) (M + 18) (N 9) (nI (xx q2))) (M + 19) (N 9) (nI (xx q3))) (M + 20) (N 9) (nI (xx q4))) (M + 21) (N 9) (vp_nar .boolean (nI (1 - i)))) M 9 (nI (N 9 + 1)), z5, ?_, ?_, ?_, ?_, ⟨?_, ?_⟩, ⟨s5, k5, l5, x5, ?_, by omega⟩, updN N 9 (N 9 + 1), ?_, ?_⟩
            · rw [fin _ rfl]
              unfold f_X6_readExam
              rw [gC_1, Option.bind_some, gR_1_2, Option.bind_some, eC, Option.bind_some, e11, q_b2_some, if_neg (by decide), gR_1_2, Option.bind_some, cR_6 hCt, Option.bind_some, hp1, q_b2_some, if_neg (by decide), e21, q_b2_some, if_neg (by decide), gR_1_2, Option.bind_some, cR_6 hCt, Option.bind_some, hp2, q_b2_some, if_neg (by decide), e31, q_b2_some, if_neg (by decide), gR_1_2, Option.bind_some, cR_6 hCt, Option.bind_some, hp3, q_b2_some, if_neg (by decide), e41, q_b2_some, if_neg (by decide), gR_1_2, Option.bind_some, cR_6 hCt, Option.bind_some, hp4, q_b2_some, if_neg (by decide), a1, q_b2_some, if_neg (by decide), gR_1_2, Option.bind_some, cR_6 hCt, Option.bind_some, hp5, q_b2_some, if_neg (by decide), q_b2_some, if_neg (by decide), cad, q_b2_some, if_neg (by decide)]
            · unfold mExam
              rw [e12, q_b2_some, e22, q_b2_some, e32, q_b2_some, e42, q_b2_some, a4]
              unfold J_X12_readExam_67
              rw [a2, Option.bind_some, gI_75_9, Option.bind_some, if_neg n9, gR_75_4, Option.bind_some, mR_27 hMs, Option.bind_some, Option.bind_some, mI_9 hMs, Option.bind_some, ma0, ms_17 hMs hf, Option.bind_some, gR_75_4, Option.bind_some, mR_28 hMs, Option.bind_some, Option.bind_some, mI_9 hMs, Option.bind_some, ma1, ms_18 hMs hf, Option.bind_some, gR_75_4, Option.bind_some, mR_29 hMs, Option.bind_some, Option.bind_some, mI_9 hMs, Option.bind_some, ma2, ms_19 hMs hf, Option.bind_some, gR_75_4, Option.bind_some, mR_30 hMs, Option.bind_some, Option.bind_some, mI_9 hMs, Option.bind_some, ma3, ms_20 hMs hf, Option.bind_some, gR_75_4, Option.bind_some, mR_31 hMs, Option.bind_some, Option.bind_some, mI_9 hMs, Option.bind_some, ma4, ms_21 hMs hf, Option.bind_some, gR_75_4, Option.bind_some, mI_9 hMs, Option.bind_some, ma5, nI_1, mW_9 hMs, Option.bind_some]
            · exact rdC_wr (rdC_wr (rdC_trans (rdC_wr (rdC_trans (rdC_wr (rdC_trans (rdC_wr (rdC_trans (rdC_wr (rdC_trans (rdC_refl) (rdC_T g1)) (by omega)) (rdC_T g2)) (by omega)) (rdC_T g3)) (by omega)) (rdC_T g4)) (by omega)) (rdC_T g5)) (by omega)) (by omega)
            · exact rdM_wr (rdM_wr (rdM_wr (rdM_wr (rdM_wr (rdM_wr (rdM_trans (rdM_trans (rdM_trans (rdM_trans (rdM_trans (rdM_refl) (rdM_T g1m)) (rdM_T g2m)) (rdM_T g3m)) (rdM_T g4m)) (rdM_T g5m)) (by omega)) (by omega)) (by omega)) (by omega)) (by omega)) (by omega)
            · rw [wr_role (by omega), wr_role (by omega), cfT_13 g5, wr_role (by omega), cfT_13 g4, wr_role (by omega), cfT_13 g3, wr_role (by omega), cfT_13 g2, wr_role (by omega), cfT_13 g1]
            · rw [wr_role (by omega), wr_role (by omega), wr_role (by omega), wr_role (by omega), wr_role (by omega), wr_role (by omega), mfT_12 g5m, mfT_12 g4m, mfT_12 g3m, mfT_12 g2m, mfT_12 g1m]
            · refine TKR_c (uc := u5) ?_ ?_ ?_ ?_ ?_ rfl (TKR_m (um := w5) ?_ ?_ rfl t5)
              · rw [wr_role (by omega), wr_role (by omega)]
              · rw [wr_role (by omega), wr_role (by omega)]
              · rw [wr_role (by omega), wr_role (by omega)]
              · rw [wr_role (by omega), wr_role (by omega)]
              · rw [wr_off (by omega), wr_off (by omega)]
              · rw [wr_off (by omega), wr_off (by omega), wr_off (by omega), wr_off (by omega), wr_off (by omega), wr_off (by omega)]
              · rw [wr_off (by omega), wr_off (by omega), wr_off (by omega), wr_off (by omega), wr_off (by omega), wr_off (by omega)]
            · have hoff : ∀ q, q ≠ 1 → q ≠ D + 14 → q ≠ D + 20 → (wr (wr u5 (D + 14) (N 9 * 5 + 4) (nI i)) (D + 20) 9 (nI (N 9 + 1))) q = uc q := fun q h1 h3 h4 => by rw [wr_off h4, wr_off h3, cq q h1 h3]
              have hom : ∀ q, q ≠ 75 → q ≠ M → q ≠ M + 17 → q ≠ M + 18 → q ≠ M + 19 → q ≠ M + 20 → q ≠ M + 21 → (wr (wr (wr (wr (wr (wr (w5) (M + 17) (N 9) (nI (xx q1))) (M + 18) (N 9) (nI (xx q2))) (M + 19) (N 9) (nI (xx q3))) (M + 20) (N 9) (nI (xx q4))) (M + 21) (N 9) (vp_nar .boolean (nI (1 - i)))) M 9 (nI (N 9 + 1))) q = um q := fun q h0 h1 h2 h3 h4 h5 h6 => by
                rw [wr_off h1, wr_off h6, wr_off h5, wr_off h4, wr_off h3, wr_off h2, mq q h0]
              have hn : ∀ q, q ≠ 9 → updN N 9 (N 9 + 1) q = N q := fun q hq => by rw [updN_at, if_neg hq]
              have hn2 : updN N 9 (N 9 + 1) 9 = N 9 + 1 := if_pos rfl
              have kc : (wr (wr u5 (D + 14) (N 9 * 5 + 4) (nI i)) (D + 20) 9 (nI (N 9 + 1))) (D + 14) = upd (upd (upd (upd (upd (uc (D + 14)) (N 9 * 5 + 0) (nI (xx q1))) (N 9 * 5 + 1) (nI (xx q2))) (N 9 * 5 + 2) (nI (xx q3))) (N 9 * 5 + 3) (nI (xx q4))) (N 9 * 5 + 4) (nI i) := by rw [wr_off (by omega), wr_arr, c2]
              have km0 : (wr (wr (wr (wr (wr (wr (w5) (M + 17) (N 9) (nI (xx q1))) (M + 18) (N 9) (nI (xx q2))) (M + 19) (N 9) (nI (xx q3))) (M + 20) (N 9) (nI (xx q4))) (M + 21) (N 9) (vp_nar .boolean (nI (1 - i)))) M 9 (nI (N 9 + 1))) (M + 17) = upd (um (M + 17)) (N 9) (nI (xx q1)) := by
                rw [wr_off (by omega), wr_off (by omega), wr_off (by omega), wr_off (by omega), wr_off (by omega), wr_arr, mq _ (by omega)]
              have km1 : (wr (wr (wr (wr (wr (wr (w5) (M + 17) (N 9) (nI (xx q1))) (M + 18) (N 9) (nI (xx q2))) (M + 19) (N 9) (nI (xx q3))) (M + 20) (N 9) (nI (xx q4))) (M + 21) (N 9) (vp_nar .boolean (nI (1 - i)))) M 9 (nI (N 9 + 1))) (M + 18) = upd (um (M + 18)) (N 9) (nI (xx q2)) := by
                rw [wr_off (by omega), wr_off (by omega), wr_off (by omega), wr_off (by omega), wr_arr, wr_off (by omega), mq _ (by omega)]
              have km2 : (wr (wr (wr (wr (wr (wr (w5) (M + 17) (N 9) (nI (xx q1))) (M + 18) (N 9) (nI (xx q2))) (M + 19) (N 9) (nI (xx q3))) (M + 20) (N 9) (nI (xx q4))) (M + 21) (N 9) (vp_nar .boolean (nI (1 - i)))) M 9 (nI (N 9 + 1))) (M + 19) = upd (um (M + 19)) (N 9) (nI (xx q3)) := by
                rw [wr_off (by omega), wr_off (by omega), wr_off (by omega), wr_arr, wr_off (by omega), wr_off (by omega), mq _ (by omega)]
              have km3 : (wr (wr (wr (wr (wr (wr (w5) (M + 17) (N 9) (nI (xx q1))) (M + 18) (N 9) (nI (xx q2))) (M + 19) (N 9) (nI (xx q3))) (M + 20) (N 9) (nI (xx q4))) (M + 21) (N 9) (vp_nar .boolean (nI (1 - i)))) M 9 (nI (N 9 + 1))) (M + 20) = upd (um (M + 20)) (N 9) (nI (xx q4)) := by
                rw [wr_off (by omega), wr_off (by omega), wr_arr, wr_off (by omega), wr_off (by omega), wr_off (by omega), mq _ (by omega)]
              have km4 : (wr (wr (wr (wr (wr (wr (w5) (M + 17) (N 9) (nI (xx q1))) (M + 18) (N 9) (nI (xx q2))) (M + 19) (N 9) (nI (xx q3))) (M + 20) (N 9) (nI (xx q4))) (M + 21) (N 9) (vp_nar .boolean (nI (1 - i)))) M 9 (nI (N 9 + 1))) (M + 21) = upd (um (M + 21)) (N 9) (vp_nar .boolean (nI (1 - i))) := by
                rw [wr_off (by omega), wr_arr, wr_off (by omega), wr_off (by omega), wr_off (by omega), wr_off (by omega), mq _ (by omega)]
              refine ⟨ad_Cnt (by decide) (show N 9 + 1 ≤ 8 by omega) ?_ ?_ j0, cg_Thing (hoff _ (by omega) (by omega) (by omega)) (hom _ (by omega) (by omega) (by omega) (by omega) (by omega) (by omega) (by omega)) (hom _ (by omega) (by omega) (by omega) (by omega) (by omega) (by omega) (by omega)) (hn 2 (by decide)) j1, cg_Pers (hoff _ (by omega) (by omega) (by omega)) (hom _ (by omega) (by omega) (by omega) (by omega) (by omega) (by omega) (by omega)) (hom _ (by omega) (by omega) (by omega) (by omega) (by omega) (by omega) (by omega)) (hom _ (by omega) (by omega) (by omega) (by omega) (by omega) (by omega) (by omega)) (hn 3 (by decide)) j2, cg_Tram (hoff _ (by omega) (by omega) (by omega)) (hom _ (by omega) (by omega) (by omega) (by omega) (by omega) (by omega) (by omega)) (hom _ (by omega) (by omega) (by omega) (by omega) (by omega) (by omega) (by omega)) (hn 4 (by decide)) j3, cg_Givr (hoff _ (by omega) (by omega) (by omega)) (hom _ (by omega) (by omega) (by omega) (by omega) (by omega) (by omega) (by omega)) (hn 5 (by decide)) j4, cg_Ride (hoff _ (by omega) (by omega) (by omega)) (hom _ (by omega) (by omega) (by omega) (by omega) (by omega) (by omega) (by omega)) (updN_le 4) j5, cg_Take (hoff _ (by omega) (by omega) (by omega)) (hom _ (by omega) (by omega) (by omega) (by omega) (by omega) (by omega) (by omega)) (updN_le 4) j6, cg_Gift (hoff _ (by omega) (by omega) (by omega)) (hom _ (by omega) (by omega) (by omega) (by omega) (by omega) (by omega) (by omega)) (hom _ (by omega) (by omega) (by omega) (by omega) (by omega) (by omega) (by omega)) (hom _ (by omega) (by omega) (by omega) (by omega) (by omega) (by omega) (by omega)) (hom _ (by omega) (by omega) (by omega) (by omega) (by omega) (by omega) (by omega)) (hn 7 (by decide)) updN_le j7, cg_Fnd (hoff _ (by omega) (by omega) (by omega)) (hom _ (by omega) (by omega) (by omega) (by omega) (by omega) (by omega) (by omega)) (hom _ (by omega) (by omega) (by omega) (by omega) (by omega) (by omega) (by omega)) (hn 8 (by decide)) updN_le j8, ?_, ?_⟩
              · rw [wr_arr, wr_off (by omega), cq _ (by omega) (by omega)]
              · intro q hq
                by_cases e : q = 9
                · subst e; rw [wr_same, if_pos rfl]
                · rw [wr_ix e, wr_role (by omega), wr_role (by omega), wr_role (by omega), wr_role (by omega), wr_role (by omega), if_neg e, mq _ (by omega)]
              · unfold r2Exam
                rw [kc, km0, km1, km2, km3, km4, hn2, hn 5 (by decide), hn 2 (by decide), hn 3 (by decide), hn 4 (by decide)]
                intro t ht
                simp -implicitDefEqProofs only [upd_at]
                by_cases e : t = N 9
                · subst e
                  simp -implicitDefEqProofs only [show ¬ N 9 * 5 + 0 = N 9 * 5 + 1 from by omega, show ¬ N 9 * 5 + 0 = N 9 * 5 + 2 from by omega, show ¬ N 9 * 5 + 0 = N 9 * 5 + 3 from by omega, show ¬ N 9 * 5 + 0 = N 9 * 5 + 4 from by omega, show ¬ N 9 * 5 + 1 = N 9 * 5 + 0 from by omega, show ¬ N 9 * 5 + 1 = N 9 * 5 + 2 from by omega, show ¬ N 9 * 5 + 1 = N 9 * 5 + 3 from by omega, show ¬ N 9 * 5 + 1 = N 9 * 5 + 4 from by omega, show ¬ N 9 * 5 + 2 = N 9 * 5 + 0 from by omega, show ¬ N 9 * 5 + 2 = N 9 * 5 + 1 from by omega, show ¬ N 9 * 5 + 2 = N 9 * 5 + 3 from by omega, show ¬ N 9 * 5 + 2 = N 9 * 5 + 4 from by omega, show ¬ N 9 * 5 + 3 = N 9 * 5 + 0 from by omega, show ¬ N 9 * 5 + 3 = N 9 * 5 + 1 from by omega, show ¬ N 9 * 5 + 3 = N 9 * 5 + 2 from by omega, show ¬ N 9 * 5 + 3 = N 9 * 5 + 4 from by omega, show ¬ N 9 * 5 + 4 = N 9 * 5 + 0 from by omega, show ¬ N 9 * 5 + 4 = N 9 * 5 + 1 from by omega, show ¬ N 9 * 5 + 4 = N 9 * 5 + 2 from by omega, show ¬ N 9 * 5 + 4 = N 9 * 5 + 3 from by omega, if_true, if_false]
                  refine ⟨⟨(xx q1), hb1, rfl⟩, ⟨(xx q2), hb2, rfl⟩, ⟨(xx q3), hb3, rfl⟩, ⟨(xx q4), hb4, rfl⟩, trivial, trivial, trivial, trivial, ?_⟩
                  have hi2 : i = 0 ∨ i = 1 := by omega
                  rcases hi2 with rfl | rfl
                  · exact Or.inl ⟨rfl, rfl⟩
                  · exact Or.inr ⟨rfl, rfl⟩
                · obtain ho1 := j9 t (by omega)
                  simp -implicitDefEqProofs only [show ¬ t * 5 + 0 = N 9 * 5 + 0 from by omega, show ¬ t * 5 + 0 = N 9 * 5 + 1 from by omega, show ¬ t * 5 + 0 = N 9 * 5 + 2 from by omega, show ¬ t * 5 + 0 = N 9 * 5 + 3 from by omega, show ¬ t * 5 + 0 = N 9 * 5 + 4 from by omega, show ¬ t * 5 + 1 = N 9 * 5 + 0 from by omega, show ¬ t * 5 + 1 = N 9 * 5 + 1 from by omega, show ¬ t * 5 + 1 = N 9 * 5 + 2 from by omega, show ¬ t * 5 + 1 = N 9 * 5 + 3 from by omega, show ¬ t * 5 + 1 = N 9 * 5 + 4 from by omega, show ¬ t * 5 + 2 = N 9 * 5 + 0 from by omega, show ¬ t * 5 + 2 = N 9 * 5 + 1 from by omega, show ¬ t * 5 + 2 = N 9 * 5 + 2 from by omega, show ¬ t * 5 + 2 = N 9 * 5 + 3 from by omega, show ¬ t * 5 + 2 = N 9 * 5 + 4 from by omega, show ¬ t * 5 + 3 = N 9 * 5 + 0 from by omega, show ¬ t * 5 + 3 = N 9 * 5 + 1 from by omega, show ¬ t * 5 + 3 = N 9 * 5 + 2 from by omega, show ¬ t * 5 + 3 = N 9 * 5 + 3 from by omega, show ¬ t * 5 + 3 = N 9 * 5 + 4 from by omega, show ¬ t * 5 + 4 = N 9 * 5 + 0 from by omega, show ¬ t * 5 + 4 = N 9 * 5 + 1 from by omega, show ¬ t * 5 + 4 = N 9 * 5 + 2 from by omega, show ¬ t * 5 + 4 = N 9 * 5 + 3 from by omega, show ¬ t * 5 + 4 = N 9 * 5 + 4 from by omega, e, if_false]
                  exact ho1
              · rw [hn 0 (by decide)]; exact j10
            · refine J2_keep (uc := uc) (vc := vc) (um := um) (vm := vm) (N := N) ?_ ?_ ?_ ?_ ?_ cv mv ⟨if_neg (by decide), if_neg (by decide), if_neg (by decide), if_neg (by decide)⟩ ⟨nm, ss, xx, by rw [hnn]; exact hN0, by rw [hnn]; exact hxx⟩
              · rw [wr_role (by omega), wr_role (by omega), c5]
              · rw [wr_off (by omega), wr_off (by omega), cq _ (by omega) (by omega)]
              · rw [wr_ix (by decide), wr_role (by omega), wr_role (by omega), wr_role (by omega), wr_role (by omega), wr_role (by omega), mq _ (by omega)]
              · rw [wr_off (by omega), wr_off (by omega), wr_off (by omega), wr_off (by omega), wr_off (by omega), wr_off (by omega), mq _ (by omega)]
              · rw [wr_off (by omega), wr_off (by omega), wr_off (by omega), wr_off (by omega), wr_off (by omega), wr_off (by omega), mq _ (by omega)]
          · have e5' := a4
            obtain ⟨dn, ds, -, -, -, -, -, -, h5⟩ := e5'
            refine Or.inr ⟨u5, v4, w5, z4, ?_, ?_, ?_, ?_, a4⟩
            · rw [fin _ rfl]
              unfold f_X6_readExam
              rw [gC_1, Option.bind_some, gR_1_2, Option.bind_some, eC, Option.bind_some, e11, q_b2_some, if_neg (by decide), gR_1_2, Option.bind_some, cR_6 hCt, Option.bind_some, hp1, q_b2_some, if_neg (by decide), e21, q_b2_some, if_neg (by decide), gR_1_2, Option.bind_some, cR_6 hCt, Option.bind_some, hp2, q_b2_some, if_neg (by decide), e31, q_b2_some, if_neg (by decide), gR_1_2, Option.bind_some, cR_6 hCt, Option.bind_some, hp3, q_b2_some, if_neg (by decide), e41, q_b2_some, if_neg (by decide), gR_1_2, Option.bind_some, cR_6 hCt, Option.bind_some, hp4, q_b2_some, if_neg (by decide), a1, q_b2_some, if_pos rfl, q_b2_some, if_pos rfl]
            · unfold mExam
              rw [e12, q_b2_some, e22, q_b2_some, e32, q_b2_some, e42, q_b2_some, a5]
              unfold J_X12_readExam_67
              rw [goes_dead h5, Option.bind_some, gI_75_9, Option.bind_some, if_pos h5]
            · exact rdC_trans (rdC_wr (rdC_trans (rdC_wr (rdC_trans (rdC_wr (rdC_trans (rdC_wr (rdC_trans (rdC_refl) (rdC_T g1)) (by omega)) (rdC_T g2)) (by omega)) (rdC_T g3)) (by omega)) (rdC_T g4)) (by omega)) a2
            · exact rdM_trans (rdM_trans (rdM_trans (rdM_trans (rdM_trans (rdM_refl) (rdM_T g1m)) (rdM_T g2m)) (rdM_T g3m)) (rdM_T g4m)) (rdM_F a3)
        · have e5' := e45
          obtain ⟨dn, ds, -, -, -, -, -, -, h5⟩ := e5'
          have hd : w4 M 10 = nI nn := by rw [e44 M 10 (by omega)]; exact hN3.2.1
          refine Or.inr ⟨u4, v4, w4, z4, ?_, ?_, ?_, ?_, e45⟩
          · rw [fin _ rfl]
            unfold f_X6_readExam
            rw [gC_1, Option.bind_some, gR_1_2, Option.bind_some, eC, Option.bind_some, e11, q_b2_some, if_neg (by decide), gR_1_2, Option.bind_some, cR_6 hCt, Option.bind_some, hp1, q_b2_some, if_neg (by decide), e21, q_b2_some, if_neg (by decide), gR_1_2, Option.bind_some, cR_6 hCt, Option.bind_some, hp2, q_b2_some, if_neg (by decide), e31, q_b2_some, if_neg (by decide), gR_1_2, Option.bind_some, cR_6 hCt, Option.bind_some, hp3, q_b2_some, if_neg (by decide), e41, q_b2_some, if_pos rfl, q_b2_some, if_pos rfl]
          · unfold mExam
            rw [e12, q_b2_some, e22, q_b2_some, e32, q_b2_some, e42, q_b2_some, word_dead h5, Option.bind_some, if_pos rfl, word_dead h5, Option.bind_some, if_pos rfl, flaw_dead h5, Option.bind_some]
            unfold J_X12_readExam_67
            rw [goes_dead h5, Option.bind_some, gI_75_9, Option.bind_some, if_pos h5]
          · exact rdC_trans (rdC_wr (rdC_trans (rdC_wr (rdC_trans (rdC_wr (rdC_trans (rdC_refl) (rdC_T g1)) (by omega)) (rdC_T g2)) (by omega)) (rdC_T g3)) (by omega)) e43
          · exact rdM_trans (rdM_trans (rdM_trans (rdM_trans (rdM_refl) (rdM_T g1m)) (rdM_T g2m)) (rdM_T g3m)) (rdM_F e44)
      · have e5' := e35
        obtain ⟨dn, ds, -, -, -, -, -, -, h5⟩ := e5'
        have hd : w3 M 10 = nI nn := by rw [e34 M 10 (by omega)]; exact hN2.2.1
        refine Or.inr ⟨u3, v3, w3, z3, ?_, ?_, ?_, ?_, e35⟩
        · rw [fin _ rfl]
          unfold f_X6_readExam
          rw [gC_1, Option.bind_some, gR_1_2, Option.bind_some, eC, Option.bind_some, e11, q_b2_some, if_neg (by decide), gR_1_2, Option.bind_some, cR_6 hCt, Option.bind_some, hp1, q_b2_some, if_neg (by decide), e21, q_b2_some, if_neg (by decide), gR_1_2, Option.bind_some, cR_6 hCt, Option.bind_some, hp2, q_b2_some, if_neg (by decide), e31, q_b2_some, if_pos rfl, q_b2_some, if_pos rfl]
        · unfold mExam
          rw [e12, q_b2_some, e22, q_b2_some, e32, q_b2_some, rknown_dead hMs hd hn16 h5, q_b2_some, word_dead h5, Option.bind_some, if_pos rfl, word_dead h5, Option.bind_some, if_pos rfl, flaw_dead h5, Option.bind_some]
          unfold J_X12_readExam_67
          rw [goes_dead h5, Option.bind_some, gI_75_9, Option.bind_some, if_pos h5]
        · exact rdC_trans (rdC_wr (rdC_trans (rdC_wr (rdC_trans (rdC_refl) (rdC_T g1)) (by omega)) (rdC_T g2)) (by omega)) e33
        · exact rdM_trans (rdM_trans (rdM_trans (rdM_refl) (rdM_T g1m)) (rdM_T g2m)) (rdM_F e34)
    · have e5' := e25
      obtain ⟨dn, ds, -, -, -, -, -, -, h5⟩ := e5'
      have hd : w2 M 10 = nI nn := by rw [e24 M 10 (by omega)]; exact hN1.2.1
      refine Or.inr ⟨u2, v2, w2, z2, ?_, ?_, ?_, ?_, e25⟩
      · rw [fin _ rfl]
        unfold f_X6_readExam
        rw [gC_1, Option.bind_some, gR_1_2, Option.bind_some, eC, Option.bind_some, e11, q_b2_some, if_neg (by decide), gR_1_2, Option.bind_some, cR_6 hCt, Option.bind_some, hp1, q_b2_some, if_neg (by decide), e21, q_b2_some, if_pos rfl, q_b2_some, if_pos rfl]
      · unfold mExam
        rw [e12, q_b2_some, e22, q_b2_some, rknown_dead hMs hd hn16 h5, q_b2_some, rknown_dead hMs hd hn16 h5, q_b2_some, word_dead h5, Option.bind_some, if_pos rfl, word_dead h5, Option.bind_some, if_pos rfl, flaw_dead h5, Option.bind_some]
        unfold J_X12_readExam_67
        rw [goes_dead h5, Option.bind_some, gI_75_9, Option.bind_some, if_pos h5]
      · exact rdC_trans (rdC_wr (rdC_trans (rdC_refl) (rdC_T g1)) (by omega)) e23
      · exact rdM_trans (rdM_trans (rdM_refl) (rdM_T g1m)) (rdM_F e24)
  · have e5' := e15
    obtain ⟨dn, ds, -, -, -, -, -, -, h5⟩ := e5'
    have hd : w1 M 10 = nI nn := by rw [e14 M 10 (by omega)]; exact hN0.2.1
    refine Or.inr ⟨u1, v1, w1, z1, ?_, ?_, ?_, ?_, e15⟩
    · rw [fin _ rfl]
      unfold f_X6_readExam
      rw [gC_1, Option.bind_some, gR_1_2, Option.bind_some, eC, Option.bind_some, e11, q_b2_some, if_pos rfl, q_b2_some, if_pos rfl]
    · unfold mExam
      rw [e12, q_b2_some, rknown_dead hMs hd hn16 h5, q_b2_some, rknown_dead hMs hd hn16 h5, q_b2_some, rknown_dead hMs hd hn16 h5, q_b2_some, word_dead h5, Option.bind_some, if_pos rfl, word_dead h5, Option.bind_some, if_pos rfl, flaw_dead h5, Option.bind_some]
      unfold J_X12_readExam_67
      rw [goes_dead h5, Option.bind_some, gI_75_9, Option.bind_some, if_pos h5]
    · exact rdC_trans (rdC_refl) e13
    · exact rdM_trans (rdM_refl) (rdM_F e14)
end LI3
