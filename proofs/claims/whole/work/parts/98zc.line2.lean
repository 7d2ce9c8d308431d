section LI2
variable {T D m T2 D2 m2 M : Nat} {c3 c4 c3b : sF} {uc um : mU} {vc vm : mV} {L s k x nn : Nat} {l : List Nat} {N : Nat → Nat}
def mPers (g : qS) : Option qS := q_b2 (f_X12_readFresh g 75) fun v5 g4 => (f_X12_isWord g4 75 45).bind fun v6 => if v6 = 0 then ((f_X12_isWord g4 75 46).bind fun v7 => if v7 = 0 then ((f_X12_isWord g4 75 47).bind fun v8 => if v8 = 0 then ((f_X12_isWord g4 75 48).bind fun v9 => if v9 = 0 then (J_X12_readPersonLine_74 75 v5 (-1) g4) else (J_X12_readPersonLine_74 75 v5 3 g4)) else (J_X12_readPersonLine_74 75 v5 2 g4)) else (J_X12_readPersonLine_74 75 v5 1 g4)) else (J_X12_readPersonLine_74 75 v5 0 g4)
theorem ln_pers (ho : okTD T D) (hMs : mSh (SH T2 D2 c3b (fR M) m2) M) (hM : 88 ≤ M) (h : TKR L uc vc um vm s k l x) (hJ : J1 uc um D M N) (hJ2 : J2 uc vc um vm M N) (hf : N 3 < 5) : LNE T D m c3 c4 T2 D2 m2 M c3b L s uc um (f_X6_readRest (Rep (SH T D c3 c4 m) uc vc) 1 2) (mPers (Rep (SH T2 D2 c3b (fR M) m2) um vm)) := by
  have hCt := SH_draft (c3 := c3) (c4 := c4) (m := m) ho
  have hD : D = 54 ∨ D = 3 := by rcases ho with ⟨rfl, rfl⟩ | ⟨rfl, rfl⟩ <;> simp
  obtain ⟨j0, j1, j2, j3, j4, j5, j6, j7, j8, j9, j10⟩ := hJ
  have b2 : N 2 ≤ 4 := (j0 2 (by decide)).2.2
  have b3 : N 3 ≤ 5 := (j0 3 (by decide)).2.2
  have b4 : N 4 ≤ 4 := (j0 4 (by decide)).2.2
  have b5 : N 5 ≤ 3 := (j0 5 (by decide)).2.2
  obtain ⟨nm, ss, xx, hN, hxx⟩ := hJ2
  generalize hnn : N 2 + N 3 + N 4 + N 5 = nn at *
  have h16 : nn < 16 := by omega
  have eC : f_X3_count (Rep (SH T D c3 c4 m) uc vc) D 3 = some (nI (N 3)) := cnt_D (c := 3) ho (by decide) (j0 3 (by decide)).1
  have fin : ∀ X, f_X6_readPerson (Rep (SH T D c3 c4 m) uc vc) 1 = X → f_X6_readRest (Rep (SH T D c3 c4 m) uc vc) 1 2 = (q_b2 X fun v2 g1 => if v2 = 0 then (some (0, g1)) else (q_b2 (f_X6_addTo g1 1 3) fun v4 g3 => if v4 = 0 then (some (0, g3)) else (some (1, g3)))) := by
    intro X hX
    unfold f_X6_readRest
    rw [gC_1, Option.bind_some, if_neg (by decide), if_pos rfl, hX]
  have hfr := pr_fresh (T := T) (D := D) (m := m) (c3 := c3) (c4 := c4) (T2 := T2) (D2 := D2) (m2 := m2) (M := M) (c3b := c3b) (c := 3) (cc := N 3) ho hMs hM hN h16 (by decide) (j0 3 (by decide)).1 h
  rw [show nI 3 = (3 : Int32) from rfl] at hfr
  rcases hfr with ⟨l0, u1, v1, w1, z1, hl0, e1, e2, ⟨s1, k1, l1, x1, t1, ts1⟩, g1, g1v, g1m, g1w⟩ | ⟨y, u1, v1, w1, z1, e1, e2, e3, e4, e5⟩
  · rcases pers_kd (T := T) (D := D) (m := m) (c3 := c3) (c4 := c4) (T2 := T2) (D2 := D2) (m2 := m2) (M := M) (c3b := c3b) (y := rv 32 l0) t1 with ⟨i, u2, v2, w2, z2, hi, a1, a2, a3, ⟨⟨s2, k2, l2, x2, t2, ts2⟩, g2, g2v, g2m, g2w⟩, a4⟩ | ⟨u2, w2, a1, a2, a3, a4, a5⟩
    · have hp0 := put_D (T := T) (D := D) (m := m) (c3 := c3) (c4 := c4) (uc := u2) (vc := v2) (i := N 3) (j := 0) hCt.2.2.1 (by decide) (by decide) hf (by decide) a3
      rw [nI_0] at hp0
      have tp0 : TKR L (wr u2 (D + 4) (N 3 * 3 + 0) (nI i)) v2 w2 z2 s2 k2 l2 x2 := TKR_c (wr_role (by omega)) (wr_role (by omega)) (wr_role (by omega)) (wr_role (by omega)) (wr_off (by omega)) rfl t2
      have hpt3 := pr_part (T := T) (D := D) (m := m) (c3 := c3) (c4 := c4) (T2 := T2) (D2 := D2) (m2 := m2) (M := M) (c3b := c3b) (w := 21) (lo := 0) (hi := 9) (by decide) (by decide) (by decide) (by decide) tp0
      rw [nI_0, show nI 9 = (9 : Int32) from rfl, show mw 21 = 49 from rfl] at hpt3
      rcases hpt3 with ⟨a, u3, v3, w3, z3, p31, p32, p33, p34, ⟨x3v, hlo3, hhi3, rfl, p35⟩, ⟨s3, k3, l3, x3, t3, ts3⟩, g3, g3v, g3m, g3w⟩ | ⟨a, u3, v3, w3, z3, p31, p32, p33, p34, p35⟩
      · dsimp only at p31
        have hp3 := put_D (T := T) (D := D) (m := m) (c3 := c3) (c4 := c4) (uc := u3) (vc := v3) (i := N 3) (j := 1) hCt.2.2.1 (by decide) (by decide) hf (by decide) p35
        rw [show nI 1 = (1 : Int32) from rfl] at hp3
        have tp3 : TKR L (wr u3 (D + 4) (N 3 * 3 + 1) (nI x3v)) v3 w3 z3 s3 k3 l3 x3 := TKR_c (wr_role (by omega)) (wr_role (by omega)) (wr_role (by omega)) (wr_role (by omega)) (wr_off (by omega)) rfl t3
        have hpt4 := pr_part (T := T) (D := D) (m := m) (c3 := c3) (c4 := c4) (T2 := T2) (D2 := D2) (m2 := m2) (M := M) (c3b := c3b) (w := 22) (lo := 0) (hi := 99) (by decide) (by decide) (by decide) (by decide) tp3
        rw [nI_0, show nI 99 = (99 : Int32) from rfl, show mw 22 = 50 from rfl] at hpt4
        rcases hpt4 with ⟨a, u4, v4, w4, z4, p41, p42, p43, p44, ⟨x4v, hlo4, hhi4, rfl, p45⟩, ⟨s4, k4, l4, x4, t4, ts4⟩, g4, g4v, g4m, g4w⟩ | ⟨a, u4, v4, w4, z4, p41, p42, p43, p44, p45⟩
        · dsimp only at p41
          have hp4 := put_D (T := T) (D := D) (m := m) (c3 := c3) (c4 := c4) (uc := u4) (vc := v4) (i := N 3) (j := 2) hCt.2.2.1 (by decide) (by decide) hf (by decide) p45
          rw [show nI 2 = (2 : Int32) from rfl] at hp4
          have cq : ∀ q, q ≠ 1 → q ≠ 26 → q ≠ D + 4 → u4 q = uc q := fun q h1 h2 h3 => by
            rw [cfT_q g4 h1, wr_off h3, cfT_q g3 h1, wr_off h3, cfT_q g2 h1, cfT_q g1 h1]
            unfold nwU
            rw [wr_off h1, wr_off h2, wr_off h2]
          have c2 : u4 (D + 4) = upd (upd (uc (D + 4)) (N 3 * 3 + 0) (nI i)) (N 3 * 3 + 1) (nI x3v) := by
            rw [cfT_q g4 (by omega), wr_arr, cfT_q g3 (by omega), wr_arr, cfT_q g2 (by omega), cfT_q g1 (by omega)]
            unfold nwU
            rw [wr_off (by omega), wr_off (by omega), wr_off (by omega)]
          have c26 : u4 26 = upd (upd (uc 26) (nn * 2 + 0) (nI 3)) (nn * 2 + 1) (nI (N 3)) := by
            rw [cfT_q g4 (by omega), wr_off (by omega), cfT_q g3 (by omega), wr_off (by omega), cfT_q g2 (by omega), cfT_q g1 (by omega)]
            unfold nwU
            rw [wr_off (by omega), wr_arr, wr_arr]
          have c5 : u4 1 5 = nI (nn + 1) := by
            rw [cfT_5 g4, wr_role (by omega), cfT_5 g3, wr_role (by omega), cfT_5 g2, cfT_5 g1]
            exact wr_same _ _ _ _
          have cv : v4 24 = wrL vc 24 nn (rv 27 l0) 24 := by rw [cfV_q g4v (by decide), cfV_q g3v (by decide), cfV_q g2v (by decide), cfV_q g1v (by decide)]
          have cad : f_X6_addTo (Rep (SH T D c3 c4 m) (wr u4 (D + 4) (N 3 * 3 + 2) (nI x4v)) v4) 1 3 = some (1, Rep (SH T D c3 c4 m) (wr (wr u4 (D + 4) (N 3 * 3 + 2) (nI x4v)) (D + 20) 3 (nI (N 3 + 1))) v4) := add_D (c := 3) ho (by decide) (by rw [wr_role (by omega), cq _ (by omega) (by omega) (by omega)]; exact (j0 3 (by decide)).1)
          have mq : ∀ q, q ≠ 75 → w4 q = um q := fun q h1 => by rw [mfT_q g4m h1, mfT_q g3m h1, mfT_q g2m h1, mfT_q g1m h1]
          have mv : z4 (M + 22) = vm (M + 22) := by rw [mfV_q g4w (by omega), mfV_q g3w (by omega), mfV_q g2w (by omega), mfV_q g1w (by omega)]
          have mn : w4 M 10 = nI nn := by rw [mq M (by omega)]; exact hN.2.1
          have m2' : w4 M 3 = nI (N 3) := by rw [mq M (by omega)]; exact (j0 3 (by decide)).2.1
          have n9 : ¬ w4 75 9 = 5 := by
            obtain ⟨-, -, -, -, -, hk5, -, -, e, -, -, -, -, hMt⟩ := t4
            rw [hMt.1]; exact mkK_ne hk5
          have ma0 : nmU w4 M nn 1 (nI (N 3)) M 3 = nI (N 3) := by unfold nmU; rw [wr_ix (by decide), wr_role (by omega), wr_role (by omega), m2']
          have ma1 : wr (nmU w4 M nn 1 (nI (N 3))) (M + 5) (N 3) (nI i) M 3 = nI (N 3) := by rw [wr_role (by omega), ma0]
          have ma2 : wr (wr (nmU w4 M nn 1 (nI (N 3))) (M + 5) (N 3) (nI i)) (M + 6) (N 3) (nI x3v) M 3 = nI (N 3) := by rw [wr_role (by omega), ma1]
          have ma3 : wr (wr (wr (nmU w4 M nn 1 (nI (N 3))) (M + 5) (N 3) (nI i)) (M + 6) (N 3) (nI x3v)) (M + 7) (N 3) (nI x4v) M 3 = nI (N 3) := by rw [wr_role (by omega), ma2]
          refine Or.inl ⟨wr (wr u4 (D + 4) (N 3 * 3 + 2) (nI x4v)) (D + 20) 3 (nI (N 3 + 1)), v4, wr (wr (wr (wr (nmU w4 M nn 1 (nI (N 3))) (M + 5) (N 3) (nI i)) (M + 6) (N 3) (nI x3v)) (M + 7) (N 3) (nI x4v)) M 3 (nI (N 3 + 1)), wrL z4 (M + 22) nn (rv 32 l0), ?_, ?_, ?_, ?_, ⟨?_, ?_⟩, ⟨s4, k4, l4, x4, ?_, by omega⟩, updN N 3 (N 3 + 1), ?_, ?_⟩
          · rw [fin _ rfl]
            unfold f_X6_readPerson
            rw [gC_1, Option.bind_some, gR_1_2, Option.bind_some, eC, Option.bind_some, e1, q_b2_some, if_neg (by decide), a1, q_b2_some, if_neg (by decide), gR_1_2, Option.bind_some, cR_1 hCt, Option.bind_some, hp0, q_b2_some, if_neg (by decide), p31, gR_1_2, Option.bind_some, cR_1 hCt, Option.bind_some, hp3, q_b2_some, if_neg (by decide), p41, gR_1_2, Option.bind_some, cR_1 hCt, Option.bind_some, hp4, q_b2_some, if_neg (by decide), q_b2_some, if_neg (by decide), cad, q_b2_some, if_neg (by decide)]
          · unfold mPers
            rw [e2, q_b2_some, a4]
            unfold J_X12_readPersonLine_85
            rw [a2, Option.bind_some, p32, q_b2_some, p42, q_b2_some, gI_75_9, Option.bind_some, if_neg n9, gR_75_4, Option.bind_some, mI_3 hMs, Option.bind_some, m2', mod_names hMs mn h16, Option.bind_some, gR_75_4, Option.bind_some, mR_15 hMs, Option.bind_some, Option.bind_some, mI_3 hMs, Option.bind_some, ma0, ms_5 hMs hf, Option.bind_some, gR_75_4, Option.bind_some, mR_16 hMs, Option.bind_some, Option.bind_some, mI_3 hMs, Option.bind_some, ma1, ms_6 hMs hf, Option.bind_some, gR_75_4, Option.bind_some, mR_17 hMs, Option.bind_some, Option.bind_some, mI_3 hMs, Option.bind_some, ma2, ms_7 hMs hf, Option.bind_some, gR_75_4, Option.bind_some, mI_3 hMs, Option.bind_some, ma3, nI_1, mW_3 hMs, Option.bind_some]
          · exact rdC_wr (rdC_wr (rdC_trans (rdC_wr (rdC_trans (rdC_wr (rdC_trans (rdC_trans (rdC_wr (rdC_wr (rdC_wr rdC_refl (by omega)) (by omega)) (by omega)) (rdC_T g1)) (rdC_T g2)) (by omega)) (rdC_T g3)) (by omega)) (rdC_T g4)) (by omega)) (by omega)
          · exact rdM_wr (rdM_wr (rdM_wr (rdM_wr (rdM_wr (rdM_wr (rdM_wr (rdM_trans (rdM_trans (rdM_trans (rdM_T g1m) (rdM_T g2m)) (rdM_T g3m)) (rdM_T g4m)) (by omega)) (by omega)) (by omega)) (by omega)) (by omega)) (by omega)) (by omega)
          · rw [wr_role (by omega), wr_role (by omega), cfT_13 g4, wr_role (by omega), cfT_13 g3, wr_role (by omega), cfT_13 g2, cfT_13 g1]
            unfold nwU
            rw [wr_ix (by decide), wr_role (by omega), wr_role (by omega)]
          · unfold nmU
            rw [wr_role (by omega), wr_role (by omega), wr_role (by omega), wr_role (by omega), wr_role (by omega), wr_role (by omega), wr_role (by omega), mfT_12 g4m, mfT_12 g3m, mfT_12 g2m, mfT_12 g1m]
          · refine TKR_c (uc := u4) ?_ ?_ ?_ ?_ ?_ rfl (TKR_m (um := w4) ?_ ?_ ?_ t4)
            · rw [wr_role (by omega), wr_role (by omega)]
            · rw [wr_role (by omega), wr_role (by omega)]
            · rw [wr_role (by omega), wr_role (by omega)]
            · rw [wr_role (by omega), wr_role (by omega)]
            · rw [wr_off (by omega), wr_off (by omega)]
            · unfold nmU; rw [wr_off (by omega), wr_off (by omega), wr_off (by omega), wr_off (by omega), wr_off (by omega), wr_off (by omega), wr_off (by omega)]
            · unfold nmU; rw [wr_off (by omega), wr_off (by omega), wr_off (by omega), wr_off (by omega), wr_off (by omega), wr_off (by omega), wr_off (by omega)]
            · exact wrL_role (by omega)
          · have hoff : ∀ q, q ≠ 1 → q ≠ 26 → q ≠ D + 4 → q ≠ D + 20 → wr (wr u4 (D + 4) (N 3 * 3 + 2) (nI x4v)) (D + 20) 3 (nI (N 3 + 1)) q = uc q := fun q h1 h2 h3 h4 => by rw [wr_off h4, wr_off h3, cq q h1 h2 h3]
            have hom : ∀ q, q ≠ 75 → q ≠ M → q ≠ M + 5 → q ≠ M + 6 → q ≠ M + 7 → q ≠ M + 23 → q ≠ M + 24 → wr (wr (wr (wr (nmU w4 M nn 1 (nI (N 3))) (M + 5) (N 3) (nI i)) (M + 6) (N 3) (nI x3v)) (M + 7) (N 3) (nI x4v)) M 3 (nI (N 3 + 1)) q = um q := fun q h0 h1 h2 h3 h4 h5 h6 => by
              unfold nmU
              rw [wr_off h1, wr_off h4, wr_off h3, wr_off h2, wr_off h1, wr_off h6, wr_off h5, mq q h0]
            have hn : ∀ q, q ≠ 3 → updN N 3 (N 3 + 1) q = N q := fun q hq => by rw [updN_at, if_neg hq]
            have hn2 : updN N 3 (N 3 + 1) 3 = N 3 + 1 := if_pos rfl
            have kc : wr (wr u4 (D + 4) (N 3 * 3 + 2) (nI x4v)) (D + 20) 3 (nI (N 3 + 1)) (D + 4) = upd (upd (upd (uc (D + 4)) (N 3 * 3 + 0) (nI i)) (N 3 * 3 + 1) (nI x3v)) (N 3 * 3 + 2) (nI x4v) := by rw [wr_off (by omega), wr_arr, c2]
            have km0 : wr (wr (wr (wr (nmU w4 M nn 1 (nI (N 3))) (M + 5) (N 3) (nI i)) (M + 6) (N 3) (nI x3v)) (M + 7) (N 3) (nI x4v)) M 3 (nI (N 3 + 1)) (M + 5) = upd (um (M + 5)) (N 3) (nI i) := by
              unfold nmU
              rw [wr_off (by omega), wr_off (by omega), wr_off (by omega), wr_arr, wr_off (by omega), wr_off (by omega), wr_off (by omega), mq _ (by omega)]
            have km1 : wr (wr (wr (wr (nmU w4 M nn 1 (nI (N 3))) (M + 5) (N 3) (nI i)) (M + 6) (N 3) (nI x3v)) (M + 7) (N 3) (nI x4v)) M 3 (nI (N 3 + 1)) (M + 6) = upd (um (M + 6)) (N 3) (nI x3v) := by
              unfold nmU
              rw [wr_off (by omega), wr_off (by omega), wr_arr, wr_off (by omega), wr_off (by omega), wr_off (by omega), wr_off (by omega), mq _ (by omega)]
            have km2 : wr (wr (wr (wr (nmU w4 M nn 1 (nI (N 3))) (M + 5) (N 3) (nI i)) (M + 6) (N 3) (nI x3v)) (M + 7) (N 3) (nI x4v)) M 3 (nI (N 3 + 1)) (M + 7) = upd (um (M + 7)) (N 3) (nI x4v) := by
              unfold nmU
              rw [wr_off (by omega), wr_arr, wr_off (by omega), wr_off (by omega), wr_off (by omega), wr_off (by omega), wr_off (by omega), mq _ (by omega)]
            refine ⟨ad_Cnt (by decide) (show N 3 + 1 ≤ 5 by omega) ?_ ?_ j0, cg_Thing (hoff _ (by omega) (by omega) (by omega) (by omega)) (hom _ (by omega) (by omega) (by omega) (by omega) (by omega) (by omega) (by omega)) (hom _ (by omega) (by omega) (by omega) (by omega) (by omega) (by omega) (by omega)) (hn 2 (by decide)) j1, ⟨?_, ?_⟩, cg_Tram (hoff _ (by omega) (by omega) (by omega) (by omega)) (hom _ (by omega) (by omega) (by omega) (by omega) (by omega) (by omega) (by omega)) (hom _ (by omega) (by omega) (by omega) (by omega) (by omega) (by omega) (by omega)) (hn 4 (by decide)) j3, cg_Givr (hoff _ (by omega) (by omega) (by omega) (by omega)) (hom _ (by omega) (by omega) (by omega) (by omega) (by omega) (by omega) (by omega)) (hn 5 (by decide)) j4, cg_Ride (hoff _ (by omega) (by omega) (by omega) (by omega)) (hom _ (by omega) (by omega) (by omega) (by omega) (by omega) (by omega) (by omega)) (updN_le 4) j5, cg_Take (hoff _ (by omega) (by omega) (by omega) (by omega)) (hom _ (by omega) (by omega) (by omega) (by omega) (by omega) (by omega) (by omega)) (updN_le 4) j6, cg_Gift (hoff _ (by omega) (by omega) (by omega) (by omega)) (hom _ (by omega) (by omega) (by omega) (by omega) (by omega) (by omega) (by omega)) (hom _ (by omega) (by omega) (by omega) (by omega) (by omega) (by omega) (by omega)) (hom _ (by omega) (by omega) (by omega) (by omega) (by omega) (by omega) (by omega)) (hom _ (by omega) (by omega) (by omega) (by omega) (by omega) (by omega) (by omega)) (hn 7 (by decide)) updN_le j7, cg_Fnd (hoff _ (by omega) (by omega) (by omega) (by omega)) (hom _ (by omega) (by omega) (by omega) (by omega) (by omega) (by omega) (by omega)) (hom _ (by omega) (by omega) (by omega) (by omega) (by omega) (by omega) (by omega)) (hn 8 (by decide)) updN_le j8, cg_Exam (hoff _ (by omega) (by omega) (by omega) (by omega)) (hom _ (by omega) (by omega) (by omega) (by omega) (by omega) (by omega) (by omega)) (hom _ (by omega) (by omega) (by omega) (by omega) (by omega) (by omega) (by omega)) (hom _ (by omega) (by omega) (by omega) (by omega) (by omega) (by omega) (by omega)) (hom _ (by omega) (by omega) (by omega) (by omega) (by omega) (by omega) (by omega)) (hom _ (by omega) (by omega) (by omega) (by omega) (by omega) (by omega) (by omega)) (hn 9 (by decide)) updN_le j9, ?_⟩
            · rw [wr_arr, wr_off (by omega), cq _ (by omega) (by omega) (by omega)]
            · intro q hq
              unfold nmU
              by_cases e : q = 3
              · subst e; rw [wr_same, if_pos rfl]
              · rw [wr_ix e, wr_role (by omega), wr_role (by omega), wr_role (by omega), wr_ix (by omega), wr_role (by omega), wr_role (by omega), if_neg e, mq _ (by omega)]
            · unfold r2Pers
              rw [kc, km0, km1, km2, hn2]
              intro t ht
              simp -implicitDefEqProofs only [upd_at]
              by_cases e : t = N 3
              · subst e
                refine ⟨?_, ?_, ?_⟩
                · rw [if_neg (by omega), if_neg (by omega), if_pos rfl, if_pos rfl]
                · rw [if_neg (by omega), if_pos rfl, if_pos rfl]
                · rw [if_pos rfl, if_pos rfl]
              · obtain ho1 := j2.1 t (by omega)
                simp -implicitDefEqProofs only [show ¬ t * 3 + 0 = N 3 * 3 + 0 from by omega, show ¬ t * 3 + 0 = N 3 * 3 + 1 from by omega, show ¬ t * 3 + 0 = N 3 * 3 + 2 from by omega, show ¬ t * 3 + 1 = N 3 * 3 + 0 from by omega, show ¬ t * 3 + 1 = N 3 * 3 + 1 from by omega, show ¬ t * 3 + 1 = N 3 * 3 + 2 from by omega, show ¬ t * 3 + 2 = N 3 * 3 + 0 from by omega, show ¬ t * 3 + 2 = N 3 * 3 + 1 from by omega, show ¬ t * 3 + 2 = N 3 * 3 + 2 from by omega, e, if_false]
                exact ho1
            · unfold b2Pers
              rw [km0, km1, km2, hn2]
              intro t ht
              simp -implicitDefEqProofs only [upd_at]
              by_cases e : t = N 3
              · simp -implicitDefEqProofs only [e, if_true]; exact ⟨i, x3v, x4v, hi, hhi3, hhi4, rfl, rfl, rfl⟩
              · simp -implicitDefEqProofs only [e, if_false]; exact j2.2 t (by omega)
            · rw [hn 0 (by decide)]; exact j10
          · refine J2_add (c := 3) (l0 := l0) (uc := uc) (vc := vc) (um := um) (vm := vm) (by omega) hl0 (by omega) ?_ ?_ ?_ ?_ ?_ ?_ ?_ (by omega) ⟨nm, ss, xx, by rw [hnn]; exact hN, by rw [hnn]; exact hxx⟩
            · rw [hnn, wr_role (by omega), wr_role (by omega), c5]
            · rw [hnn, wr_off (by omega), wr_off (by omega), c26]
            · unfold nmU
              rw [hnn, wr_ix (by decide), wr_role (by omega), wr_role (by omega), wr_role (by omega), wr_same]
            · unfold nmU
              rw [hnn, wr_off (by omega), wr_off (by omega), wr_off (by omega), wr_off (by omega), wr_off (by omega), wr_off (by omega), wr_arr, mq _ (by omega)]
              rfl
            · unfold nmU
              rw [hnn, wr_off (by omega), wr_off (by omega), wr_off (by omega), wr_off (by omega), wr_off (by omega), wr_arr, wr_off (by omega), mq _ (by omega)]
            · intro j
              rw [hnn, cv]
              unfold wrL
              simp -implicitDefEqProofs only [true_and]
            · intro j
              rw [hnn]
              unfold wrL
              simp -implicitDefEqProofs only [true_and]
              rw [mv]
        · dsimp only at p41
          have p5' := p45
          obtain ⟨dn, ds, -, -, -, -, -, -, h5⟩ := p5'
          refine Or.inr ⟨u4, v4, w4, z4, ?_, ?_, ?_, ?_, p45⟩
          · rw [fin _ rfl]
            unfold f_X6_readPerson
            rw [gC_1, Option.bind_some, gR_1_2, Option.bind_some, eC, Option.bind_some, e1, q_b2_some, if_neg (by decide), a1, q_b2_some, if_neg (by decide), gR_1_2, Option.bind_some, cR_1 hCt, Option.bind_some, hp0, q_b2_some, if_neg (by decide), p31, gR_1_2, Option.bind_some, cR_1 hCt, Option.bind_some, hp3, q_b2_some, if_neg (by decide), p41, q_b2_some, if_pos rfl]
          · unfold mPers
            rw [e2, q_b2_some, a4]
            unfold J_X12_readPersonLine_85
            rw [a2, Option.bind_some, p32, q_b2_some, p42, q_b2_some, gI_75_9, Option.bind_some, if_pos h5]
          · exact rdC_trans (rdC_wr (rdC_trans (rdC_wr (rdC_trans (rdC_trans (rdC_wr (rdC_wr (rdC_wr rdC_refl (by omega)) (by omega)) (by omega)) (rdC_T g1)) (rdC_T g2)) (by omega)) (rdC_T g3)) (by omega)) p43
          · exact rdM_trans (rdM_trans (rdM_trans (rdM_T g1m) (rdM_T g2m)) (rdM_T g3m)) (rdM_F p44)
      · dsimp only at p31
        have p5' := p35
        obtain ⟨dn, ds, -, -, -, -, -, -, h5⟩ := p5'
        refine Or.inr ⟨u3, v3, w3, z3, ?_, ?_, ?_, ?_, p35⟩
        · rw [fin _ rfl]
          unfold f_X6_readPerson
          rw [gC_1, Option.bind_some, gR_1_2, Option.bind_some, eC, Option.bind_some, e1, q_b2_some, if_neg (by decide), a1, q_b2_some, if_neg (by decide), gR_1_2, Option.bind_some, cR_1 hCt, Option.bind_some, hp0, q_b2_some, if_neg (by decide), p31, q_b2_some, if_pos rfl]
        · unfold mPers
          rw [e2, q_b2_some, a4]
          unfold J_X12_readPersonLine_85
          rw [a2, Option.bind_some, p32, q_b2_some, part_dead h5, q_b2_some, gI_75_9, Option.bind_some, if_pos h5]
        · exact rdC_trans (rdC_wr (rdC_trans (rdC_trans (rdC_wr (rdC_wr (rdC_wr rdC_refl (by omega)) (by omega)) (by omega)) (rdC_T g1)) (rdC_T g2)) (by omega)) p33
        · exact rdM_trans (rdM_trans (rdM_T g1m) (rdM_T g2m)) (rdM_F p34)
    · have a4' := a4
      obtain ⟨dn, ds, -, -, -, -, -, -, h5⟩ := a4'
      refine Or.inr ⟨u2, v1, w2, z1, ?_, ?_, ?_, ?_, a4⟩
      · rw [fin _ rfl]
        unfold f_X6_readPerson
        rw [gC_1, Option.bind_some, gR_1_2, Option.bind_some, eC, Option.bind_some, e1, q_b2_some, if_neg (by decide), a1, q_b2_some, if_pos rfl, q_b2_some, if_pos rfl]
      · unfold mPers
        rw [e2, q_b2_some, a5]
        unfold J_X12_readPersonLine_85
        rw [goes_dead h5, Option.bind_some, part_dead h5, q_b2_some, part_dead h5, q_b2_some, gI_75_9, Option.bind_some, if_pos h5]
      · exact rdC_trans (rdC_trans (rdC_wr (rdC_wr (rdC_wr rdC_refl (by omega)) (by omega)) (by omega)) (rdC_T g1)) a2
      · exact rdM_trans (rdM_T g1m) (rdM_F a3)
  · have e5' := e5
    obtain ⟨dn, ds, -, -, -, -, -, -, h5⟩ := e5'
    refine Or.inr ⟨u1, v1, w1, z1, ?_, ?_, e3, rdM_F e4, e5⟩
    · rw [fin _ rfl]
      unfold f_X6_readPerson
      rw [gC_1, Option.bind_some, gR_1_2, Option.bind_some, eC, Option.bind_some, e1, q_b2_some, if_pos rfl, q_b2_some, if_pos rfl]
    · unfold mPers
      rw [e2, q_b2_some, word_dead h5, Option.bind_some, if_pos rfl, word_dead h5, Option.bind_some, if_pos rfl, word_dead h5, Option.bind_some, if_pos rfl, word_dead h5, Option.bind_some, if_pos rfl]
      unfold J_X12_readPersonLine_74
      rw [if_pos rfl, flaw_dead h5, Option.bind_some]
      unfold J_X12_readPersonLine_85
      rw [goes_dead h5, Option.bind_some, part_dead h5, q_b2_some, part_dead h5, q_b2_some, gI_75_9, Option.bind_some, if_pos h5]
def mTram (g : qS) : Option qS := q_b2 (f_X12_readFresh g 75) fun v5 g4 => q_b2 (f_X12_readPart g4 75 51 0 60) fun v7 g6 => q_b2 (f_X12_readPart g6 75 52 1 60) fun v9 g8 => (g_I g8 75 11 9).bind fun v10 => if v10 = 5 then (some g8) else ((g_R g8 75 11 4).bind fun v11 => (g_I g8 v11 10 4).bind fun v12 => (f_X12_names g8 75 v5 2 v12).bind fun g13 => (g_R g13 75 11 4).bind fun v14 => (g_R g13 v14 10 19).bind fun v15 => (g_R g13 75 11 4).bind fun v16 => (g_I g13 v16 10 4).bind fun v17 => (s_I g13 v15 v17 v7).bind fun g18 => (g_R g18 75 11 4).bind fun v19 => (g_R g18 v19 10 20).bind fun v20 => (g_R g18 75 11 4).bind fun v21 => (g_I g18 v21 10 4).bind fun v22 => (s_I g18 v20 v22 v9).bind fun g23 => (g_R g23 75 11 4).bind fun v24 => (g_I g23 v24 10 4).bind fun v25 => (p_I g23 v24 10 4 (v25 + 1)).bind fun g26 => some g26)
theorem ln_tram (ho : okTD T D) (hMs : mSh (SH T2 D2 c3b (fR M) m2) M) (hM : 88 ≤ M) (h : TKR L uc vc um vm s k l x) (hJ : J1 uc um D M N) (hJ2 : J2 uc vc um vm M N) (hf : N 4 < 4) : LNE T D m c3 c4 T2 D2 m2 M c3b L s uc um (f_X6_readRest (Rep (SH T D c3 c4 m) uc vc) 1 3) (mTram (Rep (SH T2 D2 c3b (fR M) m2) um vm)) := by
  have hCt := SH_draft (c3 := c3) (c4 := c4) (m := m) ho
  have hD : D = 54 ∨ D = 3 := by rcases ho with ⟨rfl, rfl⟩ | ⟨rfl, rfl⟩ <;> simp
  obtain ⟨j0, j1, j2, j3, j4, j5, j6, j7, j8, j9, j10⟩ := hJ
  have b2 : N 2 ≤ 4 := (j0 2 (by decide)).2.2
  have b3 : N 3 ≤ 5 := (j0 3 (by decide)).2.2
  have b4 : N 4 ≤ 4 := (j0 4 (by decide)).2.2
  have b5 : N 5 ≤ 3 := (j0 5 (by decide)).2.2
  obtain ⟨nm, ss, xx, hN, hxx⟩ := hJ2
  generalize hnn : N 2 + N 3 + N 4 + N 5 = nn at *
  have h16 : nn < 16 := by omega
  have eC : f_X3_count (Rep (SH T D c3 c4 m) uc vc) D 4 = some (nI (N 4)) := cnt_D (c := 4) ho (by decide) (j0 4 (by decide)).1
  have fin : ∀ X, f_X6_readTram (Rep (SH T D c3 c4 m) uc vc) 1 = X → f_X6_readRest (Rep (SH T D c3 c4 m) uc vc) 1 3 = (q_b2 X fun v2 g1 => if v2 = 0 then (some (0, g1)) else (q_b2 (f_X6_addTo g1 1 4) fun v4 g3 => if v4 = 0 then (some (0, g3)) else (some (1, g3)))) := by
    intro X hX
    unfold f_X6_readRest
    rw [gC_1, Option.bind_some, if_neg (by decide), if_neg (by decide), if_pos rfl, hX]
  have hfr := pr_fresh (T := T) (D := D) (m := m) (c3 := c3) (c4 := c4) (T2 := T2) (D2 := D2) (m2 := m2) (M := M) (c3b := c3b) (c := 4) (cc := N 4) ho hMs hM hN h16 (by decide) (j0 4 (by decide)).1 h
  rw [show nI 4 = (4 : Int32) from rfl] at hfr
  rcases hfr with ⟨l0, u1, v1, w1, z1, hl0, e1, e2, ⟨s1, k1, l1, x1, t1, ts1⟩, g1, g1v, g1m, g1w⟩ | ⟨y, u1, v1, w1, z1, e1, e2, e3, e4, e5⟩
  · have hpt2 := pr_part (T := T) (D := D) (m := m) (c3 := c3) (c4 := c4) (T2 := T2) (D2 := D2) (m2 := m2) (M := M) (c3b := c3b) (w := 23) (lo := 0) (hi := 60) (by decide) (by decide) (by decide) (by decide) t1
    rw [nI_0, show nI 60 = (60 : Int32) from rfl, show mw 23 = 51 from rfl] at hpt2
    rcases hpt2 with ⟨a, u2, v2, w2, z2, p21, p22, p23, p24, ⟨x2v, hlo2, hhi2, rfl, p25⟩, ⟨s2, k2, l2, x2, t2, ts2⟩, g2, g2v, g2m, g2w⟩ | ⟨a, u2, v2, w2, z2, p21, p22, p23, p24, p25⟩
    · dsimp only at p21
      have hp2 := put_D (T := T) (D := D) (m := m) (c3 := c3) (c4 := c4) (uc := u2) (vc := v2) (i := N 4) (j := 0) hCt.2.2.2.1 (by decide) (by decide) hf (by decide) p25
      rw [nI_0] at hp2
      have tp2 : TKR L (wr u2 (D + 6) (N 4 * 2 + 0) (nI x2v)) v2 w2 z2 s2 k2 l2 x2 := TKR_c (wr_role (by omega)) (wr_role (by omega)) (wr_role (by omega)) (wr_role (by omega)) (wr_off (by omega)) rfl t2
      have hpt3 := pr_part (T := T) (D := D) (m := m) (c3 := c3) (c4 := c4) (T2 := T2) (D2 := D2) (m2 := m2) (M := M) (c3b := c3b) (w := 24) (lo := 1) (hi := 60) (by decide) (by decide) (by decide) (by decide) tp2
      rw [show nI 1 = (1 : Int32) from rfl, show nI 60 = (60 : Int32) from rfl, show mw 24 = 52 from rfl] at hpt3
      rcases hpt3 with ⟨a, u3, v3, w3, z3, p31, p32, p33, p34, ⟨x3v, hlo3, hhi3, rfl, p35⟩, ⟨s3, k3, l3, x3, t3, ts3⟩, g3, g3v, g3m, g3w⟩ | ⟨a, u3, v3, w3, z3, p31, p32, p33, p34, p35⟩
      · dsimp only at p31
        have hp3 := put_D (T := T) (D := D) (m := m) (c3 := c3) (c4 := c4) (uc := u3) (vc := v3) (i := N 4) (j := 1) hCt.2.2.2.1 (by decide) (by decide) hf (by decide) p35
        rw [show nI 1 = (1 : Int32) from rfl] at hp3
        have cq : ∀ q, q ≠ 1 → q ≠ 26 → q ≠ D + 6 → u3 q = uc q := fun q h1 h2 h3 => by
          rw [cfT_q g3 h1, wr_off h3, cfT_q g2 h1, cfT_q g1 h1]
          unfold nwU
          rw [wr_off h1, wr_off h2, wr_off h2]
        have c2 : u3 (D + 6) = upd (uc (D + 6)) (N 4 * 2 + 0) (nI x2v) := by
          rw [cfT_q g3 (by omega), wr_arr, cfT_q g2 (by omega), cfT_q g1 (by omega)]
          unfold nwU
          rw [wr_off (by omega), wr_off (by omega), wr_off (by omega)]
        have c26 : u3 26 = upd (upd (uc 26) (nn * 2 + 0) (nI 4)) (nn * 2 + 1) (nI (N 4)) := by
          rw [cfT_q g3 (by omega), wr_off (by omega), cfT_q g2 (by omega), cfT_q g1 (by omega)]
          unfold nwU
          rw [wr_off (by omega), wr_arr, wr_arr]
        have c5 : u3 1 5 = nI (nn + 1) := by
          rw [cfT_5 g3, wr_role (by omega), cfT_5 g2, cfT_5 g1]
          exact wr_same _ _ _ _
        have cv : v3 24 = wrL vc 24 nn (rv 27 l0) 24 := by rw [cfV_q g3v (by decide), cfV_q g2v (by decide), cfV_q g1v (by decide)]
        have cad : f_X6_addTo (Rep (SH T D c3 c4 m) (wr u3 (D + 6) (N 4 * 2 + 1) (nI x3v)) v3) 1 4 = some (1, Rep (SH T D c3 c4 m) (wr (wr u3 (D + 6) (N 4 * 2 + 1) (nI x3v)) (D + 20) 4 (nI (N 4 + 1))) v3) := add_D (c := 4) ho (by decide) (by rw [wr_role (by omega), cq _ (by omega) (by omega) (by omega)]; exact (j0 4 (by decide)).1)
        have mq : ∀ q, q ≠ 75 → w3 q = um q := fun q h1 => by rw [mfT_q g3m h1, mfT_q g2m h1, mfT_q g1m h1]
        have mv : z3 (M + 22) = vm (M + 22) := by rw [mfV_q g3w (by omega), mfV_q g2w (by omega), mfV_q g1w (by omega)]
        have mn : w3 M 10 = nI nn := by rw [mq M (by omega)]; exact hN.2.1
        have m2' : w3 M 4 = nI (N 4) := by rw [mq M (by omega)]; exact (j0 4 (by decide)).2.1
        have n9 : ¬ w3 75 9 = 5 := by
          obtain ⟨-, -, -, -, -, hk5, -, -, e, -, -, -, -, hMt⟩ := t3
          rw [hMt.1]; exact mkK_ne hk5
        have ma0 : nmU w3 M nn 2 (nI (N 4)) M 4 = nI (N 4) := by unfold nmU; rw [wr_ix (by decide), wr_role (by omega), wr_role (by omega), m2']
        have ma1 : wr (nmU w3 M nn 2 (nI (N 4))) (M + 9) (N 4) (nI x2v) M 4 = nI (N 4) := by rw [wr_role (by omega), ma0]
        have ma2 : wr (wr (nmU w3 M nn 2 (nI (N 4))) (M + 9) (N 4) (nI x2v)) (M + 10) (N 4) (nI x3v) M 4 = nI (N 4) := by rw [wr_role (by omega), ma1]
        refine Or.inl ⟨wr (wr u3 (D + 6) (N 4 * 2 + 1) (nI x3v)) (D + 20) 4 (nI (N 4 + 1)), v3, wr (wr (wr (nmU w3 M nn 2 (nI (N 4))) (M + 9) (N 4) (nI x2v)) (M + 10) (N 4) (nI x3v)) M 4 (nI (N 4 + 1)), wrL z3 (M + 22) nn (rv 32 l0), ?_, ?_, ?_, ?_, ⟨?_, ?_⟩, ⟨s3, k3, l3, x3, ?_, by omega⟩, updN N 4 (N 4 + 1), ?_, ?_⟩
        · rw [fin _ rfl]
          unfold f_X6_readTram
          rw [gC_1, Option.bind_some, gR_1_2, Option.bind_some, eC, Option.bind_some, e1, q_b2_some, if_neg (by decide), p21, gR_1_2, Option.bind_some, cR_2 hCt, Option.bind_some, hp2, q_b2_some, if_neg (by decide), p31, gR_1_2, Option.bind_some, cR_2 hCt, Option.bind_some, hp3, q_b2_some, if_neg (by decide), q_b2_some, if_neg (by decide), cad, q_b2_some, if_neg (by decide)]
        · unfold mTram
          rw [e2, q_b2_some, p22, q_b2_some, p32, q_b2_some, gI_75_9, Option.bind_some, if_neg n9, gR_75_4, Option.bind_some, mI_4 hMs, Option.bind_some, m2', mod_names hMs mn h16, Option.bind_some, gR_75_4, Option.bind_some, mR_19 hMs, Option.bind_some, Option.bind_some, mI_4 hMs, Option.bind_some, ma0, ms_9 hMs hf, Option.bind_some, gR_75_4, Option.bind_some, mR_20 hMs, Option.bind_some, Option.bind_some, mI_4 hMs, Option.bind_some, ma1, ms_10 hMs hf, Option.bind_some, gR_75_4, Option.bind_some, mI_4 hMs, Option.bind_some, ma2, nI_1, mW_4 hMs, Option.bind_some]
        · exact rdC_wr (rdC_wr (rdC_trans (rdC_wr (rdC_trans (rdC_trans (rdC_wr (rdC_wr (rdC_wr rdC_refl (by omega)) (by omega)) (by omega)) (rdC_T g1)) (rdC_T g2)) (by omega)) (rdC_T g3)) (by omega)) (by omega)
        · exact rdM_wr (rdM_wr (rdM_wr (rdM_wr (rdM_wr (rdM_wr (rdM_trans (rdM_trans (rdM_T g1m) (rdM_T g2m)) (rdM_T g3m)) (by omega)) (by omega)) (by omega)) (by omega)) (by omega)) (by omega)
        · rw [wr_role (by omega), wr_role (by omega), cfT_13 g3, wr_role (by omega), cfT_13 g2, cfT_13 g1]
          unfold nwU
          rw [wr_ix (by decide), wr_role (by omega), wr_role (by omega)]
        · unfold nmU
          rw [wr_role (by omega), wr_role (by omega), wr_role (by omega), wr_role (by omega), wr_role (by omega), wr_role (by omega), mfT_12 g3m, mfT_12 g2m, mfT_12 g1m]
        · refine TKR_c (uc := u3) ?_ ?_ ?_ ?_ ?_ rfl (TKR_m (um := w3) ?_ ?_ ?_ t3)
          · rw [wr_role (by omega), wr_role (by omega)]
          · rw [wr_role (by omega), wr_role (by omega)]
          · rw [wr_role (by omega), wr_role (by omega)]
          · rw [wr_role (by omega), wr_role (by omega)]
          · rw [wr_off (by omega), wr_off (by omega)]
          · unfold nmU; rw [wr_off (by omega), wr_off (by omega), wr_off (by omega), wr_off (by omega), wr_off (by omega), wr_off (by omega)]
          · unfold nmU; rw [wr_off (by omega), wr_off (by omega), wr_off (by omega), wr_off (by omega), wr_off (by omega), wr_off (by omega)]
          · exact wrL_role (by omega)
        · have hoff : ∀ q, q ≠ 1 → q ≠ 26 → q ≠ D + 6 → q ≠ D + 20 → wr (wr u3 (D + 6) (N 4 * 2 + 1) (nI x3v)) (D + 20) 4 (nI (N 4 + 1)) q = uc q := fun q h1 h2 h3 h4 => by rw [wr_off h4, wr_off h3, cq q h1 h2 h3]
          have hom : ∀ q, q ≠ 75 → q ≠ M → q ≠ M + 9 → q ≠ M + 10 → q ≠ M + 23 → q ≠ M + 24 → wr (wr (wr (nmU w3 M nn 2 (nI (N 4))) (M + 9) (N 4) (nI x2v)) (M + 10) (N 4) (nI x3v)) M 4 (nI (N 4 + 1)) q = um q := fun q h0 h1 h2 h3 h4 h5 => by
            unfold nmU
            rw [wr_off h1, wr_off h3, wr_off h2, wr_off h1, wr_off h5, wr_off h4, mq q h0]
          have hn : ∀ q, q ≠ 4 → updN N 4 (N 4 + 1) q = N q := fun q hq => by rw [updN_at, if_neg hq]
          have hn2 : updN N 4 (N 4 + 1) 4 = N 4 + 1 := if_pos rfl
          have kc : wr (wr u3 (D + 6) (N 4 * 2 + 1) (nI x3v)) (D + 20) 4 (nI (N 4 + 1)) (D + 6) = upd (upd (uc (D + 6)) (N 4 * 2 + 0) (nI x2v)) (N 4 * 2 + 1) (nI x3v) := by rw [wr_off (by omega), wr_arr, c2]
          have km0 : wr (wr (wr (nmU w3 M nn 2 (nI (N 4))) (M + 9) (N 4) (nI x2v)) (M + 10) (N 4) (nI x3v)) M 4 (nI (N 4 + 1)) (M + 9) = upd (um (M + 9)) (N 4) (nI x2v) := by
            unfold nmU
            rw [wr_off (by omega), wr_off (by omega), wr_arr, wr_off (by omega), wr_off (by omega), wr_off (by omega), mq _ (by omega)]
          have km1 : wr (wr (wr (nmU w3 M nn 2 (nI (N 4))) (M + 9) (N 4) (nI x2v)) (M + 10) (N 4) (nI x3v)) M 4 (nI (N 4 + 1)) (M + 10) = upd (um (M + 10)) (N 4) (nI x3v) := by
            unfold nmU
            rw [wr_off (by omega), wr_arr, wr_off (by omega), wr_off (by omega), wr_off (by omega), wr_off (by omega), mq _ (by omega)]
          refine ⟨ad_Cnt (by decide) (show N 4 + 1 ≤ 4 by omega) ?_ ?_ j0, cg_Thing (hoff _ (by omega) (by omega) (by omega) (by omega)) (hom _ (by omega) (by omega) (by omega) (by omega) (by omega) (by omega)) (hom _ (by omega) (by omega) (by omega) (by omega) (by omega) (by omega)) (hn 2 (by decide)) j1, cg_Pers (hoff _ (by omega) (by omega) (by omega) (by omega)) (hom _ (by omega) (by omega) (by omega) (by omega) (by omega) (by omega)) (hom _ (by omega) (by omega) (by omega) (by omega) (by omega) (by omega)) (hom _ (by omega) (by omega) (by omega) (by omega) (by omega) (by omega)) (hn 3 (by decide)) j2, ⟨?_, ?_⟩, cg_Givr (hoff _ (by omega) (by omega) (by omega) (by omega)) (hom _ (by omega) (by omega) (by omega) (by omega) (by omega) (by omega)) (hn 5 (by decide)) j4, cg_Ride (hoff _ (by omega) (by omega) (by omega) (by omega)) (hom _ (by omega) (by omega) (by omega) (by omega) (by omega) (by omega)) (updN_le 4) j5, cg_Take (hoff _ (by omega) (by omega) (by omega) (by omega)) (hom _ (by omega) (by omega) (by omega) (by omega) (by omega) (by omega)) (updN_le 4) j6, cg_Gift (hoff _ (by omega) (by omega) (by omega) (by omega)) (hom _ (by omega) (by omega) (by omega) (by omega) (by omega) (by omega)) (hom _ (by omega) (by omega) (by omega) (by omega) (by omega) (by omega)) (hom _ (by omega) (by omega) (by omega) (by omega) (by omega) (by omega)) (hom _ (by omega) (by omega) (by omega) (by omega) (by omega) (by omega)) (hn 7 (by decide)) updN_le j7, cg_Fnd (hoff _ (by omega) (by omega) (by omega) (by omega)) (hom _ (by omega) (by omega) (by omega) (by omega) (by omega) (by omega)) (hom _ (by omega) (by omega) (by omega) (by omega) (by omega) (by omega)) (hn 8 (by decide)) updN_le j8, cg_Exam (hoff _ (by omega) (by omega) (by omega) (by omega)) (hom _ (by omega) (by omega) (by omega) (by omega) (by omega) (by omega)) (hom _ (by omega) (by omega) (by omega) (by omega) (by omega) (by omega)) (hom _ (by omega) (by omega) (by omega) (by omega) (by omega) (by omega)) (hom _ (by omega) (by omega) (by omega) (by omega) (by omega) (by omega)) (hom _ (by omega) (by omega) (by omega) (by omega) (by omega) (by omega)) (hn 9 (by decide)) updN_le j9, ?_⟩
          · rw [wr_arr, wr_off (by omega), cq _ (by omega) (by omega) (by omega)]
          · intro q hq
            unfold nmU
            by_cases e : q = 4
            · subst e; rw [wr_same, if_pos rfl]
            · rw [wr_ix e, wr_role (by omega), wr_role (by omega), wr_ix (by omega), wr_role (by omega), wr_role (by omega), if_neg e, mq _ (by omega)]
          · unfold r2Tram
            rw [kc, km0, km1, hn2]
            intro t ht
            simp -implicitDefEqProofs only [upd_at]
            by_cases e : t = N 4
            · subst e
              refine ⟨?_, ?_⟩
              · rw [if_neg (by omega), if_pos rfl, if_pos rfl]
              · rw [if_pos rfl, if_pos rfl]
            · obtain ho1 := j3.1 t (by omega)
              simp -implicitDefEqProofs only [show ¬ t * 2 + 0 = N 4 * 2 + 0 from by omega, show ¬ t * 2 + 0 = N 4 * 2 + 1 from by omega, show ¬ t * 2 + 1 = N 4 * 2 + 0 from by omega, show ¬ t * 2 + 1 = N 4 * 2 + 1 from by omega, e, if_false]
              exact ho1
          · unfold b2Tram
            rw [km0, km1, hn2]
            intro t ht
            simp -implicitDefEqProofs only [upd_at]
            by_cases e : t = N 4
            · simp -implicitDefEqProofs only [e, if_true]; exact ⟨x2v, x3v, hhi2, hlo3, hhi3, rfl, rfl⟩
            · simp -implicitDefEqProofs only [e, if_false]; exact j3.2 t (by omega)
          · rw [hn 0 (by decide)]; exact j10
        · refine J2_add (c := 4) (l0 := l0) (uc := uc) (vc := vc) (um := um) (vm := vm) (by omega) hl0 (by omega) ?_ ?_ ?_ ?_ ?_ ?_ ?_ (by omega) ⟨nm, ss, xx, by rw [hnn]; exact hN, by rw [hnn]; exact hxx⟩
          · rw [hnn, wr_role (by omega), wr_role (by omega), c5]
          · rw [hnn, wr_off (by omega), wr_off (by omega), c26]
          · unfold nmU
            rw [hnn, wr_ix (by decide), wr_role (by omega), wr_role (by omega), wr_same]
          · unfold nmU
            rw [hnn, wr_off (by omega), wr_off (by omega), wr_off (by omega), wr_off (by omega), wr_off (by omega), wr_arr, mq _ (by omega)]
            rfl
          · unfold nmU
            rw [hnn, wr_off (by omega), wr_off (by omega), wr_off (by omega), wr_off (by omega), wr_arr, wr_off (by omega), mq _ (by omega)]
          · intro j
            rw [hnn, cv]
            unfold wrL
            simp -implicitDefEqProofs only [true_and]
          · intro j
            rw [hnn]
            unfold wrL
            simp -implicitDefEqProofs only [true_and]
            rw [mv]
      · dsimp only at p31
        have p5' := p35
        obtain ⟨dn, ds, -, -, -, -, -, -, h5⟩ := p5'
        refine Or.inr ⟨u3, v3, w3, z3, ?_, ?_, ?_, ?_, p35⟩
        · rw [fin _ rfl]
          unfold f_X6_readTram
          rw [gC_1, Option.bind_some, gR_1_2, Option.bind_some, eC, Option.bind_some, e1, q_b2_some, if_neg (by decide), p21, gR_1_2, Option.bind_some, cR_2 hCt, Option.bind_some, hp2, q_b2_some, if_neg (by decide), p31, q_b2_some, if_pos rfl]
        · unfold mTram
          rw [e2, q_b2_some]
          rw [p22, q_b2_some, p32, q_b2_some, gI_75_9, Option.bind_some, if_pos h5]
        · exact rdC_trans (rdC_wr (rdC_trans (rdC_trans (rdC_wr (rdC_wr (rdC_wr rdC_refl (by omega)) (by omega)) (by omega)) (rdC_T g1)) (rdC_T g2)) (by omega)) p33
        · exact rdM_trans (rdM_trans (rdM_T g1m) (rdM_T g2m)) (rdM_F p34)
    · dsimp only at p21
      have p5' := p25
      obtain ⟨dn, ds, -, -, -, -, -, -, h5⟩ := p5'
      refine Or.inr ⟨u2, v2, w2, z2, ?_, ?_, ?_, ?_, p25⟩
      · rw [fin _ rfl]
        unfold f_X6_readTram
        rw [gC_1, Option.bind_some, gR_1_2, Option.bind_some, eC, Option.bind_some, e1, q_b2_some, if_neg (by decide), p21, q_b2_some, if_pos rfl]
      · unfold mTram
        rw [e2, q_b2_some]
        rw [p22, q_b2_some, part_dead h5, q_b2_some, gI_75_9, Option.bind_some, if_pos h5]
      · exact rdC_trans (rdC_trans (rdC_wr (rdC_wr (rdC_wr rdC_refl (by omega)) (by omega)) (by omega)) (rdC_T g1)) p23
      · exact rdM_trans (rdM_T g1m) (rdM_F p24)
  · have e5' := e5
    obtain ⟨dn, ds, -, -, -, -, -, -, h5⟩ := e5'
    refine Or.inr ⟨u1, v1, w1, z1, ?_, ?_, e3, rdM_F e4, e5⟩
    · rw [fin _ rfl]
      unfold f_X6_readTram
      rw [gC_1, Option.bind_some, gR_1_2, Option.bind_some, eC, Option.bind_some, e1, q_b2_some, if_pos rfl, q_b2_some, if_pos rfl]
    · unfold mTram
      rw [e2, q_b2_some, part_dead h5, q_b2_some, part_dead h5, q_b2_some, gI_75_9, Option.bind_some, if_pos h5]
def mGivr (g : qS) : Option qS := q_b2 (f_X12_readFresh g 75) fun v5 g4 => q_b2 (f_X12_readPart g4 75 53 0 60) fun v7 g6 => (g_I g6 75 11 9).bind fun v8 => if v8 = 5 then (some g6) else ((g_R g6 75 11 4).bind fun v9 => (g_I g6 v9 10 5).bind fun v10 => (f_X12_names g6 75 v5 3 v10).bind fun g11 => (g_R g11 75 11 4).bind fun v12 => (g_R g11 v12 10 21).bind fun v13 => (g_R g11 75 11 4).bind fun v14 => (g_I g11 v14 10 5).bind fun v15 => (s_I g11 v13 v15 v7).bind fun g16 => (g_R g16 75 11 4).bind fun v17 => (g_I g16 v17 10 5).bind fun v18 => (p_I g16 v17 10 5 (v18 + 1)).bind fun g19 => some g19)
theorem ln_givr (ho : okTD T D) (hMs : mSh (SH T2 D2 c3b (fR M) m2) M) (hM : 88 ≤ M) (h : TKR L uc vc um vm s k l x) (hJ : J1 uc um D M N) (hJ2 : J2 uc vc um vm M N) (hf : N 5 < 3) : LNE T D m c3 c4 T2 D2 m2 M c3b L s uc um (f_X6_readRest (Rep (SH T D c3 c4 m) uc vc) 1 4) (mGivr (Rep (SH T2 D2 c3b (fR M) m2) um vm)) := by
  have hCt := SH_draft (c3 := c3) (c4 := c4) (m := m) ho
  have hD : D = 54 ∨ D = 3 := by rcases ho with ⟨rfl, rfl⟩ | ⟨rfl, rfl⟩ <;> simp
  obtain ⟨j0, j1, j2, j3, j4, j5, j6, j7, j8, j9, j10⟩ := hJ
  have b2 : N 2 ≤ 4 := (j0 2 (by decide)).2.2
  have b3 : N 3 ≤ 5 := (j0 3 (by decide)).2.2
  have b4 : N 4 ≤ 4 := (j0 4 (by decide)).2.2
  have b5 : N 5 ≤ 3 := (j0 5 (by decide)).2.2
  obtain ⟨nm, ss, xx, hN, hxx⟩ := hJ2
  generalize hnn : N 2 + N 3 + N 4 + N 5 = nn at *
  have h16 : nn < 16 := by omega
  have eC : f_X3_count (Rep (SH T D c3 c4 m) uc vc) D 5 = some (nI (N 5)) := cnt_D (c := 5) ho (by decide) (j0 5 (by decide)).1
  have fin : ∀ X, f_X6_readGiver (Rep (SH T D c3 c4 m) uc vc) 1 = X → f_X6_readRest (Rep (SH T D c3 c4 m) uc vc) 1 4 = (q_b2 X fun v2 g1 => if v2 = 0 then (some (0, g1)) else (q_b2 (f_X6_addTo g1 1 5) fun v4 g3 => if v4 = 0 then (some (0, g3)) else (some (1, g3)))) := by
    intro X hX
    unfold f_X6_readRest
    rw [gC_1, Option.bind_some, if_neg (by decide), if_neg (by decide), if_neg (by decide), if_pos rfl, hX]
  have hfr := pr_fresh (T := T) (D := D) (m := m) (c3 := c3) (c4 := c4) (T2 := T2) (D2 := D2) (m2 := m2) (M := M) (c3b := c3b) (c := 5) (cc := N 5) ho hMs hM hN h16 (by decide) (j0 5 (by decide)).1 h
  rw [show nI 5 = (5 : Int32) from rfl] at hfr
  rcases hfr with ⟨l0, u1, v1, w1, z1, hl0, e1, e2, ⟨s1, k1, l1, x1, t1, ts1⟩, g1, g1v, g1m, g1w⟩ | ⟨y, u1, v1, w1, z1, e1, e2, e3, e4, e5⟩
  · have hpt2 := pr_part (T := T) (D := D) (m := m) (c3 := c3) (c4 := c4) (T2 := T2) (D2 := D2) (m2 := m2) (M := M) (c3b := c3b) (w := 25) (lo := 0) (hi := 60) (by decide) (by decide) (by decide) (by decide) t1
    rw [nI_0, show nI 60 = (60 : Int32) from rfl, show mw 25 = 53 from rfl] at hpt2
    rcases hpt2 with ⟨a, u2, v2, w2, z2, p21, p22, p23, p24, ⟨x2v, hlo2, hhi2, rfl, p25⟩, ⟨s2, k2, l2, x2, t2, ts2⟩, g2, g2v, g2m, g2w⟩ | ⟨a, u2, v2, w2, z2, p21, p22, p23, p24, p25⟩
    · dsimp only at p21
      have hp2 := put_D (T := T) (D := D) (m := m) (c3 := c3) (c4 := c4) (uc := u2) (vc := v2) (i := N 5) (j := 0) hCt.2.2.2.2.1 (by decide) (by decide) hf (by decide) p25
      rw [nI_0] at hp2
      have cq : ∀ q, q ≠ 1 → q ≠ 26 → q ≠ D + 8 → u2 q = uc q := fun q h1 h2 h3 => by
        rw [cfT_q g2 h1, cfT_q g1 h1]
        unfold nwU
        rw [wr_off h1, wr_off h2, wr_off h2]
      have c2 : u2 (D + 8) = uc (D + 8) := by
        rw [cfT_q g2 (by omega), cfT_q g1 (by omega)]
        unfold nwU
        rw [wr_off (by omega), wr_off (by omega), wr_off (by omega)]
      have c26 : u2 26 = upd (upd (uc 26) (nn * 2 + 0) (nI 5)) (nn * 2 + 1) (nI (N 5)) := by
        rw [cfT_q g2 (by omega), cfT_q g1 (by omega)]
        unfold nwU
        rw [wr_off (by omega), wr_arr, wr_arr]
      have c5 : u2 1 5 = nI (nn + 1) := by
        rw [cfT_5 g2, cfT_5 g1]
        exact wr_same _ _ _ _
      have cv : v2 24 = wrL vc 24 nn (rv 27 l0) 24 := by rw [cfV_q g2v (by decide), cfV_q g1v (by decide)]
      have cad : f_X6_addTo (Rep (SH T D c3 c4 m) (wr u2 (D + 8) (N 5 * 1 + 0) (nI x2v)) v2) 1 5 = some (1, Rep (SH T D c3 c4 m) (wr (wr u2 (D + 8) (N 5 * 1 + 0) (nI x2v)) (D + 20) 5 (nI (N 5 + 1))) v2) := add_D (c := 5) ho (by decide) (by rw [wr_role (by omega), cq _ (by omega) (by omega) (by omega)]; exact (j0 5 (by decide)).1)
      have mq : ∀ q, q ≠ 75 → w2 q = um q := fun q h1 => by rw [mfT_q g2m h1, mfT_q g1m h1]
      have mv : z2 (M + 22) = vm (M + 22) := by rw [mfV_q g2w (by omega), mfV_q g1w (by omega)]
      have mn : w2 M 10 = nI nn := by rw [mq M (by omega)]; exact hN.2.1
      have m2' : w2 M 5 = nI (N 5) := by rw [mq M (by omega)]; exact (j0 5 (by decide)).2.1
      have n9 : ¬ w2 75 9 = 5 := by
        obtain ⟨-, -, -, -, -, hk5, -, -, e, -, -, -, -, hMt⟩ := t2
        rw [hMt.1]; exact mkK_ne hk5
      have ma0 : nmU w2 M nn 3 (nI (N 5)) M 5 = nI (N 5) := by unfold nmU; rw [wr_ix (by decide), wr_role (by omega), wr_role (by omega), m2']
      have ma1 : wr (nmU w2 M nn 3 (nI (N 5))) (M + 11) (N 5) (nI x2v) M 5 = nI (N 5) := by rw [wr_role (by omega), ma0]
      refine Or.inl ⟨wr (wr u2 (D + 8) (N 5 * 1 + 0) (nI x2v)) (D + 20) 5 (nI (N 5 + 1)), v2, wr (wr (nmU w2 M nn 3 (nI (N 5))) (M + 11) (N 5) (nI x2v)) M 5 (nI (N 5 + 1)), wrL z2 (M + 22) nn (rv 32 l0), ?_, ?_, ?_, ?_, ⟨?_, ?_⟩, ⟨s2, k2, l2, x2, ?_, by omega⟩, updN N 5 (N 5 + 1), ?_, ?_⟩
      · rw [fin _ rfl]
        unfold f_X6_readGiver
        rw [gC_1, Option.bind_some, gR_1_2, Option.bind_some, eC, Option.bind_some, e1, q_b2_some, if_neg (by decide), p21, gR_1_2, Option.bind_some, cR_3 hCt, Option.bind_some, hp2, q_b2_some, if_neg (by decide), q_b2_some, if_neg (by decide), cad, q_b2_some, if_neg (by decide)]
      · unfold mGivr
        rw [e2, q_b2_some, p22, q_b2_some, gI_75_9, Option.bind_some, if_neg n9, gR_75_4, Option.bind_some, mI_5 hMs, Option.bind_some, m2', mod_names hMs mn h16, Option.bind_some, gR_75_4, Option.bind_some, mR_21 hMs, Option.bind_some, Option.bind_some, mI_5 hMs, Option.bind_some, ma0, ms_11 hMs hf, Option.bind_some, gR_75_4, Option.bind_some, mI_5 hMs, Option.bind_some, ma1, nI_1, mW_5 hMs, Option.bind_some]
      · exact rdC_wr (rdC_wr (rdC_trans (rdC_trans (rdC_wr (rdC_wr (rdC_wr rdC_refl (by omega)) (by omega)) (by omega)) (rdC_T g1)) (rdC_T g2)) (by omega)) (by omega)
      · exact rdM_wr (rdM_wr (rdM_wr (rdM_wr (rdM_wr (rdM_trans (rdM_T g1m) (rdM_T g2m)) (by omega)) (by omega)) (by omega)) (by omega)) (by omega)
      · rw [wr_role (by omega), wr_role (by omega), cfT_13 g2, cfT_13 g1]
        unfold nwU
        rw [wr_ix (by decide), wr_role (by omega), wr_role (by omega)]
      · unfold nmU
        rw [wr_role (by omega), wr_role (by omega), wr_role (by omega), wr_role (by omega), wr_role (by omega), mfT_12 g2m, mfT_12 g1m]
      · refine TKR_c (uc := u2) ?_ ?_ ?_ ?_ ?_ rfl (TKR_m (um := w2) ?_ ?_ ?_ t2)
        · rw [wr_role (by omega), wr_role (by omega)]
        · rw [wr_role (by omega), wr_role (by omega)]
        · rw [wr_role (by omega), wr_role (by omega)]
        · rw [wr_role (by omega), wr_role (by omega)]
        · rw [wr_off (by omega), wr_off (by omega)]
        · unfold nmU; rw [wr_off (by omega), wr_off (by omega), wr_off (by omega), wr_off (by omega), wr_off (by omega)]
        · unfold nmU; rw [wr_off (by omega), wr_off (by omega), wr_off (by omega), wr_off (by omega), wr_off (by omega)]
        · exact wrL_role (by omega)
      · have hoff : ∀ q, q ≠ 1 → q ≠ 26 → q ≠ D + 8 → q ≠ D + 20 → wr (wr u2 (D + 8) (N 5 * 1 + 0) (nI x2v)) (D + 20) 5 (nI (N 5 + 1)) q = uc q := fun q h1 h2 h3 h4 => by rw [wr_off h4, wr_off h3, cq q h1 h2 h3]
        have hom : ∀ q, q ≠ 75 → q ≠ M → q ≠ M + 11 → q ≠ M + 23 → q ≠ M + 24 → wr (wr (nmU w2 M nn 3 (nI (N 5))) (M + 11) (N 5) (nI x2v)) M 5 (nI (N 5 + 1)) q = um q := fun q h0 h1 h2 h3 h4 => by
          unfold nmU
          rw [wr_off h1, wr_off h2, wr_off h1, wr_off h4, wr_off h3, mq q h0]
        have hn : ∀ q, q ≠ 5 → updN N 5 (N 5 + 1) q = N q := fun q hq => by rw [updN_at, if_neg hq]
        have hn2 : updN N 5 (N 5 + 1) 5 = N 5 + 1 := if_pos rfl
        have kc : wr (wr u2 (D + 8) (N 5 * 1 + 0) (nI x2v)) (D + 20) 5 (nI (N 5 + 1)) (D + 8) = upd (uc (D + 8)) (N 5 * 1 + 0) (nI x2v) := by rw [wr_off (by omega), wr_arr, c2]
        have km0 : wr (wr (nmU w2 M nn 3 (nI (N 5))) (M + 11) (N 5) (nI x2v)) M 5 (nI (N 5 + 1)) (M + 11) = upd (um (M + 11)) (N 5) (nI x2v) := by
          unfold nmU
          rw [wr_off (by omega), wr_arr, wr_off (by omega), wr_off (by omega), wr_off (by omega), mq _ (by omega)]
        refine ⟨ad_Cnt (by decide) (show N 5 + 1 ≤ 3 by omega) ?_ ?_ j0, cg_Thing (hoff _ (by omega) (by omega) (by omega) (by omega)) (hom _ (by omega) (by omega) (by omega) (by omega) (by omega)) (hom _ (by omega) (by omega) (by omega) (by omega) (by omega)) (hn 2 (by decide)) j1, cg_Pers (hoff _ (by omega) (by omega) (by omega) (by omega)) (hom _ (by omega) (by omega) (by omega) (by omega) (by omega)) (hom _ (by omega) (by omega) (by omega) (by omega) (by omega)) (hom _ (by omega) (by omega) (by omega) (by omega) (by omega)) (hn 3 (by decide)) j2, cg_Tram (hoff _ (by omega) (by omega) (by omega) (by omega)) (hom _ (by omega) (by omega) (by omega) (by omega) (by omega)) (hom _ (by omega) (by omega) (by omega) (by omega) (by omega)) (hn 4 (by decide)) j3, ⟨?_, ?_⟩, cg_Ride (hoff _ (by omega) (by omega) (by omega) (by omega)) (hom _ (by omega) (by omega) (by omega) (by omega) (by omega)) (updN_le 4) j5, cg_Take (hoff _ (by omega) (by omega) (by omega) (by omega)) (hom _ (by omega) (by omega) (by omega) (by omega) (by omega)) (updN_le 4) j6, cg_Gift (hoff _ (by omega) (by omega) (by omega) (by omega)) (hom _ (by omega) (by omega) (by omega) (by omega) (by omega)) (hom _ (by omega) (by omega) (by omega) (by omega) (by omega)) (hom _ (by omega) (by omega) (by omega) (by omega) (by omega)) (hom _ (by omega) (by omega) (by omega) (by omega) (by omega)) (hn 7 (by decide)) updN_le j7, cg_Fnd (hoff _ (by omega) (by omega) (by omega) (by omega)) (hom _ (by omega) (by omega) (by omega) (by omega) (by omega)) (hom _ (by omega) (by omega) (by omega) (by omega) (by omega)) (hn 8 (by decide)) updN_le j8, cg_Exam (hoff _ (by omega) (by omega) (by omega) (by omega)) (hom _ (by omega) (by omega) (by omega) (by omega) (by omega)) (hom _ (by omega) (by omega) (by omega) (by omega) (by omega)) (hom _ (by omega) (by omega) (by omega) (by omega) (by omega)) (hom _ (by omega) (by omega) (by omega) (by omega) (by omega)) (hom _ (by omega) (by omega) (by omega) (by omega) (by omega)) (hn 9 (by decide)) updN_le j9, ?_⟩
        · rw [wr_arr, wr_off (by omega), cq _ (by omega) (by omega) (by omega)]
        · intro q hq
          unfold nmU
          by_cases e : q = 5
          · subst e; rw [wr_same, if_pos rfl]
          · rw [wr_ix e, wr_role (by omega), wr_ix (by omega), wr_role (by omega), wr_role (by omega), if_neg e, mq _ (by omega)]
        · unfold r2Givr
          rw [kc, km0, hn2]
          intro t ht
          simp -implicitDefEqProofs only [upd_at]
          by_cases e : t = N 5
          · subst e
            refine ?_
            · rw [if_pos rfl, if_pos rfl]
          · obtain ho1 := j4.1 t (by omega)
            simp -implicitDefEqProofs only [show ¬ t * 1 + 0 = N 5 * 1 + 0 from by omega, e, if_false]
            exact ho1
        · unfold b2Givr
          rw [km0, hn2]
          intro t ht
          simp -implicitDefEqProofs only [upd_at]
          by_cases e : t = N 5
          · simp -implicitDefEqProofs only [e, if_true]; exact ⟨x2v, hhi2, rfl⟩
          · simp -implicitDefEqProofs only [e, if_false]; exact j4.2 t (by omega)
        · rw [hn 0 (by decide)]; exact j10
      · refine J2_add (c := 5) (l0 := l0) (uc := uc) (vc := vc) (um := um) (vm := vm) (by omega) hl0 (by omega) ?_ ?_ ?_ ?_ ?_ ?_ ?_ (by omega) ⟨nm, ss, xx, by rw [hnn]; exact hN, by rw [hnn]; exact hxx⟩
        · rw [hnn, wr_role (by omega), wr_role (by omega), c5]
        · rw [hnn, wr_off (by omega), wr_off (by omega), c26]
        · unfold nmU
          rw [hnn, wr_ix (by decide), wr_role (by omega), wr_same]
        · unfold nmU
          rw [hnn, wr_off (by omega), wr_off (by omega), wr_off (by omega), wr_off (by omega), wr_arr, mq _ (by omega)]
          rfl
        · unfold nmU
          rw [hnn, wr_off (by omega), wr_off (by omega), wr_off (by omega), wr_arr, wr_off (by omega), mq _ (by omega)]
        · intro j
          rw [hnn, cv]
          unfold wrL
          simp -implicitDefEqProofs only [true_and]
        · intro j
          rw [hnn]
          unfold wrL
          simp -implicitDefEqProofs only [true_and]
          rw [mv]
    · dsimp only at p21
      have p5' := p25
      obtain ⟨dn, ds, -, -, -, -, -, -, h5⟩ := p5'
      refine Or.inr ⟨u2, v2, w2, z2, ?_, ?_, ?_, ?_, p25⟩
      · rw [fin _ rfl]
        unfold f_X6_readGiver
        rw [gC_1, Option.bind_some, gR_1_2, Option.bind_some, eC, Option.bind_some, e1, q_b2_some, if_neg (by decide), p21, q_b2_some, if_pos rfl]
      · unfold mGivr
        rw [e2, q_b2_some]
        rw [p22, q_b2_some, gI_75_9, Option.bind_some, if_pos h5]
      · exact rdC_trans (rdC_trans (rdC_wr (rdC_wr (rdC_wr rdC_refl (by omega)) (by omega)) (by omega)) (rdC_T g1)) p23
      · exact rdM_trans (rdM_T g1m) (rdM_F p24)
  · have e5' := e5
    obtain ⟨dn, ds, -, -, -, -, -, -, h5⟩ := e5'
    refine Or.inr ⟨u1, v1, w1, z1, ?_, ?_, e3, rdM_F e4, e5⟩
    · rw [fin _ rfl]
      unfold f_X6_readGiver
      rw [gC_1, Option.bind_some, gR_1_2, Option.bind_some, eC, Option.bind_some, e1, q_b2_some, if_pos rfl, q_b2_some, if_pos rfl]
    · unfold mGivr
      rw [e2, q_b2_some, part_dead h5, q_b2_some, gI_75_9, Option.bind_some, if_pos h5]
end LI2
