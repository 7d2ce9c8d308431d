section LI4
variable {T D m T2 D2 m2 M : Nat} {c3 c4 c3b : sF} {uc um : mU} {vc vm : mV} {L s k x nn : Nat} {l : List Nat} {N : Nat → Nat}
def mRide (a2 : Nat) (g : qS) : Option qS := q_b2 (f_X12_readKnown g 75 1) fun v5 g4 => q_b2 (f_X12_readKnown g4 75 2) fun v7 g6 => (g_R g6 75 11 4).bind fun v8 => (g_I g6 v8 10 0).bind fun v9 => q_b2 (f_X12_bounded g6 75 0 (v9 - 1)) fun v11 g10 => (g_I g10 75 11 9).bind fun v12 => if v12 = 5 then (J_X12_readRow_69 75 a2 v5 v7 v11 g10) else ((a_I g10 a2 ((7 * v5) + v11)).bind fun v13 => if v13 = (-2) then (J_X12_readRow_69 75 a2 v5 v7 v11 g10) else ((f_X12_flaw g10 75 3).bind fun g14 => J_X12_readRow_69 75 a2 v5 v7 v11 g14))
theorem ln_ride (ho : okTD T D) (hMs : mSh (SH T2 D2 c3b (fR M) m2) M) (hM : 88 ≤ M) (h : TKR L uc vc um vm s k l x) (hJ : J1 uc um D M N) (hJ2 : J2 uc vc um vm M N) (hf : N 6 < 16) : LNE T D m c3 c4 T2 D2 m2 M c3b L s uc um (f_X6_readRest (Rep (SH T D c3 c4 m) uc vc) 1 5) (mRide (M + 8) (Rep (SH T2 D2 c3b (fR M) m2) um vm)) := by
  have hCt := SH_draft (c3 := c3) (c4 := c4) (m := m) ho
  have hD : D = 54 ∨ D = 3 := by rcases ho with ⟨rfl, rfl⟩ | ⟨rfl, rfl⟩ <;> simp
  obtain ⟨j0, j1, j2, j3, j4, j5, j6, j7, j8, j9, j10⟩ := hJ
  have b0 : N 0 ≤ 7 := (j0 0 (by decide)).2.2
  have b3 : N 3 ≤ 5 := (j0 3 (by decide)).2.2
  have b4 : N 4 ≤ 4 := (j0 4 (by decide)).2.2
  have b5 : N 5 ≤ 3 := (j0 5 (by decide)).2.2
  obtain ⟨nm, ss, xx, hN0, hxx⟩ := hJ2
  generalize hnn : N 2 + N 3 + N 4 + N 5 = nn at *
  have hn16 : nn ≤ 16 := hN0.2.2.1
  have hday : nI (N 0) - 1 = nI (N 0 - 1) := by rw [show (1 : Int32) = nI 1 from rfl, nI_dif (by omega)]
  have fin : ∀ X, f_X6_readJourney (Rep (SH T D c3 c4 m) uc vc) 1 3 (D + 15) = X → f_X6_readRest (Rep (SH T D c3 c4 m) uc vc) 1 5 = (q_b2 X fun v2 g1 => if v2 = 0 then (some (0, g1)) else (q_b2 (f_X6_addTo g1 1 6) fun v4 g3 => if v4 = 0 then (some (0, g3)) else (some (1, g3)))) := by
    intro X hX
    unfold f_X6_readRest
    rw [gC_1, Option.bind_some, if_neg (by decide), if_neg (by decide), if_neg (by decide), if_neg (by decide), if_pos rfl, gR_1_2, Option.bind_some, cR_7 hCt, Option.bind_some, hX]
  have dead69 : ∀ (w : mU) (z : mV) (a b c d : Int32), w 75 9 = 5 → J_X12_readRow_69 75 (M + 8) a b c (Rep (SH T2 D2 c3b (fR M) m2) w z) = some (Rep (SH T2 D2 c3b (fR M) m2) w z) := by
    intro w z a b c d h5
    unfold J_X12_readRow_69
    rw [goes_dead h5, Option.bind_some, gI_75_9, Option.bind_some, if_pos h5]
  have hk1 := pr_known (T := T) (D := D) (m := m) (c3 := c3) (c4 := c4) (T2 := T2) (D2 := D2) (m2 := m2) (M := M) (c3b := c3b) (c := 1) hMs hM hN0 (by decide) h
  rw [show nI (1 + 2) = (3 : Int32) from rfl, show nI 1 = (1 : Int32) from rfl] at hk1
  rcases hk1 with ⟨a, u1, v1, w1, z1, e11, e12, e13, e14, ⟨q1, hq1, hs1, rfl, e15⟩, ⟨s1, k1, l1, x1, t1, ts1⟩, g1, g1v, g1m, g1w⟩ | ⟨a, u1, v1, w1, z1, e11, e12, e13, e14, e15⟩
  · have hb1 : xx q1 < N 3 := by have := hxx q1 hq1; rw [hs1] at this; exact this
    have hN1 : NMR u1 v1 w1 z1 M nn nm ss xx := NMR_step hM g1 g1v g1m g1w hN0
    have hk2 := pr_known (T := T) (D := D) (m := m) (c3 := c3) (c4 := c4) (T2 := T2) (D2 := D2) (m2 := m2) (M := M) (c3b := c3b) (c := 2) hMs hM hN1 (by decide) t1
    rw [show nI (2 + 2) = (4 : Int32) from rfl, show nI 2 = (2 : Int32) from rfl] at hk2
    rcases hk2 with ⟨a, u2, v2, w2, z2, e21, e22, e23, e24, ⟨q2, hq2, hs2, rfl, e25⟩, ⟨s2, k2, l2, x2, t2, ts2⟩, g2, g2v, g2m, g2w⟩ | ⟨a, u2, v2, w2, z2, e21, e22, e23, e24, e25⟩
    · have hb2 : xx q2 < N 4 := by have := hxx q2 hq2; rw [hs2] at this; exact this
      have eC0 : f_X3_count (Rep (SH T D c3 c4 m) u2 v2) D 0 = some (nI (N 0)) := by
        have := cnt_D (T := T) (D := D) (m := m) (c3 := c3) (c4 := c4) (uc := u2) (vc := v2) (c := 0) (n := N 0) ho (by decide) (by rw [cfT_q g2 (by omega), cfT_q g1 (by omega)]; exact (j0 0 (by decide)).1)
        rw [nI_0] at this; exact this
      have m0 : w2 M 0 = nI (N 0) := by rw [mfT_q g2m (by omega), mfT_q g1m (by omega)]; exact (j0 0 (by decide)).2.1
      have hbd := bd_case (T := T) (D := D) (m := m) (c3 := c3) (c4 := c4) (T2 := T2) (D2 := D2) (m2 := m2) (M := M) (c3b := c3b) (lo := 0) (hi := N 0 - 1) (by decide) (by omega) t2
      rw [nI_0] at hbd
      rcases hbd with ⟨ck, -, hx2, e31, e32⟩ | ⟨u3, w3, e31, e32, e33, e34, e35⟩
      · obtain ⟨u3, v3, w3, z3, s3, k3, l3, x3, r1, r2, t3, ts3, r5, r6, g3, g3v, g3m, g3w⟩ := adv (T := T) (D := D) (c3 := c3) (c4 := c4) (m := m) (T2 := T2) (D2 := D2) (c3b := c3b) (M := M) (m2 := m2) (y := nI x2) t2 (Or.inr (Or.inl ck))
        have hx7 : x2 < 7 := by omega
        have hp5 : xx q1 < 5 := by omega
        have e31' : f_X6_takeWhole (Rep (SH T D c3 c4 m) u2 v2) 1 0 (nI (N 0 - 1)) = some (1, Rep (SH T D c3 c4 m) u3 v3) := by rw [e31, r1, q_b2_some, zr1]
        have tbl : tSh (SH T D c3 c4 m) (D + 15) (D + 16) 5 7 := hCt.2.2.2.2.2.2.2.2.1
        have eG : f_X8_get (Rep (SH T D c3 c4 m) u3 v3) (D + 15) (nI (xx q1)) (nI x2) = some (uc (D + 16) (xx q1 * 7 + x2)) := by
          rw [tab_get tbl, tG_in (by decide) (by decide) hp5 hx7, cfT_q g3 (by omega), cfT_q g2 (by omega), cfT_q g1 (by omega)]
        have hix : (7 : Int32) * nI (xx q1) + nI x2 = nI (7 * xx q1 + x2) := by rw [show (7 : Int32) = nI 7 from rfl, nI_mul, nI_add]
        have hrow := j5 (xx q1) x2 hp5 hx7
        have mrow : w2 (M + 8) (7 * xx q1 + x2) = um (M + 8) (7 * xx q1 + x2) := by rw [mfT_q g2m (by omega), mfT_q g1m (by omega)]
        have n9 : ¬ w2 75 9 = 5 := by
          obtain ⟨-, -, -, -, -, hk5, -, -, e, -, -, -, -, hMt⟩ := t2
          rw [hMt.1]; exact mkK_ne hk5
        have n9' : ¬ w3 75 9 = 5 := by
          obtain ⟨-, -, -, -, -, hk5, -, -, e, -, -, -, -, hMt⟩ := t3
          rw [hMt.1]; exact mkK_ne hk5
        by_cases cr : um (M + 8) (7 * xx q1 + x2) = -2
        · have clt : uc (D + 16) (xx q1 * 7 + x2) < 0 := by rw [hrow.1, cr]; decide
          have eS : f_X8_set (Rep (SH T D c3 c4 m) u3 v3) (D + 15) (nI (xx q1)) (nI x2) (nI (xx q2)) = some (Rep (SH T D c3 c4 m) (wr u3 (D + 16) (xx q1 * 7 + x2) (nI (xx q2))) v3) := by
            rw [tab_set tbl, tS_in (by decide) (by decide) hp5 hx7]
          have cq : ∀ q, q ≠ 1 → u3 q = uc q := fun q h1 => by rw [cfT_q g3 h1, cfT_q g2 h1, cfT_q g1 h1]
          have mq : ∀ q, q ≠ 75 → w3 q = um q := fun q h1 => by rw [mfT_q g3m h1, mfT_q g2m h1, mfT_q g1m h1]
          have cad : f_X6_addTo (Rep (SH T D c3 c4 m) (wr u3 (D + 16) (xx q1 * 7 + x2) (nI (xx q2))) v3) 1 6 = some (1, Rep (SH T D c3 c4 m) (wr (wr u3 (D + 16) (xx q1 * 7 + x2) (nI (xx q2))) (D + 20) 6 (nI (N 6 + 1))) v3) := add_D (c := 6) ho (by decide) (by rw [wr_role (by omega), cq _ (by omega)]; exact (j0 6 (by decide)).1)
          have m6 : wr w3 (M + 8) (7 * xx q1 + x2) (nI (xx q2)) M 6 = nI (N 6) := by rw [wr_role (by omega), mq _ (by omega)]; exact (j0 6 (by decide)).2.1
          refine Or.inl ⟨wr (wr u3 (D + 16) (xx q1 * 7 + x2) (nI (xx q2))) (D + 20) 6 (nI (N 6 + 1)), v3, wr (wr w3 (M + 8) (7 * xx q1 + x2) (nI (xx q2))) M 6 (nI (N 6 + 1)), z3, ?_, ?_, ?_, ?_, ⟨?_, ?_⟩, ⟨s3, k3, l3, x3, ?_, by omega⟩, updN N 6 (N 6 + 1), ?_, ?_⟩
          · rw [fin _ rfl]
            unfold f_X6_readJourney
            rw [gC_1, Option.bind_some, e11, q_b2_some, if_neg (by decide), gI_1_11, Option.bind_some, e15, e21, q_b2_some, if_neg (by decide), gI_1_11, Option.bind_some, e25, gR_1_2, Option.bind_some, eC0, Option.bind_some, hday, e31', q_b2_some, if_neg (by decide), gI_1_11, Option.bind_some, r5, eG, Option.bind_some, if_pos clt, Option.bind_some, eS, Option.bind_some, q_b2_some, if_neg (by decide), cad, q_b2_some, if_neg (by decide)]
          · unfold mRide
            rw [e12, q_b2_some, e22, q_b2_some, gR_75_4, Option.bind_some, mI_0 hMs, Option.bind_some, m0, hday, e32, q_b2_some, gI_75_9, Option.bind_some, if_neg n9, hix, ma_8 hMs (by omega), Option.bind_some, mrow, if_pos cr]
            unfold J_X12_readRow_69
            rw [r2, Option.bind_some, gI_75_9, Option.bind_some, if_neg n9', hix, ms_8 hMs (by omega), Option.bind_some, gR_75_4, Option.bind_some, mI_6 hMs, Option.bind_some, m6, nI_1, mW_6 hMs, Option.bind_some]
          · exact rdC_wr (rdC_wr (rdC_trans (rdC_trans (rdC_T g1) (rdC_T g2)) (rdC_T g3)) (by omega)) (by omega)
          · exact rdM_wr (rdM_wr (rdM_trans (rdM_trans (rdM_T g1m) (rdM_T g2m)) (rdM_T g3m)) (by omega)) (by omega)
          · rw [wr_role (by omega), wr_role (by omega), cfT_13 g3, cfT_13 g2, cfT_13 g1]
          · rw [wr_role (by omega), wr_role (by omega), mfT_12 g3m, mfT_12 g2m, mfT_12 g1m]
          · refine TKR_c (uc := u3) ?_ ?_ ?_ ?_ ?_ rfl (TKR_m (um := w3) ?_ ?_ rfl t3)
            · rw [wr_role (by omega), wr_role (by omega)]
            · rw [wr_role (by omega), wr_role (by omega)]
            · rw [wr_role (by omega), wr_role (by omega)]
            · rw [wr_role (by omega), wr_role (by omega)]
            · rw [wr_off (by omega), wr_off (by omega)]
            · rw [wr_off (by omega), wr_off (by omega)]
            · rw [wr_off (by omega), wr_off (by omega)]
          · have hoff : ∀ q, q ≠ 1 → q ≠ D + 16 → q ≠ D + 20 → wr (wr u3 (D + 16) (xx q1 * 7 + x2) (nI (xx q2))) (D + 20) 6 (nI (N 6 + 1)) q = uc q := fun q h1 h3 h4 => by rw [wr_off h4, wr_off h3, cq q h1]
            have hom : ∀ q, q ≠ 75 → q ≠ M → q ≠ M + 8 → wr (wr w3 (M + 8) (7 * xx q1 + x2) (nI (xx q2))) M 6 (nI (N 6 + 1)) q = um q := fun q h0 h1 h2 => by rw [wr_off h1, wr_off h2, mq q h0]
            have hn : ∀ q, q ≠ 6 → updN N 6 (N 6 + 1) q = N q := fun q hq => by rw [updN_at, if_neg hq]
            have kc : wr (wr u3 (D + 16) (xx q1 * 7 + x2) (nI (xx q2))) (D + 20) 6 (nI (N 6 + 1)) (D + 16) = upd (uc (D + 16)) (xx q1 * 7 + x2) (nI (xx q2)) := by rw [wr_off (by omega), wr_arr, cq _ (by omega)]
            have km : wr (wr w3 (M + 8) (7 * xx q1 + x2) (nI (xx q2))) M 6 (nI (N 6 + 1)) (M + 8) = upd (um (M + 8)) (7 * xx q1 + x2) (nI (xx q2)) := by rw [wr_off (by omega), wr_arr, mq _ (by omega)]
            have neu : r2Ride (wr (wr u3 (D + 16) (xx q1 * 7 + x2) (nI (xx q2))) (D + 20) 6 (nI (N 6 + 1))) (wr (wr w3 (M + 8) (7 * xx q1 + x2) (nI (xx q2))) M 6 (nI (N 6 + 1))) D M (updN N 6 (N 6 + 1)) := by
              unfold r2Ride
              rw [kc, km]
              intro p d hp hd
              simp -implicitDefEqProofs only [upd_at]
              by_cases e : p = xx q1 ∧ d = x2
              · obtain ⟨rfl, rfl⟩ := e
                rw [if_pos rfl, if_pos rfl]
                exact ⟨rfl, Or.inr ⟨xx q2, by rw [hn 4 (by decide)]; exact hb2, rfl⟩⟩
              · rw [if_neg (by omega), if_neg (by omega)]
                exact ⟨(j5 p d hp hd).1, okTr_mono (updN_le 4) (j5 p d hp hd).2⟩
            refine ⟨ad_Cnt (by decide) (show N 6 + 1 ≤ 16 by omega) ?_ ?_ j0, cg_Thing (hoff _ (by omega) (by omega) (by omega)) (hom _ (by omega) (by omega) (by omega)) (hom _ (by omega) (by omega) (by omega)) (hn 2 (by decide)) j1, cg_Pers (hoff _ (by omega) (by omega) (by omega)) (hom _ (by omega) (by omega) (by omega)) (hom _ (by omega) (by omega) (by omega)) (hom _ (by omega) (by omega) (by omega)) (hn 3 (by decide)) j2, cg_Tram (hoff _ (by omega) (by omega) (by omega)) (hom _ (by omega) (by omega) (by omega)) (hom _ (by omega) (by omega) (by omega)) (hn 4 (by decide)) j3, cg_Givr (hoff _ (by omega) (by omega) (by omega)) (hom _ (by omega) (by omega) (by omega)) (hn 5 (by decide)) j4, neu, cg_Take (hoff _ (by omega) (by omega) (by omega)) (hom _ (by omega) (by omega) (by omega)) (updN_le 4) j6, cg_Gift (hoff _ (by omega) (by omega) (by omega)) (hom _ (by omega) (by omega) (by omega)) (hom _ (by omega) (by omega) (by omega)) (hom _ (by omega) (by omega) (by omega)) (hom _ (by omega) (by omega) (by omega)) (hn 7 (by decide)) updN_le j7, cg_Fnd (hoff _ (by omega) (by omega) (by omega)) (hom _ (by omega) (by omega) (by omega)) (hom _ (by omega) (by omega) (by omega)) (hn 8 (by decide)) updN_le j8, cg_Exam (hoff _ (by omega) (by omega) (by omega)) (hom _ (by omega) (by omega) (by omega)) (hom _ (by omega) (by omega) (by omega)) (hom _ (by omega) (by omega) (by omega)) (hom _ (by omega) (by omega) (by omega)) (hom _ (by omega) (by omega) (by omega)) (hn 9 (by decide)) updN_le j9, ?_⟩
            · rw [wr_arr, wr_off (by omega), cq _ (by omega)]
            · intro q hq
              by_cases e : q = 6
              · subst e; rw [wr_same, if_pos rfl]
              · rw [wr_ix e, wr_role (by omega), if_neg e, mq _ (by omega)]
            · rw [hn 0 (by decide)]; exact j10
          · refine J2_keep (uc := uc) (vc := vc) (um := um) (vm := vm) (N := N) ?_ ?_ ?_ ?_ ?_ ?_ ?_ ⟨if_neg (by decide), if_neg (by decide), if_neg (by decide), if_neg (by decide)⟩ ⟨nm, ss, xx, by rw [hnn]; exact hN0, by rw [hnn]; exact hxx⟩
            · rw [wr_role (by omega), wr_role (by omega), cfT_5 g3, cfT_5 g2, cfT_5 g1]
            · rw [wr_off (by omega), wr_off (by omega), cq _ (by omega)]
            · rw [wr_ix (by decide), wr_role (by omega), mq _ (by omega)]
            · rw [wr_off (by omega), wr_off (by omega), mq _ (by omega)]
            · rw [wr_off (by omega), wr_off (by omega), mq _ (by omega)]
            · rw [cfV_q g3v (by decide), cfV_q g2v (by decide), cfV_q g1v (by decide)]
            · rw [mfV_q g3w (by omega), mfV_q g2w (by omega), mfV_q g1w (by omega)]
        · have clt : ¬ uc (D + 16) (xx q1 * 7 + x2) < 0 := by
            rw [hrow.1]
            rcases hrow.2 with z | ⟨tt, htt, z⟩
            · exact absurd z cr
            · rw [z]; exact nI_pos (by omega)
          obtain ⟨f1, f2, f3, f4, f5⟩ := flaw_DD (T2 := T2) (D2 := D2) (m2 := m2) (c3b := c3b) (c4 := fR M) (D := D) (n := 3) t2 (by omega)
          have f1' : f_X12_flaw (Rep (SH T2 D2 c3b (fR M) m2) w2 z2) 75 3 = _ := f1
          refine Or.inr ⟨wr (wr u3 1 13 3) 1 14 (nI s2), v3, wr (wr (wr w2 75 12 (nI 3)) 75 13 (w2 75 10)) 75 9 5, z2, ?_, ?_, ?_, ?_, ?_⟩
          · rw [fin _ rfl]
            unfold f_X6_readJourney
            rw [gC_1, Option.bind_some, e11, q_b2_some, if_neg (by decide), gI_1_11, Option.bind_some, e15, e21, q_b2_some, if_neg (by decide), gI_1_11, Option.bind_some, e25, gR_1_2, Option.bind_some, eC0, Option.bind_some, hday, e31', q_b2_some, if_neg (by decide), gI_1_11, Option.bind_some, r5, eG, Option.bind_some, if_neg clt, gI_1_12, Option.bind_some, r6, f5, cls_fail, q_b2_some, zr0, q_b2_some, if_pos rfl]
          · unfold mRide
            rw [e12, q_b2_some, e22, q_b2_some, gR_75_4, Option.bind_some, mI_0 hMs, Option.bind_some, m0, hday, e32, q_b2_some, gI_75_9, Option.bind_some, if_neg n9, hix, ma_8 hMs (by omega), Option.bind_some, mrow, if_neg cr, f1', Option.bind_some, dead69 _ _ _ _ _ 0 (wr_same _ _ _ _)]
          · exact rdC_wr (rdC_wr (rdC_trans (rdC_trans (rdC_T g1) (rdC_T g2)) (rdC_T g3)) (by omega)) (by omega)
          · exact rdM_trans (rdM_trans (rdM_T g1m) (rdM_T g2m)) (rdM_F f4)
          · obtain ⟨n, s', a1, a2, a3, a4, a5, a6, a7⟩ := f2
            refine ⟨3, s2, by omega, by omega, ?_, ?_, ?_, ?_, wr_same _ _ _ _⟩
            · rw [wr_ix (by decide), wr_same]; rfl
            · rw [wr_ix (by decide), wr_ix (by decide), wr_same]
            · rw [wr_same]
            · rw [a6, ← a5, wr_same]
      · have e5' := e35
        obtain ⟨dn, ds, -, -, -, -, -, -, h5⟩ := e5'
        refine Or.inr ⟨u3, v2, w3, z2, ?_, ?_, ?_, ?_, e35⟩
        · rw [fin _ rfl]
          unfold f_X6_readJourney
          rw [gC_1, Option.bind_some, e11, q_b2_some, if_neg (by decide), gI_1_11, Option.bind_some, e15, e21, q_b2_some, if_neg (by decide), gI_1_11, Option.bind_some, e25, gR_1_2, Option.bind_some, eC0, Option.bind_some, hday, e31, q_b2_some, if_pos rfl, q_b2_some, if_pos rfl]
        · unfold mRide
          rw [e12, q_b2_some, e22, q_b2_some, gR_75_4, Option.bind_some, mI_0 hMs, Option.bind_some, m0, hday, e32, q_b2_some, gI_75_9, Option.bind_some, if_pos h5, dead69 _ _ _ _ _ 0 h5]
        · exact rdC_trans (rdC_trans (rdC_T g1) (rdC_T g2)) e33
        · exact rdM_trans (rdM_trans (rdM_T g1m) (rdM_T g2m)) (rdM_F e34)
    · have e5' := e25
      obtain ⟨dn, ds, -, -, -, -, -, -, h5⟩ := e5'
      refine Or.inr ⟨u2, v2, w2, z2, ?_, ?_, ?_, ?_, e25⟩
      · rw [fin _ rfl]
        unfold f_X6_readJourney
        rw [gC_1, Option.bind_some, e11, q_b2_some, if_neg (by decide), gI_1_11, Option.bind_some, e15, e21, q_b2_some, if_pos rfl, q_b2_some, if_pos rfl]
      · unfold mRide
        rw [e12, q_b2_some, e22, q_b2_some, gR_75_4, Option.bind_some, mI_0 hMs, Option.bind_some, bound_dead h5, q_b2_some, gI_75_9, Option.bind_some, if_pos h5, dead69 _ _ _ _ _ 0 h5]
      · exact rdC_trans (rdC_T g1) e23
      · exact rdM_trans (rdM_T g1m) (rdM_F e24)
  · have e5' := e15
    obtain ⟨dn, ds, -, -, -, -, -, -, h5⟩ := e5'
    have hd : w1 M 10 = nI nn := by rw [e14 M 10 (by omega)]; exact hN0.2.1
    refine Or.inr ⟨u1, v1, w1, z1, ?_, ?_, e13, rdM_F e14, e15⟩
    · rw [fin _ rfl]
      unfold f_X6_readJourney
      rw [gC_1, Option.bind_some, e11, q_b2_some, if_pos rfl, q_b2_some, if_pos rfl]
    · unfold mRide
      rw [e12, q_b2_some, rknown_dead hMs hd hn16 h5, q_b2_some, gR_75_4, Option.bind_some, mI_0 hMs, Option.bind_some, bound_dead h5, q_b2_some, gI_75_9, Option.bind_some, if_pos h5, dead69 _ _ _ _ _ 0 h5]
def mTake (a2 : Nat) (g : qS) : Option qS := q_b2 (f_X12_readKnown g 75 3) fun v5 g4 => q_b2 (f_X12_readKnown g4 75 2) fun v7 g6 => (g_R g6 75 11 4).bind fun v8 => (g_I g6 v8 10 0).bind fun v9 => q_b2 (f_X12_bounded g6 75 0 (v9 - 1)) fun v11 g10 => (g_I g10 75 11 9).bind fun v12 => if v12 = 5 then (J_X12_readRow_69 75 a2 v5 v7 v11 g10) else ((a_I g10 a2 ((7 * v5) + v11)).bind fun v13 => if v13 = (-2) then (J_X12_readRow_69 75 a2 v5 v7 v11 g10) else ((f_X12_flaw g10 75 3).bind fun g14 => J_X12_readRow_69 75 a2 v5 v7 v11 g14))
theorem ln_take (ho : okTD T D) (hMs : mSh (SH T2 D2 c3b (fR M) m2) M) (hM : 88 ≤ M) (h : TKR L uc vc um vm s k l x) (hJ : J1 uc um D M N) (hJ2 : J2 uc vc um vm M N) (hf : N 6 < 16) : LNE T D m c3 c4 T2 D2 m2 M c3b L s uc um (f_X6_readRest (Rep (SH T D c3 c4 m) uc vc) 1 6) (mTake (M + 12) (Rep (SH T2 D2 c3b (fR M) m2) um vm)) := by
  have hCt := SH_draft (c3 := c3) (c4 := c4) (m := m) ho
  have hD : D = 54 ∨ D = 3 := by rcases ho with ⟨rfl, rfl⟩ | ⟨rfl, rfl⟩ <;> simp
  obtain ⟨j0, j1, j2, j3, j4, j5, j6, j7, j8, j9, j10⟩ := hJ
  have b0 : N 0 ≤ 7 := (j0 0 (by decide)).2.2
  have b3 : N 3 ≤ 5 := (j0 3 (by decide)).2.2
  have b4 : N 4 ≤ 4 := (j0 4 (by decide)).2.2
  have b5 : N 5 ≤ 3 := (j0 5 (by decide)).2.2
  obtain ⟨nm, ss, xx, hN0, hxx⟩ := hJ2
  generalize hnn : N 2 + N 3 + N 4 + N 5 = nn at *
  have hn16 : nn ≤ 16 := hN0.2.2.1
  have hday : nI (N 0) - 1 = nI (N 0 - 1) := by rw [show (1 : Int32) = nI 1 from rfl, nI_dif (by omega)]
  have fin : ∀ X, f_X6_readJourney (Rep (SH T D c3 c4 m) uc vc) 1 5 (D + 17) = X → f_X6_readRest (Rep (SH T D c3 c4 m) uc vc) 1 6 = (q_b2 X fun v2 g1 => if v2 = 0 then (some (0, g1)) else (q_b2 (f_X6_addTo g1 1 6) fun v4 g3 => if v4 = 0 then (some (0, g3)) else (some (1, g3)))) := by
    intro X hX
    unfold f_X6_readRest
    rw [gC_1, Option.bind_some, if_neg (by decide), if_neg (by decide), if_neg (by decide), if_neg (by decide), if_neg (by decide), if_pos rfl, gR_1_2, Option.bind_some, cR_8 hCt, Option.bind_some, hX]
  have dead69 : ∀ (w : mU) (z : mV) (a b c d : Int32), w 75 9 = 5 → J_X12_readRow_69 75 (M + 12) a b c (Rep (SH T2 D2 c3b (fR M) m2) w z) = some (Rep (SH T2 D2 c3b (fR M) m2) w z) := by
    intro w z a b c d h5
    unfold J_X12_readRow_69
    rw [goes_dead h5, Option.bind_some, gI_75_9, Option.bind_some, if_pos h5]
  have hk1 := pr_known (T := T) (D := D) (m := m) (c3 := c3) (c4 := c4) (T2 := T2) (D2 := D2) (m2 := m2) (M := M) (c3b := c3b) (c := 3) hMs hM hN0 (by decide) h
  rw [show nI (3 + 2) = (5 : Int32) from rfl, show nI 3 = (3 : Int32) from rfl] at hk1
  rcases hk1 with ⟨a, u1, v1, w1, z1, e11, e12, e13, e14, ⟨q1, hq1, hs1, rfl, e15⟩, ⟨s1, k1, l1, x1, t1, ts1⟩, g1, g1v, g1m, g1w⟩ | ⟨a, u1, v1, w1, z1, e11, e12, e13, e14, e15⟩
  · have hb1 : xx q1 < N 5 := by have := hxx q1 hq1; rw [hs1] at this; exact this
    have hN1 : NMR u1 v1 w1 z1 M nn nm ss xx := NMR_step hM g1 g1v g1m g1w hN0
    have hk2 := pr_known (T := T) (D := D) (m := m) (c3 := c3) (c4 := c4) (T2 := T2) (D2 := D2) (m2 := m2) (M := M) (c3b := c3b) (c := 2) hMs hM hN1 (by decide) t1
    rw [show nI (2 + 2) = (4 : Int32) from rfl, show nI 2 = (2 : Int32) from rfl] at hk2
    rcases hk2 with ⟨a, u2, v2, w2, z2, e21, e22, e23, e24, ⟨q2, hq2, hs2, rfl, e25⟩, ⟨s2, k2, l2, x2, t2, ts2⟩, g2, g2v, g2m, g2w⟩ | ⟨a, u2, v2, w2, z2, e21, e22, e23, e24, e25⟩
    · have hb2 : xx q2 < N 4 := by have := hxx q2 hq2; rw [hs2] at this; exact this
      have eC0 : f_X3_count (Rep (SH T D c3 c4 m) u2 v2) D 0 = some (nI (N 0)) := by
        have := cnt_D (T := T) (D := D) (m := m) (c3 := c3) (c4 := c4) (uc := u2) (vc := v2) (c := 0) (n := N 0) ho (by decide) (by rw [cfT_q g2 (by omega), cfT_q g1 (by omega)]; exact (j0 0 (by decide)).1)
        rw [nI_0] at this; exact this
      have m0 : w2 M 0 = nI (N 0) := by rw [mfT_q g2m (by omega), mfT_q g1m (by omega)]; exact (j0 0 (by decide)).2.1
      have hbd := bd_case (T := T) (D := D) (m := m) (c3 := c3) (c4 := c4) (T2 := T2) (D2 := D2) (m2 := m2) (M := M) (c3b := c3b) (lo := 0) (hi := N 0 - 1) (by decide) (by omega) t2
      rw [nI_0] at hbd
      rcases hbd with ⟨ck, -, hx2, e31, e32⟩ | ⟨u3, w3, e31, e32, e33, e34, e35⟩
      · obtain ⟨u3, v3, w3, z3, s3, k3, l3, x3, r1, r2, t3, ts3, r5, r6, g3, g3v, g3m, g3w⟩ := adv (T := T) (D := D) (c3 := c3) (c4 := c4) (m := m) (T2 := T2) (D2 := D2) (c3b := c3b) (M := M) (m2 := m2) (y := nI x2) t2 (Or.inr (Or.inl ck))
        have hx7 : x2 < 7 := by omega
        have hp5 : xx q1 < 3 := by omega
        have e31' : f_X6_takeWhole (Rep (SH T D c3 c4 m) u2 v2) 1 0 (nI (N 0 - 1)) = some (1, Rep (SH T D c3 c4 m) u3 v3) := by rw [e31, r1, q_b2_some, zr1]
        have tbl : tSh (SH T D c3 c4 m) (D + 17) (D + 18) 3 7 := hCt.2.2.2.2.2.2.2.2.2.1
        have eG : f_X8_get (Rep (SH T D c3 c4 m) u3 v3) (D + 17) (nI (xx q1)) (nI x2) = some (uc (D + 18) (xx q1 * 7 + x2)) := by
          rw [tab_get tbl, tG_in (by decide) (by decide) hp5 hx7, cfT_q g3 (by omega), cfT_q g2 (by omega), cfT_q g1 (by omega)]
        have hix : (7 : Int32) * nI (xx q1) + nI x2 = nI (7 * xx q1 + x2) := by rw [show (7 : Int32) = nI 7 from rfl, nI_mul, nI_add]
        have hrow := j6 (xx q1) x2 hp5 hx7
        have mrow : w2 (M + 12) (7 * xx q1 + x2) = um (M + 12) (7 * xx q1 + x2) := by rw [mfT_q g2m (by omega), mfT_q g1m (by omega)]
        have n9 : ¬ w2 75 9 = 5 := by
          obtain ⟨-, -, -, -, -, hk5, -, -, e, -, -, -, -, hMt⟩ := t2
          rw [hMt.1]; exact mkK_ne hk5
        have n9' : ¬ w3 75 9 = 5 := by
          obtain ⟨-, -, -, -, -, hk5, -, -, e, -, -, -, -, hMt⟩ := t3
          rw [hMt.1]; exact mkK_ne hk5
        by_cases cr : um (M + 12) (7 * xx q1 + x2) = -2
        · have clt : uc (D + 18) (xx q1 * 7 + x2) < 0 := by rw [hrow.1, cr]; decide
          have eS : f_X8_set (Rep (SH T D c3 c4 m) u3 v3) (D + 17) (nI (xx q1)) (nI x2) (nI (xx q2)) = some (Rep (SH T D c3 c4 m) (wr u3 (D + 18) (xx q1 * 7 + x2) (nI (xx q2))) v3) := by
            rw [tab_set tbl, tS_in (by decide) (by decide) hp5 hx7]
          have cq : ∀ q, q ≠ 1 → u3 q = uc q := fun q h1 => by rw [cfT_q g3 h1, cfT_q g2 h1, cfT_q g1 h1]
          have mq : ∀ q, q ≠ 75 → w3 q = um q := fun q h1 => by rw [mfT_q g3m h1, mfT_q g2m h1, mfT_q g1m h1]
          have cad : f_X6_addTo (Rep (SH T D c3 c4 m) (wr u3 (D + 18) (xx q1 * 7 + x2) (nI (xx q2))) v3) 1 6 = some (1, Rep (SH T D c3 c4 m) (wr (wr u3 (D + 18) (xx q1 * 7 + x2) (nI (xx q2))) (D + 20) 6 (nI (N 6 + 1))) v3) := add_D (c := 6) ho (by decide) (by rw [wr_role (by omega), cq _ (by omega)]; exact (j0 6 (by decide)).1)
          have m6 : wr w3 (M + 12) (7 * xx q1 + x2) (nI (xx q2)) M 6 = nI (N 6) := by rw [wr_role (by omega), mq _ (by omega)]; exact (j0 6 (by decide)).2.1
          refine Or.inl ⟨wr (wr u3 (D + 18) (xx q1 * 7 + x2) (nI (xx q2))) (D + 20) 6 (nI (N 6 + 1)), v3, wr (wr w3 (M + 12) (7 * xx q1 + x2) (nI (xx q2))) M 6 (nI (N 6 + 1)), z3, ?_, ?_, ?_, ?_, ⟨?_, ?_⟩, ⟨s3, k3, l3, x3, ?_, by omega⟩, updN N 6 (N 6 + 1), ?_, ?_⟩
          · rw [fin _ rfl]
            unfold f_X6_readJourney
            rw [gC_1, Option.bind_some, e11, q_b2_some, if_neg (by decide), gI_1_11, Option.bind_some, e15, e21, q_b2_some, if_neg (by decide), gI_1_11, Option.bind_some, e25, gR_1_2, Option.bind_some, eC0, Option.bind_some, hday, e31', q_b2_some, if_neg (by decide), gI_1_11, Option.bind_some, r5, eG, Option.bind_some, if_pos clt, Option.bind_some, eS, Option.bind_some, q_b2_some, if_neg (by decide), cad, q_b2_some, if_neg (by decide)]
          · unfold mTake
            rw [e12, q_b2_some, e22, q_b2_some, gR_75_4, Option.bind_some, mI_0 hMs, Option.bind_some, m0, hday, e32, q_b2_some, gI_75_9, Option.bind_some, if_neg n9, hix, ma_12 hMs (by omega), Option.bind_some, mrow, if_pos cr]
            unfold J_X12_readRow_69
            rw [r2, Option.bind_some, gI_75_9, Option.bind_some, if_neg n9', hix, ms_12 hMs (by omega), Option.bind_some, gR_75_4, Option.bind_some, mI_6 hMs, Option.bind_some, m6, nI_1, mW_6 hMs, Option.bind_some]
          · exact rdC_wr (rdC_wr (rdC_trans (rdC_trans (rdC_T g1) (rdC_T g2)) (rdC_T g3)) (by omega)) (by omega)
          · exact rdM_wr (rdM_wr (rdM_trans (rdM_trans (rdM_T g1m) (rdM_T g2m)) (rdM_T g3m)) (by omega)) (by omega)
          · rw [wr_role (by omega), wr_role (by omega), cfT_13 g3, cfT_13 g2, cfT_13 g1]
          · rw [wr_role (by omega), wr_role (by omega), mfT_12 g3m, mfT_12 g2m, mfT_12 g1m]
          · refine TKR_c (uc := u3) ?_ ?_ ?_ ?_ ?_ rfl (TKR_m (um := w3) ?_ ?_ rfl t3)
            · rw [wr_role (by omega), wr_role (by omega)]
            · rw [wr_role (by omega), wr_role (by omega)]
            · rw [wr_role (by omega), wr_role (by omega)]
            · rw [wr_role (by omega), wr_role (by omega)]
            · rw [wr_off (by omega), wr_off (by omega)]
            · rw [wr_off (by omega), wr_off (by omega)]
            · rw [wr_off (by omega), wr_off (by omega)]
          · have hoff : ∀ q, q ≠ 1 → q ≠ D + 18 → q ≠ D + 20 → wr (wr u3 (D + 18) (xx q1 * 7 + x2) (nI (xx q2))) (D + 20) 6 (nI (N 6 + 1)) q = uc q := fun q h1 h3 h4 => by rw [wr_off h4, wr_off h3, cq q h1]
            have hom : ∀ q, q ≠ 75 → q ≠ M → q ≠ M + 12 → wr (wr w3 (M + 12) (7 * xx q1 + x2) (nI (xx q2))) M 6 (nI (N 6 + 1)) q = um q := fun q h0 h1 h2 => by rw [wr_off h1, wr_off h2, mq q h0]
            have hn : ∀ q, q ≠ 6 → updN N 6 (N 6 + 1) q = N q := fun q hq => by rw [updN_at, if_neg hq]
            have kc : wr (wr u3 (D + 18) (xx q1 * 7 + x2) (nI (xx q2))) (D + 20) 6 (nI (N 6 + 1)) (D + 18) = upd (uc (D + 18)) (xx q1 * 7 + x2) (nI (xx q2)) := by rw [wr_off (by omega), wr_arr, cq _ (by omega)]
            have km : wr (wr w3 (M + 12) (7 * xx q1 + x2) (nI (xx q2))) M 6 (nI (N 6 + 1)) (M + 12) = upd (um (M + 12)) (7 * xx q1 + x2) (nI (xx q2)) := by rw [wr_off (by omega), wr_arr, mq _ (by omega)]
            have neu : r2Take (wr (wr u3 (D + 18) (xx q1 * 7 + x2) (nI (xx q2))) (D + 20) 6 (nI (N 6 + 1))) (wr (wr w3 (M + 12) (7 * xx q1 + x2) (nI (xx q2))) M 6 (nI (N 6 + 1))) D M (updN N 6 (N 6 + 1)) := by
              unfold r2Take
              rw [kc, km]
              intro p d hp hd
              simp -implicitDefEqProofs only [upd_at]
              by_cases e : p = xx q1 ∧ d = x2
              · obtain ⟨rfl, rfl⟩ := e
                rw [if_pos rfl, if_pos rfl]
                exact ⟨rfl, Or.inr ⟨xx q2, by rw [hn 4 (by decide)]; exact hb2, rfl⟩⟩
              · rw [if_neg (by omega), if_neg (by omega)]
                exact ⟨(j6 p d hp hd).1, okTr_mono (updN_le 4) (j6 p d hp hd).2⟩
            refine ⟨ad_Cnt (by decide) (show N 6 + 1 ≤ 16 by omega) ?_ ?_ j0, cg_Thing (hoff _ (by omega) (by omega) (by omega)) (hom _ (by omega) (by omega) (by omega)) (hom _ (by omega) (by omega) (by omega)) (hn 2 (by decide)) j1, cg_Pers (hoff _ (by omega) (by omega) (by omega)) (hom _ (by omega) (by omega) (by omega)) (hom _ (by omega) (by omega) (by omega)) (hom _ (by omega) (by omega) (by omega)) (hn 3 (by decide)) j2, cg_Tram (hoff _ (by omega) (by omega) (by omega)) (hom _ (by omega) (by omega) (by omega)) (hom _ (by omega) (by omega) (by omega)) (hn 4 (by decide)) j3, cg_Givr (hoff _ (by omega) (by omega) (by omega)) (hom _ (by omega) (by omega) (by omega)) (hn 5 (by decide)) j4, cg_Ride (hoff _ (by omega) (by omega) (by omega)) (hom _ (by omega) (by omega) (by omega)) (updN_le 4) j5, neu, cg_Gift (hoff _ (by omega) (by omega) (by omega)) (hom _ (by omega) (by omega) (by omega)) (hom _ (by omega) (by omega) (by omega)) (hom _ (by omega) (by omega) (by omega)) (hom _ (by omega) (by omega) (by omega)) (hn 7 (by decide)) updN_le j7, cg_Fnd (hoff _ (by omega) (by omega) (by omega)) (hom _ (by omega) (by omega) (by omega)) (hom _ (by omega) (by omega) (by omega)) (hn 8 (by decide)) updN_le j8, cg_Exam (hoff _ (by omega) (by omega) (by omega)) (hom _ (by omega) (by omega) (by omega)) (hom _ (by omega) (by omega) (by omega)) (hom _ (by omega) (by omega) (by omega)) (hom _ (by omega) (by omega) (by omega)) (hom _ (by omega) (by omega) (by omega)) (hn 9 (by decide)) updN_le j9, ?_⟩
            · rw [wr_arr, wr_off (by omega), cq _ (by omega)]
            · intro q hq
              by_cases e : q = 6
              · subst e; rw [wr_same, if_pos rfl]
              · rw [wr_ix e, wr_role (by omega), if_neg e, mq _ (by omega)]
            · rw [hn 0 (by decide)]; exact j10
          · refine J2_keep (uc := uc) (vc := vc) (um := um) (vm := vm) (N := N) ?_ ?_ ?_ ?_ ?_ ?_ ?_ ⟨if_neg (by decide), if_neg (by decide), if_neg (by decide), if_neg (by decide)⟩ ⟨nm, ss, xx, by rw [hnn]; exact hN0, by rw [hnn]; exact hxx⟩
            · rw [wr_role (by omega), wr_role (by omega), cfT_5 g3, cfT_5 g2, cfT_5 g1]
            · rw [wr_off (by omega), wr_off (by omega), cq _ (by omega)]
            · rw [wr_ix (by decide), wr_role (by omega), mq _ (by omega)]
            · rw [wr_off (by omega), wr_off (by omega), mq _ (by omega)]
            · rw [wr_off (by omega), wr_off (by omega), mq _ (by omega)]
            · rw [cfV_q g3v (by decide), cfV_q g2v (by decide), cfV_q g1v (by decide)]
            · rw [mfV_q g3w (by omega), mfV_q g2w (by omega), mfV_q g1w (by omega)]
        · have clt : ¬ uc (D + 18) (xx q1 * 7 + x2) < 0 := by
            rw [hrow.1]
            rcases hrow.2 with z | ⟨tt, htt, z⟩
            · exact absurd z cr
            · rw [z]; exact nI_pos (by omega)
          obtain ⟨f1, f2, f3, f4, f5⟩ := flaw_DD (T2 := T2) (D2 := D2) (m2 := m2) (c3b := c3b) (c4 := fR M) (D := D) (n := 3) t2 (by omega)
          have f1' : f_X12_flaw (Rep (SH T2 D2 c3b (fR M) m2) w2 z2) 75 3 = _ := f1
          refine Or.inr ⟨wr (wr u3 1 13 3) 1 14 (nI s2), v3, wr (wr (wr w2 75 12 (nI 3)) 75 13 (w2 75 10)) 75 9 5, z2, ?_, ?_, ?_, ?_, ?_⟩
          · rw [fin _ rfl]
            unfold f_X6_readJourney
            rw [gC_1, Option.bind_some, e11, q_b2_some, if_neg (by decide), gI_1_11, Option.bind_some, e15, e21, q_b2_some, if_neg (by decide), gI_1_11, Option.bind_some, e25, gR_1_2, Option.bind_some, eC0, Option.bind_some, hday, e31', q_b2_some, if_neg (by decide), gI_1_11, Option.bind_some, r5, eG, Option.bind_some, if_neg clt, gI_1_12, Option.bind_some, r6, f5, cls_fail, q_b2_some, zr0, q_b2_some, if_pos rfl]
          · unfold mTake
            rw [e12, q_b2_some, e22, q_b2_some, gR_75_4, Option.bind_some, mI_0 hMs, Option.bind_some, m0, hday, e32, q_b2_some, gI_75_9, Option.bind_some, if_neg n9, hix, ma_12 hMs (by omega), Option.bind_some, mrow, if_neg cr, f1', Option.bind_some, dead69 _ _ _ _ _ 0 (wr_same _ _ _ _)]
          · exact rdC_wr (rdC_wr (rdC_trans (rdC_trans (rdC_T g1) (rdC_T g2)) (rdC_T g3)) (by omega)) (by omega)
          · exact rdM_trans (rdM_trans (rdM_T g1m) (rdM_T g2m)) (rdM_F f4)
          · obtain ⟨n, s', a1, a2, a3, a4, a5, a6, a7⟩ := f2
            refine ⟨3, s2, by omega, by omega, ?_, ?_, ?_, ?_, wr_same _ _ _ _⟩
            · rw [wr_ix (by decide), wr_same]; rfl
            · rw [wr_ix (by decide), wr_ix (by decide), wr_same]
            · rw [wr_same]
            · rw [a6, ← a5, wr_same]
      · have e5' := e35
        obtain ⟨dn, ds, -, -, -, -, -, -, h5⟩ := e5'
        refine Or.inr ⟨u3, v2, w3, z2, ?_, ?_, ?_, ?_, e35⟩
        · rw [fin _ rfl]
          unfold f_X6_readJourney
          rw [gC_1, Option.bind_some, e11, q_b2_some, if_neg (by decide), gI_1_11, Option.bind_some, e15, e21, q_b2_some, if_neg (by decide), gI_1_11, Option.bind_some, e25, gR_1_2, Option.bind_some, eC0, Option.bind_some, hday, e31, q_b2_some, if_pos rfl, q_b2_some, if_pos rfl]
        · unfold mTake
          rw [e12, q_b2_some, e22, q_b2_some, gR_75_4, Option.bind_some, mI_0 hMs, Option.bind_some, m0, hday, e32, q_b2_some, gI_75_9, Option.bind_some, if_pos h5, dead69 _ _ _ _ _ 0 h5]
        · exact rdC_trans (rdC_trans (rdC_T g1) (rdC_T g2)) e33
        · exact rdM_trans (rdM_trans (rdM_T g1m) (rdM_T g2m)) (rdM_F e34)
    · have e5' := e25
      obtain ⟨dn, ds, -, -, -, -, -, -, h5⟩ := e5'
      refine Or.inr ⟨u2, v2, w2, z2, ?_, ?_, ?_, ?_, e25⟩
      · rw [fin _ rfl]
        unfold f_X6_readJourney
        rw [gC_1, Option.bind_some, e11, q_b2_some, if_neg (by decide), gI_1_11, Option.bind_some, e15, e21, q_b2_some, if_pos rfl, q_b2_some, if_pos rfl]
      · unfold mTake
        rw [e12, q_b2_some, e22, q_b2_some, gR_75_4, Option.bind_some, mI_0 hMs, Option.bind_some, bound_dead h5, q_b2_some, gI_75_9, Option.bind_some, if_pos h5, dead69 _ _ _ _ _ 0 h5]
      · exact rdC_trans (rdC_T g1) e23
      · exact rdM_trans (rdM_T g1m) (rdM_F e24)
  · have e5' := e15
    obtain ⟨dn, ds, -, -, -, -, -, -, h5⟩ := e5'
    have hd : w1 M 10 = nI nn := by rw [e14 M 10 (by omega)]; exact hN0.2.1
    refine Or.inr ⟨u1, v1, w1, z1, ?_, ?_, e13, rdM_F e14, e15⟩
    · rw [fin _ rfl]
      unfold f_X6_readJourney
      rw [gC_1, Option.bind_some, e11, q_b2_some, if_pos rfl, q_b2_some, if_pos rfl]
    · unfold mTake
      rw [e12, q_b2_some, rknown_dead hMs hd hn16 h5, q_b2_some, gR_75_4, Option.bind_some, mI_0 hMs, Option.bind_some, bound_dead h5, q_b2_some, gI_75_9, Option.bind_some, if_pos h5, dead69 _ _ _ _ _ 0 h5]
end LI4
