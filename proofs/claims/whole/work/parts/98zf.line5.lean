section LI5
variable {T D m T2 D2 m2 M : Nat} {c3 c4 c3b : sF} {uc um : mU} {vc vm : mV} {L s k x nn : Nat} {l : List Nat} {N : Nat → Nat}
/-- whether the class finds it among the found -/
theorem isF_D {t : Nat} (ho : okTD T D) (hn : uc (D + 20) 8 = nI (N 8)) (h4 : N 8 ≤ 4) (tk : Nat → Nat) (ht : t < 4) (hk : ∀ k, k < N 8 → tk k < 4 ∧ uc (D + 12) (k * 2 + 0) = nI (tk k)) : f_X3_isFound (Rep (SH T D c3 c4 m) uc vc) D (nI t) = some (bI (anyB (fun k => decide (tk k = t)) (N 8) 0)) := by
  have hCt := SH_draft (c3 := c3) (c4 := c4) (m := m) ho
  have eC : f_X3_count (Rep (SH T D c3 c4 m) uc vc) D 8 = some (nI (N 8)) := cnt_D (c := 8) ho (by decide) hn
  have go : ∀ (r i f : Nat), i + r = N 8 → r < f → L_X3_isFound_2 (Rep (SH T D c3 c4 m) uc vc) f D (nI t) (nI i) = some (bI (anyB (fun k => decide (tk k = t)) r i)) := by
    intro r
    induction r with
    | zero =>
      intro i f hi hf
      obtain ⟨f, rfl⟩ : ∃ f', f = f' + 1 := ⟨f - 1, by omega⟩
      rw [L_X3_isFound_2, eC, Option.bind_some, if_pos (nI_le (by omega) (by omega))]
      rfl
    | succ r ih =>
      intro i f hi hf
      obtain ⟨f, rfl⟩ : ∃ f', f = f' + 1 := ⟨f - 1, by omega⟩
      obtain ⟨k1, k2⟩ := hk i (by omega)
      have eG : f_X8_get (Rep (SH T D c3 c4 m) uc vc) (D + 11) (nI i) 0 = some (nI (tk i)) := by
        rw [cG_5 hCt, show (0 : Int32) = nI 0 from nI_0.symm, tG_in (by decide) (by decide) (by omega) (by decide), k2]
      have p : (nI (tk i) = nI t) = (tk i = t) := propext (nI_eq (by omega) (by omega))
      rw [L_X3_isFound_2, eC, Option.bind_some, if_neg (nI_ge (by omega) (by omega)), cR_5 hCt, Option.bind_some, eG, Option.bind_some, nI_1, ih (i + 1) f (by omega) (by omega)]
      show _ = some (bI (decide (tk i = t) || anyB (fun k => decide (tk k = t)) r (i + 1)))
      by_cases c : tk i = t
      · rw [if_pos (p.mpr c), decide_eq_true c, Bool.true_or]; rfl
      · rw [if_neg (fun z => c (p.mp z)), decide_eq_false c, Bool.false_or]
  have e := go (N 8) 0 1000000000 (by omega) (by omega)
  rw [nI_0] at e
  unfold f_X3_isFound
  rw [cC hCt, Option.bind_some, e]
def mFnd (g : qS) : Option qS := q_b2 (f_X12_knownOne g 75 0) fun v3 g2 => (g_I g2 75 11 9).bind fun v4 => if v4 = 5 then (J_X12_readFound_39 75 v3 g2) else ((g_R g2 75 11 4).bind fun v5 => (g_R g2 v5 10 13).bind fun v6 => (a_I g2 v6 v3).bind fun v7 => if v7 = (-2) then (J_X12_readFound_39 75 v3 g2) else ((f_X12_flaw g2 75 3).bind fun g8 => J_X12_readFound_39 75 v3 g8))
theorem ln_fnd (ho : okTD T D) (hMs : mSh (SH T2 D2 c3b (fR M) m2) M) (hM : 88 ≤ M) (h : TKR L uc vc um vm s k l x) (hJ : J1 uc um D M N) (hJ2 : J2 uc vc um vm M N) : LNE T D m c3 c4 T2 D2 m2 M c3b L s uc um (f_X6_readRest (Rep (SH T D c3 c4 m) uc vc) 1 8) (mFnd (Rep (SH T2 D2 c3b (fR M) m2) um vm)) := by
  have hCt := SH_draft (c3 := c3) (c4 := c4) (m := m) ho
  have hD : D = 54 ∨ D = 3 := by rcases ho with ⟨rfl, rfl⟩ | ⟨rfl, rfl⟩ <;> simp
  obtain ⟨j0, j1, j2, j3, j4, j5, j6, j7, j8, j9, j10⟩ := hJ
  have b2 : N 2 ≤ 4 := (j0 2 (by decide)).2.2
  have b3 : N 3 ≤ 5 := (j0 3 (by decide)).2.2
  have b8 : N 8 ≤ 4 := (j0 8 (by decide)).2.2
  obtain ⟨nm, ss, xx, hN0, hxx⟩ := hJ2
  generalize hnn : N 2 + N 3 + N 4 + N 5 = nn at *
  have hn16 : nn ≤ 16 := hN0.2.2.1
  have eC : f_X3_count (Rep (SH T D c3 c4 m) uc vc) D 8 = some (nI (N 8)) := cnt_D (c := 8) ho (by decide) (j0 8 (by decide)).1
  have fin : ∀ X, f_X6_readFound (Rep (SH T D c3 c4 m) uc vc) 1 = X → f_X6_readRest (Rep (SH T D c3 c4 m) uc vc) 1 8 = (q_b2 X fun v2 g1 => if v2 = 0 then (some (0, g1)) else (q_b2 (f_X6_addTo g1 1 8) fun v4 g3 => if v4 = 0 then (some (0, g3)) else (some (1, g3)))) := by
    intro X hX
    unfold f_X6_readRest
    rw [gC_1, Option.bind_some, if_neg (by decide), if_neg (by decide), if_neg (by decide), if_neg (by decide), if_neg (by decide), if_neg (by decide), if_neg (by decide), if_pos rfl, hX]
  have dead39 : ∀ (w : mU) (z : mV) (a : Int32), w 75 9 = 5 → w M 10 = nI nn → J_X12_readFound_39 75 a (Rep (SH T2 D2 c3b (fR M) m2) w z) = some (Rep (SH T2 D2 c3b (fR M) m2) w z) := by
    intro w z a h5 hd
    unfold J_X12_readFound_39
    rw [goes_dead h5, Option.bind_some, rknown_dead hMs hd hn16 h5, q_b2_some, gI_75_9, Option.bind_some, if_pos h5]
  obtain ⟨f0, f1, f2⟩ := j8
  have hkn := kn_case (T := T) (D := D) (m := m) (c3 := c3) (c4 := c4) (c := 0) hMs hM hN0 (by decide) h
  rw [show nI (0 + 2) = (2 : Int32) from rfl, nI_0] at hkn
  rcases hkn with ⟨q1, hq1, hs1, ck, e11, e12⟩ | ⟨u1, w1, e11, e12, e13, e14, e15⟩
  · have hb1 : xx q1 < N 2 := by have := hxx q1 hq1; rw [hs1] at this; exact this
    generalize htq : xx q1 = t at *
    obtain ⟨u1, v1, w1, z1, s1, k1, l1, x1, r1, r2, t1, ts1, r5, r6, g1, g1v, g1m, g1w⟩ := adv (T := T) (D := D) (c3 := c3) (c4 := c4) (m := m) (T2 := T2) (D2 := D2) (c3b := c3b) (M := M) (m2 := m2) (y := nI t) h (Or.inl ck)
    have e11' : f_X6_takeName (Rep (SH T D c3 c4 m) uc vc) 1 2 = some (1, Rep (SH T D c3 c4 m) u1 v1) := by
      rw [e11]
      unfold tkZ
      rw [r1, q_b2_some, zr1]
    have h9 : ¬ um 75 9 = 5 := by
      obtain ⟨-, -, -, -, -, hk5, -, -, e, -, -, -, -, hMt⟩ := h
      rw [hMt.1]; exact mkK_ne hk5
    have htk : ∃ tk : Nat → Nat, ∀ i, i < N 8 → tk i < N 2 ∧ um (M + 4) i = nI (tk i) ∧ uc (D + 12) (i * 2 + 0) = nI (tk i) ∧ ∃ p, p < N 3 ∧ um (M + 3) (tk i) = nI p ∧ uc (D + 12) (i * 2 + 1) = nI p := by
      refine ⟨fun i => (um (M + 4) i).toNatClampNeg, fun i hi => ?_⟩
      obtain ⟨t', p', a1, a2, a3, a4, a5, a6⟩ := f0 i hi
      show (um (M + 4) i).toNatClampNeg < N 2 ∧ um (M + 4) i = nI (um (M + 4) i).toNatClampNeg ∧ uc (D + 12) (i * 2 + 0) = nI (um (M + 4) i).toNatClampNeg ∧ ∃ p, p < N 3 ∧ um (M + 3) (um (M + 4) i).toNatClampNeg = nI p ∧ uc (D + 12) (i * 2 + 1) = nI p
      rw [a3, nI_clamp (by omega)]
      exact ⟨a1, rfl, a5, p', a2, a4, a6⟩
    obtain ⟨tk, htk⟩ := htk
    have eF := isF_D (T := T) (D := D) (m := m) (c3 := c3) (c4 := c4) (uc := u1) (vc := v1) (N := N) (t := t) ho (by rw [cfT_q g1 (by omega)]; exact (j0 8 (by decide)).1) b8 tk (by omega) (fun i hi => ⟨by have := (htk i hi).1; omega, by rw [cfT_q g1 (by omega)]; exact (htk i hi).2.2.1⟩)
    by_cases cr : um (M + 3) t = -2
    · have hno : ∀ i, i < N 8 → ¬ tk i = t := by
        intro i hi z
        obtain ⟨-, -, -, p, hp, e, -⟩ := htk i hi
        rw [z, cr] at e
        exact absurd (show nI p < 0 by rw [← e]; decide) (nI_pos (by omega))
      have ha : anyB (fun k => decide (tk k = t)) (N 8) 0 = false := by
        cases ca : anyB (fun k => decide (tk k = t)) (N 8) 0 with
        | false => rfl
        | true =>
          obtain ⟨i, -, hi, e⟩ := (anyB_iff _ _).mp ca
          exact absurd (of_decide_eq_true e) (hno i (by omega))
      rw [ha] at eF
      have hf : N 8 < 4 := by
        by_cases c4 : N 8 = 4
        · exfalso
          have dis : ∀ i i', i < i' → i' < 4 → tk i ≠ tk i' := by
            intro i i' h1 h2 z
            refine f2 i i' h1 (by omega) ?_
            rw [(htk i (by omega)).2.1, (htk i' (by omega)).2.1, z]
          have d01 := dis 0 1 (by decide) (by decide)
          have d02 := dis 0 2 (by decide) (by decide)
          have d03 := dis 0 3 (by decide) (by decide)
          have d12 := dis 1 2 (by decide) (by decide)
          have d13 := dis 1 3 (by decide) (by decide)
          have d23 := dis 2 3 (by decide) (by decide)
          have n0 := hno 0 (by omega)
          have n1 := hno 1 (by omega)
          have n2 := hno 2 (by omega)
          have n3 := hno 3 (by omega)
          have l0 := (htk 0 (by omega)).1
          have l1 := (htk 1 (by omega)).1
          have l2 := (htk 2 (by omega)).1
          have l3 := (htk 3 (by omega)).1
          omega
        · omega
      have hp1 := put_D (T := T) (D := D) (m := m) (c3 := c3) (c4 := c4) (uc := u1) (vc := v1) (i := N 8) (j := 0) hCt.2.2.2.2.2.2.1 (by decide) (by decide) hf (by decide) r5
      rw [nI_0] at hp1
      have tp1 : TKR L (wr u1 (D + 12) (N 8 * 2 + 0) (nI t)) v1 w1 z1 s1 k1 l1 x1 := TKR_c (wr_role (by omega)) (wr_role (by omega)) (wr_role (by omega)) (wr_role (by omega)) (wr_off (by omega)) rfl t1
      have hN1 : NMR (wr u1 (D + 12) (N 8 * 2 + 0) (nI t)) v1 w1 z1 M nn nm ss xx := NMR_wr (by omega) (by omega) (NMR_step hM g1 g1v g1m g1w hN0)
      have hk2 := pr_known (T := T) (D := D) (m := m) (c3 := c3) (c4 := c4) (T2 := T2) (D2 := D2) (m2 := m2) (M := M) (c3b := c3b) (c := 1) hMs hM hN1 (by decide) tp1
      rw [show nI (1 + 2) = (3 : Int32) from rfl, show nI 1 = (1 : Int32) from rfl] at hk2
      rcases hk2 with ⟨a, u2, v2, w2, z2, e21, e22, e23, e24, ⟨q2, hq2, hs2, rfl, e25⟩, ⟨s2, k2, l2, x2, t2, ts2⟩, g2, g2v, g2m, g2w⟩ | ⟨a, u2, v2, w2, z2, e21, e22, e23, e24, e25⟩
      · have hb2 : xx q2 < N 3 := by have := hxx q2 hq2; rw [hs2] at this; exact this
        generalize hpq : xx q2 = p at *
        have hp2 := put_D (T := T) (D := D) (m := m) (c3 := c3) (c4 := c4) (uc := u2) (vc := v2) (i := N 8) (j := 1) hCt.2.2.2.2.2.2.1 (by decide) (by decide) hf (by decide) e25
        rw [show nI 1 = (1 : Int32) from rfl] at hp2
        have cq : ∀ q, q ≠ 1 → q ≠ D + 12 → u2 q = uc q := fun q h1 h3 => by rw [cfT_q g2 h1, wr_off h3, cfT_q g1 h1]
        have c2 : u2 (D + 12) = upd (uc (D + 12)) (N 8 * 2 + 0) (nI t) := by rw [cfT_q g2 (by omega), wr_arr, cfT_q g1 (by omega)]
        have c5 : u2 1 5 = uc 1 5 := by rw [cfT_5 g2, wr_role (by omega), cfT_5 g1]
        have cv : v2 24 = vc 24 := by rw [cfV_q g2v (by decide), cfV_q g1v (by decide)]
        have cad : f_X6_addTo (Rep (SH T D c3 c4 m) (wr u2 (D + 12) (N 8 * 2 + 1) (nI p)) v2) 1 8 = some (1, Rep (SH T D c3 c4 m) (wr (wr u2 (D + 12) (N 8 * 2 + 1) (nI p)) (D + 20) 8 (nI (N 8 + 1))) v2) := add_D (c := 8) ho (by decide) (by rw [wr_role (by omega), cq _ (by omega) (by omega)]; exact (j0 8 (by decide)).1)
        have mq : ∀ q, q ≠ 75 → w2 q = um q := fun q h1 => by rw [mfT_q g2m h1, mfT_q g1m h1]
        have mv : z2 (M + 22) = vm (M + 22) := by rw [mfV_q g2w (by omega), mfV_q g1w (by omega)]
        have n9 : ¬ w2 75 9 = 5 := by
          obtain ⟨-, -, -, -, -, hk5, -, -, e, -, -, -, -, hMt⟩ := t2
          rw [hMt.1]; exact mkK_ne hk5
        have ma0 : wr w2 (M + 3) t (nI p) M 8 = nI (N 8) := by rw [wr_role (by omega), mq M (by omega)]; exact (j0 8 (by decide)).2.1
        have ma1 : wr (wr w2 (M + 3) t (nI p)) (M + 4) (N 8) (nI t) M 8 = nI (N 8) := by rw [wr_role (by omega), ma0]
        refine Or.inl ⟨wr (wr u2 (D + 12) (N 8 * 2 + 1) (nI p)) (D + 20) 8 (nI (N 8 + 1)), v2, wr (wr (wr w2 (M + 3) t (nI p)) (M + 4) (N 8) (nI t)) M 8 (nI (N 8 + 1)), z2, ?_, ?_, ?_, ?_, ⟨?_, ?_⟩, ⟨s2, k2, l2, x2, ?_, by omega⟩, updN N 8 (N 8 + 1), ?_, ?_⟩
        · rw [fin _ rfl]
          unfold f_X6_readFound
          rw [gC_1, Option.bind_some, gR_1_2, Option.bind_some, eC, Option.bind_some, e11', q_b2_some, if_neg (by decide), gR_1_2, Option.bind_some, gI_1_11, Option.bind_some, r5, eF, Option.bind_some, show bI false = 0 from rfl, if_pos rfl, Option.bind_some, cR_5 hCt, Option.bind_some, hp1, q_b2_some, if_neg (by decide), e21, q_b2_some, if_neg (by decide), gR_1_2, Option.bind_some, cR_5 hCt, Option.bind_some, hp2, q_b2_some, if_neg (by decide), q_b2_some, if_neg (by decide), cad, q_b2_some, if_neg (by decide)]
        · unfold mFnd
          rw [e12, q_b2_some, gI_75_9, Option.bind_some, if_neg h9, gR_75_4, Option.bind_some, mR_13 hMs, Option.bind_some, ma_3 hMs (by omega), Option.bind_some, if_pos cr]
          unfold J_X12_readFound_39
          rw [r2, Option.bind_some, e22, q_b2_some, gI_75_9, Option.bind_some, if_neg n9, gR_75_4, Option.bind_some, mR_13 hMs, Option.bind_some, ms_3 hMs (by omega), Option.bind_some, gR_75_4, Option.bind_some, mR_14 hMs, Option.bind_some, Option.bind_some, mI_8 hMs, Option.bind_some, ma0, ms_4 hMs hf, Option.bind_some, gR_75_4, Option.bind_some, mI_8 hMs, Option.bind_some, ma1, nI_1, mW_8 hMs, Option.bind_some]
        · exact rdC_wr (rdC_wr (rdC_trans (rdC_wr (rdC_T g1) (by omega)) (rdC_T g2)) (by omega)) (by omega)
        · exact rdM_wr (rdM_wr (rdM_wr (rdM_trans (rdM_T g1m) (rdM_T g2m)) (by omega)) (by omega)) (by omega)
        · rw [wr_role (by omega), wr_role (by omega), cfT_13 g2, wr_role (by omega), cfT_13 g1]
        · rw [wr_role (by omega), wr_role (by omega), wr_role (by omega), mfT_12 g2m, mfT_12 g1m]
        · refine TKR_c (uc := u2) ?_ ?_ ?_ ?_ ?_ rfl (TKR_m (um := w2) ?_ ?_ rfl t2)
          · rw [wr_role (by omega), wr_role (by omega)]
          · rw [wr_role (by omega), wr_role (by omega)]
          · rw [wr_role (by omega), wr_role (by omega)]
          · rw [wr_role (by omega), wr_role (by omega)]
          · rw [wr_off (by omega), wr_off (by omega)]
          · rw [wr_off (by omega), wr_off (by omega), wr_off (by omega)]
          · rw [wr_off (by omega), wr_off (by omega), wr_off (by omega)]
        · have hoff : ∀ q, q ≠ 1 → q ≠ D + 12 → q ≠ D + 20 → wr (wr u2 (D + 12) (N 8 * 2 + 1) (nI p)) (D + 20) 8 (nI (N 8 + 1)) q = uc q := fun q h1 h3 h4 => by rw [wr_off h4, wr_off h3, cq q h1 h3]
          have hom : ∀ q, q ≠ 75 → q ≠ M → q ≠ M + 3 → q ≠ M + 4 → wr (wr (wr w2 (M + 3) t (nI p)) (M + 4) (N 8) (nI t)) M 8 (nI (N 8 + 1)) q = um q := fun q h0 h1 h2 h3 => by rw [wr_off h1, wr_off h3, wr_off h2, mq q h0]
          have hn : ∀ q, q ≠ 8 → updN N 8 (N 8 + 1) q = N q := fun q hq => by rw [updN_at, if_neg hq]
          have hn2 : updN N 8 (N 8 + 1) 8 = N 8 + 1 := if_pos rfl
          have kc : wr (wr u2 (D + 12) (N 8 * 2 + 1) (nI p)) (D + 20) 8 (nI (N 8 + 1)) (D + 12) = upd (upd (uc (D + 12)) (N 8 * 2 + 0) (nI t)) (N 8 * 2 + 1) (nI p) := by rw [wr_off (by omega), wr_arr, c2]
          have km3 : wr (wr (wr w2 (M + 3) t (nI p)) (M + 4) (N 8) (nI t)) M 8 (nI (N 8 + 1)) (M + 3) = upd (um (M + 3)) t (nI p) := by rw [wr_off (by omega), wr_off (by omega), wr_arr, mq _ (by omega)]
          have km4 : wr (wr (wr w2 (M + 3) t (nI p)) (M + 4) (N 8) (nI t)) M 8 (nI (N 8 + 1)) (M + 4) = upd (um (M + 4)) (N 8) (nI t) := by rw [wr_off (by omega), wr_arr, wr_off (by omega), mq _ (by omega)]
          refine ⟨ad_Cnt (by decide) (show N 8 + 1 ≤ 4 by omega) ?_ ?_ j0, cg_Thing (hoff _ (by omega) (by omega) (by omega)) (hom _ (by omega) (by omega) (by omega) (by omega)) (hom _ (by omega) (by omega) (by omega) (by omega)) (hn 2 (by decide)) j1, cg_Pers (hoff _ (by omega) (by omega) (by omega)) (hom _ (by omega) (by omega) (by omega) (by omega)) (hom _ (by omega) (by omega) (by omega) (by omega)) (hom _ (by omega) (by omega) (by omega) (by omega)) (hn 3 (by decide)) j2, cg_Tram (hoff _ (by omega) (by omega) (by omega)) (hom _ (by omega) (by omega) (by omega) (by omega)) (hom _ (by omega) (by omega) (by omega) (by omega)) (hn 4 (by decide)) j3, cg_Givr (hoff _ (by omega) (by omega) (by omega)) (hom _ (by omega) (by omega) (by omega) (by omega)) (hn 5 (by decide)) j4, cg_Ride (hoff _ (by omega) (by omega) (by omega)) (hom _ (by omega) (by omega) (by omega) (by omega)) (updN_le 4) j5, cg_Take (hoff _ (by omega) (by omega) (by omega)) (hom _ (by omega) (by omega) (by omega) (by omega)) (updN_le 4) j6, cg_Gift (hoff _ (by omega) (by omega) (by omega)) (hom _ (by omega) (by omega) (by omega) (by omega)) (hom _ (by omega) (by omega) (by omega) (by omega)) (hom _ (by omega) (by omega) (by omega) (by omega)) (hom _ (by omega) (by omega) (by omega) (by omega)) (hn 7 (by decide)) updN_le j7, ?_, cg_Exam (hoff _ (by omega) (by omega) (by omega)) (hom _ (by omega) (by omega) (by omega) (by omega)) (hom _ (by omega) (by omega) (by omega) (by omega)) (hom _ (by omega) (by omega) (by omega) (by omega)) (hom _ (by omega) (by omega) (by omega) (by omega)) (hom _ (by omega) (by omega) (by omega) (by omega)) (hn 9 (by decide)) updN_le j9, ?_⟩
          · rw [wr_arr, wr_off (by omega), cq _ (by omega) (by omega)]
          · intro q hq
            by_cases e : q = 8
            · subst e; rw [wr_same, if_pos rfl]
            · rw [wr_ix e, wr_role (by omega), wr_role (by omega), if_neg e, mq _ (by omega)]
          · unfold r2Fnd
            rw [kc, km3, km4, hn2, hn 2 (by decide), hn 3 (by decide)]
            refine ⟨fun i hi => ?_, fun t' ht' => ?_, fun i i' h1 h2 => ?_⟩
            · simp -implicitDefEqProofs only [upd_at]
              by_cases e : i = N 8
              · refine ⟨t, p, hb1, hb2, by rw [if_pos e], by rw [if_pos rfl], ?_, ?_⟩
                · rw [if_neg (by omega), if_pos (by rw [e])]
                · rw [if_pos (by rw [e])]
              · obtain ⟨a1, a2, a3, p', a4, a5, a6⟩ := htk i (by omega)
                refine ⟨tk i, p', a1, a4, by rw [if_neg e]; exact a2, by rw [if_neg (hno i (by omega))]; exact a5, ?_, ?_⟩
                · rw [if_neg (by omega), if_neg (by omega)]; exact a3
                · rw [if_neg (by omega), if_neg (by omega)]; exact a6
            · simp -implicitDefEqProofs only [upd_at]
              by_cases e : t' = t
              · exact Or.inr ⟨N 8, by omega, by rw [if_pos rfl, e]⟩
              · rw [if_neg e]
                rcases f1 t' ht' with z | ⟨i, hi, z⟩
                · exact Or.inl z
                · exact Or.inr ⟨i, by omega, by rw [if_neg (by omega)]; exact z⟩
            · simp -implicitDefEqProofs only [upd_at]
              rw [if_neg (show ¬ i = N 8 by omega)]
              by_cases e : i' = N 8
              · rw [if_pos e, (htk i (by omega)).2.1]
                intro z
                exact hno i (by omega) ((nI_eq (by have := (htk i (by omega)).1; omega) (by omega)).mp z)
              · rw [if_neg e]; exact f2 i i' h1 (by omega)
          · rw [hn 0 (by decide)]; exact j10
        · refine J2_keep (uc := uc) (vc := vc) (um := um) (vm := vm) (N := N) ?_ ?_ ?_ ?_ ?_ cv mv ⟨if_neg (by decide), if_neg (by decide), if_neg (by decide), if_neg (by decide)⟩ ⟨nm, ss, xx, by rw [hnn]; exact hN0, by rw [hnn]; exact hxx⟩
          · rw [wr_role (by omega), wr_role (by omega), c5]
          · rw [wr_off (by omega), wr_off (by omega), cq _ (by omega) (by omega)]
          · rw [wr_ix (by decide), wr_role (by omega), wr_role (by omega), mq _ (by omega)]
          · rw [wr_off (by omega), wr_off (by omega), wr_off (by omega), mq _ (by omega)]
          · rw [wr_off (by omega), wr_off (by omega), wr_off (by omega), mq _ (by omega)]
      · have e5' := e25
        obtain ⟨dn, ds, -, -, -, -, -, -, h5⟩ := e5'
        refine Or.inr ⟨u2, v2, w2, z2, ?_, ?_, ?_, ?_, e25⟩
        · rw [fin _ rfl]
          unfold f_X6_readFound
          rw [gC_1, Option.bind_some, gR_1_2, Option.bind_some, eC, Option.bind_some, e11', q_b2_some, if_neg (by decide), gR_1_2, Option.bind_some, gI_1_11, Option.bind_some, r5, eF, Option.bind_some, show bI false = 0 from rfl, if_pos rfl, Option.bind_some, cR_5 hCt, Option.bind_some, hp1, q_b2_some, if_neg (by decide), e21, q_b2_some, if_pos rfl, q_b2_some, if_pos rfl]
        · unfold mFnd
          rw [e12, q_b2_some, gI_75_9, Option.bind_some, if_neg h9, gR_75_4, Option.bind_some, mR_13 hMs, Option.bind_some, ma_3 hMs (by omega), Option.bind_some, if_pos cr]
          unfold J_X12_readFound_39
          rw [r2, Option.bind_some, e22, q_b2_some, gI_75_9, Option.bind_some, if_pos h5]
        · exact rdC_trans (rdC_wr (rdC_T g1) (by omega)) e23
        · exact rdM_trans (rdM_T g1m) (rdM_F e24)
    · have ha : anyB (fun k => decide (tk k = t)) (N 8) 0 = true := by
        rw [anyB_iff]
        rcases f1 t (by omega) with z | ⟨i, hi, z⟩
        · exact absurd z cr
        · refine ⟨i, by omega, by omega, decide_eq_true ?_⟩
          rw [(htk i hi).2.1] at z
          exact (nI_eq (by have := (htk i hi).1; omega) (by omega)).mp z
      rw [ha] at eF
      obtain ⟨d1, d2, d3, d4, d5⟩ := flaw_DD (T2 := T2) (D2 := D2) (m2 := m2) (c3b := c3b) (c4 := fR M) (D := D) (n := 3) h (by omega)
      have d1' : f_X12_flaw (Rep (SH T2 D2 c3b (fR M) m2) um vm) 75 3 = _ := d1
      have hd : wr (wr (wr um 75 12 (nI 3)) 75 13 (um 75 10)) 75 9 5 M 10 = nI nn := by rw [d4 M 10 (by omega)]; exact hN0.2.1
      refine Or.inr ⟨wr (wr u1 1 13 3) 1 14 (nI s), v1, wr (wr (wr um 75 12 (nI 3)) 75 13 (um 75 10)) 75 9 5, vm, ?_, ?_, ?_, rdM_F d4, ?_⟩
      · rw [fin _ rfl]
        unfold f_X6_readFound
        rw [gC_1, Option.bind_some, gR_1_2, Option.bind_some, eC, Option.bind_some, e11', q_b2_some, if_neg (by decide), gR_1_2, Option.bind_some, gI_1_11, Option.bind_some, r5, eF, Option.bind_some, show bI true = 1 from rfl, if_neg (by decide), gI_1_12, Option.bind_some, r6, d5, cls_fail, q_b2_some, zr0, q_b2_some, if_pos rfl]
      · unfold mFnd
        rw [e12, q_b2_some, gI_75_9, Option.bind_some, if_neg h9, gR_75_4, Option.bind_some, mR_13 hMs, Option.bind_some, ma_3 hMs (by omega), Option.bind_some, if_neg cr, d1', Option.bind_some, dead39 _ _ _ (wr_same _ _ _ _) hd]
      · exact rdC_wr (rdC_wr (rdC_T g1) (by omega)) (by omega)
      · obtain ⟨n, s', a1, a2, a3, a4, a5, a6, a7⟩ := d2
        refine ⟨3, s, by omega, by omega, ?_, ?_, ?_, ?_, wr_same _ _ _ _⟩
        · rw [wr_ix (by decide), wr_same]; rfl
        · rw [wr_ix (by decide), wr_ix (by decide), wr_same]
        · rw [wr_same]
        · rw [a6, ← a5, wr_same]
  · have e5' := e15
    obtain ⟨dn, ds, -, -, -, -, -, -, h5⟩ := e5'
    have hd : w1 M 10 = nI nn := by rw [e14 M 10 (by omega)]; exact hN0.2.1
    refine Or.inr ⟨u1, vc, w1, vm, ?_, ?_, e13, rdM_F e14, e15⟩
    · rw [fin _ rfl]
      unfold f_X6_readFound
      rw [gC_1, Option.bind_some, gR_1_2, Option.bind_some, eC, Option.bind_some, e11, q_b2_some, if_pos rfl, q_b2_some, if_pos rfl]
    · unfold mFnd
      rw [e12, q_b2_some, gI_75_9, Option.bind_some, if_pos h5, dead39 _ _ _ h5 hd]
end LI5
