/-! ===== the reader: a line, of both ===== -/
theorem cfT_q {u u' : mU} {q : Nat} (h : cfT u u') (hq : q ≠ 1) : u' q = u q := funext fun j => h q j (fun z => hq z.1)
theorem mfT_q {u u' : mU} {q : Nat} (h : mfT u u') (hq : q ≠ 75) : u' q = u q := funext fun j => h q j (fun z => hq z.1)
theorem cfV_q {v v' : mV} {q : Nat} (h : cfV v v') (hq : q ≠ 1) : v' q = v q := funext fun j => h q j hq
theorem mfV_q {v v' : mV} {q : Nat} (h : mfV v v') (hq : q ≠ 75) : v' q = v q := funext fun j => h q j hq
theorem cfT_5 {u u' : mU} (h : cfT u u') : u' 1 5 = u 1 5 := h 1 5 (fun z => by omega)
theorem cfT_13 {u u' : mU} (h : cfT u u') : u' 1 13 = u 1 13 := h 1 13 (fun z => by omega)
theorem mfT_12 {u u' : mU} (h : mfT u u') : u' 75 12 = u 75 12 := h 75 12 (fun z => by omega)
theorem TKR_m {L s k x : Nat} {l : List Nat} {uc um um' : mU} {vc vm vm' : mV} (h75 : um' 75 = um 75) (h76 : um' 76 = um 76) (hv : vm' 75 14 = vm 75 14) (h : TKR L uc vc um vm s k l x) : TKR L uc vc um' vm' s k l x := by
  obtain ⟨a1, a2, a3, a4, a5, a6, a7, a8, e, e1, e2, e3, hC, hM⟩ := h
  refine ⟨a1, a2, by rw [h75]; exact a3, by rw [h76]; exact a4, a5, a6, a7, a8, e, e1, e2, e3, hC, ?_⟩
  unfold MT at *
  rw [h75, hv]
  exact hM
/-- a line read by both, or a fault -/
def LNE (T D m : Nat) (c3 c4 : sF) (T2 D2 m2 M : Nat) (c3b : sF) (L s : Nat) (uc um : mU) (X : Option (Int32 × qS)) (Y : Option qS) : Prop :=
  (∃ uc' vc' um' vm', X = some (1, Rep (SH T D c3 c4 m) uc' vc') ∧ Y = some (Rep (SH T2 D2 c3b (fR M) m2) um' vm') ∧ rdC D uc uc' ∧ rdM M um um' ∧ (uc' 1 13 = uc 1 13 ∧ um' 75 12 = um 75 12) ∧ (∃ s' k' l' x', TKR L uc' vc' um' vm' s' k' l' x' ∧ s < s') ∧ ∃ N', J1 uc' um' D M N' ∧ J2 uc' vc' um' vm' M N') ∨
  (∃ uc' vc' um' vm', X = some (0, Rep (SH T D c3 c4 m) uc' vc') ∧ Y = some (Rep (SH T2 D2 c3b (fR M) m2) um' vm') ∧ rdC D uc uc' ∧ rdM M um um' ∧ DDR uc' um')
/-- the model's new name -/
abbrev nmU (um : mU) (M nn : Nat) (a b : Int32) : mU := wr (wr (wr um (M + 23) nn a) (M + 24) nn b) M 10 (nI (nn + 1))
section LIN
variable {T D m T2 D2 m2 M : Nat} {c3 c4 c3b : sF} {uc um : mU} {vc vm : mV} {L s k x nn : Nat} {l : List Nat} {N : Nat → Nat}
theorem cnt_D {c n : Nat} (ho : okTD T D) (hc : c < 10) (h : uc (D + 20) c = nI n) : f_X3_count (Rep (SH T D c3 c4 m) uc vc) D (nI c) = some (nI n) := by
  have hCt := SH_draft (c3 := c3) (c4 := c4) (m := m) ho
  unfold f_X3_count
  rw [cC hCt, Option.bind_some, cR_9 hCt, Option.bind_some, cG_9 hCt, Option.bind_some, show (0 : Int32) = nI 0 from nI_0.symm, tG_in (by decide) (by decide) (by decide) hc, Nat.zero_mul, Nat.zero_add, h]
theorem add_D {c n : Nat} (ho : okTD T D) (hc : c < 10) (h : uc (D + 20) c = nI n) : f_X6_addTo (Rep (SH T D c3 c4 m) uc vc) 1 (nI c) = some (1, Rep (SH T D c3 c4 m) (wr uc (D + 20) c (nI (n + 1))) vc) := by
  have hCt := SH_draft (c3 := c3) (c4 := c4) (m := m) ho
  unfold f_X6_addTo
  rw [gC_1, Option.bind_some, gR_1_2, Option.bind_some, cR_9 hCt, Option.bind_some, tab_add hCt.2.2.2.2.2.2.2.2.2.2, Option.bind_some, show (0 : Int32) = nI 0 from nI_0.symm, tG_in (by decide) (by decide) (by decide) hc, tS_in (by decide) (by decide) (by decide) hc, Nat.zero_mul, Nat.zero_add, h, nI_1]
theorem put_D {r a R C i j : Nat} {z : Int32} (hs : tSh (SH T D c3 c4 m) r a R C) (hR : R ≤ 100) (hC : C ≤ 100) (hi : i < R) (hj : j < C) (hz : uc 1 11 = z) : f_X6_put (Rep (SH T D c3 c4 m) uc vc) 1 r (nI i) (nI j) = some (1, Rep (SH T D c3 c4 m) (wr uc a (i * C + j) z) vc) := by
  unfold f_X6_put
  rw [gC_1, Option.bind_some, gI_1_11, Option.bind_some, hz, tab_set hs, Option.bind_some, tS_in hR hC hi hj]
theorem mod_names {y : Int64} {a b : Int32} (hMs : mSh (SH T2 D2 c3b (fR M) m2) M) (hn : um M 10 = nI nn) (hn16 : nn < 16) : f_X12_names (Rep (SH T2 D2 c3b (fR M) m2) um vm) 75 y a b = some (Rep (SH T2 D2 c3b (fR M) m2) (nmU um M nn a b) (wrL vm (M + 22) nn y)) := by
  have e1 : wr um (M + 23) nn a M 10 = nI nn := by rw [wr_role (by omega)]; exact hn
  have e2 : wr (wr um (M + 23) nn a) (M + 24) nn b M 10 = nI nn := by rw [wr_role (by omega), e1]
  unfold f_X12_names
  rw [gC_75, Option.bind_some, gR_75_4, Option.bind_some, mR_32 hMs, Option.bind_some, Option.bind_some, mI_10 hMs, Option.bind_some, hn, ms_22 hMs hn16, Option.bind_some, gR_75_4, Option.bind_some, mR_33 hMs, Option.bind_some, Option.bind_some, mI_10 hMs, Option.bind_some, hn, ms_23 hMs hn16, Option.bind_some, gR_75_4, Option.bind_some, mR_34 hMs, Option.bind_some, Option.bind_some, mI_10 hMs, Option.bind_some, e1, ms_24 hMs hn16, Option.bind_some, gR_75_4, Option.bind_some, mI_10 hMs, Option.bind_some, e2, nI_1, mW_10 hMs, Option.bind_some]
theorem thing71_dead {y : Int64} {t : Int32} (h9 : um 75 9 = 5) : J_X12_readThing_71 75 y t (Rep (SH T2 D2 c3b (fR M) m2) um vm) = some (Rep (SH T2 D2 c3b (fR M) m2) um vm) := by
  unfold J_X12_readThing_71
  rw [goes_dead h9, Option.bind_some, part_dead h9, q_b2_some, gI_75_9, Option.bind_some, if_pos h9]
/-- the model's reading of a thing's line, behind its first word -/
def mThing (g : qS) : Option qS := q_b2 (f_X12_readFresh g 75) fun v5 g4 => (f_X12_isWord g4 75 41).bind fun v6 => if v6 = 0 then ((f_X12_isWord g4 75 42).bind fun v7 => if v7 = 0 then ((f_X12_isWord g4 75 43).bind fun v8 => if v8 = 0 then (J_X12_readThing_60 75 v5 (-1) g4) else (J_X12_readThing_60 75 v5 2 g4)) else (J_X12_readThing_60 75 v5 1 g4)) else (J_X12_readThing_60 75 v5 0 g4)
theorem ln_thing (ho : okTD T D) (hMs : mSh (SH T2 D2 c3b (fR M) m2) M) (hM : 88 ≤ M) (h : TKR L uc vc um vm s k l x) (hJ : J1 uc um D M N) (hJ2 : J2 uc vc um vm M N) (hf : N 2 < 4) : LNE T D m c3 c4 T2 D2 m2 M c3b L s uc um (f_X6_readRest (Rep (SH T D c3 c4 m) uc vc) 1 1) (mThing (Rep (SH T2 D2 c3b (fR M) m2) um vm)) := by
  have hCt := SH_draft (c3 := c3) (c4 := c4) (m := m) ho
  have hD : D = 54 ∨ D = 3 := by rcases ho with ⟨rfl, rfl⟩ | ⟨rfl, rfl⟩ <;> simp
  obtain ⟨j0, ⟨j1, j1'⟩, j2, j3, j4, j5, j6, j7, j8, j9, j10⟩ := hJ
  have b3 : N 3 ≤ 5 := (j0 3 (by decide)).2.2
  have b4 : N 4 ≤ 4 := (j0 4 (by decide)).2.2
  have b5 : N 5 ≤ 3 := (j0 5 (by decide)).2.2
  obtain ⟨nm, ss, xx, hN, hxx⟩ := hJ2
  generalize hnn : N 2 + N 3 + N 4 + N 5 = nn at *
  have h16 : nn < 16 := by omega
  have eC : f_X3_count (Rep (SH T D c3 c4 m) uc vc) D 2 = some (nI (N 2)) := cnt_D (c := 2) ho (by decide) (j0 2 (by decide)).1
  have fin : ∀ X, f_X6_readThing (Rep (SH T D c3 c4 m) uc vc) 1 = X → f_X6_readRest (Rep (SH T D c3 c4 m) uc vc) 1 1 = (q_b2 X fun v2 g1 => if v2 = 0 then (some (0, g1)) else (q_b2 (f_X6_addTo g1 1 2) fun v4 g3 => if v4 = 0 then (some (0, g3)) else (some (1, g3)))) := by
    intro X hX
    unfold f_X6_readRest
    rw [gC_1, Option.bind_some, if_pos rfl, hX]
  have rT : f_X6_readThing (Rep (SH T D c3 c4 m) uc vc) 1 = q_b2 (f_X6_takeNewName (Rep (SH T D c3 c4 m) uc vc) 1 2) fun v4 g3 => if v4 = 0 then (some (0, g3)) else (q_b2 (f_X6_takeOneOf g3 1 12 13 14 15) fun v6 g5 => if v6 = 0 then (some (0, g5)) else ((g_R g5 1 5 2).bind fun v7 => (g_R g5 v7 2 0).bind fun v8 => q_b2 (f_X6_put g5 1 v8 (nI (N 2)) 0) fun v10 g9 => if v10 = 0 then (some (0, g9)) else (q_b2 (f_X6_takeWord g9 1 16) fun v12 g11 => if v12 = 0 then (some (0, g11)) else (q_b2 (f_X6_takeWhole g11 1 0 50) fun v14 g13 => if v14 = 0 then (some (0, g13)) else ((g_R g13 1 5 2).bind fun v15 => (g_R g13 v15 2 0).bind fun v16 => q_b2 (f_X6_put g13 1 v16 (nI (N 2)) 1) fun v18 g17 => if v18 = 0 then (some (0, g17)) else (some (1, g17))))))) := by
    unfold f_X6_readThing
    rw [gC_1, Option.bind_some, gR_1_2, Option.bind_some, eC, Option.bind_some]
  have hfr := pr_fresh (T := T) (D := D) (m := m) (c3 := c3) (c4 := c4) (T2 := T2) (D2 := D2) (m2 := m2) (M := M) (c3b := c3b) (c := 2) (cc := N 2) ho hMs hM hN h16 (by decide) (j0 2 (by decide)).1 h
  rw [show nI 2 = (2 : Int32) from rfl] at hfr
  rcases hfr with ⟨l0, u1, v1, w1, z1, hl0, e1, e2, ⟨s1, k1, l1, x1, t1, ts1⟩, g1, g1v, g1m, g1w⟩ | ⟨y, u1, v1, w1, z1, e1, e2, e3, e4, e5⟩
  · rcases thing_kd (T := T) (D := D) (m := m) (c3 := c3) (c4 := c4) (T2 := T2) (D2 := D2) (m2 := m2) (M := M) (c3b := c3b) (y := rv 32 l0) t1 with ⟨i, u2, v2, w2, z2, hi, a1, a2, a3, ⟨⟨s2, k2, l2, x2, t2, ts2⟩, g2, g2v, g2m, g2w⟩, a4⟩ | ⟨u2, w2, a1, a2, a3, a4, a5⟩
    · have hp1 := put_D (T := T) (D := D) (m := m) (c3 := c3) (c4 := c4) (uc := u2) (vc := v2) (i := N 2) (j := 0) hCt.2.1 (by decide) (by decide) hf (by decide) a3
      rw [nI_0] at hp1
      have t3 : TKR L (wr u2 (D + 2) (N 2 * 2 + 0) (nI i)) v2 w2 z2 s2 k2 l2 x2 := TKR_c (wr_role (by omega)) (wr_role (by omega)) (wr_role (by omega)) (wr_role (by omega)) (wr_off (by omega)) rfl t2
      have hpt := pr_part (T := T) (D := D) (m := m) (c3 := c3) (c4 := c4) (T2 := T2) (D2 := D2) (m2 := m2) (M := M) (c3b := c3b) (w := 16) (lo := 0) (hi := 50) (by decide) (by decide) (by decide) (by decide) t3
      rw [nI_0, show nI 50 = (50 : Int32) from rfl, show mw 16 = 44 from rfl] at hpt
      rcases hpt with ⟨a, u4, v4, w4, z4, p1, p2, p3, p4, ⟨wg, -, hwg, rfl, p5⟩, ⟨s4, k4, l4, x4, t4, ts4⟩, g4, g4v, g4m, g4w⟩ | ⟨a, u4, v4, w4, z4, p1, p2, p3, p4, p5⟩
      · dsimp only at p1
        have hp2 := put_D (T := T) (D := D) (m := m) (c3 := c3) (c4 := c4) (uc := u4) (vc := v4) (i := N 2) (j := 1) hCt.2.1 (by decide) (by decide) hf (by decide) p5
        rw [show nI 1 = (1 : Int32) from rfl] at hp2
        -- the class's end
        have cq : ∀ q, q ≠ 1 → q ≠ 26 → q ≠ D + 2 → u4 q = uc q := fun q h1 h2 h3 => by
          rw [cfT_q g4 h1, wr_off h3, cfT_q g2 h1, cfT_q g1 h1]
          unfold nwU
          rw [wr_off h1, wr_off h2, wr_off h2]
        have c2 : u4 (D + 2) = upd (uc (D + 2)) (N 2 * 2 + 0) (nI i) := by
          rw [cfT_q g4 (by omega), wr_arr, cfT_q g2 (by omega), cfT_q g1 (by omega)]
          unfold nwU
          rw [wr_off (by omega), wr_off (by omega), wr_off (by omega)]
        have c26 : u4 26 = upd (upd (uc 26) (nn * 2 + 0) (nI 2)) (nn * 2 + 1) (nI (N 2)) := by
          rw [cfT_q g4 (by omega), wr_off (by omega), cfT_q g2 (by omega), cfT_q g1 (by omega)]
          unfold nwU
          rw [wr_off (by omega), wr_arr, wr_arr]
        have c5 : u4 1 5 = nI (nn + 1) := by
          rw [cfT_5 g4, wr_role (by omega), cfT_5 g2, cfT_5 g1]
          exact wr_same _ _ _ _
        have cv : v4 24 = wrL vc 24 nn (rv 27 l0) 24 := by rw [cfV_q g4v (by decide), cfV_q g2v (by decide), cfV_q g1v (by decide)]
        have cad : f_X6_addTo (Rep (SH T D c3 c4 m) (wr u4 (D + 2) (N 2 * 2 + 1) (nI wg)) v4) 1 2 = some (1, Rep (SH T D c3 c4 m) (wr (wr u4 (D + 2) (N 2 * 2 + 1) (nI wg)) (D + 20) 2 (nI (N 2 + 1))) v4) := add_D (c := 2) ho (by decide) (by rw [wr_role (by omega), cq _ (by omega) (by omega) (by omega)]; exact (j0 2 (by decide)).1)
        -- the model's end
        have mq : ∀ q, q ≠ 75 → w4 q = um q := fun q h1 => by rw [mfT_q g4m h1, mfT_q g2m h1, mfT_q g1m h1]
        have mv : z4 (M + 22) = vm (M + 22) := by rw [mfV_q g4w (by omega), mfV_q g2w (by omega), mfV_q g1w (by omega)]
        have mn : w4 M 10 = nI nn := by rw [mq M (by omega)]; exact hN.2.1
        have m2' : w4 M 2 = nI (N 2) := by rw [mq M (by omega)]; exact (j0 2 (by decide)).2.1
        have n9 : ¬ w4 75 9 = 5 := by
          obtain ⟨-, -, -, -, -, hk5, -, -, e, -, -, -, -, hMt⟩ := t4
          rw [hMt.1]; exact mkK_ne hk5
        have m2a : nmU w4 M nn 0 (nI (N 2)) M 2 = nI (N 2) := by unfold nmU; rw [wr_ix (by decide), wr_role (by omega), wr_role (by omega), m2']
        have m2b : wr (nmU w4 M nn 0 (nI (N 2))) (M + 1) (N 2) (nI i) M 2 = nI (N 2) := by rw [wr_role (by omega), m2a]
        have m2c : wr (wr (nmU w4 M nn 0 (nI (N 2))) (M + 1) (N 2) (nI i)) (M + 2) (N 2) (nI wg) M 2 = nI (N 2) := by rw [wr_role (by omega), m2b]
        refine Or.inl ⟨wr (wr u4 (D + 2) (N 2 * 2 + 1) (nI wg)) (D + 20) 2 (nI (N 2 + 1)), v4, wr (wr (wr (nmU w4 M nn 0 (nI (N 2))) (M + 1) (N 2) (nI i)) (M + 2) (N 2) (nI wg)) M 2 (nI (N 2 + 1)), wrL z4 (M + 22) nn (rv 32 l0), ?_, ?_, ?_, ?_, ⟨?_, ?_⟩, ⟨s4, k4, l4, x4, ?_, by omega⟩, updN N 2 (N 2 + 1), ?_, ?_⟩
        · rw [fin _ rT, e1, q_b2_some, if_neg (by decide), a1, q_b2_some, if_neg (by decide), gR_1_2, Option.bind_some, cR_0 hCt, Option.bind_some, hp1, q_b2_some, if_neg (by decide), p1, gR_1_2, Option.bind_some, cR_0 hCt, Option.bind_some, hp2, q_b2_some, if_neg (by decide), q_b2_some, if_neg (by decide), cad, q_b2_some, if_neg (by decide)]
        · unfold mThing
          rw [e2, q_b2_some, a4]
          unfold J_X12_readThing_71
          rw [a2, Option.bind_some, p2, q_b2_some, gI_75_9, Option.bind_some, if_neg n9, gR_75_4, Option.bind_some, mI_2 hMs, Option.bind_some, m2', mod_names hMs mn h16, Option.bind_some, gR_75_4, Option.bind_some, mR_11 hMs, Option.bind_some, Option.bind_some, mI_2 hMs, Option.bind_some, m2a, ms_1 hMs hf, Option.bind_some, gR_75_4, Option.bind_some, mR_12 hMs, Option.bind_some, Option.bind_some, mI_2 hMs, Option.bind_some, m2b, ms_2 hMs hf, Option.bind_some, gR_75_4, Option.bind_some, mI_2 hMs, Option.bind_some, m2c, nI_1, mW_2 hMs, Option.bind_some]
        · exact rdC_wr (rdC_wr (rdC_trans (rdC_wr (rdC_trans (rdC_trans (rdC_wr (rdC_wr (rdC_wr rdC_refl (by omega)) (by omega)) (by omega)) (rdC_T g1)) (rdC_T g2)) (by omega)) (rdC_T g4)) (by omega)) (by omega)
        · exact rdM_wr (rdM_wr (rdM_wr (rdM_wr (rdM_wr (rdM_wr (rdM_trans (rdM_trans (rdM_T g1m) (rdM_T g2m)) (rdM_T g4m)) (by omega)) (by omega)) (by omega)) (by omega)) (by omega)) (by omega)
        · rw [wr_role (by omega), wr_role (by omega), cfT_13 g4, wr_role (by omega), cfT_13 g2, cfT_13 g1]
          unfold nwU
          rw [wr_ix (by decide), wr_role (by omega), wr_role (by omega)]
        · unfold nmU
          rw [wr_role (by omega), wr_role (by omega), wr_role (by omega), wr_role (by omega), wr_role (by omega), wr_role (by omega), mfT_12 g4m, mfT_12 g2m, mfT_12 g1m]
        · refine TKR_c (uc := u4) ?_ ?_ ?_ ?_ ?_ rfl (TKR_m (um := w4) ?_ ?_ ?_ t4)
          · rw [wr_role (by omega), wr_role (by omega)]
          · rw [wr_role (by omega), wr_role (by omega)]
          · rw [wr_role (by omega), wr_role (by omega)]
          · rw [wr_role (by omega), wr_role (by omega)]
          · rw [wr_off (by omega), wr_off (by omega)]
          · unfold nmU; rw [wr_off (by omega), wr_off (by omega), wr_off (by omega), wr_off (by omega), wr_off (by omega), wr_off (by omega)]
          · unfold nmU; rw [wr_off (by omega), wr_off (by omega), wr_off (by omega), wr_off (by omega), wr_off (by omega), wr_off (by omega)]
          · exact wrL_role (by omega)
        · have hoff : ∀ q, q ≠ 1 → q ≠ 26 → q ≠ D + 2 → q ≠ D + 20 → wr (wr u4 (D + 2) (N 2 * 2 + 1) (nI wg)) (D + 20) 2 (nI (N 2 + 1)) q = uc q := fun q h1 h2 h3 h4 => by rw [wr_off h4, wr_off h3, cq q h1 h2 h3]
          have hom : ∀ q, q ≠ 75 → q ≠ M → q ≠ M + 1 → q ≠ M + 2 → q ≠ M + 23 → q ≠ M + 24 → wr (wr (wr (nmU w4 M nn 0 (nI (N 2))) (M + 1) (N 2) (nI i)) (M + 2) (N 2) (nI wg)) M 2 (nI (N 2 + 1)) q = um q := fun q h0 h1 h2 h3 h4 h5 => by
            unfold nmU
            rw [wr_off h1, wr_off h3, wr_off h2, wr_off h1, wr_off h5, wr_off h4, mq q h0]
          have hn : ∀ q, q ≠ 2 → updN N 2 (N 2 + 1) q = N q := fun q hq => by rw [updN_at, if_neg hq]
          have hn2 : updN N 2 (N 2 + 1) 2 = N 2 + 1 := if_pos rfl
          have k2 : wr (wr u4 (D + 2) (N 2 * 2 + 1) (nI wg)) (D + 20) 2 (nI (N 2 + 1)) (D + 2) = upd (upd (uc (D + 2)) (N 2 * 2 + 0) (nI i)) (N 2 * 2 + 1) (nI wg) := by rw [wr_off (by omega), wr_arr, c2]
          have k1 : wr (wr (wr (nmU w4 M nn 0 (nI (N 2))) (M + 1) (N 2) (nI i)) (M + 2) (N 2) (nI wg)) M 2 (nI (N 2 + 1)) (M + 1) = upd (um (M + 1)) (N 2) (nI i) := by
            unfold nmU
            rw [wr_off (by omega), wr_off (by omega), wr_arr, wr_off (by omega), wr_off (by omega), wr_off (by omega), mq _ (by omega)]
          have k3 : wr (wr (wr (nmU w4 M nn 0 (nI (N 2))) (M + 1) (N 2) (nI i)) (M + 2) (N 2) (nI wg)) M 2 (nI (N 2 + 1)) (M + 2) = upd (um (M + 2)) (N 2) (nI wg) := by
            unfold nmU
            rw [wr_off (by omega), wr_arr, wr_off (by omega), wr_off (by omega), wr_off (by omega), wr_off (by omega), mq _ (by omega)]
          refine ⟨ad_Cnt (by decide) (show N 2 + 1 ≤ 4 by omega) ?_ ?_ j0, ⟨?_, ?_⟩, cg_Pers (hoff _ (by omega) (by omega) (by omega) (by omega)) (hom _ (by omega) (by omega) (by omega) (by omega) (by omega) (by omega)) (hom _ (by omega) (by omega) (by omega) (by omega) (by omega) (by omega)) (hom _ (by omega) (by omega) (by omega) (by omega) (by omega) (by omega)) (hn 3 (by decide)) j2, cg_Tram (hoff _ (by omega) (by omega) (by omega) (by omega)) (hom _ (by omega) (by omega) (by omega) (by omega) (by omega) (by omega)) (hom _ (by omega) (by omega) (by omega) (by omega) (by omega) (by omega)) (hn 4 (by decide)) j3, cg_Givr (hoff _ (by omega) (by omega) (by omega) (by omega)) (hom _ (by omega) (by omega) (by omega) (by omega) (by omega) (by omega)) (hn 5 (by decide)) j4, cg_Ride (hoff _ (by omega) (by omega) (by omega) (by omega)) (hom _ (by omega) (by omega) (by omega) (by omega) (by omega) (by omega)) (updN_le 4) j5, cg_Take (hoff _ (by omega) (by omega) (by omega) (by omega)) (hom _ (by omega) (by omega) (by omega) (by omega) (by omega) (by omega)) (updN_le 4) j6, cg_Gift (hoff _ (by omega) (by omega) (by omega) (by omega)) (hom _ (by omega) (by omega) (by omega) (by omega) (by omega) (by omega)) (hom _ (by omega) (by omega) (by omega) (by omega) (by omega) (by omega)) (hom _ (by omega) (by omega) (by omega) (by omega) (by omega) (by omega)) (hom _ (by omega) (by omega) (by omega) (by omega) (by omega) (by omega)) (hn 7 (by decide)) updN_le j7, cg_Fnd (hoff _ (by omega) (by omega) (by omega) (by omega)) (hom _ (by omega) (by omega) (by omega) (by omega) (by omega) (by omega)) (hom _ (by omega) (by omega) (by omega) (by omega) (by omega) (by omega)) (hn 8 (by decide)) updN_le j8, cg_Exam (hoff _ (by omega) (by omega) (by omega) (by omega)) (hom _ (by omega) (by omega) (by omega) (by omega) (by omega) (by omega)) (hom _ (by omega) (by omega) (by omega) (by omega) (by omega) (by omega)) (hom _ (by omega) (by omega) (by omega) (by omega) (by omega) (by omega)) (hom _ (by omega) (by omega) (by omega) (by omega) (by omega) (by omega)) (hom _ (by omega) (by omega) (by omega) (by omega) (by omega) (by omega)) (hn 9 (by decide)) updN_le j9, ?_⟩
          · rw [wr_arr, wr_off (by omega), cq _ (by omega) (by omega) (by omega)]
          · intro q hq
            unfold nmU
            by_cases e : q = 2
            · subst e; rw [wr_same, if_pos rfl]
            · rw [wr_ix e, wr_role (by omega), wr_role (by omega), wr_ix (by omega), wr_role (by omega), wr_role (by omega), if_neg e, mq _ (by omega)]
          · unfold r2Thing
            rw [k1, k2, k3, hn2]
            intro t ht
            simp -implicitDefEqProofs only [upd_at]
            by_cases e : t = N 2
            · subst e
              rw [if_neg (by omega), if_pos rfl, if_pos rfl, if_pos rfl, if_pos rfl]
              exact ⟨rfl, rfl⟩
            · rw [if_neg (by omega), if_neg (by omega), if_neg e, if_neg (by omega), if_neg (by omega), if_neg e]
              exact j1 t (by omega)
          · unfold b2Thing
            rw [k1, k3, hn2]
            intro t ht
            simp -implicitDefEqProofs only [upd_at]
            by_cases e : t = N 2
            · rw [if_pos e, if_pos e]; exact ⟨i, wg, hi, hwg, rfl, rfl⟩
            · rw [if_neg e, if_neg e]; exact j1' t (by omega)
          · rw [hn 0 (by decide)]; exact j10
        · refine J2_add (c := 2) (l0 := l0) (uc := uc) (vc := vc) (um := um) (vm := vm) (by omega) hl0 (by omega) ?_ ?_ ?_ ?_ ?_ ?_ ?_ (by omega) ⟨nm, ss, xx, by rw [hnn]; exact hN, by rw [hnn]; exact hxx⟩
          · rw [hnn, wr_role (by omega), wr_role (by omega), c5]
          · rw [hnn, wr_off (by omega), wr_off (by omega), c26]
          · unfold nmU
            rw [hnn, wr_ix (by decide), wr_role (by omega), wr_role (by omega), wr_same]
          · unfold nmU
            rw [hnn, wr_off (by omega), wr_off (by omega), wr_off (by omega), wr_off (by omega), wr_off (by omega), wr_arr, mq _ (by omega)]
            rfl
          · unfold nmU
            rw [hnn, wr_off (by omega), wr_off (by omega), wr_off (by omega), wr_off (by omega), wr_arr, wr_off (by omega), mq _ (by omega)]
          · intro j
            rw [hnn, cv]
            unfold wrL
            simp -implicitDefEqProofs only [true_and]
          · intro j
            rw [hnn]
            unfold wrL
            simp -implicitDefEqProofs only [true_and]
            rw [mv]
      · dsimp only at p1
        have p5' := p5
        obtain ⟨dn, ds, -, -, -, -, -, -, h5⟩ := p5'
        refine Or.inr ⟨u4, v4, w4, z4, ?_, ?_, ?_, ?_, p5⟩
        · rw [fin _ rT, e1, q_b2_some, if_neg (by decide), a1, q_b2_some, if_neg (by decide), gR_1_2, Option.bind_some, cR_0 hCt, Option.bind_some, hp1, q_b2_some, if_neg (by decide), p1, q_b2_some, if_pos rfl]
        · unfold mThing
          rw [e2, q_b2_some, a4]
          unfold J_X12_readThing_71
          rw [a2, Option.bind_some, p2, q_b2_some, gI_75_9, Option.bind_some, if_pos h5]
        · exact rdC_trans (rdC_wr (rdC_trans (rdC_trans (rdC_wr (rdC_wr (rdC_wr rdC_refl (by omega)) (by omega)) (by omega)) (rdC_T g1)) (rdC_T g2)) (by omega)) p3
        · exact rdM_trans (rdM_trans (rdM_T g1m) (rdM_T g2m)) (rdM_F p4)
    · have a4' := a4
      obtain ⟨dn, ds, -, -, -, -, -, -, h5⟩ := a4'
      refine Or.inr ⟨u2, v1, w2, z1, ?_, ?_, ?_, ?_, a4⟩
      · rw [fin _ rT, e1, q_b2_some, if_neg (by decide), a1, q_b2_some, if_pos rfl, q_b2_some, if_pos rfl]
      · unfold mThing
        rw [e2, q_b2_some, a5, thing71_dead h5]
      · exact rdC_trans (rdC_trans (rdC_wr (rdC_wr (rdC_wr rdC_refl (by omega)) (by omega)) (by omega)) (rdC_T g1)) a2
      · exact rdM_trans (rdM_T g1m) (rdM_F a3)
  · have e5' := e5
    obtain ⟨dn, ds, -, -, -, -, -, -, h5⟩ := e5'
    refine Or.inr ⟨u1, v1, w1, z1, ?_, ?_, e3, rdM_F e4, e5⟩
    · rw [fin _ rT, e1, q_b2_some, if_pos rfl, q_b2_some, if_pos rfl]
    · unfold mThing
      rw [e2, q_b2_some, word_dead h5, Option.bind_some, if_pos rfl, word_dead h5, Option.bind_some, if_pos rfl, word_dead h5, Option.bind_some, if_pos rfl]
      unfold J_X12_readThing_60
      rw [if_pos rfl, flaw_dead h5, Option.bind_some, thing71_dead h5]
end LIN
