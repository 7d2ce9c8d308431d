/-! ===== the reader: all lines, of both ===== -/
section RDA
variable {T D m T2 D2 m2 M : Nat} {c3 c4 c3b : sF} {uc um : mU} {vc vm : mV} {L s k x nn : Nat} {l : List Nat} {N : Nat → Nat}
/-- all was read by both, or a fault -/
def RDO (T D m : Nat) (c3 c4 : sF) (T2 D2 m2 M : Nat) (c3b : sF) (uc um : mU) (X : Option (Int32 × qS)) (Y : Option qS) : Prop :=
  (∃ uc' vc' um' vm' N, X = some (1, Rep (SH T D c3 c4 m) uc' vc') ∧ Y = some (Rep (SH T2 D2 c3b (fR M) m2) um' vm') ∧ rdC D uc uc' ∧ rdM M um um' ∧ (uc' 1 13 = uc 1 13 ∧ um' 75 12 = um 75 12) ∧ J1 uc' um' D M N ∧ 1 ≤ N 2 ∧ 1 ≤ N 3 ∧ 1 ≤ N 5) ∨
  (∃ uc' vc' um' vm', X = some (0, Rep (SH T D c3 c4 m) uc' vc') ∧ Y = some (Rep (SH T2 D2 c3b (fR M) m2) um' vm') ∧ rdC D uc uc' ∧ rdM M um um' ∧ DDR uc' um')
theorem RDO_lift {u1 w1 : mU} {X : Option (Int32 × qS)} {Y : Option qS} (h1 : rdC D uc u1) (h2 : rdM M um w1) (h13 : u1 1 13 = uc 1 13) (h12 : w1 75 12 = um 75 12) (h : RDO T D m c3 c4 T2 D2 m2 M c3b u1 w1 X Y) : RDO T D m c3 c4 T2 D2 m2 M c3b uc um X Y := by
  rcases h with ⟨u2, v2, w2, z2, N, e1, e2, e3, e4, ⟨o1, o2⟩, e5⟩ | ⟨u2, v2, w2, z2, e1, e2, e3, e4, e5⟩
  · exact Or.inl ⟨u2, v2, w2, z2, N, e1, e2, rdC_trans h1 e3, rdM_trans h2 e4, ⟨o1.trans h13, o2.trans h12⟩, e5⟩
  · exact Or.inr ⟨u2, v2, w2, z2, e1, e2, rdC_trans h1 e3, rdM_trans h2 e4, e5⟩
theorem J31_dead (hMs : mSh (SH T2 D2 c3b (fR M) m2) M) (h5 : um 75 9 = 5) : J_X12_readAll_31 75 (Rep (SH T2 D2 c3b (fR M) m2) um vm) = some (Rep (SH T2 D2 c3b (fR M) m2) um vm) := by
  unfold J_X12_readAll_31
  rw [gR_75_4, Option.bind_some, mI_2 hMs, Option.bind_some, flaw_dead h5, Option.bind_some, Option.bind_some, mI_3 hMs, Option.bind_some, Option.bind_some, mI_5 hMs, Option.bind_some]
  by_cases c2 : um M 2 = 0
  · rw [if_pos c2]
  · by_cases c3 : um M 3 = 0
    · rw [if_neg c2, if_pos c3]
    · by_cases c5 : um M 5 = 0
      · rw [if_neg c2, if_neg c3, if_pos c5]
      · rw [if_neg c2, if_neg c3, if_neg c5]
abbrev kLst : Nat → qS → Option qS := fun y1 g2 => (g_I g2 y1 11 9).bind fun v3 => if v3 = 1 then (J_X12_readAll_31 y1 g2) else ((f_X12_flaw g2 y1 1).bind fun g4 => J_X12_readAll_31 y1 g4)
theorem eats_no (h9 : ¬ um 75 9 = 4) : f_X12_eatsSemicolon (Rep (SH T2 D2 c3b (fR M) m2) um vm) 75 = some (0, Rep (SH T2 D2 c3b (fR M) m2) um vm) := by
  unfold f_X12_eatsSemicolon
  rw [gC_75, Option.bind_some, gI_75_9, Option.bind_some, if_neg h9, if_pos rfl]
/-- whether something lacks -/
theorem lacks (ho : okTD T D) (hMs : mSh (SH T2 D2 c3b (fR M) m2) M) (hM : 88 ≤ M) (h : TKR L uc vc um vm s k l x) (hJ : J1 uc um D M N) : RDO T D m c3 c4 T2 D2 m2 M c3b uc um (q_b2 (f_X6_lacksNothing (Rep (SH T D c3 c4 m) uc vc) 1) fun v14 g13 => q_zr v14 (v14, g13)) (J_X12_readAll_31 75 (Rep (SH T2 D2 c3b (fR M) m2) um vm)) := by
  obtain ⟨d1, d2, d3, d4, d5⟩ := flaw_DD (T2 := T2) (D2 := D2) (m2 := m2) (c3b := c3b) (c4 := fR M) (D := D) (n := 6) h (by omega)
  have d1' : f_X12_flaw (Rep (SH T2 D2 c3b (fR M) m2) um vm) 75 6 = _ := d1
  have ec : ∀ c, c < 10 → f_X3_count (Rep (SH T D c3 c4 m) uc vc) D (nI c) = some (nI (N c)) := fun c hc => cnt_D ho hc (hJ.1 c hc).1
  have e2 : f_X3_count (Rep (SH T D c3 c4 m) uc vc) D 2 = some (nI (N 2)) := ec 2 (by decide)
  have e3 : f_X3_count (Rep (SH T D c3 c4 m) uc vc) D 3 = some (nI (N 3)) := ec 3 (by decide)
  have e5 : f_X3_count (Rep (SH T D c3 c4 m) uc vc) D 5 = some (nI (N 5)) := ec 5 (by decide)
  have m2' : um M 2 = nI (N 2) := (hJ.1 2 (by decide)).2.1
  have m3' : um M 3 = nI (N 3) := (hJ.1 3 (by decide)).2.1
  have m5' : um M 5 = nI (N 5) := (hJ.1 5 (by decide)).2.1
  have b2 : N 2 ≤ 4 := (hJ.1 2 (by decide)).2.2
  have b3 : N 3 ≤ 5 := (hJ.1 3 (by decide)).2.2
  have b5 : N 5 ≤ 3 := (hJ.1 5 (by decide)).2.2
  have p : ∀ n : Nat, n ≤ 10 → ((nI n = 0) = (n = 0)) := fun n hn => propext (nI_eq (b := 0) (by omega) (by omega))
  have j38 : J_X6_lacksNothing_38 1 1 (Rep (SH T D c3 c4 m) uc vc) = some (0, Rep (SH T D c3 c4 m) (wr (wr uc 1 13 6) 1 14 (nI s)) vc) := by
    unfold J_X6_lacksNothing_38
    rw [if_neg (by decide), gI_1_8, Option.bind_some, d5, cls_fail, q_b2_some, zr0]
  have fc : f_X6_lacksNothing (Rep (SH T D c3 c4 m) uc vc) 1 = if N 2 = 0 then some (0, Rep (SH T D c3 c4 m) (wr (wr uc 1 13 6) 1 14 (nI s)) vc) else if N 3 = 0 then some (0, Rep (SH T D c3 c4 m) (wr (wr uc 1 13 6) 1 14 (nI s)) vc) else if N 5 = 0 then some (0, Rep (SH T D c3 c4 m) (wr (wr uc 1 13 6) 1 14 (nI s)) vc) else some (1, Rep (SH T D c3 c4 m) uc vc) := by
    unfold f_X6_lacksNothing J_X6_lacksNothing_33
    rw [gC_1, Option.bind_some, gR_1_2, Option.bind_some, e2, Option.bind_some, Option.bind_some, e3, Option.bind_some, Option.bind_some, e5, Option.bind_some, j38]
    simp -implicitDefEqProofs only [p (N 2) (by omega), p (N 3) (by omega), p (N 5) (by omega)]
    unfold J_X6_lacksNothing_38
    rw [if_pos rfl]
  have fm : J_X12_readAll_31 75 (Rep (SH T2 D2 c3b (fR M) m2) um vm) = if N 2 = 0 then some (Rep (SH T2 D2 c3b (fR M) m2) (wr (wr (wr um 75 12 (nI 6)) 75 13 (um 75 10)) 75 9 5) vm) else if N 3 = 0 then some (Rep (SH T2 D2 c3b (fR M) m2) (wr (wr (wr um 75 12 (nI 6)) 75 13 (um 75 10)) 75 9 5) vm) else if N 5 = 0 then some (Rep (SH T2 D2 c3b (fR M) m2) (wr (wr (wr um 75 12 (nI 6)) 75 13 (um 75 10)) 75 9 5) vm) else some (Rep (SH T2 D2 c3b (fR M) m2) um vm) := by
    unfold J_X12_readAll_31
    rw [gR_75_4, Option.bind_some, mI_2 hMs, Option.bind_some, d1', Option.bind_some, Option.bind_some, mI_3 hMs, Option.bind_some, Option.bind_some, mI_5 hMs, Option.bind_some, m2', m3', m5']
    simp -implicitDefEqProofs only [p (N 2) (by omega), p (N 3) (by omega), p (N 5) (by omega)]
  have dead : RDO T D m c3 c4 T2 D2 m2 M c3b uc um (q_b2 (some ((0 : Int32), Rep (SH T D c3 c4 m) (wr (wr uc 1 13 6) 1 14 (nI s)) vc)) fun v14 g13 => q_zr v14 (v14, g13)) (some (Rep (SH T2 D2 c3b (fR M) m2) (wr (wr (wr um 75 12 (nI 6)) 75 13 (um 75 10)) 75 9 5) vm)) := Or.inr ⟨_, vc, _, vm, by rw [q_b2_some, zr0]; rfl, rfl, d3, rdM_F d4, d2⟩
  rw [fc, fm]
  by_cases c2 : N 2 = 0
  · rw [if_pos c2, if_pos c2]; exact dead
  · by_cases c3' : N 3 = 0
    · rw [if_neg c2, if_neg c2, if_pos c3', if_pos c3']; exact dead
    · by_cases c5 : N 5 = 0
      · rw [if_neg c2, if_neg c2, if_neg c3', if_neg c3', if_pos c5, if_pos c5]; exact dead
      · rw [if_neg c2, if_neg c2, if_neg c3', if_neg c3', if_neg c5, if_neg c5]
        exact Or.inl ⟨uc, vc, um, vm, N, by rw [q_b2_some, zr1], rfl, rdC_refl, rdM_refl, ⟨rfl, rfl⟩, hJ, by omega, by omega, by omega⟩
theorem rd_all (ho : okTD T D) (hMs : mSh (SH T2 D2 c3b (fR M) m2) M) (hM : 88 ≤ M) : ∀ (d cnt f1 f2 : Nat) (uc : mU) (vc : mV) (um : mU) (vm : mV) (s k : Nat) (l : List Nat) (x : Nat), L + 1 ≤ s + d → d < f1 → d + 1 < f2 → cnt ≤ s → TKR L uc vc um vm s k l x → JS uc vc um vm D M → RDO T D m c3 c4 T2 D2 m2 M c3b uc um (L_X6_read_7 f1 1 (nI cnt) (Rep (SH T D c3 c4 m) uc vc)) (L_X12_readAll_2 kLst f2 75 1 (Rep (SH T2 D2 c3b (fR M) m2) um vm)) := by
  have hD : D = 54 ∨ D = 3 := by rcases ho with ⟨rfl, rfl⟩ | ⟨rfl, rfl⟩ <;> simp
  intro d
  induction d with
  | zero =>
    intro cnt f1 f2 uc vc um vm s k l x hd _ _ _ h _
    exact absurd h.2.2.2.2.1 (by omega)
  | succ d ih =>
    intro cnt f1 f2 uc vc um vm s k l x hd hf1 hf2 hc h hJ
    obtain ⟨f1, rfl⟩ : ∃ f', f1 = f' + 1 := ⟨f1 - 1, by omega⟩
    obtain ⟨f2, rfl⟩ : ∃ f', f2 = f' + 1 := ⟨f2 - 1, by omega⟩
    have hsL : s ≤ L := h.2.2.2.2.1
    have hL : L ≤ 1000 := h.1
    have cn : ¬ (1000 : Int32) < nI cnt := (show ¬ nI 1000 < nI cnt from nI_nlt (by omega) (by omega))
    have e7 : ∀ X, f_X6_readLine (Rep (SH T D c3 c4 m) uc vc) 1 = X → L_X6_read_7 (f1 + 1) 1 (nI cnt) (Rep (SH T D c3 c4 m) uc vc) = (q_b2 X fun v5 g4 => if v5 = 0 then (some (0, g4)) else ((g_I g4 1 5 7).bind fun v6 => if v6 = 0 then (q_b2 (f_X6_lacksNothing g4 1) fun v14 g13 => q_zr v14 (v14, g13)) else ((g_I g4 1 5 7).bind fun v7 => if v7 = 3 then (q_b2 (f_X6_take g4 1 0) fun v9 g8 => L_X6_read_7 f1 1 (nI cnt + 1) g8) else ((g_I g4 1 5 8).bind fun v10 => q_b2 (f_X6_failAt g4 1 1 v10) fun v12 g11 => q_zr v12 (v12, g11))))) := by
      intro X hX
      rw [L_X6_read_7, if_neg cn, hX]
    have e2 : ∀ Y, f_X12_readLine (Rep (SH T2 D2 c3b (fR M) m2) um vm) 75 = Y → L_X12_readAll_2 kLst (f2 + 1) 75 1 (Rep (SH T2 D2 c3b (fR M) m2) um vm) = (Y.bind fun g1 => q_b2 (f_X12_eatsSemicolon g1 75) fun v3 g2 => L_X12_readAll_2 kLst f2 75 v3 g2) := by
      intro Y hY
      rw [L_X12_readAll_2, if_neg (by decide), hY]
    have e0 : ∀ g, L_X12_readAll_2 kLst f2 75 0 g = kLst 75 g := by
      intro g
      obtain ⟨f2, rfl⟩ : ∃ f', f2 = f' + 1 := ⟨f2 - 1, by omega⟩
      rw [L_X12_readAll_2, if_pos rfl]
    rcases rd_line (T := T) (D := D) (m := m) (c3 := c3) (c4 := c4) ho hMs hM h hJ with ⟨u1, v1, w1, z1, a1, a2, a3, a4, ⟨a5, a6⟩, ⟨s1, k1, l1, x1, t1, ts1⟩, N', hJ1, hJ2⟩ | ⟨u1, v1, w1, z1, a1, a2, a3, a4, a5⟩
    · refine RDO_lift a3 a4 a5 a6 ?_
      rw [e7 _ a1, e2 _ a2, q_b2_some, if_neg (by decide), Option.bind_some]
      have t1' := t1
      obtain ⟨-, -, -, -, -, hk5, -, -, e, -, -, -, hC, hMt⟩ := t1'
      rw [gI_1_7, Option.bind_some, hC.1]
      by_cases ck0 : k1 = 0
      · subst ck0
        have n4 : ¬ w1 75 9 = 4 := by rw [hMt.1]; decide
        rw [if_pos nI_0, eats_no n4, q_b2_some, e0]
        show RDO T D m c3 c4 T2 D2 m2 M c3b u1 w1 _ ((g_I (Rep (SH T2 D2 c3b (fR M) m2) w1 z1) 75 11 9).bind fun v3 => _)
        rw [gI_75_9, Option.bind_some, hMt.1, if_pos (by decide)]
        exact lacks ho hMs hM t1 hJ1
      · have nk0 : ¬ nI k1 = 0 := nI_ne0 (by omega) (by omega)
        rw [if_neg nk0, Option.bind_some]
        by_cases ck3 : k1 = 3
        · subst ck3
          obtain ⟨u2, v2, w2, z2, s2, k2, l2, x2, q1, q2, q3, q4, q5, q6, q7, q8, q9, q10⟩ := adv (T := T) (D := D) (c3 := c3) (c4 := c4) (m := m) (T2 := T2) (D2 := D2) (c3b := c3b) (M := M) (m2 := m2) (y := 0) t1 (Or.inr (Or.inr rfl))
          have ee : f_X12_eatsSemicolon (Rep (SH T2 D2 c3b (fR M) m2) w1 z1) 75 = some (1, Rep (SH T2 D2 c3b (fR M) m2) w2 z2) := by
            unfold f_X12_eatsSemicolon
            rw [gC_75, Option.bind_some, gI_75_9, Option.bind_some, hMt.1, if_pos (by decide), if_neg (by decide), q2, Option.bind_some]
          rw [if_pos (by decide), q1, q_b2_some, ee, q_b2_some, nI_1]
          refine RDO_lift (rdC_T q7) (rdM_T q9) (cfT_13 q7) (mfT_12 q9) (ih (cnt + 1) f1 f2 u2 v2 w2 z2 s2 k2 l2 x2 (by omega) (by omega) (by omega) (by omega) q3 (Or.inr ⟨N', ?_, ?_⟩))
          · have cq : ∀ q, q ≠ 1 → u2 q = u1 q := fun q h1 => cfT_q q7 h1
            have mq : ∀ q, q ≠ 75 → w2 q = w1 q := fun q h1 => mfT_q q9 h1
            obtain ⟨j0, j1, j2, j3, j4, j5, j6, j7, j8, j9, j10⟩ := hJ1
            refine ⟨?_, cg_Thing (cq _ (by omega)) (mq _ (by omega)) (mq _ (by omega)) rfl j1, cg_Pers (cq _ (by omega)) (mq _ (by omega)) (mq _ (by omega)) (mq _ (by omega)) rfl j2, cg_Tram (cq _ (by omega)) (mq _ (by omega)) (mq _ (by omega)) rfl j3, cg_Givr (cq _ (by omega)) (mq _ (by omega)) rfl j4, cg_Ride (cq _ (by omega)) (mq _ (by omega)) (Nat.le_refl _) j5, cg_Take (cq _ (by omega)) (mq _ (by omega)) (Nat.le_refl _) j6, cg_Gift (cq _ (by omega)) (mq _ (by omega)) (mq _ (by omega)) (mq _ (by omega)) (mq _ (by omega)) rfl (fun _ => Nat.le_refl _) j7, cg_Fnd (cq _ (by omega)) (mq _ (by omega)) (mq _ (by omega)) rfl (fun _ => Nat.le_refl _) j8, cg_Exam (cq _ (by omega)) (mq _ (by omega)) (mq _ (by omega)) (mq _ (by omega)) (mq _ (by omega)) (mq _ (by omega)) rfl (fun _ => Nat.le_refl _) j9, j10⟩
            intro c hc
            rw [cq _ (by omega), mq _ (by omega)]
            exact j0 c hc
          · exact J2_keep (cfT_5 q7) (cfT_q q7 (by omega)) (by rw [mfT_q q9 (by omega)]) (mfT_q q9 (by omega)) (mfT_q q9 (by omega)) (cfV_q q8 (by decide)) (mfV_q q10 (by omega)) ⟨rfl, rfl, rfl, rfl⟩ hJ2
        · have nk3 : ¬ nI k1 = 3 := fun z => ck3 ((nI_eq (b := 3) (by omega) (by omega)).mp z)
          have n4 : ¬ w1 75 9 = 4 := by rw [hMt.1]; exact fun z => ck3 ((mkK_4 hk5).mp z)
          have n1 : ¬ w1 75 9 = 1 := by rw [hMt.1]; exact fun z => ck0 ((mkK_1 hk5).mp z)
          obtain ⟨d1, d2, d3, d4, d5⟩ := flaw_DD (T2 := T2) (D2 := D2) (m2 := m2) (c3b := c3b) (c4 := fR M) (D := D) (n := 1) t1 (by omega)
          have d1' : f_X12_flaw (Rep (SH T2 D2 c3b (fR M) m2) w1 z1) 75 1 = _ := d1
          refine Or.inr ⟨_, v1, _, z1, ?_, ?_, d3, rdM_F d4, d2⟩
          · rw [if_neg nk3, gI_1_8, Option.bind_some, d5, cls_fail, q_b2_some, zr0]
            rfl
          · rw [eats_no n4, q_b2_some, e0]
            show ((g_I (Rep (SH T2 D2 c3b (fR M) m2) w1 z1) 75 11 9).bind fun v3 => _) = _
            rw [gI_75_9, Option.bind_some, if_neg n1, d1', Option.bind_some, J31_dead hMs (wr_same _ _ _ _)]
    · have a5' := a5
      obtain ⟨dn, ds, -, -, -, -, -, -, h5⟩ := a5'
      have n4 : ¬ w1 75 9 = 4 := by rw [h5]; decide
      refine Or.inr ⟨u1, v1, w1, z1, ?_, ?_, a3, a4, a5⟩
      · rw [e7 _ a1, q_b2_some, if_pos rfl]
      · rw [e2 _ a2, Option.bind_some, eats_no n4, q_b2_some, e0]
        show ((g_I (Rep (SH T2 D2 c3b (fR M) m2) w1 z1) 75 11 9).bind fun v3 => _) = _
        rw [gI_75_9, Option.bind_some, h5, if_neg (by decide), flaw_dead h5, Option.bind_some, J31_dead hMs h5]
end RDA
