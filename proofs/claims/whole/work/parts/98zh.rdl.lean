/-! ===== the reader: any line, of both ===== -/
theorem bnd_id {α : Type} {x : Option α} : (x.bind fun g => some g) = x := by cases x <;> rfl
section RDL
variable {T D m T2 D2 m2 M : Nat} {c3 c4 c3b : sF} {uc um : mU} {vc vm : mV} {L s k x nn : Nat} {l : List Nat} {N : Nat → Nat}
theorem LNE_lift {u1 w1 : mU} {s1 : Nat} {X : Option (Int32 × qS)} {Y : Option qS} (h1 : rdC D uc u1) (h2 : rdM M um w1) (h13 : u1 1 13 = uc 1 13) (h12 : w1 75 12 = um 75 12) (h3 : s < s1) (h : LNE T D m c3 c4 T2 D2 m2 M c3b L s1 u1 w1 X Y) : LNE T D m c3 c4 T2 D2 m2 M c3b L s uc um X Y := by
  rcases h with ⟨u2, v2, w2, z2, e1, e2, e3, e4, ⟨o1, o2⟩, ⟨s', k', l', x', t, ts⟩, hN⟩ | ⟨u2, v2, w2, z2, e1, e2, e3, e4, e5⟩
  · exact Or.inl ⟨u2, v2, w2, z2, e1, e2, rdC_trans h1 e3, rdM_trans h2 e4, ⟨o1.trans h13, o2.trans h12⟩, ⟨s', k', l', x', t, by omega⟩, hN⟩
  · exact Or.inr ⟨u2, v2, w2, z2, e1, e2, rdC_trans h1 e3, rdM_trans h2 e4, e5⟩
/-- a line once the college was told -/
theorem line_x {i : Nat} {mX : qS → Option qS} {a1 a2 : Int32} (hi : 1 ≤ i ∧ i ≤ 9) (hM : 88 ≤ M) (hMs : mSh (SH T2 D2 c3b (fR M) m2) M) (h : TKR L uc vc um vm s k l x) (hk : k = 1) (hJ : J1 uc um D M N) (hJ2 : J2 uc vc um vm M N)
    (hd : ∀ (w : mU) (z : mV) (nn : Nat), w 75 9 = 5 → w M 10 = nI nn → nn ≤ 16 → mX (Rep (SH T2 D2 c3b (fR M) m2) w z) = some (Rep (SH T2 D2 c3b (fR M) m2) w z))
    (hfull : (a1 = a2 ∧ f_X6_isFull (Rep (SH T D c3 c4 m) uc vc) 1 (nI i) = some 1) ∨ (a1 ≠ a2 ∧ f_X6_isFull (Rep (SH T D c3 c4 m) uc vc) 1 (nI i) = some 0))
    (hln : a1 ≠ a2 → ∀ (u1 : mU) (v1 : mV) (w1 : mU) (z1 : mV) (s1 k1 : Nat) (l1 : List Nat) (x1 : Nat), TKR L u1 v1 w1 z1 s1 k1 l1 x1 → J1 u1 w1 D M N → J2 u1 v1 w1 z1 M N → LNE T D m c3 c4 T2 D2 m2 M c3b L s1 u1 w1 (f_X6_readRest (Rep (SH T D c3 c4 m) u1 v1) 1 (nI i)) (mX (Rep (SH T2 D2 c3b (fR M) m2) w1 z1)))
    (hD : D = 54 ∨ D = 3) :
    LNE T D m c3 c4 T2 D2 m2 M c3b L s uc um (J_X6_readLine_37 1 (nI i) 1 (Rep (SH T D c3 c4 m) uc vc)) ((f_X12_begins (Rep (SH T2 D2 c3b (fR M) m2) um vm) 75 a1 a2).bind mX) := by
  have hi0 : ¬ nI i = 0 := nI_ne0 (by omega) (by omega)
  have hN0 : 2 ≤ N 0 := hJ.2.2.2.2.2.2.2.2.2.2
  have b0 : N 0 ≤ 7 := (hJ.1 0 (by decide)).2.2
  have m0 : um M 0 = nI (N 0) := (hJ.1 0 (by decide)).2.1
  have z0 : ¬ nI (N 0) = 0 := nI_ne0 (by omega) (by omega)
  rcases hfull with ⟨ea, ef⟩ | ⟨ea, ef⟩
  · obtain ⟨d1, d2, d3, d4, d5⟩ := flaw_DD (T2 := T2) (D2 := D2) (m2 := m2) (c3b := c3b) (c4 := fR M) (D := D) (n := 5) h (by omega)
    have d1' : f_X12_flaw (Rep (SH T2 D2 c3b (fR M) m2) um vm) 75 5 = _ := d1
    obtain ⟨nm, ss, xx, hN, -⟩ := hJ2
    have hd0 : wr (wr (wr um 75 12 (nI 5)) 75 13 (um 75 10)) 75 9 5 M 0 = nI (N 0) := by rw [d4 M 0 (by omega)]; exact m0
    have hd10 : wr (wr (wr um 75 12 (nI 5)) 75 13 (um 75 10)) 75 9 5 M 10 = nI (N 2 + N 3 + N 4 + N 5) := by rw [d4 M 10 (by omega)]; exact hN.2.1
    refine Or.inr ⟨_, vc, _, vm, ?_, ?_, d3, rdM_F d4, d2⟩
    · unfold J_X6_readLine_37
      rw [if_neg hi0, if_neg (by decide), ef, Option.bind_some, if_neg (by decide), gI_1_8, Option.bind_some, d5, cls_fail, q_b2_some, zr0]
      rfl
    · unfold f_X12_begins J_X12_begins_10
      rw [gC_75, Option.bind_some, if_pos ea, d1', Option.bind_some, gR_75_4, Option.bind_some, mI_0 hMs, Option.bind_some, hd0, if_neg z0, goes_dead (wr_same _ _ _ _), Option.bind_some, Option.bind_some, hd _ _ _ (wr_same _ _ _ _) hd10 hN.2.2.1]
  · obtain ⟨uc', vc', um', vm', s', k', l', x', q1, q2, q3, q4, q5, q6, q7, q8, q9, q10⟩ := adv (T := T) (D := D) (c3 := c3) (c4 := c4) (m := m) (T2 := T2) (D2 := D2) (c3b := c3b) (M := M) (m2 := m2) (y := 0) h (Or.inl hk)
    have cq : ∀ q, q ≠ 1 → uc' q = uc q := fun q h1 => cfT_q q7 h1
    have mq : ∀ q, q ≠ 75 → um' q = um q := fun q h1 => mfT_q q9 h1
    have hJ' : J1 uc' um' D M N := by
      obtain ⟨j0, j1, j2, j3, j4, j5, j6, j7, j8, j9, j10⟩ := hJ
      refine ⟨?_, cg_Thing (cq _ (by omega)) (mq _ (by omega)) (mq _ (by omega)) rfl j1, cg_Pers (cq _ (by omega)) (mq _ (by omega)) (mq _ (by omega)) (mq _ (by omega)) rfl j2, cg_Tram (cq _ (by omega)) (mq _ (by omega)) (mq _ (by omega)) rfl j3, cg_Givr (cq _ (by omega)) (mq _ (by omega)) rfl j4, cg_Ride (cq _ (by omega)) (mq _ (by omega)) (Nat.le_refl _) j5, cg_Take (cq _ (by omega)) (mq _ (by omega)) (Nat.le_refl _) j6, cg_Gift (cq _ (by omega)) (mq _ (by omega)) (mq _ (by omega)) (mq _ (by omega)) (mq _ (by omega)) rfl (fun _ => Nat.le_refl _) j7, cg_Fnd (cq _ (by omega)) (mq _ (by omega)) (mq _ (by omega)) rfl (fun _ => Nat.le_refl _) j8, cg_Exam (cq _ (by omega)) (mq _ (by omega)) (mq _ (by omega)) (mq _ (by omega)) (mq _ (by omega)) (mq _ (by omega)) rfl (fun _ => Nat.le_refl _) j9, j10⟩
      intro c hc
      rw [cq _ (by omega), mq _ (by omega)]
      exact j0 c hc
    have hJ2' : J2 uc' vc' um' vm' M N := J2_keep (cfT_5 q7) (cq _ (by omega)) (by rw [mq _ (by omega)]) (mq _ (by omega)) (mq _ (by omega)) (cfV_q q8 (by decide)) (mfV_q q10 (by omega)) ⟨rfl, rfl, rfl, rfl⟩ hJ2
    have e := LNE_lift (rdC_T q7) (rdM_T q9) (cfT_13 q7) (mfT_12 q9) q4 (hln ea uc' vc' um' vm' s' k' l' x' q3 hJ' hJ2')
    have eB : (f_X12_begins (Rep (SH T2 D2 c3b (fR M) m2) um vm) 75 a1 a2).bind mX = mX (Rep (SH T2 D2 c3b (fR M) m2) um' vm') := by
      unfold f_X12_begins J_X12_begins_10
      rw [gC_75, Option.bind_some, if_neg ea, gR_75_4, Option.bind_some, mI_0 hMs, Option.bind_some, m0, if_neg z0, q2, Option.bind_some, Option.bind_some]
    rw [eB]
    have eX : ∀ Z, f_X6_readRest (Rep (SH T D c3 c4 m) uc' vc') 1 (nI i) = Z → J_X6_readLine_37 1 (nI i) 1 (Rep (SH T D c3 c4 m) uc vc) = (q_b2 Z fun v5 g4 => if v5 = 0 then (some (0, g4)) else (some (1, g4))) := by
      intro Z hZ
      unfold J_X6_readLine_37
      rw [if_neg hi0, if_neg (by decide), ef, Option.bind_some, if_pos rfl, q1, q_b2_some, if_neg (by decide), hZ]
    rcases e with ⟨u2, v2, w2, z2, e1, e2, e3, e4, e5⟩ | ⟨u2, v2, w2, z2, e1, e2, e3, e4, e5⟩
    · exact Or.inl ⟨u2, v2, w2, z2, by rw [eX _ e1, q_b2_some, if_neg (by decide)], e2, e3, e4, e5⟩
    · exact Or.inr ⟨u2, v2, w2, z2, by rw [eX _ e1, q_b2_some, if_pos rfl], e2, e3, e4, e5⟩
/-- a line ahead of the college -/
theorem line_z {i : Nat} {mX : qS → Option qS} {a1 a2 : Int32} (hi : 1 ≤ i ∧ i ≤ 9) (hM : 88 ≤ M) (hMs : mSh (SH T2 D2 c3b (fR M) m2) M) (h : TKR L uc vc um vm s k l x) (hZ : JZ uc um D M) (ha : a1 ≠ a2)
    (hd : ∀ (w : mU) (z : mV) (nn : Nat), w 75 9 = 5 → w M 10 = nI nn → nn ≤ 16 → mX (Rep (SH T2 D2 c3b (fR M) m2) w z) = some (Rep (SH T2 D2 c3b (fR M) m2) w z)) :
    LNE T D m c3 c4 T2 D2 m2 M c3b L s uc um (J_X6_readLine_37 1 (nI i) 0 (Rep (SH T D c3 c4 m) uc vc)) ((f_X12_begins (Rep (SH T2 D2 c3b (fR M) m2) um vm) 75 a1 a2).bind mX) := by
  have hi0 : ¬ nI i = 0 := nI_ne0 (by omega) (by omega)
  obtain ⟨z0, z5, z10, -, -⟩ := hZ
  obtain ⟨d1, d2, d3, d4, d5⟩ := flaw_DD (T2 := T2) (D2 := D2) (m2 := m2) (c3b := c3b) (c4 := fR M) (D := D) (n := 6) h (by omega)
  have d1' : f_X12_flaw (Rep (SH T2 D2 c3b (fR M) m2) um vm) 75 6 = _ := d1
  have hd10 : wr (wr (wr um 75 12 (nI 6)) 75 13 (um 75 10)) 75 9 5 M 10 = nI 0 := by rw [d4 M 10 (by omega), z10, nI_0]
  refine Or.inr ⟨_, vc, _, vm, ?_, ?_, d3, rdM_F d4, d2⟩
  · unfold J_X6_readLine_37
    rw [if_neg hi0, if_pos rfl, gI_1_8, Option.bind_some, d5, cls_fail, q_b2_some, zr0]
    rfl
  · unfold f_X12_begins J_X12_begins_10
    rw [gC_75, Option.bind_some, if_neg ha, gR_75_4, Option.bind_some, mI_0 hMs, Option.bind_some, (z0 0 (by decide)).2, if_pos rfl, d1', Option.bind_some, goes_dead (wr_same _ _ _ _), Option.bind_some, Option.bind_some, hd _ _ 0 (wr_same _ _ _ _) hd10 (by decide)]
end RDL
section MDE
variable {T2 D2 m2 M nn : Nat} {c3b : sF} {w : mU} {z : mV}
theorem mThing_dead (hMs : mSh (SH T2 D2 c3b (fR M) m2) M) (h5 : w 75 9 = 5) (hn : w M 10 = nI nn) (hn16 : nn ≤ 16) : mThing (Rep (SH T2 D2 c3b (fR M) m2) w z) = some (Rep (SH T2 D2 c3b (fR M) m2) w z) := by
  unfold mThing
  rw [fresh_dead hMs hn hn16 h5, q_b2_some, word_dead h5, Option.bind_some, if_pos rfl, word_dead h5, Option.bind_some, if_pos rfl, word_dead h5, Option.bind_some, if_pos rfl]
  unfold J_X12_readThing_60
  rw [if_pos rfl, flaw_dead h5, Option.bind_some, thing71_dead h5]
theorem mPers_dead (hMs : mSh (SH T2 D2 c3b (fR M) m2) M) (h5 : w 75 9 = 5) (hn : w M 10 = nI nn) (hn16 : nn ≤ 16) : mPers (Rep (SH T2 D2 c3b (fR M) m2) w z) = some (Rep (SH T2 D2 c3b (fR M) m2) w z) := by
  unfold mPers
  rw [fresh_dead hMs hn hn16 h5, q_b2_some, word_dead h5, Option.bind_some, if_pos rfl, word_dead h5, Option.bind_some, if_pos rfl, word_dead h5, Option.bind_some, if_pos rfl, word_dead h5, Option.bind_some, if_pos rfl]
  unfold J_X12_readPersonLine_74
  rw [if_pos rfl, flaw_dead h5, Option.bind_some]
  unfold J_X12_readPersonLine_85
  rw [goes_dead h5, Option.bind_some, part_dead h5, q_b2_some, part_dead h5, q_b2_some, gI_75_9, Option.bind_some, if_pos h5]
theorem mTram_dead (hMs : mSh (SH T2 D2 c3b (fR M) m2) M) (h5 : w 75 9 = 5) (hn : w M 10 = nI nn) (hn16 : nn ≤ 16) : mTram (Rep (SH T2 D2 c3b (fR M) m2) w z) = some (Rep (SH T2 D2 c3b (fR M) m2) w z) := by
  unfold mTram
  rw [fresh_dead hMs hn hn16 h5, q_b2_some, part_dead h5, q_b2_some, part_dead h5, q_b2_some, gI_75_9, Option.bind_some, if_pos h5]
theorem mGivr_dead (hMs : mSh (SH T2 D2 c3b (fR M) m2) M) (h5 : w 75 9 = 5) (hn : w M 10 = nI nn) (hn16 : nn ≤ 16) : mGivr (Rep (SH T2 D2 c3b (fR M) m2) w z) = some (Rep (SH T2 D2 c3b (fR M) m2) w z) := by
  unfold mGivr
  rw [fresh_dead hMs hn hn16 h5, q_b2_some, part_dead h5, q_b2_some, gI_75_9, Option.bind_some, if_pos h5]
theorem mRide_dead {a : Nat} (hMs : mSh (SH T2 D2 c3b (fR M) m2) M) (h5 : w 75 9 = 5) (hn : w M 10 = nI nn) (hn16 : nn ≤ 16) : mRide a (Rep (SH T2 D2 c3b (fR M) m2) w z) = some (Rep (SH T2 D2 c3b (fR M) m2) w z) := by
  unfold mRide
  rw [rknown_dead hMs hn hn16 h5, q_b2_some, rknown_dead hMs hn hn16 h5, q_b2_some, gR_75_4, Option.bind_some, mI_0 hMs, Option.bind_some, bound_dead h5, q_b2_some, gI_75_9, Option.bind_some, if_pos h5]
  unfold J_X12_readRow_69
  rw [goes_dead h5, Option.bind_some, gI_75_9, Option.bind_some, if_pos h5]
theorem mTake_dead {a : Nat} (hMs : mSh (SH T2 D2 c3b (fR M) m2) M) (h5 : w 75 9 = 5) (hn : w M 10 = nI nn) (hn16 : nn ≤ 16) : mTake a (Rep (SH T2 D2 c3b (fR M) m2) w z) = some (Rep (SH T2 D2 c3b (fR M) m2) w z) := by
  unfold mTake
  rw [rknown_dead hMs hn hn16 h5, q_b2_some, rknown_dead hMs hn hn16 h5, q_b2_some, gR_75_4, Option.bind_some, mI_0 hMs, Option.bind_some, bound_dead h5, q_b2_some, gI_75_9, Option.bind_some, if_pos h5]
  unfold J_X12_readRow_69
  rw [goes_dead h5, Option.bind_some, gI_75_9, Option.bind_some, if_pos h5]
theorem mGift_dead (hMs : mSh (SH T2 D2 c3b (fR M) m2) M) (h5 : w 75 9 = 5) (hn : w M 10 = nI nn) (hn16 : nn ≤ 16) : mGift (Rep (SH T2 D2 c3b (fR M) m2) w z) = some (Rep (SH T2 D2 c3b (fR M) m2) w z) := by
  unfold mGift
  rw [rknown_dead hMs hn hn16 h5, q_b2_some, rknown_dead hMs hn hn16 h5, q_b2_some, rknown_dead hMs hn hn16 h5, q_b2_some, gR_75_4, Option.bind_some, mI_0 hMs, Option.bind_some, whole_dead h5, q_b2_some, gI_75_9, Option.bind_some, if_pos h5]
theorem mFnd_dead (hMs : mSh (SH T2 D2 c3b (fR M) m2) M) (h5 : w 75 9 = 5) (hn : w M 10 = nI nn) (hn16 : nn ≤ 16) : mFnd (Rep (SH T2 D2 c3b (fR M) m2) w z) = some (Rep (SH T2 D2 c3b (fR M) m2) w z) := by
  unfold mFnd
  rw [known_dead hMs hn hn16 h5, q_b2_some, gI_75_9, Option.bind_some, if_pos h5]
  unfold J_X12_readFound_39
  rw [goes_dead h5, Option.bind_some, rknown_dead hMs hn hn16 h5, q_b2_some, gI_75_9, Option.bind_some, if_pos h5]
theorem mExam_dead (hMs : mSh (SH T2 D2 c3b (fR M) m2) M) (h5 : w 75 9 = 5) (hn : w M 10 = nI nn) (hn16 : nn ≤ 16) : mExam (Rep (SH T2 D2 c3b (fR M) m2) w z) = some (Rep (SH T2 D2 c3b (fR M) m2) w z) := by
  unfold mExam
  rw [rknown_dead hMs hn hn16 h5, q_b2_some, rknown_dead hMs hn hn16 h5, q_b2_some, rknown_dead hMs hn hn16 h5, q_b2_some, rknown_dead hMs hn hn16 h5, q_b2_some, word_dead h5, Option.bind_some, if_pos rfl, word_dead h5, Option.bind_some, if_pos rfl, flaw_dead h5, Option.bind_some]
  unfold J_X12_readExam_67
  rw [goes_dead h5, Option.bind_some, gI_75_9, Option.bind_some, if_pos h5]
theorem mColl_dead (h5 : w 75 9 = 5) : mColl (Rep (SH T2 D2 c3b (fR M) m2) w z) = some (Rep (SH T2 D2 c3b (fR M) m2) w z) := by
  unfold mColl
  rw [part_dead h5, q_b2_some, part_dead h5, q_b2_some, gI_75_9, Option.bind_some, if_pos h5]
end MDE
