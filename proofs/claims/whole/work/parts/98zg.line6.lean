/-- nothing was told yet -/
def JZ (uc um : mU) (D M : Nat) : Prop := (∀ c, c < 10 → uc (D + 20) c = 0 ∧ um M c = 0) ∧ uc 1 5 = 0 ∧ um M 10 = 0 ∧ (∀ j, j < 35 → uc (D + 16) j = -2) ∧ (∀ j, j < 21 → uc (D + 18) j = -2)
/-- the first n of an array, filled with -2 -/
def flM (u : mU) (a n : Nat) : mU := fun q j => if q = a ∧ j < n then -2 else u q j
theorem flM_0 {u : mU} {a : Nat} : flM u a 0 = u := by
  funext q j
  unfold flM
  rw [if_neg (by omega)]
theorem flM_wr {u : mU} {a n : Nat} : wr (flM u a n) a n (-2) = flM u a (n + 1) := by
  funext q j
  show (if q = a ∧ j = n then (-2 : Int32) else (if q = a ∧ j < n then -2 else u q j)) = (if q = a ∧ j < n + 1 then -2 else u q j)
  by_cases h : q = a ∧ j < n + 1
  · rw [if_pos h]
    by_cases h2 : j = n
    · rw [if_pos ⟨h.1, h2⟩]
    · rw [if_neg (fun z => h2 z.2), if_pos (show q = a ∧ j < n from ⟨h.1, by omega⟩)]
  · rw [if_neg h, if_neg (fun z : q = a ∧ j = n => h ⟨z.1, by omega⟩), if_neg (fun z : q = a ∧ j < n => h ⟨z.1, by omega⟩)]
theorem flM_at {u : mU} {a n j : Nat} (h : j < n) : flM u a n a j = -2 := if_pos ⟨rfl, h⟩
theorem flM_q {u : mU} {a n q : Nat} (h : q ≠ a) : flM u a n q = u q := funext fun j => if_neg (fun z => h z.1)
section LI6
variable {T D m T2 D2 m2 M : Nat} {c3 c4 c3b : sF} {uc um : mU} {vc vm : mV} {L s k x nn : Nat} {l : List Nat}
theorem fill66 {kk : Nat → qS → Option qS} (hMs : mSh (SH T2 D2 c3b (fR M) m2) M) : ∀ (r i f : Nat), i + r = 35 → r < f → L_X12_readCollege_66 kk f 75 (nI i) (Rep (SH T2 D2 c3b (fR M) m2) (flM um (M + 8) i) vm) = kk 75 (Rep (SH T2 D2 c3b (fR M) m2) (flM um (M + 8) 35) vm) := by
  intro r
  induction r with
  | zero =>
    intro i f hi hf
    obtain ⟨f, rfl⟩ : ∃ f', f = f' + 1 := ⟨f - 1, by omega⟩
    have hi : i = 35 := by omega
    subst hi
    rw [L_X12_readCollege_66, if_pos (by decide)]
  | succ r ih =>
    intro i f hi hf
    obtain ⟨f, rfl⟩ : ∃ f', f = f' + 1 := ⟨f - 1, by omega⟩
    have c : ¬ (35 : Int32) ≤ nI i := (show ¬ nI 35 ≤ nI i from nI_ge (by omega) (by omega))
    rw [L_X12_readCollege_66, if_neg c, gR_75_4, Option.bind_some, mR_18 hMs, Option.bind_some, ms_8 hMs (by omega), Option.bind_some, flM_wr, nI_1]
    exact ih (i + 1) f (by omega) (by omega)
theorem fill91 {kk : Nat → qS → Option qS} (hMs : mSh (SH T2 D2 c3b (fR M) m2) M) : ∀ (r i f : Nat), i + r = 21 → r < f → L_X12_readCollege_91 kk f 75 (nI i) (Rep (SH T2 D2 c3b (fR M) m2) (flM um (M + 12) i) vm) = kk 75 (Rep (SH T2 D2 c3b (fR M) m2) (flM um (M + 12) 21) vm) := by
  intro r
  induction r with
  | zero =>
    intro i f hi hf
    obtain ⟨f, rfl⟩ : ∃ f', f = f' + 1 := ⟨f - 1, by omega⟩
    have hi : i = 21 := by omega
    subst hi
    rw [L_X12_readCollege_91, if_pos (by decide)]
  | succ r ih =>
    intro i f hi hf
    obtain ⟨f, rfl⟩ : ∃ f', f = f' + 1 := ⟨f - 1, by omega⟩
    have c : ¬ (21 : Int32) ≤ nI i := (show ¬ nI 21 ≤ nI i from nI_ge (by omega) (by omega))
    rw [L_X12_readCollege_91, if_neg c, gR_75_4, Option.bind_some, mR_22 hMs, Option.bind_some, ms_12 hMs (by omega), Option.bind_some, flM_wr, nI_1]
    exact ih (i + 1) f (by omega) (by omega)
theorem fill116 (hMs : mSh (SH T2 D2 c3b (fR M) m2) M) : ∀ (r i f : Nat), i + r = 4 → r < f → L_X12_readCollege_116 f 75 (nI i) (Rep (SH T2 D2 c3b (fR M) m2) (flM um (M + 3) i) vm) = some (Rep (SH T2 D2 c3b (fR M) m2) (flM um (M + 3) 4) vm) := by
  intro r
  induction r with
  | zero =>
    intro i f hi hf
    obtain ⟨f, rfl⟩ : ∃ f', f = f' + 1 := ⟨f - 1, by omega⟩
    have hi : i = 4 := by omega
    subst hi
    rw [L_X12_readCollege_116, if_pos (by decide)]
  | succ r ih =>
    intro i f hi hf
    obtain ⟨f, rfl⟩ : ∃ f', f = f' + 1 := ⟨f - 1, by omega⟩
    have c : ¬ (4 : Int32) ≤ nI i := (show ¬ nI 4 ≤ nI i from nI_ge (by omega) (by omega))
    rw [L_X12_readCollege_116, if_neg c, gR_75_4, Option.bind_some, mR_13 hMs, Option.bind_some, ms_3 hMs (by omega), Option.bind_some, flM_wr, nI_1]
    exact ih (i + 1) f (by omega) (by omega)
def mColl (g1 : qS) : Option qS := q_b2 (f_X12_readPart g1 75 30 2 7) fun v3 g2 => q_b2 (f_X12_readPart g2 75 31 0 100) fun v5 g4 => (g_I g4 75 11 9).bind fun v6 => if v6 = 5 then (some g4) else ((g_R g4 75 11 4).bind fun v7 => (p_I g4 v7 10 0 v3).bind fun g8 => (g_R g8 75 11 4).bind fun v9 => (p_I g8 v9 10 1 v5).bind fun g10 => L_X12_readCollege_66 (fun y11 g12 => L_X12_readCollege_91 (fun y13 g14 => L_X12_readCollege_116 1000000000 y13 0 g14) 1000000000 y11 0 g12) 1000000000 75 0 g10)
theorem ln_coll (ho : okTD T D) (hMs : mSh (SH T2 D2 c3b (fR M) m2) M) (hM : 88 ≤ M) (h : TKR L uc vc um vm s k l x) (hZ : JZ uc um D M) : LNE T D m c3 c4 T2 D2 m2 M c3b L s uc um (f_X6_readCollege (Rep (SH T D c3 c4 m) uc vc) 1) (mColl (Rep (SH T2 D2 c3b (fR M) m2) um vm)) := by
  have hCt := SH_draft (c3 := c3) (c4 := c4) (m := m) ho
  have hD : D = 54 ∨ D = 3 := by rcases ho with ⟨rfl, rfl⟩ | ⟨rfl, rfl⟩ <;> simp
  obtain ⟨z0, z5, z10, z16, z18⟩ := hZ
  have hpt1 := pr_part (T := T) (D := D) (m := m) (c3 := c3) (c4 := c4) (T2 := T2) (D2 := D2) (m2 := m2) (M := M) (c3b := c3b) (w := 10) (lo := 2) (hi := 7) (by decide) (by decide) (by decide) (by decide) h
  rw [show nI 2 = (2 : Int32) from rfl, show nI 7 = (7 : Int32) from rfl, show mw 10 = 30 from rfl] at hpt1
  rcases hpt1 with ⟨a, u1, v1, w1, y1, p11, p12, p13, p14, ⟨dd, hlo1, hhi1, rfl, p15⟩, ⟨s1, k1, l1, x1, t1, ts1⟩, g1, g1v, g1m, g1w⟩ | ⟨a, u1, v1, w1, y1, p11, p12, p13, p14, p15⟩
  · dsimp only at p11
    have hp1 := put_D (T := T) (D := D) (m := m) (c3 := c3) (c4 := c4) (uc := u1) (vc := v1) (i := 0) (j := 0) hCt.2.2.2.2.2.2.2.2.2.2 (by decide) (by decide) (by decide) (by decide) p15
    rw [nI_0] at hp1
    have tp1 : TKR L (wr u1 (D + 20) (0 * 10 + 0) (nI dd)) v1 w1 y1 s1 k1 l1 x1 := TKR_c (wr_role (by omega)) (wr_role (by omega)) (wr_role (by omega)) (wr_role (by omega)) (wr_off (by omega)) rfl t1
    have hpt2 := pr_part (T := T) (D := D) (m := m) (c3 := c3) (c4 := c4) (T2 := T2) (D2 := D2) (m2 := m2) (M := M) (c3b := c3b) (w := 11) (lo := 0) (hi := 100) (by decide) (by decide) (by decide) (by decide) tp1
    rw [nI_0, show nI 100 = (100 : Int32) from rfl, show mw 11 = 31 from rfl] at hpt2
    rcases hpt2 with ⟨a, u2, v2, w2, y2, p21, p22, p23, p24, ⟨li, hlo2, hhi2, rfl, p25⟩, ⟨s2, k2, l2, x2, t2, ts2⟩, g2, g2v, g2m, g2w⟩ | ⟨a, u2, v2, w2, y2, p21, p22, p23, p24, p25⟩
    · dsimp only at p21
      have hp2 := put_D (T := T) (D := D) (m := m) (c3 := c3) (c4 := c4) (uc := u2) (vc := v2) (i := 0) (j := 1) hCt.2.2.2.2.2.2.2.2.2.2 (by decide) (by decide) (by decide) (by decide) p25
      rw [nI_0, show nI 1 = (1 : Int32) from rfl] at hp2
      have n9 : ¬ w2 75 9 = 5 := by
        obtain ⟨-, -, -, -, -, hk5, -, -, e, -, -, -, -, hMt⟩ := t2
        rw [hMt.1]; exact mkK_ne hk5
      have f66 := fun kk => fill66 (T2 := T2) (D2 := D2) (m2 := m2) (c3b := c3b) (um := wr (wr w2 M 0 (nI dd)) M 1 (nI li)) (vm := y2) (kk := kk) hMs 35 0 1000000000 (by omega) (by omega)
      rw [flM_0, nI_0] at f66
      have f91 := fun kk => fill91 (T2 := T2) (D2 := D2) (m2 := m2) (c3b := c3b) (um := flM (wr (wr w2 M 0 (nI dd)) M 1 (nI li)) (M + 8) 35) (vm := y2) (kk := kk) hMs 21 0 1000000000 (by omega) (by omega)
      rw [flM_0, nI_0] at f91
      have f116 := fill116 (T2 := T2) (D2 := D2) (m2 := m2) (c3b := c3b) (um := flM (flM (wr (wr w2 M 0 (nI dd)) M 1 (nI li)) (M + 8) 35) (M + 12) 21) (vm := y2) hMs 4 0 1000000000 (by omega) (by omega)
      rw [flM_0, nI_0] at f116
      have cq : ∀ q, q ≠ 1 → q ≠ D + 20 → wr u2 (D + 20) (0 * 10 + 1) (nI li) q = uc q := fun q h1 h2 => by rw [wr_off h2, cfT_q g2 h1, wr_off h2, cfT_q g1 h1]
      have ck : wr u2 (D + 20) (0 * 10 + 1) (nI li) (D + 20) = upd (upd (uc (D + 20)) 0 (nI dd)) 1 (nI li) := by rw [wr_arr, cfT_q g2 (by omega), wr_arr, cfT_q g1 (by omega)]
      have mq : ∀ q, q ≠ 75 → w2 q = um q := fun q h1 => by rw [mfT_q g2m h1, mfT_q g1m h1]
      have mM : ∀ j, flM (flM (flM (wr (wr w2 M 0 (nI dd)) M 1 (nI li)) (M + 8) 35) (M + 12) 21) (M + 3) 4 M j = if j = 1 then nI li else if j = 0 then nI dd else um M j := by
        intro j
        rw [flM_q (by omega), flM_q (by omega), flM_q (by omega)]
        by_cases e1 : j = 1
        · rw [if_pos e1, e1, wr_same]
        · rw [if_neg e1, wr_ix e1]
          by_cases e0 : j = 0
          · rw [if_pos e0, e0, wr_same]
          · rw [if_neg e0, wr_ix e0, mq _ (by omega)]
      have mo : ∀ q, q ≠ 75 → q ≠ M → q ≠ M + 8 → q ≠ M + 12 → q ≠ M + 3 → flM (flM (flM (wr (wr w2 M 0 (nI dd)) M 1 (nI li)) (M + 8) 35) (M + 12) 21) (M + 3) 4 q = um q := fun q h0 h1 h2 h3 h4 => by
        rw [flM_q h4, flM_q h3, flM_q h2, wr_off h1, wr_off h1, mq q h0]
      refine Or.inl ⟨wr u2 (D + 20) (0 * 10 + 1) (nI li), v2, flM (flM (flM (wr (wr w2 M 0 (nI dd)) M 1 (nI li)) (M + 8) 35) (M + 12) 21) (M + 3) 4, y2, ?_, ?_, ?_, ?_, ⟨?_, ?_⟩, ⟨s2, k2, l2, x2, ?_, by omega⟩, fun c => if c = 0 then dd else if c = 1 then li else 0, ?_, ?_⟩
      · unfold f_X6_readCollege
        rw [gC_1, Option.bind_some, p11, gR_1_2, Option.bind_some, cR_9 hCt, Option.bind_some, hp1, q_b2_some, if_neg (by decide), p21, gR_1_2, Option.bind_some, cR_9 hCt, Option.bind_some, hp2, q_b2_some, if_neg (by decide)]
      · unfold mColl
        rw [p12, q_b2_some, p22, q_b2_some, gI_75_9, Option.bind_some, if_neg n9, gR_75_4, Option.bind_some, mW_0 hMs, Option.bind_some, gR_75_4, Option.bind_some, mW_1 hMs, Option.bind_some, f66, f91, f116]
      · exact rdC_wr (rdC_trans (rdC_wr (rdC_T g1) (by omega)) (rdC_T g2)) (by omega)
      · intro q j hq
        have h75 : q ≠ M := fun z => hq (Or.inr (by omega))
        have h8 : q ≠ M + 8 := fun z => hq (Or.inr (by omega))
        have h12 : q ≠ M + 12 := fun z => hq (Or.inr (by omega))
        have h3 : q ≠ M + 3 := fun z => hq (Or.inr (by omega))
        rw [flM_q h3, flM_q h12, flM_q h8, wr_off h75, wr_off h75]
        exact rdM_trans (rdM_T g1m) (rdM_T g2m) q j hq
      · rw [wr_role (by omega), cfT_13 g2, wr_role (by omega), cfT_13 g1]
      · rw [flM_q (by omega), flM_q (by omega), flM_q (by omega), wr_role (by omega), wr_role (by omega), mfT_12 g2m, mfT_12 g1m]
      · refine TKR_c (uc := u2) ?_ ?_ ?_ ?_ ?_ rfl (TKR_m (um := w2) ?_ ?_ rfl t2)
        · rw [wr_role (by omega)]
        · rw [wr_role (by omega)]
        · rw [wr_role (by omega)]
        · rw [wr_role (by omega)]
        · rw [wr_off (by omega)]
        · rw [flM_q (by omega), flM_q (by omega), flM_q (by omega), wr_off (by omega), wr_off (by omega)]
        · rw [flM_q (by omega), flM_q (by omega), flM_q (by omega), wr_off (by omega), wr_off (by omega)]
      · refine ⟨fun c hc => ?_, ⟨fun t ht => absurd ht (Nat.not_lt_zero t), fun t ht => absurd ht (Nat.not_lt_zero t)⟩, ⟨fun t ht => absurd ht (Nat.not_lt_zero t), fun t ht => absurd ht (Nat.not_lt_zero t)⟩, ⟨fun t ht => absurd ht (Nat.not_lt_zero t), fun t ht => absurd ht (Nat.not_lt_zero t)⟩, ⟨fun t ht => absurd ht (Nat.not_lt_zero t), fun t ht => absurd ht (Nat.not_lt_zero t)⟩, fun p d hp hd => ?_, fun p d hp hd => ?_, fun t ht => absurd ht (Nat.not_lt_zero t), ⟨fun t ht => absurd ht (Nat.not_lt_zero t), fun t ht => ?_, fun i i' _ ht => absurd ht (Nat.not_lt_zero i')⟩, fun t ht => absurd ht (Nat.not_lt_zero t), hlo1⟩
        · rw [ck, mM c]
          simp -implicitDefEqProofs only [upd_at]
          by_cases e1 : c = 1
          · subst e1
            exact ⟨rfl, rfl, show li ≤ 100 from hhi2⟩
          · by_cases e0 : c = 0
            · subst e0
              exact ⟨rfl, rfl, show dd ≤ 7 from hhi1⟩
            · rw [if_neg e1, if_neg e0, if_neg e1, if_neg e0, if_neg e0, if_neg e1, (z0 c hc).1, (z0 c hc).2, nI_0]
              exact ⟨rfl, rfl, Nat.zero_le _⟩
        · rw [cq _ (by omega) (by omega), flM_q (show M + 8 ≠ M + 3 by omega), flM_q (show M + 8 ≠ M + 12 by omega), flM_at (show 7 * p + d < 35 by omega), z16 _ (by omega)]
          exact ⟨rfl, Or.inl rfl⟩
        · rw [cq _ (by omega) (by omega), flM_q (show M + 12 ≠ M + 3 by omega), flM_at (show 7 * p + d < 21 by omega), z18 _ (by omega)]
          exact ⟨rfl, Or.inl rfl⟩
        · exact Or.inl (flM_at ht)
      · refine ⟨fun _ => [], fun _ => 0, fun _ => 0, ⟨?_, ?_, Nat.zero_le 16, fun i hi => absurd hi (Nat.not_lt_zero i)⟩, fun i hi => absurd hi (Nat.not_lt_zero i)⟩
        · show wr u2 (D + 20) (0 * 10 + 1) (nI li) 1 5 = nI 0
          rw [wr_role (by omega), cfT_5 g2, wr_role (by omega), cfT_5 g1, z5, nI_0]
        · show flM (flM (flM (wr (wr w2 M 0 (nI dd)) M 1 (nI li)) (M + 8) 35) (M + 12) 21) (M + 3) 4 M 10 = nI 0
          rw [mM 10, if_neg (by decide), if_neg (by decide), z10, nI_0]
    · dsimp only at p21
      have e5' := p25
      obtain ⟨dn, ds, -, -, -, -, -, -, h5⟩ := e5'
      refine Or.inr ⟨u2, v2, w2, y2, ?_, ?_, ?_, ?_, p25⟩
      · unfold f_X6_readCollege
        rw [gC_1, Option.bind_some, p11, gR_1_2, Option.bind_some, cR_9 hCt, Option.bind_some, hp1, q_b2_some, if_neg (by decide), p21]
      · unfold mColl
        rw [p12, q_b2_some, p22, q_b2_some, gI_75_9, Option.bind_some, if_pos h5]
      · exact rdC_trans (rdC_wr (rdC_T g1) (by omega)) p23
      · exact rdM_trans (rdM_T g1m) (rdM_F p24)
  · dsimp only at p11
    have e5' := p15
    obtain ⟨dn, ds, -, -, -, -, -, -, h5⟩ := e5'
    refine Or.inr ⟨u1, v1, w1, y1, ?_, ?_, p13, rdM_F p14, p15⟩
    · unfold f_X6_readCollege
      rw [gC_1, Option.bind_some, p11]
    · unfold mColl
      rw [p12, q_b2_some, part_dead h5, q_b2_some, gI_75_9, Option.bind_some, if_pos h5]
end LI6
