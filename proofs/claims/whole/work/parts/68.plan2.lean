/-- what the model's plan leaves in its places -/
def plM (u : mU) (s : pS) : mU := put (put u 81 s.2.1) 78 s.1
def zr (j : Nat) : Int32 := if j < 4 then -2 else 0
section PLM
variable {T D m M : Nat} {c3 c4 : sF} {u : mU} {v : mV} {N : Nat → Nat} {s s' : pS} {k d : Nat} {K : cK}
theorem pO_none {f : Nat → Int32} {g t p : Nat} : pO K d f (-1) g t p = (s_out K f g t p d, -1) := by
  unfold pO s_out
  by_cases c : s_hind K f g t p d = 0
  · rw [if_pos c, if_pos c, if_pos rfl]
  · rw [if_neg c, if_neg c]
theorem pSt_seed (hs : s.2.2 = -1) : (pSt K d k s).2.2 = -1 := by
  unfold pSt
  split
  · unfold pRun
    rw [hs, pO_none]
  · exact hs
theorem plM_78 : plM u s 78 = s.1 := put_at _ _ _
theorem plM_81 : plM u s 81 = s.2.1 := by unfold plM; rw [put_ne (by decide), put_at]
theorem plM_q {q : Nat} (h1 : q ≠ 78) (h2 : q ≠ 81) : plM u s q = u q := by unfold plM; rw [put_ne h1, put_ne h2]
theorem plM_relC (ho : okTD T D) (hM : 88 ≤ M) (h : relC u T M N) : relC (plM u s) T M N := by
  have hT : T = 54 ∨ T = 3 := by rcases ho with ⟨rfl, rfl⟩ | ⟨rfl, rfl⟩ <;> simp
  exact relC_congr (fun i hi => plM_q (by omega) (by omega)) (fun i => plM_q (by omega) (by omega)) h
theorem plM_col (hM : 88 ≤ M) : col (plM u s) M = col u M := funext fun i => plM_q (by omega) (by omega)
theorem plM_set {R : Nat → Int32} {o : Int32} : put (wr (plM u s) 81 k o) 78 R = plM u (R, upd s.2.1 k o, s.2.2) := by
  unfold plM
  funext q j
  by_cases h1 : q = 78
  · subst h1; rw [put_at, put_at]
  · rw [put_ne h1, put_ne h1]
    by_cases h2 : q = 81
    · subst h2
      rw [wr_put, put_at, put_at, put_ne (by decide), put_at]
    · rw [wr_role h2, put_ne h1, put_ne h2, put_ne h2]
theorem ref_starts_go : ∀ (r i f : Nat) (u : mU), i + r = 16 → r < f → L_X12_starts_2 f 75 (nI i) (Rep (SH T D c3 c4 m) u v) = some (Rep (SH T D c3 c4 m) (fun q j => if q = 78 ∧ i ≤ j ∧ j < 16 then (zr j) else u q j) v) := by
  intro r
  induction r with
  | zero =>
    intro i f u hi hf
    obtain ⟨f, rfl⟩ : ∃ f', f = f' + 1 := ⟨f - 1, by omega⟩
    have c : (16 : Int32) ≤ nI i := nI_le (a := 16) (by omega) (by omega)
    simp -implicitDefEqProofs only [L_X12_starts_2, c, if_true]
    exact congrArg (fun x => some (Rep (SH T D c3 c4 m) x v)) (funext fun q => funext fun j => (if_neg (by omega)).symm)
  | succ r ih =>
    intro i f u hi hf
    obtain ⟨f, rfl⟩ : ∃ f', f = f' + 1 := ⟨f - 1, by omega⟩
    have c : ¬ (16 : Int32) ≤ nI i := nI_ge (b := 16) (by omega) (by omega)
    have j1 : i < 16 := by omega
    have c4' : ((4 : Int32) ≤ nI i) = (4 ≤ i) := propext (nI_leI (a := 4) (by omega) (by omega))
    have fin : ∀ x : Int32, x = zr i → (fun q j => if q = 78 ∧ i + 1 ≤ j ∧ j < 16 then zr j else wr u 78 i x q j) = (fun q j => if q = 78 ∧ i ≤ j ∧ j < 16 then zr j else u q j) := by
      intro x hx
      funext q j
      by_cases hq : q = 78
      · subst hq
        by_cases hj : j = i
        · subst hj
          rw [if_neg (by omega), wr_same, if_pos ⟨rfl, by omega, by omega⟩, hx]
        · by_cases hj2 : i + 1 ≤ j ∧ j < 16
          · rw [if_pos ⟨rfl, hj2⟩, if_pos ⟨rfl, by omega, hj2.2⟩]
          · rw [if_neg (fun z => hj2 z.2), wr_ix hj, if_neg (fun z => hj2 ⟨by omega, z.2.2⟩)]
      · rw [if_neg (fun z => hq z.1), if_neg (fun z => hq z.1), wr_role hq]
    by_cases d4 : 4 ≤ i
    · simp -implicitDefEqProofs only [L_X12_starts_2, c, if_false, c4', d4, if_true, gC_0, gR_0_0, gR_0_1, gR_0_2, gR_0_3, gR_0_4, gR_0_5, gR_0_6, gI_0_7, gR_0_8, gC_1, gR_1_0, gI_1_1, gR_1_2, gR_1_3, gR_1_4, gI_1_5, gI_1_6, gI_1_7, gI_1_8, gI_1_9, gL_1_10, gI_1_11, gI_1_12, gI_1_13, gI_1_14, gC_27, gR_27_0, gC_30, gR_30_0, gR_30_1, gI_30_2, gI_30_3, gI_30_4, gC_35, gR_35_0, gR_35_1, gI_35_2, gC_36, gR_36_0, gC_41, gR_41_0, gI_41_1, gI_41_2, gC_44, gR_44_0, gR_44_1, gI_44_2, gI_44_3, gC_49, gR_49_0, gR_49_1, gI_49_2, gI_49_3, gC_75, gI_75_0, gI_75_1, gI_75_2, gR_75_5, gI_75_6, gI_75_7, gI_75_8, gI_75_9, gI_75_10, gI_75_11, gI_75_12, gI_75_13, gL_75_14, gR_75_15, gR_75_16, gR_75_17, gR_75_18, gI_75_19, gI_75_20, gR_75_21, gR_75_22, gR_75_23, gI_75_24, gR_75_25, gI_75_26, gL_75_27, gL_75_28, gR_75_29, gR_75_30, gI_75_31, gR_75_3, gQ_75_3, gN_75_3, gR_75_4, gQ_75_4, gN_75_4, pI_0_7, pI_1_1, pI_1_5, pI_1_6, pI_1_7, pI_1_8, pI_1_9, pL_1_10, pI_1_11, pI_1_12, pI_1_13, pI_1_14, pI_30_2, pI_30_3, pI_30_4, pI_35_2, pI_41_1, pZ0_41_1, pZ1_41_1, pI_41_2, pI_44_2, pZ0_44_2, pZ1_44_2, pI_44_3, pI_49_2, pI_49_3, pI_75_0, pI_75_1, pI_75_2, pI_75_6, pI_75_7, pI_75_8, pI_75_9, pI_75_10, pI_75_11, pI_75_12, pI_75_13, pL_75_14, pI_75_19, pI_75_20, pI_75_24, pI_75_26, pL_75_27, pL_75_28, pI_75_31, Option.bind_some, q_b2_some, q_zr_0, q_zr_1, x10_fine, x10_refused, x12_good, x12_refused, aB_2, an_2, aB_76, an_76, aI_77, aI_78, aI_79, aI_80, aI_81, aI_82, aI_83, aI_84, aI_85, aI_86, sB_2, sB_76, sI_77, sI_78, sI_79, sI_80, sI_81, sI_82, sI_83, sI_84, sI_85, sI_86, j1, nI_1, ih (i + 1) f _ (by omega) (by omega)]
      rw [fin 0 (if_neg (by omega)).symm]
    · simp -implicitDefEqProofs only [L_X12_starts_2, c, if_false, c4', d4, gC_0, gR_0_0, gR_0_1, gR_0_2, gR_0_3, gR_0_4, gR_0_5, gR_0_6, gI_0_7, gR_0_8, gC_1, gR_1_0, gI_1_1, gR_1_2, gR_1_3, gR_1_4, gI_1_5, gI_1_6, gI_1_7, gI_1_8, gI_1_9, gL_1_10, gI_1_11, gI_1_12, gI_1_13, gI_1_14, gC_27, gR_27_0, gC_30, gR_30_0, gR_30_1, gI_30_2, gI_30_3, gI_30_4, gC_35, gR_35_0, gR_35_1, gI_35_2, gC_36, gR_36_0, gC_41, gR_41_0, gI_41_1, gI_41_2, gC_44, gR_44_0, gR_44_1, gI_44_2, gI_44_3, gC_49, gR_49_0, gR_49_1, gI_49_2, gI_49_3, gC_75, gI_75_0, gI_75_1, gI_75_2, gR_75_5, gI_75_6, gI_75_7, gI_75_8, gI_75_9, gI_75_10, gI_75_11, gI_75_12, gI_75_13, gL_75_14, gR_75_15, gR_75_16, gR_75_17, gR_75_18, gI_75_19, gI_75_20, gR_75_21, gR_75_22, gR_75_23, gI_75_24, gR_75_25, gI_75_26, gL_75_27, gL_75_28, gR_75_29, gR_75_30, gI_75_31, gR_75_3, gQ_75_3, gN_75_3, gR_75_4, gQ_75_4, gN_75_4, pI_0_7, pI_1_1, pI_1_5, pI_1_6, pI_1_7, pI_1_8, pI_1_9, pL_1_10, pI_1_11, pI_1_12, pI_1_13, pI_1_14, pI_30_2, pI_30_3, pI_30_4, pI_35_2, pI_41_1, pZ0_41_1, pZ1_41_1, pI_41_2, pI_44_2, pZ0_44_2, pZ1_44_2, pI_44_3, pI_49_2, pI_49_3, pI_75_0, pI_75_1, pI_75_2, pI_75_6, pI_75_7, pI_75_8, pI_75_9, pI_75_10, pI_75_11, pI_75_12, pI_75_13, pL_75_14, pI_75_19, pI_75_20, pI_75_24, pI_75_26, pL_75_27, pL_75_28, pI_75_31, Option.bind_some, q_b2_some, q_zr_0, q_zr_1, x10_fine, x10_refused, x12_good, x12_refused, aB_2, an_2, aB_76, an_76, aI_77, aI_78, aI_79, aI_80, aI_81, aI_82, aI_83, aI_84, aI_85, aI_86, sB_2, sB_76, sI_77, sI_78, sI_79, sI_80, sI_81, sI_82, sI_83, sI_84, sI_85, sI_86, j1, nI_1, ih (i + 1) f _ (by omega) (by omega)]
      rw [fin (-2) (if_pos (by omega)).symm]
theorem ref_starts : f_X12_starts (Rep (SH T D c3 c4 m) u v) 75 = some (Rep (SH T D c3 c4 m) (put u 78 (rowZ (u 78))) v) := by
  have h := ref_starts_go (T := T) (D := D) (c3 := c3) (c4 := c4) (m := m) (v := v) 16 0 1000000000 u (by omega) (by omega)
  rw [nI_0] at h
  unfold f_X12_starts
  rw [gC_75, Option.bind_some, h]
  refine congrArg (fun x => some (Rep (SH T D c3 c4 m) x v)) ?_
  funext q j
  unfold put rowZ
  by_cases hq : q = 78
  · subst hq
    rw [if_pos rfl]
    by_cases hj : j < 16
    · rw [if_pos ⟨rfl, by omega, hj⟩, if_pos hj]
      rfl
    · rw [if_neg (fun z => hj z.2.2), if_neg hj]
  · rw [if_neg (fun z => hq z.1), if_neg hq]
theorem ref_day {kk : Nat → Int32 → Int32 → qS → Option qS} {x : Int32} (ho : okTD T D) (hMs : mSh (SH T D (fR M) c4 m) M) (hM : 88 ≤ M) (h : relC u T M N) (hd : d < 7) : ∀ (r i f : Nat) (s : pS), i + r = N 7 → r < f → rowH N s.1 → s.2.2 = -1 → L_X12_plans_13 kk f 75 x (nI d) (nI i) (Rep (SH T D (fR M) c4 m) (plM u s) v) = kk 75 x (nI d) (Rep (SH T D (fR M) c4 m) (plM u (lp (pSt (col u M) d) r i s)) v) := by
  have hb := bndN_of h.1
  have b7 : N 7 ≤ 12 := hb.2.2.2.2.2.2.2.1
  have b2 : N 2 ≤ 4 := hb.2.2.1
  have b5 : N 5 ≤ 3 := hb.2.2.2.2.2.1
  have b0 : N 0 ≤ 7 := hb.1
  intro r
  induction r with
  | zero =>
    intro i f s hi hf hH hs
    obtain ⟨f, rfl⟩ : ∃ f', f = f' + 1 := ⟨f - 1, by omega⟩
    have c : nI (N 7) ≤ nI i := nI_le (by omega) (by omega)
    have e7 := ((plM_relC (s := s) ho hM h).1 7 (by decide)).2.1
    simp -implicitDefEqProofs only [L_X12_plans_13, gC_0, gR_0_0, gR_0_1, gR_0_2, gR_0_3, gR_0_4, gR_0_5, gR_0_6, gI_0_7, gR_0_8, gC_1, gR_1_0, gI_1_1, gR_1_2, gR_1_3, gR_1_4, gI_1_5, gI_1_6, gI_1_7, gI_1_8, gI_1_9, gL_1_10, gI_1_11, gI_1_12, gI_1_13, gI_1_14, gC_27, gR_27_0, gC_30, gR_30_0, gR_30_1, gI_30_2, gI_30_3, gI_30_4, gC_35, gR_35_0, gR_35_1, gI_35_2, gC_36, gR_36_0, gC_41, gR_41_0, gI_41_1, gI_41_2, gC_44, gR_44_0, gR_44_1, gI_44_2, gI_44_3, gC_49, gR_49_0, gR_49_1, gI_49_2, gI_49_3, gC_75, gI_75_0, gI_75_1, gI_75_2, gR_75_5, gI_75_6, gI_75_7, gI_75_8, gI_75_9, gI_75_10, gI_75_11, gI_75_12, gI_75_13, gL_75_14, gR_75_15, gR_75_16, gR_75_17, gR_75_18, gI_75_19, gI_75_20, gR_75_21, gR_75_22, gR_75_23, gI_75_24, gR_75_25, gI_75_26, gL_75_27, gL_75_28, gR_75_29, gR_75_30, gI_75_31, gR_75_3, gQ_75_3, gN_75_3, gR_75_4, gQ_75_4, gN_75_4, pI_0_7, pI_1_1, pI_1_5, pI_1_6, pI_1_7, pI_1_8, pI_1_9, pL_1_10, pI_1_11, pI_1_12, pI_1_13, pI_1_14, pI_30_2, pI_30_3, pI_30_4, pI_35_2, pI_41_1, pZ0_41_1, pZ1_41_1, pI_41_2, pI_44_2, pZ0_44_2, pZ1_44_2, pI_44_3, pI_49_2, pI_49_3, pI_75_0, pI_75_1, pI_75_2, pI_75_6, pI_75_7, pI_75_8, pI_75_9, pI_75_10, pI_75_11, pI_75_12, pI_75_13, pL_75_14, pI_75_19, pI_75_20, pI_75_24, pI_75_26, pL_75_27, pL_75_28, pI_75_31, Option.bind_some, q_b2_some, q_zr_0, q_zr_1, x10_fine, x10_refused, x12_good, x12_refused, mC, mI_0, mI_1, mI_2, mI_3, mI_4, mI_5, mI_6, mI_7, mI_8, mI_9, mI_10, mR_11, mR_12, mR_13, mR_14, mR_15, mR_16, mR_17, mR_18, mR_19, mR_20, mR_21, mR_22, mR_23, mR_24, mR_25, mR_26, mR_27, mR_28, mR_29, mR_30, mR_31, mR_32, mR_33, mR_34, ma_1, ma_2, ma_3, ma_4, ma_5, ma_6, ma_7, ma_8, ma_9, ma_10, ma_11, ma_12, ma_13, ma_14, ma_15, ma_16, ma_17, ma_18, ma_19, ma_20, ma_21, ma_22, ma_23, ma_24, hMs, e7, c, if_true, lp]
  | succ r ih =>
    intro i f s hi hf hH hs
    obtain ⟨f, rfl⟩ : ∃ f', f = f' + 1 := ⟨f - 1, by omega⟩
    have c : ¬ nI (N 7) ≤ nI i := nI_ge (by omega) (by omega)
    have i12 : i < 12 := by omega
    have hw := plM_relC (s := s) ho hM h
    have e7 := (hw.1 7 (by decide)).2.1
    obtain ⟨g, t, p, e, hg, ht, hp, he, q1, q2, q3, q4, z1, z2, z3, z4, f1, f2, f3, f4⟩ := gift_at hw (show i < N 7 by omega)
    have hcol := plM_col (u := u) (s := s) hM
    rw [hcol] at q1 q2 q3 q4
    have hz : col u M 16 i = nI e := by rw [← hcol]; exact z4
    by_cases c2 : nI e = nI d
    · have hst : pSt (col u M) d i s = pRun (col u M) d i s := by
        unfold pSt
        rw [hz, if_pos c2]
      have hrun : pRun (col u M) d i s = (s_stl (col u M) s.1 g t p (s_out (col u M) s.1 g t p d), upd s.2.1 i (s_out (col u M) s.1 g t p d), s.2.2) := by
        unfold pRun
        rw [q1, q2, q3, hs, pO_none]
      have hH' : rowH N (plM u s 78) := by rw [plM_78]; exact hH
      have a1 := ref_out (v := v) hMs wS_78 hw hH' hg ht hp hd
      rw [hcol, plM_78] at a1
      generalize hoo : s_out (col u M) s.1 g t p d = oo at a1 hrun
      have hr2 : ∀ i', wr (plM u s) 81 i oo (M + i') = plM u s (M + i') := fun i' => wr_off (by omega)
      have y1 : wr (plM u s) 81 i oo (M + 13) i = nI g := by rw [hr2, z1]
      have y2 : wr (plM u s) 81 i oo (M + 14) i = nI t := by rw [hr2, z2]
      have y3 : wr (plM u s) 81 i oo (M + 15) i = nI p := by rw [hr2, z3]
      have a2 := mod_does (u := wr (plM u s) 81 i oo) (v := v) (p := nI p) (o := oo) hMs wS_78 (show M + 1 ≠ 78 by omega) (show g < 3 by omega) (show t < 4 by omega)
      have hc2 : col (wr (plM u s) 81 i oo) M = col u M := by rw [← hcol]; exact funext hr2
      rw [show m_honour (wr (plM u s) 81 i oo) M t = s_hon (col (wr (plM u s) 81 i oo) M) t from rfl, hc2, stl_s, wr_off (by decide), plM_78] at a2
      have a3 : (fun q j => if q = 78 then s_stl (col u M) s.1 g t p oo j else wr (plM u s) 81 i oo q j) = plM u (pRun (col u M) d i s) := by
        rw [hrun]
        exact plM_set
      rw [a3] at a2
      simp -implicitDefEqProofs only [L_X12_plans_13, gC_0, gR_0_0, gR_0_1, gR_0_2, gR_0_3, gR_0_4, gR_0_5, gR_0_6, gI_0_7, gR_0_8, gC_1, gR_1_0, gI_1_1, gR_1_2, gR_1_3, gR_1_4, gI_1_5, gI_1_6, gI_1_7, gI_1_8, gI_1_9, gL_1_10, gI_1_11, gI_1_12, gI_1_13, gI_1_14, gC_27, gR_27_0, gC_30, gR_30_0, gR_30_1, gI_30_2, gI_30_3, gI_30_4, gC_35, gR_35_0, gR_35_1, gI_35_2, gC_36, gR_36_0, gC_41, gR_41_0, gI_41_1, gI_41_2, gC_44, gR_44_0, gR_44_1, gI_44_2, gI_44_3, gC_49, gR_49_0, gR_49_1, gI_49_2, gI_49_3, gC_75, gI_75_0, gI_75_1, gI_75_2, gR_75_5, gI_75_6, gI_75_7, gI_75_8, gI_75_9, gI_75_10, gI_75_11, gI_75_12, gI_75_13, gL_75_14, gR_75_15, gR_75_16, gR_75_17, gR_75_18, gI_75_19, gI_75_20, gR_75_21, gR_75_22, gR_75_23, gI_75_24, gR_75_25, gI_75_26, gL_75_27, gL_75_28, gR_75_29, gR_75_30, gI_75_31, gR_75_3, gQ_75_3, gN_75_3, gR_75_4, gQ_75_4, gN_75_4, pI_0_7, pI_1_1, pI_1_5, pI_1_6, pI_1_7, pI_1_8, pI_1_9, pL_1_10, pI_1_11, pI_1_12, pI_1_13, pI_1_14, pI_30_2, pI_30_3, pI_30_4, pI_35_2, pI_41_1, pZ0_41_1, pZ1_41_1, pI_41_2, pI_44_2, pZ0_44_2, pZ1_44_2, pI_44_3, pI_49_2, pI_49_3, pI_75_0, pI_75_1, pI_75_2, pI_75_6, pI_75_7, pI_75_8, pI_75_9, pI_75_10, pI_75_11, pI_75_12, pI_75_13, pL_75_14, pI_75_19, pI_75_20, pI_75_24, pI_75_26, pL_75_27, pL_75_28, pI_75_31, Option.bind_some, q_b2_some, q_zr_0, q_zr_1, x10_fine, x10_refused, x12_good, x12_refused, aB_2, an_2, aB_76, an_76, aI_77, aI_78, aI_79, aI_80, aI_81, aI_82, aI_83, aI_84, aI_85, aI_86, sB_2, sB_76, sI_77, sI_78, sI_79, sI_80, sI_81, sI_82, sI_83, sI_84, sI_85, sI_86, mC, mI_0, mI_1, mI_2, mI_3, mI_4, mI_5, mI_6, mI_7, mI_8, mI_9, mI_10, mR_11, mR_12, mR_13, mR_14, mR_15, mR_16, mR_17, mR_18, mR_19, mR_20, mR_21, mR_22, mR_23, mR_24, mR_25, mR_26, mR_27, mR_28, mR_29, mR_30, mR_31, mR_32, mR_33, mR_34, ma_1, ma_2, ma_3, ma_4, ma_5, ma_6, ma_7, ma_8, ma_9, ma_10, ma_11, ma_12, ma_13, ma_14, ma_15, ma_16, ma_17, ma_18, ma_19, ma_20, ma_21, ma_22, ma_23, ma_24, hMs, e7, c, if_false, i12, z4, c2, if_true, z1, z2, z3, a1, y1, y2, y3, wr_same, a2, nI_1, lp]
      rw [ih (i + 1) f _ (by omega) (by omega) (by rw [← hst]; exact pSt_H h (by omega) hH) (by rw [← hst]; exact pSt_seed hs), hst]
    · have hst : pSt (col u M) d i s = s := by
        unfold pSt
        rw [hz, if_neg c2]
      simp -implicitDefEqProofs only [L_X12_plans_13, gC_0, gR_0_0, gR_0_1, gR_0_2, gR_0_3, gR_0_4, gR_0_5, gR_0_6, gI_0_7, gR_0_8, gC_1, gR_1_0, gI_1_1, gR_1_2, gR_1_3, gR_1_4, gI_1_5, gI_1_6, gI_1_7, gI_1_8, gI_1_9, gL_1_10, gI_1_11, gI_1_12, gI_1_13, gI_1_14, gC_27, gR_27_0, gC_30, gR_30_0, gR_30_1, gI_30_2, gI_30_3, gI_30_4, gC_35, gR_35_0, gR_35_1, gI_35_2, gC_36, gR_36_0, gC_41, gR_41_0, gI_41_1, gI_41_2, gC_44, gR_44_0, gR_44_1, gI_44_2, gI_44_3, gC_49, gR_49_0, gR_49_1, gI_49_2, gI_49_3, gC_75, gI_75_0, gI_75_1, gI_75_2, gR_75_5, gI_75_6, gI_75_7, gI_75_8, gI_75_9, gI_75_10, gI_75_11, gI_75_12, gI_75_13, gL_75_14, gR_75_15, gR_75_16, gR_75_17, gR_75_18, gI_75_19, gI_75_20, gR_75_21, gR_75_22, gR_75_23, gI_75_24, gR_75_25, gI_75_26, gL_75_27, gL_75_28, gR_75_29, gR_75_30, gI_75_31, gR_75_3, gQ_75_3, gN_75_3, gR_75_4, gQ_75_4, gN_75_4, pI_0_7, pI_1_1, pI_1_5, pI_1_6, pI_1_7, pI_1_8, pI_1_9, pL_1_10, pI_1_11, pI_1_12, pI_1_13, pI_1_14, pI_30_2, pI_30_3, pI_30_4, pI_35_2, pI_41_1, pZ0_41_1, pZ1_41_1, pI_41_2, pI_44_2, pZ0_44_2, pZ1_44_2, pI_44_3, pI_49_2, pI_49_3, pI_75_0, pI_75_1, pI_75_2, pI_75_6, pI_75_7, pI_75_8, pI_75_9, pI_75_10, pI_75_11, pI_75_12, pI_75_13, pL_75_14, pI_75_19, pI_75_20, pI_75_24, pI_75_26, pL_75_27, pL_75_28, pI_75_31, Option.bind_some, q_b2_some, q_zr_0, q_zr_1, x10_fine, x10_refused, x12_good, x12_refused, aB_2, an_2, aB_76, an_76, aI_77, aI_78, aI_79, aI_80, aI_81, aI_82, aI_83, aI_84, aI_85, aI_86, sB_2, sB_76, sI_77, sI_78, sI_79, sI_80, sI_81, sI_82, sI_83, sI_84, sI_85, sI_86, mC, mI_0, mI_1, mI_2, mI_3, mI_4, mI_5, mI_6, mI_7, mI_8, mI_9, mI_10, mR_11, mR_12, mR_13, mR_14, mR_15, mR_16, mR_17, mR_18, mR_19, mR_20, mR_21, mR_22, mR_23, mR_24, mR_25, mR_26, mR_27, mR_28, mR_29, mR_30, mR_31, mR_32, mR_33, mR_34, ma_1, ma_2, ma_3, ma_4, ma_5, ma_6, ma_7, ma_8, ma_9, ma_10, ma_11, ma_12, ma_13, ma_14, ma_15, ma_16, ma_17, ma_18, ma_19, ma_20, ma_21, ma_22, ma_23, ma_24, hMs, e7, c, if_false, i12, z4, c2, nI_1, lp, hst]
      exact ih (i + 1) f s (by omega) (by omega) hH hs
theorem lp_seed : ∀ (r i : Nat) (s : pS), s.2.2 = -1 → (lp (pSt K d) r i s).2.2 = -1 := by
  intro r
  induction r with
  | zero => intro i s h; exact h
  | succ r ih =>
    intro i s h
    exact ih (i + 1) _ (pSt_seed h)
theorem ref_days {x : Nat} (ho : okTD T D) (hMs : mSh (SH T D (fR M) c4 m) M) (hM : 88 ≤ M) (h : relC u T M N) (hx : x < 7) : ∀ (r d f : Nat) (s : pS), d + r = x + 1 → r < f → rowH N s.1 → s.2.2 = -1 → L_X12_plans_6 f 75 (nI x) (nI d) (Rep (SH T D (fR M) c4 m) (plM u s) v) = some (Rep (SH T D (fR M) c4 m) (plM u (lp (fun d s => pDay (col u M) (N 7) d s) r d s)) v) := by
  have b7 : N 7 ≤ 12 := (bndN_of h.1).2.2.2.2.2.2.2.1
  intro r
  induction r with
  | zero =>
    intro d f s hi hf hH hs
    obtain ⟨f, rfl⟩ : ∃ f', f = f' + 1 := ⟨f - 1, by omega⟩
    have c : nI x < nI d := nI_lt (by omega) (by omega)
    simp -implicitDefEqProofs only [L_X12_plans_6, c, if_true, lp]
  | succ r ih =>
    intro d f s hi hf hH hs
    obtain ⟨f, rfl⟩ : ∃ f', f = f' + 1 := ⟨f - 1, by omega⟩
    have c : ¬ nI x < nI d := nI_nlt (by omega) (by omega)
    have e1 := fun kk => ref_day (T := T) (D := D) (c4 := c4) (m := m) (v := v) (kk := kk) (x := nI x) ho hMs hM h (show d < 7 by omega) (N 7) 0 1000000000 s (by omega) (by omega) hH hs
    rw [nI_0] at e1
    unfold L_X12_plans_6
    rw [if_neg c, e1, nI_1]
    exact ih (d + 1) f _ (by omega) (by omega) (lp_H h _ _ _ (by omega) hH) (lp_seed _ _ _ hs)
theorem ref_plan {x : Nat} (ho : okTD T D) (hMs : mSh (SH T D (fR M) c4 m) M) (hM : 88 ≤ M) (h : relC u T M N) (hx : x < 7) : f_X12_plans (Rep (SH T D (fR M) c4 m) u v) 75 (nI x) = some (Rep (SH T D (fR M) c4 m) (plM u (pAll (col u M) (N 7) (x + 1) (u 78) (u 81) (-1))) v) := by
  have e1 := ref_days (T := T) (D := D) (c4 := c4) (m := m) (v := v) (u := u) ho hMs hM h hx (x + 1) 0 1000000000 (rowZ (u 78), u 81, -1) (by omega) (by omega) rowZ_H rfl
  rw [nI_0] at e1
  have e0 : put u 78 (rowZ (u 78)) = plM u (rowZ (u 78), u 81, -1) := by
    unfold plM
    rw [put_self]
  unfold f_X12_plans
  rw [gC_75, Option.bind_some, ref_starts, Option.bind_some, e0, e1]
  rfl
/-- two runs of the plan agree: rows, seeds, and the outcomes of those that were run -/
def pR (E : Nat → Prop) (s s' : pS) : Prop := (∀ j, j < 16 → s.1 j = s'.1 j) ∧ s.2.2 = s'.2.2 ∧ ∀ k, E k → s.2.1 k = s'.2.1 k
theorem pSt_rel {E : Nat → Prop} (h : relC u T M N) (hk : k < N 7) (hR : pR E s s') : pR (fun i => E i ∨ (i = k ∧ col u M 16 k = nI d)) (pSt (col u M) d k s) (pSt (col u M) d k s') := by
  have hb := bndN_of h.1
  have b2 : N 2 ≤ 4 := hb.2.2.1
  have b3 : N 3 ≤ 5 := hb.2.2.2.1
  have b5 : N 5 ≤ 3 := hb.2.2.2.2.2.1
  obtain ⟨g, t, p, e, hg, ht, hp, he, q1, q2, q3, q4, -⟩ := gift_at h hk
  obtain ⟨h1, h2, h3⟩ := hR
  unfold pSt
  by_cases c : col u M 16 k = nI d
  · rw [if_pos c, if_pos c]
    unfold pRun
    rw [q1, q2, q3]
    have e1 : pO (col u M) d s.1 s.2.2 g t p = pO (col u M) d s'.1 s'.2.2 g t p := by
      unfold pO
      rw [s_hind_congr h1 (by omega) (by omega), s_nr_congr h1, h2]
    rw [e1]
    refine ⟨s_stl_congr h1 (by omega), rfl, fun i hi => ?_⟩
    show upd s.2.1 k _ i = upd s'.2.1 k _ i
    rw [upd_at, upd_at]
    by_cases ci : i = k
    · rw [if_pos ci, if_pos ci]
    · rw [if_neg ci, if_neg ci]
      rcases hi with hi | hi
      · exact h3 i hi
      · exact absurd hi.1 ci
  · rw [if_neg c, if_neg c]
    refine ⟨h1, h2, fun i hi => ?_⟩
    rcases hi with hi | hi
    · exact h3 i hi
    · exact absurd hi.2 c
theorem lp_rel (h : relC u T M N) : ∀ (r i : Nat) (E : Nat → Prop) (s s' : pS), i + r ≤ N 7 → pR E s s' → pR (fun j => E j ∨ (i ≤ j ∧ j < i + r ∧ col u M 16 j = nI d)) (lp (pSt (col u M) d) r i s) (lp (pSt (col u M) d) r i s') := by
  intro r
  induction r with
  | zero =>
    intro i E s s' hi hR
    refine ⟨hR.1, hR.2.1, fun j hj => ?_⟩
    rcases hj with hj | hj
    · exact hR.2.2 j hj
    · omega
  | succ r ih =>
    intro i E s s' hi hR
    have := ih (i + 1) _ _ _ (by omega) (pSt_rel (d := d) h (show i < N 7 by omega) hR)
    refine ⟨this.1, this.2.1, fun j hj => this.2.2 j ?_⟩
    rcases hj with hj | ⟨h1, h2, h3⟩
    · exact Or.inl (Or.inl hj)
    · by_cases ci : j = i
      · subst ci
        exact Or.inl (Or.inr ⟨rfl, h3⟩)
      · exact Or.inr ⟨by omega, by omega, h3⟩
theorem days_rel (h : relC u T M N) : ∀ (r d : Nat) (E : Nat → Prop) (s s' : pS), pR E s s' → pR (fun j => E j ∨ (j < N 7 ∧ ∃ e, d ≤ e ∧ e < d + r ∧ col u M 16 j = nI e)) (lp (fun d s => pDay (col u M) (N 7) d s) r d s) (lp (fun d s => pDay (col u M) (N 7) d s) r d s') := by
  intro r
  induction r with
  | zero =>
    intro d E s s' hR
    refine ⟨hR.1, hR.2.1, fun j hj => ?_⟩
    rcases hj with hj | ⟨h1, e, h2, h3, h4⟩
    · exact hR.2.2 j hj
    · omega
  | succ r ih =>
    intro d E s s' hR
    have := ih (d + 1) _ _ _ (lp_rel (d := d) h (N 7) 0 E s s' (by omega) hR)
    refine ⟨this.1, this.2.1, fun j hj => this.2.2 j ?_⟩
    rcases hj with hj | ⟨h1, e, h2, h3, h4⟩
    · exact Or.inl (Or.inl hj)
    · by_cases ci : e = d
      · subst ci
        exact Or.inl (Or.inr ⟨by omega, by omega, h4⟩)
      · exact Or.inr ⟨h1, e, by omega, by omega, h4⟩
theorem plan_rel {r : Nat} {f f' o o' : Nat → Int32} {seed : Int32} (h : relC u T M N) : (∀ j, j < 16 → (pAll (col u M) (N 7) r f o seed).1 j = (pAll (col u M) (N 7) r f' o' seed).1 j) ∧ (pAll (col u M) (N 7) r f o seed).2.2 = (pAll (col u M) (N 7) r f' o' seed).2.2 ∧ (∀ k, k < N 7 → kI (col u M) 16 k < r → (pAll (col u M) (N 7) r f o seed).2.1 k = (pAll (col u M) (N 7) r f' o' seed).2.1 k) := by
  have h0 : pR (fun _ => False) (rowZ f, o, seed) (rowZ f', o', seed) := by
    refine ⟨fun j hj => ?_, rfl, fun k hk => absurd hk id⟩
    show rowZ f j = rowZ f' j
    unfold rowZ
    rw [if_pos hj, if_pos hj]
  have := days_rel h r 0 _ _ _ h0
  refine ⟨this.1, this.2.1, fun k hk hr => this.2.2 k (Or.inr ⟨hk, kI (col u M) 16 k, by omega, by omega, ?_⟩)⟩
  obtain ⟨g, t, p, e, hg, ht, hp, he, q1, q2, q3, q4, z1, z2, z3, z4, -⟩ := gift_at h hk
  rw [q4]
  exact z4
theorem days_H (h : relC u T M N) : ∀ (r d : Nat) (s : pS), rowH N s.1 → rowH N (lp (fun d s => pDay (col u M) (N 7) d s) r d s).1 := by
  intro r
  induction r with
  | zero => intro d s hH; exact hH
  | succ r ih =>
    intro d s hH
    exact ih (d + 1) _ (lp_H h _ _ _ (by omega) hH)
theorem plan_H {r : Nat} {f o : Nat → Int32} {seed : Int32} (h : relC u T M N) : rowH N (pAll (col u M) (N 7) r f o seed).1 := days_H h _ _ _ rowZ_H
end PLM
