def exe (K : cK) (d i : Nat) (o : Nat → Int32) (k : Nat) : Bool := (decide (kI K 16 k < d) || (decide (kI K 16 k = d) && decide (k < i))) && decide (o k = 0)
section DRX
variable {T D m M : Nat} {c3 c4 : sF} {u : mU} {v : mV} {N : Nat → Nat} {s s' : pS} {k d : Nat} {K : cK}
theorem lp_fst : ∀ (r i : Nat) (x : pS × Nat), (lp (dSt K d) r i x).1 = lp (pSt K d) r i x.1 := by
  intro r
  induction r with
  | zero => intro i x; simp -implicitDefEqProofs only [lp]
  | succ r ih =>
    intro i x
    simp -implicitDefEqProofs only [lp]
    rw [ih]
    rfl
theorem dSt_cnt (h : relC u T M N) (hd7 : d < 7) {i : Nat} {x : pS × Nat} (hi : i < N 7) (hx : x.2 = cN (exe (col u M) d i x.1.2.1) (N 7)) : (dSt (col u M) d i x).2 = cN (exe (col u M) d (i + 1) (dSt (col u M) d i x).1.2.1) (N 7) := by
  have hb := bndN_of h.1
  have b0 : N 0 ≤ 7 := hb.1
  obtain ⟨g, t, p, e, hg, ht, hp, he, q1, q2, q3, q4, z1, z2, z3, z4, -⟩ := gift_at h hi
  have hz : col u M 16 i = nI e := z4
  unfold dSt
  show x.2 + _ = _
  by_cases c2 : col u M 16 i = nI d
  · have hp1 : pSt (col u M) d i x.1 = pRun (col u M) d i x.1 := by unfold pSt; rw [if_pos c2]
    rw [hp1]
    have hed : kI (col u M) 16 i = d := by
      rw [q4]
      rw [hz] at c2
      exact (nI_eq (by omega) (by omega)).mp c2
    have hout : (pRun (col u M) d i x.1).2.1 = upd x.1.2.1 i (pO (col u M) d x.1.1 x.1.2.2 (kI (col u M) 13 i) (kI (col u M) 14 i) (kI (col u M) 15 i)).1 := rfl
    have hdr : isDr (col u M) d i x.1 = decide ((pO (col u M) d x.1.1 x.1.2.2 (kI (col u M) 13 i) (kI (col u M) 14 i) (kI (col u M) 15 i)).1 = 0) := by
      unfold isDr
      rw [decide_eq_true c2, Bool.true_and]
    rw [hdr, hout]
    generalize (pO (col u M) d x.1.1 x.1.2.2 (kI (col u M) 13 i) (kI (col u M) 14 i) (kI (col u M) 15 i)).1 = o
    have h0 : exe (col u M) d i x.1.2.1 i = false := by
      unfold exe
      rw [hed]
      simp
    have h1 : exe (col u M) d (i + 1) (upd x.1.2.1 i o) i = decide (o = 0) := by
      unfold exe
      rw [hed, upd_at, if_pos rfl]
      simp
    rw [cN_upd (p := exe (col u M) d i x.1.2.1) (k0 := i) h0 (N 7) hi, h1, hx]
    intro k hk hne
    unfold exe
    have : (decide (k < i + 1)) = decide (k < i) := by
      apply decide_eq_decide.mpr
      omega
    rw [this, upd_at, if_neg hne]
  · have hp1 : pSt (col u M) d i x.1 = x.1 := by unfold pSt; rw [if_neg c2]
    have hdr : isDr (col u M) d i x.1 = false := by
      unfold isDr
      simp [c2]
    rw [hp1, hdr, hx, if_neg (by decide), Nat.add_zero]
    apply cN_same
    intro k hk
    unfold exe
    by_cases ck : k = i
    · subst ck
      have : ¬ kI (col u M) 16 k = d := by
        intro z
        rw [q4] at z
        subst z
        exact c2 hz
      simp [this]
    · have : (decide (k < i + 1)) = decide (k < i) := by
        apply decide_eq_decide.mpr
        omega
      rw [this]
theorem lp_cnt (h : relC u T M N) (hd7 : d < 7) : ∀ (r i : Nat) (x : pS × Nat), i + r = N 7 → x.2 = cN (exe (col u M) d i x.1.2.1) (N 7) → (lp (dSt (col u M) d) r i x).2 = cN (exe (col u M) d (N 7) (lp (dSt (col u M) d) r i x).1.2.1) (N 7) := by
  intro r
  induction r with
  | zero =>
    intro i x hi hx
    simp -implicitDefEqProofs only [lp]
    rw [hx, show i = N 7 by omega]
  | succ r ih =>
    intro i x hi hx
    simp -implicitDefEqProofs only [lp]
    exact ih (i + 1) _ (by omega) (dSt_cnt h hd7 (by omega) hx)
def dDay (K : cK) (n d : Nat) (x : pS × Nat) : pS × Nat := lp (dSt K d) n 0 x
theorem days_fst {n : Nat} : ∀ (r d : Nat) (x : pS × Nat), (lp (fun d x => dDay K n d x) r d x).1 = lp (fun d s => pDay K n d s) r d x.1 := by
  intro r
  induction r with
  | zero => intro d x; simp -implicitDefEqProofs only [lp]
  | succ r ih =>
    intro d x
    simp -implicitDefEqProofs only [lp]
    rw [ih]
    unfold dDay pDay
    rw [lp_fst]
theorem days_cnt (h : relC u T M N) : ∀ (r d : Nat) (x : pS × Nat), d + r ≤ 7 → x.2 = cN (exe (col u M) d 0 x.1.2.1) (N 7) → (lp (fun d x => dDay (col u M) (N 7) d x) r d x).2 = cN (exe (col u M) (d + r) 0 (lp (fun d x => dDay (col u M) (N 7) d x) r d x).1.2.1) (N 7) := by
  intro r
  induction r with
  | zero =>
    intro d x hd hx
    simp -implicitDefEqProofs only [lp]
    exact hx
  | succ r ih =>
    intro d x hd hx
    simp -implicitDefEqProofs only [lp]
    rw [show d + (r + 1) = d + 1 + r by omega]
    apply ih (d + 1) _ (by omega)
    have := lp_cnt h (show d < 7 by omega) (N 7) 0 x (by omega) hx
    unfold dDay
    rw [this]
    apply cN_same
    intro k hk
    unfold exe
    have e1 : decide (k < N 7) = true := decide_eq_true hk
    have e2 : decide (k < 0) = false := decide_eq_false (by omega)
    have e3 : (decide (kI (col u M) 16 k < d) || decide (kI (col u M) 16 k = d)) = decide (kI (col u M) 16 k < d + 1) := by
      rw [← Bool.decide_or]
      apply decide_eq_decide.mpr
      omega
    rw [e1, e2, Bool.and_true, Bool.and_false, Bool.or_false, e3]
theorem ref_ddays (ho : okTD T D) (hMs : mSh (SH T D (fR M) c4 m) M) (hM : 88 ≤ M) (h : relC u T M N) : ∀ (r d f c : Nat) (s : pS), d + r = N 0 → r < f → rowH N s.1 → sdOk s.2.2 → L_X12_draws_31 f 75 (nI c) (nI d) (Rep (SH T D (fR M) c4 m) (plD u s) v) = some (nI (lp (fun d x => dDay (col u M) (N 7) d x) r d (s, c)).2, Rep (SH T D (fR M) c4 m) (plD u (lp (fun d x => dDay (col u M) (N 7) d x) r d (s, c)).1) v) := by
  have b7 : N 7 ≤ 12 := (bndN_of h.1).2.2.2.2.2.2.2.1
  have b0 : N 0 ≤ 7 := (bndN_of h.1).1
  intro r
  induction r with
  | zero =>
    intro d f c s hi hf hH hs
    obtain ⟨f, rfl⟩ : ∃ f', f = f' + 1 := ⟨f - 1, by omega⟩
    have c0 : nI (N 0) ≤ nI d := nI_le (by omega) (by omega)
    have e0 := ((plD_relC (s := s) ho hM h).1 0 (by decide)).2.1
    simp -implicitDefEqProofs only [L_X12_draws_31, gC_0, gR_0_0, gR_0_1, gR_0_2, gR_0_3, gR_0_4, gR_0_5, gR_0_6, gI_0_7, gR_0_8, gC_1, gR_1_0, gI_1_1, gR_1_2, gR_1_3, gR_1_4, gI_1_5, gI_1_6, gI_1_7, gI_1_8, gI_1_9, gL_1_10, gI_1_11, gI_1_12, gI_1_13, gI_1_14, gC_27, gR_27_0, gC_30, gR_30_0, gR_30_1, gI_30_2, gI_30_3, gI_30_4, gC_35, gR_35_0, gR_35_1, gI_35_2, gC_36, gR_36_0, gC_41, gR_41_0, gI_41_1, gI_41_2, gC_44, gR_44_0, gR_44_1, gI_44_2, gI_44_3, gC_49, gR_49_0, gR_49_1, gI_49_2, gI_49_3, gC_75, gI_75_0, gI_75_1, gI_75_2, gR_75_5, gI_75_6, gI_75_7, gI_75_8, gI_75_9, gI_75_10, gI_75_11, gI_75_12, gI_75_13, gL_75_14, gR_75_15, gR_75_16, gR_75_17, gR_75_18, gI_75_19, gI_75_20, gR_75_21, gR_75_22, gR_75_23, gI_75_24, gR_75_25, gI_75_26, gL_75_27, gL_75_28, gR_75_29, gR_75_30, gI_75_31, gR_75_3, gQ_75_3, gN_75_3, gR_75_4, gQ_75_4, gN_75_4, pI_0_7, pI_1_1, pI_1_5, pI_1_6, pI_1_7, pI_1_8, pI_1_9, pL_1_10, pI_1_11, pI_1_12, pI_1_13, pI_1_14, pI_30_2, pI_30_3, pI_30_4, pI_35_2, pI_41_1, pZ0_41_1, pZ1_41_1, pI_41_2, pI_44_2, pZ0_44_2, pZ1_44_2, pI_44_3, pI_49_2, pI_49_3, pI_75_0, pI_75_1, pI_75_2, pI_75_6, pI_75_7, pI_75_8, pI_75_9, pI_75_10, pI_75_11, pI_75_12, pI_75_13, pL_75_14, pI_75_19, pI_75_20, pI_75_24, pI_75_26, pL_75_27, pL_75_28, pI_75_31, Option.bind_some, q_b2_some, q_zr_0, q_zr_1, x10_fine, x10_refused, x12_good, x12_refused, mC, mI_0, mI_1, mI_2, mI_3, mI_4, mI_5, mI_6, mI_7, mI_8, mI_9, mI_10, mR_11, mR_12, mR_13, mR_14, mR_15, mR_16, mR_17, mR_18, mR_19, mR_20, mR_21, mR_22, mR_23, mR_24, mR_25, mR_26, mR_27, mR_28, mR_29, mR_30, mR_31, mR_32, mR_33, mR_34, ma_1, ma_2, ma_3, ma_4, ma_5, ma_6, ma_7, ma_8, ma_9, ma_10, ma_11, ma_12, ma_13, ma_14, ma_15, ma_16, ma_17, ma_18, ma_19, ma_20, ma_21, ma_22, ma_23, ma_24, hMs, e0, c0, if_true, lp]
  | succ r ih =>
    intro d f c s hi hf hH hs
    obtain ⟨f, rfl⟩ : ∃ f', f = f' + 1 := ⟨f - 1, by omega⟩
    have c0 : ¬ nI (N 0) ≤ nI d := nI_ge (by omega) (by omega)
    have e0 := ((plD_relC (s := s) ho hM h).1 0 (by decide)).2.1
    have e1 := fun kk => ref_dday (T := T) (D := D) (c4 := c4) (m := m) (v := v) (kk := kk) ho hMs hM h (show d < 7 by omega) (N 7) 0 1000000000 c s (by omega) (by omega) hH hs
    rw [nI_0] at e1
    have hH2 : rowH N (lp (dSt (col u M) d) (N 7) 0 (s, c)).1.1 := by
      rw [lp_fst]
      exact lp_H h _ _ _ (by omega) hH
    have hs2 : sdOk (lp (dSt (col u M) d) (N 7) 0 (s, c)).1.2.2 := by
      rw [lp_fst]
      have : ∀ (r i : Nat) (s : pS), sdOk s.2.2 → sdOk (lp (pSt (col u M) d) r i s).2.2 := by
        intro r
        induction r with
        | zero => intro i s h; exact h
        | succ r ih => intro i s h; exact ih (i + 1) _ (pSt_sd h)
      exact this _ _ _ hs
    unfold L_X12_draws_31
    rw [gR_75_3, Option.bind_some, mI_0 hMs, Option.bind_some, e0, if_neg c0, e1, nI_1]
    exact ih (d + 1) f _ _ (by omega) (by omega) hH2 hs2
theorem wr_id {r i : Nat} {x : Int32} (h : u r i = x) : wr u r i x = u := by
  funext q j
  unfold wr
  split
  · rename_i hz
    rw [hz.1, hz.2, h]
  · rfl
theorem ref_dr8 {kk : Nat → Int32 → qS → Option (Int32 × qS)} {x : Int32} (hz : ∀ j, j < 3 → u 78 (12 + j) = 0) : ∀ (r i f : Nat), i + r = 3 → r < f → L_X12_draws_8 kk f 75 x (nI i) (Rep (SH T D c3 c4 m) u v) = kk 75 x (Rep (SH T D c3 c4 m) u v) := by
  intro r
  induction r with
  | zero =>
    intro i f hi hf
    obtain ⟨f, rfl⟩ : ∃ f', f = f' + 1 := ⟨f - 1, by omega⟩
    have c0 : (3 : Int32) ≤ nI i := nI_le (a := 3) (by omega) (by omega)
    simp -implicitDefEqProofs only [L_X12_draws_8, c0, if_true]
  | succ r ih =>
    intro i f hi hf
    obtain ⟨f, rfl⟩ : ∃ f', f = f' + 1 := ⟨f - 1, by omega⟩
    have c0 : ¬ (3 : Int32) ≤ nI i := nI_ge (b := 3) (by omega) (by omega)
    have h1 : 12 + i < 16 := by omega
    simp -implicitDefEqProofs only [L_X12_draws_8, c0, if_false, gC_0, gR_0_0, gR_0_1, gR_0_2, gR_0_3, gR_0_4, gR_0_5, gR_0_6, gI_0_7, gR_0_8, gC_1, gR_1_0, gI_1_1, gR_1_2, gR_1_3, gR_1_4, gI_1_5, gI_1_6, gI_1_7, gI_1_8, gI_1_9, gL_1_10, gI_1_11, gI_1_12, gI_1_13, gI_1_14, gC_27, gR_27_0, gC_30, gR_30_0, gR_30_1, gI_30_2, gI_30_3, gI_30_4, gC_35, gR_35_0, gR_35_1, gI_35_2, gC_36, gR_36_0, gC_41, gR_41_0, gI_41_1, gI_41_2, gC_44, gR_44_0, gR_44_1, gI_44_2, gI_44_3, gC_49, gR_49_0, gR_49_1, gI_49_2, gI_49_3, gC_75, gI_75_0, gI_75_1, gI_75_2, gR_75_5, gI_75_6, gI_75_7, gI_75_8, gI_75_9, gI_75_10, gI_75_11, gI_75_12, gI_75_13, gL_75_14, gR_75_15, gR_75_16, gR_75_17, gR_75_18, gI_75_19, gI_75_20, gR_75_21, gR_75_22, gR_75_23, gI_75_24, gR_75_25, gI_75_26, gL_75_27, gL_75_28, gR_75_29, gR_75_30, gI_75_31, gR_75_3, gQ_75_3, gN_75_3, gR_75_4, gQ_75_4, gN_75_4, pI_0_7, pI_1_1, pI_1_5, pI_1_6, pI_1_7, pI_1_8, pI_1_9, pL_1_10, pI_1_11, pI_1_12, pI_1_13, pI_1_14, pI_30_2, pI_30_3, pI_30_4, pI_35_2, pI_41_1, pZ0_41_1, pZ1_41_1, pI_41_2, pI_44_2, pZ0_44_2, pZ1_44_2, pI_44_3, pI_49_2, pI_49_3, pI_75_0, pI_75_1, pI_75_2, pI_75_6, pI_75_7, pI_75_8, pI_75_9, pI_75_10, pI_75_11, pI_75_12, pI_75_13, pL_75_14, pI_75_19, pI_75_20, pI_75_24, pI_75_26, pL_75_27, pL_75_28, pI_75_31, Option.bind_some, q_b2_some, q_zr_0, q_zr_1, x10_fine, x10_refused, x12_good, x12_refused, aB_2, an_2, aB_76, an_76, aI_77, aI_78, aI_79, aI_80, aI_81, aI_82, aI_83, aI_84, aI_85, aI_86, sB_2, sB_76, sI_77, sI_78, sI_79, sI_80, sI_81, sI_82, sI_83, sI_84, sI_85, sI_86, n12, h1, nI_1, wr_id (hz i (by omega))]
    exact ih (i + 1) f (by omega) (by omega)
/-- one run by draws of the model -/
theorem ref_draws {seed : Int32} (ho : okTD T D) (hMs : mSh (SH T D (fR M) c4 m) M) (hM : 88 ≤ M) (h : relC u T M N) (hs : u 75 31 = seed) (hsd : sdOk seed) (O : Nat → Int32) : f_X12_draws (Rep (SH T D (fR M) c4 m) u v) 75 = some (nI (cN (fun k => decide ((pAll (col u M) (N 7) (N 0) (u 78) O seed).2.1 k = 0)) (N 7)), Rep (SH T D (fR M) c4 m) (plD u (pAll (col u M) (N 7) (N 0) (u 78) O seed)) v) := by
  have b0 : N 0 ≤ 7 := (bndN_of h.1).1
  have e0 : put u 78 (rowZ (u 78)) = plD u (rowZ (u 78), O, seed) := by
    unfold plD
    rw [wr_id]
    rw [put_ne (by decide), hs]
  have e1 := ref_ddays (v := v) ho hMs hM h (N 0) 0 1000000000 0 (rowZ (u 78), O, seed) (by omega) (by omega) rowZ_H hsd
  have e2 := fun kk => ref_dr8 (T := T) (D := D) (c3 := fR M) (c4 := c4) (m := m) (v := v) (kk := kk) (x := 0) (u := plD u (rowZ (u 78), O, seed)) (fun j hj => by
    rw [plD_78]
    show rowZ (u 78) (12 + j) = 0
    unfold rowZ
    rw [if_pos (by omega), if_neg (by omega)]) 3 0 1000000000 (by omega) (by omega)
  rw [nI_0] at e1 e2
  have e3 : (lp (fun d x => dDay (col u M) (N 7) d x) (N 0) 0 ((rowZ (u 78), O, seed), 0)).1 = pAll (col u M) (N 7) (N 0) (u 78) O seed := by
    rw [days_fst]
    rfl
  have e4 := days_cnt h (N 0) 0 ((rowZ (u 78), O, seed), 0) (by omega) (by
    show 0 = _
    have : ∀ n, cN (exe (col u M) 0 0 O) n = 0 := by
      intro n
      induction n with
      | zero => rfl
      | succ n ih =>
        unfold cN
        rw [ih]
        unfold exe
        simp
    exact (this _).symm)
  rw [e3, Nat.zero_add] at e4
  rw [e3, e4] at e1
  unfold f_X12_draws
  rw [gC_75, Option.bind_some, ref_starts, Option.bind_some, e0, e2, e1]
  refine congrArg (fun x => some (nI x, _)) ?_
  apply cN_same
  intro k hk
  obtain ⟨g, t, p, e, hg, ht, hp, he, q1, q2, q3, q4, -⟩ := gift_at h hk
  unfold exe
  rw [decide_eq_true (show kI (col u M) 16 k < N 0 by omega), Bool.true_or, Bool.true_and]
end DRX
