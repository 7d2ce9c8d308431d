/-! ===== draws ===== -/
/-- how many below n are so -/
def cN (p : Nat → Bool) : Nat → Nat
  | 0 => 0
  | n + 1 => cN p n + (if p n = true then 1 else 0)
theorem cN_same {p p' : Nat → Bool} : ∀ n, (∀ k, k < n → p k = p' k) → cN p n = cN p' n := by
  intro n
  induction n with
  | zero => intro _; rfl
  | succ n ih =>
    intro h
    unfold cN
    rw [ih (fun k hk => h k (by omega)), h n (by omega)]
theorem cN_upd {p p' : Nat → Bool} {k0 : Nat} (h0 : p k0 = false) : ∀ n, k0 < n → (∀ k, k < n → k ≠ k0 → p' k = p k) → cN p' n = cN p n + (if p' k0 = true then 1 else 0) := by
  intro n
  induction n with
  | zero => intro h; omega
  | succ n ih =>
    intro h hs
    unfold cN
    by_cases c : k0 = n
    · subst c
      rw [cN_same k0 (fun k hk => hs k (by omega) (by omega)), h0]
      simp
    · rw [ih (by omega) (fun k hk hne => hs k (by omega) hne), hs n (by omega) (by omega)]
      omega
theorem cN_le {p : Nat → Bool} : ∀ n, cN p n ≤ n := by
  intro n
  induction n with
  | zero => exact Nat.le_refl _
  | succ n ih =>
    unfold cN
    split <;> omega
def sdOk (x : Int32) : Prop := ∃ n : Nat, n ≤ 65536 ∧ x = nI n
theorem lcg_at {n : Nat} (h : n ≤ 65536) : lcg (nI n) = nI ((75 * n + 74) % 65537) := by
  unfold lcg
  rw [show (75 : Int32) * nI n + 74 = nI (75 * n + 74) by rw [show (75 : Int32) = nI 75 from rfl, nI_mul, show (74 : Int32) = nI 74 from rfl, nI_add], show (65537 : Int32) = nI 65537 from rfl, pk_rem (by omega) (by decide) (by decide)]
theorem lcg_ok {x : Int32} (h : sdOk x) : sdOk (lcg x) := by
  obtain ⟨n, hn, rfl⟩ := h
  exact ⟨(75 * n + 74) % 65537, by omega, lcg_at hn⟩
theorem lcg_l {x : Int32} (h : sdOk x) : (((75 * x.toInt64) + 74) - ((75 * x.toInt64) + 74) / 65537 * 65537).toInt32 = lcg x := by
  obtain ⟨n, hn, rfl⟩ := h
  rw [lcg_at hn, nI_l (by omega), show (75 : Int64) * lN n + 74 = lN (75 * n + 74) by rw [show (75 : Int64) = lN 75 from rfl, lN_mul, show (74 : Int64) = lN 74 from rfl, lN_add], show (65537 : Int64) = lN 65537 from rfl, pk_lRem (by omega) (by decide) (by decide), lN_i]
theorem sd_ne {x : Int32} (h : sdOk x) : ¬ x = -1 := by
  obtain ⟨n, hn, rfl⟩ := h
  intro z
  exact absurd (show nI n < 0 by rw [z]; decide) (nI_pos (by omega))
def plD (u : mU) (s : pS) : mU := wr (put u 78 s.1) 75 31 s.2.2
def isDr (K : cK) (d k : Nat) (s : pS) : Bool := decide (K 16 k = nI d) && decide ((pO K d s.1 s.2.2 (kI K 13 k) (kI K 14 k) (kI K 15 k)).1 = 0)
def dSt (K : cK) (d k : Nat) (x : pS × Nat) : pS × Nat := (pSt K d k x.1, x.2 + (if isDr K d k x.1 = true then 1 else 0))
section DRW
variable {T D m M : Nat} {c3 c4 : sF} {u : mU} {v : mV} {N : Nat → Nat} {s s' : pS} {k d : Nat} {K : cK}
theorem pSt_sd (h : sdOk s.2.2) : sdOk (pSt K d k s).2.2 := by
  unfold pSt
  split
  · unfold pRun pO
    show sdOk (Prod.snd (ite _ _ _))
    split
    · rw [if_neg (sd_ne h)]
      exact lcg_ok h
    · exact h
  · exact h
theorem plD_78 : plD u s 78 = s.1 := by unfold plD; rw [wr_off (by decide), put_at]
theorem plD_s : plD u s 75 31 = s.2.2 := wr_same _ _ _ _
theorem plD_q {q : Nat} (h1 : q ≠ 78) (h2 : q ≠ 75) : plD u s q = u q := by unfold plD; rw [wr_off h2, put_ne h1]
theorem plD_relC (ho : okTD T D) (hM : 88 ≤ M) (h : relC u T M N) : relC (plD u s) T M N := by
  have hT : T = 54 ∨ T = 3 := by rcases ho with ⟨rfl, rfl⟩ | ⟨rfl, rfl⟩ <;> simp
  exact relC_congr (fun i hi => plD_q (by omega) (by omega)) (fun i => plD_q (by omega) (by omega)) h
theorem plD_col (hM : 88 ≤ M) : col (plD u s) M = col u M := funext fun i => plD_q (by omega) (by omega)
theorem plD_row {R O : Nat → Int32} : put (plD u s) 78 R = plD u (R, O, s.2.2) := by
  unfold plD
  funext q j
  by_cases h1 : q = 78
  · subst h1
    rw [put_at, wr_role (by decide), put_at]
  · rw [put_ne h1]
    unfold wr
    rw [put_ne h1, put_ne h1]
theorem plD_seed {x : Int32} {O : Nat → Int32} : wr (plD u s) 75 31 x = plD u (s.1, O, x) := by
  funext q j
  unfold plD wr
  by_cases h : q = 75 ∧ j = 31
  · rw [if_pos h, if_pos h]
  · rw [if_neg h, if_neg h, if_neg h]
theorem plD_ghost {O O' : Nat → Int32} {R : Nat → Int32} {x : Int32} : plD u (R, O, x) = plD u (R, O', x) := rfl
theorem plD_plD {s2 : pS} : plD (plD u s) s2 = plD u s2 := by
  funext q j
  unfold plD
  by_cases h : q = 75 ∧ j = 31
  · rw [h.1, h.2, wr_same, wr_same]
  · unfold wr
    rw [if_neg h, if_neg h]
    by_cases h1 : q = 78
    · subst h1; rw [put_at, put_at]
    · rw [put_ne h1, put_ne h1, if_neg h, put_ne h1]
theorem plU_plU {s2 : pS} : plU (plU u s) s2 = plU u s2 := by
  funext q j
  unfold plU
  by_cases h : q = 35 ∧ j = 2
  · rw [h.1, h.2, wr_same, wr_same]
  · unfold wr
    rw [if_neg h, if_neg h]
    by_cases h1 : q = 38
    · subst h1; rw [put_at, put_at]
    · rw [put_ne h1, put_ne h1]
      by_cases h2 : q = 40
      · subst h2; rw [put_at, put_at]
      · rw [put_ne h2, put_ne h2, if_neg h, put_ne h1, put_ne h2]
theorem tog_tr {g p : Nat} (h : relC u T M N) (hg : g < N 5) (hp : p < N 3) (hd : d < 7) (hs : ¬ s_tog (col u M) g p d = -2) : s_tog (col u M) g p d = nI (s_tr (col u M) g p d) ∧ s_tr (col u M) g p d < N 4 := by
  have hR : N 4 ≤ 4 := (bndN_of h.1).2.2.2.2.1
  obtain ⟨e1, o1⟩ := shared_eq h.1 h.2.2.2.2.2.1 h.2.2.2.2.2.2.1 hg hp hd
  rcases o1 with z | ⟨tr, htr, z⟩
  · exact absurd z hs
  · have hz : s_tog (col u M) g p d = nI tr := z
    have e3 : s_tr (col u M) g p d = tr := by
      unfold s_tr
      rw [hz, nI_clamp (by omega)]
    rw [e3]
    exact ⟨hz, htr⟩
theorem hind_vals {f : Nat → Int32} {g t p : Nat} (c : ¬ s_hind K f g t p d = 0) : ¬ s_hind K f g t p d = 1 := by
  unfold s_hind at *
  split
  · decide
  · split
    · split
      · simp_all
      · decide
    · decide
theorem ref_dday {kk : Nat → Int32 → Int32 → qS → Option (Int32 × qS)} (ho : okTD T D) (hMs : mSh (SH T D (fR M) c4 m) M) (hM : 88 ≤ M) (h : relC u T M N) (hd : d < 7) : ∀ (r i f c : Nat) (s : pS), i + r = N 7 → r < f → rowH N s.1 → sdOk s.2.2 → L_X12_draws_44 kk f 75 (nI c) (nI d) (nI i) (Rep (SH T D (fR M) c4 m) (plD u s) v) = kk 75 (nI (lp (dSt (col u M) d) r i (s, c)).2) (nI d) (Rep (SH T D (fR M) c4 m) (plD u (lp (dSt (col u M) d) r i (s, c)).1) v) := by
  have hb := bndN_of h.1
  have b7 : N 7 ≤ 12 := hb.2.2.2.2.2.2.2.1
  have b2 : N 2 ≤ 4 := hb.2.2.1
  have b3 : N 3 ≤ 5 := hb.2.2.2.1
  have b4 : N 4 ≤ 4 := hb.2.2.2.2.1
  have b5 : N 5 ≤ 3 := hb.2.2.2.2.2.1
  have b0 : N 0 ≤ 7 := hb.1
  intro r
  induction r with
  | zero =>
    intro i f c s hi hf hH hs
    obtain ⟨f, rfl⟩ : ∃ f', f = f' + 1 := ⟨f - 1, by omega⟩
    have c0 : nI (N 7) ≤ nI i := nI_le (by omega) (by omega)
    have e7 := ((plD_relC (s := s) ho hM h).1 7 (by decide)).2.1
    simp -implicitDefEqProofs only [L_X12_draws_44, gC_0, gR_0_0, gR_0_1, gR_0_2, gR_0_3, gR_0_4, gR_0_5, gR_0_6, gI_0_7, gR_0_8, gC_1, gR_1_0, gI_1_1, gR_1_2, gR_1_3, gR_1_4, gI_1_5, gI_1_6, gI_1_7, gI_1_8, gI_1_9, gL_1_10, gI_1_11, gI_1_12, gI_1_13, gI_1_14, gC_27, gR_27_0, gC_30, gR_30_0, gR_30_1, gI_30_2, gI_30_3, gI_30_4, gC_35, gR_35_0, gR_35_1, gI_35_2, gC_36, gR_36_0, gC_41, gR_41_0, gI_41_1, gI_41_2, gC_44, gR_44_0, gR_44_1, gI_44_2, gI_44_3, gC_49, gR_49_0, gR_49_1, gI_49_2, gI_49_3, gC_75, gI_75_0, gI_75_1, gI_75_2, gR_75_5, gI_75_6, gI_75_7, gI_75_8, gI_75_9, gI_75_10, gI_75_11, gI_75_12, gI_75_13, gL_75_14, gR_75_15, gR_75_16, gR_75_17, gR_75_18, gI_75_19, gI_75_20, gR_75_21, gR_75_22, gR_75_23, gI_75_24, gR_75_25, gI_75_26, gL_75_27, gL_75_28, gR_75_29, gR_75_30, gI_75_31, gR_75_3, gQ_75_3, gN_75_3, gR_75_4, gQ_75_4, gN_75_4, pI_0_7, pI_1_1, pI_1_5, pI_1_6, pI_1_7, pI_1_8, pI_1_9, pL_1_10, pI_1_11, pI_1_12, pI_1_13, pI_1_14, pI_30_2, pI_30_3, pI_30_4, pI_35_2, pI_41_1, pZ0_41_1, pZ1_41_1, pI_41_2, pI_44_2, pZ0_44_2, pZ1_44_2, pI_44_3, pI_49_2, pI_49_3, pI_75_0, pI_75_1, pI_75_2, pI_75_6, pI_75_7, pI_75_8, pI_75_9, pI_75_10, pI_75_11, pI_75_12, pI_75_13, pL_75_14, pI_75_19, pI_75_20, pI_75_24, pI_75_26, pL_75_27, pL_75_28, pI_75_31, Option.bind_some, q_b2_some, q_zr_0, q_zr_1, x10_fine, x10_refused, x12_good, x12_refused, mC, mI_0, mI_1, mI_2, mI_3, mI_4, mI_5, mI_6, mI_7, mI_8, mI_9, mI_10, mR_11, mR_12, mR_13, mR_14, mR_15, mR_16, mR_17, mR_18, mR_19, mR_20, mR_21, mR_22, mR_23, mR_24, mR_25, mR_26, mR_27, mR_28, mR_29, mR_30, mR_31, mR_32, mR_33, mR_34, ma_1, ma_2, ma_3, ma_4, ma_5, ma_6, ma_7, ma_8, ma_9, ma_10, ma_11, ma_12, ma_13, ma_14, ma_15, ma_16, ma_17, ma_18, ma_19, ma_20, ma_21, ma_22, ma_23, ma_24, hMs, e7, c0, if_true, lp]
  | succ r ih =>
    intro i f c s hi hf hH hs
    obtain ⟨f, rfl⟩ : ∃ f', f = f' + 1 := ⟨f - 1, by omega⟩
    have c0 : ¬ nI (N 7) ≤ nI i := nI_ge (by omega) (by omega)
    have i12 : i < 12 := by omega
    have hw := plD_relC (s := s) ho hM h
    have e7 := (hw.1 7 (by decide)).2.1
    obtain ⟨g, t, p, e, hg, ht, hp, he, q1, q2, q3, q4, z1, z2, z3, z4, -⟩ := gift_at hw (show i < N 7 by omega)
    have hcol := plD_col (u := u) (s := s) hM
    rw [hcol] at q1 q2 q3 q4
    have hz : col u M 16 i = nI e := by rw [← hcol]; exact z4
    have hst : lp (dSt (col u M) d) (r + 1) i (s, c) = lp (dSt (col u M) d) r (i + 1) (pSt (col u M) d i s, c + (if isDr (col u M) d i s = true then 1 else 0)) := rfl
    rw [hst]
    have nxt := fun c' => ih (i + 1) f c' (pSt (col u M) d i s) (by omega) (by omega) (pSt_H h (by omega) hH) (pSt_sd hs)
    by_cases c2 : nI e = nI d
    · have hpst : pSt (col u M) d i s = pRun (col u M) d i s := by
        unfold pSt
        rw [hz, if_pos c2]
      have hH' : rowH N (plD u s 78) := by rw [plD_78]; exact hH
      have a1 := mod_hind (u := plD u s) (v := v) (b := 78) hMs wS_78 (show g < 3 by omega) (show t < 4 by omega) (show p < 5 by omega) hd
      rw [show m_hind (plD u s) M 78 g t p d = s_hind (col (plD u s) M) (plD u s 78) g t p d from rfl, hcol, plD_78] at a1
      by_cases c3 : s_hind (col u M) s.1 g t p d = 0
      · have hs2 : ¬ s_tog (col u M) g p d = -2 := by
          intro z
          unfold s_hind at c3
          rw [if_pos z] at c3
          exact absurd c3 (by decide)
        have hsd := sd_ne hs
        have hpo : pO (col u M) d s.1 s.2.2 g t p = (if s_nr (col u M) s.1 g t p d ≤ lcg s.2.2 - lcg s.2.2 / 100 * 100 then 0 else 1, lcg s.2.2) := by
          unfold pO
          rw [if_pos c3, if_neg hsd]
        obtain ⟨ft1, ft2⟩ := tog_tr h hg hp hd hs2
        have w1 : plD u (s.1, s.2.1, lcg s.2.2) 78 = s.1 := plD_78
        have hcol1 := plD_col (u := u) (s := (s.1, s.2.1, lcg s.2.2)) hM
        have a2 := mod_tog (u := plD u (s.1, s.2.1, lcg s.2.2)) (v := v) hMs (show g < 3 by omega) (show p < 5 by omega) hd
        rw [m_tog_s, hcol1, ft1] at a2
        have a3 := mod_nearIn (u := plD u (s.1, s.2.1, lcg s.2.2)) (v := v) (b := 78) hMs wS_78 (show g < 3 by omega) (show t < 4 by omega) (show p < 5 by omega) (show s_tr (col u M) g p d < 4 by omega)
        rw [m_near_s, hcol1, w1, show s_near (col u M) g t p (s_tr (col u M) g p d) (cntOf s.1 (nI p)) = s_nr (col u M) s.1 g t p d from rfl] at a3
        have dd : ∀ o : Int32, f_X12_does (Rep (SH T D (fR M) c4 m) (plD u (s.1, s.2.1, lcg s.2.2)) v) 75 78 o (nI g) (nI t) (nI p) = some (Rep (SH T D (fR M) c4 m) (plD u (s_stl (col u M) s.1 g t p o, upd s.2.1 i o, lcg s.2.2)) v) := by
          intro o
          have a4 := mod_does (u := plD u (s.1, s.2.1, lcg s.2.2)) (v := v) (p := nI p) (o := o) hMs wS_78 (show M + 1 ≠ 78 by omega) (show g < 3 by omega) (show t < 4 by omega)
          rw [show m_honour (plD u (s.1, s.2.1, lcg s.2.2)) M t = s_hon (col (plD u (s.1, s.2.1, lcg s.2.2)) M) t from rfl, hcol1, stl_s, w1] at a4
          rw [a4]
          exact congrArg (fun x => some (Rep (SH T D (fR M) c4 m) x v)) plD_row
        have hlg := lcg_l hs
        have hse : ∀ x, wr (plD u s) 75 31 x = plD u (s.1, s.2.1, x) := fun x => plD_seed
        by_cases c4' : s_nr (col u M) s.1 g t p d ≤ lcg s.2.2 - lcg s.2.2 / 100 * 100
        · have hr1 : pRun (col u M) d i s = (s_stl (col u M) s.1 g t p 0, upd s.2.1 i 0, lcg s.2.2) := by
            unfold pRun
            rw [q1, q2, q3, hpo, if_pos c4']
          have hdr : isDr (col u M) d i s = true := by
            unfold isDr
            rw [hz, q1, q2, q3, hpo, if_pos c4', c2]
            simp
          have nx := nxt (c + 1)
          rw [hpst, hr1] at nx
          simp -implicitDefEqProofs only [L_X12_draws_44, J_X12_draws_188, gC_0, gR_0_0, gR_0_1, gR_0_2, gR_0_3, gR_0_4, gR_0_5, gR_0_6, gI_0_7, gR_0_8, gC_1, gR_1_0, gI_1_1, gR_1_2, gR_1_3, gR_1_4, gI_1_5, gI_1_6, gI_1_7, gI_1_8, gI_1_9, gL_1_10, gI_1_11, gI_1_12, gI_1_13, gI_1_14, gC_27, gR_27_0, gC_30, gR_30_0, gR_30_1, gI_30_2, gI_30_3, gI_30_4, gC_35, gR_35_0, gR_35_1, gI_35_2, gC_36, gR_36_0, gC_41, gR_41_0, gI_41_1, gI_41_2, gC_44, gR_44_0, gR_44_1, gI_44_2, gI_44_3, gC_49, gR_49_0, gR_49_1, gI_49_2, gI_49_3, gC_75, gI_75_0, gI_75_1, gI_75_2, gR_75_5, gI_75_6, gI_75_7, gI_75_8, gI_75_9, gI_75_10, gI_75_11, gI_75_12, gI_75_13, gL_75_14, gR_75_15, gR_75_16, gR_75_17, gR_75_18, gI_75_19, gI_75_20, gR_75_21, gR_75_22, gR_75_23, gI_75_24, gR_75_25, gI_75_26, gL_75_27, gL_75_28, gR_75_29, gR_75_30, gI_75_31, gR_75_3, gQ_75_3, gN_75_3, gR_75_4, gQ_75_4, gN_75_4, pI_0_7, pI_1_1, pI_1_5, pI_1_6, pI_1_7, pI_1_8, pI_1_9, pL_1_10, pI_1_11, pI_1_12, pI_1_13, pI_1_14, pI_30_2, pI_30_3, pI_30_4, pI_35_2, pI_41_1, pZ0_41_1, pZ1_41_1, pI_41_2, pI_44_2, pZ0_44_2, pZ1_44_2, pI_44_3, pI_49_2, pI_49_3, pI_75_0, pI_75_1, pI_75_2, pI_75_6, pI_75_7, pI_75_8, pI_75_9, pI_75_10, pI_75_11, pI_75_12, pI_75_13, pL_75_14, pI_75_19, pI_75_20, pI_75_24, pI_75_26, pL_75_27, pL_75_28, pI_75_31, Option.bind_some, q_b2_some, q_zr_0, q_zr_1, x10_fine, x10_refused, x12_good, x12_refused, aB_2, an_2, aB_76, an_76, aI_77, aI_78, aI_79, aI_80, aI_81, aI_82, aI_83, aI_84, aI_85, aI_86, sB_2, sB_76, sI_77, sI_78, sI_79, sI_80, sI_81, sI_82, sI_83, sI_84, sI_85, sI_86, mC, mI_0, mI_1, mI_2, mI_3, mI_4, mI_5, mI_6, mI_7, mI_8, mI_9, mI_10, mR_11, mR_12, mR_13, mR_14, mR_15, mR_16, mR_17, mR_18, mR_19, mR_20, mR_21, mR_22, mR_23, mR_24, mR_25, mR_26, mR_27, mR_28, mR_29, mR_30, mR_31, mR_32, mR_33, mR_34, ma_1, ma_2, ma_3, ma_4, ma_5, ma_6, ma_7, ma_8, ma_9, ma_10, ma_11, ma_12, ma_13, ma_14, ma_15, ma_16, ma_17, ma_18, ma_19, ma_20, ma_21, ma_22, ma_23, ma_24, hMs, e7, c0, if_false, i12, z4, c2, if_true, z1, z2, z3, a1, c3, plD_s, show ((65537 : Int64) = 0) = False from by decide, show ((100 : Int32) = 0) = False from by decide, hlg, hse, a2, a3, c4', dd, nI_1]
          rw [nx, hdr, if_pos rfl, hpst, hr1]
        · have hr1 : pRun (col u M) d i s = (s_stl (col u M) s.1 g t p 1, upd s.2.1 i 1, lcg s.2.2) := by
            unfold pRun
            rw [q1, q2, q3, hpo, if_neg c4']
          have hdr : isDr (col u M) d i s = false := by
            unfold isDr
            rw [hz, q1, q2, q3, hpo, if_neg c4', c2]
            simp
          have nx := nxt c
          rw [hpst, hr1] at nx
          simp -implicitDefEqProofs only [L_X12_draws_44, J_X12_draws_188, gC_0, gR_0_0, gR_0_1, gR_0_2, gR_0_3, gR_0_4, gR_0_5, gR_0_6, gI_0_7, gR_0_8, gC_1, gR_1_0, gI_1_1, gR_1_2, gR_1_3, gR_1_4, gI_1_5, gI_1_6, gI_1_7, gI_1_8, gI_1_9, gL_1_10, gI_1_11, gI_1_12, gI_1_13, gI_1_14, gC_27, gR_27_0, gC_30, gR_30_0, gR_30_1, gI_30_2, gI_30_3, gI_30_4, gC_35, gR_35_0, gR_35_1, gI_35_2, gC_36, gR_36_0, gC_41, gR_41_0, gI_41_1, gI_41_2, gC_44, gR_44_0, gR_44_1, gI_44_2, gI_44_3, gC_49, gR_49_0, gR_49_1, gI_49_2, gI_49_3, gC_75, gI_75_0, gI_75_1, gI_75_2, gR_75_5, gI_75_6, gI_75_7, gI_75_8, gI_75_9, gI_75_10, gI_75_11, gI_75_12, gI_75_13, gL_75_14, gR_75_15, gR_75_16, gR_75_17, gR_75_18, gI_75_19, gI_75_20, gR_75_21, gR_75_22, gR_75_23, gI_75_24, gR_75_25, gI_75_26, gL_75_27, gL_75_28, gR_75_29, gR_75_30, gI_75_31, gR_75_3, gQ_75_3, gN_75_3, gR_75_4, gQ_75_4, gN_75_4, pI_0_7, pI_1_1, pI_1_5, pI_1_6, pI_1_7, pI_1_8, pI_1_9, pL_1_10, pI_1_11, pI_1_12, pI_1_13, pI_1_14, pI_30_2, pI_30_3, pI_30_4, pI_35_2, pI_41_1, pZ0_41_1, pZ1_41_1, pI_41_2, pI_44_2, pZ0_44_2, pZ1_44_2, pI_44_3, pI_49_2, pI_49_3, pI_75_0, pI_75_1, pI_75_2, pI_75_6, pI_75_7, pI_75_8, pI_75_9, pI_75_10, pI_75_11, pI_75_12, pI_75_13, pL_75_14, pI_75_19, pI_75_20, pI_75_24, pI_75_26, pL_75_27, pL_75_28, pI_75_31, Option.bind_some, q_b2_some, q_zr_0, q_zr_1, x10_fine, x10_refused, x12_good, x12_refused, aB_2, an_2, aB_76, an_76, aI_77, aI_78, aI_79, aI_80, aI_81, aI_82, aI_83, aI_84, aI_85, aI_86, sB_2, sB_76, sI_77, sI_78, sI_79, sI_80, sI_81, sI_82, sI_83, sI_84, sI_85, sI_86, mC, mI_0, mI_1, mI_2, mI_3, mI_4, mI_5, mI_6, mI_7, mI_8, mI_9, mI_10, mR_11, mR_12, mR_13, mR_14, mR_15, mR_16, mR_17, mR_18, mR_19, mR_20, mR_21, mR_22, mR_23, mR_24, mR_25, mR_26, mR_27, mR_28, mR_29, mR_30, mR_31, mR_32, mR_33, mR_34, ma_1, ma_2, ma_3, ma_4, ma_5, ma_6, ma_7, ma_8, ma_9, ma_10, ma_11, ma_12, ma_13, ma_14, ma_15, ma_16, ma_17, ma_18, ma_19, ma_20, ma_21, ma_22, ma_23, ma_24, hMs, e7, c0, if_false, i12, z4, c2, if_true, z1, z2, z3, a1, c3, plD_s, show ((65537 : Int64) = 0) = False from by decide, show ((100 : Int32) = 0) = False from by decide, hlg, hse, a2, a3, c4', dd, nI_1, ne10, Int32.add_zero]
          have hif : c + (if isDr (col u M) d i s = true then 1 else 0) = c := by rw [hdr, if_neg (by decide), Nat.add_zero]
          rw [nx, hif, hpst, hr1]
      · have hpo : pO (col u M) d s.1 s.2.2 g t p = (s_hind (col u M) s.1 g t p d, s.2.2) := by
          unfold pO
          rw [if_neg c3]
        have c5 := hind_vals c3
        have hr1 : pRun (col u M) d i s = (s.1, upd s.2.1 i (s_hind (col u M) s.1 g t p d), s.2.2) := by
          unfold pRun
          rw [q1, q2, q3, hpo]
          unfold s_stl
          rw [if_neg c3, if_neg c5]
        have hdr : isDr (col u M) d i s = false := by
          unfold isDr
          rw [q1, q2, q3, hpo]
          simp [c3]
        have nx := nxt c
        rw [hpst, hr1] at nx
        simp -implicitDefEqProofs only [L_X12_draws_44, gC_0, gR_0_0, gR_0_1, gR_0_2, gR_0_3, gR_0_4, gR_0_5, gR_0_6, gI_0_7, gR_0_8, gC_1, gR_1_0, gI_1_1, gR_1_2, gR_1_3, gR_1_4, gI_1_5, gI_1_6, gI_1_7, gI_1_8, gI_1_9, gL_1_10, gI_1_11, gI_1_12, gI_1_13, gI_1_14, gC_27, gR_27_0, gC_30, gR_30_0, gR_30_1, gI_30_2, gI_30_3, gI_30_4, gC_35, gR_35_0, gR_35_1, gI_35_2, gC_36, gR_36_0, gC_41, gR_41_0, gI_41_1, gI_41_2, gC_44, gR_44_0, gR_44_1, gI_44_2, gI_44_3, gC_49, gR_49_0, gR_49_1, gI_49_2, gI_49_3, gC_75, gI_75_0, gI_75_1, gI_75_2, gR_75_5, gI_75_6, gI_75_7, gI_75_8, gI_75_9, gI_75_10, gI_75_11, gI_75_12, gI_75_13, gL_75_14, gR_75_15, gR_75_16, gR_75_17, gR_75_18, gI_75_19, gI_75_20, gR_75_21, gR_75_22, gR_75_23, gI_75_24, gR_75_25, gI_75_26, gL_75_27, gL_75_28, gR_75_29, gR_75_30, gI_75_31, gR_75_3, gQ_75_3, gN_75_3, gR_75_4, gQ_75_4, gN_75_4, pI_0_7, pI_1_1, pI_1_5, pI_1_6, pI_1_7, pI_1_8, pI_1_9, pL_1_10, pI_1_11, pI_1_12, pI_1_13, pI_1_14, pI_30_2, pI_30_3, pI_30_4, pI_35_2, pI_41_1, pZ0_41_1, pZ1_41_1, pI_41_2, pI_44_2, pZ0_44_2, pZ1_44_2, pI_44_3, pI_49_2, pI_49_3, pI_75_0, pI_75_1, pI_75_2, pI_75_6, pI_75_7, pI_75_8, pI_75_9, pI_75_10, pI_75_11, pI_75_12, pI_75_13, pL_75_14, pI_75_19, pI_75_20, pI_75_24, pI_75_26, pL_75_27, pL_75_28, pI_75_31, Option.bind_some, q_b2_some, q_zr_0, q_zr_1, x10_fine, x10_refused, x12_good, x12_refused, aB_2, an_2, aB_76, an_76, aI_77, aI_78, aI_79, aI_80, aI_81, aI_82, aI_83, aI_84, aI_85, aI_86, sB_2, sB_76, sI_77, sI_78, sI_79, sI_80, sI_81, sI_82, sI_83, sI_84, sI_85, sI_86, mC, mI_0, mI_1, mI_2, mI_3, mI_4, mI_5, mI_6, mI_7, mI_8, mI_9, mI_10, mR_11, mR_12, mR_13, mR_14, mR_15, mR_16, mR_17, mR_18, mR_19, mR_20, mR_21, mR_22, mR_23, mR_24, mR_25, mR_26, mR_27, mR_28, mR_29, mR_30, mR_31, mR_32, mR_33, mR_34, ma_1, ma_2, ma_3, ma_4, ma_5, ma_6, ma_7, ma_8, ma_9, ma_10, ma_11, ma_12, ma_13, ma_14, ma_15, ma_16, ma_17, ma_18, ma_19, ma_20, ma_21, ma_22, ma_23, ma_24, hMs, e7, c0, if_false, i12, z4, c2, if_true, z1, z2, z3, a1, c3, nI_1]
        have hif : c + (if isDr (col u M) d i s = true then 1 else 0) = c := by rw [hdr, if_neg (by decide), Nat.add_zero]
        rw [hif, hpst, hr1, ← nx]
        rfl
    · have hpst : pSt (col u M) d i s = s := by
        unfold pSt
        rw [hz, if_neg c2]
      have hdr : isDr (col u M) d i s = false := by
        unfold isDr
        rw [hz]
        simp [c2]
      have nx := nxt c
      rw [hpst] at nx
      simp -implicitDefEqProofs only [L_X12_draws_44, gC_0, gR_0_0, gR_0_1, gR_0_2, gR_0_3, gR_0_4, gR_0_5, gR_0_6, gI_0_7, gR_0_8, gC_1, gR_1_0, gI_1_1, gR_1_2, gR_1_3, gR_1_4, gI_1_5, gI_1_6, gI_1_7, gI_1_8, gI_1_9, gL_1_10, gI_1_11, gI_1_12, gI_1_13, gI_1_14, gC_27, gR_27_0, gC_30, gR_30_0, gR_30_1, gI_30_2, gI_30_3, gI_30_4, gC_35, gR_35_0, gR_35_1, gI_35_2, gC_36, gR_36_0, gC_41, gR_41_0, gI_41_1, gI_41_2, gC_44, gR_44_0, gR_44_1, gI_44_2, gI_44_3, gC_49, gR_49_0, gR_49_1, gI_49_2, gI_49_3, gC_75, gI_75_0, gI_75_1, gI_75_2, gR_75_5, gI_75_6, gI_75_7, gI_75_8, gI_75_9, gI_75_10, gI_75_11, gI_75_12, gI_75_13, gL_75_14, gR_75_15, gR_75_16, gR_75_17, gR_75_18, gI_75_19, gI_75_20, gR_75_21, gR_75_22, gR_75_23, gI_75_24, gR_75_25, gI_75_26, gL_75_27, gL_75_28, gR_75_29, gR_75_30, gI_75_31, gR_75_3, gQ_75_3, gN_75_3, gR_75_4, gQ_75_4, gN_75_4, pI_0_7, pI_1_1, pI_1_5, pI_1_6, pI_1_7, pI_1_8, pI_1_9, pL_1_10, pI_1_11, pI_1_12, pI_1_13, pI_1_14, pI_30_2, pI_30_3, pI_30_4, pI_35_2, pI_41_1, pZ0_41_1, pZ1_41_1, pI_41_2, pI_44_2, pZ0_44_2, pZ1_44_2, pI_44_3, pI_49_2, pI_49_3, pI_75_0, pI_75_1, pI_75_2, pI_75_6, pI_75_7, pI_75_8, pI_75_9, pI_75_10, pI_75_11, pI_75_12, pI_75_13, pL_75_14, pI_75_19, pI_75_20, pI_75_24, pI_75_26, pL_75_27, pL_75_28, pI_75_31, Option.bind_some, q_b2_some, q_zr_0, q_zr_1, x10_fine, x10_refused, x12_good, x12_refused, aB_2, an_2, aB_76, an_76, aI_77, aI_78, aI_79, aI_80, aI_81, aI_82, aI_83, aI_84, aI_85, aI_86, sB_2, sB_76, sI_77, sI_78, sI_79, sI_80, sI_81, sI_82, sI_83, sI_84, sI_85, sI_86, mC, mI_0, mI_1, mI_2, mI_3, mI_4, mI_5, mI_6, mI_7, mI_8, mI_9, mI_10, mR_11, mR_12, mR_13, mR_14, mR_15, mR_16, mR_17, mR_18, mR_19, mR_20, mR_21, mR_22, mR_23, mR_24, mR_25, mR_26, mR_27, mR_28, mR_29, mR_30, mR_31, mR_32, mR_33, mR_34, ma_1, ma_2, ma_3, ma_4, ma_5, ma_6, ma_7, ma_8, ma_9, ma_10, ma_11, ma_12, ma_13, ma_14, ma_15, ma_16, ma_17, ma_18, ma_19, ma_20, ma_21, ma_22, ma_23, ma_24, hMs, e7, c0, if_false, i12, z4, c2, nI_1]
      have hif : c + (if isDr (col u M) d i s = true then 1 else 0) = c := by rw [hdr, if_neg (by decide), Nat.add_zero]
      rw [nx, hif, hpst]
end DRW
