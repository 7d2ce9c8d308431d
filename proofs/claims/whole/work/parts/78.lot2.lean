section LTC
variable {T D m M : Nat} {c3 c4 : sF} {u : mU} {v : mV} {N : Nat → Nat}
/-- the ranked trams' places -/
def rkF (f : Nat → Int32) (r : Nat → Nat) (k : Nat) : Prop := ∀ j, j < k → f j = nI (r j)
theorem put_M {a : Nat} {f : Nat → Int32} (hM : 88 ≤ M) (ha : a < 88) (i : Nat) : put u a f (M + i) = u (M + i) := put_ne (by omega)
theorem ref_rank15 {kk : Nat → Int32 → Int32 → qS → Option qS} {k : Nat} {r : Nat → Nat} {w : Nat → Nat} (hMs : mSh (SH T D (fR M) c4 m) M) (hM : 88 ≤ M) (hw : ∀ i, i < k + 1 → u (M + 10) i = nI (w i) ∧ w i ≤ 60) (hk : k < 4) (hr : ∀ j, j < k → r j < k) : ∀ (a f : Nat) (g : Nat → Int32), a ≤ k → a < f → (∀ j, j < a → g j = nI (r j)) → (∀ j, a ≤ j → j < k → g (j + 1) = nI (r j)) → (∀ j, a ≤ j → j < k → w (r j) < w k) → ∃ b g', b ≤ k ∧ (b = 0 ∨ w k ≤ w (r (b - 1))) ∧ (∀ j, b ≤ j → j < k → w (r j) < w k) ∧ (∀ j, j < b → g' j = nI (r j)) ∧ (∀ j, b ≤ j → j < k → g' (j + 1) = nI (r j)) ∧ L_X12_ranks_15 kk f 75 (nI k) (nI a) (Rep (SH T D (fR M) c4 m) (put u 84 g) v) = kk 75 (nI k) (nI b) (Rep (SH T D (fR M) c4 m) (put u 84 g') v) := by
  intro a
  induction a with
  | zero =>
    intro f g ha hf h1 h2 h3
    obtain ⟨f, rfl⟩ : ∃ f', f = f' + 1 := ⟨f - 1, by omega⟩
    refine ⟨0, g, by omega, Or.inl rfl, h3, h1, h2, ?_⟩
    have c0 : nI 0 ≤ (0 : Int32) := by decide
    rw [L_X12_ranks_15, if_pos c0]
  | succ a ih =>
    intro f g ha hf h1 h2 h3
    obtain ⟨f, rfl⟩ : ∃ f', f = f' + 1 := ⟨f - 1, by omega⟩
    have c0 : ¬ nI (a + 1) ≤ 0 := nI_nle (by omega) (by omega)
    have e1 : put u 84 g 84 a = nI (r a) := by rw [put_at, h1 a (by omega)]
    have hra := hr a (by omega)
    obtain ⟨w1, w1'⟩ := hw (r a) (by omega)
    obtain ⟨w2, w2'⟩ := hw k (by omega)
    have e2 : put u 84 g (M + 10) (r a) = nI (w (r a)) := by rw [put_M hM (by decide), w1]
    have e3 : put u 84 g (M + 10) k = nI (w k) := by rw [put_M hM (by decide), w2]
    have a4 : a < 4 := by omega
    have ra4 : r a < 4 := by omega
    have a14 : a + 1 < 4 := by omega
    have p1 : (nI (w k) ≤ nI (w (r a))) = (w k ≤ w (r a)) := propext (nI_leI (by omega) (by omega))
    by_cases c1 : w k ≤ w (r a)
    · refine ⟨a + 1, g, ha, Or.inr c1, h3, h1, h2, ?_⟩
      simp -implicitDefEqProofs only [L_X12_ranks_15, c0, if_false, gC_0, gR_0_0, gR_0_1, gR_0_2, gR_0_3, gR_0_4, gR_0_5, gR_0_6, gI_0_7, gR_0_8, gC_1, gR_1_0, gI_1_1, gR_1_2, gR_1_3, gR_1_4, gI_1_5, gI_1_6, gI_1_7, gI_1_8, gI_1_9, gL_1_10, gI_1_11, gI_1_12, gI_1_13, gI_1_14, gC_27, gR_27_0, gC_30, gR_30_0, gR_30_1, gI_30_2, gI_30_3, gI_30_4, gC_35, gR_35_0, gR_35_1, gI_35_2, gC_36, gR_36_0, gC_41, gR_41_0, gI_41_1, gI_41_2, gC_44, gR_44_0, gR_44_1, gI_44_2, gI_44_3, gC_49, gR_49_0, gR_49_1, gI_49_2, gI_49_3, gC_75, gI_75_0, gI_75_1, gI_75_2, gR_75_5, gI_75_6, gI_75_7, gI_75_8, gI_75_9, gI_75_10, gI_75_11, gI_75_12, gI_75_13, gL_75_14, gR_75_15, gR_75_16, gR_75_17, gR_75_18, gI_75_19, gI_75_20, gR_75_21, gR_75_22, gR_75_23, gI_75_24, gR_75_25, gI_75_26, gL_75_27, gL_75_28, gR_75_29, gR_75_30, gI_75_31, gR_75_3, gQ_75_3, gN_75_3, gR_75_4, gQ_75_4, gN_75_4, pI_0_7, pI_1_1, pI_1_5, pI_1_6, pI_1_7, pI_1_8, pI_1_9, pL_1_10, pI_1_11, pI_1_12, pI_1_13, pI_1_14, pI_30_2, pI_30_3, pI_30_4, pI_35_2, pI_41_1, pZ0_41_1, pZ1_41_1, pI_41_2, pI_44_2, pZ0_44_2, pZ1_44_2, pI_44_3, pI_49_2, pI_49_3, pI_75_0, pI_75_1, pI_75_2, pI_75_6, pI_75_7, pI_75_8, pI_75_9, pI_75_10, pI_75_11, pI_75_12, pI_75_13, pL_75_14, pI_75_19, pI_75_20, pI_75_24, pI_75_26, pL_75_27, pL_75_28, pI_75_31, Option.bind_some, q_b2_some, q_zr_0, q_zr_1, x10_fine, x10_refused, x12_good, x12_refused, aB_2, an_2, aB_76, an_76, aI_77, aI_78, aI_79, aI_80, aI_81, aI_82, aI_83, aI_84, aI_85, aI_86, sB_2, sB_76, sI_77, sI_78, sI_79, sI_80, sI_81, sI_82, sI_83, sI_84, sI_85, sI_86, mC, mI_0, mI_1, mI_2, mI_3, mI_4, mI_5, mI_6, mI_7, mI_8, mI_9, mI_10, mR_11, mR_12, mR_13, mR_14, mR_15, mR_16, mR_17, mR_18, mR_19, mR_20, mR_21, mR_22, mR_23, mR_24, mR_25, mR_26, mR_27, mR_28, mR_29, mR_30, mR_31, mR_32, mR_33, mR_34, ma_1, ma_2, ma_3, ma_4, ma_5, ma_6, ma_7, ma_8, ma_9, ma_10, ma_11, ma_12, ma_13, ma_14, ma_15, ma_16, ma_17, ma_18, ma_19, ma_20, ma_21, ma_22, ma_23, ma_24, hMs, nI_pred, a4, e1, ra4, e2, hk, e3, p1, c1, if_true]
    · have e4 : wr (put u 84 g) 84 (a + 1) (nI (r a)) = put u 84 (upd g (a + 1) (nI (r a))) := by rw [wr_put, put_at, put_put]
      obtain ⟨b, g', q1, q2, q3, q4, q5, q6⟩ := ih f (upd g (a + 1) (nI (r a))) (by omega) (by omega) (fun j hj => by rw [upd_at, if_neg (by omega)]; exact h1 j (by omega)) (fun j hj1 hj2 => by
        rw [upd_at]
        by_cases cj : j = a
        · rw [if_pos (by omega), cj]
        · rw [if_neg (by omega)]
          exact h2 j (by omega) hj2) (fun j hj1 hj2 => by
        by_cases cj : j = a
        · rw [cj]; omega
        · exact h3 j (by omega) hj2)
      refine ⟨b, g', q1, q2, q3, q4, q5, ?_⟩
      simp -implicitDefEqProofs only [L_X12_ranks_15, c0, if_false, gC_0, gR_0_0, gR_0_1, gR_0_2, gR_0_3, gR_0_4, gR_0_5, gR_0_6, gI_0_7, gR_0_8, gC_1, gR_1_0, gI_1_1, gR_1_2, gR_1_3, gR_1_4, gI_1_5, gI_1_6, gI_1_7, gI_1_8, gI_1_9, gL_1_10, gI_1_11, gI_1_12, gI_1_13, gI_1_14, gC_27, gR_27_0, gC_30, gR_30_0, gR_30_1, gI_30_2, gI_30_3, gI_30_4, gC_35, gR_35_0, gR_35_1, gI_35_2, gC_36, gR_36_0, gC_41, gR_41_0, gI_41_1, gI_41_2, gC_44, gR_44_0, gR_44_1, gI_44_2, gI_44_3, gC_49, gR_49_0, gR_49_1, gI_49_2, gI_49_3, gC_75, gI_75_0, gI_75_1, gI_75_2, gR_75_5, gI_75_6, gI_75_7, gI_75_8, gI_75_9, gI_75_10, gI_75_11, gI_75_12, gI_75_13, gL_75_14, gR_75_15, gR_75_16, gR_75_17, gR_75_18, gI_75_19, gI_75_20, gR_75_21, gR_75_22, gR_75_23, gI_75_24, gR_75_25, gI_75_26, gL_75_27, gL_75_28, gR_75_29, gR_75_30, gI_75_31, gR_75_3, gQ_75_3, gN_75_3, gR_75_4, gQ_75_4, gN_75_4, pI_0_7, pI_1_1, pI_1_5, pI_1_6, pI_1_7, pI_1_8, pI_1_9, pL_1_10, pI_1_11, pI_1_12, pI_1_13, pI_1_14, pI_30_2, pI_30_3, pI_30_4, pI_35_2, pI_41_1, pZ0_41_1, pZ1_41_1, pI_41_2, pI_44_2, pZ0_44_2, pZ1_44_2, pI_44_3, pI_49_2, pI_49_3, pI_75_0, pI_75_1, pI_75_2, pI_75_6, pI_75_7, pI_75_8, pI_75_9, pI_75_10, pI_75_11, pI_75_12, pI_75_13, pL_75_14, pI_75_19, pI_75_20, pI_75_24, pI_75_26, pL_75_27, pL_75_28, pI_75_31, Option.bind_some, q_b2_some, q_zr_0, q_zr_1, x10_fine, x10_refused, x12_good, x12_refused, aB_2, an_2, aB_76, an_76, aI_77, aI_78, aI_79, aI_80, aI_81, aI_82, aI_83, aI_84, aI_85, aI_86, sB_2, sB_76, sI_77, sI_78, sI_79, sI_80, sI_81, sI_82, sI_83, sI_84, sI_85, sI_86, mC, mI_0, mI_1, mI_2, mI_3, mI_4, mI_5, mI_6, mI_7, mI_8, mI_9, mI_10, mR_11, mR_12, mR_13, mR_14, mR_15, mR_16, mR_17, mR_18, mR_19, mR_20, mR_21, mR_22, mR_23, mR_24, mR_25, mR_26, mR_27, mR_28, mR_29, mR_30, mR_31, mR_32, mR_33, mR_34, ma_1, ma_2, ma_3, ma_4, ma_5, ma_6, ma_7, ma_8, ma_9, ma_10, ma_11, ma_12, ma_13, ma_14, ma_15, ma_16, ma_17, ma_18, ma_19, ma_20, ma_21, ma_22, ma_23, ma_24, hMs, nI_pred, a4, e1, ra4, e2, hk, e3, p1, c1, a14, e4, pk_m1]
      exact q6
theorem ref_ranks2 (hMs : mSh (SH T D (fR M) c4 m) M) (hM : 88 ≤ M) (h : relC u T M N) : ∀ (d k f : Nat) (g : Nat → Int32) (r : Nat → Nat), k + d = N 4 → d < f → rkF g r k → Sd (wth (col u M)) r k → ∃ g' r', rkF g' r' (N 4) ∧ Sd (wth (col u M)) r' (N 4) ∧ L_X12_ranks_2 f 75 (nI k) (Rep (SH T D (fR M) c4 m) (put u 84 g) v) = some (Rep (SH T D (fR M) c4 m) (put u 84 g') v) := by
  have b4 : N 4 ≤ 4 := (bndN_of h.1).2.2.2.2.1
  have h4 := (h.1 4 (by decide)).2.1
  have h4' : ∀ g, put u 84 g M 4 = nI (N 4) := fun g => by rw [show put u 84 g M = u M from put_ne (by omega), h4]
  intro d
  induction d with
  | zero =>
    intro k f g r hk hf hg hr
    obtain ⟨f, rfl⟩ : ∃ f', f = f' + 1 := ⟨f - 1, by omega⟩
    have c0 : nI (N 4) ≤ nI k := nI_le (by omega) (by omega)
    have hkn : k = N 4 := by omega
    rw [hkn] at hg hr
    refine ⟨g, r, hg, hr, ?_⟩
    simp -implicitDefEqProofs only [L_X12_ranks_2, gC_0, gR_0_0, gR_0_1, gR_0_2, gR_0_3, gR_0_4, gR_0_5, gR_0_6, gI_0_7, gR_0_8, gC_1, gR_1_0, gI_1_1, gR_1_2, gR_1_3, gR_1_4, gI_1_5, gI_1_6, gI_1_7, gI_1_8, gI_1_9, gL_1_10, gI_1_11, gI_1_12, gI_1_13, gI_1_14, gC_27, gR_27_0, gC_30, gR_30_0, gR_30_1, gI_30_2, gI_30_3, gI_30_4, gC_35, gR_35_0, gR_35_1, gI_35_2, gC_36, gR_36_0, gC_41, gR_41_0, gI_41_1, gI_41_2, gC_44, gR_44_0, gR_44_1, gI_44_2, gI_44_3, gC_49, gR_49_0, gR_49_1, gI_49_2, gI_49_3, gC_75, gI_75_0, gI_75_1, gI_75_2, gR_75_5, gI_75_6, gI_75_7, gI_75_8, gI_75_9, gI_75_10, gI_75_11, gI_75_12, gI_75_13, gL_75_14, gR_75_15, gR_75_16, gR_75_17, gR_75_18, gI_75_19, gI_75_20, gR_75_21, gR_75_22, gR_75_23, gI_75_24, gR_75_25, gI_75_26, gL_75_27, gL_75_28, gR_75_29, gR_75_30, gI_75_31, gR_75_3, gQ_75_3, gN_75_3, gR_75_4, gQ_75_4, gN_75_4, pI_0_7, pI_1_1, pI_1_5, pI_1_6, pI_1_7, pI_1_8, pI_1_9, pL_1_10, pI_1_11, pI_1_12, pI_1_13, pI_1_14, pI_30_2, pI_30_3, pI_30_4, pI_35_2, pI_41_1, pZ0_41_1, pZ1_41_1, pI_41_2, pI_44_2, pZ0_44_2, pZ1_44_2, pI_44_3, pI_49_2, pI_49_3, pI_75_0, pI_75_1, pI_75_2, pI_75_6, pI_75_7, pI_75_8, pI_75_9, pI_75_10, pI_75_11, pI_75_12, pI_75_13, pL_75_14, pI_75_19, pI_75_20, pI_75_24, pI_75_26, pL_75_27, pL_75_28, pI_75_31, Option.bind_some, q_b2_some, q_zr_0, q_zr_1, x10_fine, x10_refused, x12_good, x12_refused, mC, mI_0, mI_1, mI_2, mI_3, mI_4, mI_5, mI_6, mI_7, mI_8, mI_9, mI_10, mR_11, mR_12, mR_13, mR_14, mR_15, mR_16, mR_17, mR_18, mR_19, mR_20, mR_21, mR_22, mR_23, mR_24, mR_25, mR_26, mR_27, mR_28, mR_29, mR_30, mR_31, mR_32, mR_33, mR_34, ma_1, ma_2, ma_3, ma_4, ma_5, ma_6, ma_7, ma_8, ma_9, ma_10, ma_11, ma_12, ma_13, ma_14, ma_15, ma_16, ma_17, ma_18, ma_19, ma_20, ma_21, ma_22, ma_23, ma_24, hMs, h4', c0, if_true]
  | succ d ih =>
    intro k f g r hk hf hg hr
    obtain ⟨f, rfl⟩ : ∃ f', f = f' + 1 := ⟨f - 1, by omega⟩
    have c0 : ¬ nI (N 4) ≤ nI k := nI_ge (by omega) (by omega)
    have hw : ∀ i, i < k + 1 → u (M + 10) i = nI (wth (col u M) i) ∧ wth (col u M) i ≤ 60 := fun i hi => by
      have := tram_at h (show i < N 4 by omega)
      exact ⟨this.2.1, this.2.2.2⟩
    obtain ⟨b, g', q1, q2, q3, q4, q5, q6⟩ := ref_rank15 (v := v) (kk := fun y3 y4 y5 g6 => (g_R g6 y3 11 25).bind fun v7 => (s_I g6 v7 y5 y4).bind fun g8 => L_X12_ranks_2 f y3 (y4 + 1) g8) hMs hM hw (show k < 4 by omega) hr.1 k 1000000000 g (by omega) (by omega) hg (fun j h1 h2 => absurd h2 (by omega)) (fun j h1 h2 => absurd h2 (by omega))
    have b4' : b < 4 := by omega
    have e4 : wr (put u 84 g') 84 b (nI k) = put u 84 (upd g' b (nI k)) := by rw [wr_put, put_at, put_put]
    have hgn : rkF (upd g' b (nI k)) (insF r b k) (k + 1) := by
      intro j hj
      rw [upd_at]
      unfold insF
      by_cases c1 : j = b
      · rw [if_pos c1, if_neg (by omega), if_pos c1]
      · rw [if_neg c1]
        by_cases c2 : j < b
        · rw [if_pos c2]
          exact q4 j c2
        · rw [if_neg c2, if_neg c1]
          have := q5 (j - 1) (by omega) (by omega)
          rw [show j - 1 + 1 = j by omega] at this
          exact this
    obtain ⟨g2, r2, p1, p2, p3⟩ := ih (k + 1) f (upd g' b (nI k)) (insF r b k) (by omega) (by omega) hgn (ins_ok hr q1 q2 q3)
    refine ⟨g2, r2, p1, p2, ?_⟩
    rw [L_X12_ranks_2, gR_75_3, Option.bind_some, mI_4 hMs, Option.bind_some, h4', if_neg c0, q6]
    simp -implicitDefEqProofs only [gC_0, gR_0_0, gR_0_1, gR_0_2, gR_0_3, gR_0_4, gR_0_5, gR_0_6, gI_0_7, gR_0_8, gC_1, gR_1_0, gI_1_1, gR_1_2, gR_1_3, gR_1_4, gI_1_5, gI_1_6, gI_1_7, gI_1_8, gI_1_9, gL_1_10, gI_1_11, gI_1_12, gI_1_13, gI_1_14, gC_27, gR_27_0, gC_30, gR_30_0, gR_30_1, gI_30_2, gI_30_3, gI_30_4, gC_35, gR_35_0, gR_35_1, gI_35_2, gC_36, gR_36_0, gC_41, gR_41_0, gI_41_1, gI_41_2, gC_44, gR_44_0, gR_44_1, gI_44_2, gI_44_3, gC_49, gR_49_0, gR_49_1, gI_49_2, gI_49_3, gC_75, gI_75_0, gI_75_1, gI_75_2, gR_75_5, gI_75_6, gI_75_7, gI_75_8, gI_75_9, gI_75_10, gI_75_11, gI_75_12, gI_75_13, gL_75_14, gR_75_15, gR_75_16, gR_75_17, gR_75_18, gI_75_19, gI_75_20, gR_75_21, gR_75_22, gR_75_23, gI_75_24, gR_75_25, gI_75_26, gL_75_27, gL_75_28, gR_75_29, gR_75_30, gI_75_31, gR_75_3, gQ_75_3, gN_75_3, gR_75_4, gQ_75_4, gN_75_4, pI_0_7, pI_1_1, pI_1_5, pI_1_6, pI_1_7, pI_1_8, pI_1_9, pL_1_10, pI_1_11, pI_1_12, pI_1_13, pI_1_14, pI_30_2, pI_30_3, pI_30_4, pI_35_2, pI_41_1, pZ0_41_1, pZ1_41_1, pI_41_2, pI_44_2, pZ0_44_2, pZ1_44_2, pI_44_3, pI_49_2, pI_49_3, pI_75_0, pI_75_1, pI_75_2, pI_75_6, pI_75_7, pI_75_8, pI_75_9, pI_75_10, pI_75_11, pI_75_12, pI_75_13, pL_75_14, pI_75_19, pI_75_20, pI_75_24, pI_75_26, pL_75_27, pL_75_28, pI_75_31, Option.bind_some, q_b2_some, q_zr_0, q_zr_1, x10_fine, x10_refused, x12_good, x12_refused, aB_2, an_2, aB_76, an_76, aI_77, aI_78, aI_79, aI_80, aI_81, aI_82, aI_83, aI_84, aI_85, aI_86, sB_2, sB_76, sI_77, sI_78, sI_79, sI_80, sI_81, sI_82, sI_83, sI_84, sI_85, sI_86, b4', e4, nI_1]
    exact p3
theorem ref_ranks (hMs : mSh (SH T D (fR M) c4 m) M) (hM : 88 ≤ M) (h : relC u T M N) : ∃ g' r', rkF g' r' (N 4) ∧ Sd (wth (col u M)) r' (N 4) ∧ f_X12_ranks (Rep (SH T D (fR M) c4 m) u v) 75 = some (Rep (SH T D (fR M) c4 m) (put u 84 g') v) := by
  have b4 : N 4 ≤ 4 := (bndN_of h.1).2.2.2.2.1
  obtain ⟨g', r', h1, h2, h3⟩ := ref_ranks2 (v := v) hMs hM h (N 4) 0 1000000000 (u 84) (fun _ => 0) (by omega) (by omega) (fun j hj => absurd hj (by omega)) ⟨fun j hj => absurd hj (by omega), fun j hj => absurd hj (by omega)⟩
  refine ⟨g', r', h1, h2, ?_⟩
  rw [put_self, nI_0] at h3
  unfold f_X12_ranks
  rw [gC_75, Option.bind_some, h3]
/-- what the model's lots need of its memory -/
def rkU (u : mU) (M n : Nat) (w r : Nat → Nat) : Prop := (∀ j, j < n → u 84 j = nI (r j) ∧ r j < n) ∧ ∀ i, i < n → u (M + 10) i = nI (w i) ∧ 1 ≤ w i ∧ w i ≤ 60
theorem ref_prod {w r : Nat → Nat} {n c : Nat} (hMs : mSh (SH T D (fR M) c4 m) M) (hn : n ≤ 4) (h : rkU u M n w r) (hc : c ≤ n) : f_X12_productOf (Rep (SH T D (fR M) c4 m) u v) 75 (nI c) = some (lN (prM w r c)) := by
  have go : ∀ (d k f : Nat), k + d = c → d < f → L_X12_productOf_5 (Rep (SH T D (fR M) c4 m) u v) f 75 (nI c) (lN (prM w r k)) (nI k) = some (lN (prM w r c)) := by
    intro d
    induction d with
    | zero =>
      intro k f hk hf
      obtain ⟨f, rfl⟩ : ∃ f', f = f' + 1 := ⟨f - 1, by omega⟩
      have c0 : nI c ≤ nI k := nI_le (by omega) (by omega)
      rw [L_X12_productOf_5, if_pos c0, show k = c by omega]
    | succ d ih =>
      intro k f hk hf
      obtain ⟨f, rfl⟩ : ∃ f', f = f' + 1 := ⟨f - 1, by omega⟩
      have c0 : ¬ nI c ≤ nI k := nI_ge (by omega) (by omega)
      obtain ⟨a1, a2⟩ := h.1 k (by omega)
      obtain ⟨b1, b2, b3⟩ := h.2 (r k) a2
      have k4 : k < 4 := by omega
      have r4 : r k < 4 := by omega
      have nx := ih (k + 1) f (by omega) (by omega)
      rw [show prM w r (k + 1) = prM w r k * w (r k) from rfl] at nx
      simp -implicitDefEqProofs only [L_X12_productOf_5, c0, if_false, gC_0, gR_0_0, gR_0_1, gR_0_2, gR_0_3, gR_0_4, gR_0_5, gR_0_6, gI_0_7, gR_0_8, gC_1, gR_1_0, gI_1_1, gR_1_2, gR_1_3, gR_1_4, gI_1_5, gI_1_6, gI_1_7, gI_1_8, gI_1_9, gL_1_10, gI_1_11, gI_1_12, gI_1_13, gI_1_14, gC_27, gR_27_0, gC_30, gR_30_0, gR_30_1, gI_30_2, gI_30_3, gI_30_4, gC_35, gR_35_0, gR_35_1, gI_35_2, gC_36, gR_36_0, gC_41, gR_41_0, gI_41_1, gI_41_2, gC_44, gR_44_0, gR_44_1, gI_44_2, gI_44_3, gC_49, gR_49_0, gR_49_1, gI_49_2, gI_49_3, gC_75, gI_75_0, gI_75_1, gI_75_2, gR_75_5, gI_75_6, gI_75_7, gI_75_8, gI_75_9, gI_75_10, gI_75_11, gI_75_12, gI_75_13, gL_75_14, gR_75_15, gR_75_16, gR_75_17, gR_75_18, gI_75_19, gI_75_20, gR_75_21, gR_75_22, gR_75_23, gI_75_24, gR_75_25, gI_75_26, gL_75_27, gL_75_28, gR_75_29, gR_75_30, gI_75_31, gR_75_3, gQ_75_3, gN_75_3, gR_75_4, gQ_75_4, gN_75_4, pI_0_7, pI_1_1, pI_1_5, pI_1_6, pI_1_7, pI_1_8, pI_1_9, pL_1_10, pI_1_11, pI_1_12, pI_1_13, pI_1_14, pI_30_2, pI_30_3, pI_30_4, pI_35_2, pI_41_1, pZ0_41_1, pZ1_41_1, pI_41_2, pI_44_2, pZ0_44_2, pZ1_44_2, pI_44_3, pI_49_2, pI_49_3, pI_75_0, pI_75_1, pI_75_2, pI_75_6, pI_75_7, pI_75_8, pI_75_9, pI_75_10, pI_75_11, pI_75_12, pI_75_13, pL_75_14, pI_75_19, pI_75_20, pI_75_24, pI_75_26, pL_75_27, pL_75_28, pI_75_31, Option.bind_some, q_b2_some, q_zr_0, q_zr_1, x10_fine, x10_refused, x12_good, x12_refused, aB_2, an_2, aB_76, an_76, aI_77, aI_78, aI_79, aI_80, aI_81, aI_82, aI_83, aI_84, aI_85, aI_86, sB_2, sB_76, sI_77, sI_78, sI_79, sI_80, sI_81, sI_82, sI_83, sI_84, sI_85, sI_86, mC, mI_0, mI_1, mI_2, mI_3, mI_4, mI_5, mI_6, mI_7, mI_8, mI_9, mI_10, mR_11, mR_12, mR_13, mR_14, mR_15, mR_16, mR_17, mR_18, mR_19, mR_20, mR_21, mR_22, mR_23, mR_24, mR_25, mR_26, mR_27, mR_28, mR_29, mR_30, mR_31, mR_32, mR_33, mR_34, ma_1, ma_2, ma_3, ma_4, ma_5, ma_6, ma_7, ma_8, ma_9, ma_10, ma_11, ma_12, ma_13, ma_14, ma_15, ma_16, ma_17, ma_18, ma_19, ma_20, ma_21, ma_22, ma_23, ma_24, hMs, k4, a1, r4, b1, nI_l (show w (r k) < 2 ^ 31 by omega), lN_mul, nI_1]
      exact nx
  have e := go c 0 1000000000 (by omega) (by omega)
  rw [nI_0] at e
  unfold f_X12_productOf
  rw [gC_75, Option.bind_some]
  exact e
theorem ref_sum {w r : Nat → Nat} {n c : Nat} (hMs : mSh (SH T D (fR M) c4 m) M) (hn : n ≤ 4) (h : rkU u M n w r) (hc : c ≤ n) (hP : prM w r c < 2 ^ 62) : f_X12_sumOf (Rep (SH T D (fR M) c4 m) u v) 75 (nI c) = some (lN (smM w r (prM w r c) c)) := by
  have go : ∀ (d k f : Nat), k + d = c → d < f → L_X12_sumOf_5 (Rep (SH T D (fR M) c4 m) u v) f 75 (nI c) (lN (smM w r (prM w r c) k)) (nI k) = some (lN (smM w r (prM w r c) c)) := by
    intro d
    induction d with
    | zero =>
      intro k f hk hf
      obtain ⟨f, rfl⟩ : ∃ f', f = f' + 1 := ⟨f - 1, by omega⟩
      have c0 : nI c ≤ nI k := nI_le (by omega) (by omega)
      rw [L_X12_sumOf_5, if_pos c0, show k = c by omega]
    | succ d ih =>
      intro k f hk hf
      obtain ⟨f, rfl⟩ : ∃ f', f = f' + 1 := ⟨f - 1, by omega⟩
      have c0 : ¬ nI c ≤ nI k := nI_ge (by omega) (by omega)
      obtain ⟨a1, a2⟩ := h.1 k (by omega)
      obtain ⟨b1, b2, b3⟩ := h.2 (r k) a2
      have k4 : k < 4 := by omega
      have r4 : r k < 4 := by omega
      have p3 : ¬ lN (w (r k)) = 0 := lN_ne0 (by omega) (by omega)
      have nx := ih (k + 1) f (by omega) (by omega)
      rw [show smM w r (prM w r c) (k + 1) = smM w r (prM w r c) k + prM w r c / w (r k) from rfl] at nx
      simp -implicitDefEqProofs only [L_X12_sumOf_5, c0, if_false, gC_0, gR_0_0, gR_0_1, gR_0_2, gR_0_3, gR_0_4, gR_0_5, gR_0_6, gI_0_7, gR_0_8, gC_1, gR_1_0, gI_1_1, gR_1_2, gR_1_3, gR_1_4, gI_1_5, gI_1_6, gI_1_7, gI_1_8, gI_1_9, gL_1_10, gI_1_11, gI_1_12, gI_1_13, gI_1_14, gC_27, gR_27_0, gC_30, gR_30_0, gR_30_1, gI_30_2, gI_30_3, gI_30_4, gC_35, gR_35_0, gR_35_1, gI_35_2, gC_36, gR_36_0, gC_41, gR_41_0, gI_41_1, gI_41_2, gC_44, gR_44_0, gR_44_1, gI_44_2, gI_44_3, gC_49, gR_49_0, gR_49_1, gI_49_2, gI_49_3, gC_75, gI_75_0, gI_75_1, gI_75_2, gR_75_5, gI_75_6, gI_75_7, gI_75_8, gI_75_9, gI_75_10, gI_75_11, gI_75_12, gI_75_13, gL_75_14, gR_75_15, gR_75_16, gR_75_17, gR_75_18, gI_75_19, gI_75_20, gR_75_21, gR_75_22, gR_75_23, gI_75_24, gR_75_25, gI_75_26, gL_75_27, gL_75_28, gR_75_29, gR_75_30, gI_75_31, gR_75_3, gQ_75_3, gN_75_3, gR_75_4, gQ_75_4, gN_75_4, pI_0_7, pI_1_1, pI_1_5, pI_1_6, pI_1_7, pI_1_8, pI_1_9, pL_1_10, pI_1_11, pI_1_12, pI_1_13, pI_1_14, pI_30_2, pI_30_3, pI_30_4, pI_35_2, pI_41_1, pZ0_41_1, pZ1_41_1, pI_41_2, pI_44_2, pZ0_44_2, pZ1_44_2, pI_44_3, pI_49_2, pI_49_3, pI_75_0, pI_75_1, pI_75_2, pI_75_6, pI_75_7, pI_75_8, pI_75_9, pI_75_10, pI_75_11, pI_75_12, pI_75_13, pL_75_14, pI_75_19, pI_75_20, pI_75_24, pI_75_26, pL_75_27, pL_75_28, pI_75_31, Option.bind_some, q_b2_some, q_zr_0, q_zr_1, x10_fine, x10_refused, x12_good, x12_refused, aB_2, an_2, aB_76, an_76, aI_77, aI_78, aI_79, aI_80, aI_81, aI_82, aI_83, aI_84, aI_85, aI_86, sB_2, sB_76, sI_77, sI_78, sI_79, sI_80, sI_81, sI_82, sI_83, sI_84, sI_85, sI_86, mC, mI_0, mI_1, mI_2, mI_3, mI_4, mI_5, mI_6, mI_7, mI_8, mI_9, mI_10, mR_11, mR_12, mR_13, mR_14, mR_15, mR_16, mR_17, mR_18, mR_19, mR_20, mR_21, mR_22, mR_23, mR_24, mR_25, mR_26, mR_27, mR_28, mR_29, mR_30, mR_31, mR_32, mR_33, mR_34, ma_1, ma_2, ma_3, ma_4, ma_5, ma_6, ma_7, ma_8, ma_9, ma_10, ma_11, ma_12, ma_13, ma_14, ma_15, ma_16, ma_17, ma_18, ma_19, ma_20, ma_21, ma_22, ma_23, ma_24, hMs, ref_prod hMs hn h hc, k4, a1, r4, b1, nI_l (show w (r k) < 2 ^ 31 by omega), p3, pk_lDiv (show prM w r c < 2 ^ 63 by omega) (show 0 < w (r k) by omega) (show w (r k) < 2 ^ 63 by omega), lN_add, nI_1]
      exact nx
  have e := go c 0 1000000000 (by omega) (by omega)
  rw [nI_0, show smM w r (prM w r c) 0 = 0 from rfl, lN_0] at e
  unfold f_X12_sumOf
  rw [gC_75, Option.bind_some]
  exact e
end LTC
