section NEW
variable {T D m M : Nat} {c3 c4 : sF} {u : mU} {v : mV} {N : Nat → Nat} {t : Nat}
theorem put_relC {a : Nat} {f : Nat → Int32} (ho : okTD T D) (hM : 88 ≤ M) (ha : a = 78 ∨ a = 82 ∨ a = 83) (h : relC u T M N) : relC (put u a f) T M N := by
  have hT : T = 54 ∨ T = 3 := by rcases ho with ⟨rfl, rfl⟩ | ⟨rfl, rfl⟩ <;> simp
  exact relC_congr (fun i hi => put_ne (by omega)) (fun i => put_ne (by omega)) h
theorem put_col {a : Nat} {f : Nat → Int32} (hM : 88 ≤ M) (ha : a < 88) : col (put u a f) M = col u M := funext fun i => put_ne (by omega)
/-- whether a thing can be given so, all alone -/
theorem ref_alone {w : Nat} (ho : okTD T D) (hMs : mSh (SH T D (fR M) c4 m) M) (hM : 88 ≤ M) (h : relC u T M N) (ht : t < N 2) (hw : w < 105) (f : Nat → Int32) : ∃ f', f_X12_isAlone (Rep (SH T D (fR M) c4 m) (put u 78 f) v) 75 (nI t) (nI w) = some (bI (alo (col u M) N t w), Rep (SH T D (fR M) c4 m) (put u 78 f') v) := by
  have hb := bndN_of h.1
  have b0 : N 0 ≤ 7 := hb.1
  have b2 : N 2 ≤ 4 := hb.2.2.1
  have b3 : N 3 ≤ 5 := hb.2.2.2.1
  have b5 : N 5 ≤ 3 := hb.2.2.2.2.2.1
  have hr := put_relC (f := f) ho hM (Or.inl rfl) h
  have m0 := (hr.1 0 (by decide)).2.1
  have m3 := (hr.1 3 (by decide)).2.1
  have m5 := (hr.1 5 (by decide)).2.1
  have hw31 : w < 2 ^ 31 := by omega
  have d1 := fun g => w_day (g := g) hw31
  have d2 := fun g => w_giver (g := g) hw31
  have d3 := fun g => w_person (g := g) hw31
  have halo : alo (col u M) N t w = (decide (w / 15 < N 0 ∧ w / 5 % 3 < N 5 ∧ w % 5 < N 3) && s_can (col u M) (w / 5 % 3) t (w % 5) (w / 15) 0) := rfl
  rw [halo]
  have hd7 : w / 15 < 7 := by omega
  have hg3 : w / 5 % 3 < 3 := by omega
  have hp5 : w % 5 < 5 := by omega
  generalize w / 15 = d at *
  generalize w / 5 % 3 = g at *
  generalize w % 5 = p at *
  have p0 : (nI (N 0) ≤ nI d) = (N 0 ≤ d) := propext (nI_leI (by omega) (by omega))
  have p5 : (nI (N 5) ≤ nI g) = (N 5 ≤ g) := propext (nI_leI (by omega) (by omega))
  have p3 : (nI p < nI (N 3)) = (p < N 3) := propext (nI_ltI (by omega) (by omega))
  by_cases c0 : N 0 ≤ d
  · refine ⟨f, ?_⟩
    rw [decide_eq_false (by omega), Bool.false_and, show bI false = 0 from rfl]
    simp -implicitDefEqProofs only [f_X12_isAlone, d1, d2, d3, gC_0, gR_0_0, gR_0_1, gR_0_2, gR_0_3, gR_0_4, gR_0_5, gR_0_6, gI_0_7, gR_0_8, gC_1, gR_1_0, gI_1_1, gR_1_2, gR_1_3, gR_1_4, gI_1_5, gI_1_6, gI_1_7, gI_1_8, gI_1_9, gL_1_10, gI_1_11, gI_1_12, gI_1_13, gI_1_14, gC_27, gR_27_0, gC_30, gR_30_0, gR_30_1, gI_30_2, gI_30_3, gI_30_4, gC_35, gR_35_0, gR_35_1, gI_35_2, gC_36, gR_36_0, gC_41, gR_41_0, gI_41_1, gI_41_2, gC_44, gR_44_0, gR_44_1, gI_44_2, gI_44_3, gC_49, gR_49_0, gR_49_1, gI_49_2, gI_49_3, gC_75, gI_75_0, gI_75_1, gI_75_2, gR_75_5, gI_75_6, gI_75_7, gI_75_8, gI_75_9, gI_75_10, gI_75_11, gI_75_12, gI_75_13, gL_75_14, gR_75_15, gR_75_16, gR_75_17, gR_75_18, gI_75_19, gI_75_20, gR_75_21, gR_75_22, gR_75_23, gI_75_24, gR_75_25, gI_75_26, gL_75_27, gL_75_28, gR_75_29, gR_75_30, gI_75_31, gR_75_3, gQ_75_3, gN_75_3, gR_75_4, gQ_75_4, gN_75_4, pI_0_7, pI_1_1, pI_1_5, pI_1_6, pI_1_7, pI_1_8, pI_1_9, pL_1_10, pI_1_11, pI_1_12, pI_1_13, pI_1_14, pI_30_2, pI_30_3, pI_30_4, pI_35_2, pI_41_1, pZ0_41_1, pZ1_41_1, pI_41_2, pI_44_2, pZ0_44_2, pZ1_44_2, pI_44_3, pI_49_2, pI_49_3, pI_75_0, pI_75_1, pI_75_2, pI_75_6, pI_75_7, pI_75_8, pI_75_9, pI_75_10, pI_75_11, pI_75_12, pI_75_13, pL_75_14, pI_75_19, pI_75_20, pI_75_24, pI_75_26, pL_75_27, pL_75_28, pI_75_31, Option.bind_some, q_b2_some, q_zr_0, q_zr_1, x10_fine, x10_refused, x12_good, x12_refused, mC, mI_0, mI_1, mI_2, mI_3, mI_4, mI_5, mI_6, mI_7, mI_8, mI_9, mI_10, mR_11, mR_12, mR_13, mR_14, mR_15, mR_16, mR_17, mR_18, mR_19, mR_20, mR_21, mR_22, mR_23, mR_24, mR_25, mR_26, mR_27, mR_28, mR_29, mR_30, mR_31, mR_32, mR_33, mR_34, ma_1, ma_2, ma_3, ma_4, ma_5, ma_6, ma_7, ma_8, ma_9, ma_10, ma_11, ma_12, ma_13, ma_14, ma_15, ma_16, ma_17, ma_18, ma_19, ma_20, ma_21, ma_22, ma_23, ma_24, hMs, m0, p0, c0, if_true]
  by_cases c5 : N 5 ≤ g
  · refine ⟨f, ?_⟩
    rw [decide_eq_false (by omega), Bool.false_and, show bI false = 0 from rfl]
    simp -implicitDefEqProofs only [f_X12_isAlone, d1, d2, d3, gC_0, gR_0_0, gR_0_1, gR_0_2, gR_0_3, gR_0_4, gR_0_5, gR_0_6, gI_0_7, gR_0_8, gC_1, gR_1_0, gI_1_1, gR_1_2, gR_1_3, gR_1_4, gI_1_5, gI_1_6, gI_1_7, gI_1_8, gI_1_9, gL_1_10, gI_1_11, gI_1_12, gI_1_13, gI_1_14, gC_27, gR_27_0, gC_30, gR_30_0, gR_30_1, gI_30_2, gI_30_3, gI_30_4, gC_35, gR_35_0, gR_35_1, gI_35_2, gC_36, gR_36_0, gC_41, gR_41_0, gI_41_1, gI_41_2, gC_44, gR_44_0, gR_44_1, gI_44_2, gI_44_3, gC_49, gR_49_0, gR_49_1, gI_49_2, gI_49_3, gC_75, gI_75_0, gI_75_1, gI_75_2, gR_75_5, gI_75_6, gI_75_7, gI_75_8, gI_75_9, gI_75_10, gI_75_11, gI_75_12, gI_75_13, gL_75_14, gR_75_15, gR_75_16, gR_75_17, gR_75_18, gI_75_19, gI_75_20, gR_75_21, gR_75_22, gR_75_23, gI_75_24, gR_75_25, gI_75_26, gL_75_27, gL_75_28, gR_75_29, gR_75_30, gI_75_31, gR_75_3, gQ_75_3, gN_75_3, gR_75_4, gQ_75_4, gN_75_4, pI_0_7, pI_1_1, pI_1_5, pI_1_6, pI_1_7, pI_1_8, pI_1_9, pL_1_10, pI_1_11, pI_1_12, pI_1_13, pI_1_14, pI_30_2, pI_30_3, pI_30_4, pI_35_2, pI_41_1, pZ0_41_1, pZ1_41_1, pI_41_2, pI_44_2, pZ0_44_2, pZ1_44_2, pI_44_3, pI_49_2, pI_49_3, pI_75_0, pI_75_1, pI_75_2, pI_75_6, pI_75_7, pI_75_8, pI_75_9, pI_75_10, pI_75_11, pI_75_12, pI_75_13, pL_75_14, pI_75_19, pI_75_20, pI_75_24, pI_75_26, pL_75_27, pL_75_28, pI_75_31, Option.bind_some, q_b2_some, q_zr_0, q_zr_1, x10_fine, x10_refused, x12_good, x12_refused, mC, mI_0, mI_1, mI_2, mI_3, mI_4, mI_5, mI_6, mI_7, mI_8, mI_9, mI_10, mR_11, mR_12, mR_13, mR_14, mR_15, mR_16, mR_17, mR_18, mR_19, mR_20, mR_21, mR_22, mR_23, mR_24, mR_25, mR_26, mR_27, mR_28, mR_29, mR_30, mR_31, mR_32, mR_33, mR_34, ma_1, ma_2, ma_3, ma_4, ma_5, ma_6, ma_7, ma_8, ma_9, ma_10, ma_11, ma_12, ma_13, ma_14, ma_15, ma_16, ma_17, ma_18, ma_19, ma_20, ma_21, ma_22, ma_23, ma_24, hMs, m0, m5, p0, p5, c0, c5, if_true, if_false]
  by_cases c3 : p < N 3
  · have hr2 := put_relC (f := rowZ f) ho hM (Or.inl rfl) h
    have e1 := ref_starts (T := T) (D := D) (c3 := fR M) (c4 := c4) (m := m) (u := put u 78 f) (v := v)
    rw [put_at, put_put] at e1
    have hH : rowH N (put u 78 (rowZ f) 78) := by rw [put_at]; exact rowZ_H
    have e2 := ref_out (v := v) (b := 78) (g := g) (t := t) (p := p) (d := d) hMs wS_78 hr2 hH (by omega) ht c3 hd7
    rw [put_col hM (by decide), put_at] at e2
    refine ⟨rowZ f, ?_⟩
    rw [decide_eq_true (by omega), Bool.true_and]
    have hz := out_Z (K := col u M) (f := f) (g := g) (d := d) (show t < 4 by omega) hp5
    simp -implicitDefEqProofs only [f_X12_isAlone, d1, d2, d3, gC_0, gR_0_0, gR_0_1, gR_0_2, gR_0_3, gR_0_4, gR_0_5, gR_0_6, gI_0_7, gR_0_8, gC_1, gR_1_0, gI_1_1, gR_1_2, gR_1_3, gR_1_4, gI_1_5, gI_1_6, gI_1_7, gI_1_8, gI_1_9, gL_1_10, gI_1_11, gI_1_12, gI_1_13, gI_1_14, gC_27, gR_27_0, gC_30, gR_30_0, gR_30_1, gI_30_2, gI_30_3, gI_30_4, gC_35, gR_35_0, gR_35_1, gI_35_2, gC_36, gR_36_0, gC_41, gR_41_0, gI_41_1, gI_41_2, gC_44, gR_44_0, gR_44_1, gI_44_2, gI_44_3, gC_49, gR_49_0, gR_49_1, gI_49_2, gI_49_3, gC_75, gI_75_0, gI_75_1, gI_75_2, gR_75_5, gI_75_6, gI_75_7, gI_75_8, gI_75_9, gI_75_10, gI_75_11, gI_75_12, gI_75_13, gL_75_14, gR_75_15, gR_75_16, gR_75_17, gR_75_18, gI_75_19, gI_75_20, gR_75_21, gR_75_22, gR_75_23, gI_75_24, gR_75_25, gI_75_26, gL_75_27, gL_75_28, gR_75_29, gR_75_30, gI_75_31, gR_75_3, gQ_75_3, gN_75_3, gR_75_4, gQ_75_4, gN_75_4, pI_0_7, pI_1_1, pI_1_5, pI_1_6, pI_1_7, pI_1_8, pI_1_9, pL_1_10, pI_1_11, pI_1_12, pI_1_13, pI_1_14, pI_30_2, pI_30_3, pI_30_4, pI_35_2, pI_41_1, pZ0_41_1, pZ1_41_1, pI_41_2, pI_44_2, pZ0_44_2, pZ1_44_2, pI_44_3, pI_49_2, pI_49_3, pI_75_0, pI_75_1, pI_75_2, pI_75_6, pI_75_7, pI_75_8, pI_75_9, pI_75_10, pI_75_11, pI_75_12, pI_75_13, pL_75_14, pI_75_19, pI_75_20, pI_75_24, pI_75_26, pL_75_27, pL_75_28, pI_75_31, Option.bind_some, q_b2_some, q_zr_0, q_zr_1, x10_fine, x10_refused, x12_good, x12_refused, mC, mI_0, mI_1, mI_2, mI_3, mI_4, mI_5, mI_6, mI_7, mI_8, mI_9, mI_10, mR_11, mR_12, mR_13, mR_14, mR_15, mR_16, mR_17, mR_18, mR_19, mR_20, mR_21, mR_22, mR_23, mR_24, mR_25, mR_26, mR_27, mR_28, mR_29, mR_30, mR_31, mR_32, mR_33, mR_34, ma_1, ma_2, ma_3, ma_4, ma_5, ma_6, ma_7, ma_8, ma_9, ma_10, ma_11, ma_12, ma_13, ma_14, ma_15, ma_16, ma_17, ma_18, ma_19, ma_20, ma_21, ma_22, ma_23, ma_24, hMs, m0, m5, m3, p0, p5, p3, c0, c5, c3, if_true, if_false, e1, e2, hz]
    cases s_can (col u M) g t p d 0 with
    | true => rw [if_pos rfl]; rfl
    | false => rw [if_neg (by decide)]; rfl
  · refine ⟨f, ?_⟩
    rw [decide_eq_false (by omega), Bool.false_and, show bI false = 0 from rfl]
    simp -implicitDefEqProofs only [f_X12_isAlone, d1, d2, d3, gC_0, gR_0_0, gR_0_1, gR_0_2, gR_0_3, gR_0_4, gR_0_5, gR_0_6, gI_0_7, gR_0_8, gC_1, gR_1_0, gI_1_1, gR_1_2, gR_1_3, gR_1_4, gI_1_5, gI_1_6, gI_1_7, gI_1_8, gI_1_9, gL_1_10, gI_1_11, gI_1_12, gI_1_13, gI_1_14, gC_27, gR_27_0, gC_30, gR_30_0, gR_30_1, gI_30_2, gI_30_3, gI_30_4, gC_35, gR_35_0, gR_35_1, gI_35_2, gC_36, gR_36_0, gC_41, gR_41_0, gI_41_1, gI_41_2, gC_44, gR_44_0, gR_44_1, gI_44_2, gI_44_3, gC_49, gR_49_0, gR_49_1, gI_49_2, gI_49_3, gC_75, gI_75_0, gI_75_1, gI_75_2, gR_75_5, gI_75_6, gI_75_7, gI_75_8, gI_75_9, gI_75_10, gI_75_11, gI_75_12, gI_75_13, gL_75_14, gR_75_15, gR_75_16, gR_75_17, gR_75_18, gI_75_19, gI_75_20, gR_75_21, gR_75_22, gR_75_23, gI_75_24, gR_75_25, gI_75_26, gL_75_27, gL_75_28, gR_75_29, gR_75_30, gI_75_31, gR_75_3, gQ_75_3, gN_75_3, gR_75_4, gQ_75_4, gN_75_4, pI_0_7, pI_1_1, pI_1_5, pI_1_6, pI_1_7, pI_1_8, pI_1_9, pL_1_10, pI_1_11, pI_1_12, pI_1_13, pI_1_14, pI_30_2, pI_30_3, pI_30_4, pI_35_2, pI_41_1, pZ0_41_1, pZ1_41_1, pI_41_2, pI_44_2, pZ0_44_2, pZ1_44_2, pI_44_3, pI_49_2, pI_49_3, pI_75_0, pI_75_1, pI_75_2, pI_75_6, pI_75_7, pI_75_8, pI_75_9, pI_75_10, pI_75_11, pI_75_12, pI_75_13, pL_75_14, pI_75_19, pI_75_20, pI_75_24, pI_75_26, pL_75_27, pL_75_28, pI_75_31, Option.bind_some, q_b2_some, q_zr_0, q_zr_1, x10_fine, x10_refused, x12_good, x12_refused, mC, mI_0, mI_1, mI_2, mI_3, mI_4, mI_5, mI_6, mI_7, mI_8, mI_9, mI_10, mR_11, mR_12, mR_13, mR_14, mR_15, mR_16, mR_17, mR_18, mR_19, mR_20, mR_21, mR_22, mR_23, mR_24, mR_25, mR_26, mR_27, mR_28, mR_29, mR_30, mR_31, mR_32, mR_33, mR_34, ma_1, ma_2, ma_3, ma_4, ma_5, ma_6, ma_7, ma_8, ma_9, ma_10, ma_11, ma_12, ma_13, ma_14, ma_15, ma_16, ma_17, ma_18, ma_19, ma_20, ma_21, ma_22, ma_23, ma_24, hMs, m0, m5, m3, p0, p5, p3, c0, c5, c3, if_true, if_false]
theorem ref_nev38 {kk : Nat → Int32 → Int32 → Int32 → qS → Option (Int32 × qS)} {set : Int32} (ho : okTD T D) (hMs : mSh (SH T D (fR M) c4 m) M) (hM : 88 ≤ M) (h : relC u T M N) (ht : t < N 2) : ∀ (r w f : Nat) (g : Nat → Int32), w + r = 105 → r + 1 < f → ∃ g', L_X12_never_38 kk f 75 set (nI t) 0 (nI w) (Rep (SH T D (fR M) c4 m) (put u 78 g) v) = kk 75 set (nI t) (bI (anyB (alo (col u M) N t) r w)) (Rep (SH T D (fR M) c4 m) (put u 78 g') v) := by
  intro r
  induction r with
  | zero =>
    intro w f g hw hf
    obtain ⟨f, rfl⟩ : ∃ f', f = f' + 1 := ⟨f - 1, by omega⟩
    have c : (105 : Int32) ≤ nI w := nI_le (a := 105) (by omega) (by omega)
    exact ⟨g, by rw [L_X12_never_38, if_pos c]; rfl⟩
  | succ r ih =>
    intro w f g hw hf
    obtain ⟨f, rfl⟩ : ∃ f', f = f' + 1 := ⟨f - 1, by omega⟩
    have c : ¬ (105 : Int32) ≤ nI w := nI_ge (b := 105) (by omega) (by omega)
    obtain ⟨g1, e1⟩ := ref_alone (v := v) ho hMs hM h ht (show w < 105 by omega) g
    have ea : anyB (alo (col u M) N t) (r + 1) w = (alo (col u M) N t w || anyB (alo (col u M) N t) r (w + 1)) := rfl
    cases ca : alo (col u M) N t w with
    | true =>
      refine ⟨g1, ?_⟩
      rw [L_X12_never_38, if_neg c, if_pos rfl, e1, q_b2_some, ea, ca, Bool.true_or, nI_1]
      obtain ⟨f, rfl⟩ : ∃ f', f = f' + 1 := ⟨f - 1, by omega⟩
      rw [L_X12_never_38, show bI true = 1 from rfl]
      by_cases c2 : (105 : Int32) ≤ nI (w + 1)
      · rw [if_pos c2]
      · rw [if_neg c2, if_neg (by decide)]
    | false =>
      obtain ⟨g', nx⟩ := ih (w + 1) f g1 (by omega) (by omega)
      refine ⟨g', ?_⟩
      rw [L_X12_never_38, if_neg c, if_pos rfl, e1, q_b2_some, ea, ca, Bool.false_or, nI_1, show bI false = 0 from rfl, nx]
theorem ref_nev22 (ho : okTD T D) (hMs : mSh (SH T D (fR M) c4 m) M) (hM : 88 ≤ M) (h : relC u T M N) : ∀ (r t f : Nat) (g : Nat → Int32) (acc : Int32), t + r = N 2 → r < f → ∃ g', L_X12_never_22 f 75 acc (nI t) (Rep (SH T D (fR M) c4 m) (put u 78 g) v) = some (lp (stN (col u M) N) r t acc, Rep (SH T D (fR M) c4 m) (wr (wr (put u 78 g') 75 1 0) 75 2 (-1)) v) := by
  have hb := bndN_of h.1
  have b2 : N 2 ≤ 4 := hb.2.2.1
  intro r
  induction r with
  | zero =>
    intro t f g acc ht hf
    obtain ⟨f, rfl⟩ : ∃ f', f = f' + 1 := ⟨f - 1, by omega⟩
    have c : nI (N 2) ≤ nI t := nI_le (by omega) (by omega)
    have m2 := ((put_relC (f := g) ho hM (Or.inl rfl) h).1 2 (by decide)).2.1
    refine ⟨g, ?_⟩
    simp -implicitDefEqProofs only [L_X12_never_22, gC_0, gR_0_0, gR_0_1, gR_0_2, gR_0_3, gR_0_4, gR_0_5, gR_0_6, gI_0_7, gR_0_8, gC_1, gR_1_0, gI_1_1, gR_1_2, gR_1_3, gR_1_4, gI_1_5, gI_1_6, gI_1_7, gI_1_8, gI_1_9, gL_1_10, gI_1_11, gI_1_12, gI_1_13, gI_1_14, gC_27, gR_27_0, gC_30, gR_30_0, gR_30_1, gI_30_2, gI_30_3, gI_30_4, gC_35, gR_35_0, gR_35_1, gI_35_2, gC_36, gR_36_0, gC_41, gR_41_0, gI_41_1, gI_41_2, gC_44, gR_44_0, gR_44_1, gI_44_2, gI_44_3, gC_49, gR_49_0, gR_49_1, gI_49_2, gI_49_3, gC_75, gI_75_0, gI_75_1, gI_75_2, gR_75_5, gI_75_6, gI_75_7, gI_75_8, gI_75_9, gI_75_10, gI_75_11, gI_75_12, gI_75_13, gL_75_14, gR_75_15, gR_75_16, gR_75_17, gR_75_18, gI_75_19, gI_75_20, gR_75_21, gR_75_22, gR_75_23, gI_75_24, gR_75_25, gI_75_26, gL_75_27, gL_75_28, gR_75_29, gR_75_30, gI_75_31, gR_75_3, gQ_75_3, gN_75_3, gR_75_4, gQ_75_4, gN_75_4, pI_0_7, pI_1_1, pI_1_5, pI_1_6, pI_1_7, pI_1_8, pI_1_9, pL_1_10, pI_1_11, pI_1_12, pI_1_13, pI_1_14, pI_30_2, pI_30_3, pI_30_4, pI_35_2, pI_41_1, pZ0_41_1, pZ1_41_1, pI_41_2, pI_44_2, pZ0_44_2, pZ1_44_2, pI_44_3, pI_49_2, pI_49_3, pI_75_0, pI_75_1, pI_75_2, pI_75_6, pI_75_7, pI_75_8, pI_75_9, pI_75_10, pI_75_11, pI_75_12, pI_75_13, pL_75_14, pI_75_19, pI_75_20, pI_75_24, pI_75_26, pL_75_27, pL_75_28, pI_75_31, Option.bind_some, q_b2_some, q_zr_0, q_zr_1, x10_fine, x10_refused, x12_good, x12_refused, mC, mI_0, mI_1, mI_2, mI_3, mI_4, mI_5, mI_6, mI_7, mI_8, mI_9, mI_10, mR_11, mR_12, mR_13, mR_14, mR_15, mR_16, mR_17, mR_18, mR_19, mR_20, mR_21, mR_22, mR_23, mR_24, mR_25, mR_26, mR_27, mR_28, mR_29, mR_30, mR_31, mR_32, mR_33, mR_34, ma_1, ma_2, ma_3, ma_4, ma_5, ma_6, ma_7, ma_8, ma_9, ma_10, ma_11, ma_12, ma_13, ma_14, ma_15, ma_16, ma_17, ma_18, ma_19, ma_20, ma_21, ma_22, ma_23, ma_24, hMs, m2, c, if_true, lp]
  | succ r ih =>
    intro t f g acc ht hf
    obtain ⟨f, rfl⟩ : ∃ f', f = f' + 1 := ⟨f - 1, by omega⟩
    have c : ¬ nI (N 2) ≤ nI t := nI_ge (by omega) (by omega)
    have m2 := ((put_relC (f := g) ho hM (Or.inl rfl) h).1 2 (by decide)).2.1
    obtain ⟨g1, e1⟩ := ref_nev38 (v := v) (kk := fun y5 y6 y7 y8 g9 => J_X12_never_63 (L_X12_never_22 f) y5 y6 y7 y8 g9) (set := acc) ho hMs hM h (show t < N 2 by omega) 105 0 1000000000 g (by omega) (by omega)
    rw [nI_0, evr_alo hb] at e1
    obtain ⟨g', nx⟩ := ih (t + 1) f g1 (stN (col u M) N t acc) (by omega) (by omega)
    refine ⟨g', ?_⟩
    rw [L_X12_never_22, gR_75_3, Option.bind_some, mI_2 hMs, Option.bind_some, m2, if_neg c, e1]
    simp -implicitDefEqProofs only [lp]
    rw [← nx]
    unfold J_X12_never_63 stN
    cases evr (col u M) N t with
    | true => rw [show bI true = 1 from rfl, if_neg (by decide), if_pos rfl, Int32.or_zero, nI_1]
    | false => rw [show bI false = 0 from rfl, if_pos rfl, if_neg (by decide), nI_1]
end NEW
section NEO
variable {P Q : cP}
theorem P23 : q_P23c (Inv P Q) := by
  intro g n hI
  refine goW (f10 := fun g => f_X10_never g 0) (f12 := fun g => f_X12_never g 75) (A0 := -1) hI ?_ ?_ ?_
  · intro T D c4 m u v ho hN
    simp -implicitDefEqProofs only [f_X10_never, f_X10_noCollege, gC_0, gR_0_0, gR_0_1, gR_0_2, gR_0_3, gR_0_4, gR_0_5, gR_0_6, gI_0_7, gR_0_8, gC_1, gR_1_0, gI_1_1, gR_1_2, gR_1_3, gR_1_4, gI_1_5, gI_1_6, gI_1_7, gI_1_8, gI_1_9, gL_1_10, gI_1_11, gI_1_12, gI_1_13, gI_1_14, gC_27, gR_27_0, gC_30, gR_30_0, gR_30_1, gI_30_2, gI_30_3, gI_30_4, gC_35, gR_35_0, gR_35_1, gI_35_2, gC_36, gR_36_0, gC_41, gR_41_0, gI_41_1, gI_41_2, gC_44, gR_44_0, gR_44_1, gI_44_2, gI_44_3, gC_49, gR_49_0, gR_49_1, gI_49_2, gI_49_3, gC_75, gI_75_0, gI_75_1, gI_75_2, gR_75_5, gI_75_6, gI_75_7, gI_75_8, gI_75_9, gI_75_10, gI_75_11, gI_75_12, gI_75_13, gL_75_14, gR_75_15, gR_75_16, gR_75_17, gR_75_18, gI_75_19, gI_75_20, gR_75_21, gR_75_22, gR_75_23, gI_75_24, gR_75_25, gI_75_26, gL_75_27, gL_75_28, gR_75_29, gR_75_30, gI_75_31, gR_75_3, gQ_75_3, gN_75_3, gR_75_4, gQ_75_4, gN_75_4, pI_0_7, pI_1_1, pI_1_5, pI_1_6, pI_1_7, pI_1_8, pI_1_9, pL_1_10, pI_1_11, pI_1_12, pI_1_13, pI_1_14, pI_30_2, pI_30_3, pI_30_4, pI_35_2, pI_41_1, pZ0_41_1, pZ1_41_1, pI_41_2, pI_44_2, pZ0_44_2, pZ1_44_2, pI_44_3, pI_49_2, pI_49_3, pI_75_0, pI_75_1, pI_75_2, pI_75_6, pI_75_7, pI_75_8, pI_75_9, pI_75_10, pI_75_11, pI_75_12, pI_75_13, pL_75_14, pI_75_19, pI_75_20, pI_75_24, pI_75_26, pL_75_27, pL_75_28, pI_75_31, Option.bind_some, q_b2_some, q_zr_0, q_zr_1, x10_fine, x10_refused, x12_good, x12_refused, cls_k0 ho hN, if_true, if_false, ne10]
  · intro T D c4 m u v
    simp -implicitDefEqProofs only [f_X12_never, gC_0, gR_0_0, gR_0_1, gR_0_2, gR_0_3, gR_0_4, gR_0_5, gR_0_6, gI_0_7, gR_0_8, gC_1, gR_1_0, gI_1_1, gR_1_2, gR_1_3, gR_1_4, gI_1_5, gI_1_6, gI_1_7, gI_1_8, gI_1_9, gL_1_10, gI_1_11, gI_1_12, gI_1_13, gI_1_14, gC_27, gR_27_0, gC_30, gR_30_0, gR_30_1, gI_30_2, gI_30_3, gI_30_4, gC_35, gR_35_0, gR_35_1, gI_35_2, gC_36, gR_36_0, gC_41, gR_41_0, gI_41_1, gI_41_2, gC_44, gR_44_0, gR_44_1, gI_44_2, gI_44_3, gC_49, gR_49_0, gR_49_1, gI_49_2, gI_49_3, gC_75, gI_75_0, gI_75_1, gI_75_2, gR_75_5, gI_75_6, gI_75_7, gI_75_8, gI_75_9, gI_75_10, gI_75_11, gI_75_12, gI_75_13, gL_75_14, gR_75_15, gR_75_16, gR_75_17, gR_75_18, gI_75_19, gI_75_20, gR_75_21, gR_75_22, gR_75_23, gI_75_24, gR_75_25, gI_75_26, gL_75_27, gL_75_28, gR_75_29, gR_75_30, gI_75_31, gR_75_3, gQ_75_3, gN_75_3, gR_75_4, gQ_75_4, gN_75_4, pI_0_7, pI_1_1, pI_1_5, pI_1_6, pI_1_7, pI_1_8, pI_1_9, pL_1_10, pI_1_11, pI_1_12, pI_1_13, pI_1_14, pI_30_2, pI_30_3, pI_30_4, pI_35_2, pI_41_1, pZ0_41_1, pZ1_41_1, pI_41_2, pI_44_2, pZ0_44_2, pZ1_44_2, pI_44_3, pI_49_2, pI_49_3, pI_75_0, pI_75_1, pI_75_2, pI_75_6, pI_75_7, pI_75_8, pI_75_9, pI_75_10, pI_75_11, pI_75_12, pI_75_13, pL_75_14, pI_75_19, pI_75_20, pI_75_24, pI_75_26, pL_75_27, pL_75_28, pI_75_31, Option.bind_some, q_b2_some, q_zr_0, q_zr_1, x10_fine, x10_refused, x12_good, x12_refused, if_true]
  · intro T D c4 m u v M N ho hC hM h88 hb hA
    have hb0 : N 0 ≤ 7 := hb.1
    have b2 : N 2 ≤ 4 := hb.2.2.1
    have h2 : 2 ≤ N 0 := hA.2.1.1
    have z0 : ¬ nI (N 0) = 0 := nI_ne0 (by omega) (by omega)
    refine ⟨lp (stN (col u M) N) (N 2) 0 0, 0, u, v, by decide, by simp -implicitDefEqProofs only [f_X10_never, f_X10_noCollege, gC_0, gR_0_0, gR_0_1, gR_0_2, gR_0_3, gR_0_4, gR_0_5, gR_0_6, gI_0_7, gR_0_8, gC_1, gR_1_0, gI_1_1, gR_1_2, gR_1_3, gR_1_4, gI_1_5, gI_1_6, gI_1_7, gI_1_8, gI_1_9, gL_1_10, gI_1_11, gI_1_12, gI_1_13, gI_1_14, gC_27, gR_27_0, gC_30, gR_30_0, gR_30_1, gI_30_2, gI_30_3, gI_30_4, gC_35, gR_35_0, gR_35_1, gI_35_2, gC_36, gR_36_0, gC_41, gR_41_0, gI_41_1, gI_41_2, gC_44, gR_44_0, gR_44_1, gI_44_2, gI_44_3, gC_49, gR_49_0, gR_49_1, gI_49_2, gI_49_3, gC_75, gI_75_0, gI_75_1, gI_75_2, gR_75_5, gI_75_6, gI_75_7, gI_75_8, gI_75_9, gI_75_10, gI_75_11, gI_75_12, gI_75_13, gL_75_14, gR_75_15, gR_75_16, gR_75_17, gR_75_18, gI_75_19, gI_75_20, gR_75_21, gR_75_22, gR_75_23, gI_75_24, gR_75_25, gI_75_26, gL_75_27, gL_75_28, gR_75_29, gR_75_30, gI_75_31, gR_75_3, gQ_75_3, gN_75_3, gR_75_4, gQ_75_4, gN_75_4, pI_0_7, pI_1_1, pI_1_5, pI_1_6, pI_1_7, pI_1_8, pI_1_9, pL_1_10, pI_1_11, pI_1_12, pI_1_13, pI_1_14, pI_30_2, pI_30_3, pI_30_4, pI_35_2, pI_41_1, pZ0_41_1, pZ1_41_1, pI_41_2, pI_44_2, pZ0_44_2, pZ1_44_2, pI_44_3, pI_49_2, pI_49_3, pI_75_0, pI_75_1, pI_75_2, pI_75_6, pI_75_7, pI_75_8, pI_75_9, pI_75_10, pI_75_11, pI_75_12, pI_75_13, pL_75_14, pI_75_19, pI_75_20, pI_75_24, pI_75_26, pL_75_27, pL_75_28, pI_75_31, Option.bind_some, q_b2_some, q_zr_0, q_zr_1, x10_fine, x10_refused, x12_good, x12_refused, cls_c0 ho hA.1.1, z0, if_true, if_false, cls_never ho hA.1], keep_refl, ?_⟩
    intro u' v' hk hA' hc hr
    obtain ⟨g', e⟩ := ref_nev22 (v := v') ho hM h88 hA'.1 (N 2) 0 1000000000 (wr u' 75 0 0 78) 0 (by omega) (by omega)
    rw [put_self, nI_0, show col (wr u' 75 0 0) M = col u M from funext hc] at e
    refine ⟨put (wr u' 75 0 0) 78 g', v', ?_, keep_put keep_refl (fun _ => rfl), ?_⟩
    · simp -implicitDefEqProofs only [f_X12_never, gC_0, gR_0_0, gR_0_1, gR_0_2, gR_0_3, gR_0_4, gR_0_5, gR_0_6, gI_0_7, gR_0_8, gC_1, gR_1_0, gI_1_1, gR_1_2, gR_1_3, gR_1_4, gI_1_5, gI_1_6, gI_1_7, gI_1_8, gI_1_9, gL_1_10, gI_1_11, gI_1_12, gI_1_13, gI_1_14, gC_27, gR_27_0, gC_30, gR_30_0, gR_30_1, gI_30_2, gI_30_3, gI_30_4, gC_35, gR_35_0, gR_35_1, gI_35_2, gC_36, gR_36_0, gC_41, gR_41_0, gI_41_1, gI_41_2, gC_44, gR_44_0, gR_44_1, gI_44_2, gI_44_3, gC_49, gR_49_0, gR_49_1, gI_49_2, gI_49_3, gC_75, gI_75_0, gI_75_1, gI_75_2, gR_75_5, gI_75_6, gI_75_7, gI_75_8, gI_75_9, gI_75_10, gI_75_11, gI_75_12, gI_75_13, gL_75_14, gR_75_15, gR_75_16, gR_75_17, gR_75_18, gI_75_19, gI_75_20, gR_75_21, gR_75_22, gR_75_23, gI_75_24, gR_75_25, gI_75_26, gL_75_27, gL_75_28, gR_75_29, gR_75_30, gI_75_31, gR_75_3, gQ_75_3, gN_75_3, gR_75_4, gQ_75_4, gN_75_4, pI_0_7, pI_1_1, pI_1_5, pI_1_6, pI_1_7, pI_1_8, pI_1_9, pL_1_10, pI_1_11, pI_1_12, pI_1_13, pI_1_14, pI_30_2, pI_30_3, pI_30_4, pI_35_2, pI_41_1, pZ0_41_1, pZ1_41_1, pI_41_2, pI_44_2, pZ0_44_2, pZ1_44_2, pI_44_3, pI_49_2, pI_49_3, pI_75_0, pI_75_1, pI_75_2, pI_75_6, pI_75_7, pI_75_8, pI_75_9, pI_75_10, pI_75_11, pI_75_12, pI_75_13, pL_75_14, pI_75_19, pI_75_20, pI_75_24, pI_75_26, pL_75_27, pL_75_28, pI_75_31, Option.bind_some, q_b2_some, q_zr_0, q_zr_1, x10_fine, x10_refused, x12_good, x12_refused, reduceCtorEq, if_false, e]
    · rw [put_ne (by decide), wr_role (by decide)]
end NEO
