def allB (p : Nat → Bool) : Nat → Nat → Bool
  | 0, _ => true
  | r + 1, i => p i && allB p r (i + 1)
theorem allB_iff {p : Nat → Bool} : ∀ (r i : Nat), allB p r i = true ↔ ∀ k, i ≤ k → k < i + r → p k = true := by
  intro r
  induction r with
  | zero => intro i; exact ⟨fun _ k h1 h2 => absurd h2 (by omega), fun _ => rfl⟩
  | succ r ih =>
    intro i
    unfold allB
    rw [Bool.and_eq_true, ih]
    constructor
    · rintro ⟨h1, h2⟩ k h3 h4
      by_cases c : k = i
      · rw [c]; exact h1
      · exact h2 k (by omega) (by omega)
    · intro h
      exact ⟨h i (by omega) (by omega), fun k h1 h2 => h k (by omega) (by omega)⟩
abbrev lmP (K : cK) (L k : Nat) : Bool := decide (decide (L < exN K k) = exC K k)
def lbS (p : Nat → Bool) (most : Bool) (L : Nat) (b : Option Nat) : Option Nat := if p L = true then (if most = true then some L else (match b with | none => some L | some x => some x)) else b
section LIN
variable {T D m M : Nat} {c3 c4 : sF} {u : mU} {v : mV} {N : Nat → Nat} {k : Nat}
theorem ref_isLim {L : Nat} (hMs : mSh (SH T D (fR M) c4 m) M) (h : relC u T M N) (hL : L ≤ 100) : ∀ (r i f : Nat), i + r = N 9 → r < f → L_X12_isLimit_2 (Rep (SH T D (fR M) c4 m) u v) f 75 (nI L) (nI i) = some (if allB (lmP (col u M) L) r i = true then 1 else 0) := by
  have hb := bndN_of h.1
  have b9 : N 9 ≤ 8 := hb.2.2.2.2.2.2.2.2.2
  have b5 : N 5 ≤ 3 := hb.2.2.2.2.2.1
  have b2 : N 2 ≤ 4 := hb.2.2.1
  have b3 : N 3 ≤ 5 := hb.2.2.2.1
  have b4 : N 4 ≤ 4 := hb.2.2.2.2.1
  have h9 := (h.1 9 (by decide)).2.1
  intro r
  induction r with
  | zero =>
    intro i f hi hf
    obtain ⟨f, rfl⟩ : ∃ f', f = f' + 1 := ⟨f - 1, by omega⟩
    have c : nI (N 9) ≤ nI i := nI_le (by omega) (by omega)
    simp -implicitDefEqProofs only [L_X12_isLimit_2, gC_0, gR_0_0, gR_0_1, gR_0_2, gR_0_3, gR_0_4, gR_0_5, gR_0_6, gI_0_7, gR_0_8, gC_1, gR_1_0, gI_1_1, gR_1_2, gR_1_3, gR_1_4, gI_1_5, gI_1_6, gI_1_7, gI_1_8, gI_1_9, gL_1_10, gI_1_11, gI_1_12, gI_1_13, gI_1_14, gC_27, gR_27_0, gC_30, gR_30_0, gR_30_1, gI_30_2, gI_30_3, gI_30_4, gC_35, gR_35_0, gR_35_1, gI_35_2, gC_36, gR_36_0, gC_41, gR_41_0, gI_41_1, gI_41_2, gC_44, gR_44_0, gR_44_1, gI_44_2, gI_44_3, gC_49, gR_49_0, gR_49_1, gI_49_2, gI_49_3, gC_75, gI_75_0, gI_75_1, gI_75_2, gR_75_5, gI_75_6, gI_75_7, gI_75_8, gI_75_9, gI_75_10, gI_75_11, gI_75_12, gI_75_13, gL_75_14, gR_75_15, gR_75_16, gR_75_17, gR_75_18, gI_75_19, gI_75_20, gR_75_21, gR_75_22, gR_75_23, gI_75_24, gR_75_25, gI_75_26, gL_75_27, gL_75_28, gR_75_29, gR_75_30, gI_75_31, gR_75_3, gQ_75_3, gN_75_3, gR_75_4, gQ_75_4, gN_75_4, pI_0_7, pI_1_1, pI_1_5, pI_1_6, pI_1_7, pI_1_8, pI_1_9, pL_1_10, pI_1_11, pI_1_12, pI_1_13, pI_1_14, pI_30_2, pI_30_3, pI_30_4, pI_35_2, pI_41_1, pZ0_41_1, pZ1_41_1, pI_41_2, pI_44_2, pZ0_44_2, pZ1_44_2, pI_44_3, pI_49_2, pI_49_3, pI_75_0, pI_75_1, pI_75_2, pI_75_6, pI_75_7, pI_75_8, pI_75_9, pI_75_10, pI_75_11, pI_75_12, pI_75_13, pL_75_14, pI_75_19, pI_75_20, pI_75_24, pI_75_26, pL_75_27, pL_75_28, pI_75_31, Option.bind_some, q_b2_some, q_zr_0, q_zr_1, x10_fine, x10_refused, x12_good, x12_refused, mC, mI_0, mI_1, mI_2, mI_3, mI_4, mI_5, mI_6, mI_7, mI_8, mI_9, mI_10, mR_11, mR_12, mR_13, mR_14, mR_15, mR_16, mR_17, mR_18, mR_19, mR_20, mR_21, mR_22, mR_23, mR_24, mR_25, mR_26, mR_27, mR_28, mR_29, mR_30, mR_31, mR_32, mR_33, mR_34, ma_1, ma_2, ma_3, ma_4, ma_5, ma_6, ma_7, ma_8, ma_9, ma_10, ma_11, ma_12, ma_13, ma_14, ma_15, ma_16, ma_17, ma_18, ma_19, ma_20, ma_21, ma_22, ma_23, ma_24, hMs, h9, c, if_true, allB]
  | succ r ih =>
    intro i f hi hf
    obtain ⟨f, rfl⟩ : ∃ f', f = f' + 1 := ⟨f - 1, by omega⟩
    have c : ¬ nI (N 9) ≤ nI i := nI_ge (by omega) (by omega)
    obtain ⟨g, t, p, r', hg, ht, hp, hr, e1, e2, e3, e4, f1, f2, f3, f4, q1, q2, q3⟩ := exam_at h (show i < N 9 by omega)
    have i8 : i < 8 := by omega
    have en := mod_near (u := u) (v := v) (x := 0) hMs (show g < 3 by omega) (show t < 4 by omega) (show p < 5 by omega) (show r' < 4 by omega)
    rw [m_near_s, q1] at en
    have cc : (nI (exN (col u M) i) ≤ nI L) = (exN (col u M) i ≤ L) := propext (nI_leI (by omega) (by omega))
    have nx := ih (i + 1) f (by omega) (by omega)
    unfold allB
    rcases q3 with ⟨a1, a2, -⟩ | ⟨a1, a2, -⟩
    · by_cases cL : exN (col u M) i ≤ L
      · have hp : lmP (col u M) L i = false := by
          unfold lmP
          rw [a1, decide_eq_false (show ¬ L < exN (col u M) i by omega)]
          rfl
        simp -implicitDefEqProofs only [L_X12_isLimit_2, J_X12_isLimit_68, gC_0, gR_0_0, gR_0_1, gR_0_2, gR_0_3, gR_0_4, gR_0_5, gR_0_6, gI_0_7, gR_0_8, gC_1, gR_1_0, gI_1_1, gR_1_2, gR_1_3, gR_1_4, gI_1_5, gI_1_6, gI_1_7, gI_1_8, gI_1_9, gL_1_10, gI_1_11, gI_1_12, gI_1_13, gI_1_14, gC_27, gR_27_0, gC_30, gR_30_0, gR_30_1, gI_30_2, gI_30_3, gI_30_4, gC_35, gR_35_0, gR_35_1, gI_35_2, gC_36, gR_36_0, gC_41, gR_41_0, gI_41_1, gI_41_2, gC_44, gR_44_0, gR_44_1, gI_44_2, gI_44_3, gC_49, gR_49_0, gR_49_1, gI_49_2, gI_49_3, gC_75, gI_75_0, gI_75_1, gI_75_2, gR_75_5, gI_75_6, gI_75_7, gI_75_8, gI_75_9, gI_75_10, gI_75_11, gI_75_12, gI_75_13, gL_75_14, gR_75_15, gR_75_16, gR_75_17, gR_75_18, gI_75_19, gI_75_20, gR_75_21, gR_75_22, gR_75_23, gI_75_24, gR_75_25, gI_75_26, gL_75_27, gL_75_28, gR_75_29, gR_75_30, gI_75_31, gR_75_3, gQ_75_3, gN_75_3, gR_75_4, gQ_75_4, gN_75_4, pI_0_7, pI_1_1, pI_1_5, pI_1_6, pI_1_7, pI_1_8, pI_1_9, pL_1_10, pI_1_11, pI_1_12, pI_1_13, pI_1_14, pI_30_2, pI_30_3, pI_30_4, pI_35_2, pI_41_1, pZ0_41_1, pZ1_41_1, pI_41_2, pI_44_2, pZ0_44_2, pZ1_44_2, pI_44_3, pI_49_2, pI_49_3, pI_75_0, pI_75_1, pI_75_2, pI_75_6, pI_75_7, pI_75_8, pI_75_9, pI_75_10, pI_75_11, pI_75_12, pI_75_13, pL_75_14, pI_75_19, pI_75_20, pI_75_24, pI_75_26, pL_75_27, pL_75_28, pI_75_31, Option.bind_some, q_b2_some, q_zr_0, q_zr_1, x10_fine, x10_refused, x12_good, x12_refused, mC, mI_0, mI_1, mI_2, mI_3, mI_4, mI_5, mI_6, mI_7, mI_8, mI_9, mI_10, mR_11, mR_12, mR_13, mR_14, mR_15, mR_16, mR_17, mR_18, mR_19, mR_20, mR_21, mR_22, mR_23, mR_24, mR_25, mR_26, mR_27, mR_28, mR_29, mR_30, mR_31, mR_32, mR_33, mR_34, ma_1, ma_2, ma_3, ma_4, ma_5, ma_6, ma_7, ma_8, ma_9, ma_10, ma_11, ma_12, ma_13, ma_14, ma_15, ma_16, ma_17, ma_18, ma_19, ma_20, ma_21, ma_22, ma_23, ma_24, hMs, h9, c, if_false, i8, e1, e2, e3, e4, en, cc, cL, if_true, a2, show ((0 : Int32) = 1) = False from by decide, hp, Bool.false_and, Bool.false_eq_true]
      · have hp : lmP (col u M) L i = true := by
          unfold lmP
          rw [a1, decide_eq_true (show L < exN (col u M) i by omega)]
          rfl
        simp -implicitDefEqProofs only [L_X12_isLimit_2, J_X12_isLimit_68, gC_0, gR_0_0, gR_0_1, gR_0_2, gR_0_3, gR_0_4, gR_0_5, gR_0_6, gI_0_7, gR_0_8, gC_1, gR_1_0, gI_1_1, gR_1_2, gR_1_3, gR_1_4, gI_1_5, gI_1_6, gI_1_7, gI_1_8, gI_1_9, gL_1_10, gI_1_11, gI_1_12, gI_1_13, gI_1_14, gC_27, gR_27_0, gC_30, gR_30_0, gR_30_1, gI_30_2, gI_30_3, gI_30_4, gC_35, gR_35_0, gR_35_1, gI_35_2, gC_36, gR_36_0, gC_41, gR_41_0, gI_41_1, gI_41_2, gC_44, gR_44_0, gR_44_1, gI_44_2, gI_44_3, gC_49, gR_49_0, gR_49_1, gI_49_2, gI_49_3, gC_75, gI_75_0, gI_75_1, gI_75_2, gR_75_5, gI_75_6, gI_75_7, gI_75_8, gI_75_9, gI_75_10, gI_75_11, gI_75_12, gI_75_13, gL_75_14, gR_75_15, gR_75_16, gR_75_17, gR_75_18, gI_75_19, gI_75_20, gR_75_21, gR_75_22, gR_75_23, gI_75_24, gR_75_25, gI_75_26, gL_75_27, gL_75_28, gR_75_29, gR_75_30, gI_75_31, gR_75_3, gQ_75_3, gN_75_3, gR_75_4, gQ_75_4, gN_75_4, pI_0_7, pI_1_1, pI_1_5, pI_1_6, pI_1_7, pI_1_8, pI_1_9, pL_1_10, pI_1_11, pI_1_12, pI_1_13, pI_1_14, pI_30_2, pI_30_3, pI_30_4, pI_35_2, pI_41_1, pZ0_41_1, pZ1_41_1, pI_41_2, pI_44_2, pZ0_44_2, pZ1_44_2, pI_44_3, pI_49_2, pI_49_3, pI_75_0, pI_75_1, pI_75_2, pI_75_6, pI_75_7, pI_75_8, pI_75_9, pI_75_10, pI_75_11, pI_75_12, pI_75_13, pL_75_14, pI_75_19, pI_75_20, pI_75_24, pI_75_26, pL_75_27, pL_75_28, pI_75_31, Option.bind_some, q_b2_some, q_zr_0, q_zr_1, x10_fine, x10_refused, x12_good, x12_refused, mC, mI_0, mI_1, mI_2, mI_3, mI_4, mI_5, mI_6, mI_7, mI_8, mI_9, mI_10, mR_11, mR_12, mR_13, mR_14, mR_15, mR_16, mR_17, mR_18, mR_19, mR_20, mR_21, mR_22, mR_23, mR_24, mR_25, mR_26, mR_27, mR_28, mR_29, mR_30, mR_31, mR_32, mR_33, mR_34, ma_1, ma_2, ma_3, ma_4, ma_5, ma_6, ma_7, ma_8, ma_9, ma_10, ma_11, ma_12, ma_13, ma_14, ma_15, ma_16, ma_17, ma_18, ma_19, ma_20, ma_21, ma_22, ma_23, ma_24, hMs, h9, c, if_false, i8, e1, e2, e3, e4, en, cc, cL, if_true, a2, nI_1, hp, Bool.true_and]
        exact nx
    · by_cases cL : exN (col u M) i ≤ L
      · have hp : lmP (col u M) L i = true := by
          unfold lmP
          rw [a1, decide_eq_false (show ¬ L < exN (col u M) i by omega)]
          rfl
        simp -implicitDefEqProofs only [L_X12_isLimit_2, J_X12_isLimit_68, gC_0, gR_0_0, gR_0_1, gR_0_2, gR_0_3, gR_0_4, gR_0_5, gR_0_6, gI_0_7, gR_0_8, gC_1, gR_1_0, gI_1_1, gR_1_2, gR_1_3, gR_1_4, gI_1_5, gI_1_6, gI_1_7, gI_1_8, gI_1_9, gL_1_10, gI_1_11, gI_1_12, gI_1_13, gI_1_14, gC_27, gR_27_0, gC_30, gR_30_0, gR_30_1, gI_30_2, gI_30_3, gI_30_4, gC_35, gR_35_0, gR_35_1, gI_35_2, gC_36, gR_36_0, gC_41, gR_41_0, gI_41_1, gI_41_2, gC_44, gR_44_0, gR_44_1, gI_44_2, gI_44_3, gC_49, gR_49_0, gR_49_1, gI_49_2, gI_49_3, gC_75, gI_75_0, gI_75_1, gI_75_2, gR_75_5, gI_75_6, gI_75_7, gI_75_8, gI_75_9, gI_75_10, gI_75_11, gI_75_12, gI_75_13, gL_75_14, gR_75_15, gR_75_16, gR_75_17, gR_75_18, gI_75_19, gI_75_20, gR_75_21, gR_75_22, gR_75_23, gI_75_24, gR_75_25, gI_75_26, gL_75_27, gL_75_28, gR_75_29, gR_75_30, gI_75_31, gR_75_3, gQ_75_3, gN_75_3, gR_75_4, gQ_75_4, gN_75_4, pI_0_7, pI_1_1, pI_1_5, pI_1_6, pI_1_7, pI_1_8, pI_1_9, pL_1_10, pI_1_11, pI_1_12, pI_1_13, pI_1_14, pI_30_2, pI_30_3, pI_30_4, pI_35_2, pI_41_1, pZ0_41_1, pZ1_41_1, pI_41_2, pI_44_2, pZ0_44_2, pZ1_44_2, pI_44_3, pI_49_2, pI_49_3, pI_75_0, pI_75_1, pI_75_2, pI_75_6, pI_75_7, pI_75_8, pI_75_9, pI_75_10, pI_75_11, pI_75_12, pI_75_13, pL_75_14, pI_75_19, pI_75_20, pI_75_24, pI_75_26, pL_75_27, pL_75_28, pI_75_31, Option.bind_some, q_b2_some, q_zr_0, q_zr_1, x10_fine, x10_refused, x12_good, x12_refused, mC, mI_0, mI_1, mI_2, mI_3, mI_4, mI_5, mI_6, mI_7, mI_8, mI_9, mI_10, mR_11, mR_12, mR_13, mR_14, mR_15, mR_16, mR_17, mR_18, mR_19, mR_20, mR_21, mR_22, mR_23, mR_24, mR_25, mR_26, mR_27, mR_28, mR_29, mR_30, mR_31, mR_32, mR_33, mR_34, ma_1, ma_2, ma_3, ma_4, ma_5, ma_6, ma_7, ma_8, ma_9, ma_10, ma_11, ma_12, ma_13, ma_14, ma_15, ma_16, ma_17, ma_18, ma_19, ma_20, ma_21, ma_22, ma_23, ma_24, hMs, h9, c, if_false, i8, e1, e2, e3, e4, en, cc, cL, if_true, a2, nI_1, hp, Bool.true_and]
        exact nx
      · have hp : lmP (col u M) L i = false := by
          unfold lmP
          rw [a1, decide_eq_true (show L < exN (col u M) i by omega)]
          rfl
        simp -implicitDefEqProofs only [L_X12_isLimit_2, J_X12_isLimit_68, gC_0, gR_0_0, gR_0_1, gR_0_2, gR_0_3, gR_0_4, gR_0_5, gR_0_6, gI_0_7, gR_0_8, gC_1, gR_1_0, gI_1_1, gR_1_2, gR_1_3, gR_1_4, gI_1_5, gI_1_6, gI_1_7, gI_1_8, gI_1_9, gL_1_10, gI_1_11, gI_1_12, gI_1_13, gI_1_14, gC_27, gR_27_0, gC_30, gR_30_0, gR_30_1, gI_30_2, gI_30_3, gI_30_4, gC_35, gR_35_0, gR_35_1, gI_35_2, gC_36, gR_36_0, gC_41, gR_41_0, gI_41_1, gI_41_2, gC_44, gR_44_0, gR_44_1, gI_44_2, gI_44_3, gC_49, gR_49_0, gR_49_1, gI_49_2, gI_49_3, gC_75, gI_75_0, gI_75_1, gI_75_2, gR_75_5, gI_75_6, gI_75_7, gI_75_8, gI_75_9, gI_75_10, gI_75_11, gI_75_12, gI_75_13, gL_75_14, gR_75_15, gR_75_16, gR_75_17, gR_75_18, gI_75_19, gI_75_20, gR_75_21, gR_75_22, gR_75_23, gI_75_24, gR_75_25, gI_75_26, gL_75_27, gL_75_28, gR_75_29, gR_75_30, gI_75_31, gR_75_3, gQ_75_3, gN_75_3, gR_75_4, gQ_75_4, gN_75_4, pI_0_7, pI_1_1, pI_1_5, pI_1_6, pI_1_7, pI_1_8, pI_1_9, pL_1_10, pI_1_11, pI_1_12, pI_1_13, pI_1_14, pI_30_2, pI_30_3, pI_30_4, pI_35_2, pI_41_1, pZ0_41_1, pZ1_41_1, pI_41_2, pI_44_2, pZ0_44_2, pZ1_44_2, pI_44_3, pI_49_2, pI_49_3, pI_75_0, pI_75_1, pI_75_2, pI_75_6, pI_75_7, pI_75_8, pI_75_9, pI_75_10, pI_75_11, pI_75_12, pI_75_13, pL_75_14, pI_75_19, pI_75_20, pI_75_24, pI_75_26, pL_75_27, pL_75_28, pI_75_31, Option.bind_some, q_b2_some, q_zr_0, q_zr_1, x10_fine, x10_refused, x12_good, x12_refused, mC, mI_0, mI_1, mI_2, mI_3, mI_4, mI_5, mI_6, mI_7, mI_8, mI_9, mI_10, mR_11, mR_12, mR_13, mR_14, mR_15, mR_16, mR_17, mR_18, mR_19, mR_20, mR_21, mR_22, mR_23, mR_24, mR_25, mR_26, mR_27, mR_28, mR_29, mR_30, mR_31, mR_32, mR_33, mR_34, ma_1, ma_2, ma_3, ma_4, ma_5, ma_6, ma_7, ma_8, ma_9, ma_10, ma_11, ma_12, ma_13, ma_14, ma_15, ma_16, ma_17, ma_18, ma_19, ma_20, ma_21, ma_22, ma_23, ma_24, hMs, h9, c, if_false, i8, e1, e2, e3, e4, en, cc, cL, a2, ne10, hp, Bool.false_and, Bool.false_eq_true]
abbrev lmQ (K : cK) (n L : Nat) : Bool := decide (lsF K n ≤ L ∧ L < grF K n)
theorem ref_isLimit {L : Nat} (hMs : mSh (SH T D (fR M) c4 m) M) (h : relC u T M N) (hL : L ≤ 100) : f_X12_isLimit (Rep (SH T D (fR M) c4 m) u v) 75 (nI L) = some (if lmQ (col u M) (N 9) L = true then 1 else 0) := by
  have b9 : N 9 ≤ 8 := (bndN_of h.1).2.2.2.2.2.2.2.2.2
  have e := ref_isLim (v := v) hMs h hL (N 9) 0 1000000000 (by omega) (by omega)
  rw [nI_0] at e
  unfold f_X12_isLimit
  rw [gC_75, Option.bind_some, e]
  have : (allB (lmP (col u M) L) (N 9) 0 = true) = (lmQ (col u M) (N 9) L = true) := by
    apply propext
    rw [allB_iff, decide_eq_true_iff, ← lim_iff (col u M) L (N 9) hL]
    constructor
    · intro h k hk
      exact of_decide_eq_true (h k (by omega) (by omega))
    · intro h k h1 h2
      exact decide_eq_true (h k (by omega))
  simp -implicitDefEqProofs only [this]
theorem oI_2 {b : Option Nat} (hb : ∀ x, b = some x → x < 2 ^ 31) : oI b = -2 ↔ b = none := by
  cases b with
  | none => exact ⟨fun _ => rfl, fun _ => rfl⟩
  | some x =>
    refine ⟨fun z => ?_, fun z => by cases z⟩
    have z : nI x = -2 := z
    exact absurd (show nI x < 0 by rw [z]; decide) (nI_pos (hb x rfl))
theorem ref_limit {x : Int32} (hMs : mSh (SH T D (fR M) c4 m) M) (h : relC u T M N) : ∀ (r i f : Nat) (b : Option Nat), i + r = 101 → r < f → (∀ y, b = some y → y < 200) → L_X12_limit_23 f 75 x (oI b) (nI i) (Rep (SH T D (fR M) c4 m) u v) = some (oI (lp (lbS (lmQ (col u M) (N 9)) (decide (¬ x = 0))) r i b), Rep (SH T D (fR M) c4 m) (wr (wr u 75 1 0) 75 2 (-1)) v) := by
  intro r
  induction r with
  | zero =>
    intro i f b hi hf hb
    obtain ⟨f, rfl⟩ : ∃ f', f = f' + 1 := ⟨f - 1, by omega⟩
    have c : (100 : Int32) < nI i := nI_lt (a := 100) (by omega) (by omega)
    simp -implicitDefEqProofs only [L_X12_limit_23, c, if_true, gC_0, gR_0_0, gR_0_1, gR_0_2, gR_0_3, gR_0_4, gR_0_5, gR_0_6, gI_0_7, gR_0_8, gC_1, gR_1_0, gI_1_1, gR_1_2, gR_1_3, gR_1_4, gI_1_5, gI_1_6, gI_1_7, gI_1_8, gI_1_9, gL_1_10, gI_1_11, gI_1_12, gI_1_13, gI_1_14, gC_27, gR_27_0, gC_30, gR_30_0, gR_30_1, gI_30_2, gI_30_3, gI_30_4, gC_35, gR_35_0, gR_35_1, gI_35_2, gC_36, gR_36_0, gC_41, gR_41_0, gI_41_1, gI_41_2, gC_44, gR_44_0, gR_44_1, gI_44_2, gI_44_3, gC_49, gR_49_0, gR_49_1, gI_49_2, gI_49_3, gC_75, gI_75_0, gI_75_1, gI_75_2, gR_75_5, gI_75_6, gI_75_7, gI_75_8, gI_75_9, gI_75_10, gI_75_11, gI_75_12, gI_75_13, gL_75_14, gR_75_15, gR_75_16, gR_75_17, gR_75_18, gI_75_19, gI_75_20, gR_75_21, gR_75_22, gR_75_23, gI_75_24, gR_75_25, gI_75_26, gL_75_27, gL_75_28, gR_75_29, gR_75_30, gI_75_31, gR_75_3, gQ_75_3, gN_75_3, gR_75_4, gQ_75_4, gN_75_4, pI_0_7, pI_1_1, pI_1_5, pI_1_6, pI_1_7, pI_1_8, pI_1_9, pL_1_10, pI_1_11, pI_1_12, pI_1_13, pI_1_14, pI_30_2, pI_30_3, pI_30_4, pI_35_2, pI_41_1, pZ0_41_1, pZ1_41_1, pI_41_2, pI_44_2, pZ0_44_2, pZ1_44_2, pI_44_3, pI_49_2, pI_49_3, pI_75_0, pI_75_1, pI_75_2, pI_75_6, pI_75_7, pI_75_8, pI_75_9, pI_75_10, pI_75_11, pI_75_12, pI_75_13, pL_75_14, pI_75_19, pI_75_20, pI_75_24, pI_75_26, pL_75_27, pL_75_28, pI_75_31, Option.bind_some, q_b2_some, q_zr_0, q_zr_1, x10_fine, x10_refused, x12_good, x12_refused, lp]
  | succ r ih =>
    intro i f b hi hf hb
    obtain ⟨f, rfl⟩ : ∃ f', f = f' + 1 := ⟨f - 1, by omega⟩
    have c : ¬ (100 : Int32) < nI i := nI_nlt (a := 100) (b := i) (by omega) (by omega)
    have e := ref_isLimit (v := v) hMs h (show i ≤ 100 by omega)
    have h2 := oI_2 (b := b) (fun x hx => by have := hb x hx; omega)
    have nx := fun b' hb' => ih (i + 1) f b' (by omega) (by omega) hb'
    simp -implicitDefEqProofs only [lp]
    by_cases c1 : lmQ (col u M) (N 9) i = true
    · rw [if_pos c1] at e
      by_cases c2 : x = 0
      · have hd : decide (¬ x = 0) = false := decide_eq_false (not_not_intro c2)
        cases b with
        | none =>
          have nx := nx (some i) (fun y hy => by cases hy; omega)
          have h3 : oI none = -2 := rfl
          rw [show lbS (lmQ (col u M) (N 9)) (decide (¬ x = 0)) i none = some i by unfold lbS; rw [if_pos c1, hd, if_neg (by decide)]]
          simp -implicitDefEqProofs only [L_X12_limit_23, c, if_false, e, Option.bind_some, ne10, if_pos c2, h3, nI_1, if_true]
          exact nx
        | some z =>
          have nx := nx (some z) hb
          have h3 : ¬ oI (some z) = -2 := fun y => by cases h2.mp y
          rw [show lbS (lmQ (col u M) (N 9)) (decide (¬ x = 0)) i (some z) = some z by unfold lbS; rw [if_pos c1, hd, if_neg (by decide)]]
          simp -implicitDefEqProofs only [L_X12_limit_23, c, if_false, e, Option.bind_some, ne10, if_pos c2, h3, nI_1]
          exact nx
      · have nx := nx (some i) (fun y hy => by cases hy; omega)
        rw [show lbS (lmQ (col u M) (N 9)) (decide (¬ x = 0)) i b = some i by unfold lbS; rw [if_pos c1, if_pos (decide_eq_true c2)]]
        simp -implicitDefEqProofs only [L_X12_limit_23, c, if_false, e, Option.bind_some, ne10, if_neg c2, nI_1]
        exact nx
    · rw [if_neg c1] at e
      have nx := nx b hb
      rw [show lbS (lmQ (col u M) (N 9)) (decide (¬ x = 0)) i b = b by unfold lbS; rw [if_neg c1]]
      simp -implicitDefEqProofs only [L_X12_limit_23, c, if_false, e, Option.bind_some, if_true, nI_1]
      exact nx
theorem lb_val {A B : Nat} {most : Bool} (hA : A ≤ 100) (hB : B ≤ 101) : ∀ (r i : Nat), i + r = 101 → lp (lbS (fun L => decide (A ≤ L ∧ L < B)) most) r i (if A < min B i then some (if most = true then min B i - 1 else A) else none) = if A < B then some (if most = true then B - 1 else A) else none := by
  intro r
  induction r with
  | zero =>
    intro i hi
    simp -implicitDefEqProofs only [lp]
    rw [show min B i = B by omega]
  | succ r ih =>
    intro i hi
    simp -implicitDefEqProofs only [lp]
    rw [← ih (i + 1) (by omega)]
    have key : lbS (fun L => decide (A ≤ L ∧ L < B)) most i (if A < min B i then some (if most = true then min B i - 1 else A) else none) = (if A < min B (i + 1) then some (if most = true then min B (i + 1) - 1 else A) else none) := by
      by_cases c1 : A ≤ i ∧ i < B
      · have hp : (fun L => decide (A ≤ L ∧ L < B)) i = true := decide_eq_true c1
        unfold lbS
        rw [if_pos hp, if_pos (show A < min B (i + 1) by omega)]
        cases most with
        | true =>
          rw [if_pos rfl, if_pos rfl, show min B (i + 1) - 1 = i by omega]
        | false =>
          rw [if_neg (show ¬ false = true by decide), if_neg (show ¬ false = true by decide)]
          by_cases c2 : A < min B i
          · rw [if_pos c2, if_neg (show ¬ false = true by decide)]
          · rw [if_neg c2]
            show some i = some A
            rw [show i = A by omega]
      · have hp : ¬ (fun L => decide (A ≤ L ∧ L < B)) i = true := by
          show ¬ decide (A ≤ i ∧ i < B) = true
          rw [decide_eq_false c1]
          decide
        unfold lbS
        rw [if_neg hp]
        by_cases c2 : A < min B i
        · rw [if_pos c2, if_pos (show A < min B (i + 1) by omega), show min B (i + 1) = min B i by omega]
        · rw [if_neg c2, if_neg (show ¬ A < min B (i + 1) by omega)]
    rw [key]
end LIN
section LIO
variable {P Q : cP}
theorem P31 : q_P31c (Inv P Q) := by
  intro g n x0 hI
  show ∃ g', (q_b2 (f_X10_limit g 0 (q_bz x0)) fun r1 g1 => q_b2 (f_X12_limit g1 75 (q_bz x0)) fun r2 g2 => if r1 = r2 then some g2 else none) = some g' ∧ _
  generalize q_bz x0 = x1
  refine go0 (f10 := fun g => f_X10_limit g 0 x1) (f12 := fun g => f_X12_limit g 75 x1) (A0 := -1) hI ?_ ?_ ?_
  · intro T D c4 m u v ho hN
    simp -implicitDefEqProofs only [f_X10_limit, f_X10_noCollege, gC_0, gR_0_0, gR_0_1, gR_0_2, gR_0_3, gR_0_4, gR_0_5, gR_0_6, gI_0_7, gR_0_8, gC_1, gR_1_0, gI_1_1, gR_1_2, gR_1_3, gR_1_4, gI_1_5, gI_1_6, gI_1_7, gI_1_8, gI_1_9, gL_1_10, gI_1_11, gI_1_12, gI_1_13, gI_1_14, gC_27, gR_27_0, gC_30, gR_30_0, gR_30_1, gI_30_2, gI_30_3, gI_30_4, gC_35, gR_35_0, gR_35_1, gI_35_2, gC_36, gR_36_0, gC_41, gR_41_0, gI_41_1, gI_41_2, gC_44, gR_44_0, gR_44_1, gI_44_2, gI_44_3, gC_49, gR_49_0, gR_49_1, gI_49_2, gI_49_3, gC_75, gI_75_0, gI_75_1, gI_75_2, gR_75_5, gI_75_6, gI_75_7, gI_75_8, gI_75_9, gI_75_10, gI_75_11, gI_75_12, gI_75_13, gL_75_14, gR_75_15, gR_75_16, gR_75_17, gR_75_18, gI_75_19, gI_75_20, gR_75_21, gR_75_22, gR_75_23, gI_75_24, gR_75_25, gI_75_26, gL_75_27, gL_75_28, gR_75_29, gR_75_30, gI_75_31, gR_75_3, gQ_75_3, gN_75_3, gR_75_4, gQ_75_4, gN_75_4, pI_0_7, pI_1_1, pI_1_5, pI_1_6, pI_1_7, pI_1_8, pI_1_9, pL_1_10, pI_1_11, pI_1_12, pI_1_13, pI_1_14, pI_30_2, pI_30_3, pI_30_4, pI_35_2, pI_41_1, pZ0_41_1, pZ1_41_1, pI_41_2, pI_44_2, pZ0_44_2, pZ1_44_2, pI_44_3, pI_49_2, pI_49_3, pI_75_0, pI_75_1, pI_75_2, pI_75_6, pI_75_7, pI_75_8, pI_75_9, pI_75_10, pI_75_11, pI_75_12, pI_75_13, pL_75_14, pI_75_19, pI_75_20, pI_75_24, pI_75_26, pL_75_27, pL_75_28, pI_75_31, Option.bind_some, q_b2_some, q_zr_0, q_zr_1, x10_fine, x10_refused, x12_good, x12_refused, cls_k0 ho hN, if_true, if_false, ne10]
  · intro T D c4 m u v
    simp -implicitDefEqProofs only [f_X12_limit, gC_0, gR_0_0, gR_0_1, gR_0_2, gR_0_3, gR_0_4, gR_0_5, gR_0_6, gI_0_7, gR_0_8, gC_1, gR_1_0, gI_1_1, gR_1_2, gR_1_3, gR_1_4, gI_1_5, gI_1_6, gI_1_7, gI_1_8, gI_1_9, gL_1_10, gI_1_11, gI_1_12, gI_1_13, gI_1_14, gC_27, gR_27_0, gC_30, gR_30_0, gR_30_1, gI_30_2, gI_30_3, gI_30_4, gC_35, gR_35_0, gR_35_1, gI_35_2, gC_36, gR_36_0, gC_41, gR_41_0, gI_41_1, gI_41_2, gC_44, gR_44_0, gR_44_1, gI_44_2, gI_44_3, gC_49, gR_49_0, gR_49_1, gI_49_2, gI_49_3, gC_75, gI_75_0, gI_75_1, gI_75_2, gR_75_5, gI_75_6, gI_75_7, gI_75_8, gI_75_9, gI_75_10, gI_75_11, gI_75_12, gI_75_13, gL_75_14, gR_75_15, gR_75_16, gR_75_17, gR_75_18, gI_75_19, gI_75_20, gR_75_21, gR_75_22, gR_75_23, gI_75_24, gR_75_25, gI_75_26, gL_75_27, gL_75_28, gR_75_29, gR_75_30, gI_75_31, gR_75_3, gQ_75_3, gN_75_3, gR_75_4, gQ_75_4, gN_75_4, pI_0_7, pI_1_1, pI_1_5, pI_1_6, pI_1_7, pI_1_8, pI_1_9, pL_1_10, pI_1_11, pI_1_12, pI_1_13, pI_1_14, pI_30_2, pI_30_3, pI_30_4, pI_35_2, pI_41_1, pZ0_41_1, pZ1_41_1, pI_41_2, pI_44_2, pZ0_44_2, pZ1_44_2, pI_44_3, pI_49_2, pI_49_3, pI_75_0, pI_75_1, pI_75_2, pI_75_6, pI_75_7, pI_75_8, pI_75_9, pI_75_10, pI_75_11, pI_75_12, pI_75_13, pL_75_14, pI_75_19, pI_75_20, pI_75_24, pI_75_26, pL_75_27, pL_75_28, pI_75_31, Option.bind_some, q_b2_some, q_zr_0, q_zr_1, x10_fine, x10_refused, x12_good, x12_refused, if_true]
  · intro T D c4 m u v M N ho hC hM h88 hb hA
    have hb0 : N 0 ≤ 7 := hb.1
    have b9 : N 9 ≤ 8 := hb.2.2.2.2.2.2.2.2.2
    have h2 : 2 ≤ N 0 := hA.2.1.1
    have z0 : ¬ nI (N 0) = 0 := nI_ne0 (by omega) (by omega)
    have hl := ls_le hA.1 (N 9) (by omega)
    have e := fun kk => cls_limit (c3 := fR M) (c4 := c4) (m := m) (v := v) (kk := kk) (x := x1) ho hA.1 (N 9) 0 1000000000 (by omega) (by omega)
    rw [nI_0, show lsF (col u M) 0 = 0 from rfl, nI_0, show grF (col u M) 0 = 101 from rfl, show nI 101 - 1 = (100 : Int32) from rfl] at e
    refine ⟨oI (if lsF (col u M) (N 9) < grF (col u M) (N 9) then some (if decide (¬ x1 = 0) = true then grF (col u M) (N 9) - 1 else lsF (col u M) (N 9)) else none), 0, by decide, ?_, ?_⟩
    · simp -implicitDefEqProofs only [f_X10_limit, f_X10_noCollege, gC_0, gR_0_0, gR_0_1, gR_0_2, gR_0_3, gR_0_4, gR_0_5, gR_0_6, gI_0_7, gR_0_8, gC_1, gR_1_0, gI_1_1, gR_1_2, gR_1_3, gR_1_4, gI_1_5, gI_1_6, gI_1_7, gI_1_8, gI_1_9, gL_1_10, gI_1_11, gI_1_12, gI_1_13, gI_1_14, gC_27, gR_27_0, gC_30, gR_30_0, gR_30_1, gI_30_2, gI_30_3, gI_30_4, gC_35, gR_35_0, gR_35_1, gI_35_2, gC_36, gR_36_0, gC_41, gR_41_0, gI_41_1, gI_41_2, gC_44, gR_44_0, gR_44_1, gI_44_2, gI_44_3, gC_49, gR_49_0, gR_49_1, gI_49_2, gI_49_3, gC_75, gI_75_0, gI_75_1, gI_75_2, gR_75_5, gI_75_6, gI_75_7, gI_75_8, gI_75_9, gI_75_10, gI_75_11, gI_75_12, gI_75_13, gL_75_14, gR_75_15, gR_75_16, gR_75_17, gR_75_18, gI_75_19, gI_75_20, gR_75_21, gR_75_22, gR_75_23, gI_75_24, gR_75_25, gI_75_26, gL_75_27, gL_75_28, gR_75_29, gR_75_30, gI_75_31, gR_75_3, gQ_75_3, gN_75_3, gR_75_4, gQ_75_4, gN_75_4, pI_0_7, pI_1_1, pI_1_5, pI_1_6, pI_1_7, pI_1_8, pI_1_9, pL_1_10, pI_1_11, pI_1_12, pI_1_13, pI_1_14, pI_30_2, pI_30_3, pI_30_4, pI_35_2, pI_41_1, pZ0_41_1, pZ1_41_1, pI_41_2, pI_44_2, pZ0_44_2, pZ1_44_2, pI_44_3, pI_49_2, pI_49_3, pI_75_0, pI_75_1, pI_75_2, pI_75_6, pI_75_7, pI_75_8, pI_75_9, pI_75_10, pI_75_11, pI_75_12, pI_75_13, pL_75_14, pI_75_19, pI_75_20, pI_75_24, pI_75_26, pL_75_27, pL_75_28, pI_75_31, Option.bind_some, q_b2_some, q_zr_0, q_zr_1, x10_fine, x10_refused, x12_good, x12_refused, cls_c0 ho hA.1.1, z0, if_true, if_false, e]
      have hlt : (nI (lsF (col u M) (N 9)) ≤ nI (grF (col u M) (N 9)) - 1) ↔ lsF (col u M) (N 9) < grF (col u M) (N 9) := by
        rw [Int32.le_iff_toInt_le, show (1 : Int32) = nI 1 from rfl, pk_sub_toInt (by omega) (by omega), nI_toInt (by omega)]
        omega
      by_cases c : lsF (col u M) (N 9) < grF (col u M) (N 9)
      · rw [if_pos (hlt.mpr c), if_pos c]
        by_cases c2 : x1 = 0
        · rw [if_pos c2, if_neg (by rw [decide_eq_false (not_not_intro c2)]; decide)]
          rfl
        · rw [if_neg c2, if_pos (decide_eq_true c2)]
          obtain ⟨y, hy⟩ : ∃ y, grF (col u M) (N 9) = y + 1 := ⟨grF (col u M) (N 9) - 1, by omega⟩
          rw [hy, nI_pred]
          rfl
      · rw [if_neg (fun z => c (hlt.mp z)), if_neg c]
        rfl
    · intro u' v' hk hA' hc hr
      have e2 := ref_limit (v := v') (x := x1) hM hA'.1 101 0 1000000000 none (by omega) (by omega) (fun y hy => by cases hy)
      rw [show col (wr u' 75 0 0) M = col u M from funext hc, nI_0, show oI none = -2 from rfl] at e2
      have e3 := lb_val (most := decide (¬ x1 = 0)) hl.1 hl.2 101 0 (by omega)
      rw [if_neg (show ¬ lsF (col u M) (N 9) < min (grF (col u M) (N 9)) 0 by omega)] at e3
      rw [e3] at e2
      simp -implicitDefEqProofs only [f_X12_limit, gC_0, gR_0_0, gR_0_1, gR_0_2, gR_0_3, gR_0_4, gR_0_5, gR_0_6, gI_0_7, gR_0_8, gC_1, gR_1_0, gI_1_1, gR_1_2, gR_1_3, gR_1_4, gI_1_5, gI_1_6, gI_1_7, gI_1_8, gI_1_9, gL_1_10, gI_1_11, gI_1_12, gI_1_13, gI_1_14, gC_27, gR_27_0, gC_30, gR_30_0, gR_30_1, gI_30_2, gI_30_3, gI_30_4, gC_35, gR_35_0, gR_35_1, gI_35_2, gC_36, gR_36_0, gC_41, gR_41_0, gI_41_1, gI_41_2, gC_44, gR_44_0, gR_44_1, gI_44_2, gI_44_3, gC_49, gR_49_0, gR_49_1, gI_49_2, gI_49_3, gC_75, gI_75_0, gI_75_1, gI_75_2, gR_75_5, gI_75_6, gI_75_7, gI_75_8, gI_75_9, gI_75_10, gI_75_11, gI_75_12, gI_75_13, gL_75_14, gR_75_15, gR_75_16, gR_75_17, gR_75_18, gI_75_19, gI_75_20, gR_75_21, gR_75_22, gR_75_23, gI_75_24, gR_75_25, gI_75_26, gL_75_27, gL_75_28, gR_75_29, gR_75_30, gI_75_31, gR_75_3, gQ_75_3, gN_75_3, gR_75_4, gQ_75_4, gN_75_4, pI_0_7, pI_1_1, pI_1_5, pI_1_6, pI_1_7, pI_1_8, pI_1_9, pL_1_10, pI_1_11, pI_1_12, pI_1_13, pI_1_14, pI_30_2, pI_30_3, pI_30_4, pI_35_2, pI_41_1, pZ0_41_1, pZ1_41_1, pI_41_2, pI_44_2, pZ0_44_2, pZ1_44_2, pI_44_3, pI_49_2, pI_49_3, pI_75_0, pI_75_1, pI_75_2, pI_75_6, pI_75_7, pI_75_8, pI_75_9, pI_75_10, pI_75_11, pI_75_12, pI_75_13, pL_75_14, pI_75_19, pI_75_20, pI_75_24, pI_75_26, pL_75_27, pL_75_28, pI_75_31, Option.bind_some, q_b2_some, q_zr_0, q_zr_1, x10_fine, x10_refused, x12_good, x12_refused, reduceCtorEq, if_false, e2]
end LIO
