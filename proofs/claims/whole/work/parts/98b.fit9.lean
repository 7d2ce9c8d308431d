def isF (K : cK) (N : Nat → Nat) (x : Int32) : Bool := anyB (fun k => decide (nI (fT K k) = x)) (N 8) 0
section ISF
variable {T D m M : Nat} {c3 c4 : sF} {u : mU} {v : mV} {N : Nat → Nat} {x : Int32}
theorem cls_isFound (ho : okTD T D) (h : relC u T M N) : f_X3_isFound (Rep (SH T D c3 c4 m) u v) T x = some (bI (isF (col u M) N x)) := by
  have hCt := SH_told (c3 := c3) (c4 := c4) (m := m) ho
  have b8 : N 8 ≤ 4 := (bndN_of h.1).2.2.2.2.2.2.2.2.1
  have go : ∀ (r k f : Nat), k + r = N 8 → r < f → L_X3_isFound_2 (Rep (SH T D c3 c4 m) u v) f T x (nI k) = some (bI (anyB (fun k => decide (nI (fT (col u M) k) = x)) r k)) := by
    intro r
    induction r with
    | zero =>
      intro k f hk hf
      obtain ⟨f, rfl⟩ : ∃ f', f = f' + 1 := ⟨f - 1, by omega⟩
      have c : nI (N 8) ≤ nI k := nI_le (by omega) (by omega)
      rw [L_X3_isFound_2, cls_c8 ho h.1, Option.bind_some, if_pos c]
      rfl
    | succ r ih =>
      intro k f hk hf
      obtain ⟨f, rfl⟩ : ∃ f', f = f' + 1 := ⟨f - 1, by omega⟩
      have c : ¬ nI (N 8) ≤ nI k := nI_ge (by omega) (by omega)
      obtain ⟨t, p, ht, hp, e0, e1, e2, e3, e4⟩ := fnd_at h (show k < N 8 by omega)
      have e5 : fT (col u M) k = t := e0
      rw [show anyB (fun k => decide (nI (fT (col u M) k) = x)) (r + 1) k = (decide (nI (fT (col u M) k) = x) || anyB (fun k => decide (nI (fT (col u M) k) = x)) r (k + 1)) from rfl, e5]
      by_cases c1 : nI t = x
      · rw [decide_eq_true c1, Bool.true_or, L_X3_isFound_2, cls_c8 ho h.1, Option.bind_some, if_neg c, cR_5 hCt, Option.bind_some, cG_5 hCt, e3, Option.bind_some, if_pos c1]
        rfl
      · rw [decide_eq_false c1, Bool.false_or, ← ih (k + 1) f (by omega) (by omega), L_X3_isFound_2, cls_c8 ho h.1, Option.bind_some, if_neg c, cR_5 hCt, Option.bind_some, cG_5 hCt, e3, Option.bind_some, if_neg c1, nI_1]
  have e := go (N 8) 0 1000000000 (by omega) (by omega)
  rw [nI_0] at e
  unfold f_X3_isFound isF
  rw [cC hCt, Option.bind_some, e]
theorem cls_noFound (ho : okTD T D) (h : IN T u) : f_X3_isFound (Rep (SH T D c3 c4 m) u v) T x = some 0 := by
  have hCt := SH_told (c3 := c3) (c4 := c4) (m := m) ho
  unfold f_X3_isFound
  rw [cC hCt, Option.bind_some, show 1000000000 = 999999999 + 1 from rfl, L_X3_isFound_2, cls_k8 ho h, Option.bind_some, if_pos (by decide)]
theorem hasN_at {n t : Nat} (h : t < n) (hn : n < 2 ^ 31) : hasN n (nI t) = 1 := by
  unfold hasN
  rw [if_neg (nI_pos (by omega)), if_neg (nI_ge h hn)]
theorem isF_in (ho : okTD T D) (hM : 88 ≤ M) (h : relC u T M N) (hx : isF (col u M) N x = true) : 1 ≤ N 8 ∧ ∃ t, t < N 2 ∧ x = nI t ∧ ¬ u (M + 3) t = -2 := by
  have b3 : N 3 ≤ 5 := (bndN_of h.1).2.2.2.1
  unfold isF at hx
  rw [anyB_iff] at hx
  obtain ⟨k, -, hk, e⟩ := hx
  have e := of_decide_eq_true e
  have hk : k < N 8 := by omega
  obtain ⟨ht, hp, e3, e4⟩ := fnd_m ho hM h hk
  refine ⟨by omega, fT (col u M) k, ht, e.symm, ?_⟩
  rw [e4]
  intro z
  have : ¬ nI (fP (col u M) k) < 0 := nI_pos (by omega)
  rw [z] at this
  exact this (by decide)
theorem mod_isFoundT (ho : okTD T D) (hMs : mSh (SH T D (fR M) c4 m) M) (hM : 88 ≤ M) (h : relC u T M N) : f_X12_isFoundThing (Rep (SH T D (fR M) c4 m) u v) 75 x = some (bI (isF (col u M) N x)) := by
  have b2 : N 2 ≤ 4 := (bndN_of h.1).2.2.1
  have e1 := mod_isThing (v := v) (x := x) (N := N) hMs (h.1 2 (by decide)).2.1
  cases cf : isF (col u M) N x with
  | true =>
    obtain ⟨-, t, ht, rfl, hn⟩ := isF_in ho hM h cf
    rw [hasN_at ht (by omega)] at e1
    unfold f_X12_isFoundThing
    rw [gC_75, Option.bind_some, e1, Option.bind_some, if_neg (by decide), gR_75_3, Option.bind_some, mR_13 hMs, Option.bind_some, ma_3 hMs (show t < 4 by omega), Option.bind_some, if_neg hn]
    rfl
  | false =>
    unfold f_X12_isFoundThing
    rw [gC_75, Option.bind_some, e1, Option.bind_some]
    by_cases hx : hasN (N 2) x = 0
    · rw [if_pos hx]
      rfl
    · obtain ⟨t, ht, rfl⟩ := hasN_in hx (by omega)
      have hz : u (M + 3) t = -2 := by
        rcases h.2.2.2.2.2.2.2.2.1.2.1 t (by omega) with z | ⟨k, hk, e⟩
        · exact z
        · exfalso
          obtain ⟨-, -, e3, -⟩ := fnd_m ho hM h hk
          have : isF (col u M) N (nI t) = true := by
            unfold isF
            rw [anyB_iff]
            exact ⟨k, by omega, by omega, decide_eq_true (by rw [← e3, e])⟩
          rw [cf] at this
          cases this
      rw [if_neg hx, gR_75_3, Option.bind_some, mR_13 hMs, Option.bind_some, ma_3 hMs (show t < 4 by omega), Option.bind_some, if_pos hz]
      rfl
end ISF
theorem mod_noFoundT {T D m : Nat} {c4 : sF} {u : mU} {v : mV} {x : Int32} : f_X12_isFoundThing (Rep (SH T D fN c4 m) u v) 75 x = some 0 := by
  unfold f_X12_isFoundThing
  rw [gC_75, Option.bind_some, mod_noThing, Option.bind_some, if_pos rfl]
section FC2
variable {P : cP}
theorem P25 : q_P25c (Inv P fQ) := by
  intro g n x1 hI
  refine goC (f10 := fun g => f_X10_could g 0 x1) (f12 := fun g => f_X12_could g 75 x1) (A0 := -1) hI ?_ ?_ ?_
  · intro T D c4 m u v ho hN
    simp -implicitDefEqProofs only [f_X10_could, gC_0, gR_0_0, gR_0_1, gR_0_2, gR_0_3, gR_0_4, gR_0_5, gR_0_6, gI_0_7, gR_0_8, gC_1, gR_1_0, gI_1_1, gR_1_2, gR_1_3, gR_1_4, gI_1_5, gI_1_6, gI_1_7, gI_1_8, gI_1_9, gL_1_10, gI_1_11, gI_1_12, gI_1_13, gI_1_14, gC_27, gR_27_0, gC_30, gR_30_0, gR_30_1, gI_30_2, gI_30_3, gI_30_4, gC_35, gR_35_0, gR_35_1, gI_35_2, gC_36, gR_36_0, gC_41, gR_41_0, gI_41_1, gI_41_2, gC_44, gR_44_0, gR_44_1, gI_44_2, gI_44_3, gC_49, gR_49_0, gR_49_1, gI_49_2, gI_49_3, gC_75, gI_75_0, gI_75_1, gI_75_2, gR_75_5, gI_75_6, gI_75_7, gI_75_8, gI_75_9, gI_75_10, gI_75_11, gI_75_12, gI_75_13, gL_75_14, gR_75_15, gR_75_16, gR_75_17, gR_75_18, gI_75_19, gI_75_20, gR_75_21, gR_75_22, gR_75_23, gI_75_24, gR_75_25, gI_75_26, gL_75_27, gL_75_28, gR_75_29, gR_75_30, gI_75_31, gR_75_3, gQ_75_3, gN_75_3, gR_75_4, gQ_75_4, gN_75_4, pI_0_7, pI_1_1, pI_1_5, pI_1_6, pI_1_7, pI_1_8, pI_1_9, pL_1_10, pI_1_11, pI_1_12, pI_1_13, pI_1_14, pI_30_2, pI_30_3, pI_30_4, pI_35_2, pI_41_1, pZ0_41_1, pZ1_41_1, pI_41_2, pI_44_2, pZ0_44_2, pZ1_44_2, pI_44_3, pI_49_2, pI_49_3, pI_75_0, pI_75_1, pI_75_2, pI_75_6, pI_75_7, pI_75_8, pI_75_9, pI_75_10, pI_75_11, pI_75_12, pI_75_13, pL_75_14, pI_75_19, pI_75_20, pI_75_24, pI_75_26, pL_75_27, pL_75_28, pI_75_31, Option.bind_some, q_b2_some, q_zr_0, q_zr_1, x10_fine, x10_refused, x12_good, x12_refused, cls_noFound ho hN, if_true, if_false, ne10]
  · intro T D c4 m u v
    simp -implicitDefEqProofs only [f_X12_could, gC_0, gR_0_0, gR_0_1, gR_0_2, gR_0_3, gR_0_4, gR_0_5, gR_0_6, gI_0_7, gR_0_8, gC_1, gR_1_0, gI_1_1, gR_1_2, gR_1_3, gR_1_4, gI_1_5, gI_1_6, gI_1_7, gI_1_8, gI_1_9, gL_1_10, gI_1_11, gI_1_12, gI_1_13, gI_1_14, gC_27, gR_27_0, gC_30, gR_30_0, gR_30_1, gI_30_2, gI_30_3, gI_30_4, gC_35, gR_35_0, gR_35_1, gI_35_2, gC_36, gR_36_0, gC_41, gR_41_0, gI_41_1, gI_41_2, gC_44, gR_44_0, gR_44_1, gI_44_2, gI_44_3, gC_49, gR_49_0, gR_49_1, gI_49_2, gI_49_3, gC_75, gI_75_0, gI_75_1, gI_75_2, gR_75_5, gI_75_6, gI_75_7, gI_75_8, gI_75_9, gI_75_10, gI_75_11, gI_75_12, gI_75_13, gL_75_14, gR_75_15, gR_75_16, gR_75_17, gR_75_18, gI_75_19, gI_75_20, gR_75_21, gR_75_22, gR_75_23, gI_75_24, gR_75_25, gI_75_26, gL_75_27, gL_75_28, gR_75_29, gR_75_30, gI_75_31, gR_75_3, gQ_75_3, gN_75_3, gR_75_4, gQ_75_4, gN_75_4, pI_0_7, pI_1_1, pI_1_5, pI_1_6, pI_1_7, pI_1_8, pI_1_9, pL_1_10, pI_1_11, pI_1_12, pI_1_13, pI_1_14, pI_30_2, pI_30_3, pI_30_4, pI_35_2, pI_41_1, pZ0_41_1, pZ1_41_1, pI_41_2, pI_44_2, pZ0_44_2, pZ1_44_2, pI_44_3, pI_49_2, pI_49_3, pI_75_0, pI_75_1, pI_75_2, pI_75_6, pI_75_7, pI_75_8, pI_75_9, pI_75_10, pI_75_11, pI_75_12, pI_75_13, pL_75_14, pI_75_19, pI_75_20, pI_75_24, pI_75_26, pL_75_27, pL_75_28, pI_75_31, Option.bind_some, q_b2_some, q_zr_0, q_zr_1, x10_fine, x10_refused, x12_good, x12_refused, mod_noFoundT, if_true]
  · intro T D c4 m u v M N ho hC hM h88 hb hA hW
    have b2 : N 2 ≤ 4 := hb.2.2.1
    have e0 := cls_isFound (c3 := fR M) (c4 := c4) (m := m) (v := v) (x := x1) ho hA.1
    cases cf : isF (col u M) N x1 with
    | false =>
      rw [cf] at e0
      refine ⟨-1, 1, u, v, by decide, ?_, keepB_refl, hW, ?_⟩
      · simp -implicitDefEqProofs only [f_X10_could, gC_0, gR_0_0, gR_0_1, gR_0_2, gR_0_3, gR_0_4, gR_0_5, gR_0_6, gI_0_7, gR_0_8, gC_1, gR_1_0, gI_1_1, gR_1_2, gR_1_3, gR_1_4, gI_1_5, gI_1_6, gI_1_7, gI_1_8, gI_1_9, gL_1_10, gI_1_11, gI_1_12, gI_1_13, gI_1_14, gC_27, gR_27_0, gC_30, gR_30_0, gR_30_1, gI_30_2, gI_30_3, gI_30_4, gC_35, gR_35_0, gR_35_1, gI_35_2, gC_36, gR_36_0, gC_41, gR_41_0, gI_41_1, gI_41_2, gC_44, gR_44_0, gR_44_1, gI_44_2, gI_44_3, gC_49, gR_49_0, gR_49_1, gI_49_2, gI_49_3, gC_75, gI_75_0, gI_75_1, gI_75_2, gR_75_5, gI_75_6, gI_75_7, gI_75_8, gI_75_9, gI_75_10, gI_75_11, gI_75_12, gI_75_13, gL_75_14, gR_75_15, gR_75_16, gR_75_17, gR_75_18, gI_75_19, gI_75_20, gR_75_21, gR_75_22, gR_75_23, gI_75_24, gR_75_25, gI_75_26, gL_75_27, gL_75_28, gR_75_29, gR_75_30, gI_75_31, gR_75_3, gQ_75_3, gN_75_3, gR_75_4, gQ_75_4, gN_75_4, pI_0_7, pI_1_1, pI_1_5, pI_1_6, pI_1_7, pI_1_8, pI_1_9, pL_1_10, pI_1_11, pI_1_12, pI_1_13, pI_1_14, pI_30_2, pI_30_3, pI_30_4, pI_35_2, pI_41_1, pZ0_41_1, pZ1_41_1, pI_41_2, pI_44_2, pZ0_44_2, pZ1_44_2, pI_44_3, pI_49_2, pI_49_3, pI_75_0, pI_75_1, pI_75_2, pI_75_6, pI_75_7, pI_75_8, pI_75_9, pI_75_10, pI_75_11, pI_75_12, pI_75_13, pL_75_14, pI_75_19, pI_75_20, pI_75_24, pI_75_26, pL_75_27, pL_75_28, pI_75_31, Option.bind_some, q_b2_some, q_zr_0, q_zr_1, x10_fine, x10_refused, x12_good, x12_refused, e0, show bI false = 0 from rfl, if_true]
      · intro u' v' hA' hc
        have e1 := mod_isFoundT (v := v') (x := x1) ho hM h88 hA'.1
        rw [show col (wr u' 75 0 0) M = col u M from funext hc, cf] at e1
        refine ⟨wr u' 75 0 0, v', ?_, keep_refl, wr_role (by decide)⟩
        simp -implicitDefEqProofs only [f_X12_could, gC_0, gR_0_0, gR_0_1, gR_0_2, gR_0_3, gR_0_4, gR_0_5, gR_0_6, gI_0_7, gR_0_8, gC_1, gR_1_0, gI_1_1, gR_1_2, gR_1_3, gR_1_4, gI_1_5, gI_1_6, gI_1_7, gI_1_8, gI_1_9, gL_1_10, gI_1_11, gI_1_12, gI_1_13, gI_1_14, gC_27, gR_27_0, gC_30, gR_30_0, gR_30_1, gI_30_2, gI_30_3, gI_30_4, gC_35, gR_35_0, gR_35_1, gI_35_2, gC_36, gR_36_0, gC_41, gR_41_0, gI_41_1, gI_41_2, gC_44, gR_44_0, gR_44_1, gI_44_2, gI_44_3, gC_49, gR_49_0, gR_49_1, gI_49_2, gI_49_3, gC_75, gI_75_0, gI_75_1, gI_75_2, gR_75_5, gI_75_6, gI_75_7, gI_75_8, gI_75_9, gI_75_10, gI_75_11, gI_75_12, gI_75_13, gL_75_14, gR_75_15, gR_75_16, gR_75_17, gR_75_18, gI_75_19, gI_75_20, gR_75_21, gR_75_22, gR_75_23, gI_75_24, gR_75_25, gI_75_26, gL_75_27, gL_75_28, gR_75_29, gR_75_30, gI_75_31, gR_75_3, gQ_75_3, gN_75_3, gR_75_4, gQ_75_4, gN_75_4, pI_0_7, pI_1_1, pI_1_5, pI_1_6, pI_1_7, pI_1_8, pI_1_9, pL_1_10, pI_1_11, pI_1_12, pI_1_13, pI_1_14, pI_30_2, pI_30_3, pI_30_4, pI_35_2, pI_41_1, pZ0_41_1, pZ1_41_1, pI_41_2, pI_44_2, pZ0_44_2, pZ1_44_2, pI_44_3, pI_49_2, pI_49_3, pI_75_0, pI_75_1, pI_75_2, pI_75_6, pI_75_7, pI_75_8, pI_75_9, pI_75_10, pI_75_11, pI_75_12, pI_75_13, pL_75_14, pI_75_19, pI_75_20, pI_75_24, pI_75_26, pL_75_27, pL_75_28, pI_75_31, Option.bind_some, q_b2_some, q_zr_0, q_zr_1, x10_fine, x10_refused, x12_good, x12_refused, e1, show bI false = 0 from rfl, if_true]
    | true =>
      rw [cf] at e0
      obtain ⟨h8, t, ht, rfl, -⟩ := isF_in ho h88 hA.1 cf
      have ht4 : t < 4 := by omega
      obtain ⟨u1, Z, z1, e1, k1, w1, a1, a2⟩ := cls_cache (c3 := fR M) (c4 := c4) (m := m) (v := v) ho h88 hA.1 hW
      refine ⟨(fR0 (col u M) N Z).2 t, 0, u1, v, by decide, ?_, k1, w1, ?_⟩
      · simp -implicitDefEqProofs only [f_X10_could, f_X9_giversOf, gC_0, gR_0_0, gR_0_1, gR_0_2, gR_0_3, gR_0_4, gR_0_5, gR_0_6, gI_0_7, gR_0_8, gC_1, gR_1_0, gI_1_1, gR_1_2, gR_1_3, gR_1_4, gI_1_5, gI_1_6, gI_1_7, gI_1_8, gI_1_9, gL_1_10, gI_1_11, gI_1_12, gI_1_13, gI_1_14, gC_27, gR_27_0, gC_30, gR_30_0, gR_30_1, gI_30_2, gI_30_3, gI_30_4, gC_35, gR_35_0, gR_35_1, gI_35_2, gC_36, gR_36_0, gC_41, gR_41_0, gI_41_1, gI_41_2, gC_44, gR_44_0, gR_44_1, gI_44_2, gI_44_3, gC_49, gR_49_0, gR_49_1, gI_49_2, gI_49_3, gC_75, gI_75_0, gI_75_1, gI_75_2, gR_75_5, gI_75_6, gI_75_7, gI_75_8, gI_75_9, gI_75_10, gI_75_11, gI_75_12, gI_75_13, gL_75_14, gR_75_15, gR_75_16, gR_75_17, gR_75_18, gI_75_19, gI_75_20, gR_75_21, gR_75_22, gR_75_23, gI_75_24, gR_75_25, gI_75_26, gL_75_27, gL_75_28, gR_75_29, gR_75_30, gI_75_31, gR_75_3, gQ_75_3, gN_75_3, gR_75_4, gQ_75_4, gN_75_4, pI_0_7, pI_1_1, pI_1_5, pI_1_6, pI_1_7, pI_1_8, pI_1_9, pL_1_10, pI_1_11, pI_1_12, pI_1_13, pI_1_14, pI_30_2, pI_30_3, pI_30_4, pI_35_2, pI_41_1, pZ0_41_1, pZ1_41_1, pI_41_2, pI_44_2, pZ0_44_2, pZ1_44_2, pI_44_3, pI_49_2, pI_49_3, pI_75_0, pI_75_1, pI_75_2, pI_75_6, pI_75_7, pI_75_8, pI_75_9, pI_75_10, pI_75_11, pI_75_12, pI_75_13, pL_75_14, pI_75_19, pI_75_20, pI_75_24, pI_75_26, pL_75_27, pL_75_28, pI_75_31, Option.bind_some, q_b2_some, q_zr_0, q_zr_1, x10_fine, x10_refused, x12_good, x12_refused, e0, show bI true = 1 from rfl, ne10, if_false, e1, get4 SH_gs ht4, a2 t ht4]
      · intro u' v' hA' hc
        have e3 := mod_isFoundT (v := v') (x := nI t) ho hM h88 hA'.1
        obtain ⟨W, X, Z', z2, e2⟩ := ref_fitting (v := v') ho hM h88 hA'.1 h8
        rw [show col (wr u' 75 0 0) M = col u M from funext hc] at e2 e3
        rw [cf] at e3
        have hE := fitR_E (K := col u M) (N := N) (F := N 8) (N 8) 0 (fun _ => 0) (0, Z) (0, Z') ⟨rfl, fun t ht => (z1 t ht).trans (z2 t ht).symm⟩
        refine ⟨_, v', ?_, fm_keep (u := wr u' 75 0 0) (W := W) (X := X) (G := (fR0 (col u M) N Z').2) (a := nI (fR0 (col u M) N Z').1), ?_⟩
        · simp -implicitDefEqProofs only [f_X12_could, gC_0, gR_0_0, gR_0_1, gR_0_2, gR_0_3, gR_0_4, gR_0_5, gR_0_6, gI_0_7, gR_0_8, gC_1, gR_1_0, gI_1_1, gR_1_2, gR_1_3, gR_1_4, gI_1_5, gI_1_6, gI_1_7, gI_1_8, gI_1_9, gL_1_10, gI_1_11, gI_1_12, gI_1_13, gI_1_14, gC_27, gR_27_0, gC_30, gR_30_0, gR_30_1, gI_30_2, gI_30_3, gI_30_4, gC_35, gR_35_0, gR_35_1, gI_35_2, gC_36, gR_36_0, gC_41, gR_41_0, gI_41_1, gI_41_2, gC_44, gR_44_0, gR_44_1, gI_44_2, gI_44_3, gC_49, gR_49_0, gR_49_1, gI_49_2, gI_49_3, gC_75, gI_75_0, gI_75_1, gI_75_2, gR_75_5, gI_75_6, gI_75_7, gI_75_8, gI_75_9, gI_75_10, gI_75_11, gI_75_12, gI_75_13, gL_75_14, gR_75_15, gR_75_16, gR_75_17, gR_75_18, gI_75_19, gI_75_20, gR_75_21, gR_75_22, gR_75_23, gI_75_24, gR_75_25, gI_75_26, gL_75_27, gL_75_28, gR_75_29, gR_75_30, gI_75_31, gR_75_3, gQ_75_3, gN_75_3, gR_75_4, gQ_75_4, gN_75_4, pI_0_7, pI_1_1, pI_1_5, pI_1_6, pI_1_7, pI_1_8, pI_1_9, pL_1_10, pI_1_11, pI_1_12, pI_1_13, pI_1_14, pI_30_2, pI_30_3, pI_30_4, pI_35_2, pI_41_1, pZ0_41_1, pZ1_41_1, pI_41_2, pI_44_2, pZ0_44_2, pZ1_44_2, pI_44_3, pI_49_2, pI_49_3, pI_75_0, pI_75_1, pI_75_2, pI_75_6, pI_75_7, pI_75_8, pI_75_9, pI_75_10, pI_75_11, pI_75_12, pI_75_13, pL_75_14, pI_75_19, pI_75_20, pI_75_24, pI_75_26, pL_75_27, pL_75_28, pI_75_31, Option.bind_some, q_b2_some, q_zr_0, q_zr_1, x10_fine, x10_refused, x12_good, x12_refused, e3, show bI true = 1 from rfl, ne10, if_false, e2, aI_83 ht4, fm_83]
          rw [hE.2 t ht4]
        · rw [put_ne (by decide), fm_q (by decide) (by decide) (by decide), wr_role (by decide)]
end FC2
