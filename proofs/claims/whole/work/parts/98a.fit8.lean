section GOC
variable {P Q : cP} {α : Type}
/-- as goW, for the ops that fill a cache of the class -/
theorem goC [DecidableEq α] {f10 f12 : qS → Option (α × qS)} {g : qS} {n : Nat} {A0 : α} (hI : Inv P Q g n)
    (h10 : ∀ T D c4 m u v, okTD T D → IN T u → f10 (Rep (SH T D fN c4 m) u v) = some (A0, Rep (SH T D fN c4 m) (wr u 0 7 1) v))
    (h12 : ∀ T D c4 m u v, f12 (Rep (SH T D fN c4 m) u v) = some (A0, Rep (SH T D fN c4 m) (wr (wr (wr u 75 0 0) 75 1 1) 75 2 (-1)) v))
    (hgo : ∀ T D c4 m u v M N, okTD T D → cSh (SH T D (fR M) c4 m) T → mSh (SH T D (fR M) c4 m) M → 88 ≤ M → bndN N → IA T M N u → IW P Q M N u → ∃ A t u1 v1, t ≠ 4 ∧ f10 (Rep (SH T D (fR M) c4 m) u v) = some (A, Rep (SH T D (fR M) c4 m) (wr u1 0 7 t) v1) ∧ keepB u u1 ∧ IW P Q M N u1 ∧ ∀ u' v', IA T M N (wr u' 75 0 0) → (∀ i, wr u' 75 0 0 (M + i) = u (M + i)) → ∃ u2 v2, f12 (Rep (SH T D (fR M) c4 m) u' v') = some (A, Rep (SH T D (fR M) c4 m) (wr (wr u2 75 1 t) 75 2 (-1)) v2) ∧ keep (wr u' 75 0 0) u2 ∧ u2 0 7 = u' 0 7) :
    ∃ g', (q_b2 (f10 g) fun r1 g1 => q_b2 (f12 g1) fun r2 g2 => if r1 = r2 then some g2 else none) = some g' ∧ Inv P Q g' n := by
  obtain ⟨T, D, c3, c4, m, u, v, rfl, rfl, ho, h3, h4, ht, hK⟩ := hI
  rcases hK.2 with ⟨rfl, hN⟩ | ⟨k, N, hk, rfl, hA, hW⟩
  · refine ⟨_, ?_, Inv_mk (u' := wr (wr (wr (wr u 0 7 1) 75 0 0) 75 1 1) 75 2 (-1)) (v' := v) ho h3 h4 hK (keep_wr (keep_wr (keep_wr (keep_wr keep_refl rfl) rfl) rfl) rfl) ⟨?_, ?_⟩⟩
    · rw [h10 T D c4 m u v ho hN, q_b2_some, h12, q_b2_some, if_pos rfl]
    · rw [wr_ix (by decide), wr_same, wr_role (by decide), wr_role (by decide), wr_role (by decide), wr_same]
    · rw [wr_same, wr_role (by decide), wr_role (by decide), wr_role (by decide), wr_same, if_neg (by decide)]
  · obtain ⟨A, t, u1, v1, ht4, e1, k1, hW1, h2⟩ := hgo T D c4 m u v (88 + k * 25) N ho (SH_told ho) (SH_mod hk) (by omega) (bndN_of hA.1.1) hA hW
    have kB : keepB u (wr (wr u1 0 7 t) 75 0 0) := keepB_wr (keepB_wr k1 rfl) rfl
    obtain ⟨u2, v2, e2, k2, s2⟩ := h2 (wr u1 0 7 t) v1 (IA_keep kB ho (by omega) hA) (fun i => keepB_M kB (by omega) i)
    have k3 : keep u1 (wr (wr u2 75 1 t) 75 2 (-1)) := keep_wr (keep_wr (keep_trans (keep_wr (keep_wr keep_refl rfl) rfl) k2) rfl) rfl
    have kA : keepB u (wr (wr u2 75 1 t) 75 2 (-1)) := keepB_trans k1 (keep_B k3)
    refine ⟨_, ?_, T, D, fR (88 + k * 25), c4, m, wr (wr u2 75 1 t) 75 2 (-1), v2, rfl, rfl, ho, h3, h4, ⟨?_, ?_⟩, IB_keep kA hK.1, Or.inr ⟨k, N, hk, rfl, IA_keep kA ho (by omega) hA, IW_keep k3 (by omega) hW1⟩⟩
    · rw [e1, q_b2_some, e2, q_b2_some, if_pos rfl]
    · rw [wr_ix (by decide), wr_same, wr_role (by decide), wr_role (by decide), s2, wr_same]
    · rw [wr_same, wr_role (by decide), wr_role (by decide), s2, wr_same, if_neg ht4]
end GOC
section FCA
variable {P : cP} {T D m M : Nat} {c3 c4 : sF} {u : mU} {v : mV} {N : Nat → Nat}
theorem wh_keep {C G : Nat → Int32} {a : Int32} : keepB u (whU (wr u 44 2 1) C G a) := by
  intro q j hq
  have h44 : q ≠ 44 := fun z => by subst z; cases hq
  have h46 : q ≠ 46 := fun z => by subst z; cases hq
  have h48 : q ≠ 48 := fun z => by subst z; cases hq
  rw [wh_q h44 h46 h48, wr_off h44]
theorem cls_cache (ho : okTD T D) (hM : 88 ≤ M) (h : relC u T M N) (hW : IW P fQ M N u) : ∃ u1 Z, (∀ j, j < 4 → Z j = 0) ∧ f_X9_find (Rep (SH T D c3 c4 m) u v) 44 T = some (Rep (SH T D c3 c4 m) u1 v) ∧ keepB u u1 ∧ IW P fQ M N u1 ∧ u1 44 3 = nI (fR0 (col u M) N Z).1 ∧ ∀ t, t < 4 → u1 48 t = (fR0 (col u M) N Z).2 t := by
  rcases hW.2 with h0 | ⟨h1, Z, z1, z2, z3⟩
  · obtain ⟨C, Z, z1, e⟩ := cls_find (c3 := c3) (c4 := c4) (m := m) (v := v) ho hM h h0
    have hc : ∀ G a, col (whU (wr u 44 2 1) C G a) M = col u M := fun G a => keepB_col wh_keep (by omega)
    have e41 : ∀ G a, whU (wr u 44 2 1) C G a 41 = u 41 := fun G a => by rw [wh_q (by decide) (by decide) (by decide), wr_off (by decide)]
    have e43 : ∀ G a, whU (wr u 44 2 1) C G a 43 = u 43 := fun G a => by rw [wh_q (by decide) (by decide) (by decide), wr_off (by decide)]
    refine ⟨_, Z, z1, e, wh_keep, ⟨?_, Or.inr ⟨?_, Z, z1, ?_, ?_⟩⟩, wh_a, ?_⟩
    · rw [e41, e43, hc]; exact hW.1
    · unfold whU
      rw [wr_ix (by decide), put_ne (by decide), put_ne (by decide), wr_same]
    · rw [hc, wh_a]
    · intro t _
      rw [hc, wh_48]
    · intro t _
      rw [wh_48]
  · refine ⟨u, Z, z1, ?_, keepB_refl, hW, z2, z3⟩
    unfold f_X9_find
    rw [gC_44, Option.bind_some, gI_44_2, Option.bind_some, h1, if_neg (by decide)]
theorem fm_keep {W X G : Nat → Int32} {a : Int32} : keep u (put (fmB u W G a) 78 X) := by
  intro q j hq
  have h78 : q ≠ 78 := fun z => by subst z; cases hq
  have h82 : q ≠ 82 := fun z => by subst z; cases hq
  have h83 : q ≠ 83 := fun z => by subst z; cases hq
  rw [put_ne h78]
  unfold fmB wr
  rw [if_neg, put_ne h83, put_ne h82]
  rintro ⟨rfl, rfl⟩
  cases hq
theorem P24 : q_P24c (Inv P fQ) := by
  intro g n hI
  refine goC (f10 := fun g => f_X10_fits g 0) (f12 := fun g => f_X12_fits g 75) (A0 := -1) hI ?_ ?_ ?_
  · intro T D c4 m u v ho hN
    simp -implicitDefEqProofs only [f_X10_fits, f_X10_noCollege, gC_0, gR_0_0, gR_0_1, gR_0_2, gR_0_3, gR_0_4, gR_0_5, gR_0_6, gI_0_7, gR_0_8, gC_1, gR_1_0, gI_1_1, gR_1_2, gR_1_3, gR_1_4, gI_1_5, gI_1_6, gI_1_7, gI_1_8, gI_1_9, gL_1_10, gI_1_11, gI_1_12, gI_1_13, gI_1_14, gC_27, gR_27_0, gC_30, gR_30_0, gR_30_1, gI_30_2, gI_30_3, gI_30_4, gC_35, gR_35_0, gR_35_1, gI_35_2, gC_36, gR_36_0, gC_41, gR_41_0, gI_41_1, gI_41_2, gC_44, gR_44_0, gR_44_1, gI_44_2, gI_44_3, gC_49, gR_49_0, gR_49_1, gI_49_2, gI_49_3, gC_75, gI_75_0, gI_75_1, gI_75_2, gR_75_5, gI_75_6, gI_75_7, gI_75_8, gI_75_9, gI_75_10, gI_75_11, gI_75_12, gI_75_13, gL_75_14, gR_75_15, gR_75_16, gR_75_17, gR_75_18, gI_75_19, gI_75_20, gR_75_21, gR_75_22, gR_75_23, gI_75_24, gR_75_25, gI_75_26, gL_75_27, gL_75_28, gR_75_29, gR_75_30, gI_75_31, gR_75_3, gQ_75_3, gN_75_3, gR_75_4, gQ_75_4, gN_75_4, pI_0_7, pI_1_1, pI_1_5, pI_1_6, pI_1_7, pI_1_8, pI_1_9, pL_1_10, pI_1_11, pI_1_12, pI_1_13, pI_1_14, pI_30_2, pI_30_3, pI_30_4, pI_35_2, pI_41_1, pZ0_41_1, pZ1_41_1, pI_41_2, pI_44_2, pZ0_44_2, pZ1_44_2, pI_44_3, pI_49_2, pI_49_3, pI_75_0, pI_75_1, pI_75_2, pI_75_6, pI_75_7, pI_75_8, pI_75_9, pI_75_10, pI_75_11, pI_75_12, pI_75_13, pL_75_14, pI_75_19, pI_75_20, pI_75_24, pI_75_26, pL_75_27, pL_75_28, pI_75_31, Option.bind_some, q_b2_some, q_zr_0, q_zr_1, x10_fine, x10_refused, x12_good, x12_refused, cls_k0 ho hN, if_true, if_false, ne10]
  · intro T D c4 m u v
    simp -implicitDefEqProofs only [f_X12_fits, gC_0, gR_0_0, gR_0_1, gR_0_2, gR_0_3, gR_0_4, gR_0_5, gR_0_6, gI_0_7, gR_0_8, gC_1, gR_1_0, gI_1_1, gR_1_2, gR_1_3, gR_1_4, gI_1_5, gI_1_6, gI_1_7, gI_1_8, gI_1_9, gL_1_10, gI_1_11, gI_1_12, gI_1_13, gI_1_14, gC_27, gR_27_0, gC_30, gR_30_0, gR_30_1, gI_30_2, gI_30_3, gI_30_4, gC_35, gR_35_0, gR_35_1, gI_35_2, gC_36, gR_36_0, gC_41, gR_41_0, gI_41_1, gI_41_2, gC_44, gR_44_0, gR_44_1, gI_44_2, gI_44_3, gC_49, gR_49_0, gR_49_1, gI_49_2, gI_49_3, gC_75, gI_75_0, gI_75_1, gI_75_2, gR_75_5, gI_75_6, gI_75_7, gI_75_8, gI_75_9, gI_75_10, gI_75_11, gI_75_12, gI_75_13, gL_75_14, gR_75_15, gR_75_16, gR_75_17, gR_75_18, gI_75_19, gI_75_20, gR_75_21, gR_75_22, gR_75_23, gI_75_24, gR_75_25, gI_75_26, gL_75_27, gL_75_28, gR_75_29, gR_75_30, gI_75_31, gR_75_3, gQ_75_3, gN_75_3, gR_75_4, gQ_75_4, gN_75_4, pI_0_7, pI_1_1, pI_1_5, pI_1_6, pI_1_7, pI_1_8, pI_1_9, pL_1_10, pI_1_11, pI_1_12, pI_1_13, pI_1_14, pI_30_2, pI_30_3, pI_30_4, pI_35_2, pI_41_1, pZ0_41_1, pZ1_41_1, pI_41_2, pI_44_2, pZ0_44_2, pZ1_44_2, pI_44_3, pI_49_2, pI_49_3, pI_75_0, pI_75_1, pI_75_2, pI_75_6, pI_75_7, pI_75_8, pI_75_9, pI_75_10, pI_75_11, pI_75_12, pI_75_13, pL_75_14, pI_75_19, pI_75_20, pI_75_24, pI_75_26, pL_75_27, pL_75_28, pI_75_31, Option.bind_some, q_b2_some, q_zr_0, q_zr_1, x10_fine, x10_refused, x12_good, x12_refused, if_true]
  · intro T D c4 m u v M N ho hC hM h88 hb hA hW
    have b0 : N 0 ≤ 7 := hb.1
    have h2 : 2 ≤ N 0 := hA.2.1.1
    have b8 : N 8 ≤ 4 := hb.2.2.2.2.2.2.2.2.1
    have z0 : ¬ nI (N 0) = 0 := nI_ne0 (by omega) (by omega)
    by_cases c8 : N 8 = 0
    · refine ⟨-1, 6, u, v, by decide, ?_, keepB_refl, hW, ?_⟩
      · simp -implicitDefEqProofs only [f_X10_fits, f_X10_noCollege, gC_0, gR_0_0, gR_0_1, gR_0_2, gR_0_3, gR_0_4, gR_0_5, gR_0_6, gI_0_7, gR_0_8, gC_1, gR_1_0, gI_1_1, gR_1_2, gR_1_3, gR_1_4, gI_1_5, gI_1_6, gI_1_7, gI_1_8, gI_1_9, gL_1_10, gI_1_11, gI_1_12, gI_1_13, gI_1_14, gC_27, gR_27_0, gC_30, gR_30_0, gR_30_1, gI_30_2, gI_30_3, gI_30_4, gC_35, gR_35_0, gR_35_1, gI_35_2, gC_36, gR_36_0, gC_41, gR_41_0, gI_41_1, gI_41_2, gC_44, gR_44_0, gR_44_1, gI_44_2, gI_44_3, gC_49, gR_49_0, gR_49_1, gI_49_2, gI_49_3, gC_75, gI_75_0, gI_75_1, gI_75_2, gR_75_5, gI_75_6, gI_75_7, gI_75_8, gI_75_9, gI_75_10, gI_75_11, gI_75_12, gI_75_13, gL_75_14, gR_75_15, gR_75_16, gR_75_17, gR_75_18, gI_75_19, gI_75_20, gR_75_21, gR_75_22, gR_75_23, gI_75_24, gR_75_25, gI_75_26, gL_75_27, gL_75_28, gR_75_29, gR_75_30, gI_75_31, gR_75_3, gQ_75_3, gN_75_3, gR_75_4, gQ_75_4, gN_75_4, pI_0_7, pI_1_1, pI_1_5, pI_1_6, pI_1_7, pI_1_8, pI_1_9, pL_1_10, pI_1_11, pI_1_12, pI_1_13, pI_1_14, pI_30_2, pI_30_3, pI_30_4, pI_35_2, pI_41_1, pZ0_41_1, pZ1_41_1, pI_41_2, pI_44_2, pZ0_44_2, pZ1_44_2, pI_44_3, pI_49_2, pI_49_3, pI_75_0, pI_75_1, pI_75_2, pI_75_6, pI_75_7, pI_75_8, pI_75_9, pI_75_10, pI_75_11, pI_75_12, pI_75_13, pL_75_14, pI_75_19, pI_75_20, pI_75_24, pI_75_26, pL_75_27, pL_75_28, pI_75_31, Option.bind_some, q_b2_some, q_zr_0, q_zr_1, x10_fine, x10_refused, x12_good, x12_refused, cls_c0 ho hA.1.1, cls_c8 ho hA.1.1, c8, nI_0, z0, if_true, if_false]
      · intro u' v' hA' hc
        have m8 := (hA'.1.1 8 (by decide)).2.1
        refine ⟨wr u' 75 0 0, v', ?_, keep_refl, wr_role (by decide)⟩
        simp -implicitDefEqProofs only [f_X12_fits, gC_0, gR_0_0, gR_0_1, gR_0_2, gR_0_3, gR_0_4, gR_0_5, gR_0_6, gI_0_7, gR_0_8, gC_1, gR_1_0, gI_1_1, gR_1_2, gR_1_3, gR_1_4, gI_1_5, gI_1_6, gI_1_7, gI_1_8, gI_1_9, gL_1_10, gI_1_11, gI_1_12, gI_1_13, gI_1_14, gC_27, gR_27_0, gC_30, gR_30_0, gR_30_1, gI_30_2, gI_30_3, gI_30_4, gC_35, gR_35_0, gR_35_1, gI_35_2, gC_36, gR_36_0, gC_41, gR_41_0, gI_41_1, gI_41_2, gC_44, gR_44_0, gR_44_1, gI_44_2, gI_44_3, gC_49, gR_49_0, gR_49_1, gI_49_2, gI_49_3, gC_75, gI_75_0, gI_75_1, gI_75_2, gR_75_5, gI_75_6, gI_75_7, gI_75_8, gI_75_9, gI_75_10, gI_75_11, gI_75_12, gI_75_13, gL_75_14, gR_75_15, gR_75_16, gR_75_17, gR_75_18, gI_75_19, gI_75_20, gR_75_21, gR_75_22, gR_75_23, gI_75_24, gR_75_25, gI_75_26, gL_75_27, gL_75_28, gR_75_29, gR_75_30, gI_75_31, gR_75_3, gQ_75_3, gN_75_3, gR_75_4, gQ_75_4, gN_75_4, pI_0_7, pI_1_1, pI_1_5, pI_1_6, pI_1_7, pI_1_8, pI_1_9, pL_1_10, pI_1_11, pI_1_12, pI_1_13, pI_1_14, pI_30_2, pI_30_3, pI_30_4, pI_35_2, pI_41_1, pZ0_41_1, pZ1_41_1, pI_41_2, pI_44_2, pZ0_44_2, pZ1_44_2, pI_44_3, pI_49_2, pI_49_3, pI_75_0, pI_75_1, pI_75_2, pI_75_6, pI_75_7, pI_75_8, pI_75_9, pI_75_10, pI_75_11, pI_75_12, pI_75_13, pL_75_14, pI_75_19, pI_75_20, pI_75_24, pI_75_26, pL_75_27, pL_75_28, pI_75_31, Option.bind_some, q_b2_some, q_zr_0, q_zr_1, x10_fine, x10_refused, x12_good, x12_refused, mC, mI_0, mI_1, mI_2, mI_3, mI_4, mI_5, mI_6, mI_7, mI_8, mI_9, mI_10, mR_11, mR_12, mR_13, mR_14, mR_15, mR_16, mR_17, mR_18, mR_19, mR_20, mR_21, mR_22, mR_23, mR_24, mR_25, mR_26, mR_27, mR_28, mR_29, mR_30, mR_31, mR_32, mR_33, mR_34, ma_1, ma_2, ma_3, ma_4, ma_5, ma_6, ma_7, ma_8, ma_9, ma_10, ma_11, ma_12, ma_13, ma_14, ma_15, ma_16, ma_17, ma_18, ma_19, ma_20, ma_21, ma_22, ma_23, ma_24, hM, m8, c8, nI_0, if_true, if_false, reduceCtorEq]
    · have z8 : ¬ nI (N 8) = 0 := nI_ne0 (by omega) (by omega)
      obtain ⟨u1, Z, z1, e1, k1, w1, a1, a2⟩ := cls_cache (c3 := fR M) (c4 := c4) (m := m) (v := v) ho h88 hA.1 hW
      refine ⟨nI (fR0 (col u M) N Z).1, 0, u1, v, by decide, ?_, k1, w1, ?_⟩
      · simp -implicitDefEqProofs only [f_X10_fits, f_X10_noCollege, f_X9_rowCount, gC_0, gR_0_0, gR_0_1, gR_0_2, gR_0_3, gR_0_4, gR_0_5, gR_0_6, gI_0_7, gR_0_8, gC_1, gR_1_0, gI_1_1, gR_1_2, gR_1_3, gR_1_4, gI_1_5, gI_1_6, gI_1_7, gI_1_8, gI_1_9, gL_1_10, gI_1_11, gI_1_12, gI_1_13, gI_1_14, gC_27, gR_27_0, gC_30, gR_30_0, gR_30_1, gI_30_2, gI_30_3, gI_30_4, gC_35, gR_35_0, gR_35_1, gI_35_2, gC_36, gR_36_0, gC_41, gR_41_0, gI_41_1, gI_41_2, gC_44, gR_44_0, gR_44_1, gI_44_2, gI_44_3, gC_49, gR_49_0, gR_49_1, gI_49_2, gI_49_3, gC_75, gI_75_0, gI_75_1, gI_75_2, gR_75_5, gI_75_6, gI_75_7, gI_75_8, gI_75_9, gI_75_10, gI_75_11, gI_75_12, gI_75_13, gL_75_14, gR_75_15, gR_75_16, gR_75_17, gR_75_18, gI_75_19, gI_75_20, gR_75_21, gR_75_22, gR_75_23, gI_75_24, gR_75_25, gI_75_26, gL_75_27, gL_75_28, gR_75_29, gR_75_30, gI_75_31, gR_75_3, gQ_75_3, gN_75_3, gR_75_4, gQ_75_4, gN_75_4, pI_0_7, pI_1_1, pI_1_5, pI_1_6, pI_1_7, pI_1_8, pI_1_9, pL_1_10, pI_1_11, pI_1_12, pI_1_13, pI_1_14, pI_30_2, pI_30_3, pI_30_4, pI_35_2, pI_41_1, pZ0_41_1, pZ1_41_1, pI_41_2, pI_44_2, pZ0_44_2, pZ1_44_2, pI_44_3, pI_49_2, pI_49_3, pI_75_0, pI_75_1, pI_75_2, pI_75_6, pI_75_7, pI_75_8, pI_75_9, pI_75_10, pI_75_11, pI_75_12, pI_75_13, pL_75_14, pI_75_19, pI_75_20, pI_75_24, pI_75_26, pL_75_27, pL_75_28, pI_75_31, Option.bind_some, q_b2_some, q_zr_0, q_zr_1, x10_fine, x10_refused, x12_good, x12_refused, cls_c0 ho hA.1.1, cls_c8 ho hA.1.1, z8, z0, if_true, if_false, e1, a1]
      · intro u' v' hA' hc
        have m8 := (hA'.1.1 8 (by decide)).2.1
        obtain ⟨W, X, Z', z2, e2⟩ := ref_fitting (v := v') ho hM h88 hA'.1 (by omega)
        rw [show col (wr u' 75 0 0) M = col u M from funext hc] at e2
        have hE := fitR_E (K := col u M) (N := N) (F := N 8) (N 8) 0 (fun _ => 0) (0, Z) (0, Z') ⟨rfl, fun t ht => (z1 t ht).trans (z2 t ht).symm⟩
        refine ⟨_, v', ?_, fm_keep (u := wr u' 75 0 0) (W := W) (X := X) (G := (fR0 (col u M) N Z').2) (a := nI (fR0 (col u M) N Z').1), ?_⟩
        · simp -implicitDefEqProofs only [f_X12_fits, gC_0, gR_0_0, gR_0_1, gR_0_2, gR_0_3, gR_0_4, gR_0_5, gR_0_6, gI_0_7, gR_0_8, gC_1, gR_1_0, gI_1_1, gR_1_2, gR_1_3, gR_1_4, gI_1_5, gI_1_6, gI_1_7, gI_1_8, gI_1_9, gL_1_10, gI_1_11, gI_1_12, gI_1_13, gI_1_14, gC_27, gR_27_0, gC_30, gR_30_0, gR_30_1, gI_30_2, gI_30_3, gI_30_4, gC_35, gR_35_0, gR_35_1, gI_35_2, gC_36, gR_36_0, gC_41, gR_41_0, gI_41_1, gI_41_2, gC_44, gR_44_0, gR_44_1, gI_44_2, gI_44_3, gC_49, gR_49_0, gR_49_1, gI_49_2, gI_49_3, gC_75, gI_75_0, gI_75_1, gI_75_2, gR_75_5, gI_75_6, gI_75_7, gI_75_8, gI_75_9, gI_75_10, gI_75_11, gI_75_12, gI_75_13, gL_75_14, gR_75_15, gR_75_16, gR_75_17, gR_75_18, gI_75_19, gI_75_20, gR_75_21, gR_75_22, gR_75_23, gI_75_24, gR_75_25, gI_75_26, gL_75_27, gL_75_28, gR_75_29, gR_75_30, gI_75_31, gR_75_3, gQ_75_3, gN_75_3, gR_75_4, gQ_75_4, gN_75_4, pI_0_7, pI_1_1, pI_1_5, pI_1_6, pI_1_7, pI_1_8, pI_1_9, pL_1_10, pI_1_11, pI_1_12, pI_1_13, pI_1_14, pI_30_2, pI_30_3, pI_30_4, pI_35_2, pI_41_1, pZ0_41_1, pZ1_41_1, pI_41_2, pI_44_2, pZ0_44_2, pZ1_44_2, pI_44_3, pI_49_2, pI_49_3, pI_75_0, pI_75_1, pI_75_2, pI_75_6, pI_75_7, pI_75_8, pI_75_9, pI_75_10, pI_75_11, pI_75_12, pI_75_13, pL_75_14, pI_75_19, pI_75_20, pI_75_24, pI_75_26, pL_75_27, pL_75_28, pI_75_31, Option.bind_some, q_b2_some, q_zr_0, q_zr_1, x10_fine, x10_refused, x12_good, x12_refused, mC, mI_0, mI_1, mI_2, mI_3, mI_4, mI_5, mI_6, mI_7, mI_8, mI_9, mI_10, mR_11, mR_12, mR_13, mR_14, mR_15, mR_16, mR_17, mR_18, mR_19, mR_20, mR_21, mR_22, mR_23, mR_24, mR_25, mR_26, mR_27, mR_28, mR_29, mR_30, mR_31, mR_32, mR_33, mR_34, ma_1, ma_2, ma_3, ma_4, ma_5, ma_6, ma_7, ma_8, ma_9, ma_10, ma_11, ma_12, ma_13, ma_14, ma_15, ma_16, ma_17, ma_18, ma_19, ma_20, ma_21, ma_22, ma_23, ma_24, hM, m8, z8, if_true, if_false, reduceCtorEq, e2, fm_a]
          rw [hE.1]
        · rw [put_ne (by decide), fm_q (by decide) (by decide) (by decide), wr_role (by decide)]
end FCA
