theorem lp_pr {α : Type} {R : α → Prop} {f : Nat → α → α} : ∀ (r i : Nat) (s : α), (∀ j s, i ≤ j → j < i + r → R s → R (f j s)) → R s → R (lp f r i s) := by
  intro r
  induction r with
  | zero => intro i s _ h; simp -implicitDefEqProofs only [lp]; exact h
  | succ r ih => intro i s hs h; simp -implicitDefEqProofs only [lp]; exact ih (i + 1) _ (fun j s a b => hs j s (by omega) (by omega)) (hs i s (by omega) (by omega) h)
def fB (N : Nat → Nat) (G : Nat → Int32) : Prop := ∀ t, t < 4 → ∀ s, N 5 ≤ s → s < 3 → G t &&& sbit s = 0
theorem fLeaf_B {K : cK} {N : Nat → Nat} {F : Nat} {ch : Nat → Nat} {st : fS} (hc : ∀ j, j < F → ch j % 3 < N 5) (h : fB N st.2) : fB N (fLeaf K F ch st).2 := by
  unfold fLeaf
  refine lp_pr (R := fB N) F 0 st.2 ?_ h
  intro j G _ hj hG t ht s hs hs3
  show upd G (fT K j) _ t &&& sbit s = 0
  rw [upd_at]
  by_cases c : t = fT K j
  · rw [if_pos c, or_and_zero, ← c]
    exact ⟨hG t ht s hs hs3, (sbit_ne (ch j % 3) (by omega) s (by omega)).mpr (by have := hc j (by omega); omega)⟩
  · rw [if_neg c]
    exact hG t ht s hs hs3
theorem fitR_B {K : cK} {N : Nat → Nat} {F : Nat} : ∀ (r k : Nat) (ch : Nat → Nat) (st : fS), k + r = F → (∀ j, j < k → ch j % 3 < N 5) → fB N st.2 → fB N (fitR K N F r k ch st).2 := by
  intro r
  induction r with
  | zero => intro k ch st hk hc h; exact fLeaf_B (fun j hj => hc j (by omega)) h
  | succ r ih =>
    intro k ch st hk hc h
    refine lp_pr (R := fun st : fS => fB N st.2) 21 0 st ?_ h
    intro j st _ _ hst
    show fB N (if _ then _ else _ : fS).2
    by_cases c : (okG K N k (j / 3) (j % 3) && fre ch k (3 * (j / 3) + j % 3)) = true
    · rw [if_pos c]
      refine ih (k + 1) _ st (by omega) (fun i hi => ?_) hst
      rw [updN_at]
      by_cases ci : i = k
      · rw [if_pos ci]
        rw [Bool.and_eq_true] at c
        have c := c.1
        unfold okG at c
        rw [Bool.and_eq_true] at c
        have := of_decide_eq_true c.1
        omega
      · rw [if_neg ci]
        exact hc i (by omega)
    · rw [if_neg c]
      exact hst
theorem fnd_none {p : Nat → Bool} : ∀ (r i : Nat), (∀ j, i ≤ j → j < i + r → p j = false) → fnd p r i = none := by
  intro r
  induction r with
  | zero => intro i _; rfl
  | succ r ih =>
    intro i h
    show (if p i = true then some i else fnd p r (i + 1)) = none
    rw [h i (by omega) (by omega), if_neg (by decide)]
    exact ih (i + 1) (fun j a b => h j (by omega) (by omega))
theorem fnd_cut {p : Nat → Bool} : ∀ (r n i : Nat), r ≤ n → (∀ j, i + r ≤ j → j < i + n → p j = false) → fnd p n i = fnd p r i := by
  intro r
  induction r with
  | zero => intro n i _ h; exact fnd_none n i (fun j a b => h j (by omega) b)
  | succ r ih =>
    intro n i hn h
    obtain ⟨n, rfl⟩ : ∃ n', n = n' + 1 := ⟨n - 1, by omega⟩
    show (if p i = true then some i else fnd p n (i + 1)) = (if p i = true then some i else fnd p r (i + 1))
    rw [ih n (i + 1) (by omega) (fun j a b => h j (by omega) (by omega))]
def sR (o : Option Nat) : Int32 := match o with
  | some g => nI g
  | none => -2
abbrev sP (x : Int32) : Nat → Bool := fun g => decide (x = sbit g)
section SUR
variable {T D m M : Nat} {c3 c4 : sF} {u : mU} {v : mV} {N : Nat → Nat} {t : Nat}
theorem cls_only (ht : t < 4) : f_X9_onlyGiverOf (Rep (SH T D c3 c4 m) u v) 44 (nI t) = some (sR (fnd (sP (u 48 t)) 3 0)) := by
  have eg : f_X9_giversOf (Rep (SH T D c3 c4 m) u v) 44 (nI t) = some (u 48 t) := by
    unfold f_X9_giversOf
    rw [gC_44, Option.bind_some, gR_44_1, Option.bind_some, get4 SH_gs ht, Option.bind_some]
  have go : ∀ (r i f : Nat), i + r = 3 → r < f → L_X9_onlyGiverOf_2 (Rep (SH T D c3 c4 m) u v) f 44 (nI t) (nI i) = some (sR (fnd (sP (u 48 t)) r i)) := by
    intro r
    induction r with
    | zero =>
      intro i f hi hf
      obtain ⟨f, rfl⟩ : ∃ f', f = f' + 1 := ⟨f - 1, by omega⟩
      have c : (3 : Int32) ≤ nI i := (show nI 3 ≤ nI i from nI_le (by omega) (by omega))
      rw [L_X9_onlyGiverOf_2, if_pos c]
      rfl
    | succ r ih =>
      intro i f hi hf
      obtain ⟨f, rfl⟩ : ∃ f', f = f' + 1 := ⟨f - 1, by omega⟩
      have c : ¬ (3 : Int32) ≤ nI i := (show ¬ nI 3 ≤ nI i from nI_ge (by omega) (by omega))
      rw [show fnd (sP (u 48 t)) (r + 1) i = if decide (u 48 t = sbit i) = true then some i else fnd (sP (u 48 t)) r (i + 1) from rfl]
      by_cases c1 : u 48 t = sbit i
      · rw [if_pos (decide_eq_true c1), L_X9_onlyGiverOf_2, if_neg c, eg, Option.bind_some, if_pos c1]
        rfl
      · rw [if_neg (fun z => c1 (of_decide_eq_true z)), ← ih (i + 1) f (by omega) (by omega), L_X9_onlyGiverOf_2, if_neg c, eg, Option.bind_some, if_neg c1, nI_1]
  have e := go 3 0 1000000000 (by omega) (by omega)
  rw [nI_0] at e
  unfold f_X9_onlyGiverOf
  rw [gC_44, Option.bind_some, e]
theorem ref_only (hMs : mSh (SH T D (fR M) c4 m) M) (h5 : u M 5 = nI (N 5)) (hb : bndN N) (ht : t < 4) : ∀ (r i f : Nat), i + r = N 5 → r < f → L_X12_surely_25 f 75 (nI t) (nI i) (Rep (SH T D (fR M) c4 m) u v) = some (sR (fnd (sP (u 83 t)) r i), Rep (SH T D (fR M) c4 m) (wr (wr u 75 1 0) 75 2 (-1)) v) := by
  have b5 : N 5 ≤ 3 := hb.2.2.2.2.2.1
  intro r
  induction r with
  | zero =>
    intro i f hi hf
    obtain ⟨f, rfl⟩ : ∃ f', f = f' + 1 := ⟨f - 1, by omega⟩
    have c : nI (N 5) ≤ nI i := nI_le (by omega) (by omega)
    simp -implicitDefEqProofs only [L_X12_surely_25, gC_0, gR_0_0, gR_0_1, gR_0_2, gR_0_3, gR_0_4, gR_0_5, gR_0_6, gI_0_7, gR_0_8, gC_1, gR_1_0, gI_1_1, gR_1_2, gR_1_3, gR_1_4, gI_1_5, gI_1_6, gI_1_7, gI_1_8, gI_1_9, gL_1_10, gI_1_11, gI_1_12, gI_1_13, gI_1_14, gC_27, gR_27_0, gC_30, gR_30_0, gR_30_1, gI_30_2, gI_30_3, gI_30_4, gC_35, gR_35_0, gR_35_1, gI_35_2, gC_36, gR_36_0, gC_41, gR_41_0, gI_41_1, gI_41_2, gC_44, gR_44_0, gR_44_1, gI_44_2, gI_44_3, gC_49, gR_49_0, gR_49_1, gI_49_2, gI_49_3, gC_75, gI_75_0, gI_75_1, gI_75_2, gR_75_5, gI_75_6, gI_75_7, gI_75_8, gI_75_9, gI_75_10, gI_75_11, gI_75_12, gI_75_13, gL_75_14, gR_75_15, gR_75_16, gR_75_17, gR_75_18, gI_75_19, gI_75_20, gR_75_21, gR_75_22, gR_75_23, gI_75_24, gR_75_25, gI_75_26, gL_75_27, gL_75_28, gR_75_29, gR_75_30, gI_75_31, gR_75_3, gQ_75_3, gN_75_3, gR_75_4, gQ_75_4, gN_75_4, pI_0_7, pI_1_1, pI_1_5, pI_1_6, pI_1_7, pI_1_8, pI_1_9, pL_1_10, pI_1_11, pI_1_12, pI_1_13, pI_1_14, pI_30_2, pI_30_3, pI_30_4, pI_35_2, pI_41_1, pZ0_41_1, pZ1_41_1, pI_41_2, pI_44_2, pZ0_44_2, pZ1_44_2, pI_44_3, pI_49_2, pI_49_3, pI_75_0, pI_75_1, pI_75_2, pI_75_6, pI_75_7, pI_75_8, pI_75_9, pI_75_10, pI_75_11, pI_75_12, pI_75_13, pL_75_14, pI_75_19, pI_75_20, pI_75_24, pI_75_26, pL_75_27, pL_75_28, pI_75_31, Option.bind_some, q_b2_some, q_zr_0, q_zr_1, x10_fine, x10_refused, x12_good, x12_refused, mC, mI_0, mI_1, mI_2, mI_3, mI_4, mI_5, mI_6, mI_7, mI_8, mI_9, mI_10, mR_11, mR_12, mR_13, mR_14, mR_15, mR_16, mR_17, mR_18, mR_19, mR_20, mR_21, mR_22, mR_23, mR_24, mR_25, mR_26, mR_27, mR_28, mR_29, mR_30, mR_31, mR_32, mR_33, mR_34, ma_1, ma_2, ma_3, ma_4, ma_5, ma_6, ma_7, ma_8, ma_9, ma_10, ma_11, ma_12, ma_13, ma_14, ma_15, ma_16, ma_17, ma_18, ma_19, ma_20, ma_21, ma_22, ma_23, ma_24, hMs, h5, c, if_true]
    rfl
  | succ r ih =>
    intro i f hi hf
    obtain ⟨f, rfl⟩ : ∃ f', f = f' + 1 := ⟨f - 1, by omega⟩
    have c : ¬ nI (N 5) ≤ nI i := nI_ge (by omega) (by omega)
    rw [show fnd (sP (u 83 t)) (r + 1) i = if decide (u 83 t = sbit i) = true then some i else fnd (sP (u 83 t)) r (i + 1) from rfl]
    by_cases c1 : u 83 t = sbit i
    · rw [if_pos (decide_eq_true c1)]
      simp -implicitDefEqProofs only [L_X12_surely_25, gC_0, gR_0_0, gR_0_1, gR_0_2, gR_0_3, gR_0_4, gR_0_5, gR_0_6, gI_0_7, gR_0_8, gC_1, gR_1_0, gI_1_1, gR_1_2, gR_1_3, gR_1_4, gI_1_5, gI_1_6, gI_1_7, gI_1_8, gI_1_9, gL_1_10, gI_1_11, gI_1_12, gI_1_13, gI_1_14, gC_27, gR_27_0, gC_30, gR_30_0, gR_30_1, gI_30_2, gI_30_3, gI_30_4, gC_35, gR_35_0, gR_35_1, gI_35_2, gC_36, gR_36_0, gC_41, gR_41_0, gI_41_1, gI_41_2, gC_44, gR_44_0, gR_44_1, gI_44_2, gI_44_3, gC_49, gR_49_0, gR_49_1, gI_49_2, gI_49_3, gC_75, gI_75_0, gI_75_1, gI_75_2, gR_75_5, gI_75_6, gI_75_7, gI_75_8, gI_75_9, gI_75_10, gI_75_11, gI_75_12, gI_75_13, gL_75_14, gR_75_15, gR_75_16, gR_75_17, gR_75_18, gI_75_19, gI_75_20, gR_75_21, gR_75_22, gR_75_23, gI_75_24, gR_75_25, gI_75_26, gL_75_27, gL_75_28, gR_75_29, gR_75_30, gI_75_31, gR_75_3, gQ_75_3, gN_75_3, gR_75_4, gQ_75_4, gN_75_4, pI_0_7, pI_1_1, pI_1_5, pI_1_6, pI_1_7, pI_1_8, pI_1_9, pL_1_10, pI_1_11, pI_1_12, pI_1_13, pI_1_14, pI_30_2, pI_30_3, pI_30_4, pI_35_2, pI_41_1, pZ0_41_1, pZ1_41_1, pI_41_2, pI_44_2, pZ0_44_2, pZ1_44_2, pI_44_3, pI_49_2, pI_49_3, pI_75_0, pI_75_1, pI_75_2, pI_75_6, pI_75_7, pI_75_8, pI_75_9, pI_75_10, pI_75_11, pI_75_12, pI_75_13, pL_75_14, pI_75_19, pI_75_20, pI_75_24, pI_75_26, pL_75_27, pL_75_28, pI_75_31, Option.bind_some, q_b2_some, q_zr_0, q_zr_1, x10_fine, x10_refused, x12_good, x12_refused, mC, mI_0, mI_1, mI_2, mI_3, mI_4, mI_5, mI_6, mI_7, mI_8, mI_9, mI_10, mR_11, mR_12, mR_13, mR_14, mR_15, mR_16, mR_17, mR_18, mR_19, mR_20, mR_21, mR_22, mR_23, mR_24, mR_25, mR_26, mR_27, mR_28, mR_29, mR_30, mR_31, mR_32, mR_33, mR_34, ma_1, ma_2, ma_3, ma_4, ma_5, ma_6, ma_7, ma_8, ma_9, ma_10, ma_11, ma_12, ma_13, ma_14, ma_15, ma_16, ma_17, ma_18, ma_19, ma_20, ma_21, ma_22, ma_23, ma_24, hMs, h5, c, if_false, aI_83 ht]
      rw [if_pos c1]
      rfl
    · rw [if_neg (fun z => c1 (of_decide_eq_true z)), ← ih (i + 1) f (by omega) (by omega)]
      rw [L_X12_surely_25, gR_75_3, Option.bind_some, mI_5 hMs, h5, Option.bind_some, if_neg c, gR_75_23, Option.bind_some, aI_83 ht, Option.bind_some, if_neg c1, nI_1]
end SUR
section FC3
variable {P : cP}
theorem P26 : q_P26c (Inv P fQ) := by
  intro g n x1 hI
  refine goC (f10 := fun g => f_X10_surely g 0 x1) (f12 := fun g => f_X12_surely g 75 x1) (A0 := -1) hI ?_ ?_ ?_
  · intro T D c4 m u v ho hN
    simp -implicitDefEqProofs only [f_X10_surely, gC_0, gR_0_0, gR_0_1, gR_0_2, gR_0_3, gR_0_4, gR_0_5, gR_0_6, gI_0_7, gR_0_8, gC_1, gR_1_0, gI_1_1, gR_1_2, gR_1_3, gR_1_4, gI_1_5, gI_1_6, gI_1_7, gI_1_8, gI_1_9, gL_1_10, gI_1_11, gI_1_12, gI_1_13, gI_1_14, gC_27, gR_27_0, gC_30, gR_30_0, gR_30_1, gI_30_2, gI_30_3, gI_30_4, gC_35, gR_35_0, gR_35_1, gI_35_2, gC_36, gR_36_0, gC_41, gR_41_0, gI_41_1, gI_41_2, gC_44, gR_44_0, gR_44_1, gI_44_2, gI_44_3, gC_49, gR_49_0, gR_49_1, gI_49_2, gI_49_3, gC_75, gI_75_0, gI_75_1, gI_75_2, gR_75_5, gI_75_6, gI_75_7, gI_75_8, gI_75_9, gI_75_10, gI_75_11, gI_75_12, gI_75_13, gL_75_14, gR_75_15, gR_75_16, gR_75_17, gR_75_18, gI_75_19, gI_75_20, gR_75_21, gR_75_22, gR_75_23, gI_75_24, gR_75_25, gI_75_26, gL_75_27, gL_75_28, gR_75_29, gR_75_30, gI_75_31, gR_75_3, gQ_75_3, gN_75_3, gR_75_4, gQ_75_4, gN_75_4, pI_0_7, pI_1_1, pI_1_5, pI_1_6, pI_1_7, pI_1_8, pI_1_9, pL_1_10, pI_1_11, pI_1_12, pI_1_13, pI_1_14, pI_30_2, pI_30_3, pI_30_4, pI_35_2, pI_41_1, pZ0_41_1, pZ1_41_1, pI_41_2, pI_44_2, pZ0_44_2, pZ1_44_2, pI_44_3, pI_49_2, pI_49_3, pI_75_0, pI_75_1, pI_75_2, pI_75_6, pI_75_7, pI_75_8, pI_75_9, pI_75_10, pI_75_11, pI_75_12, pI_75_13, pL_75_14, pI_75_19, pI_75_20, pI_75_24, pI_75_26, pL_75_27, pL_75_28, pI_75_31, Option.bind_some, q_b2_some, q_zr_0, q_zr_1, x10_fine, x10_refused, x12_good, x12_refused, cls_noFound ho hN, if_true, if_false, ne10]
  · intro T D c4 m u v
    simp -implicitDefEqProofs only [f_X12_surely, gC_0, gR_0_0, gR_0_1, gR_0_2, gR_0_3, gR_0_4, gR_0_5, gR_0_6, gI_0_7, gR_0_8, gC_1, gR_1_0, gI_1_1, gR_1_2, gR_1_3, gR_1_4, gI_1_5, gI_1_6, gI_1_7, gI_1_8, gI_1_9, gL_1_10, gI_1_11, gI_1_12, gI_1_13, gI_1_14, gC_27, gR_27_0, gC_30, gR_30_0, gR_30_1, gI_30_2, gI_30_3, gI_30_4, gC_35, gR_35_0, gR_35_1, gI_35_2, gC_36, gR_36_0, gC_41, gR_41_0, gI_41_1, gI_41_2, gC_44, gR_44_0, gR_44_1, gI_44_2, gI_44_3, gC_49, gR_49_0, gR_49_1, gI_49_2, gI_49_3, gC_75, gI_75_0, gI_75_1, gI_75_2, gR_75_5, gI_75_6, gI_75_7, gI_75_8, gI_75_9, gI_75_10, gI_75_11, gI_75_12, gI_75_13, gL_75_14, gR_75_15, gR_75_16, gR_75_17, gR_75_18, gI_75_19, gI_75_20, gR_75_21, gR_75_22, gR_75_23, gI_75_24, gR_75_25, gI_75_26, gL_75_27, gL_75_28, gR_75_29, gR_75_30, gI_75_31, gR_75_3, gQ_75_3, gN_75_3, gR_75_4, gQ_75_4, gN_75_4, pI_0_7, pI_1_1, pI_1_5, pI_1_6, pI_1_7, pI_1_8, pI_1_9, pL_1_10, pI_1_11, pI_1_12, pI_1_13, pI_1_14, pI_30_2, pI_30_3, pI_30_4, pI_35_2, pI_41_1, pZ0_41_1, pZ1_41_1, pI_41_2, pI_44_2, pZ0_44_2, pZ1_44_2, pI_44_3, pI_49_2, pI_49_3, pI_75_0, pI_75_1, pI_75_2, pI_75_6, pI_75_7, pI_75_8, pI_75_9, pI_75_10, pI_75_11, pI_75_12, pI_75_13, pL_75_14, pI_75_19, pI_75_20, pI_75_24, pI_75_26, pL_75_27, pL_75_28, pI_75_31, Option.bind_some, q_b2_some, q_zr_0, q_zr_1, x10_fine, x10_refused, x12_good, x12_refused, mod_noFoundT, if_true]
  · intro T D c4 m u v M N ho hC hM h88 hb hA hW
    have b2 : N 2 ≤ 4 := hb.2.2.1
    have b5 : N 5 ≤ 3 := hb.2.2.2.2.2.1
    have e0 := cls_isFound (c3 := fR M) (c4 := c4) (m := m) (v := v) (x := x1) ho hA.1
    cases cf : isF (col u M) N x1 with
    | false =>
      rw [cf] at e0
      refine ⟨-1, 1, u, v, by decide, ?_, keepB_refl, hW, ?_⟩
      · simp -implicitDefEqProofs only [f_X10_surely, gC_0, gR_0_0, gR_0_1, gR_0_2, gR_0_3, gR_0_4, gR_0_5, gR_0_6, gI_0_7, gR_0_8, gC_1, gR_1_0, gI_1_1, gR_1_2, gR_1_3, gR_1_4, gI_1_5, gI_1_6, gI_1_7, gI_1_8, gI_1_9, gL_1_10, gI_1_11, gI_1_12, gI_1_13, gI_1_14, gC_27, gR_27_0, gC_30, gR_30_0, gR_30_1, gI_30_2, gI_30_3, gI_30_4, gC_35, gR_35_0, gR_35_1, gI_35_2, gC_36, gR_36_0, gC_41, gR_41_0, gI_41_1, gI_41_2, gC_44, gR_44_0, gR_44_1, gI_44_2, gI_44_3, gC_49, gR_49_0, gR_49_1, gI_49_2, gI_49_3, gC_75, gI_75_0, gI_75_1, gI_75_2, gR_75_5, gI_75_6, gI_75_7, gI_75_8, gI_75_9, gI_75_10, gI_75_11, gI_75_12, gI_75_13, gL_75_14, gR_75_15, gR_75_16, gR_75_17, gR_75_18, gI_75_19, gI_75_20, gR_75_21, gR_75_22, gR_75_23, gI_75_24, gR_75_25, gI_75_26, gL_75_27, gL_75_28, gR_75_29, gR_75_30, gI_75_31, gR_75_3, gQ_75_3, gN_75_3, gR_75_4, gQ_75_4, gN_75_4, pI_0_7, pI_1_1, pI_1_5, pI_1_6, pI_1_7, pI_1_8, pI_1_9, pL_1_10, pI_1_11, pI_1_12, pI_1_13, pI_1_14, pI_30_2, pI_30_3, pI_30_4, pI_35_2, pI_41_1, pZ0_41_1, pZ1_41_1, pI_41_2, pI_44_2, pZ0_44_2, pZ1_44_2, pI_44_3, pI_49_2, pI_49_3, pI_75_0, pI_75_1, pI_75_2, pI_75_6, pI_75_7, pI_75_8, pI_75_9, pI_75_10, pI_75_11, pI_75_12, pI_75_13, pL_75_14, pI_75_19, pI_75_20, pI_75_24, pI_75_26, pL_75_27, pL_75_28, pI_75_31, Option.bind_some, q_b2_some, q_zr_0, q_zr_1, x10_fine, x10_refused, x12_good, x12_refused, e0, show bI false = 0 from rfl, if_true]
      · intro u' v' hA' hc
        have e1 := mod_isFoundT (v := v') (x := x1) ho hM h88 hA'.1
        rw [show col (wr u' 75 0 0) M = col u M from funext hc, cf] at e1
        refine ⟨wr u' 75 0 0, v', ?_, keep_refl, wr_role (by decide)⟩
        simp -implicitDefEqProofs only [f_X12_surely, gC_0, gR_0_0, gR_0_1, gR_0_2, gR_0_3, gR_0_4, gR_0_5, gR_0_6, gI_0_7, gR_0_8, gC_1, gR_1_0, gI_1_1, gR_1_2, gR_1_3, gR_1_4, gI_1_5, gI_1_6, gI_1_7, gI_1_8, gI_1_9, gL_1_10, gI_1_11, gI_1_12, gI_1_13, gI_1_14, gC_27, gR_27_0, gC_30, gR_30_0, gR_30_1, gI_30_2, gI_30_3, gI_30_4, gC_35, gR_35_0, gR_35_1, gI_35_2, gC_36, gR_36_0, gC_41, gR_41_0, gI_41_1, gI_41_2, gC_44, gR_44_0, gR_44_1, gI_44_2, gI_44_3, gC_49, gR_49_0, gR_49_1, gI_49_2, gI_49_3, gC_75, gI_75_0, gI_75_1, gI_75_2, gR_75_5, gI_75_6, gI_75_7, gI_75_8, gI_75_9, gI_75_10, gI_75_11, gI_75_12, gI_75_13, gL_75_14, gR_75_15, gR_75_16, gR_75_17, gR_75_18, gI_75_19, gI_75_20, gR_75_21, gR_75_22, gR_75_23, gI_75_24, gR_75_25, gI_75_26, gL_75_27, gL_75_28, gR_75_29, gR_75_30, gI_75_31, gR_75_3, gQ_75_3, gN_75_3, gR_75_4, gQ_75_4, gN_75_4, pI_0_7, pI_1_1, pI_1_5, pI_1_6, pI_1_7, pI_1_8, pI_1_9, pL_1_10, pI_1_11, pI_1_12, pI_1_13, pI_1_14, pI_30_2, pI_30_3, pI_30_4, pI_35_2, pI_41_1, pZ0_41_1, pZ1_41_1, pI_41_2, pI_44_2, pZ0_44_2, pZ1_44_2, pI_44_3, pI_49_2, pI_49_3, pI_75_0, pI_75_1, pI_75_2, pI_75_6, pI_75_7, pI_75_8, pI_75_9, pI_75_10, pI_75_11, pI_75_12, pI_75_13, pL_75_14, pI_75_19, pI_75_20, pI_75_24, pI_75_26, pL_75_27, pL_75_28, pI_75_31, Option.bind_some, q_b2_some, q_zr_0, q_zr_1, x10_fine, x10_refused, x12_good, x12_refused, e1, show bI false = 0 from rfl, if_true]
    | true =>
      rw [cf] at e0
      obtain ⟨h8, t, ht, rfl, -⟩ := isF_in ho h88 hA.1 cf
      have ht4 : t < 4 := by omega
      obtain ⟨u1, Z, z1, e1, k1, w1, a1, a2⟩ := cls_cache (c3 := fR M) (c4 := c4) (m := m) (v := v) ho h88 hA.1 hW
      have eo := cls_only (T := T) (D := D) (m := m) (c3 := fR M) (c4 := c4) (u := u1) (v := v) ht4
      rw [a2 t ht4] at eo
      have hB := fitR_B (K := col u M) (N := N) (F := N 8) (N 8) 0 (fun _ => 0) (0, Z) (by omega) (fun j hj => absurd hj (by omega)) (fun t ht s _ _ => by
        show Z t &&& sbit s = 0
        rw [z1 t ht]
        exact Int32.zero_and)
      have hcut : fnd (sP ((fR0 (col u M) N Z).2 t)) 3 0 = fnd (sP ((fR0 (col u M) N Z).2 t)) (N 5) 0 := fnd_cut (N 5) 3 0 b5 (fun j j1 j2 => by
        refine decide_eq_false (fun z => ?_)
        have q := hB t ht4 j (by omega) (by omega)
        rw [z] at q
        exact (sbit_ne j (by omega) j (by omega)).mp q rfl)
      refine ⟨sR (fnd (sP ((fR0 (col u M) N Z).2 t)) 3 0), 0, u1, v, by decide, ?_, k1, w1, ?_⟩
      · simp -implicitDefEqProofs only [f_X10_surely, gC_0, gR_0_0, gR_0_1, gR_0_2, gR_0_3, gR_0_4, gR_0_5, gR_0_6, gI_0_7, gR_0_8, gC_1, gR_1_0, gI_1_1, gR_1_2, gR_1_3, gR_1_4, gI_1_5, gI_1_6, gI_1_7, gI_1_8, gI_1_9, gL_1_10, gI_1_11, gI_1_12, gI_1_13, gI_1_14, gC_27, gR_27_0, gC_30, gR_30_0, gR_30_1, gI_30_2, gI_30_3, gI_30_4, gC_35, gR_35_0, gR_35_1, gI_35_2, gC_36, gR_36_0, gC_41, gR_41_0, gI_41_1, gI_41_2, gC_44, gR_44_0, gR_44_1, gI_44_2, gI_44_3, gC_49, gR_49_0, gR_49_1, gI_49_2, gI_49_3, gC_75, gI_75_0, gI_75_1, gI_75_2, gR_75_5, gI_75_6, gI_75_7, gI_75_8, gI_75_9, gI_75_10, gI_75_11, gI_75_12, gI_75_13, gL_75_14, gR_75_15, gR_75_16, gR_75_17, gR_75_18, gI_75_19, gI_75_20, gR_75_21, gR_75_22, gR_75_23, gI_75_24, gR_75_25, gI_75_26, gL_75_27, gL_75_28, gR_75_29, gR_75_30, gI_75_31, gR_75_3, gQ_75_3, gN_75_3, gR_75_4, gQ_75_4, gN_75_4, pI_0_7, pI_1_1, pI_1_5, pI_1_6, pI_1_7, pI_1_8, pI_1_9, pL_1_10, pI_1_11, pI_1_12, pI_1_13, pI_1_14, pI_30_2, pI_30_3, pI_30_4, pI_35_2, pI_41_1, pZ0_41_1, pZ1_41_1, pI_41_2, pI_44_2, pZ0_44_2, pZ1_44_2, pI_44_3, pI_49_2, pI_49_3, pI_75_0, pI_75_1, pI_75_2, pI_75_6, pI_75_7, pI_75_8, pI_75_9, pI_75_10, pI_75_11, pI_75_12, pI_75_13, pL_75_14, pI_75_19, pI_75_20, pI_75_24, pI_75_26, pL_75_27, pL_75_28, pI_75_31, Option.bind_some, q_b2_some, q_zr_0, q_zr_1, x10_fine, x10_refused, x12_good, x12_refused, e0, show bI true = 1 from rfl, ne10, if_false, e1, eo]
      · intro u' v' hA' hc
        have e3 := mod_isFoundT (v := v') (x := nI t) ho hM h88 hA'.1
        obtain ⟨W, X, Z', z2, e2⟩ := ref_fitting (v := v') ho hM h88 hA'.1 h8
        have m5 := (hA'.1.1 5 (by decide)).2.1
        rw [show col (wr u' 75 0 0) M = col u M from funext hc] at e2 e3
        rw [cf] at e3
        have hE := fitR_E (K := col u M) (N := N) (F := N 8) (N 8) 0 (fun _ => 0) (0, Z) (0, Z') ⟨rfl, fun t ht => (z1 t ht).trans (z2 t ht).symm⟩
        have e5 := ref_only (N := N) (u := put (fmB (wr u' 75 0 0) W (fR0 (col u M) N Z').2 (nI (fR0 (col u M) N Z').1)) 78 X) (v := v') hM (by rw [fm_M0 h88]; exact m5) hb ht4 (N 5) 0 1000000000 (by omega) (by omega)
        rw [nI_0, fm_83, ← hE.2 t ht4, ← hcut] at e5
        refine ⟨_, v', ?_, fm_keep (u := wr u' 75 0 0) (W := W) (X := X) (G := (fR0 (col u M) N Z').2) (a := nI (fR0 (col u M) N Z').1), ?_⟩
        · simp -implicitDefEqProofs only [f_X12_surely, gC_0, gR_0_0, gR_0_1, gR_0_2, gR_0_3, gR_0_4, gR_0_5, gR_0_6, gI_0_7, gR_0_8, gC_1, gR_1_0, gI_1_1, gR_1_2, gR_1_3, gR_1_4, gI_1_5, gI_1_6, gI_1_7, gI_1_8, gI_1_9, gL_1_10, gI_1_11, gI_1_12, gI_1_13, gI_1_14, gC_27, gR_27_0, gC_30, gR_30_0, gR_30_1, gI_30_2, gI_30_3, gI_30_4, gC_35, gR_35_0, gR_35_1, gI_35_2, gC_36, gR_36_0, gC_41, gR_41_0, gI_41_1, gI_41_2, gC_44, gR_44_0, gR_44_1, gI_44_2, gI_44_3, gC_49, gR_49_0, gR_49_1, gI_49_2, gI_49_3, gC_75, gI_75_0, gI_75_1, gI_75_2, gR_75_5, gI_75_6, gI_75_7, gI_75_8, gI_75_9, gI_75_10, gI_75_11, gI_75_12, gI_75_13, gL_75_14, gR_75_15, gR_75_16, gR_75_17, gR_75_18, gI_75_19, gI_75_20, gR_75_21, gR_75_22, gR_75_23, gI_75_24, gR_75_25, gI_75_26, gL_75_27, gL_75_28, gR_75_29, gR_75_30, gI_75_31, gR_75_3, gQ_75_3, gN_75_3, gR_75_4, gQ_75_4, gN_75_4, pI_0_7, pI_1_1, pI_1_5, pI_1_6, pI_1_7, pI_1_8, pI_1_9, pL_1_10, pI_1_11, pI_1_12, pI_1_13, pI_1_14, pI_30_2, pI_30_3, pI_30_4, pI_35_2, pI_41_1, pZ0_41_1, pZ1_41_1, pI_41_2, pI_44_2, pZ0_44_2, pZ1_44_2, pI_44_3, pI_49_2, pI_49_3, pI_75_0, pI_75_1, pI_75_2, pI_75_6, pI_75_7, pI_75_8, pI_75_9, pI_75_10, pI_75_11, pI_75_12, pI_75_13, pL_75_14, pI_75_19, pI_75_20, pI_75_24, pI_75_26, pL_75_27, pL_75_28, pI_75_31, Option.bind_some, q_b2_some, q_zr_0, q_zr_1, x10_fine, x10_refused, x12_good, x12_refused, e3, show bI true = 1 from rfl, ne10, if_false, e2]
          exact e5
        · rw [put_ne (by decide), fm_q (by decide) (by decide) (by decide), wr_role (by decide)]
end FC3
