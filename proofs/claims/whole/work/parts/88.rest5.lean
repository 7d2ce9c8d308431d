def xq (q : Nat) : Int32 := match q with
  | 0 => -1
  | q + 1 => nI q
theorem xq_m1 (q : Nat) : nI q + (-1) = xq q := by
  cases q with
  | zero => rfl
  | succ q => exact pk_m1 q
section RSN
variable {T D m M : Nat} {c3 c4 : sF} {u : mU} {v : mV} {N : Nat → Nat} {d x : Nat} {C F : Nat → Int32}
theorem ref_next10 (ho : okTD T D) (hMs : mSh (SH T D (fR M) c4 m) M) (hM : 88 ≤ M) (h : relC u T M N) (hn0 : 0 < N 4) : ∀ (q f : Nat) (C : Nat → Int32), q ≤ N 3 → q < f → (∀ p, p < q → C p = nI (dgt (N 4) x (N 3 - 1 - p))) → (∀ p, q ≤ p → p < N 3 → C p = 0) → (x + 1) % N 4 ^ (N 3 - q) = 0 → (∃ C', DG (N 4) (N 3) (x + 1) C' ∧ ¬ (x + 1) % N 4 ^ N 3 = 0 ∧ L_X12_nextChoice_10 f 75 (xq q) (Rep (SH T D (fR M) c4 m) (rsU u C F) v) = some (1, Rep (SH T D (fR M) c4 m) (rsU u C' F) v)) ∨ ((x + 1) % N 4 ^ N 3 = 0 ∧ ∃ C', L_X12_nextChoice_10 f 75 (xq q) (Rep (SH T D (fR M) c4 m) (rsU u C F) v) = some (0, Rep (SH T D (fR M) c4 m) (rsU u C' F) v)) := by
  have hb := bndN_of h.1
  have b3 : N 3 ≤ 5 := hb.2.2.2.1
  have b4 : N 4 ≤ 4 := hb.2.2.2.2.1
  intro q
  induction q with
  | zero =>
    intro f C hq hf h1 h2 h3
    obtain ⟨f, rfl⟩ : ∃ f', f = f' + 1 := ⟨f - 1, by omega⟩
    have c : xq 0 < 0 := by decide
    refine Or.inr ⟨h3, C, ?_⟩
    rw [L_X12_nextChoice_10, if_pos c]
  | succ q ih =>
    intro f C hq hf h1 h2 h3
    obtain ⟨f, rfl⟩ : ∃ f', f = f' + 1 := ⟨f - 1, by omega⟩
    have c : ¬ nI q < 0 := nI_pos (by omega)
    have q5 : q < 5 := by omega
    have eC := h1 q (by omega)
    have hj : N 3 - (q + 1) = N 3 - 1 - q := by omega
    rw [hj] at h3
    have hdl := dgt_lt (x := x) (j := N 3 - 1 - q) hn0
    have e5 : upd C q (nI (dgt (N 4) x (N 3 - 1 - q) + 1)) q = nI (dgt (N 4) x (N 3 - 1 - q) + 1) := by rw [upd_at, if_pos rfl]
    have m4 : ∀ C' : Nat → Int32, rsU u C' F M 4 = nI (N 4) := fun C' => ((rs_relC (C := C') (F := F) ho hM h).1 4 (by decide)).2.1
    have p1 : (nI (N 4) ≤ nI (dgt (N 4) x (N 3 - 1 - q) + 1)) = (N 4 ≤ dgt (N 4) x (N 3 - 1 - q) + 1) := propext (nI_leI (by omega) (by omega))
    show (∃ C', _ ∧ _ ∧ L_X12_nextChoice_10 (f + 1) 75 (nI q) _ = _) ∨ (_ ∧ ∃ C', L_X12_nextChoice_10 (f + 1) 75 (nI q) _ = _)
    by_cases c1 : dgt (N 4) x (N 3 - 1 - q) + 1 < N 4
    · have c2 : ¬ N 4 ≤ dgt (N 4) x (N 3 - 1 - q) + 1 := by omega
      refine Or.inl ⟨upd C q (nI (dgt (N 4) x (N 3 - 1 - q) + 1)), ?_, (fun z => by
        have := dgt_low (i := N 3 - 1 - q) hn0 z (by omega)
        rw [dgt_at hn0 h3 c1] at this
        omega), ?_⟩
      · intro p hp
        rw [upd_at]
        by_cases cp : p = q
        · rw [if_pos cp, cp, dgt_at hn0 h3 c1]
        · rw [if_neg cp]
          by_cases cp2 : p < q
          · rw [h1 p (by omega), dgt_high hn0 h3 c1 (by omega)]
          · rw [h2 p (by omega) hp, dgt_low hn0 h3 (by omega), nI_0]
      · simp -implicitDefEqProofs only [L_X12_nextChoice_10, if_neg c, gC_0, gR_0_0, gR_0_1, gR_0_2, gR_0_3, gR_0_4, gR_0_5, gR_0_6, gI_0_7, gR_0_8, gC_1, gR_1_0, gI_1_1, gR_1_2, gR_1_3, gR_1_4, gI_1_5, gI_1_6, gI_1_7, gI_1_8, gI_1_9, gL_1_10, gI_1_11, gI_1_12, gI_1_13, gI_1_14, gC_27, gR_27_0, gC_30, gR_30_0, gR_30_1, gI_30_2, gI_30_3, gI_30_4, gC_35, gR_35_0, gR_35_1, gI_35_2, gC_36, gR_36_0, gC_41, gR_41_0, gI_41_1, gI_41_2, gC_44, gR_44_0, gR_44_1, gI_44_2, gI_44_3, gC_49, gR_49_0, gR_49_1, gI_49_2, gI_49_3, gC_75, gI_75_0, gI_75_1, gI_75_2, gR_75_5, gI_75_6, gI_75_7, gI_75_8, gI_75_9, gI_75_10, gI_75_11, gI_75_12, gI_75_13, gL_75_14, gR_75_15, gR_75_16, gR_75_17, gR_75_18, gI_75_19, gI_75_20, gR_75_21, gR_75_22, gR_75_23, gI_75_24, gR_75_25, gI_75_26, gL_75_27, gL_75_28, gR_75_29, gR_75_30, gI_75_31, gR_75_3, gQ_75_3, gN_75_3, gR_75_4, gQ_75_4, gN_75_4, pI_0_7, pI_1_1, pI_1_5, pI_1_6, pI_1_7, pI_1_8, pI_1_9, pL_1_10, pI_1_11, pI_1_12, pI_1_13, pI_1_14, pI_30_2, pI_30_3, pI_30_4, pI_35_2, pI_41_1, pZ0_41_1, pZ1_41_1, pI_41_2, pI_44_2, pZ0_44_2, pZ1_44_2, pI_44_3, pI_49_2, pI_49_3, pI_75_0, pI_75_1, pI_75_2, pI_75_6, pI_75_7, pI_75_8, pI_75_9, pI_75_10, pI_75_11, pI_75_12, pI_75_13, pL_75_14, pI_75_19, pI_75_20, pI_75_24, pI_75_26, pL_75_27, pL_75_28, pI_75_31, Option.bind_some, q_b2_some, q_zr_0, q_zr_1, x10_fine, x10_refused, x12_good, x12_refused, aB_2, an_2, aB_76, an_76, aI_77, aI_78, aI_79, aI_80, aI_81, aI_82, aI_83, aI_84, aI_85, aI_86, sB_2, sB_76, sI_77, sI_78, sI_79, sI_80, sI_81, sI_82, sI_83, sI_84, sI_85, sI_86, mC, mI_0, mI_1, mI_2, mI_3, mI_4, mI_5, mI_6, mI_7, mI_8, mI_9, mI_10, mR_11, mR_12, mR_13, mR_14, mR_15, mR_16, mR_17, mR_18, mR_19, mR_20, mR_21, mR_22, mR_23, mR_24, mR_25, mR_26, mR_27, mR_28, mR_29, mR_30, mR_31, mR_32, mR_33, mR_34, ma_1, ma_2, ma_3, ma_4, ma_5, ma_6, ma_7, ma_8, ma_9, ma_10, ma_11, ma_12, ma_13, ma_14, ma_15, ma_16, ma_17, ma_18, ma_19, ma_20, ma_21, ma_22, ma_23, ma_24, hMs, q5, rs_85, eC, nI_1, rs_wC, e5, m4, p1, if_neg c2]
    · have c2 : N 4 ≤ dgt (N 4) x (N 3 - 1 - q) + 1 := by omega
      have hnx := ih f (upd (upd C q (nI (dgt (N 4) x (N 3 - 1 - q) + 1))) q 0) (by omega) (by omega) (fun p hp => by
        rw [upd_at, if_neg (by omega), upd_at, if_neg (by omega)]
        exact h1 p (by omega)) (fun p hp1 hp2 => by
        rw [upd_at]
        by_cases cp : p = q
        · rw [if_pos cp]
        · rw [if_neg cp, upd_at, if_neg cp]
          exact h2 p (by omega) hp2) (by
        rw [show N 3 - q = N 3 - 1 - q + 1 by omega]
        exact odo_next hn0 h3 c1)
      have hrun : L_X12_nextChoice_10 (f + 1) 75 (nI q) (Rep (SH T D (fR M) c4 m) (rsU u C F) v) = L_X12_nextChoice_10 f 75 (xq q) (Rep (SH T D (fR M) c4 m) (rsU u (upd (upd C q (nI (dgt (N 4) x (N 3 - 1 - q) + 1))) q 0) F) v) := by
        simp -implicitDefEqProofs only [L_X12_nextChoice_10, if_neg c, gC_0, gR_0_0, gR_0_1, gR_0_2, gR_0_3, gR_0_4, gR_0_5, gR_0_6, gI_0_7, gR_0_8, gC_1, gR_1_0, gI_1_1, gR_1_2, gR_1_3, gR_1_4, gI_1_5, gI_1_6, gI_1_7, gI_1_8, gI_1_9, gL_1_10, gI_1_11, gI_1_12, gI_1_13, gI_1_14, gC_27, gR_27_0, gC_30, gR_30_0, gR_30_1, gI_30_2, gI_30_3, gI_30_4, gC_35, gR_35_0, gR_35_1, gI_35_2, gC_36, gR_36_0, gC_41, gR_41_0, gI_41_1, gI_41_2, gC_44, gR_44_0, gR_44_1, gI_44_2, gI_44_3, gC_49, gR_49_0, gR_49_1, gI_49_2, gI_49_3, gC_75, gI_75_0, gI_75_1, gI_75_2, gR_75_5, gI_75_6, gI_75_7, gI_75_8, gI_75_9, gI_75_10, gI_75_11, gI_75_12, gI_75_13, gL_75_14, gR_75_15, gR_75_16, gR_75_17, gR_75_18, gI_75_19, gI_75_20, gR_75_21, gR_75_22, gR_75_23, gI_75_24, gR_75_25, gI_75_26, gL_75_27, gL_75_28, gR_75_29, gR_75_30, gI_75_31, gR_75_3, gQ_75_3, gN_75_3, gR_75_4, gQ_75_4, gN_75_4, pI_0_7, pI_1_1, pI_1_5, pI_1_6, pI_1_7, pI_1_8, pI_1_9, pL_1_10, pI_1_11, pI_1_12, pI_1_13, pI_1_14, pI_30_2, pI_30_3, pI_30_4, pI_35_2, pI_41_1, pZ0_41_1, pZ1_41_1, pI_41_2, pI_44_2, pZ0_44_2, pZ1_44_2, pI_44_3, pI_49_2, pI_49_3, pI_75_0, pI_75_1, pI_75_2, pI_75_6, pI_75_7, pI_75_8, pI_75_9, pI_75_10, pI_75_11, pI_75_12, pI_75_13, pL_75_14, pI_75_19, pI_75_20, pI_75_24, pI_75_26, pL_75_27, pL_75_28, pI_75_31, Option.bind_some, q_b2_some, q_zr_0, q_zr_1, x10_fine, x10_refused, x12_good, x12_refused, aB_2, an_2, aB_76, an_76, aI_77, aI_78, aI_79, aI_80, aI_81, aI_82, aI_83, aI_84, aI_85, aI_86, sB_2, sB_76, sI_77, sI_78, sI_79, sI_80, sI_81, sI_82, sI_83, sI_84, sI_85, sI_86, mC, mI_0, mI_1, mI_2, mI_3, mI_4, mI_5, mI_6, mI_7, mI_8, mI_9, mI_10, mR_11, mR_12, mR_13, mR_14, mR_15, mR_16, mR_17, mR_18, mR_19, mR_20, mR_21, mR_22, mR_23, mR_24, mR_25, mR_26, mR_27, mR_28, mR_29, mR_30, mR_31, mR_32, mR_33, mR_34, ma_1, ma_2, ma_3, ma_4, ma_5, ma_6, ma_7, ma_8, ma_9, ma_10, ma_11, ma_12, ma_13, ma_14, ma_15, ma_16, ma_17, ma_18, ma_19, ma_20, ma_21, ma_22, ma_23, ma_24, hMs, q5, rs_85, eC, nI_1, rs_wC, e5, m4, p1, if_pos c2, xq_m1]
      rw [hrun]
      exact hnx
theorem ref_next (ho : okTD T D) (hMs : mSh (SH T D (fR M) c4 m) M) (hM : 88 ≤ M) (h : relC u T M N) (hn0 : 0 < N 4) (h3 : 1 ≤ N 3) (hx : x < N 4 ^ N 3) (hC : DG (N 4) (N 3) x C) : (x + 1 < N 4 ^ N 3 → ∃ C', DG (N 4) (N 3) (x + 1) C' ∧ f_X12_nextChoice (Rep (SH T D (fR M) c4 m) (rsU u C F) v) 75 = some (1, Rep (SH T D (fR M) c4 m) (rsU u C' F) v)) ∧ (x + 1 = N 4 ^ N 3 → ∃ C', f_X12_nextChoice (Rep (SH T D (fR M) c4 m) (rsU u C F) v) 75 = some (0, Rep (SH T D (fR M) c4 m) (rsU u C' F) v)) := by
  have hb := bndN_of h.1
  have b3 : N 3 ≤ 5 := hb.2.2.2.1
  have b4 : N 4 ≤ 4 := hb.2.2.2.2.1
  have m3 := ((rs_relC (C := C) (F := F) ho hM h).1 3 (by decide)).2.1
  have e := ref_next10 (v := v) (x := x) (F := F) ho hMs hM h hn0 (N 3) 1000000000 C (by omega) (by omega) hC (fun p h1 h2 => by omega) (by rw [Nat.sub_self, Nat.pow_zero, Nat.mod_one])
  have hst : f_X12_nextChoice (Rep (SH T D (fR M) c4 m) (rsU u C F) v) 75 = L_X12_nextChoice_10 1000000000 75 (xq (N 3)) (Rep (SH T D (fR M) c4 m) (rsU u C F) v) := by
    obtain ⟨k, hk⟩ : ∃ k, N 3 = k + 1 := ⟨N 3 - 1, by omega⟩
    unfold f_X12_nextChoice
    rw [gC_75, Option.bind_some, gR_75_3, Option.bind_some, mI_3 hMs, Option.bind_some, m3, hk, nI_pred]
    rfl
  rw [hst]
  refine ⟨fun hlt => ?_, fun heq => ?_⟩
  · rcases e with ⟨C', e1, -, e2⟩ | ⟨e, -⟩
    · exact ⟨C', e1, e2⟩
    · rw [Nat.mod_eq_of_lt hlt] at e
      omega
  · rcases e with ⟨C', -, hD, -⟩ | ⟨-, e⟩
    · rw [heq, Nat.mod_self] at hD
      exact absurd rfl hD
    · exact e
theorem ref_rst4 {kk : Nat → Int32 → Int32 → qS → Option (Int32 × qS)} {y z : Int32} : ∀ (r p f : Nat) (C : Nat → Int32), p + r = 5 → r < f → (∀ j, j < p → C j = 0) → ∃ C', (∀ j, j < 5 → C' j = 0) ∧ L_X12_resting_4 kk f 75 y z (nI p) (Rep (SH T D c3 c4 m) (rsU u C F) v) = kk 75 y z (Rep (SH T D c3 c4 m) (rsU u C' F) v) := by
  intro r
  induction r with
  | zero =>
    intro p f C hp hf hC
    obtain ⟨f, rfl⟩ : ∃ f', f = f' + 1 := ⟨f - 1, by omega⟩
    have c : (5 : Int32) ≤ nI p := nI_le (a := 5) (by omega) (by omega)
    refine ⟨C, fun j hj => hC j (by omega), ?_⟩
    rw [L_X12_resting_4, if_pos c]
  | succ r ih =>
    intro p f C hp hf hC
    obtain ⟨f, rfl⟩ : ∃ f', f = f' + 1 := ⟨f - 1, by omega⟩
    have c : ¬ (5 : Int32) ≤ nI p := nI_ge (b := 5) (by omega) (by omega)
    have p5 : p < 5 := by omega
    obtain ⟨C', h1, h2⟩ := ih (p + 1) f (upd C p 0) (by omega) (by omega) (fun j hj => by
      rw [upd_at]
      by_cases cj : j = p
      · rw [if_pos cj]
      · rw [if_neg cj]; exact hC j (by omega))
    refine ⟨C', h1, ?_⟩
    simp -implicitDefEqProofs only [L_X12_resting_4, if_neg c, gC_0, gR_0_0, gR_0_1, gR_0_2, gR_0_3, gR_0_4, gR_0_5, gR_0_6, gI_0_7, gR_0_8, gC_1, gR_1_0, gI_1_1, gR_1_2, gR_1_3, gR_1_4, gI_1_5, gI_1_6, gI_1_7, gI_1_8, gI_1_9, gL_1_10, gI_1_11, gI_1_12, gI_1_13, gI_1_14, gC_27, gR_27_0, gC_30, gR_30_0, gR_30_1, gI_30_2, gI_30_3, gI_30_4, gC_35, gR_35_0, gR_35_1, gI_35_2, gC_36, gR_36_0, gC_41, gR_41_0, gI_41_1, gI_41_2, gC_44, gR_44_0, gR_44_1, gI_44_2, gI_44_3, gC_49, gR_49_0, gR_49_1, gI_49_2, gI_49_3, gC_75, gI_75_0, gI_75_1, gI_75_2, gR_75_5, gI_75_6, gI_75_7, gI_75_8, gI_75_9, gI_75_10, gI_75_11, gI_75_12, gI_75_13, gL_75_14, gR_75_15, gR_75_16, gR_75_17, gR_75_18, gI_75_19, gI_75_20, gR_75_21, gR_75_22, gR_75_23, gI_75_24, gR_75_25, gI_75_26, gL_75_27, gL_75_28, gR_75_29, gR_75_30, gI_75_31, gR_75_3, gQ_75_3, gN_75_3, gR_75_4, gQ_75_4, gN_75_4, pI_0_7, pI_1_1, pI_1_5, pI_1_6, pI_1_7, pI_1_8, pI_1_9, pL_1_10, pI_1_11, pI_1_12, pI_1_13, pI_1_14, pI_30_2, pI_30_3, pI_30_4, pI_35_2, pI_41_1, pZ0_41_1, pZ1_41_1, pI_41_2, pI_44_2, pZ0_44_2, pZ1_44_2, pI_44_3, pI_49_2, pI_49_3, pI_75_0, pI_75_1, pI_75_2, pI_75_6, pI_75_7, pI_75_8, pI_75_9, pI_75_10, pI_75_11, pI_75_12, pI_75_13, pL_75_14, pI_75_19, pI_75_20, pI_75_24, pI_75_26, pL_75_27, pL_75_28, pI_75_31, Option.bind_some, q_b2_some, q_zr_0, q_zr_1, x10_fine, x10_refused, x12_good, x12_refused, aB_2, an_2, aB_76, an_76, aI_77, aI_78, aI_79, aI_80, aI_81, aI_82, aI_83, aI_84, aI_85, aI_86, sB_2, sB_76, sI_77, sI_78, sI_79, sI_80, sI_81, sI_82, sI_83, sI_84, sI_85, sI_86, p5, rs_wC, nI_1]
    exact h2
theorem ref_rst39 {kk : Nat → Int32 → Int32 → qS → Option (Int32 × qS)} {y : Int32} : ∀ (r p f : Nat) (F : Nat → Int32), p + r = 5 → r < f → (∀ j, j < p → F j = C j) → ∃ F', (∀ j, j < 5 → F' j = C j) ∧ L_X12_resting_39 kk f 75 y 0 (nI p) (Rep (SH T D c3 c4 m) (rsU u C F) v) = kk 75 y 0 (Rep (SH T D c3 c4 m) (rsU u C F') v) := by
  intro r
  induction r with
  | zero =>
    intro p f F hp hf hF
    obtain ⟨f, rfl⟩ : ∃ f', f = f' + 1 := ⟨f - 1, by omega⟩
    have c : (5 : Int32) ≤ nI p := nI_le (a := 5) (by omega) (by omega)
    refine ⟨F, fun j hj => hF j (by omega), ?_⟩
    rw [L_X12_resting_39, if_pos c]
  | succ r ih =>
    intro p f F hp hf hF
    obtain ⟨f, rfl⟩ : ∃ f', f = f' + 1 := ⟨f - 1, by omega⟩
    have c : ¬ (5 : Int32) ≤ nI p := nI_ge (b := 5) (by omega) (by omega)
    have p5 : p < 5 := by omega
    obtain ⟨F', h1, h2⟩ := ih (p + 1) f (upd F p (C p)) (by omega) (by omega) (fun j hj => by
      rw [upd_at]
      by_cases cj : j = p
      · rw [if_pos cj, cj]
      · rw [if_neg cj]; exact hF j (by omega))
    refine ⟨F', h1, ?_⟩
    simp -implicitDefEqProofs only [L_X12_resting_39, if_neg c, if_true, gC_0, gR_0_0, gR_0_1, gR_0_2, gR_0_3, gR_0_4, gR_0_5, gR_0_6, gI_0_7, gR_0_8, gC_1, gR_1_0, gI_1_1, gR_1_2, gR_1_3, gR_1_4, gI_1_5, gI_1_6, gI_1_7, gI_1_8, gI_1_9, gL_1_10, gI_1_11, gI_1_12, gI_1_13, gI_1_14, gC_27, gR_27_0, gC_30, gR_30_0, gR_30_1, gI_30_2, gI_30_3, gI_30_4, gC_35, gR_35_0, gR_35_1, gI_35_2, gC_36, gR_36_0, gC_41, gR_41_0, gI_41_1, gI_41_2, gC_44, gR_44_0, gR_44_1, gI_44_2, gI_44_3, gC_49, gR_49_0, gR_49_1, gI_49_2, gI_49_3, gC_75, gI_75_0, gI_75_1, gI_75_2, gR_75_5, gI_75_6, gI_75_7, gI_75_8, gI_75_9, gI_75_10, gI_75_11, gI_75_12, gI_75_13, gL_75_14, gR_75_15, gR_75_16, gR_75_17, gR_75_18, gI_75_19, gI_75_20, gR_75_21, gR_75_22, gR_75_23, gI_75_24, gR_75_25, gI_75_26, gL_75_27, gL_75_28, gR_75_29, gR_75_30, gI_75_31, gR_75_3, gQ_75_3, gN_75_3, gR_75_4, gQ_75_4, gN_75_4, pI_0_7, pI_1_1, pI_1_5, pI_1_6, pI_1_7, pI_1_8, pI_1_9, pL_1_10, pI_1_11, pI_1_12, pI_1_13, pI_1_14, pI_30_2, pI_30_3, pI_30_4, pI_35_2, pI_41_1, pZ0_41_1, pZ1_41_1, pI_41_2, pI_44_2, pZ0_44_2, pZ1_44_2, pI_44_3, pI_49_2, pI_49_3, pI_75_0, pI_75_1, pI_75_2, pI_75_6, pI_75_7, pI_75_8, pI_75_9, pI_75_10, pI_75_11, pI_75_12, pI_75_13, pL_75_14, pI_75_19, pI_75_20, pI_75_24, pI_75_26, pL_75_27, pL_75_28, pI_75_31, Option.bind_some, q_b2_some, q_zr_0, q_zr_1, x10_fine, x10_refused, x12_good, x12_refused, aB_2, an_2, aB_76, an_76, aI_77, aI_78, aI_79, aI_80, aI_81, aI_82, aI_83, aI_84, aI_85, aI_86, sB_2, sB_76, sI_77, sI_78, sI_79, sI_80, sI_81, sI_82, sI_83, sI_84, sI_85, sI_86, p5, rs_85, rs_wF, nI_1]
    exact h2
theorem ref_rst39n {kk : Nat → Int32 → Int32 → qS → Option (Int32 × qS)} {y z : Int32} {f : Nat} (hz : ¬ z = 0) : L_X12_resting_39 kk (f + 1) 75 y z 0 (Rep (SH T D c3 c4 m) (rsU u C F) v) = kk 75 y z (Rep (SH T D c3 c4 m) (rsU u C F) v) := by
  rw [L_X12_resting_39, if_neg (by decide), if_neg hz]
/-- the first row at rest, kept -/
def fsF (rs : Nat → Bool) (n P x : Nat) (F : Nat → Int32) : Prop := ∀ y, fnd rs x 0 = some y → ∀ p, p < P → F p = nI (dgt n y (P - 1 - p))
theorem ref_rst24 (ho : okTD T D) (hMs : mSh (SH T D (fR M) c4 m) M) (hM : 88 ≤ M) (h : relC u T M N) (hd : d < 7) (hn0 : 0 < N 4) (h3 : 1 ≤ N 3) : ∀ (r x f : Nat) (C F : Nat → Int32), x + r + 1 = N 4 ^ N 3 → r + 1 < f → DG (N 4) (N 3) x C → fsF (rsP (gvN (col u M) N d) (N 4) (N 3)) (N 4) (N 3) x F → ∃ C' F', fsF (rsP (gvN (col u M) N d) (N 4) (N 3)) (N 4) (N 3) (N 4 ^ N 3) F' ∧ L_X12_resting_24 f 75 (nI d) (nI (cN (rsP (gvN (col u M) N d) (N 4) (N 3)) x)) 1 (Rep (SH T D (fR M) c4 m) (rsU u C F) v) = some (nI (cN (rsP (gvN (col u M) N d) (N 4) (N 3)) (N 4 ^ N 3)), Rep (SH T D (fR M) c4 m) (rsU u C' F') v) := by
  have hb := bndN_of h.1
  have b3 : N 3 ≤ 5 := hb.2.2.2.1
  have b4 : N 4 ≤ 4 := hb.2.2.2.2.1
  have hp := pow_le b4 b3
  generalize hrs : rsP (gvN (col u M) N d) (N 4) (N 3) = rs
  -- one row, then the next or the end
  have turn : ∀ (x f : Nat) (C F : Nat → Int32), x < N 4 ^ N 3 → DG (N 4) (N 3) x C → fsF rs (N 4) (N 3) x F → ∃ F2, fsF rs (N 4) (N 3) (x + 1) F2 ∧ L_X12_resting_24 (f + 1) 75 (nI d) (nI (cN rs x)) 1 (Rep (SH T D (fR M) c4 m) (rsU u C F) v) = q_b2 (f_X12_nextChoice (Rep (SH T D (fR M) c4 m) (rsU u C F2) v) 75) fun v3 g2 => L_X12_resting_24 f 75 (nI d) (nI (cN rs (x + 1))) v3 g2 := by
    intro x f C F hx hC hF
    have e1 := ref_isRest (v := v) (F := F) ho hMs hM h hd hn0 hC
    rw [hrs] at e1
    have hcs : cN rs (x + 1) = cN rs x + (if rs x = true then 1 else 0) := rfl
    have hfs := fnd_snoc (p := rs) x 0
    rw [Nat.zero_add] at hfs
    have hle := cN_le (p := rs) x
    cases cr : rs x with
    | false =>
      rw [cr] at e1 hfs
      have hcs : cN rs (x + 1) = cN rs x := by
        rw [hcs, cr, if_neg (by decide)]
        exact Nat.add_zero _
      refine ⟨F, fun y hy => hF y ?_, ?_⟩
      · rw [hfs] at hy
        cases hf : fnd rs x 0 with
        | none => rw [hf] at hy; cases hy
        | some z => rw [hf] at hy; exact hy
      · rw [L_X12_resting_24, if_neg (by decide), e1, Option.bind_some, show bI false = 0 from rfl, if_pos rfl, hcs]
    | true =>
      rw [cr] at e1 hfs
      have hcs : cN rs (x + 1) = cN rs x + 1 := by rw [hcs, cr, if_pos rfl]
      by_cases c0 : cN rs x = 0
      · obtain ⟨F', hF', e2⟩ := ref_rst39 (T := T) (D := D) (c3 := fR M) (c4 := c4) (m := m) (u := u) (v := v) (C := C) (kk := fun y4 y5 y6 g7 => q_b2 (f_X12_nextChoice g7 y4) fun v9 g8 => L_X12_resting_24 f y4 y5 (y6 + 1) v9 g8) (y := nI d) 5 0 1000000000 F (by omega) (by omega) (fun j hj => by omega)
        rw [nI_0] at e2
        have hn := (cN_fnd x).mp c0
        rw [hn] at hfs
        have hfs : fnd rs (x + 1) 0 = some x := hfs
        refine ⟨F', fun y hy => ?_, ?_⟩
        · rw [hfs] at hy
          cases hy
          intro p hp'
          rw [hF' p (by omega)]
          exact hC p hp'
        · rw [L_X12_resting_24, if_neg (by decide), e1, Option.bind_some, show bI true = 1 from rfl, if_neg (by decide), c0, nI_0, e2, hcs, c0]
          rfl
      · have hne : ¬ nI (cN rs x) = 0 := nI_ne0 (by omega) (by omega)
        refine ⟨F, fun y hy => hF y ?_, ?_⟩
        · rw [hfs] at hy
          cases hf : fnd rs x 0 with
          | none => exact absurd ((cN_fnd x).mpr hf) c0
          | some z => rw [hf] at hy; exact hy
        · have e2 := ref_rst39n (T := T) (D := D) (c3 := fR M) (c4 := c4) (m := m) (u := u) (v := v) (C := C) (F := F) (f := 999999999) (kk := fun y4 y5 y6 g7 => q_b2 (f_X12_nextChoice g7 y4) fun v9 g8 => L_X12_resting_24 f y4 y5 (y6 + 1) v9 g8) (y := nI d) hne
          rw [L_X12_resting_24, if_neg (by decide), e1, Option.bind_some, show bI true = 1 from rfl, if_neg (by decide)]
          rw [show (1000000000 : Nat) = 999999999 + 1 from rfl, e2, hcs, nI_1]
  intro r
  induction r with
  | zero =>
    intro x f C F hx hf hC hF
    obtain ⟨f, rfl⟩ : ∃ f', f = f' + 1 + 1 := ⟨f - 2, by omega⟩
    obtain ⟨F2, q1, q2⟩ := turn x (f + 1) C F (by omega) hC hF
    obtain ⟨C', q3⟩ := (ref_next (v := v) (F := F2) ho hMs hM h hn0 h3 (by omega) hC).2 (by omega)
    rw [show x + 1 = N 4 ^ N 3 by omega] at q1 q2
    refine ⟨C', F2, q1, ?_⟩
    rw [q2, q3, q_b2_some, L_X12_resting_24, if_pos rfl]
  | succ r ih =>
    intro x f C F hx hf hC hF
    obtain ⟨f, rfl⟩ : ∃ f', f = f' + 1 := ⟨f - 1, by omega⟩
    obtain ⟨F2, q1, q2⟩ := turn x f C F (by omega) hC hF
    obtain ⟨C', hD, q3⟩ := (ref_next (v := v) (F := F2) ho hMs hM h hn0 h3 (by omega) hC).1 (by omega)
    obtain ⟨C2, F3, q4, q5⟩ := ih (x + 1) f C' F2 (by omega) (by omega) hD q1
    refine ⟨C2, F3, q4, ?_⟩
    rw [q2, q3, q_b2_some, q5]
theorem ref_resting (ho : okTD T D) (hMs : mSh (SH T D (fR M) c4 m) M) (hM : 88 ≤ M) (h : relC u T M N) (hd : d < 7) (hn0 : 0 < N 4) (h3 : 1 ≤ N 3) : ∃ C' F', fsF (rsP (gvN (col u M) N d) (N 4) (N 3)) (N 4) (N 3) (N 4 ^ N 3) F' ∧ f_X12_resting (Rep (SH T D (fR M) c4 m) u v) 75 (nI d) = some (nI (cN (rsP (gvN (col u M) N d) (N 4) (N 3)) (N 4 ^ N 3)), Rep (SH T D (fR M) c4 m) (rsU u C' F') v) := by
  have hb := bndN_of h.1
  have b3 : N 3 ≤ 5 := hb.2.2.2.1
  have b4 : N 4 ≤ 4 := hb.2.2.2.2.1
  have hp := pow_le b4 b3
  have hp0 : 0 < N 4 ^ N 3 := Nat.pow_pos hn0
  obtain ⟨C0, c1, c2⟩ := ref_rst4 (T := T) (D := D) (c3 := fR M) (c4 := c4) (m := m) (u := u) (v := v) (F := u 86) (kk := fun y1 y2 y3 g4 => L_X12_resting_24 1000000000 y1 y2 y3 1 g4) (y := nI d) (z := 0) 5 0 1000000000 (u 85) (by omega) (by omega) (fun j hj => by omega)
  obtain ⟨C', F', q1, q2⟩ := ref_rst24 (v := v) ho hMs hM h hd hn0 h3 (N 4 ^ N 3 - 1) 0 1000000000 C0 (u 86) (by omega) (by omega) (fun p hp => by
    rw [c1 p (by omega)]
    unfold dgt
    rw [Nat.zero_div, Nat.zero_mod, nI_0]) (fun y hy => by cases hy)
  refine ⟨C', F', q1, ?_⟩
  rw [rs_self, nI_0] at c2
  unfold f_X12_resting
  rw [gC_75, Option.bind_some, c2]
  exact q2
end RSN
