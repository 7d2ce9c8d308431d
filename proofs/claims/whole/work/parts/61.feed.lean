/-- bytes put on a tape (array a, length at field i of role r) -/
def apL (a r i : Nat) (u : mU) (L : Nat) : List Int32 → mU
  | [] => u
  | y :: ys => apL a r i (wr (wr u a L y) r i (nI (L + 1))) (L + 1) ys
def bbt (x s : Int32) : Int32 := vp_nar .byte ((x >>> (s &&& 31)).toInt8.toInt32)
def selx (x1 x2 x3 x4 x5 : Int32) (k : Nat) : Int32 := if 4 ≤ k then (if 8 ≤ k then (if 12 ≤ k then (if 16 ≤ k then x5 else x4) else x3) else x2) else x1
section FED
variable {a r i : Nat} {T D m : Nat} {c3 c4 : sF} {v : mV}
theorem apL_app : ∀ (ys zs : List Int32) (u : mU) (L : Nat), apL a r i (apL a r i u L ys) (L + ys.length) zs = apL a r i u L (ys ++ zs) := by
  intro ys
  induction ys with
  | nil => intro zs u L; rfl
  | cons y ys ih =>
    intro zs u L
    have := ih zs (wr (wr u a L y) r i (nI (L + 1))) (L + 1)
    rw [show L + (y :: ys).length = L + 1 + ys.length by simp only [List.length_cons]; omega]
    exact this
theorem apL_len (hn : r ≠ a) : ∀ (ys : List Int32) (u : mU) (L : Nat), u r i = nI L → apL a r i u L ys r i = nI (L + ys.length) := by
  intro ys
  induction ys with
  | nil => intro u L h; exact h
  | cons y ys ih =>
    intro u L h
    have := ih (wr (wr u a L y) r i (nI (L + 1))) (L + 1) (wr_same _ _ _ _)
    rw [show L + (y :: ys).length = L + 1 + ys.length by simp only [List.length_cons]; omega]
    exact this
theorem apL_off : ∀ (ys : List Int32) (u : mU) (L q j : Nat), q ≠ a → ¬ (q = r ∧ j = i) → apL a r i u L ys q j = u q j := by
  intro ys
  induction ys with
  | nil => intro u L q j _ _; rfl
  | cons y ys ih =>
    intro u L q j h1 h2
    have := ih (wr (wr u a L y) r i (nI (L + 1))) (L + 1) q j h1 h2
    unfold apL
    rw [this]
    unfold wr
    rw [if_neg h2, if_neg (fun z => h1 z.1)]
theorem apL_at (hn : r ≠ a) : ∀ (ys : List Int32) (u : mU) (L j : Nat), apL a r i u L ys a j = if L ≤ j ∧ j < L + ys.length then ys.getD (j - L) 0 else u a j := by
  intro ys
  induction ys with
  | nil =>
    intro u L j
    rw [if_neg (by simp only [List.length_nil]; omega)]
    rfl
  | cons y ys ih =>
    intro u L j
    unfold apL
    rw [ih, wr_role (fun z => hn z.symm)]
    by_cases h : j = L
    · subst h
      rw [if_neg (by omega), wr_same, if_pos (by simp only [List.length_cons]; omega), Nat.sub_self]
      rfl
    · rw [wr_ix h]
      by_cases h2 : L + 1 ≤ j ∧ j < L + 1 + ys.length
      · rw [if_pos h2, if_pos (by simp only [List.length_cons]; omega), show j - L = (j - (L + 1)) + 1 by omega]
        rfl
      · rw [if_neg h2, if_neg (by simp only [List.length_cons]; omega)]
theorem cls_app1 {u : mU} {L f : Nat} {x s : Int32} (hs : ¬ s < 0) (hu : u 1 1 = nI L) (hL : L < 1000) : L_X6_append_3 (f + 1) 1 x s (Rep (SH T D c3 c4 m) u v) = L_X6_append_3 f 1 x (s + (-8)) (Rep (SH T D c3 c4 m) (wr (wr u 2 L (bbt x s)) 1 1 (nI (L + 1))) v) := by
  have c1 : ¬ nI L < 0 := nI_pos (by omega)
  have c2 : ¬ nI 1000 ≤ nI L := nI_ge (by omega) (by omega)
  have e : wr u 2 L (vp_nar FieldType.byte (x >>> (s &&& 31)).toInt8.toInt32) 1 1 = nI L := by rw [wr_role (by decide), hu]
  simp only [L_X6_append_3, hs, if_false, gC_0, gR_0_0, gR_0_1, gR_0_2, gR_0_3, gR_0_4, gR_0_5, gR_0_6, gI_0_7, gR_0_8, gC_1, gR_1_0, gI_1_1, gR_1_2, gR_1_3, gR_1_4, gI_1_5, gI_1_6, gI_1_7, gI_1_8, gI_1_9, gL_1_10, gI_1_11, gI_1_12, gI_1_13, gI_1_14, gC_27, gR_27_0, gC_30, gR_30_0, gR_30_1, gI_30_2, gI_30_3, gI_30_4, gC_35, gR_35_0, gR_35_1, gI_35_2, gC_36, gR_36_0, gC_41, gR_41_0, gI_41_1, gI_41_2, gC_44, gR_44_0, gR_44_1, gI_44_2, gI_44_3, gC_49, gR_49_0, gR_49_1, gI_49_2, gI_49_3, gC_75, gI_75_0, gI_75_1, gI_75_2, gR_75_5, gI_75_6, gI_75_7, gI_75_8, gI_75_9, gI_75_10, gI_75_11, gI_75_12, gI_75_13, gL_75_14, gR_75_15, gR_75_16, gR_75_17, gR_75_18, gI_75_19, gI_75_20, gR_75_21, gR_75_22, gR_75_23, gI_75_24, gR_75_25, gI_75_26, gL_75_27, gL_75_28, gR_75_29, gR_75_30, gI_75_31, gR_75_3, gQ_75_3, gN_75_3, gR_75_4, gQ_75_4, gN_75_4, pI_0_7, pI_1_1, pI_1_5, pI_1_6, pI_1_7, pI_1_8, pI_1_9, pL_1_10, pI_1_11, pI_1_12, pI_1_13, pI_1_14, pI_30_2, pI_30_3, pI_30_4, pI_35_2, pI_41_1, pZ0_41_1, pZ1_41_1, pI_41_2, pI_44_2, pZ0_44_2, pZ1_44_2, pI_44_3, pI_49_2, pI_49_3, pI_75_0, pI_75_1, pI_75_2, pI_75_6, pI_75_7, pI_75_8, pI_75_9, pI_75_10, pI_75_11, pI_75_12, pI_75_13, pL_75_14, pI_75_19, pI_75_20, pI_75_24, pI_75_26, pL_75_27, pL_75_28, pI_75_31, Option.bind_some, q_b2_some, q_zr_0, q_zr_1, x10_fine, x10_refused, x12_good, x12_refused, aB_2, an_2, aB_76, an_76, aI_77, aI_78, aI_79, aI_80, aI_81, aI_82, aI_83, aI_84, aI_85, aI_86, sB_2, sB_76, sI_77, sI_78, sI_79, sI_80, sI_81, sI_82, sI_83, sI_84, sI_85, sI_86, hu, c1, c2, hL, e, nI_1]
  rfl
theorem cls_app {u : mU} {L : Nat} {x : Int32} (hu : u 1 1 = nI L) (hL : L + 4 ≤ 1000) : f_X6_append (Rep (SH T D c3 c4 m) u v) 1 x = some (Rep (SH T D c3 c4 m) (apL 2 1 1 u L [bbt x 24, bbt x 16, bbt x 8, bbt x 0]) v) := by
  unfold f_X6_append
  rw [gC_1, Option.bind_some, show (1000000000 : Nat) = 999999995 + 1 + 1 + 1 + 1 + 1 from rfl]
  rw [cls_app1 (by decide) hu (by omega), cls_app1 (L := L + 1) (by decide) (wr_same _ _ _ _) (by omega), cls_app1 (L := L + 2) (by decide) (wr_same _ _ _ _) (by omega), cls_app1 (L := L + 3) (by decide) (wr_same _ _ _ _) (by omega)]
  unfold L_X6_append_3
  rw [if_pos (by decide)]
  rfl
theorem shf_eq : ∀ k, k < 20 → (24 - (8 * (nI k - nI k / 4 * 4))) = nI (24 - 8 * (k % 4)) := by decide +kernel
abbrev ybt (x1 x2 x3 x4 x5 : Int32) (k : Nat) : Int32 := bbt (selx x1 x2 x3 x4 x5 k) (nI (24 - 8 * (k % 4)))
theorem ref_feed1 {u : mU} {L f k : Nat} {x1 x2 x3 x4 x5 : Int32} (hk : k < 20) (hu : u 75 6 = nI L) (hL : L < 1000) : L_X12_feed_23 (f + 1) 75 x1 x2 x3 x4 x5 (nI k) (Rep (SH T D c3 c4 m) u v) = L_X12_feed_23 f 75 x1 x2 x3 x4 x5 (nI (k + 1)) (Rep (SH T D c3 c4 m) (wr (wr u 76 L (ybt x1 x2 x3 x4 x5 k)) 75 6 (nI (L + 1))) v) := by
  have q : ∀ b, b < 100 → (((nI b : Int32) ≤ nI k) = (b ≤ k)) := fun b hb => propext (nI_leI (by omega) (by omega))
  have c20 : ((20 : Int32) ≤ nI k) = (20 ≤ k) := q 20 (by decide)
  have c16 : ((16 : Int32) ≤ nI k) = (16 ≤ k) := q 16 (by decide)
  have c12 : ((12 : Int32) ≤ nI k) = (12 ≤ k) := q 12 (by decide)
  have c8 : ((8 : Int32) ≤ nI k) = (8 ≤ k) := q 8 (by decide)
  have c4' : ((4 : Int32) ≤ nI k) = (4 ≤ k) := q 4 (by decide)
  have h20 : ¬ 20 ≤ k := by omega
  have go : ∀ y : Int32, J_X12_feed_76 (L_X12_feed_23 f) 75 x1 x2 x3 x4 x5 (nI k) y (Rep (SH T D c3 c4 m) u v) = L_X12_feed_23 f 75 x1 x2 x3 x4 x5 (nI (k + 1)) (Rep (SH T D c3 c4 m) (wr (wr u 76 L (bbt y (nI (24 - 8 * (k % 4))))) 75 6 (nI (L + 1))) v) := by
    intro y
    have e : wr u 76 L (vp_nar FieldType.byte (y >>> (nI (24 - 8 * (k % 4)) &&& 31)).toInt8.toInt32) 75 6 = nI L := by rw [wr_role (by decide), hu]
    simp only [J_X12_feed_76, show ((4 : Int32) = 0) = False from by decide, if_false, gC_0, gR_0_0, gR_0_1, gR_0_2, gR_0_3, gR_0_4, gR_0_5, gR_0_6, gI_0_7, gR_0_8, gC_1, gR_1_0, gI_1_1, gR_1_2, gR_1_3, gR_1_4, gI_1_5, gI_1_6, gI_1_7, gI_1_8, gI_1_9, gL_1_10, gI_1_11, gI_1_12, gI_1_13, gI_1_14, gC_27, gR_27_0, gC_30, gR_30_0, gR_30_1, gI_30_2, gI_30_3, gI_30_4, gC_35, gR_35_0, gR_35_1, gI_35_2, gC_36, gR_36_0, gC_41, gR_41_0, gI_41_1, gI_41_2, gC_44, gR_44_0, gR_44_1, gI_44_2, gI_44_3, gC_49, gR_49_0, gR_49_1, gI_49_2, gI_49_3, gC_75, gI_75_0, gI_75_1, gI_75_2, gR_75_5, gI_75_6, gI_75_7, gI_75_8, gI_75_9, gI_75_10, gI_75_11, gI_75_12, gI_75_13, gL_75_14, gR_75_15, gR_75_16, gR_75_17, gR_75_18, gI_75_19, gI_75_20, gR_75_21, gR_75_22, gR_75_23, gI_75_24, gR_75_25, gI_75_26, gL_75_27, gL_75_28, gR_75_29, gR_75_30, gI_75_31, gR_75_3, gQ_75_3, gN_75_3, gR_75_4, gQ_75_4, gN_75_4, pI_0_7, pI_1_1, pI_1_5, pI_1_6, pI_1_7, pI_1_8, pI_1_9, pL_1_10, pI_1_11, pI_1_12, pI_1_13, pI_1_14, pI_30_2, pI_30_3, pI_30_4, pI_35_2, pI_41_1, pZ0_41_1, pZ1_41_1, pI_41_2, pI_44_2, pZ0_44_2, pZ1_44_2, pI_44_3, pI_49_2, pI_49_3, pI_75_0, pI_75_1, pI_75_2, pI_75_6, pI_75_7, pI_75_8, pI_75_9, pI_75_10, pI_75_11, pI_75_12, pI_75_13, pL_75_14, pI_75_19, pI_75_20, pI_75_24, pI_75_26, pL_75_27, pL_75_28, pI_75_31, Option.bind_some, q_b2_some, q_zr_0, q_zr_1, x10_fine, x10_refused, x12_good, x12_refused, aB_2, an_2, aB_76, an_76, aI_77, aI_78, aI_79, aI_80, aI_81, aI_82, aI_83, aI_84, aI_85, aI_86, sB_2, sB_76, sI_77, sI_78, sI_79, sI_80, sI_81, sI_82, sI_83, sI_84, sI_85, sI_86, hu, shf_eq k hk, hL, e, nI_1]
    rfl
  simp only [L_X12_feed_23, c20, c16, c12, c8, c4', h20, if_false, go]
  unfold ybt selx
  by_cases d4 : 4 ≤ k
  · rw [if_pos d4, if_pos d4]
    by_cases d8 : 8 ≤ k
    · rw [if_pos d8, if_pos d8]
      by_cases d12 : 12 ≤ k
      · rw [if_pos d12, if_pos d12]
        by_cases d16 : 16 ≤ k
        · rw [if_pos d16, if_pos d16]
        · rw [if_neg d16, if_neg d16]
      · rw [if_neg d12, if_neg d12]
    · rw [if_neg d8, if_neg d8]
  · rw [if_neg d4, if_neg d4]
theorem ref_feed {x1 x2 x3 x4 x5 : Int32} : ∀ (d k f L : Nat) (u : mU), k + d = 20 → d < f → u 75 6 = nI L → L + d ≤ 1000 → L_X12_feed_23 f 75 x1 x2 x3 x4 x5 (nI k) (Rep (SH T D c3 c4 m) u v) = some (nI (L + d), Rep (SH T D c3 c4 m) (apL 76 75 6 u L ((List.range' k d).map (ybt x1 x2 x3 x4 x5))) v) := by
  intro d
  induction d with
  | zero =>
    intro k f L u hk hf hu hL
    obtain ⟨f, rfl⟩ : ∃ f', f = f' + 1 := ⟨f - 1, by omega⟩
    have c : (20 : Int32) ≤ nI k := nI_le (a := 20) (by omega) (by omega)
    simp only [L_X12_feed_23, c, if_true, gC_0, gR_0_0, gR_0_1, gR_0_2, gR_0_3, gR_0_4, gR_0_5, gR_0_6, gI_0_7, gR_0_8, gC_1, gR_1_0, gI_1_1, gR_1_2, gR_1_3, gR_1_4, gI_1_5, gI_1_6, gI_1_7, gI_1_8, gI_1_9, gL_1_10, gI_1_11, gI_1_12, gI_1_13, gI_1_14, gC_27, gR_27_0, gC_30, gR_30_0, gR_30_1, gI_30_2, gI_30_3, gI_30_4, gC_35, gR_35_0, gR_35_1, gI_35_2, gC_36, gR_36_0, gC_41, gR_41_0, gI_41_1, gI_41_2, gC_44, gR_44_0, gR_44_1, gI_44_2, gI_44_3, gC_49, gR_49_0, gR_49_1, gI_49_2, gI_49_3, gC_75, gI_75_0, gI_75_1, gI_75_2, gR_75_5, gI_75_6, gI_75_7, gI_75_8, gI_75_9, gI_75_10, gI_75_11, gI_75_12, gI_75_13, gL_75_14, gR_75_15, gR_75_16, gR_75_17, gR_75_18, gI_75_19, gI_75_20, gR_75_21, gR_75_22, gR_75_23, gI_75_24, gR_75_25, gI_75_26, gL_75_27, gL_75_28, gR_75_29, gR_75_30, gI_75_31, gR_75_3, gQ_75_3, gN_75_3, gR_75_4, gQ_75_4, gN_75_4, pI_0_7, pI_1_1, pI_1_5, pI_1_6, pI_1_7, pI_1_8, pI_1_9, pL_1_10, pI_1_11, pI_1_12, pI_1_13, pI_1_14, pI_30_2, pI_30_3, pI_30_4, pI_35_2, pI_41_1, pZ0_41_1, pZ1_41_1, pI_41_2, pI_44_2, pZ0_44_2, pZ1_44_2, pI_44_3, pI_49_2, pI_49_3, pI_75_0, pI_75_1, pI_75_2, pI_75_6, pI_75_7, pI_75_8, pI_75_9, pI_75_10, pI_75_11, pI_75_12, pI_75_13, pL_75_14, pI_75_19, pI_75_20, pI_75_24, pI_75_26, pL_75_27, pL_75_28, pI_75_31, Option.bind_some, q_b2_some, q_zr_0, q_zr_1, x10_fine, x10_refused, x12_good, x12_refused, hu]
    rfl
  | succ d ih =>
    intro k f L u hk hf hu hL
    obtain ⟨f, rfl⟩ : ∃ f', f = f' + 1 := ⟨f - 1, by omega⟩
    rw [ref_feed1 (by omega) hu (by omega), ih (k + 1) f (L + 1) _ (by omega) (by omega) (wr_same _ _ _ _) (by omega)]
    rw [show L + 1 + d = L + (d + 1) by omega, List.range'_succ]
    rfl
end FED
theorem IA_agree {u u' : mU} {T M : Nat} {N : Nat → Nat} (hB : ∀ i, i < 21 → u' (T + i) = u (T + i)) (hM : ∀ i, u' (M + i) = u (M + i)) (e29 : u' 29 = u 29) (e77 : u' 77 = u 77) (e30 : u' 30 = u 30) (e32 : u' 32 = u 32) (e34 : u' 34 = u 34) (e79 : u' 79 = u 79) (e80 : u' 80 = u 80) (e1 : u' 75 19 = u 75 19) (e2 : u' 75 20 = u 75 20) (h : IA T M N u) : IA T M N u' := by
  have hc : col u' M = col u M := funext hM
  unfold IA rowEq relHist at *
  rw [hc, e29, e77, e30, e32, e34, e79, e80, e1, e2]
  exact ⟨relC_congr hB hM h.1, h.2⟩
theorem IW_agree {P Q : cP} {u u' : mU} {M : Nat} {N : Nat → Nat} (hM : ∀ i, u' (M + i) = u (M + i)) (e41 : u' 41 = u 41) (e43 : u' 43 = u 43) (e44 : u' 44 = u 44) (e48 : u' 48 = u 48) (h : IW P Q M N u) : IW P Q M N u' := by
  have hc : col u' M = col u M := funext hM
  unfold IW at *
  rw [hc, e41, e43, e44, e48]
  exact h
theorem cls_feed5 {u : mU} {v : mV} {T D m L : Nat} {c3 c4 : sF} {x1 x2 x3 x4 x5 : Int32} (e1 : u 1 1 = nI L) (c : L + 20 ≤ 1000) : ∃ ys : List Int32, ys.length = 20 ∧ (List.range' 0 20).map (ybt x1 x2 x3 x4 x5) = ys ∧ apL 2 1 1 u L ys 1 1 = nI (L + 20) ∧ f_X10_feed (Rep (SH T D c3 c4 m) u v) 0 x1 x2 x3 x4 x5 = some (nI (L + 20), Rep (SH T D c3 c4 m) (apL 2 1 1 u L ys) v) := by
  have c1 : nI L + 20 ≤ 1000 := by
    rw [show (20 : Int32) = nI 20 from rfl, nI_add]
    exact nI_le (b := 1000) c (by decide)
  have one : ∀ (u : mU) (L : Nat) (x : Int32), u 1 1 = nI L → L + 4 ≤ 1000 → ∃ l, l = [bbt x 24, bbt x 16, bbt x 8, bbt x 0] ∧ f_X6_append (Rep (SH T D c3 c4 m) u v) 1 x = some (Rep (SH T D c3 c4 m) (apL 2 1 1 u L l) v) ∧ apL 2 1 1 u L l 1 1 = nI (L + 4) ∧ l.length = 4 := fun u L x h1 h2 => ⟨_, rfl, cls_app h1 h2, apL_len (by decide) _ _ _ h1, rfl⟩
  obtain ⟨l1, d1, a1, k1, n1⟩ := one u L x1 e1 (by omega)
  obtain ⟨l2, d2, a2, k2, n2⟩ := one _ (L + 4) x2 k1 (by omega)
  obtain ⟨l3, d3, a3, k3, n3⟩ := one _ (L + 8) x3 k2 (by omega)
  obtain ⟨l4, d4, a4, k4, n4⟩ := one _ (L + 12) x4 k3 (by omega)
  obtain ⟨l5, d5, a5, k5, n5⟩ := one _ (L + 16) x5 k4 (by omega)
  refine ⟨l1 ++ (l2 ++ (l3 ++ (l4 ++ l5))), by simp only [List.length_append, n1, n2, n3, n4, n5], by rw [d1, d2, d3, d4, d5]; rfl, ?_, ?_⟩
  · rw [apL_len (by decide) _ _ _ e1]
    simp only [List.length_append, n1, n2, n3, n4, n5]
  · have ee : apL 2 1 1 (apL 2 1 1 (apL 2 1 1 (apL 2 1 1 (apL 2 1 1 u L l1) (L + 4) l2) (L + 8) l3) (L + 12) l4) (L + 16) l5 = apL 2 1 1 u L (l1 ++ (l2 ++ (l3 ++ (l4 ++ l5)))) := by
      rw [← apL_app l1, ← apL_app l2, ← apL_app l3, ← apL_app l4, n1, n2, n3, n4]
    unfold f_X10_feed f_X6_tapeLength
    rw [gC_0, Option.bind_some, gR_0_0, Option.bind_some, gC_1, Option.bind_some, gI_1_1, Option.bind_some, Option.bind_some, e1, if_pos c1, Option.bind_some, a1, Option.bind_some, gR_0_0, Option.bind_some, a2, Option.bind_some, gR_0_0, Option.bind_some, a3, Option.bind_some, gR_0_0, Option.bind_some, a4, Option.bind_some, gR_0_0, Option.bind_some, a5, Option.bind_some, gR_0_0, Option.bind_some, gC_1, Option.bind_some, gI_1_1, Option.bind_some, Option.bind_some, k5, ee]
theorem byt_bb (x s : Int32) : byt (bbt x s) := by
  unfold bbt
  exact ⟨(((x >>> (s &&& 31)).toInt8.toInt32)).toInt8, rfl⟩
theorem byt_get {x1 x2 x3 x4 x5 : Int32} {l : List Nat} (j : Nat) : byt ((l.map (ybt x1 x2 x3 x4 x5)).getD j 0) := by
  rw [List.getD_eq_getElem?_getD, List.getElem?_map]
  cases l[j]? with
  | none => exact ⟨0, rfl⟩
  | some a => exact byt_bb _ _
section FEO
variable {P Q : cP}
theorem P0 : q_P0c (Inv P Q) := by
  intro g n x1 x2 x3 x4 x5 hI
  obtain ⟨T, D, c3, c4, m, u, v, rfl, rfl, ho, h3, h4, ht, hK⟩ := hI
  obtain ⟨hB, h2⟩ := hK
  have hB' := hB
  obtain ⟨hf, L, hL, e1, e6, hbt⟩ := hB
  unfold lop_0
  by_cases c : L + 20 ≤ 1000
  · have c1 : nI L + 20 ≤ 1000 := by
      rw [show (20 : Int32) = nI 20 from rfl, nI_add]
      exact nI_le (b := 1000) c (by decide)
    obtain ⟨ys, hyl, hys, L5, E10⟩ := cls_feed5 (T := T) (D := D) (c3 := c3) (c4 := c4) (m := m) (v := v) (x1 := x1) (x2 := x2) (x3 := x3) (x4 := x4) (x5 := x5) e1 c
    have e6' : wr (apL 2 1 1 u L ys) 75 0 0 75 6 = nI L := by
      rw [wr_ix (by decide), apL_off _ _ _ _ _ (by decide) (by decide), e6]
    have E12 := ref_feed (T := T) (D := D) (c3 := c3) (c4 := c4) (m := m) (v := v) (x1 := x1) (x2 := x2) (x3 := x3) (x4 := x4) (x5 := x5) 20 0 1000000000 L (wr (apL 2 1 1 u L ys) 75 0 0) (by omega) (by omega) e6' (by omega)
    rw [hys, nI_0] at E12
    have E13 : f_X12_feed (Rep (SH T D c3 c4 m) (apL 2 1 1 u L ys) v) 75 x1 x2 x3 x4 x5 = some (nI (L + 20), Rep (SH T D c3 c4 m) (apL 76 75 6 (wr (apL 2 1 1 u L ys) 75 0 0) L ys) v) := by
      simp only [f_X12_feed, gC_75, pI_75_0, gI_75_6, Option.bind_some, e6', c1, if_true, E12]
    have off : ∀ q j, q ≠ 2 → q ≠ 76 → ¬ (q = 1 ∧ j = 1) → ¬ (q = 75 ∧ j = 6) → ¬ (q = 75 ∧ j = 0) → apL 76 75 6 (wr (apL 2 1 1 u L ys) 75 0 0) L ys q j = u q j := by
      intro q j h1 h2 h3 h4 h5
      rw [apL_off _ _ _ _ _ h2 h4]
      unfold wr
      rw [if_neg h5, apL_off _ _ _ _ _ h1 h3]
    refine ⟨Rep (SH T D c3 c4 m) (apL 76 75 6 (wr (apL 2 1 1 u L ys) 75 0 0) L ys) v, by rw [E10, q_b2_some, E13, q_b2_some, if_pos rfl], T, D, c3, c4, m, _, v, rfl, rfl, ho, h3, h4, ?_, ?_, ?_⟩
    · unfold TR at *
      rw [off 75 1 (by decide) (by decide) (by decide) (by decide) (by decide), off 0 7 (by decide) (by decide) (by decide) (by decide) (by decide), off 75 2 (by decide) (by decide) (by decide) (by decide) (by decide), off 1 14 (by decide) (by decide) (by decide) (by decide) (by decide)]
      exact ht
    · refine ⟨?_, L + 20, c, ?_, ?_, ?_⟩
      · rw [off 1 13 (by decide) (by decide) (by decide) (by decide) (by decide), off 75 12 (by decide) (by decide) (by decide) (by decide) (by decide)]
        exact hf
      · rw [apL_off _ _ _ 1 1 (by decide) (by decide), wr_role (q := 1) (by decide), L5]
      · rw [apL_len (by decide) _ _ _ e6', hyl]
      · intro i hi
        rw [apL_off _ _ _ 2 i (by decide) (fun z => absurd z.1 (by decide)), wr_role (q := 2) (by decide), apL_at (by decide), apL_at (by decide), hyl]
        by_cases ci : L ≤ i ∧ i < L + 20
        · rw [if_pos ci, if_pos ci]
          refine ⟨rfl, ?_⟩
          rw [← hys]
          exact byt_get _
        · rw [if_neg ci, if_neg ci, wr_role (by decide), apL_off _ _ _ 76 i (by decide) (fun z => absurd z.1 (by decide))]
          exact hbt i (by omega)
    · skip
      have offq : ∀ q, q ≠ 2 → q ≠ 76 → q ≠ 1 → q ≠ 75 → apL 76 75 6 (wr (apL 2 1 1 u L ys) 75 0 0) L ys q = u q := fun q h1 h2 h3 h4 => funext fun j => off q j h1 h2 (fun z => h3 z.1) (fun z => h4 z.1) (fun z => h4 z.1)
      have hT : 3 ≤ T ∧ T ≤ 54 := by
        rcases ho with ⟨rfl, rfl⟩ | ⟨rfl, rfl⟩ <;> decide
      rcases h2 with ⟨hc, hN⟩ | ⟨k, N, hk, hc, hA, hW⟩
      · refine Or.inl ⟨hc, ?_⟩
        unfold IN at *
        rw [offq (T + 20) (by omega) (by omega) (by omega) (by omega), offq 29 (by decide) (by decide) (by decide) (by decide), offq 30 (by decide) (by decide) (by decide) (by decide)]
        exact hN
      · refine Or.inr ⟨k, N, hk, hc, ?_, ?_⟩
        · exact IA_agree (fun i hi => offq _ (by omega) (by omega) (by omega) (by omega)) (fun i => offq _ (by omega) (by omega) (by omega) (by omega)) (offq _ (by decide) (by decide) (by decide) (by decide)) (offq _ (by decide) (by decide) (by decide) (by decide)) (offq _ (by decide) (by decide) (by decide) (by decide)) (offq _ (by decide) (by decide) (by decide) (by decide)) (offq _ (by decide) (by decide) (by decide) (by decide)) (offq _ (by decide) (by decide) (by decide) (by decide)) (offq _ (by decide) (by decide) (by decide) (by decide)) (off _ _ (by decide) (by decide) (by decide) (by decide) (by decide)) (off _ _ (by decide) (by decide) (by decide) (by decide) (by decide)) hA
        · exact IW_agree (fun i => offq _ (by omega) (by omega) (by omega) (by omega)) (offq _ (by decide) (by decide) (by decide) (by decide)) (offq _ (by decide) (by decide) (by decide) (by decide)) (offq _ (by decide) (by decide) (by decide) (by decide)) (offq _ (by decide) (by decide) (by decide) (by decide)) hW
  · have c1 : ¬ nI L + 20 ≤ 1000 := by
      rw [show (20 : Int32) = nI 20 from rfl, nI_add]
      exact nI_ge (b := L + 20) (a := 1000) (by omega) (by omega)
    have e6' : wr u 75 0 0 75 6 = nI L := by rw [wr_ix (by decide), e6]
    refine ⟨Rep (SH T D c3 c4 m) (wr u 75 0 0) v, ?_, Inv_mk ho h3 h4 ⟨hB', h2⟩ (keep_wr keep_refl rfl) (TR_thr ht)⟩
    have E10 : f_X10_feed (Rep (SH T D c3 c4 m) u v) 0 x1 x2 x3 x4 x5 = some (-1, Rep (SH T D c3 c4 m) u v) := by
      unfold f_X10_feed f_X6_tapeLength
      rw [gC_0, Option.bind_some, gR_0_0, Option.bind_some, gC_1, Option.bind_some, gI_1_1, Option.bind_some, Option.bind_some, e1, if_neg c1]
    have E12 : f_X12_feed (Rep (SH T D c3 c4 m) u v) 75 x1 x2 x3 x4 x5 = some (-1, Rep (SH T D c3 c4 m) (wr u 75 0 0) v) := by
      unfold f_X12_feed
      rw [gC_75, Option.bind_some, pI_75_0, Option.bind_some, gI_75_6, Option.bind_some, e6', if_neg c1]
    rw [E10, q_b2_some, E12, q_b2_some, if_pos rfl]
end FEO
