/-- n places of a from x on, copied from b, y on -/
def cpA (u : mU) (a x b y n : Nat) : mU := fun q j => if q = a ∧ x ≤ j ∧ j < x + n then u b (y + (j - x)) else u q j
theorem cpA_ne {u : mU} {a x b y n q : Nat} (h : q ≠ a) : cpA u a x b y n q = u q := funext fun _ => if_neg fun z => h z.1
theorem cpA_at (u : mU) (a x b y n j : Nat) : cpA u a x b y n a j = if x ≤ j ∧ j < x + n then u b (y + (j - x)) else u a j := by
  unfold cpA
  by_cases h : x ≤ j ∧ j < x + n
  · rw [if_pos ⟨rfl, h⟩, if_pos h]
  · rw [if_neg (fun z => h z.2), if_neg h]
theorem cpA_zero (u : mU) (a x b y : Nat) : cpA u a x b y 0 = u := by
  funext q j
  exact if_neg (by omega)
theorem cpA_step {u : mU} {a x b y d : Nat} (h : b ≠ a ∨ x < y) : cpA (wr u a x (u b y)) a (x + 1) b (y + 1) d = cpA u a x b y (d + 1) := by
  funext q j
  unfold cpA
  by_cases hq : q = a
  · subst hq
    by_cases hj : j = x
    · subst hj
      rw [if_neg (by omega), wr_same, if_pos (by omega), Nat.sub_self, Nat.add_zero]
    · by_cases hj2 : x + 1 ≤ j ∧ j < x + 1 + d
      · rw [if_pos ⟨rfl, hj2⟩, if_pos ⟨rfl, by omega, by omega⟩, show y + 1 + (j - (x + 1)) = y + (j - x) by omega]
        rcases h with h | h
        · rw [wr_role h]
        · rw [wr_ix (by omega)]
      · rw [if_neg (fun z => hj2 z.2), wr_ix hj, if_neg (fun z => hj2 ⟨by omega, by omega⟩)]
  · rw [if_neg (fun z => hq z.1), if_neg (fun z => hq z.1), wr_role hq]
theorem cpR_A (u : mU) (a i b k C : Nat) : cpR u a i b k C = cpA u a (i * C) b (k * C) C := rfl
theorem n16 (a b : Nat) : (16 * nI a) + nI b = nI (16 * a + b) := by
  rw [show (16 : Int32) = nI 16 from rfl, nI_mul, nI_add]
theorem n_16 (a : Nat) : nI a + 16 = nI (a + 16) := by
  rw [show (16 : Int32) = nI 16 from rfl, nI_add]
theorem ring_up : ∀ a, a < 16 → (nI a + 1) - (nI a + 1) / 16 * 16 = nI ((a + 1) % 16) := by decide +kernel
theorem ring_dn : ∀ a, a < 16 → ((nI a + 16) - 1) - ((nI a + 16) - 1) / 16 * 16 = nI ((a + 15) % 16) := by decide +kernel
theorem min_up : ∀ k, k < 17 → q_mn 16 (nI k + 1) = nI (min 16 (k + 1)) := by decide +kernel
section HIS
variable {T D m : Nat} {c3 c4 : sF} {v : mV}
theorem SH_acts : tSh (SH T D c3 c4 m) 31 32 16 16 := ⟨rfl, rfl, by decide, by decide⟩
theorem SH_mrks : tSh (SH T D c3 c4 m) 33 34 3 16 := ⟨rfl, rfl, by decide, by decide⟩
theorem SH_rown : tSh (SH T D c3 c4 m) 28 29 1 16 := ⟨rfl, rfl, by decide, by decide⟩
theorem ref_rem51 {k : Nat} (hk : k < 16) : ∀ (d i f : Nat) (u : mU), i + d = 16 → d < f → u 75 19 = nI k → L_X12_remembers_51 f 75 (nI i) (Rep (SH T D c3 c4 m) u v) = some (Rep (SH T D c3 c4 m) (wr (cpA u 79 (16 * k + i) 77 i d) 75 19 (nI (k + 1))) v) := by
  intro d
  induction d with
  | zero =>
    intro i f u hi hf hu
    obtain ⟨f, rfl⟩ : ∃ f', f = f' + 1 := ⟨f - 1, by omega⟩
    have c : (16 : Int32) ≤ nI i := nI_le (a := 16) (by omega) (by omega)
    simp only [L_X12_remembers_51, c, if_true, gC_0, gR_0_0, gR_0_1, gR_0_2, gR_0_3, gR_0_4, gR_0_5, gR_0_6, gI_0_7, gR_0_8, gC_1, gR_1_0, gI_1_1, gR_1_2, gR_1_3, gR_1_4, gI_1_5, gI_1_6, gI_1_7, gI_1_8, gI_1_9, gL_1_10, gI_1_11, gI_1_12, gI_1_13, gI_1_14, gC_27, gR_27_0, gC_30, gR_30_0, gR_30_1, gI_30_2, gI_30_3, gI_30_4, gC_35, gR_35_0, gR_35_1, gI_35_2, gC_36, gR_36_0, gC_41, gR_41_0, gI_41_1, gI_41_2, gC_44, gR_44_0, gR_44_1, gI_44_2, gI_44_3, gC_49, gR_49_0, gR_49_1, gI_49_2, gI_49_3, gC_75, gI_75_0, gI_75_1, gI_75_2, gR_75_5, gI_75_6, gI_75_7, gI_75_8, gI_75_9, gI_75_10, gI_75_11, gI_75_12, gI_75_13, gL_75_14, gR_75_15, gR_75_16, gR_75_17, gR_75_18, gI_75_19, gI_75_20, gR_75_21, gR_75_22, gR_75_23, gI_75_24, gR_75_25, gI_75_26, gL_75_27, gL_75_28, gR_75_29, gR_75_30, gI_75_31, gR_75_3, gQ_75_3, gN_75_3, gR_75_4, gQ_75_4, gN_75_4, pI_0_7, pI_1_1, pI_1_5, pI_1_6, pI_1_7, pI_1_8, pI_1_9, pL_1_10, pI_1_11, pI_1_12, pI_1_13, pI_1_14, pI_30_2, pI_30_3, pI_30_4, pI_35_2, pI_41_1, pZ0_41_1, pZ1_41_1, pI_41_2, pI_44_2, pZ0_44_2, pZ1_44_2, pI_44_3, pI_49_2, pI_49_3, pI_75_0, pI_75_1, pI_75_2, pI_75_6, pI_75_7, pI_75_8, pI_75_9, pI_75_10, pI_75_11, pI_75_12, pI_75_13, pL_75_14, pI_75_19, pI_75_20, pI_75_24, pI_75_26, pL_75_27, pL_75_28, pI_75_31, Option.bind_some, q_b2_some, q_zr_0, q_zr_1, x10_fine, x10_refused, x12_good, x12_refused, hu, nI_1, cpA_zero]
  | succ d ih =>
    intro i f u hi hf hu
    obtain ⟨f, rfl⟩ : ∃ f', f = f' + 1 := ⟨f - 1, by omega⟩
    have c : ¬ (16 : Int32) ≤ nI i := nI_ge (b := 16) (by omega) (by omega)
    have j1 : i < 16 := by omega
    have j2 : 16 * k + i < 256 := by omega
    have hu' : wr u 79 (16 * k + i) (u 77 i) 75 19 = nI k := by rw [wr_role (by decide), hu]
    simp only [L_X12_remembers_51, c, if_false, gC_0, gR_0_0, gR_0_1, gR_0_2, gR_0_3, gR_0_4, gR_0_5, gR_0_6, gI_0_7, gR_0_8, gC_1, gR_1_0, gI_1_1, gR_1_2, gR_1_3, gR_1_4, gI_1_5, gI_1_6, gI_1_7, gI_1_8, gI_1_9, gL_1_10, gI_1_11, gI_1_12, gI_1_13, gI_1_14, gC_27, gR_27_0, gC_30, gR_30_0, gR_30_1, gI_30_2, gI_30_3, gI_30_4, gC_35, gR_35_0, gR_35_1, gI_35_2, gC_36, gR_36_0, gC_41, gR_41_0, gI_41_1, gI_41_2, gC_44, gR_44_0, gR_44_1, gI_44_2, gI_44_3, gC_49, gR_49_0, gR_49_1, gI_49_2, gI_49_3, gC_75, gI_75_0, gI_75_1, gI_75_2, gR_75_5, gI_75_6, gI_75_7, gI_75_8, gI_75_9, gI_75_10, gI_75_11, gI_75_12, gI_75_13, gL_75_14, gR_75_15, gR_75_16, gR_75_17, gR_75_18, gI_75_19, gI_75_20, gR_75_21, gR_75_22, gR_75_23, gI_75_24, gR_75_25, gI_75_26, gL_75_27, gL_75_28, gR_75_29, gR_75_30, gI_75_31, gR_75_3, gQ_75_3, gN_75_3, gR_75_4, gQ_75_4, gN_75_4, pI_0_7, pI_1_1, pI_1_5, pI_1_6, pI_1_7, pI_1_8, pI_1_9, pL_1_10, pI_1_11, pI_1_12, pI_1_13, pI_1_14, pI_30_2, pI_30_3, pI_30_4, pI_35_2, pI_41_1, pZ0_41_1, pZ1_41_1, pI_41_2, pI_44_2, pZ0_44_2, pZ1_44_2, pI_44_3, pI_49_2, pI_49_3, pI_75_0, pI_75_1, pI_75_2, pI_75_6, pI_75_7, pI_75_8, pI_75_9, pI_75_10, pI_75_11, pI_75_12, pI_75_13, pL_75_14, pI_75_19, pI_75_20, pI_75_24, pI_75_26, pL_75_27, pL_75_28, pI_75_31, Option.bind_some, q_b2_some, q_zr_0, q_zr_1, x10_fine, x10_refused, x12_good, x12_refused, aB_2, an_2, aB_76, an_76, aI_77, aI_78, aI_79, aI_80, aI_81, aI_82, aI_83, aI_84, aI_85, aI_86, sB_2, sB_76, sI_77, sI_78, sI_79, sI_80, sI_81, sI_82, sI_83, sI_84, sI_85, sI_86, hu, n16, j1, j2, nI_1, ih (i + 1) f _ (by omega) (by omega) hu']
    rw [show 16 * k + (i + 1) = 16 * k + i + 1 by omega, cpA_step (Or.inl (by decide))]
theorem ref_rem11 {kk : Nat → qS → Option qS} : ∀ (d i f : Nat) (u : mU), i + d = 240 → d < f → L_X12_remembers_11 kk f 75 (nI i) (Rep (SH T D c3 c4 m) u v) = kk 75 (Rep (SH T D c3 c4 m) (cpA u 79 i 79 (i + 16) d) v) := by
  intro d
  induction d with
  | zero =>
    intro i f u hi hf
    obtain ⟨f, rfl⟩ : ∃ f', f = f' + 1 := ⟨f - 1, by omega⟩
    have c : (240 : Int32) ≤ nI i := nI_le (a := 240) (by omega) (by omega)
    simp only [L_X12_remembers_11, c, if_true, cpA_zero]
  | succ d ih =>
    intro i f u hi hf
    obtain ⟨f, rfl⟩ : ∃ f', f = f' + 1 := ⟨f - 1, by omega⟩
    have c : ¬ (240 : Int32) ≤ nI i := nI_ge (b := 240) (by omega) (by omega)
    have j1 : i < 256 := by omega
    have j2 : i + 16 < 256 := by omega
    simp only [L_X12_remembers_11, c, if_false, gC_0, gR_0_0, gR_0_1, gR_0_2, gR_0_3, gR_0_4, gR_0_5, gR_0_6, gI_0_7, gR_0_8, gC_1, gR_1_0, gI_1_1, gR_1_2, gR_1_3, gR_1_4, gI_1_5, gI_1_6, gI_1_7, gI_1_8, gI_1_9, gL_1_10, gI_1_11, gI_1_12, gI_1_13, gI_1_14, gC_27, gR_27_0, gC_30, gR_30_0, gR_30_1, gI_30_2, gI_30_3, gI_30_4, gC_35, gR_35_0, gR_35_1, gI_35_2, gC_36, gR_36_0, gC_41, gR_41_0, gI_41_1, gI_41_2, gC_44, gR_44_0, gR_44_1, gI_44_2, gI_44_3, gC_49, gR_49_0, gR_49_1, gI_49_2, gI_49_3, gC_75, gI_75_0, gI_75_1, gI_75_2, gR_75_5, gI_75_6, gI_75_7, gI_75_8, gI_75_9, gI_75_10, gI_75_11, gI_75_12, gI_75_13, gL_75_14, gR_75_15, gR_75_16, gR_75_17, gR_75_18, gI_75_19, gI_75_20, gR_75_21, gR_75_22, gR_75_23, gI_75_24, gR_75_25, gI_75_26, gL_75_27, gL_75_28, gR_75_29, gR_75_30, gI_75_31, gR_75_3, gQ_75_3, gN_75_3, gR_75_4, gQ_75_4, gN_75_4, pI_0_7, pI_1_1, pI_1_5, pI_1_6, pI_1_7, pI_1_8, pI_1_9, pL_1_10, pI_1_11, pI_1_12, pI_1_13, pI_1_14, pI_30_2, pI_30_3, pI_30_4, pI_35_2, pI_41_1, pZ0_41_1, pZ1_41_1, pI_41_2, pI_44_2, pZ0_44_2, pZ1_44_2, pI_44_3, pI_49_2, pI_49_3, pI_75_0, pI_75_1, pI_75_2, pI_75_6, pI_75_7, pI_75_8, pI_75_9, pI_75_10, pI_75_11, pI_75_12, pI_75_13, pL_75_14, pI_75_19, pI_75_20, pI_75_24, pI_75_26, pL_75_27, pL_75_28, pI_75_31, Option.bind_some, q_b2_some, q_zr_0, q_zr_1, x10_fine, x10_refused, x12_good, x12_refused, aB_2, an_2, aB_76, an_76, aI_77, aI_78, aI_79, aI_80, aI_81, aI_82, aI_83, aI_84, aI_85, aI_86, sB_2, sB_76, sI_77, sI_78, sI_79, sI_80, sI_81, sI_82, sI_83, sI_84, sI_85, sI_86, n_16, j1, j2, nI_1, ih (i + 1) f _ (by omega) (by omega)]
    rw [show i + 1 + 16 = i + 16 + 1 by omega, cpA_step (Or.inr (by omega))]
/-- the model's past, one more act kept -/
def pushM (u : mU) (k : Nat) : mU := if k < 16 then wr (cpA u 79 (16 * k) 77 0 16) 75 19 (nI (k + 1)) else wr (cpA (wr (cpA u 79 0 79 16 240) 75 19 (nI 15)) 79 240 77 0 16) 75 19 (nI 16)
theorem ref_push {k : Nat} {u : mU} (hk : k ≤ 16) (hu : u 75 19 = nI k) : f_X12_remembers (Rep (SH T D c3 c4 m) u v) 75 = some (Rep (SH T D c3 c4 m) (pushM u k) v) := by
  unfold pushM
  by_cases c : k < 16
  · rw [if_pos c]
    have h1 := ref_rem51 (T := T) (D := D) (c3 := c3) (c4 := c4) (m := m) (v := v) c 16 0 1000000000 u (by omega) (by omega) hu
    rw [nI_0, Nat.add_zero] at h1
    have c2 : ¬ nI k = 16 := fun z => by
      have := (nI_eq (a := k) (b := 16) (by omega) (by omega)).mp z
      omega
    simp only [f_X12_remembers, gC_0, gR_0_0, gR_0_1, gR_0_2, gR_0_3, gR_0_4, gR_0_5, gR_0_6, gI_0_7, gR_0_8, gC_1, gR_1_0, gI_1_1, gR_1_2, gR_1_3, gR_1_4, gI_1_5, gI_1_6, gI_1_7, gI_1_8, gI_1_9, gL_1_10, gI_1_11, gI_1_12, gI_1_13, gI_1_14, gC_27, gR_27_0, gC_30, gR_30_0, gR_30_1, gI_30_2, gI_30_3, gI_30_4, gC_35, gR_35_0, gR_35_1, gI_35_2, gC_36, gR_36_0, gC_41, gR_41_0, gI_41_1, gI_41_2, gC_44, gR_44_0, gR_44_1, gI_44_2, gI_44_3, gC_49, gR_49_0, gR_49_1, gI_49_2, gI_49_3, gC_75, gI_75_0, gI_75_1, gI_75_2, gR_75_5, gI_75_6, gI_75_7, gI_75_8, gI_75_9, gI_75_10, gI_75_11, gI_75_12, gI_75_13, gL_75_14, gR_75_15, gR_75_16, gR_75_17, gR_75_18, gI_75_19, gI_75_20, gR_75_21, gR_75_22, gR_75_23, gI_75_24, gR_75_25, gI_75_26, gL_75_27, gL_75_28, gR_75_29, gR_75_30, gI_75_31, gR_75_3, gQ_75_3, gN_75_3, gR_75_4, gQ_75_4, gN_75_4, pI_0_7, pI_1_1, pI_1_5, pI_1_6, pI_1_7, pI_1_8, pI_1_9, pL_1_10, pI_1_11, pI_1_12, pI_1_13, pI_1_14, pI_30_2, pI_30_3, pI_30_4, pI_35_2, pI_41_1, pZ0_41_1, pZ1_41_1, pI_41_2, pI_44_2, pZ0_44_2, pZ1_44_2, pI_44_3, pI_49_2, pI_49_3, pI_75_0, pI_75_1, pI_75_2, pI_75_6, pI_75_7, pI_75_8, pI_75_9, pI_75_10, pI_75_11, pI_75_12, pI_75_13, pL_75_14, pI_75_19, pI_75_20, pI_75_24, pI_75_26, pL_75_27, pL_75_28, pI_75_31, Option.bind_some, q_b2_some, q_zr_0, q_zr_1, x10_fine, x10_refused, x12_good, x12_refused, hu, c2, if_false, h1]
  · rw [if_neg c]
    have hk16 : k = 16 := by omega
    subst hk16
    have h2 := fun kk => ref_rem11 (T := T) (D := D) (c3 := c3) (c4 := c4) (m := m) (v := v) (kk := kk) 240 0 1000000000 u (by omega) (by omega)
    rw [nI_0] at h2
    have e0 : cpA u 79 0 79 16 240 75 19 = nI 16 := by rw [cpA_ne (by decide), hu]
    have h1 := ref_rem51 (T := T) (D := D) (c3 := c3) (c4 := c4) (m := m) (v := v) (k := 15) (by decide) 16 0 1000000000 (wr (cpA u 79 0 79 16 240) 75 19 (nI 15)) (by omega) (by omega) (wr_same _ _ _ _)
    rw [nI_0] at h1
    simp only [f_X12_remembers, gC_0, gR_0_0, gR_0_1, gR_0_2, gR_0_3, gR_0_4, gR_0_5, gR_0_6, gI_0_7, gR_0_8, gC_1, gR_1_0, gI_1_1, gR_1_2, gR_1_3, gR_1_4, gI_1_5, gI_1_6, gI_1_7, gI_1_8, gI_1_9, gL_1_10, gI_1_11, gI_1_12, gI_1_13, gI_1_14, gC_27, gR_27_0, gC_30, gR_30_0, gR_30_1, gI_30_2, gI_30_3, gI_30_4, gC_35, gR_35_0, gR_35_1, gI_35_2, gC_36, gR_36_0, gC_41, gR_41_0, gI_41_1, gI_41_2, gC_44, gR_44_0, gR_44_1, gI_44_2, gI_44_3, gC_49, gR_49_0, gR_49_1, gI_49_2, gI_49_3, gC_75, gI_75_0, gI_75_1, gI_75_2, gR_75_5, gI_75_6, gI_75_7, gI_75_8, gI_75_9, gI_75_10, gI_75_11, gI_75_12, gI_75_13, gL_75_14, gR_75_15, gR_75_16, gR_75_17, gR_75_18, gI_75_19, gI_75_20, gR_75_21, gR_75_22, gR_75_23, gI_75_24, gR_75_25, gI_75_26, gL_75_27, gL_75_28, gR_75_29, gR_75_30, gI_75_31, gR_75_3, gQ_75_3, gN_75_3, gR_75_4, gQ_75_4, gN_75_4, pI_0_7, pI_1_1, pI_1_5, pI_1_6, pI_1_7, pI_1_8, pI_1_9, pL_1_10, pI_1_11, pI_1_12, pI_1_13, pI_1_14, pI_30_2, pI_30_3, pI_30_4, pI_35_2, pI_41_1, pZ0_41_1, pZ1_41_1, pI_41_2, pI_44_2, pZ0_44_2, pZ1_44_2, pI_44_3, pI_49_2, pI_49_3, pI_75_0, pI_75_1, pI_75_2, pI_75_6, pI_75_7, pI_75_8, pI_75_9, pI_75_10, pI_75_11, pI_75_12, pI_75_13, pL_75_14, pI_75_19, pI_75_20, pI_75_24, pI_75_26, pL_75_27, pL_75_28, pI_75_31, Option.bind_some, q_b2_some, q_zr_0, q_zr_1, x10_fine, x10_refused, x12_good, x12_refused, hu, show (nI 16 = 16) = True from eq_true rfl, if_true, h2, e0, show nI 16 - 1 = nI 15 from rfl, h1]
/-- the class's ring, one more act kept -/
def pushC (u : mU) (a k : Nat) : mU := wr (wr (cpA u 32 (a * 16) 29 0 16) 30 2 (nI ((a + 1) % 16))) 30 3 (nI (min 16 (k + 1)))
theorem cls_push {a k : Nat} {u : mU} (ha : a < 16) (hk : k ≤ 16) (h2 : u 30 2 = nI a) (h3 : u 30 3 = nI k) : f_X4_keep (Rep (SH T D c3 c4 m) u v) 30 27 = some (Rep (SH T D c3 c4 m) (pushC u a k) v) := by
  have t1 := tab_copy (u := u) (v := v) (SH_acts (T := T) (D := D) (c3 := c3) (c4 := c4) (m := m)) SH_rown (by decide) ha (show 0 < 1 by decide)
  rw [nI_0, cpR_A] at t1
  have e2 : cpA u 32 (a * 16) 29 (0 * 16) 16 30 2 = nI a := by rw [cpA_ne (by decide), h2]
  have e3 : wr (cpA u 32 (a * 16) 29 (0 * 16) 16) 30 2 (nI ((a + 1) % 16)) 30 3 = nI k := by rw [wr_ix (by decide), cpA_ne (by decide), h3]
  simp only [f_X4_keep, f_X7_saveTo, gC_0, gR_0_0, gR_0_1, gR_0_2, gR_0_3, gR_0_4, gR_0_5, gR_0_6, gI_0_7, gR_0_8, gC_1, gR_1_0, gI_1_1, gR_1_2, gR_1_3, gR_1_4, gI_1_5, gI_1_6, gI_1_7, gI_1_8, gI_1_9, gL_1_10, gI_1_11, gI_1_12, gI_1_13, gI_1_14, gC_27, gR_27_0, gC_30, gR_30_0, gR_30_1, gI_30_2, gI_30_3, gI_30_4, gC_35, gR_35_0, gR_35_1, gI_35_2, gC_36, gR_36_0, gC_41, gR_41_0, gI_41_1, gI_41_2, gC_44, gR_44_0, gR_44_1, gI_44_2, gI_44_3, gC_49, gR_49_0, gR_49_1, gI_49_2, gI_49_3, gC_75, gI_75_0, gI_75_1, gI_75_2, gR_75_5, gI_75_6, gI_75_7, gI_75_8, gI_75_9, gI_75_10, gI_75_11, gI_75_12, gI_75_13, gL_75_14, gR_75_15, gR_75_16, gR_75_17, gR_75_18, gI_75_19, gI_75_20, gR_75_21, gR_75_22, gR_75_23, gI_75_24, gR_75_25, gI_75_26, gL_75_27, gL_75_28, gR_75_29, gR_75_30, gI_75_31, gR_75_3, gQ_75_3, gN_75_3, gR_75_4, gQ_75_4, gN_75_4, pI_0_7, pI_1_1, pI_1_5, pI_1_6, pI_1_7, pI_1_8, pI_1_9, pL_1_10, pI_1_11, pI_1_12, pI_1_13, pI_1_14, pI_30_2, pI_30_3, pI_30_4, pI_35_2, pI_41_1, pZ0_41_1, pZ1_41_1, pI_41_2, pI_44_2, pZ0_44_2, pZ1_44_2, pI_44_3, pI_49_2, pI_49_3, pI_75_0, pI_75_1, pI_75_2, pI_75_6, pI_75_7, pI_75_8, pI_75_9, pI_75_10, pI_75_11, pI_75_12, pI_75_13, pL_75_14, pI_75_19, pI_75_20, pI_75_24, pI_75_26, pL_75_27, pL_75_28, pI_75_31, Option.bind_some, q_b2_some, q_zr_0, q_zr_1, x10_fine, x10_refused, x12_good, x12_refused, h2, t1, e2, show ((16 : Int32) = 0) = False from by decide, if_false, ring_up a ha, e3, min_up k (by omega)]
  rfl
theorem cls_pop {a k : Nat} {u : mU} (ha : a < 16) (hk : k < 16) (h2 : u 30 2 = nI a) (h3 : u 30 3 = nI (k + 1)) : f_X4_takeBack (Rep (SH T D c3 c4 m) u v) 30 27 = some (1, Rep (SH T D c3 c4 m) (cpA (wr (wr u 30 2 (nI ((a + 15) % 16))) 30 3 (nI k)) 29 0 32 ((a + 15) % 16 * 16) 16) v) := by
  have t1 := fun u => tab_copy (u := u) (v := v) (SH_rown (T := T) (D := D) (c3 := c3) (c4 := c4) (m := m)) SH_acts (by decide) (show 0 < 1 by decide) (show (a + 15) % 16 < 16 by omega)
  simp only [nI_0, cpR_A] at t1
  have e2 : wr (wr u 30 2 (nI ((a + 15) % 16))) 30 3 (nI k) 30 2 = nI ((a + 15) % 16) := by rw [wr_ix (by decide), wr_same]
  have e3 : wr u 30 2 (nI ((a + 15) % 16)) 30 3 = nI (k + 1) := by rw [wr_ix (by decide), h3]
  have c : ¬ nI (k + 1) = 0 := nI_ne0 (by omega) (by omega)
  simp only [f_X4_takeBack, f_X7_loadFrom, gC_0, gR_0_0, gR_0_1, gR_0_2, gR_0_3, gR_0_4, gR_0_5, gR_0_6, gI_0_7, gR_0_8, gC_1, gR_1_0, gI_1_1, gR_1_2, gR_1_3, gR_1_4, gI_1_5, gI_1_6, gI_1_7, gI_1_8, gI_1_9, gL_1_10, gI_1_11, gI_1_12, gI_1_13, gI_1_14, gC_27, gR_27_0, gC_30, gR_30_0, gR_30_1, gI_30_2, gI_30_3, gI_30_4, gC_35, gR_35_0, gR_35_1, gI_35_2, gC_36, gR_36_0, gC_41, gR_41_0, gI_41_1, gI_41_2, gC_44, gR_44_0, gR_44_1, gI_44_2, gI_44_3, gC_49, gR_49_0, gR_49_1, gI_49_2, gI_49_3, gC_75, gI_75_0, gI_75_1, gI_75_2, gR_75_5, gI_75_6, gI_75_7, gI_75_8, gI_75_9, gI_75_10, gI_75_11, gI_75_12, gI_75_13, gL_75_14, gR_75_15, gR_75_16, gR_75_17, gR_75_18, gI_75_19, gI_75_20, gR_75_21, gR_75_22, gR_75_23, gI_75_24, gR_75_25, gI_75_26, gL_75_27, gL_75_28, gR_75_29, gR_75_30, gI_75_31, gR_75_3, gQ_75_3, gN_75_3, gR_75_4, gQ_75_4, gN_75_4, pI_0_7, pI_1_1, pI_1_5, pI_1_6, pI_1_7, pI_1_8, pI_1_9, pL_1_10, pI_1_11, pI_1_12, pI_1_13, pI_1_14, pI_30_2, pI_30_3, pI_30_4, pI_35_2, pI_41_1, pZ0_41_1, pZ1_41_1, pI_41_2, pI_44_2, pZ0_44_2, pZ1_44_2, pI_44_3, pI_49_2, pI_49_3, pI_75_0, pI_75_1, pI_75_2, pI_75_6, pI_75_7, pI_75_8, pI_75_9, pI_75_10, pI_75_11, pI_75_12, pI_75_13, pL_75_14, pI_75_19, pI_75_20, pI_75_24, pI_75_26, pL_75_27, pL_75_28, pI_75_31, Option.bind_some, q_b2_some, q_zr_0, q_zr_1, x10_fine, x10_refused, x12_good, x12_refused, h2, h3, c, if_false, show ((16 : Int32) = 0) = False from by decide, ring_dn a ha, e3, nI_pred, e2, t1]
theorem cls_mark {q : Nat} {u : mU} (hq : q < 3) (h4 : u 30 4 = nI q) : f_X4_setMark (Rep (SH T D c3 c4 m) u v) 30 27 = some (nI q, Rep (SH T D c3 c4 m) (wr (cpA u 34 (q * 16) 29 0 16) 30 4 (nI (q + 1))) v) := by
  have t1 := tab_copy (u := u) (v := v) (SH_mrks (T := T) (D := D) (c3 := c3) (c4 := c4) (m := m)) SH_rown (by decide) hq (show 0 < 1 by decide)
  rw [nI_0, cpR_A] at t1
  have e2 : cpA u 34 (q * 16) 29 (0 * 16) 16 30 4 = nI q := by rw [cpA_ne (by decide), h4]
  have c : nI q < 3 := nI_lt (b := 3) hq (by decide)
  simp only [f_X4_setMark, f_X7_saveTo, gC_0, gR_0_0, gR_0_1, gR_0_2, gR_0_3, gR_0_4, gR_0_5, gR_0_6, gI_0_7, gR_0_8, gC_1, gR_1_0, gI_1_1, gR_1_2, gR_1_3, gR_1_4, gI_1_5, gI_1_6, gI_1_7, gI_1_8, gI_1_9, gL_1_10, gI_1_11, gI_1_12, gI_1_13, gI_1_14, gC_27, gR_27_0, gC_30, gR_30_0, gR_30_1, gI_30_2, gI_30_3, gI_30_4, gC_35, gR_35_0, gR_35_1, gI_35_2, gC_36, gR_36_0, gC_41, gR_41_0, gI_41_1, gI_41_2, gC_44, gR_44_0, gR_44_1, gI_44_2, gI_44_3, gC_49, gR_49_0, gR_49_1, gI_49_2, gI_49_3, gC_75, gI_75_0, gI_75_1, gI_75_2, gR_75_5, gI_75_6, gI_75_7, gI_75_8, gI_75_9, gI_75_10, gI_75_11, gI_75_12, gI_75_13, gL_75_14, gR_75_15, gR_75_16, gR_75_17, gR_75_18, gI_75_19, gI_75_20, gR_75_21, gR_75_22, gR_75_23, gI_75_24, gR_75_25, gI_75_26, gL_75_27, gL_75_28, gR_75_29, gR_75_30, gI_75_31, gR_75_3, gQ_75_3, gN_75_3, gR_75_4, gQ_75_4, gN_75_4, pI_0_7, pI_1_1, pI_1_5, pI_1_6, pI_1_7, pI_1_8, pI_1_9, pL_1_10, pI_1_11, pI_1_12, pI_1_13, pI_1_14, pI_30_2, pI_30_3, pI_30_4, pI_35_2, pI_41_1, pZ0_41_1, pZ1_41_1, pI_41_2, pI_44_2, pZ0_44_2, pZ1_44_2, pI_44_3, pI_49_2, pI_49_3, pI_75_0, pI_75_1, pI_75_2, pI_75_6, pI_75_7, pI_75_8, pI_75_9, pI_75_10, pI_75_11, pI_75_12, pI_75_13, pL_75_14, pI_75_19, pI_75_20, pI_75_24, pI_75_26, pL_75_27, pL_75_28, pI_75_31, Option.bind_some, q_b2_some, q_zr_0, q_zr_1, x10_fine, x10_refused, x12_good, x12_refused, h4, c, if_true, t1, e2, nI_1, wr_same, nI_pred]
theorem cls_back {q : Nat} {x : Nat} {u : mU} (hq : q ≤ 3) (hx : x < q) (h4 : u 30 4 = nI q) : f_X4_goBack (Rep (SH T D c3 c4 m) u v) 30 (nI x) 27 = some (1, Rep (SH T D c3 c4 m) (wr (cpA u 29 0 34 (x * 16) 16) 30 3 0) v) := by
  have t1 := tab_copy (u := u) (v := v) (SH_rown (T := T) (D := D) (c3 := c3) (c4 := c4) (m := m)) SH_mrks (by decide) (show 0 < 1 by decide) (show x < 3 by omega)
  rw [nI_0, cpR_A] at t1
  have c1 : ¬ nI x < 0 := nI_pos (by omega)
  have c2 : nI x < nI q := nI_lt hx (by omega)
  simp only [f_X4_goBack, f_X7_loadFrom, gC_0, gR_0_0, gR_0_1, gR_0_2, gR_0_3, gR_0_4, gR_0_5, gR_0_6, gI_0_7, gR_0_8, gC_1, gR_1_0, gI_1_1, gR_1_2, gR_1_3, gR_1_4, gI_1_5, gI_1_6, gI_1_7, gI_1_8, gI_1_9, gL_1_10, gI_1_11, gI_1_12, gI_1_13, gI_1_14, gC_27, gR_27_0, gC_30, gR_30_0, gR_30_1, gI_30_2, gI_30_3, gI_30_4, gC_35, gR_35_0, gR_35_1, gI_35_2, gC_36, gR_36_0, gC_41, gR_41_0, gI_41_1, gI_41_2, gC_44, gR_44_0, gR_44_1, gI_44_2, gI_44_3, gC_49, gR_49_0, gR_49_1, gI_49_2, gI_49_3, gC_75, gI_75_0, gI_75_1, gI_75_2, gR_75_5, gI_75_6, gI_75_7, gI_75_8, gI_75_9, gI_75_10, gI_75_11, gI_75_12, gI_75_13, gL_75_14, gR_75_15, gR_75_16, gR_75_17, gR_75_18, gI_75_19, gI_75_20, gR_75_21, gR_75_22, gR_75_23, gI_75_24, gR_75_25, gI_75_26, gL_75_27, gL_75_28, gR_75_29, gR_75_30, gI_75_31, gR_75_3, gQ_75_3, gN_75_3, gR_75_4, gQ_75_4, gN_75_4, pI_0_7, pI_1_1, pI_1_5, pI_1_6, pI_1_7, pI_1_8, pI_1_9, pL_1_10, pI_1_11, pI_1_12, pI_1_13, pI_1_14, pI_30_2, pI_30_3, pI_30_4, pI_35_2, pI_41_1, pZ0_41_1, pZ1_41_1, pI_41_2, pI_44_2, pZ0_44_2, pZ1_44_2, pI_44_3, pI_49_2, pI_49_3, pI_75_0, pI_75_1, pI_75_2, pI_75_6, pI_75_7, pI_75_8, pI_75_9, pI_75_10, pI_75_11, pI_75_12, pI_75_13, pL_75_14, pI_75_19, pI_75_20, pI_75_24, pI_75_26, pL_75_27, pL_75_28, pI_75_31, Option.bind_some, q_b2_some, q_zr_0, q_zr_1, x10_fine, x10_refused, x12_good, x12_refused, h4, c1, if_false, c2, if_true, t1]
theorem ref_undo {k : Nat} (hk : k < 16) : ∀ (d i f : Nat) (u : mU), i + d = 16 → d < f → u 75 19 = nI k → L_X12_undo_38 f 75 (nI i) (Rep (SH T D c3 c4 m) u v) = some (1, Rep (SH T D c3 c4 m) (wr (wr (cpA u 77 i 79 (16 * k + i) d) 75 1 0) 75 2 (-1)) v) := by
  intro d
  induction d with
  | zero =>
    intro i f u hi hf hu
    obtain ⟨f, rfl⟩ : ∃ f', f = f' + 1 := ⟨f - 1, by omega⟩
    have c : (16 : Int32) ≤ nI i := nI_le (a := 16) (by omega) (by omega)
    simp only [L_X12_undo_38, f_X12_granted, c, if_true, gC_0, gR_0_0, gR_0_1, gR_0_2, gR_0_3, gR_0_4, gR_0_5, gR_0_6, gI_0_7, gR_0_8, gC_1, gR_1_0, gI_1_1, gR_1_2, gR_1_3, gR_1_4, gI_1_5, gI_1_6, gI_1_7, gI_1_8, gI_1_9, gL_1_10, gI_1_11, gI_1_12, gI_1_13, gI_1_14, gC_27, gR_27_0, gC_30, gR_30_0, gR_30_1, gI_30_2, gI_30_3, gI_30_4, gC_35, gR_35_0, gR_35_1, gI_35_2, gC_36, gR_36_0, gC_41, gR_41_0, gI_41_1, gI_41_2, gC_44, gR_44_0, gR_44_1, gI_44_2, gI_44_3, gC_49, gR_49_0, gR_49_1, gI_49_2, gI_49_3, gC_75, gI_75_0, gI_75_1, gI_75_2, gR_75_5, gI_75_6, gI_75_7, gI_75_8, gI_75_9, gI_75_10, gI_75_11, gI_75_12, gI_75_13, gL_75_14, gR_75_15, gR_75_16, gR_75_17, gR_75_18, gI_75_19, gI_75_20, gR_75_21, gR_75_22, gR_75_23, gI_75_24, gR_75_25, gI_75_26, gL_75_27, gL_75_28, gR_75_29, gR_75_30, gI_75_31, gR_75_3, gQ_75_3, gN_75_3, gR_75_4, gQ_75_4, gN_75_4, pI_0_7, pI_1_1, pI_1_5, pI_1_6, pI_1_7, pI_1_8, pI_1_9, pL_1_10, pI_1_11, pI_1_12, pI_1_13, pI_1_14, pI_30_2, pI_30_3, pI_30_4, pI_35_2, pI_41_1, pZ0_41_1, pZ1_41_1, pI_41_2, pI_44_2, pZ0_44_2, pZ1_44_2, pI_44_3, pI_49_2, pI_49_3, pI_75_0, pI_75_1, pI_75_2, pI_75_6, pI_75_7, pI_75_8, pI_75_9, pI_75_10, pI_75_11, pI_75_12, pI_75_13, pL_75_14, pI_75_19, pI_75_20, pI_75_24, pI_75_26, pL_75_27, pL_75_28, pI_75_31, Option.bind_some, q_b2_some, q_zr_0, q_zr_1, x10_fine, x10_refused, x12_good, x12_refused, cpA_zero]
  | succ d ih =>
    intro i f u hi hf hu
    obtain ⟨f, rfl⟩ : ∃ f', f = f' + 1 := ⟨f - 1, by omega⟩
    have c : ¬ (16 : Int32) ≤ nI i := nI_ge (b := 16) (by omega) (by omega)
    have j1 : i < 16 := by omega
    have j2 : 16 * k + i < 256 := by omega
    have hu' : wr u 77 i (u 79 (16 * k + i)) 75 19 = nI k := by rw [wr_role (by decide), hu]
    simp only [L_X12_undo_38, c, if_false, gC_0, gR_0_0, gR_0_1, gR_0_2, gR_0_3, gR_0_4, gR_0_5, gR_0_6, gI_0_7, gR_0_8, gC_1, gR_1_0, gI_1_1, gR_1_2, gR_1_3, gR_1_4, gI_1_5, gI_1_6, gI_1_7, gI_1_8, gI_1_9, gL_1_10, gI_1_11, gI_1_12, gI_1_13, gI_1_14, gC_27, gR_27_0, gC_30, gR_30_0, gR_30_1, gI_30_2, gI_30_3, gI_30_4, gC_35, gR_35_0, gR_35_1, gI_35_2, gC_36, gR_36_0, gC_41, gR_41_0, gI_41_1, gI_41_2, gC_44, gR_44_0, gR_44_1, gI_44_2, gI_44_3, gC_49, gR_49_0, gR_49_1, gI_49_2, gI_49_3, gC_75, gI_75_0, gI_75_1, gI_75_2, gR_75_5, gI_75_6, gI_75_7, gI_75_8, gI_75_9, gI_75_10, gI_75_11, gI_75_12, gI_75_13, gL_75_14, gR_75_15, gR_75_16, gR_75_17, gR_75_18, gI_75_19, gI_75_20, gR_75_21, gR_75_22, gR_75_23, gI_75_24, gR_75_25, gI_75_26, gL_75_27, gL_75_28, gR_75_29, gR_75_30, gI_75_31, gR_75_3, gQ_75_3, gN_75_3, gR_75_4, gQ_75_4, gN_75_4, pI_0_7, pI_1_1, pI_1_5, pI_1_6, pI_1_7, pI_1_8, pI_1_9, pL_1_10, pI_1_11, pI_1_12, pI_1_13, pI_1_14, pI_30_2, pI_30_3, pI_30_4, pI_35_2, pI_41_1, pZ0_41_1, pZ1_41_1, pI_41_2, pI_44_2, pZ0_44_2, pZ1_44_2, pI_44_3, pI_49_2, pI_49_3, pI_75_0, pI_75_1, pI_75_2, pI_75_6, pI_75_7, pI_75_8, pI_75_9, pI_75_10, pI_75_11, pI_75_12, pI_75_13, pL_75_14, pI_75_19, pI_75_20, pI_75_24, pI_75_26, pL_75_27, pL_75_28, pI_75_31, Option.bind_some, q_b2_some, q_zr_0, q_zr_1, x10_fine, x10_refused, x12_good, x12_refused, aB_2, an_2, aB_76, an_76, aI_77, aI_78, aI_79, aI_80, aI_81, aI_82, aI_83, aI_84, aI_85, aI_86, sB_2, sB_76, sI_77, sI_78, sI_79, sI_80, sI_81, sI_82, sI_83, sI_84, sI_85, sI_86, hu, n16, j1, j2, nI_1, ih (i + 1) f _ (by omega) (by omega) hu']
    rw [show 16 * k + (i + 1) = 16 * k + i + 1 by omega, cpA_step (Or.inl (by decide))]
theorem ref_back {x : Nat} (hx : x < 3) : ∀ (d i f : Nat) (u : mU), i + d = 16 → d < f → L_X12_back_32 f 75 (nI x) (nI i) (Rep (SH T D c3 c4 m) u v) = some (1, Rep (SH T D c3 c4 m) (wr (wr (wr (cpA u 77 i 80 (16 * x + i) d) 75 19 0) 75 1 0) 75 2 (-1)) v) := by
  intro d
  induction d with
  | zero =>
    intro i f u hi hf
    obtain ⟨f, rfl⟩ : ∃ f', f = f' + 1 := ⟨f - 1, by omega⟩
    have c : (16 : Int32) ≤ nI i := nI_le (a := 16) (by omega) (by omega)
    simp only [L_X12_back_32, f_X12_granted, c, if_true, gC_0, gR_0_0, gR_0_1, gR_0_2, gR_0_3, gR_0_4, gR_0_5, gR_0_6, gI_0_7, gR_0_8, gC_1, gR_1_0, gI_1_1, gR_1_2, gR_1_3, gR_1_4, gI_1_5, gI_1_6, gI_1_7, gI_1_8, gI_1_9, gL_1_10, gI_1_11, gI_1_12, gI_1_13, gI_1_14, gC_27, gR_27_0, gC_30, gR_30_0, gR_30_1, gI_30_2, gI_30_3, gI_30_4, gC_35, gR_35_0, gR_35_1, gI_35_2, gC_36, gR_36_0, gC_41, gR_41_0, gI_41_1, gI_41_2, gC_44, gR_44_0, gR_44_1, gI_44_2, gI_44_3, gC_49, gR_49_0, gR_49_1, gI_49_2, gI_49_3, gC_75, gI_75_0, gI_75_1, gI_75_2, gR_75_5, gI_75_6, gI_75_7, gI_75_8, gI_75_9, gI_75_10, gI_75_11, gI_75_12, gI_75_13, gL_75_14, gR_75_15, gR_75_16, gR_75_17, gR_75_18, gI_75_19, gI_75_20, gR_75_21, gR_75_22, gR_75_23, gI_75_24, gR_75_25, gI_75_26, gL_75_27, gL_75_28, gR_75_29, gR_75_30, gI_75_31, gR_75_3, gQ_75_3, gN_75_3, gR_75_4, gQ_75_4, gN_75_4, pI_0_7, pI_1_1, pI_1_5, pI_1_6, pI_1_7, pI_1_8, pI_1_9, pL_1_10, pI_1_11, pI_1_12, pI_1_13, pI_1_14, pI_30_2, pI_30_3, pI_30_4, pI_35_2, pI_41_1, pZ0_41_1, pZ1_41_1, pI_41_2, pI_44_2, pZ0_44_2, pZ1_44_2, pI_44_3, pI_49_2, pI_49_3, pI_75_0, pI_75_1, pI_75_2, pI_75_6, pI_75_7, pI_75_8, pI_75_9, pI_75_10, pI_75_11, pI_75_12, pI_75_13, pL_75_14, pI_75_19, pI_75_20, pI_75_24, pI_75_26, pL_75_27, pL_75_28, pI_75_31, Option.bind_some, q_b2_some, q_zr_0, q_zr_1, x10_fine, x10_refused, x12_good, x12_refused, cpA_zero]
  | succ d ih =>
    intro i f u hi hf
    obtain ⟨f, rfl⟩ : ∃ f', f = f' + 1 := ⟨f - 1, by omega⟩
    have c : ¬ (16 : Int32) ≤ nI i := nI_ge (b := 16) (by omega) (by omega)
    have j1 : i < 16 := by omega
    have j2 : 16 * x + i < 48 := by omega
    simp only [L_X12_back_32, c, if_false, gC_0, gR_0_0, gR_0_1, gR_0_2, gR_0_3, gR_0_4, gR_0_5, gR_0_6, gI_0_7, gR_0_8, gC_1, gR_1_0, gI_1_1, gR_1_2, gR_1_3, gR_1_4, gI_1_5, gI_1_6, gI_1_7, gI_1_8, gI_1_9, gL_1_10, gI_1_11, gI_1_12, gI_1_13, gI_1_14, gC_27, gR_27_0, gC_30, gR_30_0, gR_30_1, gI_30_2, gI_30_3, gI_30_4, gC_35, gR_35_0, gR_35_1, gI_35_2, gC_36, gR_36_0, gC_41, gR_41_0, gI_41_1, gI_41_2, gC_44, gR_44_0, gR_44_1, gI_44_2, gI_44_3, gC_49, gR_49_0, gR_49_1, gI_49_2, gI_49_3, gC_75, gI_75_0, gI_75_1, gI_75_2, gR_75_5, gI_75_6, gI_75_7, gI_75_8, gI_75_9, gI_75_10, gI_75_11, gI_75_12, gI_75_13, gL_75_14, gR_75_15, gR_75_16, gR_75_17, gR_75_18, gI_75_19, gI_75_20, gR_75_21, gR_75_22, gR_75_23, gI_75_24, gR_75_25, gI_75_26, gL_75_27, gL_75_28, gR_75_29, gR_75_30, gI_75_31, gR_75_3, gQ_75_3, gN_75_3, gR_75_4, gQ_75_4, gN_75_4, pI_0_7, pI_1_1, pI_1_5, pI_1_6, pI_1_7, pI_1_8, pI_1_9, pL_1_10, pI_1_11, pI_1_12, pI_1_13, pI_1_14, pI_30_2, pI_30_3, pI_30_4, pI_35_2, pI_41_1, pZ0_41_1, pZ1_41_1, pI_41_2, pI_44_2, pZ0_44_2, pZ1_44_2, pI_44_3, pI_49_2, pI_49_3, pI_75_0, pI_75_1, pI_75_2, pI_75_6, pI_75_7, pI_75_8, pI_75_9, pI_75_10, pI_75_11, pI_75_12, pI_75_13, pL_75_14, pI_75_19, pI_75_20, pI_75_24, pI_75_26, pL_75_27, pL_75_28, pI_75_31, Option.bind_some, q_b2_some, q_zr_0, q_zr_1, x10_fine, x10_refused, x12_good, x12_refused, aB_2, an_2, aB_76, an_76, aI_77, aI_78, aI_79, aI_80, aI_81, aI_82, aI_83, aI_84, aI_85, aI_86, sB_2, sB_76, sI_77, sI_78, sI_79, sI_80, sI_81, sI_82, sI_83, sI_84, sI_85, sI_86, n16, j1, j2, nI_1, ih (i + 1) f _ (by omega) (by omega)]
    rw [show 16 * x + (i + 1) = 16 * x + i + 1 by omega, cpA_step (Or.inl (by decide))]
theorem ref_mark {q : Nat} {kk : Nat → qS → Option (Int32 × qS)} (hq : q < 3) : ∀ (d i f : Nat) (u : mU), i + d = 16 → d < f → u 75 20 = nI q → L_X12_mark_34 kk f 75 (nI i) (Rep (SH T D c3 c4 m) u v) = kk 75 (Rep (SH T D c3 c4 m) (cpA u 80 (16 * q + i) 77 i d) v) := by
  intro d
  induction d with
  | zero =>
    intro i f u hi hf hu
    obtain ⟨f, rfl⟩ : ∃ f', f = f' + 1 := ⟨f - 1, by omega⟩
    have c : (16 : Int32) ≤ nI i := nI_le (a := 16) (by omega) (by omega)
    simp only [L_X12_mark_34, c, if_true, cpA_zero]
  | succ d ih =>
    intro i f u hi hf hu
    obtain ⟨f, rfl⟩ : ∃ f', f = f' + 1 := ⟨f - 1, by omega⟩
    have c : ¬ (16 : Int32) ≤ nI i := nI_ge (b := 16) (by omega) (by omega)
    have j1 : i < 16 := by omega
    have j2 : 16 * q + i < 48 := by omega
    have hu' : wr u 80 (16 * q + i) (u 77 i) 75 20 = nI q := by rw [wr_role (by decide), hu]
    simp only [L_X12_mark_34, c, if_false, gC_0, gR_0_0, gR_0_1, gR_0_2, gR_0_3, gR_0_4, gR_0_5, gR_0_6, gI_0_7, gR_0_8, gC_1, gR_1_0, gI_1_1, gR_1_2, gR_1_3, gR_1_4, gI_1_5, gI_1_6, gI_1_7, gI_1_8, gI_1_9, gL_1_10, gI_1_11, gI_1_12, gI_1_13, gI_1_14, gC_27, gR_27_0, gC_30, gR_30_0, gR_30_1, gI_30_2, gI_30_3, gI_30_4, gC_35, gR_35_0, gR_35_1, gI_35_2, gC_36, gR_36_0, gC_41, gR_41_0, gI_41_1, gI_41_2, gC_44, gR_44_0, gR_44_1, gI_44_2, gI_44_3, gC_49, gR_49_0, gR_49_1, gI_49_2, gI_49_3, gC_75, gI_75_0, gI_75_1, gI_75_2, gR_75_5, gI_75_6, gI_75_7, gI_75_8, gI_75_9, gI_75_10, gI_75_11, gI_75_12, gI_75_13, gL_75_14, gR_75_15, gR_75_16, gR_75_17, gR_75_18, gI_75_19, gI_75_20, gR_75_21, gR_75_22, gR_75_23, gI_75_24, gR_75_25, gI_75_26, gL_75_27, gL_75_28, gR_75_29, gR_75_30, gI_75_31, gR_75_3, gQ_75_3, gN_75_3, gR_75_4, gQ_75_4, gN_75_4, pI_0_7, pI_1_1, pI_1_5, pI_1_6, pI_1_7, pI_1_8, pI_1_9, pL_1_10, pI_1_11, pI_1_12, pI_1_13, pI_1_14, pI_30_2, pI_30_3, pI_30_4, pI_35_2, pI_41_1, pZ0_41_1, pZ1_41_1, pI_41_2, pI_44_2, pZ0_44_2, pZ1_44_2, pI_44_3, pI_49_2, pI_49_3, pI_75_0, pI_75_1, pI_75_2, pI_75_6, pI_75_7, pI_75_8, pI_75_9, pI_75_10, pI_75_11, pI_75_12, pI_75_13, pL_75_14, pI_75_19, pI_75_20, pI_75_24, pI_75_26, pL_75_27, pL_75_28, pI_75_31, Option.bind_some, q_b2_some, q_zr_0, q_zr_1, x10_fine, x10_refused, x12_good, x12_refused, aB_2, an_2, aB_76, an_76, aI_77, aI_78, aI_79, aI_80, aI_81, aI_82, aI_83, aI_84, aI_85, aI_86, sB_2, sB_76, sI_77, sI_78, sI_79, sI_80, sI_81, sI_82, sI_83, sI_84, sI_85, sI_86, hu, n16, j1, j2, nI_1, ih (i + 1) f _ (by omega) (by omega) hu']
    rw [show 16 * q + (i + 1) = 16 * q + i + 1 by omega, cpA_step (Or.inl (by decide))]
end HIS
