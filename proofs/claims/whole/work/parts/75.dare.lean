/-! ===== fractions in lowest terms ===== -/
theorem mod_half {y z : Nat} (h0 : 0 < z) (h : z < y) : 2 * (y % z) < y := by
  have h1 := Nat.mod_lt y h0
  have h2 := Nat.div_add_mod y z
  have h3 : 1 ≤ y / z := (Nat.le_div_iff_mul_le h0).mpr (by omega)
  have h4 : z * 1 ≤ z * (y / z) := Nat.mul_le_mul_left z h3
  omega
theorem lN_0 : lN 0 = 0 := rfl
theorem lN_ne0 {y : Nat} (h0 : 0 < y) (h : y < 2 ^ 63) : ¬ lN y = 0 := by
  intro z
  rw [← lN_0] at z
  have := (pk_lEQ h (by decide)).mp z
  omega
theorem gcd_step (x y : Nat) : Nat.gcd y (x % y) = Nat.gcd x y := by
  rw [Nat.gcd_comm x y, Nat.gcd_rec y x, Nat.gcd_comm]
theorem ref_gcd {g : qS} : ∀ (k x y f : Nat), y < 2 ^ k → x < 2 ^ 62 → y < 2 ^ 62 → 2 * k + 1 ≤ f → L_X12_common_6 g f (lN x) (lN y) = some (lN (Nat.gcd x y)) := by
  intro k
  induction k with
  | zero =>
    intro x y f hy hx hy2 hf
    obtain ⟨f, rfl⟩ : ∃ f', f = f' + 1 := ⟨f - 1, by omega⟩
    have hy0 : y = 0 := by simp at hy; exact hy
    subst hy0
    simp -implicitDefEqProofs only [L_X12_common_6, lN_0, if_true, Nat.gcd_zero_right]
  | succ k ih =>
    intro x y f hy hx hy2 hf
    obtain ⟨f, rfl⟩ : ∃ f', f = f' + 1 + 1 := ⟨f - 2, by omega⟩
    by_cases c : y = 0
    · subst c
      simp -implicitDefEqProofs only [L_X12_common_6, lN_0, if_true, Nat.gcd_zero_right]
    · have hp : 0 < y := by omega
      have hn := lN_ne0 hp (by omega)
      have hm := Nat.mod_lt x hp
      have e1 : L_X12_common_6 g (f + 1 + 1) (lN x) (lN y) = L_X12_common_6 g (f + 1) (lN y) (lN (x % y)) := by
        rw [L_X12_common_6, if_neg hn, if_neg hn, pk_lRem (by omega) hp (by omega)]
      rw [e1, ← gcd_step x y]
      by_cases c2 : x % y = 0
      · rw [c2, L_X12_common_6, lN_0, if_pos rfl, Nat.gcd_zero_right]
      · have hp2 : 0 < x % y := by omega
        have hn2 := lN_ne0 hp2 (by omega)
        have hm2 := mod_half hp2 hm
        rw [L_X12_common_6, if_neg hn2, if_neg hn2, pk_lRem (by omega) hp2 (by omega), ← gcd_step y (x % y)]
        exact ih _ _ _ (by rw [Nat.pow_succ] at hy; omega) (by omega) (by omega) (by omega)
theorem cls_gcd {g : qS} {kk : Int64 → Int64 → Int32 → Int64 → Option Int64} {A B : Int64} {w : Int32} : ∀ (k x y i f : Nat), y < 2 ^ k → x < 2 ^ 62 → y < 2 ^ 62 → 2 * k + 1 ≤ f → i + 2 * k + 1 ≤ 200 → L_X1_part_9 kk g f A B w (lN x) (lN y) (nI i) = kk A B w (lN (Nat.gcd x y)) := by
  intro k
  induction k with
  | zero =>
    intro x y i f hy hx hy2 hf hi
    obtain ⟨f, rfl⟩ : ∃ f', f = f' + 1 := ⟨f - 1, by omega⟩
    have hy0 : y = 0 := by simp at hy; exact hy
    subst hy0
    have c9 : ¬ (200 : Int32) ≤ nI i := nI_ge (b := 200) (by omega) (by omega)
    rw [L_X1_part_9, if_neg c9, lN_0, if_pos rfl, Nat.gcd_zero_right]
  | succ k ih =>
    intro x y i f hy hx hy2 hf hi
    obtain ⟨f, rfl⟩ : ∃ f', f = f' + 1 + 1 := ⟨f - 2, by omega⟩
    have c9 : ¬ (200 : Int32) ≤ nI i := nI_ge (b := 200) (by omega) (by omega)
    have c10 : ¬ (200 : Int32) ≤ nI (i + 1) := nI_ge (b := 200) (by omega) (by omega)
    by_cases c : y = 0
    · subst c
      rw [L_X1_part_9, if_neg c9, lN_0, if_pos rfl, Nat.gcd_zero_right]
    · have hp : 0 < y := by omega
      have hn := lN_ne0 hp (by omega)
      have hm := Nat.mod_lt x hp
      rw [L_X1_part_9, if_neg c9, if_neg hn, if_neg hn, pk_lRem (by omega) hp (by omega), nI_1, ← gcd_step x y]
      by_cases c2 : x % y = 0
      · rw [c2, L_X1_part_9, if_neg c10, lN_0, if_pos rfl, Nat.gcd_zero_right]
      · have hp2 : 0 < x % y := by omega
        have hn2 := lN_ne0 hp2 (by omega)
        have hm2 := mod_half hp2 hm
        rw [L_X1_part_9, if_neg c10, if_neg hn2, if_neg hn2, pk_lRem (by omega) hp2 (by omega), nI_1, ← gcd_step y (x % y)]
        exact ih _ _ _ _ (by rw [Nat.pow_succ] at hy; omega) (by omega) (by omega) (by omega) (by omega)
/-- a fraction's upper or lower number in lowest terms -/
def frc (a b : Nat) (w : Int32) : Int64 := if w = 0 then lN (a / Nat.gcd a b) else lN (b / Nat.gcd a b)
theorem cls_part {g : qS} {a b : Nat} {w : Int32} (ha : a < 2 ^ 62) (hb0 : 0 < b) (hb : b < 2 ^ 62) : f_X1_part g (lN a) (lN b) w = some (frc a b w) := by
  have hg : 0 < Nat.gcd a b := Nat.gcd_pos_of_pos_right a hb0
  have hgb : Nat.gcd a b ≤ b := Nat.gcd_le_right a hb0
  have hn := lN_ne0 hg (by omega)
  have e := fun kk => cls_gcd (g := g) (kk := kk) (A := lN a) (B := lN b) (w := w) 62 a b 0 1000000000 hb ha hb (by omega) (by omega)
  rw [nI_0] at e
  unfold f_X1_part frc
  rw [e]
  unfold J_X1_part_45 J_X1_part_55
  by_cases c : w = 0
  · rw [if_pos c, if_pos c, if_neg hn, if_neg hn, pk_lDiv (by omega) hg (by omega)]
  · rw [if_neg c, if_neg c, if_neg hn, if_neg hn, pk_lDiv (by omega) hg (by omega)]
theorem ref_frac {T D m : Nat} {c3 c4 : sF} {u : mU} {v : mV} {a b : Nat} {w : Int32} (ha : a < 2 ^ 62) (hb0 : 0 < b) (hb : b < 2 ^ 62) : f_X12_fraction (Rep (SH T D c3 c4 m) u v) 75 (lN a) (lN b) w = some (frc a b w, Rep (SH T D c3 c4 m) (wr (wr u 75 1 0) 75 2 (-1)) v) := by
  have hg : 0 < Nat.gcd a b := Nat.gcd_pos_of_pos_right a hb0
  have hgb : Nat.gcd a b ≤ b := Nat.gcd_le_right a hb0
  have hn := lN_ne0 hg (by omega)
  have e := fun g => ref_gcd (g := g) 62 a b 1000000000 hb ha hb (by omega)
  have e2 : ∀ g, f_X12_common g (lN a) (lN b) = some (lN (Nat.gcd a b)) := fun g => e g
  unfold f_X12_fraction frc
  rw [gC_75, Option.bind_some, x12_good, q_b2_some, e2, Option.bind_some, Option.bind_some]
  by_cases c : w = 0
  · rw [if_pos c, if_pos c, if_neg hn, pk_lDiv (by omega) hg (by omega)]
  · rw [if_neg c, if_neg c, if_neg hn, pk_lDiv (by omega) hg (by omega)]
/-! ===== the dare ===== -/
theorem cls_pow_go {g : qS} {x n : Nat} (hn : n ≤ 100) : ∀ (r i f y : Nat), i + r = n → r < f → L_X1_power_5 g f (lN x) (nI n) (lN y) (nI i) = some (lN (y * x ^ r)) := by
  intro r
  induction r with
  | zero =>
    intro i f y hi hf
    obtain ⟨f, rfl⟩ : ∃ f', f = f' + 1 := ⟨f - 1, by omega⟩
    have c : nI n ≤ nI i := nI_le (by omega) (by omega)
    rw [L_X1_power_5, if_pos c, Nat.pow_zero, Nat.mul_one]
  | succ r ih =>
    intro i f y hi hf
    obtain ⟨f, rfl⟩ : ∃ f', f = f' + 1 := ⟨f - 1, by omega⟩
    have c : ¬ nI n ≤ nI i := nI_ge (by omega) (by omega)
    rw [L_X1_power_5, if_neg c, lN_mul, nI_1, ih (i + 1) f (y * x) (by omega) (by omega), Nat.pow_succ, Nat.mul_assoc, Nat.mul_comm x]
theorem ref_pow_go {g : qS} {x n : Nat} (hn : n ≤ 100) : ∀ (r i f y : Nat), i + r = n → r < f → L_X12_power_5 g f (lN x) (nI n) (lN y) (nI i) = some (lN (y * x ^ r)) := by
  intro r
  induction r with
  | zero =>
    intro i f y hi hf
    obtain ⟨f, rfl⟩ : ∃ f', f = f' + 1 := ⟨f - 1, by omega⟩
    have c : nI n ≤ nI i := nI_le (by omega) (by omega)
    rw [L_X12_power_5, if_pos c, Nat.pow_zero, Nat.mul_one]
  | succ r ih =>
    intro i f y hi hf
    obtain ⟨f, rfl⟩ : ∃ f', f = f' + 1 := ⟨f - 1, by omega⟩
    have c : ¬ nI n ≤ nI i := nI_ge (by omega) (by omega)
    rw [L_X12_power_5, if_neg c, lN_mul, nI_1, ih (i + 1) f (y * x) (by omega) (by omega), Nat.pow_succ, Nat.mul_assoc, Nat.mul_comm x]
theorem cls_pow {g : qS} {x n : Nat} (hn : n ≤ 100) : f_X1_power g (lN x) (nI n) = some (lN (x ^ n)) := by
  have := cls_pow_go (g := g) (x := x) hn n 0 1000000000 1 (by omega) (by omega)
  rw [nI_0, Nat.one_mul] at this
  exact this
theorem ref_pow {g : qS} {x n : Nat} (hn : n ≤ 100) : f_X12_power g (lN x) (nI n) = some (lN (x ^ n)) := by
  have := ref_pow_go (g := g) (x := x) hn n 0 1000000000 1 (by omega) (by omega)
  rw [nI_0, Nat.one_mul] at this
  exact this
def dmn (c s : Nat) : Nat := s * (100 - c) ^ s * 100 ^ (8 - s)
theorem dmn_le {c s : Nat} (hs : s ≤ 8) : dmn c s ≤ 8 * 100 ^ 8 := by
  unfold dmn
  have h1 : (100 - c) ^ s ≤ 100 ^ s := Nat.pow_le_pow_left (by omega) s
  have h2 : s * (100 - c) ^ s ≤ 8 * 100 ^ s := Nat.mul_le_mul hs h1
  have h3 : s * (100 - c) ^ s * 100 ^ (8 - s) ≤ 8 * 100 ^ s * 100 ^ (8 - s) := Nat.mul_le_mul_right _ h2
  rw [Nat.mul_assoc 8, ← Nat.pow_add, show s + (8 - s) = 8 by omega] at h3
  exact h3
def stD (c s b : Nat) : Nat := if dmn c s ≤ dmn c b then b else s
theorem base_c {c : Nat} (h : c ≤ 100) : ((100 : Int32) - nI c).toInt64 = lN (100 - c) := by
  rw [show (100 : Int32) = nI 100 from rfl, pk_sub h, nI_l (by omega)]
theorem base_m {c : Nat} (h : c ≤ 100) : (100 : Int64) - (nI c).toInt64 = lN (100 - c) := by
  rw [nI_l (by omega), show (100 : Int64) = lN 100 from rfl, lN_sub h]
theorem cls_mean {g : qS} {c s : Nat} (hc : c ≤ 100) (hs : s ≤ 8) : f_X1_scaledMean g (nI s) (nI c) = some (lN (dmn c s)) := by
  unfold f_X1_scaledMean
  rw [base_c hc, cls_pow (by omega), Option.bind_some, show (8 : Int32) - nI s = nI (8 - s) from pk_sub (a := 8) hs, show (100 : Int64) = lN 100 from rfl, cls_pow (by omega), Option.bind_some, nI_l (by omega), lN_mul, lN_mul]
  rfl
theorem cls_steps {g : qS} {c : Nat} (hc : c ≤ 100) : ∀ (r s f b : Nat), s + r = 9 → r < f → b ≤ 8 → L_X1_bestSteps_4 g f (nI c) (nI b) (nI s) = some (nI (lp (stD c) r s b)) := by
  intro r
  induction r with
  | zero =>
    intro s f b hs hf hb
    obtain ⟨f, rfl⟩ : ∃ f', f = f' + 1 := ⟨f - 1, by omega⟩
    have c0 : (8 : Int32) < nI s := nI_lt (a := 8) (by omega) (by omega)
    rw [L_X1_bestSteps_4, if_pos c0]
    rfl
  | succ r ih =>
    intro s f b hs hf hb
    obtain ⟨f, rfl⟩ : ∃ f', f = f' + 1 := ⟨f - 1, by omega⟩
    have c0 : ¬ (8 : Int32) < nI s := nI_nlt (a := 8) (b := s) (by omega) (by omega)
    have h1 := dmn_le (c := c) (show s ≤ 8 by omega)
    have h2 := dmn_le (c := c) hb
    have e : (lN (dmn c s) ≤ lN (dmn c b)) = (dmn c s ≤ dmn c b) := propext (pk_lLE (by omega) (by omega))
    rw [L_X1_bestSteps_4, if_neg c0, cls_mean hc (by omega), Option.bind_some, cls_mean hc hb, Option.bind_some, nI_1]
    simp -implicitDefEqProofs only [e, lp]
    by_cases c1 : dmn c s ≤ dmn c b
    · rw [if_pos c1, show stD c s b = b from if_pos c1]
      exact ih (s + 1) f b (by omega) (by omega) hb
    · rw [if_neg c1, show stD c s b = s from if_neg c1]
      exact ih (s + 1) f s (by omega) (by omega) (by omega)
theorem ref_steps {g : qS} {c : Nat} (hc : c ≤ 100) : ∀ (r s f b : Nat), s + r = 9 → r < f → b ≤ 8 → L_X12_dares_7 g f (nI c) (nI b) (lN (dmn c b)) (nI s) = some (nI (lp (stD c) r s b)) := by
  intro r
  induction r with
  | zero =>
    intro s f b hs hf hb
    obtain ⟨f, rfl⟩ : ∃ f', f = f' + 1 := ⟨f - 1, by omega⟩
    have c0 : (8 : Int32) < nI s := nI_lt (a := 8) (by omega) (by omega)
    rw [L_X12_dares_7, if_pos c0]
    rfl
  | succ r ih =>
    intro s f b hs hf hb
    obtain ⟨f, rfl⟩ : ∃ f', f = f' + 1 := ⟨f - 1, by omega⟩
    have c0 : ¬ (8 : Int32) < nI s := nI_nlt (a := 8) (b := s) (by omega) (by omega)
    have h1 := dmn_le (c := c) (show s ≤ 8 by omega)
    have h2 := dmn_le (c := c) hb
    have e : (lN (dmn c s) ≤ lN (dmn c b)) = (dmn c s ≤ dmn c b) := propext (pk_lLE (by omega) (by omega))
    have e3 : ((nI s).toInt64 * lN ((100 - c) ^ s)) * lN (100 ^ (8 - s)) = lN (dmn c s) := by
      rw [nI_l (by omega), lN_mul, lN_mul]
      rfl
    rw [L_X12_dares_7, if_neg c0, base_m hc, ref_pow (by omega), Option.bind_some, show (8 : Int32) - nI s = nI (8 - s) from pk_sub (a := 8) (by omega), show (100 : Int64) = lN 100 from rfl, ref_pow (by omega), Option.bind_some, nI_1, e3]
    simp -implicitDefEqProofs only [e, lp]
    by_cases c1 : dmn c s ≤ dmn c b
    · rw [if_pos c1, show stD c s b = b from if_pos c1]
      exact ih (s + 1) f b (by omega) (by omega) hb
    · rw [if_neg c1, show stD c s b = s from if_neg c1]
      exact ih (s + 1) f s (by omega) (by omega) (by omega)
theorem stD_le {c : Nat} : ∀ (r s b : Nat), s + r = 9 → b ≤ 8 → lp (stD c) r s b ≤ 8 := by
  intro r
  induction r with
  | zero => intro s b _ hb; exact hb
  | succ r ih =>
    intro s b hs hb
    simp -implicitDefEqProofs only [lp]
    apply ih (s + 1) _ (by omega)
    unfold stD
    split <;> omega
section DAR
variable {P Q : cP}
theorem cls_best {g : qS} {c : Nat} (hc : c ≤ 100) : f_X1_bestSteps g (nI c) = some (nI (lp (stD c) 8 1 0)) := cls_steps hc 8 1 1000000000 0 (by omega) (by omega) (by omega)
theorem ref_best {T D m : Nat} {c3 c4 : sF} {u : mU} {v : mV} {c : Nat} (hc : c ≤ 100) : f_X12_dares (Rep (SH T D c3 c4 m) u v) 75 (nI c) = some (nI (lp (stD c) 8 1 0)) := by
  have e := ref_steps (g := Rep (SH T D c3 c4 m) u v) hc 8 1 1000000000 0 (by omega) (by omega) (by omega)
  rw [show dmn c 0 = 0 by unfold dmn; rw [Nat.zero_mul, Nat.zero_mul], lN_0, nI_0] at e
  unfold f_X12_dares
  rw [gC_75, Option.bind_some]
  exact e
theorem m1l : (-1 : Int32).toInt64 = -1 := by decide
theorem dare_cases (x : Int32) : (x < 0) ∨ (¬ x < 0 ∧ ¬ x ≤ 100 ∧ 100 < x) ∨ (¬ x < 0 ∧ x ≤ 100 ∧ ¬ 100 < x ∧ ∃ n : Nat, n ≤ 100 ∧ x = nI n) := by
  by_cases c : x < 0
  · exact Or.inl c
  · by_cases c2 : x ≤ 100
    · refine Or.inr (Or.inr ⟨c, c2, Int32.not_lt.mpr c2, ?_⟩)
      obtain ⟨j, hj, rfl⟩ := nI_of c
      exact ⟨j, (nI_leI (b := 100) hj (by decide)).mp c2, rfl⟩
    · exact Or.inr (Or.inl ⟨c, c2, Int32.not_le.mp c2⟩)
theorem P32 : q_P32c (Inv P Q) := by
  intro g n x1 hI
  refine go0 (f10 := fun g => f_X10_dare g 0 x1) (f12 := fun g => f_X12_dare g 75 x1) (A0 := -1) hI ?_ ?_ ?_
  · intro T D c4 m u v ho hN
    simp -implicitDefEqProofs only [f_X10_dare, f_X10_whyNoDare, f_X10_noCollege, gC_0, gR_0_0, gR_0_1, gR_0_2, gR_0_3, gR_0_4, gR_0_5, gR_0_6, gI_0_7, gR_0_8, gC_1, gR_1_0, gI_1_1, gR_1_2, gR_1_3, gR_1_4, gI_1_5, gI_1_6, gI_1_7, gI_1_8, gI_1_9, gL_1_10, gI_1_11, gI_1_12, gI_1_13, gI_1_14, gC_27, gR_27_0, gC_30, gR_30_0, gR_30_1, gI_30_2, gI_30_3, gI_30_4, gC_35, gR_35_0, gR_35_1, gI_35_2, gC_36, gR_36_0, gC_41, gR_41_0, gI_41_1, gI_41_2, gC_44, gR_44_0, gR_44_1, gI_44_2, gI_44_3, gC_49, gR_49_0, gR_49_1, gI_49_2, gI_49_3, gC_75, gI_75_0, gI_75_1, gI_75_2, gR_75_5, gI_75_6, gI_75_7, gI_75_8, gI_75_9, gI_75_10, gI_75_11, gI_75_12, gI_75_13, gL_75_14, gR_75_15, gR_75_16, gR_75_17, gR_75_18, gI_75_19, gI_75_20, gR_75_21, gR_75_22, gR_75_23, gI_75_24, gR_75_25, gI_75_26, gL_75_27, gL_75_28, gR_75_29, gR_75_30, gI_75_31, gR_75_3, gQ_75_3, gN_75_3, gR_75_4, gQ_75_4, gN_75_4, pI_0_7, pI_1_1, pI_1_5, pI_1_6, pI_1_7, pI_1_8, pI_1_9, pL_1_10, pI_1_11, pI_1_12, pI_1_13, pI_1_14, pI_30_2, pI_30_3, pI_30_4, pI_35_2, pI_41_1, pZ0_41_1, pZ1_41_1, pI_41_2, pI_44_2, pZ0_44_2, pZ1_44_2, pI_44_3, pI_49_2, pI_49_3, pI_75_0, pI_75_1, pI_75_2, pI_75_6, pI_75_7, pI_75_8, pI_75_9, pI_75_10, pI_75_11, pI_75_12, pI_75_13, pL_75_14, pI_75_19, pI_75_20, pI_75_24, pI_75_26, pL_75_27, pL_75_28, pI_75_31, Option.bind_some, q_b2_some, q_zr_0, q_zr_1, x10_fine, x10_refused, x12_good, x12_refused, cls_k0 ho hN, if_true, if_false, ne10]
  · intro T D c4 m u v
    simp -implicitDefEqProofs only [f_X12_dare, f_X12_refusesDare, gC_0, gR_0_0, gR_0_1, gR_0_2, gR_0_3, gR_0_4, gR_0_5, gR_0_6, gI_0_7, gR_0_8, gC_1, gR_1_0, gI_1_1, gR_1_2, gR_1_3, gR_1_4, gI_1_5, gI_1_6, gI_1_7, gI_1_8, gI_1_9, gL_1_10, gI_1_11, gI_1_12, gI_1_13, gI_1_14, gC_27, gR_27_0, gC_30, gR_30_0, gR_30_1, gI_30_2, gI_30_3, gI_30_4, gC_35, gR_35_0, gR_35_1, gI_35_2, gC_36, gR_36_0, gC_41, gR_41_0, gI_41_1, gI_41_2, gC_44, gR_44_0, gR_44_1, gI_44_2, gI_44_3, gC_49, gR_49_0, gR_49_1, gI_49_2, gI_49_3, gC_75, gI_75_0, gI_75_1, gI_75_2, gR_75_5, gI_75_6, gI_75_7, gI_75_8, gI_75_9, gI_75_10, gI_75_11, gI_75_12, gI_75_13, gL_75_14, gR_75_15, gR_75_16, gR_75_17, gR_75_18, gI_75_19, gI_75_20, gR_75_21, gR_75_22, gR_75_23, gI_75_24, gR_75_25, gI_75_26, gL_75_27, gL_75_28, gR_75_29, gR_75_30, gI_75_31, gR_75_3, gQ_75_3, gN_75_3, gR_75_4, gQ_75_4, gN_75_4, pI_0_7, pI_1_1, pI_1_5, pI_1_6, pI_1_7, pI_1_8, pI_1_9, pL_1_10, pI_1_11, pI_1_12, pI_1_13, pI_1_14, pI_30_2, pI_30_3, pI_30_4, pI_35_2, pI_41_1, pZ0_41_1, pZ1_41_1, pI_41_2, pI_44_2, pZ0_44_2, pZ1_44_2, pI_44_3, pI_49_2, pI_49_3, pI_75_0, pI_75_1, pI_75_2, pI_75_6, pI_75_7, pI_75_8, pI_75_9, pI_75_10, pI_75_11, pI_75_12, pI_75_13, pL_75_14, pI_75_19, pI_75_20, pI_75_24, pI_75_26, pL_75_27, pL_75_28, pI_75_31, Option.bind_some, q_b2_some, q_zr_0, q_zr_1, x10_fine, x10_refused, x12_good, x12_refused, if_true, show ¬ (1 : Int32) ≤ 0 from by decide, if_false]
  · intro T D c4 m u v M N ho hC hM h88 hb hA
    have hb0 : N 0 ≤ 7 := hb.1
    have h2 : 2 ≤ N 0 := hA.2.1.1
    have z0 : ¬ nI (N 0) = 0 := nI_ne0 (by omega) (by omega)
    rcases dare_cases x1 with c1 | ⟨c1, c2, c3⟩ | ⟨c1, c2, c3, y, hy, rfl⟩
    · refine ⟨-1, 2, by decide, by simp -implicitDefEqProofs only [f_X10_dare, f_X10_whyNoDare, f_X10_noCollege, gC_0, gR_0_0, gR_0_1, gR_0_2, gR_0_3, gR_0_4, gR_0_5, gR_0_6, gI_0_7, gR_0_8, gC_1, gR_1_0, gI_1_1, gR_1_2, gR_1_3, gR_1_4, gI_1_5, gI_1_6, gI_1_7, gI_1_8, gI_1_9, gL_1_10, gI_1_11, gI_1_12, gI_1_13, gI_1_14, gC_27, gR_27_0, gC_30, gR_30_0, gR_30_1, gI_30_2, gI_30_3, gI_30_4, gC_35, gR_35_0, gR_35_1, gI_35_2, gC_36, gR_36_0, gC_41, gR_41_0, gI_41_1, gI_41_2, gC_44, gR_44_0, gR_44_1, gI_44_2, gI_44_3, gC_49, gR_49_0, gR_49_1, gI_49_2, gI_49_3, gC_75, gI_75_0, gI_75_1, gI_75_2, gR_75_5, gI_75_6, gI_75_7, gI_75_8, gI_75_9, gI_75_10, gI_75_11, gI_75_12, gI_75_13, gL_75_14, gR_75_15, gR_75_16, gR_75_17, gR_75_18, gI_75_19, gI_75_20, gR_75_21, gR_75_22, gR_75_23, gI_75_24, gR_75_25, gI_75_26, gL_75_27, gL_75_28, gR_75_29, gR_75_30, gI_75_31, gR_75_3, gQ_75_3, gN_75_3, gR_75_4, gQ_75_4, gN_75_4, pI_0_7, pI_1_1, pI_1_5, pI_1_6, pI_1_7, pI_1_8, pI_1_9, pL_1_10, pI_1_11, pI_1_12, pI_1_13, pI_1_14, pI_30_2, pI_30_3, pI_30_4, pI_35_2, pI_41_1, pZ0_41_1, pZ1_41_1, pI_41_2, pI_44_2, pZ0_44_2, pZ1_44_2, pI_44_3, pI_49_2, pI_49_3, pI_75_0, pI_75_1, pI_75_2, pI_75_6, pI_75_7, pI_75_8, pI_75_9, pI_75_10, pI_75_11, pI_75_12, pI_75_13, pL_75_14, pI_75_19, pI_75_20, pI_75_24, pI_75_26, pL_75_27, pL_75_28, pI_75_31, Option.bind_some, q_b2_some, q_zr_0, q_zr_1, x10_fine, x10_refused, x12_good, x12_refused, cls_c0 ho hA.1.1, z0, if_true, if_false, c1, ne20], ?_⟩
      intro u' v' hk hA' hc hr
      simp -implicitDefEqProofs only [f_X12_dare, f_X12_refusesDare, f_X12_in, gC_0, gR_0_0, gR_0_1, gR_0_2, gR_0_3, gR_0_4, gR_0_5, gR_0_6, gI_0_7, gR_0_8, gC_1, gR_1_0, gI_1_1, gR_1_2, gR_1_3, gR_1_4, gI_1_5, gI_1_6, gI_1_7, gI_1_8, gI_1_9, gL_1_10, gI_1_11, gI_1_12, gI_1_13, gI_1_14, gC_27, gR_27_0, gC_30, gR_30_0, gR_30_1, gI_30_2, gI_30_3, gI_30_4, gC_35, gR_35_0, gR_35_1, gI_35_2, gC_36, gR_36_0, gC_41, gR_41_0, gI_41_1, gI_41_2, gC_44, gR_44_0, gR_44_1, gI_44_2, gI_44_3, gC_49, gR_49_0, gR_49_1, gI_49_2, gI_49_3, gC_75, gI_75_0, gI_75_1, gI_75_2, gR_75_5, gI_75_6, gI_75_7, gI_75_8, gI_75_9, gI_75_10, gI_75_11, gI_75_12, gI_75_13, gL_75_14, gR_75_15, gR_75_16, gR_75_17, gR_75_18, gI_75_19, gI_75_20, gR_75_21, gR_75_22, gR_75_23, gI_75_24, gR_75_25, gI_75_26, gL_75_27, gL_75_28, gR_75_29, gR_75_30, gI_75_31, gR_75_3, gQ_75_3, gN_75_3, gR_75_4, gQ_75_4, gN_75_4, pI_0_7, pI_1_1, pI_1_5, pI_1_6, pI_1_7, pI_1_8, pI_1_9, pL_1_10, pI_1_11, pI_1_12, pI_1_13, pI_1_14, pI_30_2, pI_30_3, pI_30_4, pI_35_2, pI_41_1, pZ0_41_1, pZ1_41_1, pI_41_2, pI_44_2, pZ0_44_2, pZ1_44_2, pI_44_3, pI_49_2, pI_49_3, pI_75_0, pI_75_1, pI_75_2, pI_75_6, pI_75_7, pI_75_8, pI_75_9, pI_75_10, pI_75_11, pI_75_12, pI_75_13, pL_75_14, pI_75_19, pI_75_20, pI_75_24, pI_75_26, pL_75_27, pL_75_28, pI_75_31, Option.bind_some, q_b2_some, q_zr_0, q_zr_1, x10_fine, x10_refused, x12_good, x12_refused, reduceCtorEq, if_false, c1, if_true, show ¬ (2 : Int32) ≤ 0 from by decide]
    · refine ⟨-1, 2, by decide, by simp -implicitDefEqProofs only [f_X10_dare, f_X10_whyNoDare, f_X10_noCollege, gC_0, gR_0_0, gR_0_1, gR_0_2, gR_0_3, gR_0_4, gR_0_5, gR_0_6, gI_0_7, gR_0_8, gC_1, gR_1_0, gI_1_1, gR_1_2, gR_1_3, gR_1_4, gI_1_5, gI_1_6, gI_1_7, gI_1_8, gI_1_9, gL_1_10, gI_1_11, gI_1_12, gI_1_13, gI_1_14, gC_27, gR_27_0, gC_30, gR_30_0, gR_30_1, gI_30_2, gI_30_3, gI_30_4, gC_35, gR_35_0, gR_35_1, gI_35_2, gC_36, gR_36_0, gC_41, gR_41_0, gI_41_1, gI_41_2, gC_44, gR_44_0, gR_44_1, gI_44_2, gI_44_3, gC_49, gR_49_0, gR_49_1, gI_49_2, gI_49_3, gC_75, gI_75_0, gI_75_1, gI_75_2, gR_75_5, gI_75_6, gI_75_7, gI_75_8, gI_75_9, gI_75_10, gI_75_11, gI_75_12, gI_75_13, gL_75_14, gR_75_15, gR_75_16, gR_75_17, gR_75_18, gI_75_19, gI_75_20, gR_75_21, gR_75_22, gR_75_23, gI_75_24, gR_75_25, gI_75_26, gL_75_27, gL_75_28, gR_75_29, gR_75_30, gI_75_31, gR_75_3, gQ_75_3, gN_75_3, gR_75_4, gQ_75_4, gN_75_4, pI_0_7, pI_1_1, pI_1_5, pI_1_6, pI_1_7, pI_1_8, pI_1_9, pL_1_10, pI_1_11, pI_1_12, pI_1_13, pI_1_14, pI_30_2, pI_30_3, pI_30_4, pI_35_2, pI_41_1, pZ0_41_1, pZ1_41_1, pI_41_2, pI_44_2, pZ0_44_2, pZ1_44_2, pI_44_3, pI_49_2, pI_49_3, pI_75_0, pI_75_1, pI_75_2, pI_75_6, pI_75_7, pI_75_8, pI_75_9, pI_75_10, pI_75_11, pI_75_12, pI_75_13, pL_75_14, pI_75_19, pI_75_20, pI_75_24, pI_75_26, pL_75_27, pL_75_28, pI_75_31, Option.bind_some, q_b2_some, q_zr_0, q_zr_1, x10_fine, x10_refused, x12_good, x12_refused, cls_c0 ho hA.1.1, z0, if_true, if_false, c1, c2, ne20], ?_⟩
      intro u' v' hk hA' hc hr
      simp -implicitDefEqProofs only [f_X12_dare, f_X12_refusesDare, f_X12_in, gC_0, gR_0_0, gR_0_1, gR_0_2, gR_0_3, gR_0_4, gR_0_5, gR_0_6, gI_0_7, gR_0_8, gC_1, gR_1_0, gI_1_1, gR_1_2, gR_1_3, gR_1_4, gI_1_5, gI_1_6, gI_1_7, gI_1_8, gI_1_9, gL_1_10, gI_1_11, gI_1_12, gI_1_13, gI_1_14, gC_27, gR_27_0, gC_30, gR_30_0, gR_30_1, gI_30_2, gI_30_3, gI_30_4, gC_35, gR_35_0, gR_35_1, gI_35_2, gC_36, gR_36_0, gC_41, gR_41_0, gI_41_1, gI_41_2, gC_44, gR_44_0, gR_44_1, gI_44_2, gI_44_3, gC_49, gR_49_0, gR_49_1, gI_49_2, gI_49_3, gC_75, gI_75_0, gI_75_1, gI_75_2, gR_75_5, gI_75_6, gI_75_7, gI_75_8, gI_75_9, gI_75_10, gI_75_11, gI_75_12, gI_75_13, gL_75_14, gR_75_15, gR_75_16, gR_75_17, gR_75_18, gI_75_19, gI_75_20, gR_75_21, gR_75_22, gR_75_23, gI_75_24, gR_75_25, gI_75_26, gL_75_27, gL_75_28, gR_75_29, gR_75_30, gI_75_31, gR_75_3, gQ_75_3, gN_75_3, gR_75_4, gQ_75_4, gN_75_4, pI_0_7, pI_1_1, pI_1_5, pI_1_6, pI_1_7, pI_1_8, pI_1_9, pL_1_10, pI_1_11, pI_1_12, pI_1_13, pI_1_14, pI_30_2, pI_30_3, pI_30_4, pI_35_2, pI_41_1, pZ0_41_1, pZ1_41_1, pI_41_2, pI_44_2, pZ0_44_2, pZ1_44_2, pI_44_3, pI_49_2, pI_49_3, pI_75_0, pI_75_1, pI_75_2, pI_75_6, pI_75_7, pI_75_8, pI_75_9, pI_75_10, pI_75_11, pI_75_12, pI_75_13, pL_75_14, pI_75_19, pI_75_20, pI_75_24, pI_75_26, pL_75_27, pL_75_28, pI_75_31, Option.bind_some, q_b2_some, q_zr_0, q_zr_1, x10_fine, x10_refused, x12_good, x12_refused, reduceCtorEq, if_false, c1, c3, if_true, show ¬ (2 : Int32) ≤ 0 from by decide]
    · refine ⟨nI (lp (stD y) 8 1 0), 0, by decide, by simp -implicitDefEqProofs only [f_X10_dare, f_X10_whyNoDare, f_X10_noCollege, gC_0, gR_0_0, gR_0_1, gR_0_2, gR_0_3, gR_0_4, gR_0_5, gR_0_6, gI_0_7, gR_0_8, gC_1, gR_1_0, gI_1_1, gR_1_2, gR_1_3, gR_1_4, gI_1_5, gI_1_6, gI_1_7, gI_1_8, gI_1_9, gL_1_10, gI_1_11, gI_1_12, gI_1_13, gI_1_14, gC_27, gR_27_0, gC_30, gR_30_0, gR_30_1, gI_30_2, gI_30_3, gI_30_4, gC_35, gR_35_0, gR_35_1, gI_35_2, gC_36, gR_36_0, gC_41, gR_41_0, gI_41_1, gI_41_2, gC_44, gR_44_0, gR_44_1, gI_44_2, gI_44_3, gC_49, gR_49_0, gR_49_1, gI_49_2, gI_49_3, gC_75, gI_75_0, gI_75_1, gI_75_2, gR_75_5, gI_75_6, gI_75_7, gI_75_8, gI_75_9, gI_75_10, gI_75_11, gI_75_12, gI_75_13, gL_75_14, gR_75_15, gR_75_16, gR_75_17, gR_75_18, gI_75_19, gI_75_20, gR_75_21, gR_75_22, gR_75_23, gI_75_24, gR_75_25, gI_75_26, gL_75_27, gL_75_28, gR_75_29, gR_75_30, gI_75_31, gR_75_3, gQ_75_3, gN_75_3, gR_75_4, gQ_75_4, gN_75_4, pI_0_7, pI_1_1, pI_1_5, pI_1_6, pI_1_7, pI_1_8, pI_1_9, pL_1_10, pI_1_11, pI_1_12, pI_1_13, pI_1_14, pI_30_2, pI_30_3, pI_30_4, pI_35_2, pI_41_1, pZ0_41_1, pZ1_41_1, pI_41_2, pI_44_2, pZ0_44_2, pZ1_44_2, pI_44_3, pI_49_2, pI_49_3, pI_75_0, pI_75_1, pI_75_2, pI_75_6, pI_75_7, pI_75_8, pI_75_9, pI_75_10, pI_75_11, pI_75_12, pI_75_13, pL_75_14, pI_75_19, pI_75_20, pI_75_24, pI_75_26, pL_75_27, pL_75_28, pI_75_31, Option.bind_some, q_b2_some, q_zr_0, q_zr_1, x10_fine, x10_refused, x12_good, x12_refused, cls_c0 ho hA.1.1, z0, if_true, if_false, c1, c2, cls_best hy], ?_⟩
      intro u' v' hk hA' hc hr
      simp -implicitDefEqProofs only [f_X12_dare, f_X12_refusesDare, f_X12_in, gC_0, gR_0_0, gR_0_1, gR_0_2, gR_0_3, gR_0_4, gR_0_5, gR_0_6, gI_0_7, gR_0_8, gC_1, gR_1_0, gI_1_1, gR_1_2, gR_1_3, gR_1_4, gI_1_5, gI_1_6, gI_1_7, gI_1_8, gI_1_9, gL_1_10, gI_1_11, gI_1_12, gI_1_13, gI_1_14, gC_27, gR_27_0, gC_30, gR_30_0, gR_30_1, gI_30_2, gI_30_3, gI_30_4, gC_35, gR_35_0, gR_35_1, gI_35_2, gC_36, gR_36_0, gC_41, gR_41_0, gI_41_1, gI_41_2, gC_44, gR_44_0, gR_44_1, gI_44_2, gI_44_3, gC_49, gR_49_0, gR_49_1, gI_49_2, gI_49_3, gC_75, gI_75_0, gI_75_1, gI_75_2, gR_75_5, gI_75_6, gI_75_7, gI_75_8, gI_75_9, gI_75_10, gI_75_11, gI_75_12, gI_75_13, gL_75_14, gR_75_15, gR_75_16, gR_75_17, gR_75_18, gI_75_19, gI_75_20, gR_75_21, gR_75_22, gR_75_23, gI_75_24, gR_75_25, gI_75_26, gL_75_27, gL_75_28, gR_75_29, gR_75_30, gI_75_31, gR_75_3, gQ_75_3, gN_75_3, gR_75_4, gQ_75_4, gN_75_4, pI_0_7, pI_1_1, pI_1_5, pI_1_6, pI_1_7, pI_1_8, pI_1_9, pL_1_10, pI_1_11, pI_1_12, pI_1_13, pI_1_14, pI_30_2, pI_30_3, pI_30_4, pI_35_2, pI_41_1, pZ0_41_1, pZ1_41_1, pI_41_2, pI_44_2, pZ0_44_2, pZ1_44_2, pI_44_3, pI_49_2, pI_49_3, pI_75_0, pI_75_1, pI_75_2, pI_75_6, pI_75_7, pI_75_8, pI_75_9, pI_75_10, pI_75_11, pI_75_12, pI_75_13, pL_75_14, pI_75_19, pI_75_20, pI_75_24, pI_75_26, pL_75_27, pL_75_28, pI_75_31, Option.bind_some, q_b2_some, q_zr_0, q_zr_1, x10_fine, x10_refused, x12_good, x12_refused, reduceCtorEq, if_false, c1, c3, ne10, show (0 : Int32) ≤ 0 from by decide, if_true, ref_best hy]
theorem P33 : q_P33c (Inv P Q) := by
  intro g n x1 x0 hI
  show ∃ g', (q_b2 (f_X10_honours g 0 x1 (q_bz x0)) fun r1 g1 => q_b2 (f_X12_honours g1 75 x1 (q_bz x0)) fun r2 g2 => if r1 = r2 then some g2 else none) = some g' ∧ _
  generalize q_bz x0 = x2
  refine go0 (f10 := fun g => f_X10_honours g 0 x1 x2) (f12 := fun g => f_X12_honours g 75 x1 x2) (A0 := -1) hI ?_ ?_ ?_
  · intro T D c4 m u v ho hN
    simp -implicitDefEqProofs only [f_X10_honours, f_X10_whyNoDare, f_X10_noCollege, gC_0, gR_0_0, gR_0_1, gR_0_2, gR_0_3, gR_0_4, gR_0_5, gR_0_6, gI_0_7, gR_0_8, gC_1, gR_1_0, gI_1_1, gR_1_2, gR_1_3, gR_1_4, gI_1_5, gI_1_6, gI_1_7, gI_1_8, gI_1_9, gL_1_10, gI_1_11, gI_1_12, gI_1_13, gI_1_14, gC_27, gR_27_0, gC_30, gR_30_0, gR_30_1, gI_30_2, gI_30_3, gI_30_4, gC_35, gR_35_0, gR_35_1, gI_35_2, gC_36, gR_36_0, gC_41, gR_41_0, gI_41_1, gI_41_2, gC_44, gR_44_0, gR_44_1, gI_44_2, gI_44_3, gC_49, gR_49_0, gR_49_1, gI_49_2, gI_49_3, gC_75, gI_75_0, gI_75_1, gI_75_2, gR_75_5, gI_75_6, gI_75_7, gI_75_8, gI_75_9, gI_75_10, gI_75_11, gI_75_12, gI_75_13, gL_75_14, gR_75_15, gR_75_16, gR_75_17, gR_75_18, gI_75_19, gI_75_20, gR_75_21, gR_75_22, gR_75_23, gI_75_24, gR_75_25, gI_75_26, gL_75_27, gL_75_28, gR_75_29, gR_75_30, gI_75_31, gR_75_3, gQ_75_3, gN_75_3, gR_75_4, gQ_75_4, gN_75_4, pI_0_7, pI_1_1, pI_1_5, pI_1_6, pI_1_7, pI_1_8, pI_1_9, pL_1_10, pI_1_11, pI_1_12, pI_1_13, pI_1_14, pI_30_2, pI_30_3, pI_30_4, pI_35_2, pI_41_1, pZ0_41_1, pZ1_41_1, pI_41_2, pI_44_2, pZ0_44_2, pZ1_44_2, pI_44_3, pI_49_2, pI_49_3, pI_75_0, pI_75_1, pI_75_2, pI_75_6, pI_75_7, pI_75_8, pI_75_9, pI_75_10, pI_75_11, pI_75_12, pI_75_13, pL_75_14, pI_75_19, pI_75_20, pI_75_24, pI_75_26, pL_75_27, pL_75_28, pI_75_31, Option.bind_some, q_b2_some, q_zr_0, q_zr_1, x10_fine, x10_refused, x12_good, x12_refused, cls_k0 ho hN, if_true, if_false, ne10, m1l]
  · intro T D c4 m u v
    simp -implicitDefEqProofs only [f_X12_honours, f_X12_refusesDare, gC_0, gR_0_0, gR_0_1, gR_0_2, gR_0_3, gR_0_4, gR_0_5, gR_0_6, gI_0_7, gR_0_8, gC_1, gR_1_0, gI_1_1, gR_1_2, gR_1_3, gR_1_4, gI_1_5, gI_1_6, gI_1_7, gI_1_8, gI_1_9, gL_1_10, gI_1_11, gI_1_12, gI_1_13, gI_1_14, gC_27, gR_27_0, gC_30, gR_30_0, gR_30_1, gI_30_2, gI_30_3, gI_30_4, gC_35, gR_35_0, gR_35_1, gI_35_2, gC_36, gR_36_0, gC_41, gR_41_0, gI_41_1, gI_41_2, gC_44, gR_44_0, gR_44_1, gI_44_2, gI_44_3, gC_49, gR_49_0, gR_49_1, gI_49_2, gI_49_3, gC_75, gI_75_0, gI_75_1, gI_75_2, gR_75_5, gI_75_6, gI_75_7, gI_75_8, gI_75_9, gI_75_10, gI_75_11, gI_75_12, gI_75_13, gL_75_14, gR_75_15, gR_75_16, gR_75_17, gR_75_18, gI_75_19, gI_75_20, gR_75_21, gR_75_22, gR_75_23, gI_75_24, gR_75_25, gI_75_26, gL_75_27, gL_75_28, gR_75_29, gR_75_30, gI_75_31, gR_75_3, gQ_75_3, gN_75_3, gR_75_4, gQ_75_4, gN_75_4, pI_0_7, pI_1_1, pI_1_5, pI_1_6, pI_1_7, pI_1_8, pI_1_9, pL_1_10, pI_1_11, pI_1_12, pI_1_13, pI_1_14, pI_30_2, pI_30_3, pI_30_4, pI_35_2, pI_41_1, pZ0_41_1, pZ1_41_1, pI_41_2, pI_44_2, pZ0_44_2, pZ1_44_2, pI_44_3, pI_49_2, pI_49_3, pI_75_0, pI_75_1, pI_75_2, pI_75_6, pI_75_7, pI_75_8, pI_75_9, pI_75_10, pI_75_11, pI_75_12, pI_75_13, pL_75_14, pI_75_19, pI_75_20, pI_75_24, pI_75_26, pL_75_27, pL_75_28, pI_75_31, Option.bind_some, q_b2_some, q_zr_0, q_zr_1, x10_fine, x10_refused, x12_good, x12_refused, if_true, show ¬ (1 : Int32) ≤ 0 from by decide, if_false, m1l]
  · intro T D c4 m u v M N ho hC hM h88 hb hA
    have hb0 : N 0 ≤ 7 := hb.1
    have h2 : 2 ≤ N 0 := hA.2.1.1
    have z0 : ¬ nI (N 0) = 0 := nI_ne0 (by omega) (by omega)
    rcases dare_cases x1 with c1 | ⟨c1, c2, c3⟩ | ⟨c1, c2, c3, y, hy, rfl⟩
    · refine ⟨-1, 2, by decide, by simp -implicitDefEqProofs only [f_X10_honours, f_X10_whyNoDare, f_X10_noCollege, gC_0, gR_0_0, gR_0_1, gR_0_2, gR_0_3, gR_0_4, gR_0_5, gR_0_6, gI_0_7, gR_0_8, gC_1, gR_1_0, gI_1_1, gR_1_2, gR_1_3, gR_1_4, gI_1_5, gI_1_6, gI_1_7, gI_1_8, gI_1_9, gL_1_10, gI_1_11, gI_1_12, gI_1_13, gI_1_14, gC_27, gR_27_0, gC_30, gR_30_0, gR_30_1, gI_30_2, gI_30_3, gI_30_4, gC_35, gR_35_0, gR_35_1, gI_35_2, gC_36, gR_36_0, gC_41, gR_41_0, gI_41_1, gI_41_2, gC_44, gR_44_0, gR_44_1, gI_44_2, gI_44_3, gC_49, gR_49_0, gR_49_1, gI_49_2, gI_49_3, gC_75, gI_75_0, gI_75_1, gI_75_2, gR_75_5, gI_75_6, gI_75_7, gI_75_8, gI_75_9, gI_75_10, gI_75_11, gI_75_12, gI_75_13, gL_75_14, gR_75_15, gR_75_16, gR_75_17, gR_75_18, gI_75_19, gI_75_20, gR_75_21, gR_75_22, gR_75_23, gI_75_24, gR_75_25, gI_75_26, gL_75_27, gL_75_28, gR_75_29, gR_75_30, gI_75_31, gR_75_3, gQ_75_3, gN_75_3, gR_75_4, gQ_75_4, gN_75_4, pI_0_7, pI_1_1, pI_1_5, pI_1_6, pI_1_7, pI_1_8, pI_1_9, pL_1_10, pI_1_11, pI_1_12, pI_1_13, pI_1_14, pI_30_2, pI_30_3, pI_30_4, pI_35_2, pI_41_1, pZ0_41_1, pZ1_41_1, pI_41_2, pI_44_2, pZ0_44_2, pZ1_44_2, pI_44_3, pI_49_2, pI_49_3, pI_75_0, pI_75_1, pI_75_2, pI_75_6, pI_75_7, pI_75_8, pI_75_9, pI_75_10, pI_75_11, pI_75_12, pI_75_13, pL_75_14, pI_75_19, pI_75_20, pI_75_24, pI_75_26, pL_75_27, pL_75_28, pI_75_31, Option.bind_some, q_b2_some, q_zr_0, q_zr_1, x10_fine, x10_refused, x12_good, x12_refused, cls_c0 ho hA.1.1, z0, if_true, if_false, c1, ne20, m1l], ?_⟩
      intro u' v' hk hA' hc hr
      simp -implicitDefEqProofs only [f_X12_honours, f_X12_refusesDare, f_X12_in, gC_0, gR_0_0, gR_0_1, gR_0_2, gR_0_3, gR_0_4, gR_0_5, gR_0_6, gI_0_7, gR_0_8, gC_1, gR_1_0, gI_1_1, gR_1_2, gR_1_3, gR_1_4, gI_1_5, gI_1_6, gI_1_7, gI_1_8, gI_1_9, gL_1_10, gI_1_11, gI_1_12, gI_1_13, gI_1_14, gC_27, gR_27_0, gC_30, gR_30_0, gR_30_1, gI_30_2, gI_30_3, gI_30_4, gC_35, gR_35_0, gR_35_1, gI_35_2, gC_36, gR_36_0, gC_41, gR_41_0, gI_41_1, gI_41_2, gC_44, gR_44_0, gR_44_1, gI_44_2, gI_44_3, gC_49, gR_49_0, gR_49_1, gI_49_2, gI_49_3, gC_75, gI_75_0, gI_75_1, gI_75_2, gR_75_5, gI_75_6, gI_75_7, gI_75_8, gI_75_9, gI_75_10, gI_75_11, gI_75_12, gI_75_13, gL_75_14, gR_75_15, gR_75_16, gR_75_17, gR_75_18, gI_75_19, gI_75_20, gR_75_21, gR_75_22, gR_75_23, gI_75_24, gR_75_25, gI_75_26, gL_75_27, gL_75_28, gR_75_29, gR_75_30, gI_75_31, gR_75_3, gQ_75_3, gN_75_3, gR_75_4, gQ_75_4, gN_75_4, pI_0_7, pI_1_1, pI_1_5, pI_1_6, pI_1_7, pI_1_8, pI_1_9, pL_1_10, pI_1_11, pI_1_12, pI_1_13, pI_1_14, pI_30_2, pI_30_3, pI_30_4, pI_35_2, pI_41_1, pZ0_41_1, pZ1_41_1, pI_41_2, pI_44_2, pZ0_44_2, pZ1_44_2, pI_44_3, pI_49_2, pI_49_3, pI_75_0, pI_75_1, pI_75_2, pI_75_6, pI_75_7, pI_75_8, pI_75_9, pI_75_10, pI_75_11, pI_75_12, pI_75_13, pL_75_14, pI_75_19, pI_75_20, pI_75_24, pI_75_26, pL_75_27, pL_75_28, pI_75_31, Option.bind_some, q_b2_some, q_zr_0, q_zr_1, x10_fine, x10_refused, x12_good, x12_refused, reduceCtorEq, if_false, c1, if_true, show ¬ (2 : Int32) ≤ 0 from by decide, m1l]
    · refine ⟨-1, 2, by decide, by simp -implicitDefEqProofs only [f_X10_honours, f_X10_whyNoDare, f_X10_noCollege, gC_0, gR_0_0, gR_0_1, gR_0_2, gR_0_3, gR_0_4, gR_0_5, gR_0_6, gI_0_7, gR_0_8, gC_1, gR_1_0, gI_1_1, gR_1_2, gR_1_3, gR_1_4, gI_1_5, gI_1_6, gI_1_7, gI_1_8, gI_1_9, gL_1_10, gI_1_11, gI_1_12, gI_1_13, gI_1_14, gC_27, gR_27_0, gC_30, gR_30_0, gR_30_1, gI_30_2, gI_30_3, gI_30_4, gC_35, gR_35_0, gR_35_1, gI_35_2, gC_36, gR_36_0, gC_41, gR_41_0, gI_41_1, gI_41_2, gC_44, gR_44_0, gR_44_1, gI_44_2, gI_44_3, gC_49, gR_49_0, gR_49_1, gI_49_2, gI_49_3, gC_75, gI_75_0, gI_75_1, gI_75_2, gR_75_5, gI_75_6, gI_75_7, gI_75_8, gI_75_9, gI_75_10, gI_75_11, gI_75_12, gI_75_13, gL_75_14, gR_75_15, gR_75_16, gR_75_17, gR_75_18, gI_75_19, gI_75_20, gR_75_21, gR_75_22, gR_75_23, gI_75_24, gR_75_25, gI_75_26, gL_75_27, gL_75_28, gR_75_29, gR_75_30, gI_75_31, gR_75_3, gQ_75_3, gN_75_3, gR_75_4, gQ_75_4, gN_75_4, pI_0_7, pI_1_1, pI_1_5, pI_1_6, pI_1_7, pI_1_8, pI_1_9, pL_1_10, pI_1_11, pI_1_12, pI_1_13, pI_1_14, pI_30_2, pI_30_3, pI_30_4, pI_35_2, pI_41_1, pZ0_41_1, pZ1_41_1, pI_41_2, pI_44_2, pZ0_44_2, pZ1_44_2, pI_44_3, pI_49_2, pI_49_3, pI_75_0, pI_75_1, pI_75_2, pI_75_6, pI_75_7, pI_75_8, pI_75_9, pI_75_10, pI_75_11, pI_75_12, pI_75_13, pL_75_14, pI_75_19, pI_75_20, pI_75_24, pI_75_26, pL_75_27, pL_75_28, pI_75_31, Option.bind_some, q_b2_some, q_zr_0, q_zr_1, x10_fine, x10_refused, x12_good, x12_refused, cls_c0 ho hA.1.1, z0, if_true, if_false, c1, c2, ne20, m1l], ?_⟩
      intro u' v' hk hA' hc hr
      simp -implicitDefEqProofs only [f_X12_honours, f_X12_refusesDare, f_X12_in, gC_0, gR_0_0, gR_0_1, gR_0_2, gR_0_3, gR_0_4, gR_0_5, gR_0_6, gI_0_7, gR_0_8, gC_1, gR_1_0, gI_1_1, gR_1_2, gR_1_3, gR_1_4, gI_1_5, gI_1_6, gI_1_7, gI_1_8, gI_1_9, gL_1_10, gI_1_11, gI_1_12, gI_1_13, gI_1_14, gC_27, gR_27_0, gC_30, gR_30_0, gR_30_1, gI_30_2, gI_30_3, gI_30_4, gC_35, gR_35_0, gR_35_1, gI_35_2, gC_36, gR_36_0, gC_41, gR_41_0, gI_41_1, gI_41_2, gC_44, gR_44_0, gR_44_1, gI_44_2, gI_44_3, gC_49, gR_49_0, gR_49_1, gI_49_2, gI_49_3, gC_75, gI_75_0, gI_75_1, gI_75_2, gR_75_5, gI_75_6, gI_75_7, gI_75_8, gI_75_9, gI_75_10, gI_75_11, gI_75_12, gI_75_13, gL_75_14, gR_75_15, gR_75_16, gR_75_17, gR_75_18, gI_75_19, gI_75_20, gR_75_21, gR_75_22, gR_75_23, gI_75_24, gR_75_25, gI_75_26, gL_75_27, gL_75_28, gR_75_29, gR_75_30, gI_75_31, gR_75_3, gQ_75_3, gN_75_3, gR_75_4, gQ_75_4, gN_75_4, pI_0_7, pI_1_1, pI_1_5, pI_1_6, pI_1_7, pI_1_8, pI_1_9, pL_1_10, pI_1_11, pI_1_12, pI_1_13, pI_1_14, pI_30_2, pI_30_3, pI_30_4, pI_35_2, pI_41_1, pZ0_41_1, pZ1_41_1, pI_41_2, pI_44_2, pZ0_44_2, pZ1_44_2, pI_44_3, pI_49_2, pI_49_3, pI_75_0, pI_75_1, pI_75_2, pI_75_6, pI_75_7, pI_75_8, pI_75_9, pI_75_10, pI_75_11, pI_75_12, pI_75_13, pL_75_14, pI_75_19, pI_75_20, pI_75_24, pI_75_26, pL_75_27, pL_75_28, pI_75_31, Option.bind_some, q_b2_some, q_zr_0, q_zr_1, x10_fine, x10_refused, x12_good, x12_refused, reduceCtorEq, if_false, c1, c3, if_true, show ¬ (2 : Int32) ≤ 0 from by decide, m1l]
    · have hn := stD_le (c := y) 8 1 0 (by omega) (by omega)
      generalize hnn : lp (stD y) 8 1 0 = n9 at hn
      have hA1 : n9 * (100 - y) ^ n9 < 2 ^ 62 := by
        have h1 : (100 - y) ^ n9 ≤ 100 ^ 8 := Nat.le_trans (Nat.pow_le_pow_left (by omega) n9) (Nat.pow_le_pow_right (by decide) hn)
        have h2 : n9 * (100 - y) ^ n9 ≤ 8 * 100 ^ 8 := Nat.mul_le_mul hn h1
        omega
      have hB0 : 0 < 100 ^ n9 := Nat.pow_pos (by decide)
      have hB1 : 100 ^ n9 < 2 ^ 62 := by
        have : 100 ^ n9 ≤ 100 ^ 8 := Nat.pow_le_pow_right (by decide) hn
        omega
      have e1 : (nI n9).toInt64 * lN ((100 - y) ^ n9) = lN (n9 * (100 - y) ^ n9) := by rw [nI_l (by omega), lN_mul]
      have e2 := fun g => cls_pow (g := g) (x := 100) (n := n9) (by omega)
      have e3 := fun g => ref_pow (g := g) (x := 100) (n := n9) (by omega)
      rw [show lN 100 = (100 : Int64) from rfl] at e2 e3
      have e4 := fun g => cls_pow (g := g) (x := 100 - y) (n := n9) (by omega)
      have e5 := fun g => ref_pow (g := g) (x := 100 - y) (n := n9) (by omega)
      have k1 := fun g => cls_best (g := g) hy
      rw [hnn] at k1
      refine ⟨frc (n9 * (100 - y) ^ n9) (100 ^ n9) x2, 0, by decide, ?_, ?_⟩
      · simp -implicitDefEqProofs only [f_X10_honours, f_X10_whyNoDare, f_X10_noCollege, f_X1_bestMean, f_X10_fineLong, gC_0, gR_0_0, gR_0_1, gR_0_2, gR_0_3, gR_0_4, gR_0_5, gR_0_6, gI_0_7, gR_0_8, gC_1, gR_1_0, gI_1_1, gR_1_2, gR_1_3, gR_1_4, gI_1_5, gI_1_6, gI_1_7, gI_1_8, gI_1_9, gL_1_10, gI_1_11, gI_1_12, gI_1_13, gI_1_14, gC_27, gR_27_0, gC_30, gR_30_0, gR_30_1, gI_30_2, gI_30_3, gI_30_4, gC_35, gR_35_0, gR_35_1, gI_35_2, gC_36, gR_36_0, gC_41, gR_41_0, gI_41_1, gI_41_2, gC_44, gR_44_0, gR_44_1, gI_44_2, gI_44_3, gC_49, gR_49_0, gR_49_1, gI_49_2, gI_49_3, gC_75, gI_75_0, gI_75_1, gI_75_2, gR_75_5, gI_75_6, gI_75_7, gI_75_8, gI_75_9, gI_75_10, gI_75_11, gI_75_12, gI_75_13, gL_75_14, gR_75_15, gR_75_16, gR_75_17, gR_75_18, gI_75_19, gI_75_20, gR_75_21, gR_75_22, gR_75_23, gI_75_24, gR_75_25, gI_75_26, gL_75_27, gL_75_28, gR_75_29, gR_75_30, gI_75_31, gR_75_3, gQ_75_3, gN_75_3, gR_75_4, gQ_75_4, gN_75_4, pI_0_7, pI_1_1, pI_1_5, pI_1_6, pI_1_7, pI_1_8, pI_1_9, pL_1_10, pI_1_11, pI_1_12, pI_1_13, pI_1_14, pI_30_2, pI_30_3, pI_30_4, pI_35_2, pI_41_1, pZ0_41_1, pZ1_41_1, pI_41_2, pI_44_2, pZ0_44_2, pZ1_44_2, pI_44_3, pI_49_2, pI_49_3, pI_75_0, pI_75_1, pI_75_2, pI_75_6, pI_75_7, pI_75_8, pI_75_9, pI_75_10, pI_75_11, pI_75_12, pI_75_13, pL_75_14, pI_75_19, pI_75_20, pI_75_24, pI_75_26, pL_75_27, pL_75_28, pI_75_31, Option.bind_some, q_b2_some, q_zr_0, q_zr_1, x10_fine, x10_refused, x12_good, x12_refused, cls_c0 ho hA.1.1, z0, if_true, if_false, c1, c2, k1, base_c hy, e4, e2, e1, cls_part hA1 hB0 hB1]
      · intro u' v' hk hA' hc hr
        have k2 := ref_best (T := T) (D := D) (c3 := fR M) (c4 := c4) (m := m) (u := wr u' 75 0 0) (v := v') hy
        rw [hnn] at k2
        simp -implicitDefEqProofs only [f_X12_honours, f_X12_refusesDare, f_X12_in, gC_0, gR_0_0, gR_0_1, gR_0_2, gR_0_3, gR_0_4, gR_0_5, gR_0_6, gI_0_7, gR_0_8, gC_1, gR_1_0, gI_1_1, gR_1_2, gR_1_3, gR_1_4, gI_1_5, gI_1_6, gI_1_7, gI_1_8, gI_1_9, gL_1_10, gI_1_11, gI_1_12, gI_1_13, gI_1_14, gC_27, gR_27_0, gC_30, gR_30_0, gR_30_1, gI_30_2, gI_30_3, gI_30_4, gC_35, gR_35_0, gR_35_1, gI_35_2, gC_36, gR_36_0, gC_41, gR_41_0, gI_41_1, gI_41_2, gC_44, gR_44_0, gR_44_1, gI_44_2, gI_44_3, gC_49, gR_49_0, gR_49_1, gI_49_2, gI_49_3, gC_75, gI_75_0, gI_75_1, gI_75_2, gR_75_5, gI_75_6, gI_75_7, gI_75_8, gI_75_9, gI_75_10, gI_75_11, gI_75_12, gI_75_13, gL_75_14, gR_75_15, gR_75_16, gR_75_17, gR_75_18, gI_75_19, gI_75_20, gR_75_21, gR_75_22, gR_75_23, gI_75_24, gR_75_25, gI_75_26, gL_75_27, gL_75_28, gR_75_29, gR_75_30, gI_75_31, gR_75_3, gQ_75_3, gN_75_3, gR_75_4, gQ_75_4, gN_75_4, pI_0_7, pI_1_1, pI_1_5, pI_1_6, pI_1_7, pI_1_8, pI_1_9, pL_1_10, pI_1_11, pI_1_12, pI_1_13, pI_1_14, pI_30_2, pI_30_3, pI_30_4, pI_35_2, pI_41_1, pZ0_41_1, pZ1_41_1, pI_41_2, pI_44_2, pZ0_44_2, pZ1_44_2, pI_44_3, pI_49_2, pI_49_3, pI_75_0, pI_75_1, pI_75_2, pI_75_6, pI_75_7, pI_75_8, pI_75_9, pI_75_10, pI_75_11, pI_75_12, pI_75_13, pL_75_14, pI_75_19, pI_75_20, pI_75_24, pI_75_26, pL_75_27, pL_75_28, pI_75_31, Option.bind_some, q_b2_some, q_zr_0, q_zr_1, x10_fine, x10_refused, x12_good, x12_refused, reduceCtorEq, if_false, c1, c3, ne10, show (0 : Int32) ≤ 0 from by decide, if_true, k2, base_m hy, e5, e3, e1, ref_frac hA1 hB0 hB1]
end DAR
