abbrev wth (K : cK) (i : Nat) : Nat := kI K 10 i
def insF (r : Nat → Nat) (a k j : Nat) : Nat := if j < a then r j else if j = a then k else r (j - 1)
theorem ins_ok {w r : Nat → Nat} {a k : Nat} (h : Sd w r k) (ha : a ≤ k) (h1 : a = 0 ∨ w k ≤ w (r (a - 1))) (h2 : ∀ j, a ≤ j → j < k → w (r j) < w k) : Sd w (insF r a k) (k + 1) := by
  refine ⟨fun j hj => ?_, fun j hj => ?_⟩
  · unfold insF
    split
    · have := h.1 j (by omega); omega
    · split
      · omega
      · have := h.1 (j - 1) (by omega); omega
  · by_cases c1 : j + 1 < a
    · rw [show insF r a k j = r j from if_pos (by omega), show insF r a k (j + 1) = r (j + 1) from if_pos c1]
      exact h.2 j (by omega)
    · by_cases c2 : j + 1 = a
      · rw [show insF r a k j = r j from if_pos (by omega), show insF r a k (j + 1) = k by unfold insF; rw [if_neg (by omega), if_pos c2]]
        rcases h1 with h1 | h1
        · omega
        · rw [show a - 1 = j by omega] at h1
          have := h.1 j (by omega)
          exact bfr_iff.mpr (by omega)
      · by_cases c3 : j = a
        · rw [show insF r a k j = k by unfold insF; rw [if_neg (by omega), if_pos c3], show insF r a k (j + 1) = r j by unfold insF; rw [if_neg (by omega), if_neg (by omega)]; rfl]
          exact bfr_iff.mpr (Or.inl (h2 j (by omega) (by omega)))
        · rw [show insF r a k j = r (j - 1) by unfold insF; rw [if_neg (by omega), if_neg c3], show insF r a k (j + 1) = r j by unfold insF; rw [if_neg (by omega), if_neg (by omega)]; rfl]
          have := h.2 (j - 1) (by omega)
          rw [show j - 1 + 1 = j by omega] at this
          exact this
theorem Sd_ex (w : Nat → Nat) : ∀ n, ∃ r, Sd w r n := by
  intro n
  induction n with
  | zero => exact ⟨fun _ => 0, fun j hj => absurd hj (by omega), fun j hj => absurd hj (by omega)⟩
  | succ n ih =>
    obtain ⟨r, hr⟩ := ih
    have : ∀ a, a ≤ n → (∀ j, a ≤ j → j < n → w (r j) < w n) → ∃ b, b ≤ n ∧ (b = 0 ∨ w n ≤ w (r (b - 1))) ∧ ∀ j, b ≤ j → j < n → w (r j) < w n := by
      intro a
      induction a with
      | zero => intro _ h; exact ⟨0, by omega, Or.inl rfl, h⟩
      | succ a ih2 =>
        intro ha h
        by_cases c : w n ≤ w (r a)
        · exact ⟨a + 1, ha, Or.inr c, h⟩
        · refine ih2 (by omega) (fun j h1 h2 => ?_)
          by_cases cj : j = a
          · rw [cj]; omega
          · exact h j (by omega) h2
    obtain ⟨b, hb, h1, h2⟩ := this n (by omega) (fun j h1 h2 => absurd h2 (by omega))
    exact ⟨_, ins_ok hr hb h1 h2⟩
def Pc (w : Nat → Nat) (n c : Nat) : Nat := prP (rkP w n c) w n
def Sc (w : Nat → Nat) (n c : Nat) : Nat := smP (rkP w n c) w (Pc w n c) n
def stB (w : Nat → Nat) (n c b : Nat) : Nat := if (c - 1) * Pc w n c * Sc w n b ≤ (b - 1) * Pc w n b * Sc w n c then b else c
section LTA
variable {w r : Nat → Nat} {n : Nat}
theorem prP_le {p : Nat → Bool} (hw : ∀ i, i < n → 1 ≤ w i ∧ w i ≤ 60) : ∀ m, m ≤ n → 1 ≤ prP p w m ∧ prP p w m ≤ 60 ^ m := by
  intro m
  induction m with
  | zero => intro _; exact ⟨Nat.le_refl _, Nat.le_refl _⟩
  | succ m ih =>
    intro hm
    obtain ⟨h1, h2⟩ := ih (by omega)
    obtain ⟨h3, h4⟩ := hw m (by omega)
    unfold prP
    rw [Nat.pow_succ]
    split
    · exact ⟨Nat.mul_pos h1 h3, Nat.mul_le_mul h2 h4⟩
    · exact ⟨h1, Nat.le_trans h2 (by omega)⟩
theorem smP_le {p : Nat → Bool} {q : Nat} : ∀ m, smP p w q m ≤ m * q := by
  intro m
  induction m with
  | zero => exact Nat.zero_le _
  | succ m ih =>
    unfold smP
    have := Nat.div_le_self q (w m)
    rw [Nat.succ_mul]
    split <;> omega
theorem Pc_b (hn : n ≤ 4) (hw : ∀ i, i < n → 1 ≤ w i ∧ w i ≤ 60) (c : Nat) : 1 ≤ Pc w n c ∧ Pc w n c ≤ 12960000 := by
  obtain ⟨h1, h2⟩ := prP_le (p := rkP w n c) hw n (by omega)
  have h3 : 60 ^ n ≤ 60 ^ 4 := Nat.pow_le_pow_right (by decide) hn
  unfold Pc
  omega
theorem Sc_b (hn : n ≤ 4) (hw : ∀ i, i < n → 1 ≤ w i ∧ w i ≤ 60) (c : Nat) : Sc w n c ≤ 51840000 := by
  have h1 := smP_le (p := rkP w n c) (w := w) (q := Pc w n c) n
  have h2 := (Pc_b hn hw c).2
  have h3 : n * Pc w n c ≤ 4 * 12960000 := Nat.mul_le_mul hn h2
  unfold Sc
  omega
theorem Sc_pos (hn : n ≤ 4) (hw : ∀ i, i < n → 1 ≤ w i ∧ w i ≤ 60) {c : Nat} (h0 : 1 ≤ c) (hc : c ≤ n) : 0 < Sc w n c := by
  obtain ⟨r, hr⟩ := Sd_ex w n
  unfold Sc
  rw [sm_eq hr c hc]
  unfold Pc
  rw [pr_eq hr c hc]
  have h1 : ∀ k, k + 1 ≤ n → w (r 0) ≤ prM w r (k + 1) := by
    intro k
    induction k with
    | zero => intro _; unfold prM prM; omega
    | succ k ih =>
      intro hk
      have h2 := ih (by omega)
      have h3 := (hw (r (k + 1)) (hr.1 (k + 1) (by omega))).1
      show w (r 0) ≤ prM w r (k + 1) * w (r (k + 1))
      exact Nat.le_trans h2 (Nat.le_mul_of_pos_right _ h3)
  have h2 : ∀ q k, w (r 0) ≤ q → k + 1 ≤ n → 0 < smM w r q (k + 1) := by
    intro q k hq
    induction k with
    | zero =>
      intro _
      have := (hw (r 0) (hr.1 0 (by omega))).1
      show 0 < 0 + q / w (r 0)
      have := Nat.div_pos hq this
      omega
    | succ k ih =>
      intro hk
      have := ih (by omega)
      show 0 < smM w r q (k + 1) + q / w (r (k + 1))
      exact Nat.lt_of_lt_of_le this (Nat.le_add_right _ _)
  obtain ⟨k, rfl⟩ : ∃ k, c = k + 1 := ⟨c - 1, by omega⟩
  exact h2 _ k (h1 k hc) hc
end LTA
section LTB
variable {T D m M : Nat} {c3 c4 : sF} {u : mU} {v : mV} {N : Nat → Nat}
theorem tram_at (h : relC u T M N) {i : Nat} (hi : i < N 4) : tG u (T + 6) 4 2 (nI i) 1 = nI (wth (col u M) i) ∧ u (M + 10) i = nI (wth (col u M) i) ∧ 1 ≤ wth (col u M) i ∧ wth (col u M) i ≤ 60 := by
  have b4 : N 4 ≤ 4 := (bndN_of h.1).2.2.2.2.1
  obtain ⟨c, w, -, h1, h2, -, e⟩ := h.2.2.2.2.2.2.2.2.2.2.2.2.1 i hi
  have e1 : u (M + 10) i = nI w := e
  have e2 : wth (col u M) i = w := by
    show (u (M + 10) i).toNatClampNeg = w
    rw [e1, nI_clamp (by omega)]
  rw [e2]
  refine ⟨?_, e1, h1, h2⟩
  rw [show tG u (T + 6) 4 2 (nI i) 1 = u (M + 10) i from (k_tram_eq h.1 h.2.2.2.1 hi).2, e1]
theorem wth_ok (h : relC u T M N) : ∀ i, i < N 4 → 1 ≤ wth (col u M) i ∧ wth (col u M) i ≤ 60 := fun i hi => (tram_at h hi).2.2
theorem cls_rank_go {i : Nat} (ho : okTD T D) (h : relC u T M N) (hi : i < N 4) : ∀ (r j f : Nat), j + r = N 4 → r < f → L_X1_rank_15 (Rep (SH T D c3 c4 m) u v) f T (nI i) (nI (cN (fun j => bfr (wth (col u M)) j i) j)) (nI (wth (col u M) i)) (nI j) = some (nI (rk (wth (col u M)) (N 4) i)) := by
  have hC := SH_told (c3 := c3) (c4 := c4) (m := m) ho
  have b4 : N 4 ≤ 4 := (bndN_of h.1).2.2.2.2.1
  obtain ⟨-, -, i1, i2⟩ := tram_at h hi
  intro r
  induction r with
  | zero =>
    intro j f hj hf
    obtain ⟨f, rfl⟩ : ∃ f', f = f' + 1 := ⟨f - 1, by omega⟩
    have c : nI (N 4) ≤ nI j := nI_le (by omega) (by omega)
    simp -implicitDefEqProofs only [L_X1_rank_15, gC_0, gR_0_0, gR_0_1, gR_0_2, gR_0_3, gR_0_4, gR_0_5, gR_0_6, gI_0_7, gR_0_8, gC_1, gR_1_0, gI_1_1, gR_1_2, gR_1_3, gR_1_4, gI_1_5, gI_1_6, gI_1_7, gI_1_8, gI_1_9, gL_1_10, gI_1_11, gI_1_12, gI_1_13, gI_1_14, gC_27, gR_27_0, gC_30, gR_30_0, gR_30_1, gI_30_2, gI_30_3, gI_30_4, gC_35, gR_35_0, gR_35_1, gI_35_2, gC_36, gR_36_0, gC_41, gR_41_0, gI_41_1, gI_41_2, gC_44, gR_44_0, gR_44_1, gI_44_2, gI_44_3, gC_49, gR_49_0, gR_49_1, gI_49_2, gI_49_3, gC_75, gI_75_0, gI_75_1, gI_75_2, gR_75_5, gI_75_6, gI_75_7, gI_75_8, gI_75_9, gI_75_10, gI_75_11, gI_75_12, gI_75_13, gL_75_14, gR_75_15, gR_75_16, gR_75_17, gR_75_18, gI_75_19, gI_75_20, gR_75_21, gR_75_22, gR_75_23, gI_75_24, gR_75_25, gI_75_26, gL_75_27, gL_75_28, gR_75_29, gR_75_30, gI_75_31, gR_75_3, gQ_75_3, gN_75_3, gR_75_4, gQ_75_4, gN_75_4, pI_0_7, pI_1_1, pI_1_5, pI_1_6, pI_1_7, pI_1_8, pI_1_9, pL_1_10, pI_1_11, pI_1_12, pI_1_13, pI_1_14, pI_30_2, pI_30_3, pI_30_4, pI_35_2, pI_41_1, pZ0_41_1, pZ1_41_1, pI_41_2, pI_44_2, pZ0_44_2, pZ1_44_2, pI_44_3, pI_49_2, pI_49_3, pI_75_0, pI_75_1, pI_75_2, pI_75_6, pI_75_7, pI_75_8, pI_75_9, pI_75_10, pI_75_11, pI_75_12, pI_75_13, pL_75_14, pI_75_19, pI_75_20, pI_75_24, pI_75_26, pL_75_27, pL_75_28, pI_75_31, Option.bind_some, q_b2_some, q_zr_0, q_zr_1, x10_fine, x10_refused, x12_good, x12_refused, cls_c4 ho h.1, c, if_true]
    rw [show j = N 4 by omega]
    rfl
  | succ r ih =>
    intro j f hj hf
    obtain ⟨f, rfl⟩ : ∃ f', f = f' + 1 := ⟨f - 1, by omega⟩
    have c : ¬ nI (N 4) ≤ nI j := nI_ge (by omega) (by omega)
    obtain ⟨e1, -, j1, j2⟩ := tram_at h (show j < N 4 by omega)
    have nx := ih (j + 1) f (by omega) (by omega)
    rw [show cN (fun j => bfr (wth (col u M)) j i) (j + 1) = cN (fun j => bfr (wth (col u M)) j i) j + (if bfr (wth (col u M)) j i = true then 1 else 0) from rfl] at nx
    have p1 : (nI (wth (col u M) i) < nI (wth (col u M) j)) = (wth (col u M) i < wth (col u M) j) := propext (nI_ltI (by omega) (by omega))
    have p2 : (nI (wth (col u M) j) = nI (wth (col u M) i)) = (wth (col u M) j = wth (col u M) i) := propext (nI_eq (by omega) (by omega))
    have p3 : (nI i ≤ nI j) = (i ≤ j) := propext (nI_leI (by omega) (by omega))
    simp -implicitDefEqProofs only [L_X1_rank_15, gC_0, gR_0_0, gR_0_1, gR_0_2, gR_0_3, gR_0_4, gR_0_5, gR_0_6, gI_0_7, gR_0_8, gC_1, gR_1_0, gI_1_1, gR_1_2, gR_1_3, gR_1_4, gI_1_5, gI_1_6, gI_1_7, gI_1_8, gI_1_9, gL_1_10, gI_1_11, gI_1_12, gI_1_13, gI_1_14, gC_27, gR_27_0, gC_30, gR_30_0, gR_30_1, gI_30_2, gI_30_3, gI_30_4, gC_35, gR_35_0, gR_35_1, gI_35_2, gC_36, gR_36_0, gC_41, gR_41_0, gI_41_1, gI_41_2, gC_44, gR_44_0, gR_44_1, gI_44_2, gI_44_3, gC_49, gR_49_0, gR_49_1, gI_49_2, gI_49_3, gC_75, gI_75_0, gI_75_1, gI_75_2, gR_75_5, gI_75_6, gI_75_7, gI_75_8, gI_75_9, gI_75_10, gI_75_11, gI_75_12, gI_75_13, gL_75_14, gR_75_15, gR_75_16, gR_75_17, gR_75_18, gI_75_19, gI_75_20, gR_75_21, gR_75_22, gR_75_23, gI_75_24, gR_75_25, gI_75_26, gL_75_27, gL_75_28, gR_75_29, gR_75_30, gI_75_31, gR_75_3, gQ_75_3, gN_75_3, gR_75_4, gQ_75_4, gN_75_4, pI_0_7, pI_1_1, pI_1_5, pI_1_6, pI_1_7, pI_1_8, pI_1_9, pL_1_10, pI_1_11, pI_1_12, pI_1_13, pI_1_14, pI_30_2, pI_30_3, pI_30_4, pI_35_2, pI_41_1, pZ0_41_1, pZ1_41_1, pI_41_2, pI_44_2, pZ0_44_2, pZ1_44_2, pI_44_3, pI_49_2, pI_49_3, pI_75_0, pI_75_1, pI_75_2, pI_75_6, pI_75_7, pI_75_8, pI_75_9, pI_75_10, pI_75_11, pI_75_12, pI_75_13, pL_75_14, pI_75_19, pI_75_20, pI_75_24, pI_75_26, pL_75_27, pL_75_28, pI_75_31, Option.bind_some, q_b2_some, q_zr_0, q_zr_1, x10_fine, x10_refused, x12_good, x12_refused, cC, cR_0, cG_0, cR_1, cG_1, cR_2, cG_2, cR_3, cG_3, cR_4, cG_4, cR_5, cG_5, cR_6, cG_6, cR_7, cG_7, cR_8, cG_8, cR_9, cG_9, hC, cls_c4 ho h.1, c, if_false, e1, p1, p2, p3, nI_1]
    by_cases d1 : wth (col u M) i < wth (col u M) j
    · rw [if_pos (bfr_iff.mpr (Or.inl d1))] at nx
      rw [if_pos d1]
      exact nx
    · rw [if_neg d1]
      by_cases d2 : wth (col u M) j = wth (col u M) i
      · rw [if_pos d2]
        by_cases d3 : i ≤ j
        · rw [if_neg (fun z => by have := bfr_iff.mp z; omega), Nat.add_zero] at nx
          rw [if_pos d3]
          exact nx
        · rw [if_pos (bfr_iff.mpr (Or.inr ⟨d2, by omega⟩))] at nx
          rw [if_neg d3]
          exact nx
      · rw [if_neg (fun z => by have := bfr_iff.mp z; omega), Nat.add_zero] at nx
        rw [if_neg d2]
        exact nx
theorem cls_rank {i : Nat} (ho : okTD T D) (h : relC u T M N) (hi : i < N 4) : f_X1_rank (Rep (SH T D c3 c4 m) u v) T (nI i) = some (nI (rk (wth (col u M)) (N 4) i)) := by
  have hC := SH_told (c3 := c3) (c4 := c4) (m := m) ho
  have b4 : N 4 ≤ 4 := (bndN_of h.1).2.2.2.2.1
  have e := cls_rank_go (c3 := c3) (c4 := c4) (m := m) (v := v) ho h hi (N 4) 0 1000000000 (by omega) (by omega)
  rw [nI_0, show cN (fun j => bfr (wth (col u M)) j i) 0 = 0 from rfl, nI_0] at e
  simp -implicitDefEqProofs only [f_X1_rank, cC, cR_0, cG_0, cR_1, cG_1, cR_2, cG_2, cR_3, cG_3, cR_4, cG_4, cR_5, cG_5, cR_6, cG_6, cR_7, cG_7, cR_8, cG_8, cR_9, cG_9, hC, Option.bind_some, (tram_at h hi).1, e]
theorem cls_prod {c : Nat} (ho : okTD T D) (h : relC u T M N) (hc : c ≤ 10) : f_X1_product (Rep (SH T D c3 c4 m) u v) T (nI c) = some (lN (Pc (wth (col u M)) (N 4) c)) := by
  have hC := SH_told (c3 := c3) (c4 := c4) (m := m) ho
  have b4 : N 4 ≤ 4 := (bndN_of h.1).2.2.2.2.1
  have go : ∀ (r j f : Nat), j + r = N 4 → r < f → L_X1_product_5 (Rep (SH T D c3 c4 m) u v) f T (nI c) (lN (prP (rkP (wth (col u M)) (N 4) c) (wth (col u M)) j)) (nI j) = some (lN (Pc (wth (col u M)) (N 4) c)) := by
    intro r
    induction r with
    | zero =>
      intro j f hj hf
      obtain ⟨f, rfl⟩ : ∃ f', f = f' + 1 := ⟨f - 1, by omega⟩
      have c0 : nI (N 4) ≤ nI j := nI_le (by omega) (by omega)
      simp -implicitDefEqProofs only [L_X1_product_5, cls_c4 ho h.1, Option.bind_some, c0, if_true]
      rw [show j = N 4 by omega]
      rfl
    | succ r ih =>
      intro j f hj hf
      obtain ⟨f, rfl⟩ : ∃ f', f = f' + 1 := ⟨f - 1, by omega⟩
      have c0 : ¬ nI (N 4) ≤ nI j := nI_ge (by omega) (by omega)
      obtain ⟨e1, -, j1, j2⟩ := tram_at h (show j < N 4 by omega)
      have hb := rk_bound (w := wth (col u M)) (show j < N 4 by omega)
      have p1 : (nI c ≤ nI (rk (wth (col u M)) (N 4) j)) = (c ≤ rk (wth (col u M)) (N 4) j) := propext (nI_leI (by omega) (by omega))
      have nx := ih (j + 1) f (by omega) (by omega)
      rw [show prP (rkP (wth (col u M)) (N 4) c) (wth (col u M)) (j + 1) = if rkP (wth (col u M)) (N 4) c j = true then prP (rkP (wth (col u M)) (N 4) c) (wth (col u M)) j * wth (col u M) j else prP (rkP (wth (col u M)) (N 4) c) (wth (col u M)) j from rfl] at nx
      simp -implicitDefEqProofs only [L_X1_product_5, cC, cR_0, cG_0, cR_1, cG_1, cR_2, cG_2, cR_3, cG_3, cR_4, cG_4, cR_5, cG_5, cR_6, cG_6, cR_7, cG_7, cR_8, cG_8, cR_9, cG_9, hC, cls_c4 ho h.1, Option.bind_some, c0, if_false, cls_rank ho h (show j < N 4 by omega), p1, e1, nI_1]
      by_cases d1 : c ≤ rk (wth (col u M)) (N 4) j
      · rw [if_neg (fun z => absurd (of_decide_eq_true z) (by omega))] at nx
        rw [if_pos d1]
        exact nx
      · rw [if_pos (decide_eq_true (by omega))] at nx
        rw [if_neg d1, nI_l (by omega), lN_mul]
        exact nx
  have e := go (N 4) 0 1000000000 (by omega) (by omega)
  rw [nI_0] at e
  exact e
theorem cls_sum {c : Nat} (ho : okTD T D) (h : relC u T M N) (hc : c ≤ 10) : f_X1_sum (Rep (SH T D c3 c4 m) u v) T (nI c) = some (lN (Sc (wth (col u M)) (N 4) c)) := by
  have hC := SH_told (c3 := c3) (c4 := c4) (m := m) ho
  have b4 : N 4 ≤ 4 := (bndN_of h.1).2.2.2.2.1
  have hP := Pc_b b4 (wth_ok h) c
  have go : ∀ (r j f : Nat), j + r = N 4 → r < f → L_X1_sum_12 (Rep (SH T D c3 c4 m) u v) f T (nI c) (lN (Pc (wth (col u M)) (N 4) c)) (lN (smP (rkP (wth (col u M)) (N 4) c) (wth (col u M)) (Pc (wth (col u M)) (N 4) c) j)) (nI j) = some (lN (Sc (wth (col u M)) (N 4) c)) := by
    intro r
    induction r with
    | zero =>
      intro j f hj hf
      obtain ⟨f, rfl⟩ : ∃ f', f = f' + 1 := ⟨f - 1, by omega⟩
      have c0 : nI (N 4) ≤ nI j := nI_le (by omega) (by omega)
      simp -implicitDefEqProofs only [L_X1_sum_12, cls_c4 ho h.1, Option.bind_some, c0, if_true]
      rw [show j = N 4 by omega]
      rfl
    | succ r ih =>
      intro j f hj hf
      obtain ⟨f, rfl⟩ : ∃ f', f = f' + 1 := ⟨f - 1, by omega⟩
      have c0 : ¬ nI (N 4) ≤ nI j := nI_ge (by omega) (by omega)
      obtain ⟨e1, -, j1, j2⟩ := tram_at h (show j < N 4 by omega)
      have hb := rk_bound (w := wth (col u M)) (show j < N 4 by omega)
      have p1 : (nI c ≤ nI (rk (wth (col u M)) (N 4) j)) = (c ≤ rk (wth (col u M)) (N 4) j) := propext (nI_leI (by omega) (by omega))
      have p2 : ¬ nI (wth (col u M) j) ≤ 0 := nI_nle (by omega) (by omega)
      have p3 : ¬ lN (wth (col u M) j) = 0 := lN_ne0 (by omega) (by omega)
      have nx := ih (j + 1) f (by omega) (by omega)
      rw [show smP (rkP (wth (col u M)) (N 4) c) (wth (col u M)) (Pc (wth (col u M)) (N 4) c) (j + 1) = if rkP (wth (col u M)) (N 4) c j = true then smP (rkP (wth (col u M)) (N 4) c) (wth (col u M)) (Pc (wth (col u M)) (N 4) c) j + Pc (wth (col u M)) (N 4) c / wth (col u M) j else smP (rkP (wth (col u M)) (N 4) c) (wth (col u M)) (Pc (wth (col u M)) (N 4) c) j from rfl] at nx
      simp -implicitDefEqProofs only [L_X1_sum_12, cC, cR_0, cG_0, cR_1, cG_1, cR_2, cG_2, cR_3, cG_3, cR_4, cG_4, cR_5, cG_5, cR_6, cG_6, cR_7, cG_7, cR_8, cG_8, cR_9, cG_9, hC, cls_c4 ho h.1, Option.bind_some, c0, if_false, cls_rank ho h (show j < N 4 by omega), p1, e1, p2, nI_1]
      by_cases d1 : c ≤ rk (wth (col u M)) (N 4) j
      · rw [if_neg (fun z => absurd (of_decide_eq_true z) (by omega))] at nx
        rw [if_pos d1]
        exact nx
      · rw [if_pos (decide_eq_true (by omega))] at nx
        rw [if_neg d1, nI_l (by omega), if_neg p3, pk_lDiv (by omega) (by omega) (by omega), lN_add]
        exact nx
  have e := go (N 4) 0 1000000000 (by omega) (by omega)
  rw [nI_0, show smP (rkP (wth (col u M)) (N 4) c) (wth (col u M)) (Pc (wth (col u M)) (N 4) c) 0 = 0 from rfl, lN_0] at e
  unfold f_X1_sum
  rw [cls_prod ho h hc, Option.bind_some]
  exact e
theorem m1_l {c : Nat} (h1 : 1 ≤ c) (hc : c ≤ 10) : (nI c - 1).toInt64 = lN (c - 1) := by
  obtain ⟨k, rfl⟩ : ∃ k, c = k + 1 := ⟨c - 1, by omega⟩
  rw [nI_pred, nI_l (by omega)]
  rfl
theorem cmp_eq {w : Nat → Nat} {n b c : Nat} (hn : n ≤ 4) (hw : ∀ i, i < n → 1 ≤ w i ∧ w i ≤ 60) (hb : b ≤ 10) (hc : c ≤ 10) : (lN ((c - 1) * Pc w n c * Sc w n b) ≤ lN ((b - 1) * Pc w n b * Sc w n c)) = ((c - 1) * Pc w n c * Sc w n b ≤ (b - 1) * Pc w n b * Sc w n c) := by
  have bound : ∀ x y, x ≤ 10 → (x - 1) * Pc w n x * Sc w n y ≤ 10 * 12960000 * 51840000 := fun x y hx => Nat.mul_le_mul (Nat.mul_le_mul (by omega) (Pc_b hn hw x).2) (Sc_b hn hw y)
  have h1 := bound c b hc
  have h2 := bound b c hb
  exact propext (pk_lLE (by omega) (by omega))
theorem cls_bcount (ho : okTD T D) (h : relC u T M N) : ∀ (r c f b : Nat), c + r = N 4 + 1 → r < f → 1 ≤ b → b ≤ 4 → 2 ≤ c → L_X1_bestCount_4 (Rep (SH T D c3 c4 m) u v) f T (nI b) (nI c) = some (nI (lp (stB (wth (col u M)) (N 4)) r c b)) := by
  have b4 : N 4 ≤ 4 := (bndN_of h.1).2.2.2.2.1
  intro r
  induction r with
  | zero =>
    intro c f b hc hf hb hb4 hc2
    obtain ⟨f, rfl⟩ : ∃ f', f = f' + 1 := ⟨f - 1, by omega⟩
    have c0 : nI (N 4) < nI c := nI_lt (by omega) (by omega)
    rw [L_X1_bestCount_4, cls_c4 ho h.1, Option.bind_some, if_pos c0]
    rfl
  | succ r ih =>
    intro c f b hc hf hb hb4 hc2
    obtain ⟨f, rfl⟩ : ∃ f', f = f' + 1 := ⟨f - 1, by omega⟩
    have c0 : ¬ nI (N 4) < nI c := nI_nlt (by omega) (by omega)
    rw [L_X1_bestCount_4, cls_c4 ho h.1, Option.bind_some, if_neg c0, cls_prod ho h (by omega), Option.bind_some, cls_prod ho h (by omega), Option.bind_some, cls_sum ho h (by omega), Option.bind_some, cls_sum ho h (by omega), Option.bind_some, m1_l (by omega) (by omega), m1_l (by omega) (by omega), lN_mul, lN_mul, lN_mul, lN_mul, nI_1]
    simp -implicitDefEqProofs only [cmp_eq b4 (wth_ok h) (show b ≤ 10 by omega) (show c ≤ 10 by omega), lp]
    by_cases d1 : (c - 1) * Pc (wth (col u M)) (N 4) c * Sc (wth (col u M)) (N 4) b ≤ (b - 1) * Pc (wth (col u M)) (N 4) b * Sc (wth (col u M)) (N 4) c
    · rw [if_pos d1, show stB (wth (col u M)) (N 4) c b = b from if_pos d1]
      exact ih (c + 1) f b (by omega) (by omega) hb hb4 (by omega)
    · rw [if_neg d1, show stB (wth (col u M)) (N 4) c b = c from if_neg d1]
      exact ih (c + 1) f c (by omega) (by omega) (by omega) (by omega) (by omega)
theorem stB_le {w : Nat → Nat} {n : Nat} : ∀ (r c b : Nat), c + r = n + 1 → 1 ≤ b → b ≤ n → 2 ≤ c → 1 ≤ lp (stB w n) r c b ∧ lp (stB w n) r c b ≤ n := by
  intro r
  induction r with
  | zero => intro c b _ h1 h2 _; exact ⟨h1, h2⟩
  | succ r ih =>
    intro c b hc h1 h2 h3
    simp -implicitDefEqProofs only [lp]
    unfold stB
    by_cases d : (c - 1) * Pc w n c * Sc w n b ≤ (b - 1) * Pc w n b * Sc w n c
    · rw [if_pos d]
      exact ih (c + 1) b (by omega) h1 h2 (by omega)
    · rw [if_neg d]
      exact ih (c + 1) c (by omega) (by omega) (by omega) (by omega)
abbrev Bc (K : cK) (n : Nat) : Nat := lp (stB (wth K) n) (n - 1) 2 1
theorem cls_bc (ho : okTD T D) (h : relC u T M N) (h1 : 1 ≤ N 4) : f_X1_bestCount (Rep (SH T D c3 c4 m) u v) T = some (nI (Bc (col u M) (N 4))) := cls_bcount ho h (N 4 - 1) 2 1000000000 1 (by omega) (by have := (bndN_of h.1).2.2.2.2.1; omega) (by omega) (by omega) (by omega)
end LTB
