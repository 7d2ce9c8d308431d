/-! ===== nearness as a number ===== -/
def nrN (X Y kd h : Nat) : Nat := min 100 (if kd = 3 then (X + 5 * h - Y) * 2 else X + 5 * h - Y)
theorem pos_sub {a b : Nat} (ha : a < 2 ^ 30) (hb : b < 2 ^ 30) : m_pos (nI a - nI b) = nI (a - b) := by
  unfold m_pos
  by_cases c : b ≤ a
  · rw [pk_sub c, if_pos (nI_pos' (by omega))]
  · rw [if_neg (Int32.not_le.mpr (pk_sneg hb (by omega))), show a - b = 0 by omega, nI_0]
theorem clipN {x : Nat} (hx : x < 2 ^ 31) : (if nI x ≤ 100 then nI x else 100) = nI (min 100 x) := by
  by_cases c4 : x ≤ 100
  · have c5 : nI x ≤ 100 := nI_le (b := 100) c4 (by decide)
    rw [if_pos c5, Nat.min_eq_right c4]
  · have c5 : ¬ nI x ≤ 100 := nI_ge (a := 100) (by omega) hx
    rw [if_neg c5, Nat.min_eq_left (by omega)]
    rfl
theorem near_N {K : cK} {N : Nat → Nat} (h : bndC K N) {g t p tr : Nat} (hg : g < N 5) (ht : t < N 2) (hp : p < N 3) (htr : tr < N 4) : ∃ X Y kd, ∀ a, a ≤ 10 → s_near K g t p tr (nI a) = nI (nrN X Y kd a) := by
  obtain ⟨s, wt, hs, hwt, e1, e2⟩ := h.1 t ht
  obtain ⟨kd, r, w, hkd, hr, hw, e3, e4, e5⟩ := h.2.1 p hp
  obtain ⟨c, wo, hc, -, -, e6, -⟩ := h.2.2.1 tr htr
  obtain ⟨sk, hsk, e7⟩ := h.2.2.2 g hg
  have hbon : ∃ b, b ≤ 10 ∧ (if K 1 t = 1 then (3 : Int32) else if K 1 t = 2 then 10 else 0) = nI b := by
    split
    · exact ⟨3, by decide, rfl⟩
    · split
      · exact ⟨10, by decide, rfl⟩
      · exact ⟨0, by decide, rfl⟩
  obtain ⟨b, hb, eb⟩ := hbon
  refine ⟨w + wt + b, c + sk + (if kd = 1 then 20 else 0), kd, fun a ha => ?_⟩
  have hB : (if kd = 1 then 20 else 0) ≤ 20 := by split <;> omega
  have e8 : ((((nI w + nI wt) + nI b) + (5 * nI a)) - nI c) - nI sk = nI (w + wt + b + 5 * a) - nI (c + sk) := by
    rw [show (5 : Int32) = nI 5 from rfl, nI_mul, nI_add, nI_add, nI_add, ← nI_add c sk]
    simp -implicitDefEqProofs only [Int32.sub_eq_add_neg, Int32.neg_add]
    ac_rfl
  have e9 : k_bish (nI kd) (nI (w + wt + b + 5 * a) - nI (c + sk)) = nI (w + wt + b + 5 * a) - nI (c + sk + (if kd = 1 then 20 else 0)) := by
    unfold k_bish
    by_cases c1 : kd = 1
    · rw [if_pos (by rw [c1]; rfl), if_pos c1, ← nI_add (c + sk) 20, show (-20 : Int32) = -(nI 20) from rfl]
      simp -implicitDefEqProofs only [Int32.sub_eq_add_neg, Int32.neg_add]
      ac_rfl
    · have c2 : ¬ nI kd = 1 := fun z => c1 ((nI_eq (a := kd) (b := 1) (by omega) (by omega)).mp z)
      rw [if_neg c2, if_neg c1, Nat.add_zero]
  unfold s_near
  rw [e5, e2, eb, e6, e7, e3, e8, e9, pos_sub (by omega) (by omega)]
  generalize hY : c + sk + (if kd = 1 then 20 else 0) = Y
  unfold m_clip nrN
  by_cases c3 : kd = 3
  · have c4 : nI kd = 3 := by rw [c3]; rfl
    rw [if_pos c4, if_pos c3, show (2 : Int32) = nI 2 from rfl, nI_mul, clipN (by omega)]
  · have c4 : ¬ nI kd = 3 := fun z => c3 ((nI_eq (a := kd) (b := 3) (by omega) (by omega)).mp z)
    rw [if_neg c4, if_neg c3, clipN (by omega)]
/-! ===== the limit ===== -/
def exN (K : cK) (k : Nat) : Nat := (s_near K (kI K 17 k) (kI K 18 k) (kI K 19 k) (kI K 20 k) 0).toNatClampNeg
def exC (K : cK) (k : Nat) : Bool := decide (K 21 k = 1)
def lsF (K : cK) : Nat → Nat
  | 0 => 0
  | n + 1 => if exC K n = true then lsF K n else max (lsF K n) (exN K n)
def grF (K : cK) : Nat → Nat
  | 0 => 101
  | n + 1 => if exC K n = true then min (grF K n) (exN K n) else grF K n
section LIM
variable {T D m M : Nat} {c3 c4 : sF} {u : mU} {v : mV} {N : Nat → Nat} {k : Nat}
theorem lim_iff (K : cK) (L : Nat) : ∀ n, L ≤ 100 → ((∀ k, k < n → (decide (L < exN K k) = exC K k)) ↔ (lsF K n ≤ L ∧ L < grF K n)) := by
  intro n hL
  induction n with
  | zero =>
    refine ⟨fun _ => ?_, fun _ k hk => absurd hk (by omega)⟩
    unfold lsF grF
    omega
  | succ n ih =>
    unfold lsF grF
    constructor
    · intro h
      have h1 := ih.mp (fun k hk => h k (by omega))
      have h2 := h n (by omega)
      cases c : exC K n with
      | true =>
        rw [c] at h2
        have := of_decide_eq_true h2
        rw [if_pos rfl, if_pos rfl]
        omega
      | false =>
        rw [c] at h2
        have := of_decide_eq_false h2
        rw [if_neg (by decide), if_neg (by decide)]
        omega
    · intro h k hk
      cases c : exC K n with
      | true =>
        rw [c, if_pos rfl, if_pos rfl] at h
        by_cases ck : k = n
        · subst ck
          rw [c]
          exact decide_eq_true (by omega)
        · exact ih.mpr (by omega) k (by omega)
      | false =>
        rw [c, if_neg (by decide), if_neg (by decide)] at h
        by_cases ck : k = n
        · subst ck
          rw [c]
          exact decide_eq_false (by omega)
        · exact ih.mpr (by omega) k (by omega)
theorem exam_at (h : relC u T M N) (hk : k < N 9) : ∃ g t p r, g < N 5 ∧ t < N 2 ∧ p < N 3 ∧ r < N 4 ∧ u (M + 17) k = nI g ∧ u (M + 18) k = nI t ∧ u (M + 19) k = nI p ∧ u (M + 20) k = nI r ∧ tG u (T + 14) 8 5 (nI k) 0 = nI g ∧ tG u (T + 14) 8 5 (nI k) 1 = nI t ∧ tG u (T + 14) 8 5 (nI k) 2 = nI p ∧ tG u (T + 14) 8 5 (nI k) 3 = nI r ∧ s_near (col u M) g t p r 0 = nI (exN (col u M) k) ∧ exN (col u M) k ≤ 100 ∧ ((exC (col u M) k = true ∧ u (M + 21) k = 1 ∧ tG u (T + 14) 8 5 (nI k) 4 = 0) ∨ (exC (col u M) k = false ∧ u (M + 21) k = 0 ∧ tG u (T + 14) 8 5 (nI k) 4 = 1)) := by
  have hb := bndN_of h.1
  have b9 : N 9 ≤ 8 := hb.2.2.2.2.2.2.2.2.2
  have b5 : N 5 ≤ 3 := hb.2.2.2.2.2.1
  have b2 : N 2 ≤ 4 := hb.2.2.1
  have b3 : N 3 ≤ 5 := hb.2.2.2.1
  have b4 : N 4 ≤ 4 := hb.2.2.2.2.1
  obtain ⟨⟨g, hg, e1⟩, ⟨t, ht, e2⟩, ⟨p, hp, e3⟩, ⟨r, hr, e4⟩, f1, f2, f3, f4, f5⟩ := h.2.2.2.2.2.2.2.2.2.1 k hk
  have z : ∀ (i x : Nat) , x < 100 → u (M + i) k = nI x → kI (col u M) i k = x := by
    intro i x hx hh
    show (u (M + i) k).toNatClampNeg = x
    rw [hh, nI_clamp (by omega)]
  obtain ⟨X, Y, kd, hn⟩ := near_N h.2.2.2.2.2.2.2.2.2.2 hg ht hp hr
  have hn := hn 0 (by decide)
  rw [nI_0] at hn
  have hle : nrN X Y kd 0 ≤ 100 := by unfold nrN; omega
  have hx : exN (col u M) k = nrN X Y kd 0 := by
    unfold exN
    rw [z 17 g (by omega) e1, z 18 t (by omega) e2, z 19 p (by omega) e3, z 20 r (by omega) e4, hn, nI_clamp (by omega)]
  refine ⟨g, t, p, r, hg, ht, hp, hr, e1, e2, e3, e4, ?_, ?_, ?_, ?_, by rw [hx, hn], by rw [hx]; exact hle, ?_⟩
  · show tG u (T + 14) 8 5 (nI k) (nI 0) = _
    rw [tG_in (by decide) (by decide) (by omega) (by decide), f1, e1]
  · show tG u (T + 14) 8 5 (nI k) (nI 1) = _
    rw [tG_in (by decide) (by decide) (by omega) (by decide), f2, e2]
  · show tG u (T + 14) 8 5 (nI k) (nI 2) = _
    rw [tG_in (by decide) (by decide) (by omega) (by decide), f3, e3]
  · show tG u (T + 14) 8 5 (nI k) (nI 3) = _
    rw [tG_in (by decide) (by decide) (by omega) (by decide), f4, e4]
  · have f6 : tG u (T + 14) 8 5 (nI k) 4 = u (T + 14) (k * 5 + 4) := by
      show tG u (T + 14) 8 5 (nI k) (nI 4) = _
      rw [tG_in (by decide) (by decide) (by omega) (by decide)]
    rw [f6]
    rcases f5 with ⟨a1, a2⟩ | ⟨a1, a2⟩
    · exact Or.inl ⟨decide_eq_true a2, a2, a1⟩
    · refine Or.inr ⟨decide_eq_false ?_, a2, a1⟩
      show ¬ u (M + 21) k = 1
      rw [a2]
      decide
theorem mx_N {a b : Nat} (ha : a < 2 ^ 31) (hb : b < 2 ^ 31) : q_mx (nI a) (nI b) = nI (max a b) := by
  unfold q_mx
  by_cases c : a < b
  · rw [if_pos (nI_lt c hb), Nat.max_eq_right (by omega)]
  · rw [if_neg (nI_nlt (by omega) ha), Nat.max_eq_left (by omega)]
theorem mn_N1 {a b : Nat} (ha : a < 2 ^ 20) (hb : b < 2 ^ 20) : q_mn (nI a - 1) (nI b - 1) = nI (min a b) - 1 := by
  have hlt : (nI b - 1 < nI a - 1) ↔ b < a := by
    rw [Int32.lt_iff_toInt_lt, show (1 : Int32) = nI 1 from rfl, pk_sub_toInt (by omega) (by omega), pk_sub_toInt (by omega) (by omega)]
    omega
  unfold q_mn
  by_cases c : b < a
  · rw [if_pos (hlt.mpr c), Nat.min_eq_right (by omega)]
  · rw [if_neg (fun z => c (hlt.mp z)), Nat.min_eq_left (by omega)]
theorem ls_le (h : relC u T M N) : ∀ n, n ≤ N 9 → lsF (col u M) n ≤ 100 ∧ grF (col u M) n ≤ 101 := by
  intro n
  induction n with
  | zero => intro _; unfold lsF grF; omega
  | succ n ih =>
    intro hn
    have := ih (by omega)
    obtain ⟨g, t, p, r, hg, ht, hp, hr, e1, e2, e3, e4, f1, f2, f3, f4, q1, q2, q3⟩ := exam_at h (show n < N 9 by omega)
    unfold lsF grF
    split <;> omega
theorem cls_limit {kk : Nat → Int32 → Int32 → Int32 → qS → Option (Int32 × qS)} {x : Int32} (ho : okTD T D) (h : relC u T M N) : ∀ (r i f : Nat), i + r = N 9 → r < f → L_X10_limit_21 kk f 0 x (nI (lsF (col u M) i)) (nI (grF (col u M) i) - 1) (nI i) (Rep (SH T D c3 c4 m) u v) = kk 0 x (nI (lsF (col u M) (N 9))) (nI (grF (col u M) (N 9)) - 1) (Rep (SH T D c3 c4 m) u v) := by
  have hC := SH_told (c3 := c3) (c4 := c4) (m := m) ho
  have hb := bndN_of h.1
  have b9 : N 9 ≤ 8 := hb.2.2.2.2.2.2.2.2.2
  intro r
  induction r with
  | zero =>
    intro i f hi hf
    obtain ⟨f, rfl⟩ : ∃ f', f = f' + 1 := ⟨f - 1, by omega⟩
    have c : nI (N 9) ≤ nI i := nI_le (by omega) (by omega)
    simp -implicitDefEqProofs only [L_X10_limit_21, gC_0, gR_0_0, gR_0_1, gR_0_2, gR_0_3, gR_0_4, gR_0_5, gR_0_6, gI_0_7, gR_0_8, gC_1, gR_1_0, gI_1_1, gR_1_2, gR_1_3, gR_1_4, gI_1_5, gI_1_6, gI_1_7, gI_1_8, gI_1_9, gL_1_10, gI_1_11, gI_1_12, gI_1_13, gI_1_14, gC_27, gR_27_0, gC_30, gR_30_0, gR_30_1, gI_30_2, gI_30_3, gI_30_4, gC_35, gR_35_0, gR_35_1, gI_35_2, gC_36, gR_36_0, gC_41, gR_41_0, gI_41_1, gI_41_2, gC_44, gR_44_0, gR_44_1, gI_44_2, gI_44_3, gC_49, gR_49_0, gR_49_1, gI_49_2, gI_49_3, gC_75, gI_75_0, gI_75_1, gI_75_2, gR_75_5, gI_75_6, gI_75_7, gI_75_8, gI_75_9, gI_75_10, gI_75_11, gI_75_12, gI_75_13, gL_75_14, gR_75_15, gR_75_16, gR_75_17, gR_75_18, gI_75_19, gI_75_20, gR_75_21, gR_75_22, gR_75_23, gI_75_24, gR_75_25, gI_75_26, gL_75_27, gL_75_28, gR_75_29, gR_75_30, gI_75_31, gR_75_3, gQ_75_3, gN_75_3, gR_75_4, gQ_75_4, gN_75_4, pI_0_7, pI_1_1, pI_1_5, pI_1_6, pI_1_7, pI_1_8, pI_1_9, pL_1_10, pI_1_11, pI_1_12, pI_1_13, pI_1_14, pI_30_2, pI_30_3, pI_30_4, pI_35_2, pI_41_1, pZ0_41_1, pZ1_41_1, pI_41_2, pI_44_2, pZ0_44_2, pZ1_44_2, pI_44_3, pI_49_2, pI_49_3, pI_75_0, pI_75_1, pI_75_2, pI_75_6, pI_75_7, pI_75_8, pI_75_9, pI_75_10, pI_75_11, pI_75_12, pI_75_13, pL_75_14, pI_75_19, pI_75_20, pI_75_24, pI_75_26, pL_75_27, pL_75_28, pI_75_31, Option.bind_some, q_b2_some, q_zr_0, q_zr_1, x10_fine, x10_refused, x12_good, x12_refused, cls_c9 ho h.1, c, if_true]
    rw [show i = N 9 by omega]
  | succ r ih =>
    intro i f hi hf
    obtain ⟨f, rfl⟩ : ∃ f', f = f' + 1 := ⟨f - 1, by omega⟩
    have c : ¬ nI (N 9) ≤ nI i := nI_ge (by omega) (by omega)
    obtain ⟨g, t, p, r', hg, ht, hp, hr, e1, e2, e3, e4, f1, f2, f3, f4, q1, q2, q3⟩ := exam_at h (show i < N 9 by omega)
    have hls := ls_le h i (by omega)
    have en := near_eq (x := 0) h.1 h.2.1 h.2.2.1 h.2.2.2.1 h.2.2.2.2.1 hg ht hp hr
    rw [m_near_s, q1] at en
    have nx := ih (i + 1) f (by omega) (by omega)
    rcases q3 with ⟨a1, a2, a3⟩ | ⟨a1, a2, a3⟩
    · rw [show lsF (col u M) (i + 1) = lsF (col u M) i by unfold lsF; rw [a1, if_pos rfl]; cases i <;> rfl, show grF (col u M) (i + 1) = min (grF (col u M) i) (exN (col u M) i) from if_pos a1] at nx
      simp -implicitDefEqProofs only [L_X10_limit_21, f_X3_examNearness, f_X3_examCaught, gC_0, gR_0_0, gR_0_1, gR_0_2, gR_0_3, gR_0_4, gR_0_5, gR_0_6, gI_0_7, gR_0_8, gC_1, gR_1_0, gI_1_1, gR_1_2, gR_1_3, gR_1_4, gI_1_5, gI_1_6, gI_1_7, gI_1_8, gI_1_9, gL_1_10, gI_1_11, gI_1_12, gI_1_13, gI_1_14, gC_27, gR_27_0, gC_30, gR_30_0, gR_30_1, gI_30_2, gI_30_3, gI_30_4, gC_35, gR_35_0, gR_35_1, gI_35_2, gC_36, gR_36_0, gC_41, gR_41_0, gI_41_1, gI_41_2, gC_44, gR_44_0, gR_44_1, gI_44_2, gI_44_3, gC_49, gR_49_0, gR_49_1, gI_49_2, gI_49_3, gC_75, gI_75_0, gI_75_1, gI_75_2, gR_75_5, gI_75_6, gI_75_7, gI_75_8, gI_75_9, gI_75_10, gI_75_11, gI_75_12, gI_75_13, gL_75_14, gR_75_15, gR_75_16, gR_75_17, gR_75_18, gI_75_19, gI_75_20, gR_75_21, gR_75_22, gR_75_23, gI_75_24, gR_75_25, gI_75_26, gL_75_27, gL_75_28, gR_75_29, gR_75_30, gI_75_31, gR_75_3, gQ_75_3, gN_75_3, gR_75_4, gQ_75_4, gN_75_4, pI_0_7, pI_1_1, pI_1_5, pI_1_6, pI_1_7, pI_1_8, pI_1_9, pL_1_10, pI_1_11, pI_1_12, pI_1_13, pI_1_14, pI_30_2, pI_30_3, pI_30_4, pI_35_2, pI_41_1, pZ0_41_1, pZ1_41_1, pI_41_2, pI_44_2, pZ0_44_2, pZ1_44_2, pI_44_3, pI_49_2, pI_49_3, pI_75_0, pI_75_1, pI_75_2, pI_75_6, pI_75_7, pI_75_8, pI_75_9, pI_75_10, pI_75_11, pI_75_12, pI_75_13, pL_75_14, pI_75_19, pI_75_20, pI_75_24, pI_75_26, pL_75_27, pL_75_28, pI_75_31, Option.bind_some, q_b2_some, q_zr_0, q_zr_1, x10_fine, x10_refused, x12_good, x12_refused, cC, cR_0, cG_0, cR_1, cG_1, cR_2, cG_2, cR_3, cG_3, cR_4, cG_4, cR_5, cG_5, cR_6, cG_6, cR_7, cG_7, cR_8, cG_8, cR_9, cG_9, hC, cls_c9 ho h.1, c, if_false, f1, f2, f3, f4, col_near hC, en, a3, if_true, ne10, nI_1, mn_N1 (show grF (col u M) i < 2 ^ 20 by omega) (show exN (col u M) i < 2 ^ 20 by omega)]
      exact nx
    · rw [show lsF (col u M) (i + 1) = max (lsF (col u M) i) (exN (col u M) i) from if_neg (by rw [a1]; decide), show grF (col u M) (i + 1) = grF (col u M) i from if_neg (by rw [a1]; decide)] at nx
      simp -implicitDefEqProofs only [L_X10_limit_21, f_X3_examNearness, f_X3_examCaught, gC_0, gR_0_0, gR_0_1, gR_0_2, gR_0_3, gR_0_4, gR_0_5, gR_0_6, gI_0_7, gR_0_8, gC_1, gR_1_0, gI_1_1, gR_1_2, gR_1_3, gR_1_4, gI_1_5, gI_1_6, gI_1_7, gI_1_8, gI_1_9, gL_1_10, gI_1_11, gI_1_12, gI_1_13, gI_1_14, gC_27, gR_27_0, gC_30, gR_30_0, gR_30_1, gI_30_2, gI_30_3, gI_30_4, gC_35, gR_35_0, gR_35_1, gI_35_2, gC_36, gR_36_0, gC_41, gR_41_0, gI_41_1, gI_41_2, gC_44, gR_44_0, gR_44_1, gI_44_2, gI_44_3, gC_49, gR_49_0, gR_49_1, gI_49_2, gI_49_3, gC_75, gI_75_0, gI_75_1, gI_75_2, gR_75_5, gI_75_6, gI_75_7, gI_75_8, gI_75_9, gI_75_10, gI_75_11, gI_75_12, gI_75_13, gL_75_14, gR_75_15, gR_75_16, gR_75_17, gR_75_18, gI_75_19, gI_75_20, gR_75_21, gR_75_22, gR_75_23, gI_75_24, gR_75_25, gI_75_26, gL_75_27, gL_75_28, gR_75_29, gR_75_30, gI_75_31, gR_75_3, gQ_75_3, gN_75_3, gR_75_4, gQ_75_4, gN_75_4, pI_0_7, pI_1_1, pI_1_5, pI_1_6, pI_1_7, pI_1_8, pI_1_9, pL_1_10, pI_1_11, pI_1_12, pI_1_13, pI_1_14, pI_30_2, pI_30_3, pI_30_4, pI_35_2, pI_41_1, pZ0_41_1, pZ1_41_1, pI_41_2, pI_44_2, pZ0_44_2, pZ1_44_2, pI_44_3, pI_49_2, pI_49_3, pI_75_0, pI_75_1, pI_75_2, pI_75_6, pI_75_7, pI_75_8, pI_75_9, pI_75_10, pI_75_11, pI_75_12, pI_75_13, pL_75_14, pI_75_19, pI_75_20, pI_75_24, pI_75_26, pL_75_27, pL_75_28, pI_75_31, Option.bind_some, q_b2_some, q_zr_0, q_zr_1, x10_fine, x10_refused, x12_good, x12_refused, cC, cR_0, cG_0, cR_1, cG_1, cR_2, cG_2, cR_3, cG_3, cR_4, cG_4, cR_5, cG_5, cR_6, cG_6, cR_7, cG_7, cR_8, cG_8, cR_9, cG_9, hC, cls_c9 ho h.1, c, if_false, f1, f2, f3, f4, col_near hC, en, a3, ne10, if_true, nI_1, mx_N (show lsF (col u M) i < 2 ^ 31 by omega) (show exN (col u M) i < 2 ^ 31 by omega)]
      exact nx
end LIM
