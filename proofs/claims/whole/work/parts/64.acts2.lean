section ACE
variable {P Q : cP} {α : Type} {T D m M k0 : Nat} {c3 c4 : sF} {u : mU} {v v' : mV} {N : Nat → Nat}
theorem end0 [DecidableEq α] {f10 f12 : qS → Option (α × qS)} {A : α} {t : Int32} (ho : okTD T D) (h3 : okC m c3) (h4 : okC m c4) (hK : IK P Q T c3 m u) (ht4 : t ≠ 4) (e1 : f10 (Rep (SH T D c3 c4 m) u v) = some (A, Rep (SH T D c3 c4 m) (wr u 0 7 t) v)) (e2 : ∀ u', f12 (Rep (SH T D c3 c4 m) u' v) = f12 (Rep (SH T D c3 c4 m) u' v) → keep u (wr u' 75 0 0) → u' = wr u 0 7 t → f12 (Rep (SH T D c3 c4 m) u' v) = some (A, Rep (SH T D c3 c4 m) (wr (wr (wr u' 75 0 0) 75 1 t) 75 2 (-1)) v)) : ∃ g', (q_b2 (f10 (Rep (SH T D c3 c4 m) u v)) fun r1 g1 => q_b2 (f12 g1) fun r2 g2 => if r1 = r2 then some g2 else none) = some g' ∧ Inv P Q g' (88 + 25 * m) := by
  refine ⟨_, by rw [e1, q_b2_some, e2 _ rfl (keep_wr (keep_wr keep_refl rfl) rfl) rfl, q_b2_some, if_pos rfl], Inv_mk ho h3 h4 hK (keep_wr (keep_wr (keep_wr (keep_wr keep_refl rfl) rfl) rfl) rfl) ⟨?_, ?_⟩⟩
  · rw [wr_ix (q := 75) (j := 1) (by decide), wr_same, wr_role (q := 0) (by decide), wr_role (q := 0) (by decide), wr_role (q := 0) (by decide), wr_same]
  · rw [wr_same, wr_role (q := 0) (by decide), wr_role (q := 0) (by decide), wr_role (q := 0) (by decide), wr_same, if_neg ht4]
theorem end1 [DecidableEq α] {f10 f12 : qS → Option (α × qS)} {A : α} {g g1 g2 : qS} {n : Nat} (e1 : f10 g = some (A, g1)) (e2 : f12 g1 = some (A, g2)) (h : Inv P Q g2 n) : ∃ g', (q_b2 (f10 g) fun r1 g1 => q_b2 (f12 g1) fun r2 g2 => if r1 = r2 then some g2 else none) = some g' ∧ Inv P Q g' n := ⟨g2, by rw [e1, q_b2_some, e2, q_b2_some, if_pos rfl], h⟩
/-- an act that is kept: both sides push, then put their new row -/
theorem act_end {a k q : Nat} {fC fM : Nat → Int32} (ho : okTD T D) (h4 : okC m c4) (hk0 : k0 < m) (hm : M = 88 + k0 * 25) (hB : IB u) (hA : IA T M N u) (hW : IW P Q M N u) (ha : a < 16) (hk : k ≤ 16) (hq : q ≤ 3) (r4 : u 30 4 = nI q) (r20 : u 75 20 = nI q)
    (hac : ∀ i, i < k → (∀ j, j < 16 → u 32 ((a + 16 - k + i) % 16 * 16 + j) = u 79 (16 * i + j)) ∧ rowG (col u M) N (fun j => u 79 (16 * i + j))) (hmk : ∀ i, i < q → (∀ j, j < 16 → u 34 (i * 16 + j) = u 80 (16 * i + j)) ∧ rowG (col u M) N (fun j => u 80 (16 * i + j)))
    (hf : ∀ j, j < 16 → fC j = fM j) (hG : rowG (col u M) N fC) : Inv P Q (Rep (SH T D (fR M) c4 m) (wr (wr (put (pushM (wr (wr (put (pushC u a k) 29 fC) 0 7 0) 75 0 0) k) 77 fM) 75 1 0) 75 2 (-1)) v') (88 + 25 * m) := by
  have hN : N 3 ≤ 5 := (bndN_of hA.1.1).2.2.2.1
  refine Inv_act (N := N) (k := k0) ho h4 hk0 hm hB hA hW ?_ ?_ ?_ ?_ ?_
  · exact offA_wr (offA_wr (offA_put (offA_push (offA_wr (offA_wr (offA_put (offA_wr (offA_wr (offA_cp offA_refl (fun _ => rfl)) rfl) rfl) (fun _ => rfl)) rfl) rfl)) (fun _ => rfl)) rfl) rfl
  · refine ⟨?_, ?_⟩
    · rw [wr_ix (q := 75) (j := 1) (by decide), wr_same, wr_role (q := 0) (by decide), wr_role (q := 0) (by decide), put_ne (q := 0) (by decide), pushM_q (by decide) (by decide), wr_role (q := 0) (by decide), wr_same]
    · rw [wr_same, wr_role (q := 0) (by decide), wr_role (q := 0) (by decide), put_ne (q := 0) (by decide), pushM_q (by decide) (by decide), wr_role (q := 0) (by decide), wr_same, if_neg (by decide)]
  · intro j hj
    rw [wr_role (q := 29) (by decide), wr_role (q := 29) (by decide), put_ne (q := 29) (by decide), pushM_q (by decide) (by decide), wr_role (q := 29) (by decide), wr_role (q := 29) (by decide), put_at, wr_role (q := 77) (by decide), wr_role (q := 77) (by decide), put_at]
    exact hf j hj
  · rw [wr_off (q := 29) (by decide), wr_off (q := 29) (by decide), put_ne (q := 29) (by decide), pushM_q (by decide) (by decide), wr_off (q := 29) (by decide), wr_off (q := 29) (by decide), put_at]
    exact hG
  · refine hist_push (u := u) (w := wr (wr (put (pushC u a k) 29 fC) 0 7 0) 75 0 0) hN ha hk hq r4 r20 hac hmk hA.2.2.1 hA.2.2.2.1 ?_ ?_ ?_ ?_ ?_ ?_ ?_ ?_ ?_ ?_ ?_
    · unfold pushC
      rw [wr_off (by decide), wr_off (by decide), put_ne (by decide), wr_off (by decide), wr_off (by decide), cpA_ne (by decide)]
    · unfold pushC
      rw [wr_off (by decide), wr_off (by decide), put_ne (by decide), wr_off (by decide), wr_off (by decide), cpA_ne (by decide)]
    · rw [wr_role (q := 30) (by decide), wr_role (q := 30) (by decide), put_ne (q := 30) (by decide), pushM_q (by decide) (by decide), wr_role (q := 30) (by decide), wr_role (q := 30) (by decide), put_ne (by decide)]
      unfold pushC
      rw [wr_ix (by decide), wr_same]
    · rw [wr_role (q := 30) (by decide), wr_role (q := 30) (by decide), put_ne (q := 30) (by decide), pushM_q (by decide) (by decide), wr_role (q := 30) (by decide), wr_role (q := 30) (by decide), put_ne (by decide)]
      unfold pushC
      rw [wr_same]
    · rw [wr_role (q := 30) (by decide), wr_role (q := 30) (by decide), put_ne (q := 30) (by decide), pushM_q (by decide) (by decide), wr_role (q := 30) (by decide), wr_role (q := 30) (by decide), put_ne (by decide)]
      unfold pushC
      rw [wr_ix (by decide), wr_ix (by decide), cpA_ne (by decide)]
    · rw [wr_ix (by decide), wr_ix (by decide), put_ne (by decide), pushM_19 hk]
    · rw [wr_ix (by decide), wr_ix (by decide), put_ne (by decide), pushM_75 (by decide), wr_ix (by decide), wr_role (by decide), put_ne (by decide)]
      unfold pushC
      rw [wr_role (by decide), wr_role (by decide), cpA_ne (by decide)]
    · rw [wr_off (q := 34) (by decide), wr_off (q := 34) (by decide), put_ne (q := 34) (by decide), pushM_q (by decide) (by decide), wr_off (q := 34) (by decide), wr_off (q := 34) (by decide), put_ne (by decide)]
      unfold pushC
      rw [wr_off (by decide), wr_off (by decide), cpA_ne (by decide)]
    · rw [wr_off (q := 80) (by decide), wr_off (q := 80) (by decide), put_ne (q := 80) (by decide), pushM_q (by decide) (by decide), wr_off (q := 80) (by decide), wr_off (q := 80) (by decide), put_ne (by decide)]
      unfold pushC
      rw [wr_off (by decide), wr_off (by decide), cpA_ne (by decide)]
    · intro j
      rw [wr_role (q := 32) (by decide), wr_role (q := 32) (by decide), put_ne (q := 32) (by decide), pushM_q (by decide) (by decide), wr_role (q := 32) (by decide), wr_role (q := 32) (by decide), put_ne (by decide)]
      unfold pushC
      rw [wr_role (by decide), wr_role (by decide), cpA_at]
    · rw [wr_off (q := 79) (by decide), wr_off (q := 79) (by decide), put_ne (q := 79) (by decide)]
theorem s_stl_mid {K : cK} {f : Nat → Int32} {g t p j : Nat} {o : Int32} (hg : g < 3) (ht : t < 4) (hj : (4 ≤ j ∧ j < 9) ∨ j = 15) : s_stl K f g t p o j = f j := by
  unfold s_stl
  split
  · rw [upd_at, if_neg (by omega), upd_at, if_neg (by omega)]
  · split
    · rw [upd_at, if_neg (by omega), upd_at, if_neg (by omega)]
    · rfl
theorem rowG_stl {K : cK} {f : Nat → Int32} {g t p : Nat} {o : Int32} (hN : N 3 ≤ 5) (h : rowG K N f) (hg : g < 3) (ht : t < 4) (hp : p < N 3) : rowG K N (s_stl K f g t p o) := by
  refine ⟨rowH_stl h.1 hp hg ht, fun p' hp' => ?_, ?_⟩
  · rw [s_stl_mid hg ht (by omega)]
    exact h.2.1 p' hp'
  · rw [s_stl_mid hg ht (by omega)]
    exact h.2.2
theorem day_up : ∀ n, n < 8 → ∀ d, d < 7 → 0 < n → (nI d + 1) - (nI d + 1) / nI n * nI n = nI ((d + 1) % n) := by decide +kernel
theorem sI_77_15 {x : Int32} : s_I (Rep (SH T D c3 c4 m) u v) 77 15 x = some (Rep (SH T D c3 c4 m) (wr u 77 15 x) v) := sI_77 (k := 15) (by decide)
theorem P37 : q_P37c (Inv P Q) := by
  intro g n hI
  obtain ⟨T, D, c3, c4, m, u, v, rfl, rfl, ho, h3, h4, ht, hK⟩ := hI
  rcases hK.2 with ⟨rfl, hN⟩ | ⟨k0, N, hk0, rfl, hA, hW⟩
  · refine end0 (f10 := fun g => f_X10_day g 0) (f12 := fun g => f_X12_day g 75) (A := -1) (t := 1) ho h3 h4 hK (by decide) ?_ ?_
    · simp only [f_X10_day, f_X10_noCollege, gC_0, gR_0_0, gR_0_1, gR_0_2, gR_0_3, gR_0_4, gR_0_5, gR_0_6, gI_0_7, gR_0_8, gC_1, gR_1_0, gI_1_1, gR_1_2, gR_1_3, gR_1_4, gI_1_5, gI_1_6, gI_1_7, gI_1_8, gI_1_9, gL_1_10, gI_1_11, gI_1_12, gI_1_13, gI_1_14, gC_27, gR_27_0, gC_30, gR_30_0, gR_30_1, gI_30_2, gI_30_3, gI_30_4, gC_35, gR_35_0, gR_35_1, gI_35_2, gC_36, gR_36_0, gC_41, gR_41_0, gI_41_1, gI_41_2, gC_44, gR_44_0, gR_44_1, gI_44_2, gI_44_3, gC_49, gR_49_0, gR_49_1, gI_49_2, gI_49_3, gC_75, gI_75_0, gI_75_1, gI_75_2, gR_75_5, gI_75_6, gI_75_7, gI_75_8, gI_75_9, gI_75_10, gI_75_11, gI_75_12, gI_75_13, gL_75_14, gR_75_15, gR_75_16, gR_75_17, gR_75_18, gI_75_19, gI_75_20, gR_75_21, gR_75_22, gR_75_23, gI_75_24, gR_75_25, gI_75_26, gL_75_27, gL_75_28, gR_75_29, gR_75_30, gI_75_31, gR_75_3, gQ_75_3, gN_75_3, gR_75_4, gQ_75_4, gN_75_4, pI_0_7, pI_1_1, pI_1_5, pI_1_6, pI_1_7, pI_1_8, pI_1_9, pL_1_10, pI_1_11, pI_1_12, pI_1_13, pI_1_14, pI_30_2, pI_30_3, pI_30_4, pI_35_2, pI_41_1, pZ0_41_1, pZ1_41_1, pI_41_2, pI_44_2, pZ0_44_2, pZ1_44_2, pI_44_3, pI_49_2, pI_49_3, pI_75_0, pI_75_1, pI_75_2, pI_75_6, pI_75_7, pI_75_8, pI_75_9, pI_75_10, pI_75_11, pI_75_12, pI_75_13, pL_75_14, pI_75_19, pI_75_20, pI_75_24, pI_75_26, pL_75_27, pL_75_28, pI_75_31, Option.bind_some, q_b2_some, q_zr_0, q_zr_1, x10_fine, x10_refused, x12_good, x12_refused, cls_k0 ho hN, if_true, ne10, if_false]
    · intro u' _ _ _
      simp only [f_X12_day, gC_0, gR_0_0, gR_0_1, gR_0_2, gR_0_3, gR_0_4, gR_0_5, gR_0_6, gI_0_7, gR_0_8, gC_1, gR_1_0, gI_1_1, gR_1_2, gR_1_3, gR_1_4, gI_1_5, gI_1_6, gI_1_7, gI_1_8, gI_1_9, gL_1_10, gI_1_11, gI_1_12, gI_1_13, gI_1_14, gC_27, gR_27_0, gC_30, gR_30_0, gR_30_1, gI_30_2, gI_30_3, gI_30_4, gC_35, gR_35_0, gR_35_1, gI_35_2, gC_36, gR_36_0, gC_41, gR_41_0, gI_41_1, gI_41_2, gC_44, gR_44_0, gR_44_1, gI_44_2, gI_44_3, gC_49, gR_49_0, gR_49_1, gI_49_2, gI_49_3, gC_75, gI_75_0, gI_75_1, gI_75_2, gR_75_5, gI_75_6, gI_75_7, gI_75_8, gI_75_9, gI_75_10, gI_75_11, gI_75_12, gI_75_13, gL_75_14, gR_75_15, gR_75_16, gR_75_17, gR_75_18, gI_75_19, gI_75_20, gR_75_21, gR_75_22, gR_75_23, gI_75_24, gR_75_25, gI_75_26, gL_75_27, gL_75_28, gR_75_29, gR_75_30, gI_75_31, gR_75_3, gQ_75_3, gN_75_3, gR_75_4, gQ_75_4, gN_75_4, pI_0_7, pI_1_1, pI_1_5, pI_1_6, pI_1_7, pI_1_8, pI_1_9, pL_1_10, pI_1_11, pI_1_12, pI_1_13, pI_1_14, pI_30_2, pI_30_3, pI_30_4, pI_35_2, pI_41_1, pZ0_41_1, pZ1_41_1, pI_41_2, pI_44_2, pZ0_44_2, pZ1_44_2, pI_44_3, pI_49_2, pI_49_3, pI_75_0, pI_75_1, pI_75_2, pI_75_6, pI_75_7, pI_75_8, pI_75_9, pI_75_10, pI_75_11, pI_75_12, pI_75_13, pL_75_14, pI_75_19, pI_75_20, pI_75_24, pI_75_26, pL_75_27, pL_75_28, pI_75_31, Option.bind_some, q_b2_some, q_zr_0, q_zr_1, x10_fine, x10_refused, x12_good, x12_refused, if_true]
  · have hb := bndN_of hA.1.1
    have hb0 : N 0 ≤ 7 := hb.1
    have hN3 : N 3 ≤ 5 := hb.2.2.2.1
    have h2 : 2 ≤ N 0 := hA.2.1.1
    obtain ⟨a, k, q, ha, hk, hq, r2, r3, r19, r4, r20, hac, hmk⟩ := hA.2.2.2.2
    obtain ⟨d, hd, e15⟩ := hA.2.2.2.1.2.2
    have hM := SH_mod (T := T) (D := D) (c3 := fR (88 + k0 * 25)) (c4 := c4) hk0
    have z0 : ¬ nI (N 0) = 0 := nI_ne0 (by omega) (by omega)
    have hrc : relCnt (pushC u a k) T (88 + k0 * 25) N := (relC_congr (offA_T (offA_wr (offA_wr (offA_cp offA_refl (fun _ => rfl)) rfl) rfl) ho) (offA_M (offA_wr (offA_wr (offA_cp offA_refl (fun _ => rfl)) rfl) rfl) (by omega)) hA.1).1
    have p29 : pushC u a k 29 = u 29 := by
      unfold pushC
      rw [wr_off (by decide), wr_off (by decide), cpA_ne (by decide)]
    have c1 := cls_push (T := T) (D := D) (c3 := fR (88 + k0 * 25)) (c4 := c4) (m := m) (v := v) ha hk r2 r3
    have c15 : pushC u a k 29 15 = nI d := by rw [p29, e15]
    have goes : f_X7_goOn (Rep (SH T D (fR (88 + k0 * 25)) c4 m) (pushC u a k) v) 27 (nI (N 0)) = some (Rep (SH T D (fR (88 + k0 * 25)) c4 m) (put (pushC u a k) 29 (upd (u 29) 15 (nI ((d + 1) % N 0)))) v) := by
      rw [← p29, ← wr_put]
      have s0 := fun x => row_set (u := pushC u a k) (v := v) (k := 15) (z := x) (SH_now (T := T) (D := D) (c3 := fR (88 + k0 * 25)) (c4 := c4) (m := m)) (by decide)
      rw [show nI 15 = (15 : Int32) from rfl] at s0
      by_cases cc : N 0 ≤ d + 1
      · have hz : (d + 1) % N 0 = 0 := by rw [show d + 1 = N 0 by omega, Nat.mod_self]
        have cc' : nI (N 0) ≤ nI (d + 1) := nI_le cc (by omega)
        simp only [f_X7_goOn, gC_0, gR_0_0, gR_0_1, gR_0_2, gR_0_3, gR_0_4, gR_0_5, gR_0_6, gI_0_7, gR_0_8, gC_1, gR_1_0, gI_1_1, gR_1_2, gR_1_3, gR_1_4, gI_1_5, gI_1_6, gI_1_7, gI_1_8, gI_1_9, gL_1_10, gI_1_11, gI_1_12, gI_1_13, gI_1_14, gC_27, gR_27_0, gC_30, gR_30_0, gR_30_1, gI_30_2, gI_30_3, gI_30_4, gC_35, gR_35_0, gR_35_1, gI_35_2, gC_36, gR_36_0, gC_41, gR_41_0, gI_41_1, gI_41_2, gC_44, gR_44_0, gR_44_1, gI_44_2, gI_44_3, gC_49, gR_49_0, gR_49_1, gI_49_2, gI_49_3, gC_75, gI_75_0, gI_75_1, gI_75_2, gR_75_5, gI_75_6, gI_75_7, gI_75_8, gI_75_9, gI_75_10, gI_75_11, gI_75_12, gI_75_13, gL_75_14, gR_75_15, gR_75_16, gR_75_17, gR_75_18, gI_75_19, gI_75_20, gR_75_21, gR_75_22, gR_75_23, gI_75_24, gR_75_25, gI_75_26, gL_75_27, gL_75_28, gR_75_29, gR_75_30, gI_75_31, gR_75_3, gQ_75_3, gN_75_3, gR_75_4, gQ_75_4, gN_75_4, pI_0_7, pI_1_1, pI_1_5, pI_1_6, pI_1_7, pI_1_8, pI_1_9, pL_1_10, pI_1_11, pI_1_12, pI_1_13, pI_1_14, pI_30_2, pI_30_3, pI_30_4, pI_35_2, pI_41_1, pZ0_41_1, pZ1_41_1, pI_41_2, pI_44_2, pZ0_44_2, pZ1_44_2, pI_44_3, pI_49_2, pI_49_3, pI_75_0, pI_75_1, pI_75_2, pI_75_6, pI_75_7, pI_75_8, pI_75_9, pI_75_10, pI_75_11, pI_75_12, pI_75_13, pL_75_14, pI_75_19, pI_75_20, pI_75_24, pI_75_26, pL_75_27, pL_75_28, pI_75_31, Option.bind_some, q_b2_some, q_zr_0, q_zr_1, x10_fine, x10_refused, x12_good, x12_refused, st_today SH_now, c15, nI_1, cc', if_true, s0, hz, nI_0]
      · have hz : (d + 1) % N 0 = d + 1 := Nat.mod_eq_of_lt (by omega)
        have cc' : ¬ nI (N 0) ≤ nI (d + 1) := nI_ge (by omega) (by omega)
        simp only [f_X7_goOn, gC_0, gR_0_0, gR_0_1, gR_0_2, gR_0_3, gR_0_4, gR_0_5, gR_0_6, gI_0_7, gR_0_8, gC_1, gR_1_0, gI_1_1, gR_1_2, gR_1_3, gR_1_4, gI_1_5, gI_1_6, gI_1_7, gI_1_8, gI_1_9, gL_1_10, gI_1_11, gI_1_12, gI_1_13, gI_1_14, gC_27, gR_27_0, gC_30, gR_30_0, gR_30_1, gI_30_2, gI_30_3, gI_30_4, gC_35, gR_35_0, gR_35_1, gI_35_2, gC_36, gR_36_0, gC_41, gR_41_0, gI_41_1, gI_41_2, gC_44, gR_44_0, gR_44_1, gI_44_2, gI_44_3, gC_49, gR_49_0, gR_49_1, gI_49_2, gI_49_3, gC_75, gI_75_0, gI_75_1, gI_75_2, gR_75_5, gI_75_6, gI_75_7, gI_75_8, gI_75_9, gI_75_10, gI_75_11, gI_75_12, gI_75_13, gL_75_14, gR_75_15, gR_75_16, gR_75_17, gR_75_18, gI_75_19, gI_75_20, gR_75_21, gR_75_22, gR_75_23, gI_75_24, gR_75_25, gI_75_26, gL_75_27, gL_75_28, gR_75_29, gR_75_30, gI_75_31, gR_75_3, gQ_75_3, gN_75_3, gR_75_4, gQ_75_4, gN_75_4, pI_0_7, pI_1_1, pI_1_5, pI_1_6, pI_1_7, pI_1_8, pI_1_9, pL_1_10, pI_1_11, pI_1_12, pI_1_13, pI_1_14, pI_30_2, pI_30_3, pI_30_4, pI_35_2, pI_41_1, pZ0_41_1, pZ1_41_1, pI_41_2, pI_44_2, pZ0_44_2, pZ1_44_2, pI_44_3, pI_49_2, pI_49_3, pI_75_0, pI_75_1, pI_75_2, pI_75_6, pI_75_7, pI_75_8, pI_75_9, pI_75_10, pI_75_11, pI_75_12, pI_75_13, pL_75_14, pI_75_19, pI_75_20, pI_75_24, pI_75_26, pL_75_27, pL_75_28, pI_75_31, Option.bind_some, q_b2_some, q_zr_0, q_zr_1, x10_fine, x10_refused, x12_good, x12_refused, st_today SH_now, c15, nI_1, cc', if_false, s0, hz]
    have E10 : f_X10_day (Rep (SH T D (fR (88 + k0 * 25)) c4 m) u v) 0 = some (nI ((d + 1) % N 0), Rep (SH T D (fR (88 + k0 * 25)) c4 m) (wr (put (pushC u a k) 29 (upd (u 29) 15 (nI ((d + 1) % N 0)))) 0 7 0) v) := by
      have t1 : put (pushC u a k) 29 (upd (u 29) 15 (nI ((d + 1) % N 0))) 29 15 = nI ((d + 1) % N 0) := by
        rw [put_at, upd_at, if_pos rfl]
      simp only [f_X10_day, f_X10_noCollege, gC_0, gR_0_0, gR_0_1, gR_0_2, gR_0_3, gR_0_4, gR_0_5, gR_0_6, gI_0_7, gR_0_8, gC_1, gR_1_0, gI_1_1, gR_1_2, gR_1_3, gR_1_4, gI_1_5, gI_1_6, gI_1_7, gI_1_8, gI_1_9, gL_1_10, gI_1_11, gI_1_12, gI_1_13, gI_1_14, gC_27, gR_27_0, gC_30, gR_30_0, gR_30_1, gI_30_2, gI_30_3, gI_30_4, gC_35, gR_35_0, gR_35_1, gI_35_2, gC_36, gR_36_0, gC_41, gR_41_0, gI_41_1, gI_41_2, gC_44, gR_44_0, gR_44_1, gI_44_2, gI_44_3, gC_49, gR_49_0, gR_49_1, gI_49_2, gI_49_3, gC_75, gI_75_0, gI_75_1, gI_75_2, gR_75_5, gI_75_6, gI_75_7, gI_75_8, gI_75_9, gI_75_10, gI_75_11, gI_75_12, gI_75_13, gL_75_14, gR_75_15, gR_75_16, gR_75_17, gR_75_18, gI_75_19, gI_75_20, gR_75_21, gR_75_22, gR_75_23, gI_75_24, gR_75_25, gI_75_26, gL_75_27, gL_75_28, gR_75_29, gR_75_30, gI_75_31, gR_75_3, gQ_75_3, gN_75_3, gR_75_4, gQ_75_4, gN_75_4, pI_0_7, pI_1_1, pI_1_5, pI_1_6, pI_1_7, pI_1_8, pI_1_9, pL_1_10, pI_1_11, pI_1_12, pI_1_13, pI_1_14, pI_30_2, pI_30_3, pI_30_4, pI_35_2, pI_41_1, pZ0_41_1, pZ1_41_1, pI_41_2, pI_44_2, pZ0_44_2, pZ1_44_2, pI_44_3, pI_49_2, pI_49_3, pI_75_0, pI_75_1, pI_75_2, pI_75_6, pI_75_7, pI_75_8, pI_75_9, pI_75_10, pI_75_11, pI_75_12, pI_75_13, pL_75_14, pI_75_19, pI_75_20, pI_75_24, pI_75_26, pL_75_27, pL_75_28, pI_75_31, Option.bind_some, q_b2_some, q_zr_0, q_zr_1, x10_fine, x10_refused, x12_good, x12_refused, cls_c0 ho hA.1.1, z0, if_true, if_false, c1, cls_c0 ho hrc, goes, st_today SH_now, t1]
    generalize hw : wr (put (pushC u a k) 29 (upd (u 29) 15 (nI ((d + 1) % N 0)))) 0 7 0 = uC at E10
    have w77 : wr uC 75 0 0 77 = u 77 := by
      rw [← hw]
      unfold pushC
      rw [wr_off (by decide), wr_off (by decide), put_ne (by decide), wr_off (by decide), wr_off (by decide), cpA_ne (by decide)]
    have w19 : wr uC 75 0 0 75 19 = nI k := by
      rw [← hw]
      unfold pushC
      rw [wr_ix (by decide), wr_role (by decide), put_ne (by decide), wr_role (by decide), wr_role (by decide), cpA_ne (by decide), r19]
    have wM : wr uC 75 0 0 (88 + k0 * 25) = u (88 + k0 * 25) := by
      rw [← hw]
      unfold pushC
      rw [wr_off (by omega), wr_off (by omega), put_ne (by omega), wr_off (by omega), wr_off (by omega), cpA_ne (by omega)]
    have x1 := ref_push (T := T) (D := D) (c3 := fR (88 + k0 * 25)) (c4 := c4) (m := m) (v := v) hk w19
    have x15 : pushM (wr uC 75 0 0) k 77 15 = nI d := by rw [pushM_77, w77, ← hA.2.2.1 15 (by decide), e15]
    have xM : pushM (wr uC 75 0 0) k (88 + k0 * 25) 0 = nI (N 0) := by
      rw [pushM_q (by omega) (by omega), wM]
      exact (hA.1.1 0 (by decide)).2.1
    have xx := day_up (N 0) (by omega) d (by omega) (by omega)
    have E12 : f_X12_day (Rep (SH T D (fR (88 + k0 * 25)) c4 m) uC v) 75 = some (nI ((d + 1) % N 0), Rep (SH T D (fR (88 + k0 * 25)) c4 m) (wr (wr (put (pushM (wr uC 75 0 0) k) 77 (upd (u 77) 15 (nI ((d + 1) % N 0)))) 75 1 0) 75 2 (-1)) v) := by
      rw [← w77, ← pushM_77 (u := wr uC 75 0 0) (k := k), ← wr_put]
      simp only [f_X12_day, gC_0, gR_0_0, gR_0_1, gR_0_2, gR_0_3, gR_0_4, gR_0_5, gR_0_6, gI_0_7, gR_0_8, gC_1, gR_1_0, gI_1_1, gR_1_2, gR_1_3, gR_1_4, gI_1_5, gI_1_6, gI_1_7, gI_1_8, gI_1_9, gL_1_10, gI_1_11, gI_1_12, gI_1_13, gI_1_14, gC_27, gR_27_0, gC_30, gR_30_0, gR_30_1, gI_30_2, gI_30_3, gI_30_4, gC_35, gR_35_0, gR_35_1, gI_35_2, gC_36, gR_36_0, gC_41, gR_41_0, gI_41_1, gI_41_2, gC_44, gR_44_0, gR_44_1, gI_44_2, gI_44_3, gC_49, gR_49_0, gR_49_1, gI_49_2, gI_49_3, gC_75, gI_75_0, gI_75_1, gI_75_2, gR_75_5, gI_75_6, gI_75_7, gI_75_8, gI_75_9, gI_75_10, gI_75_11, gI_75_12, gI_75_13, gL_75_14, gR_75_15, gR_75_16, gR_75_17, gR_75_18, gI_75_19, gI_75_20, gR_75_21, gR_75_22, gR_75_23, gI_75_24, gR_75_25, gI_75_26, gL_75_27, gL_75_28, gR_75_29, gR_75_30, gI_75_31, gR_75_3, gQ_75_3, gN_75_3, gR_75_4, gQ_75_4, gN_75_4, pI_0_7, pI_1_1, pI_1_5, pI_1_6, pI_1_7, pI_1_8, pI_1_9, pL_1_10, pI_1_11, pI_1_12, pI_1_13, pI_1_14, pI_30_2, pI_30_3, pI_30_4, pI_35_2, pI_41_1, pZ0_41_1, pZ1_41_1, pI_41_2, pI_44_2, pZ0_44_2, pZ1_44_2, pI_44_3, pI_49_2, pI_49_3, pI_75_0, pI_75_1, pI_75_2, pI_75_6, pI_75_7, pI_75_8, pI_75_9, pI_75_10, pI_75_11, pI_75_12, pI_75_13, pL_75_14, pI_75_19, pI_75_20, pI_75_24, pI_75_26, pL_75_27, pL_75_28, pI_75_31, Option.bind_some, q_b2_some, q_zr_0, q_zr_1, x10_fine, x10_refused, x12_good, x12_refused, aB_2, an_2, aB_76, an_76, aI_77, aI_78, aI_79, aI_80, aI_81, aI_82, aI_83, aI_84, aI_85, aI_86, sB_2, sB_76, sI_77, sI_78, sI_79, sI_80, sI_81, sI_82, sI_83, sI_84, sI_85, sI_86, mC, mI_0, mI_1, mI_2, mI_3, mI_4, mI_5, mI_6, mI_7, mI_8, mI_9, mI_10, mR_11, mR_12, mR_13, mR_14, mR_15, mR_16, mR_17, mR_18, mR_19, mR_20, mR_21, mR_22, mR_23, mR_24, mR_25, mR_26, mR_27, mR_28, mR_29, mR_30, mR_31, mR_32, mR_33, mR_34, ma_1, ma_2, ma_3, ma_4, ma_5, ma_6, ma_7, ma_8, ma_9, ma_10, ma_11, ma_12, ma_13, ma_14, ma_15, ma_16, ma_17, ma_18, ma_19, ma_20, ma_21, ma_22, ma_23, ma_24, hM, reduceCtorEq, if_false, x1, aI_77_15, x15, xM, z0, xx, sI_77_15, wr_same]
    rw [← hw] at E10 E12
    refine end1 (f10 := fun g => f_X10_day g 0) (f12 := fun g => f_X12_day g 75) E10 E12 ?_
    refine act_end ho h4 hk0 rfl hK.1 hA hW ha hk hq r4 r20 hac hmk ?_ ?_
    · intro j hj
      rw [upd_at, upd_at, hA.2.2.1 j hj]
    · obtain ⟨g1, g2, g3⟩ := hA.2.2.2.1
      refine ⟨fun t ht => ?_, fun p hp => ?_, (d + 1) % N 0, Nat.mod_lt _ (by omega), ?_⟩
      · rw [upd_at, if_neg (by omega)]; exact g1 t ht
      · rw [upd_at, if_neg (by omega)]; exact g2 p hp
      · rw [upd_at, if_pos rfl]
end ACE
