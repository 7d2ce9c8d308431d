section SDY
variable {T D m M : Nat} {c4 : sF} {u : mU} {v : mV} {N : Nat → Nat} {G : Nat → Int32} {a : Int32}
theorem ref_gives {dd : Nat} (ho : okTD T D) (hMs : mSh (SH T D (fR M) c4 m) M) (hM : 88 ≤ M) (h : relC u T M N) (h2 : 1 ≤ N 2) (hdd : dd < N 0) (Y X : Nat → Int32) : (∃ c Y' X', snR (col u M) N dd = some c ∧ (∀ j, j < N 2 → c j < 105 ∧ Y' j = nI (c j)) ∧ f_X12_gives (fgS T D m M c4 u v G a Y X) 75 (nI dd) = some (1, fgS T D m M c4 u v G a Y' X')) ∨ (∃ Y' X', snR (col u M) N dd = none ∧ f_X12_gives (fgS T D m M c4 u v G a Y X) 75 (nI dd) = some (0, fgS T D m M c4 u v G a Y' X')) := by
  have hb := bndN_of h.1
  have b0 : N 0 ≤ 7 := hb.1
  have b2 : N 2 ≤ 4 := hb.2.2.1
  obtain ⟨r, hr⟩ : ∃ r, N 2 = r + 1 := ⟨N 2 - 1, by omega⟩
  have hW5 : 15 * (dd + 1) ≤ 105 := by omega
  have hm : mgH T D m M c4 u v G a N (15 * (dd + 1)) (r + 1) 0 (mdB (r + 1)) := mg_level ho hMs hM h hW5 (by omega) (mg_all ho hMs hM h hW5 r 0 (by omega))
  rw [← hr] at hm
  have hB := mdB_4 (N 2) b2
  have es := sI_82 (T := T) (D := D) (m := m) (c3 := fR M) (c4 := c4) (u := put (fmB u Y G a) 78 X) (v := v) (k := 0) (x := -1) (by decide)
  rw [nI_0, fm_w] at es
  have hx : ((nI dd + 1) * 3) * 5 = nI (15 * (dd + 1)) := by
    rw [nI_1, show (3 : Int32) = nI 3 from rfl, show (5 : Int32) = nI 5 from rfl, nI_mul, nI_mul, show (dd + 1) * 3 * 5 = 15 * (dd + 1) by omega]
  have eg : f_X12_gives (fgS T D m M c4 u v G a Y X) 75 (nI dd) = L_X12_gives_17 1000000000 75 (nI (15 * (dd + 1))) (nI 0) (fgS T D m M c4 u v G a (upd Y 0 (-1)) X) := by
    unfold f_X12_gives
    rw [gC_75, Option.bind_some, gR_75_22, Option.bind_some, es, Option.bind_some, hx, nI_0]
  have q := hm (fun _ => 0) (upd Y 0 (-1)) X (fun j hj => absurd hj (by omega)) (by rw [upd_at, if_pos rfl])
  rw [mod_row h] at q
  rw [eg]
  rcases q with ⟨c, cost, Y', X', q1, q2, q3, q4⟩ | ⟨cost, Y', X', q1, q2, q3, q4⟩
  · refine Or.inl ⟨c, Y', X', q1, fun j hj => ?_, ?_⟩
    · obtain ⟨a1, a2, -⟩ := q3 j hj
      exact ⟨by omega, a2⟩
    · obtain ⟨f, hf⟩ : ∃ f, 1000000000 = f + cost := ⟨1000000000 - cost, by omega⟩
      rw [hf]
      exact q4 f
  · refine Or.inr ⟨Y', X', q1, ?_⟩
    obtain ⟨f, hf⟩ : ∃ f, 1000000000 = (f + 1) + cost := ⟨1000000000 - cost - 1, by omega⟩
    have e := q4 (f + 1)
    rw [hf]
    refine e.trans ?_
    rw [L_X12_gives_17, if_pos (by rw [nI_0]; decide)]
theorem ref_sday2 (ho : okTD T D) (hMs : mSh (SH T D (fR M) c4 m) M) (hM : 88 ≤ M) (h : relC u T M N) (h2 : 1 ≤ N 2) : ∀ (r dd f : Nat) (Y X : Nat → Int32), dd + r = N 0 → r < f → (∃ d c Y' X', ffD (col u M) N r dd = some (d, c) ∧ (∀ j, j < N 2 → c j < 105 ∧ Y' j = nI (c j)) ∧ L_X12_soonestDay_2 f 75 (nI dd) (fgS T D m M c4 u v G a Y X) = some (nI d, fgS T D m M c4 u v G a Y' X')) ∨ (∃ Y' X', ffD (col u M) N r dd = none ∧ L_X12_soonestDay_2 f 75 (nI dd) (fgS T D m M c4 u v G a Y X) = some (-2, fgS T D m M c4 u v G a Y' X')) := by
  have hb := bndN_of h.1
  have b0 : N 0 ≤ 7 := hb.1
  have m0 : ∀ (Y X : Nat → Int32), put (fmB u Y G a) 78 X M 0 = nI (N 0) := fun Y X => by rw [fm_M0 hM]; exact (h.1 0 (by decide)).2.1
  intro r
  induction r with
  | zero =>
    intro dd f Y X hd hf
    obtain ⟨f, rfl⟩ : ∃ f', f = f' + 1 := ⟨f - 1, by omega⟩
    have c : nI (N 0) ≤ nI dd := nI_le (by omega) (by omega)
    refine Or.inr ⟨Y, X, rfl, ?_⟩
    rw [L_X12_soonestDay_2, gR_75_3, Option.bind_some, mI_0 hMs, m0, Option.bind_some, if_pos c]
  | succ r ih =>
    intro dd f Y X hd hf
    obtain ⟨f, rfl⟩ : ∃ f', f = f' + 1 := ⟨f - 1, by omega⟩
    have c : ¬ nI (N 0) ≤ nI dd := nI_ge (by omega) (by omega)
    rw [L_X12_soonestDay_2, gR_75_3, Option.bind_some, mI_0 hMs, m0, Option.bind_some, if_neg c]
    rcases ref_gives (v := v) (G := G) (a := a) ho hMs hM h h2 (show dd < N 0 by omega) Y X with ⟨c', Y', X', q1, q2, q3⟩ | ⟨Y', X', q1, q3⟩
    · refine Or.inl ⟨dd, c', Y', X', ?_, q2, ?_⟩
      · exact ff_hit (f := fun dd => (snR (col u M) N dd).map (fun c => (dd, c))) (by rw [q1]; rfl)
      · rw [q3, q_b2_some, if_neg (by decide)]
    · rw [q3, q_b2_some, if_pos rfl, nI_1, show ffD (col u M) N (r + 1) dd = ffD (col u M) N r (dd + 1) from ff_miss (f := fun dd => (snR (col u M) N dd).map (fun c => (dd, c))) (by rw [q1]; rfl)]
      exact ih (dd + 1) f Y' X' (by omega) (by omega)
theorem fm_id : put (fmB u (u 82) (u 83) (u 75 24)) 78 (u 78) = u := by
  funext q j
  by_cases h2 : q = 78
  · subst h2; rw [put_at]
  · rw [put_ne h2]
    unfold fmB wr
    by_cases h1 : q = 75 ∧ j = 24
    · obtain ⟨rfl, rfl⟩ := h1
      rw [if_pos ⟨rfl, rfl⟩]
    · rw [if_neg h1]
      by_cases h3 : q = 83
      · subst h3; rw [put_at]
      · rw [put_ne h3]
        by_cases h4 : q = 82
        · subst h4; rw [put_at]
        · rw [put_ne h4]
theorem ref_sday (ho : okTD T D) (hMs : mSh (SH T D (fR M) c4 m) M) (hM : 88 ≤ M) (h : relC u T M N) (h2 : 1 ≤ N 2) : (∃ d c Y' X', ffD (col u M) N (N 0) 0 = some (d, c) ∧ (∀ j, j < N 2 → c j < 105 ∧ Y' j = nI (c j)) ∧ f_X12_soonestDay (Rep (SH T D (fR M) c4 m) u v) 75 = some (nI d, fgS T D m M c4 u v (u 83) (u 75 24) Y' X')) ∨ (∃ Y' X', ffD (col u M) N (N 0) 0 = none ∧ f_X12_soonestDay (Rep (SH T D (fR M) c4 m) u v) 75 = some (-2, fgS T D m M c4 u v (u 83) (u 75 24) Y' X')) := by
  have b0 : N 0 ≤ 7 := (bndN_of h.1).1
  have q := ref_sday2 (v := v) (G := u 83) (a := u 75 24) ho hMs hM h h2 (N 0) 0 1000000000 (u 82) (u 78) (by omega) (by omega)
  rw [nI_0, show fgS T D m M c4 u v (u 83) (u 75 24) (u 82) (u 78) = Rep (SH T D (fR M) c4 m) u v from congrArg (fun x => Rep (SH T D (fR M) c4 m) x v) fm_id] at q
  have e : f_X12_soonestDay (Rep (SH T D (fR M) c4 m) u v) 75 = L_X12_soonestDay_2 1000000000 75 0 (Rep (SH T D (fR M) c4 m) u v) := by
    unfold f_X12_soonestDay
    rw [gC_75, Option.bind_some]
  rw [e]
  exact q
end SDY
theorem fPs_cases {K : cK} {N : Nat → Nat} {x : Int32} {C : Nat → Int32} (h : fPs K N x C) : (ffD K N (N 0) 0 = none ∧ x = -2) ∨ ∃ d c, ffD K N (N 0) 0 = some (d, c) ∧ x = nI d ∧ d < N 0 ∧ ∀ j, j < N 2 → c j < 105 ∧ C (j * 3 + 0) = nI (c j / 15) ∧ C (j * 3 + 1) = nI (c j / 5 % 3) ∧ C (j * 3 + 2) = nI (c j % 5) := by
  unfold fPs at h
  cases hd : ffD K N (N 0) 0 with
  | none => rw [hd] at h; exact Or.inl ⟨rfl, h⟩
  | some p =>
    obtain ⟨d, c⟩ := p
    rw [hd] at h
    exact Or.inr ⟨d, c, rfl, h⟩
section SFX
variable {Q : cP}
theorem P21 : q_P21c (Inv fPs Q) := by
  intro g n hI
  refine goC (f10 := fun g => f_X10_soonest g 0) (f12 := fun g => f_X12_soonest g 75) (A0 := -1) hI ?_ ?_ ?_
  · intro T D c4 m u v ho hN
    simp -implicitDefEqProofs only [f_X10_soonest, f_X10_noCollege, gC_0, gR_0_0, gR_0_1, gR_0_2, gR_0_3, gR_0_4, gR_0_5, gR_0_6, gI_0_7, gR_0_8, gC_1, gR_1_0, gI_1_1, gR_1_2, gR_1_3, gR_1_4, gI_1_5, gI_1_6, gI_1_7, gI_1_8, gI_1_9, gL_1_10, gI_1_11, gI_1_12, gI_1_13, gI_1_14, gC_27, gR_27_0, gC_30, gR_30_0, gR_30_1, gI_30_2, gI_30_3, gI_30_4, gC_35, gR_35_0, gR_35_1, gI_35_2, gC_36, gR_36_0, gC_41, gR_41_0, gI_41_1, gI_41_2, gC_44, gR_44_0, gR_44_1, gI_44_2, gI_44_3, gC_49, gR_49_0, gR_49_1, gI_49_2, gI_49_3, gC_75, gI_75_0, gI_75_1, gI_75_2, gR_75_5, gI_75_6, gI_75_7, gI_75_8, gI_75_9, gI_75_10, gI_75_11, gI_75_12, gI_75_13, gL_75_14, gR_75_15, gR_75_16, gR_75_17, gR_75_18, gI_75_19, gI_75_20, gR_75_21, gR_75_22, gR_75_23, gI_75_24, gR_75_25, gI_75_26, gL_75_27, gL_75_28, gR_75_29, gR_75_30, gI_75_31, gR_75_3, gQ_75_3, gN_75_3, gR_75_4, gQ_75_4, gN_75_4, pI_0_7, pI_1_1, pI_1_5, pI_1_6, pI_1_7, pI_1_8, pI_1_9, pL_1_10, pI_1_11, pI_1_12, pI_1_13, pI_1_14, pI_30_2, pI_30_3, pI_30_4, pI_35_2, pI_41_1, pZ0_41_1, pZ1_41_1, pI_41_2, pI_44_2, pZ0_44_2, pZ1_44_2, pI_44_3, pI_49_2, pI_49_3, pI_75_0, pI_75_1, pI_75_2, pI_75_6, pI_75_7, pI_75_8, pI_75_9, pI_75_10, pI_75_11, pI_75_12, pI_75_13, pL_75_14, pI_75_19, pI_75_20, pI_75_24, pI_75_26, pL_75_27, pL_75_28, pI_75_31, Option.bind_some, q_b2_some, q_zr_0, q_zr_1, x10_fine, x10_refused, x12_good, x12_refused, cls_k0 ho hN, if_true, if_false, ne10]
  · intro T D c4 m u v
    simp -implicitDefEqProofs only [f_X12_soonest, gC_0, gR_0_0, gR_0_1, gR_0_2, gR_0_3, gR_0_4, gR_0_5, gR_0_6, gI_0_7, gR_0_8, gC_1, gR_1_0, gI_1_1, gR_1_2, gR_1_3, gR_1_4, gI_1_5, gI_1_6, gI_1_7, gI_1_8, gI_1_9, gL_1_10, gI_1_11, gI_1_12, gI_1_13, gI_1_14, gC_27, gR_27_0, gC_30, gR_30_0, gR_30_1, gI_30_2, gI_30_3, gI_30_4, gC_35, gR_35_0, gR_35_1, gI_35_2, gC_36, gR_36_0, gC_41, gR_41_0, gI_41_1, gI_41_2, gC_44, gR_44_0, gR_44_1, gI_44_2, gI_44_3, gC_49, gR_49_0, gR_49_1, gI_49_2, gI_49_3, gC_75, gI_75_0, gI_75_1, gI_75_2, gR_75_5, gI_75_6, gI_75_7, gI_75_8, gI_75_9, gI_75_10, gI_75_11, gI_75_12, gI_75_13, gL_75_14, gR_75_15, gR_75_16, gR_75_17, gR_75_18, gI_75_19, gI_75_20, gR_75_21, gR_75_22, gR_75_23, gI_75_24, gR_75_25, gI_75_26, gL_75_27, gL_75_28, gR_75_29, gR_75_30, gI_75_31, gR_75_3, gQ_75_3, gN_75_3, gR_75_4, gQ_75_4, gN_75_4, pI_0_7, pI_1_1, pI_1_5, pI_1_6, pI_1_7, pI_1_8, pI_1_9, pL_1_10, pI_1_11, pI_1_12, pI_1_13, pI_1_14, pI_30_2, pI_30_3, pI_30_4, pI_35_2, pI_41_1, pZ0_41_1, pZ1_41_1, pI_41_2, pI_44_2, pZ0_44_2, pZ1_44_2, pI_44_3, pI_49_2, pI_49_3, pI_75_0, pI_75_1, pI_75_2, pI_75_6, pI_75_7, pI_75_8, pI_75_9, pI_75_10, pI_75_11, pI_75_12, pI_75_13, pL_75_14, pI_75_19, pI_75_20, pI_75_24, pI_75_26, pL_75_27, pL_75_28, pI_75_31, Option.bind_some, q_b2_some, q_zr_0, q_zr_1, x10_fine, x10_refused, x12_good, x12_refused, if_true]
  · intro T D c4 m u v M N ho hC hM h88 hb hA hW
    have b0 : N 0 ≤ 7 := hb.1
    have h0 : 2 ≤ N 0 := hA.2.1.1
    have h2 : 1 ≤ N 2 := hA.2.1.2.1
    have z0 : ¬ nI (N 0) = 0 := nI_ne0 (by omega) (by omega)
    obtain ⟨u1, e1, k1, w1, a1⟩ := cls_soonC (c3 := fR M) (c4 := c4) (m := m) (v := v) ho h88 hA.1 h2 hW
    refine ⟨u1 41 2, 0, u1, v, by decide, ?_, k1, w1, ?_⟩
    · simp -implicitDefEqProofs only [f_X10_soonest, f_X10_noCollege, f_X0_lastDay, gC_0, gR_0_0, gR_0_1, gR_0_2, gR_0_3, gR_0_4, gR_0_5, gR_0_6, gI_0_7, gR_0_8, gC_1, gR_1_0, gI_1_1, gR_1_2, gR_1_3, gR_1_4, gI_1_5, gI_1_6, gI_1_7, gI_1_8, gI_1_9, gL_1_10, gI_1_11, gI_1_12, gI_1_13, gI_1_14, gC_27, gR_27_0, gC_30, gR_30_0, gR_30_1, gI_30_2, gI_30_3, gI_30_4, gC_35, gR_35_0, gR_35_1, gI_35_2, gC_36, gR_36_0, gC_41, gR_41_0, gI_41_1, gI_41_2, gC_44, gR_44_0, gR_44_1, gI_44_2, gI_44_3, gC_49, gR_49_0, gR_49_1, gI_49_2, gI_49_3, gC_75, gI_75_0, gI_75_1, gI_75_2, gR_75_5, gI_75_6, gI_75_7, gI_75_8, gI_75_9, gI_75_10, gI_75_11, gI_75_12, gI_75_13, gL_75_14, gR_75_15, gR_75_16, gR_75_17, gR_75_18, gI_75_19, gI_75_20, gR_75_21, gR_75_22, gR_75_23, gI_75_24, gR_75_25, gI_75_26, gL_75_27, gL_75_28, gR_75_29, gR_75_30, gI_75_31, gR_75_3, gQ_75_3, gN_75_3, gR_75_4, gQ_75_4, gN_75_4, pI_0_7, pI_1_1, pI_1_5, pI_1_6, pI_1_7, pI_1_8, pI_1_9, pL_1_10, pI_1_11, pI_1_12, pI_1_13, pI_1_14, pI_30_2, pI_30_3, pI_30_4, pI_35_2, pI_41_1, pZ0_41_1, pZ1_41_1, pI_41_2, pI_44_2, pZ0_44_2, pZ1_44_2, pI_44_3, pI_49_2, pI_49_3, pI_75_0, pI_75_1, pI_75_2, pI_75_6, pI_75_7, pI_75_8, pI_75_9, pI_75_10, pI_75_11, pI_75_12, pI_75_13, pL_75_14, pI_75_19, pI_75_20, pI_75_24, pI_75_26, pL_75_27, pL_75_28, pI_75_31, Option.bind_some, q_b2_some, q_zr_0, q_zr_1, x10_fine, x10_refused, x12_good, x12_refused, cls_c0 ho hA.1.1, z0, if_true, if_false, e1]
    · intro u' v' hA' hc
      have q := ref_sday (v := v') ho hM h88 hA'.1 h2
      rw [show col (wr u' 75 0 0) M = col u M from funext hc] at q
      rcases fPs_cases a1 with ⟨r1, r2⟩ | ⟨d, c, r1, r2, -, -⟩
      · rcases q with ⟨d, c, Y', X', q1, q2, q3⟩ | ⟨Y', X', q1, q3⟩
        · rw [r1] at q1; cases q1
        · refine ⟨_, v', ?_, fm_keep (u := wr u' 75 0 0) (W := Y') (X := X') (G := wr u' 75 0 0 83) (a := wr u' 75 0 0 75 24), ?_⟩
          · simp -implicitDefEqProofs only [f_X12_soonest, gC_0, gR_0_0, gR_0_1, gR_0_2, gR_0_3, gR_0_4, gR_0_5, gR_0_6, gI_0_7, gR_0_8, gC_1, gR_1_0, gI_1_1, gR_1_2, gR_1_3, gR_1_4, gI_1_5, gI_1_6, gI_1_7, gI_1_8, gI_1_9, gL_1_10, gI_1_11, gI_1_12, gI_1_13, gI_1_14, gC_27, gR_27_0, gC_30, gR_30_0, gR_30_1, gI_30_2, gI_30_3, gI_30_4, gC_35, gR_35_0, gR_35_1, gI_35_2, gC_36, gR_36_0, gC_41, gR_41_0, gI_41_1, gI_41_2, gC_44, gR_44_0, gR_44_1, gI_44_2, gI_44_3, gC_49, gR_49_0, gR_49_1, gI_49_2, gI_49_3, gC_75, gI_75_0, gI_75_1, gI_75_2, gR_75_5, gI_75_6, gI_75_7, gI_75_8, gI_75_9, gI_75_10, gI_75_11, gI_75_12, gI_75_13, gL_75_14, gR_75_15, gR_75_16, gR_75_17, gR_75_18, gI_75_19, gI_75_20, gR_75_21, gR_75_22, gR_75_23, gI_75_24, gR_75_25, gI_75_26, gL_75_27, gL_75_28, gR_75_29, gR_75_30, gI_75_31, gR_75_3, gQ_75_3, gN_75_3, gR_75_4, gQ_75_4, gN_75_4, pI_0_7, pI_1_1, pI_1_5, pI_1_6, pI_1_7, pI_1_8, pI_1_9, pL_1_10, pI_1_11, pI_1_12, pI_1_13, pI_1_14, pI_30_2, pI_30_3, pI_30_4, pI_35_2, pI_41_1, pZ0_41_1, pZ1_41_1, pI_41_2, pI_44_2, pZ0_44_2, pZ1_44_2, pI_44_3, pI_49_2, pI_49_3, pI_75_0, pI_75_1, pI_75_2, pI_75_6, pI_75_7, pI_75_8, pI_75_9, pI_75_10, pI_75_11, pI_75_12, pI_75_13, pL_75_14, pI_75_19, pI_75_20, pI_75_24, pI_75_26, pL_75_27, pL_75_28, pI_75_31, Option.bind_some, q_b2_some, q_zr_0, q_zr_1, x10_fine, x10_refused, x12_good, x12_refused, reduceCtorEq, if_false, q3, r2]
          · rw [put_ne (by decide), fm_q (by decide) (by decide) (by decide), wr_role (by decide)]
      · rcases q with ⟨d', c', Y', X', q1, q2, q3⟩ | ⟨Y', X', q1, q3⟩
        · rw [r1] at q1
          cases q1
          refine ⟨_, v', ?_, fm_keep (u := wr u' 75 0 0) (W := Y') (X := X') (G := wr u' 75 0 0 83) (a := wr u' 75 0 0 75 24), ?_⟩
          · simp -implicitDefEqProofs only [f_X12_soonest, gC_0, gR_0_0, gR_0_1, gR_0_2, gR_0_3, gR_0_4, gR_0_5, gR_0_6, gI_0_7, gR_0_8, gC_1, gR_1_0, gI_1_1, gR_1_2, gR_1_3, gR_1_4, gI_1_5, gI_1_6, gI_1_7, gI_1_8, gI_1_9, gL_1_10, gI_1_11, gI_1_12, gI_1_13, gI_1_14, gC_27, gR_27_0, gC_30, gR_30_0, gR_30_1, gI_30_2, gI_30_3, gI_30_4, gC_35, gR_35_0, gR_35_1, gI_35_2, gC_36, gR_36_0, gC_41, gR_41_0, gI_41_1, gI_41_2, gC_44, gR_44_0, gR_44_1, gI_44_2, gI_44_3, gC_49, gR_49_0, gR_49_1, gI_49_2, gI_49_3, gC_75, gI_75_0, gI_75_1, gI_75_2, gR_75_5, gI_75_6, gI_75_7, gI_75_8, gI_75_9, gI_75_10, gI_75_11, gI_75_12, gI_75_13, gL_75_14, gR_75_15, gR_75_16, gR_75_17, gR_75_18, gI_75_19, gI_75_20, gR_75_21, gR_75_22, gR_75_23, gI_75_24, gR_75_25, gI_75_26, gL_75_27, gL_75_28, gR_75_29, gR_75_30, gI_75_31, gR_75_3, gQ_75_3, gN_75_3, gR_75_4, gQ_75_4, gN_75_4, pI_0_7, pI_1_1, pI_1_5, pI_1_6, pI_1_7, pI_1_8, pI_1_9, pL_1_10, pI_1_11, pI_1_12, pI_1_13, pI_1_14, pI_30_2, pI_30_3, pI_30_4, pI_35_2, pI_41_1, pZ0_41_1, pZ1_41_1, pI_41_2, pI_44_2, pZ0_44_2, pZ1_44_2, pI_44_3, pI_49_2, pI_49_3, pI_75_0, pI_75_1, pI_75_2, pI_75_6, pI_75_7, pI_75_8, pI_75_9, pI_75_10, pI_75_11, pI_75_12, pI_75_13, pL_75_14, pI_75_19, pI_75_20, pI_75_24, pI_75_26, pL_75_27, pL_75_28, pI_75_31, Option.bind_some, q_b2_some, q_zr_0, q_zr_1, x10_fine, x10_refused, x12_good, x12_refused, reduceCtorEq, if_false, q3, r2]
          · rw [put_ne (by decide), fm_q (by decide) (by decide) (by decide), wr_role (by decide)]
        · rw [r1] at q1; cases q1
theorem P22 : q_P22c (Inv fPs Q) := by
  intro g n x1 hI
  refine goC (f10 := fun g => f_X10_soonestOf g 0 x1) (f12 := fun g => f_X12_soonestOf g 75 x1) (A0 := -1) hI ?_ ?_ ?_
  · intro T D c4 m u v ho hN
    simp -implicitDefEqProofs only [f_X10_soonestOf, gC_0, gR_0_0, gR_0_1, gR_0_2, gR_0_3, gR_0_4, gR_0_5, gR_0_6, gI_0_7, gR_0_8, gC_1, gR_1_0, gI_1_1, gR_1_2, gR_1_3, gR_1_4, gI_1_5, gI_1_6, gI_1_7, gI_1_8, gI_1_9, gL_1_10, gI_1_11, gI_1_12, gI_1_13, gI_1_14, gC_27, gR_27_0, gC_30, gR_30_0, gR_30_1, gI_30_2, gI_30_3, gI_30_4, gC_35, gR_35_0, gR_35_1, gI_35_2, gC_36, gR_36_0, gC_41, gR_41_0, gI_41_1, gI_41_2, gC_44, gR_44_0, gR_44_1, gI_44_2, gI_44_3, gC_49, gR_49_0, gR_49_1, gI_49_2, gI_49_3, gC_75, gI_75_0, gI_75_1, gI_75_2, gR_75_5, gI_75_6, gI_75_7, gI_75_8, gI_75_9, gI_75_10, gI_75_11, gI_75_12, gI_75_13, gL_75_14, gR_75_15, gR_75_16, gR_75_17, gR_75_18, gI_75_19, gI_75_20, gR_75_21, gR_75_22, gR_75_23, gI_75_24, gR_75_25, gI_75_26, gL_75_27, gL_75_28, gR_75_29, gR_75_30, gI_75_31, gR_75_3, gQ_75_3, gN_75_3, gR_75_4, gQ_75_4, gN_75_4, pI_0_7, pI_1_1, pI_1_5, pI_1_6, pI_1_7, pI_1_8, pI_1_9, pL_1_10, pI_1_11, pI_1_12, pI_1_13, pI_1_14, pI_30_2, pI_30_3, pI_30_4, pI_35_2, pI_41_1, pZ0_41_1, pZ1_41_1, pI_41_2, pI_44_2, pZ0_44_2, pZ1_44_2, pI_44_3, pI_49_2, pI_49_3, pI_75_0, pI_75_1, pI_75_2, pI_75_6, pI_75_7, pI_75_8, pI_75_9, pI_75_10, pI_75_11, pI_75_12, pI_75_13, pL_75_14, pI_75_19, pI_75_20, pI_75_24, pI_75_26, pL_75_27, pL_75_28, pI_75_31, Option.bind_some, q_b2_some, q_zr_0, q_zr_1, x10_fine, x10_refused, x12_good, x12_refused, cls_o2 ho hN, if_true]
  · intro T D c4 m u v
    simp -implicitDefEqProofs only [f_X12_soonestOf, gC_0, gR_0_0, gR_0_1, gR_0_2, gR_0_3, gR_0_4, gR_0_5, gR_0_6, gI_0_7, gR_0_8, gC_1, gR_1_0, gI_1_1, gR_1_2, gR_1_3, gR_1_4, gI_1_5, gI_1_6, gI_1_7, gI_1_8, gI_1_9, gL_1_10, gI_1_11, gI_1_12, gI_1_13, gI_1_14, gC_27, gR_27_0, gC_30, gR_30_0, gR_30_1, gI_30_2, gI_30_3, gI_30_4, gC_35, gR_35_0, gR_35_1, gI_35_2, gC_36, gR_36_0, gC_41, gR_41_0, gI_41_1, gI_41_2, gC_44, gR_44_0, gR_44_1, gI_44_2, gI_44_3, gC_49, gR_49_0, gR_49_1, gI_49_2, gI_49_3, gC_75, gI_75_0, gI_75_1, gI_75_2, gR_75_5, gI_75_6, gI_75_7, gI_75_8, gI_75_9, gI_75_10, gI_75_11, gI_75_12, gI_75_13, gL_75_14, gR_75_15, gR_75_16, gR_75_17, gR_75_18, gI_75_19, gI_75_20, gR_75_21, gR_75_22, gR_75_23, gI_75_24, gR_75_25, gI_75_26, gL_75_27, gL_75_28, gR_75_29, gR_75_30, gI_75_31, gR_75_3, gQ_75_3, gN_75_3, gR_75_4, gQ_75_4, gN_75_4, pI_0_7, pI_1_1, pI_1_5, pI_1_6, pI_1_7, pI_1_8, pI_1_9, pL_1_10, pI_1_11, pI_1_12, pI_1_13, pI_1_14, pI_30_2, pI_30_3, pI_30_4, pI_35_2, pI_41_1, pZ0_41_1, pZ1_41_1, pI_41_2, pI_44_2, pZ0_44_2, pZ1_44_2, pI_44_3, pI_49_2, pI_49_3, pI_75_0, pI_75_1, pI_75_2, pI_75_6, pI_75_7, pI_75_8, pI_75_9, pI_75_10, pI_75_11, pI_75_12, pI_75_13, pL_75_14, pI_75_19, pI_75_20, pI_75_24, pI_75_26, pL_75_27, pL_75_28, pI_75_31, Option.bind_some, q_b2_some, q_zr_0, q_zr_1, x10_fine, x10_refused, x12_good, x12_refused, mod_noThing, if_true]
  · intro T D c4 m u v M N ho hC hM h88 hb hA hW
    have b0 : N 0 ≤ 7 := hb.1
    have b2 : N 2 ≤ 4 := hb.2.2.1
    have h2 : 1 ≤ N 2 := hA.2.1.2.1
    have h10 := cls_h2 (c3 := fR M) (c4 := c4) (m := m) (v := v) (x := x1) ho hA.1.1
    by_cases hx : hasN (N 2) x1 = 0
    · refine ⟨-1, 1, u, v, by decide, by simp -implicitDefEqProofs only [f_X10_soonestOf, gC_0, gR_0_0, gR_0_1, gR_0_2, gR_0_3, gR_0_4, gR_0_5, gR_0_6, gI_0_7, gR_0_8, gC_1, gR_1_0, gI_1_1, gR_1_2, gR_1_3, gR_1_4, gI_1_5, gI_1_6, gI_1_7, gI_1_8, gI_1_9, gL_1_10, gI_1_11, gI_1_12, gI_1_13, gI_1_14, gC_27, gR_27_0, gC_30, gR_30_0, gR_30_1, gI_30_2, gI_30_3, gI_30_4, gC_35, gR_35_0, gR_35_1, gI_35_2, gC_36, gR_36_0, gC_41, gR_41_0, gI_41_1, gI_41_2, gC_44, gR_44_0, gR_44_1, gI_44_2, gI_44_3, gC_49, gR_49_0, gR_49_1, gI_49_2, gI_49_3, gC_75, gI_75_0, gI_75_1, gI_75_2, gR_75_5, gI_75_6, gI_75_7, gI_75_8, gI_75_9, gI_75_10, gI_75_11, gI_75_12, gI_75_13, gL_75_14, gR_75_15, gR_75_16, gR_75_17, gR_75_18, gI_75_19, gI_75_20, gR_75_21, gR_75_22, gR_75_23, gI_75_24, gR_75_25, gI_75_26, gL_75_27, gL_75_28, gR_75_29, gR_75_30, gI_75_31, gR_75_3, gQ_75_3, gN_75_3, gR_75_4, gQ_75_4, gN_75_4, pI_0_7, pI_1_1, pI_1_5, pI_1_6, pI_1_7, pI_1_8, pI_1_9, pL_1_10, pI_1_11, pI_1_12, pI_1_13, pI_1_14, pI_30_2, pI_30_3, pI_30_4, pI_35_2, pI_41_1, pZ0_41_1, pZ1_41_1, pI_41_2, pI_44_2, pZ0_44_2, pZ1_44_2, pI_44_3, pI_49_2, pI_49_3, pI_75_0, pI_75_1, pI_75_2, pI_75_6, pI_75_7, pI_75_8, pI_75_9, pI_75_10, pI_75_11, pI_75_12, pI_75_13, pL_75_14, pI_75_19, pI_75_20, pI_75_24, pI_75_26, pL_75_27, pL_75_28, pI_75_31, Option.bind_some, q_b2_some, q_zr_0, q_zr_1, x10_fine, x10_refused, x12_good, x12_refused, h10, hx, if_true], keepB_refl, hW, ?_⟩
      intro u' v' hA' hc
      refine ⟨wr u' 75 0 0, v', ?_, keep_refl, wr_role (by decide)⟩
      simp -implicitDefEqProofs only [f_X12_soonestOf, gC_0, gR_0_0, gR_0_1, gR_0_2, gR_0_3, gR_0_4, gR_0_5, gR_0_6, gI_0_7, gR_0_8, gC_1, gR_1_0, gI_1_1, gR_1_2, gR_1_3, gR_1_4, gI_1_5, gI_1_6, gI_1_7, gI_1_8, gI_1_9, gL_1_10, gI_1_11, gI_1_12, gI_1_13, gI_1_14, gC_27, gR_27_0, gC_30, gR_30_0, gR_30_1, gI_30_2, gI_30_3, gI_30_4, gC_35, gR_35_0, gR_35_1, gI_35_2, gC_36, gR_36_0, gC_41, gR_41_0, gI_41_1, gI_41_2, gC_44, gR_44_0, gR_44_1, gI_44_2, gI_44_3, gC_49, gR_49_0, gR_49_1, gI_49_2, gI_49_3, gC_75, gI_75_0, gI_75_1, gI_75_2, gR_75_5, gI_75_6, gI_75_7, gI_75_8, gI_75_9, gI_75_10, gI_75_11, gI_75_12, gI_75_13, gL_75_14, gR_75_15, gR_75_16, gR_75_17, gR_75_18, gI_75_19, gI_75_20, gR_75_21, gR_75_22, gR_75_23, gI_75_24, gR_75_25, gI_75_26, gL_75_27, gL_75_28, gR_75_29, gR_75_30, gI_75_31, gR_75_3, gQ_75_3, gN_75_3, gR_75_4, gQ_75_4, gN_75_4, pI_0_7, pI_1_1, pI_1_5, pI_1_6, pI_1_7, pI_1_8, pI_1_9, pL_1_10, pI_1_11, pI_1_12, pI_1_13, pI_1_14, pI_30_2, pI_30_3, pI_30_4, pI_35_2, pI_41_1, pZ0_41_1, pZ1_41_1, pI_41_2, pI_44_2, pZ0_44_2, pZ1_44_2, pI_44_3, pI_49_2, pI_49_3, pI_75_0, pI_75_1, pI_75_2, pI_75_6, pI_75_7, pI_75_8, pI_75_9, pI_75_10, pI_75_11, pI_75_12, pI_75_13, pL_75_14, pI_75_19, pI_75_20, pI_75_24, pI_75_26, pL_75_27, pL_75_28, pI_75_31, Option.bind_some, q_b2_some, q_zr_0, q_zr_1, x10_fine, x10_refused, x12_good, x12_refused, mod_isThing hM (hA'.1.1 2 (by decide)).2.1, hx, if_true]
    · obtain ⟨t, ht, rfl⟩ := hasN_in hx (by omega)
      have ht4 : t < 4 := by omega
      obtain ⟨u1, e1, k1, w1, a1⟩ := cls_soonC (c3 := fR M) (c4 := c4) (m := m) (v := v) ho h88 hA.1 h2 hW
      rcases fPs_cases a1 with ⟨r1, r2⟩ | ⟨d, c, r1, r2, r3, r4⟩
      · have cn : ¬ (0 : Int32) ≤ -2 := by decide
        refine ⟨-1, 6, u1, v, by decide, ?_, k1, w1, ?_⟩
        · simp -implicitDefEqProofs only [f_X10_soonestOf, f_X0_lastDay, gC_0, gR_0_0, gR_0_1, gR_0_2, gR_0_3, gR_0_4, gR_0_5, gR_0_6, gI_0_7, gR_0_8, gC_1, gR_1_0, gI_1_1, gR_1_2, gR_1_3, gR_1_4, gI_1_5, gI_1_6, gI_1_7, gI_1_8, gI_1_9, gL_1_10, gI_1_11, gI_1_12, gI_1_13, gI_1_14, gC_27, gR_27_0, gC_30, gR_30_0, gR_30_1, gI_30_2, gI_30_3, gI_30_4, gC_35, gR_35_0, gR_35_1, gI_35_2, gC_36, gR_36_0, gC_41, gR_41_0, gI_41_1, gI_41_2, gC_44, gR_44_0, gR_44_1, gI_44_2, gI_44_3, gC_49, gR_49_0, gR_49_1, gI_49_2, gI_49_3, gC_75, gI_75_0, gI_75_1, gI_75_2, gR_75_5, gI_75_6, gI_75_7, gI_75_8, gI_75_9, gI_75_10, gI_75_11, gI_75_12, gI_75_13, gL_75_14, gR_75_15, gR_75_16, gR_75_17, gR_75_18, gI_75_19, gI_75_20, gR_75_21, gR_75_22, gR_75_23, gI_75_24, gR_75_25, gI_75_26, gL_75_27, gL_75_28, gR_75_29, gR_75_30, gI_75_31, gR_75_3, gQ_75_3, gN_75_3, gR_75_4, gQ_75_4, gN_75_4, pI_0_7, pI_1_1, pI_1_5, pI_1_6, pI_1_7, pI_1_8, pI_1_9, pL_1_10, pI_1_11, pI_1_12, pI_1_13, pI_1_14, pI_30_2, pI_30_3, pI_30_4, pI_35_2, pI_41_1, pZ0_41_1, pZ1_41_1, pI_41_2, pI_44_2, pZ0_44_2, pZ1_44_2, pI_44_3, pI_49_2, pI_49_3, pI_75_0, pI_75_1, pI_75_2, pI_75_6, pI_75_7, pI_75_8, pI_75_9, pI_75_10, pI_75_11, pI_75_12, pI_75_13, pL_75_14, pI_75_19, pI_75_20, pI_75_24, pI_75_26, pL_75_27, pL_75_28, pI_75_31, Option.bind_some, q_b2_some, q_zr_0, q_zr_1, x10_fine, x10_refused, x12_good, x12_refused, h10, hx, if_false, e1, r2, cn]
        · intro u' v' hA' hc
          have q := ref_sday (v := v') ho hM h88 hA'.1 h2
          rw [show col (wr u' 75 0 0) M = col u M from funext hc] at q
          rcases q with ⟨d, c, Y', X', q1, q2, q3⟩ | ⟨Y', X', q1, q3⟩
          · rw [r1] at q1; cases q1
          · refine ⟨_, v', ?_, fm_keep (u := wr u' 75 0 0) (W := Y') (X := X') (G := wr u' 75 0 0 83) (a := wr u' 75 0 0 75 24), ?_⟩
            · simp -implicitDefEqProofs only [f_X12_soonestOf, gC_0, gR_0_0, gR_0_1, gR_0_2, gR_0_3, gR_0_4, gR_0_5, gR_0_6, gI_0_7, gR_0_8, gC_1, gR_1_0, gI_1_1, gR_1_2, gR_1_3, gR_1_4, gI_1_5, gI_1_6, gI_1_7, gI_1_8, gI_1_9, gL_1_10, gI_1_11, gI_1_12, gI_1_13, gI_1_14, gC_27, gR_27_0, gC_30, gR_30_0, gR_30_1, gI_30_2, gI_30_3, gI_30_4, gC_35, gR_35_0, gR_35_1, gI_35_2, gC_36, gR_36_0, gC_41, gR_41_0, gI_41_1, gI_41_2, gC_44, gR_44_0, gR_44_1, gI_44_2, gI_44_3, gC_49, gR_49_0, gR_49_1, gI_49_2, gI_49_3, gC_75, gI_75_0, gI_75_1, gI_75_2, gR_75_5, gI_75_6, gI_75_7, gI_75_8, gI_75_9, gI_75_10, gI_75_11, gI_75_12, gI_75_13, gL_75_14, gR_75_15, gR_75_16, gR_75_17, gR_75_18, gI_75_19, gI_75_20, gR_75_21, gR_75_22, gR_75_23, gI_75_24, gR_75_25, gI_75_26, gL_75_27, gL_75_28, gR_75_29, gR_75_30, gI_75_31, gR_75_3, gQ_75_3, gN_75_3, gR_75_4, gQ_75_4, gN_75_4, pI_0_7, pI_1_1, pI_1_5, pI_1_6, pI_1_7, pI_1_8, pI_1_9, pL_1_10, pI_1_11, pI_1_12, pI_1_13, pI_1_14, pI_30_2, pI_30_3, pI_30_4, pI_35_2, pI_41_1, pZ0_41_1, pZ1_41_1, pI_41_2, pI_44_2, pZ0_44_2, pZ1_44_2, pI_44_3, pI_49_2, pI_49_3, pI_75_0, pI_75_1, pI_75_2, pI_75_6, pI_75_7, pI_75_8, pI_75_9, pI_75_10, pI_75_11, pI_75_12, pI_75_13, pL_75_14, pI_75_19, pI_75_20, pI_75_24, pI_75_26, pL_75_27, pL_75_28, pI_75_31, Option.bind_some, q_b2_some, q_zr_0, q_zr_1, x10_fine, x10_refused, x12_good, x12_refused, mod_isThing hM (hA'.1.1 2 (by decide)).2.1, hx, if_false, q3, if_true]
            · rw [put_ne (by decide), fm_q (by decide) (by decide) (by decide), wr_role (by decide)]
      · have cp : (0 : Int32) ≤ nI d := Int32.not_lt.mp (nI_pos (by omega))
        obtain ⟨f1, f2, f3, f4⟩ := r4 t ht
        have g0 := get43 (T := T) (D := D) (c3 := fR M) (c4 := c4) (m := m) (u := u1) (v := v) (c := 0) ht4 (by decide)
        have g1 := get43 (T := T) (D := D) (c3 := fR M) (c4 := c4) (m := m) (u := u1) (v := v) (c := 1) ht4 (by decide)
        have g2 := get43 (T := T) (D := D) (c3 := fR M) (c4 := c4) (m := m) (u := u1) (v := v) (c := 2) ht4 (by decide)
        rw [nI_0, f2] at g0
        rw [show nI 1 = (1 : Int32) from rfl, f3] at g1
        rw [show nI 2 = (2 : Int32) from rfl, f4] at g2
        refine ⟨100 * nI (c t / 15) + 10 * nI (c t / 5 % 3) + nI (c t % 5), 0, u1, v, by decide, ?_, k1, w1, ?_⟩
        · simp -implicitDefEqProofs only [f_X10_soonestOf, f_X0_lastDay, f_X0_giftOf, gC_0, gR_0_0, gR_0_1, gR_0_2, gR_0_3, gR_0_4, gR_0_5, gR_0_6, gI_0_7, gR_0_8, gC_1, gR_1_0, gI_1_1, gR_1_2, gR_1_3, gR_1_4, gI_1_5, gI_1_6, gI_1_7, gI_1_8, gI_1_9, gL_1_10, gI_1_11, gI_1_12, gI_1_13, gI_1_14, gC_27, gR_27_0, gC_30, gR_30_0, gR_30_1, gI_30_2, gI_30_3, gI_30_4, gC_35, gR_35_0, gR_35_1, gI_35_2, gC_36, gR_36_0, gC_41, gR_41_0, gI_41_1, gI_41_2, gC_44, gR_44_0, gR_44_1, gI_44_2, gI_44_3, gC_49, gR_49_0, gR_49_1, gI_49_2, gI_49_3, gC_75, gI_75_0, gI_75_1, gI_75_2, gR_75_5, gI_75_6, gI_75_7, gI_75_8, gI_75_9, gI_75_10, gI_75_11, gI_75_12, gI_75_13, gL_75_14, gR_75_15, gR_75_16, gR_75_17, gR_75_18, gI_75_19, gI_75_20, gR_75_21, gR_75_22, gR_75_23, gI_75_24, gR_75_25, gI_75_26, gL_75_27, gL_75_28, gR_75_29, gR_75_30, gI_75_31, gR_75_3, gQ_75_3, gN_75_3, gR_75_4, gQ_75_4, gN_75_4, pI_0_7, pI_1_1, pI_1_5, pI_1_6, pI_1_7, pI_1_8, pI_1_9, pL_1_10, pI_1_11, pI_1_12, pI_1_13, pI_1_14, pI_30_2, pI_30_3, pI_30_4, pI_35_2, pI_41_1, pZ0_41_1, pZ1_41_1, pI_41_2, pI_44_2, pZ0_44_2, pZ1_44_2, pI_44_3, pI_49_2, pI_49_3, pI_75_0, pI_75_1, pI_75_2, pI_75_6, pI_75_7, pI_75_8, pI_75_9, pI_75_10, pI_75_11, pI_75_12, pI_75_13, pL_75_14, pI_75_19, pI_75_20, pI_75_24, pI_75_26, pL_75_27, pL_75_28, pI_75_31, Option.bind_some, q_b2_some, q_zr_0, q_zr_1, x10_fine, x10_refused, x12_good, x12_refused, h10, hx, if_false, e1, r2, cp, if_true, g0, g1, g2]
        · intro u' v' hA' hc
          have q := ref_sday (v := v') ho hM h88 hA'.1 h2
          rw [show col (wr u' 75 0 0) M = col u M from funext hc] at q
          rcases q with ⟨d', c', Y', X', q1, q2, q3⟩ | ⟨Y', X', q1, q3⟩
          · rw [r1] at q1
            cases q1
            obtain ⟨-, y2⟩ := q2 t ht
            have cd : ¬ nI d = -2 := fun z => absurd (show nI d < 0 by rw [z]; decide) (nI_pos (by omega))
            have w31 : c t < 2 ^ 31 := by omega
            refine ⟨_, v', ?_, fm_keep (u := wr u' 75 0 0) (W := Y') (X := X') (G := wr u' 75 0 0 83) (a := wr u' 75 0 0 75 24), ?_⟩
            · simp -implicitDefEqProofs only [f_X12_soonestOf, gC_0, gR_0_0, gR_0_1, gR_0_2, gR_0_3, gR_0_4, gR_0_5, gR_0_6, gI_0_7, gR_0_8, gC_1, gR_1_0, gI_1_1, gR_1_2, gR_1_3, gR_1_4, gI_1_5, gI_1_6, gI_1_7, gI_1_8, gI_1_9, gL_1_10, gI_1_11, gI_1_12, gI_1_13, gI_1_14, gC_27, gR_27_0, gC_30, gR_30_0, gR_30_1, gI_30_2, gI_30_3, gI_30_4, gC_35, gR_35_0, gR_35_1, gI_35_2, gC_36, gR_36_0, gC_41, gR_41_0, gI_41_1, gI_41_2, gC_44, gR_44_0, gR_44_1, gI_44_2, gI_44_3, gC_49, gR_49_0, gR_49_1, gI_49_2, gI_49_3, gC_75, gI_75_0, gI_75_1, gI_75_2, gR_75_5, gI_75_6, gI_75_7, gI_75_8, gI_75_9, gI_75_10, gI_75_11, gI_75_12, gI_75_13, gL_75_14, gR_75_15, gR_75_16, gR_75_17, gR_75_18, gI_75_19, gI_75_20, gR_75_21, gR_75_22, gR_75_23, gI_75_24, gR_75_25, gI_75_26, gL_75_27, gL_75_28, gR_75_29, gR_75_30, gI_75_31, gR_75_3, gQ_75_3, gN_75_3, gR_75_4, gQ_75_4, gN_75_4, pI_0_7, pI_1_1, pI_1_5, pI_1_6, pI_1_7, pI_1_8, pI_1_9, pL_1_10, pI_1_11, pI_1_12, pI_1_13, pI_1_14, pI_30_2, pI_30_3, pI_30_4, pI_35_2, pI_41_1, pZ0_41_1, pZ1_41_1, pI_41_2, pI_44_2, pZ0_44_2, pZ1_44_2, pI_44_3, pI_49_2, pI_49_3, pI_75_0, pI_75_1, pI_75_2, pI_75_6, pI_75_7, pI_75_8, pI_75_9, pI_75_10, pI_75_11, pI_75_12, pI_75_13, pL_75_14, pI_75_19, pI_75_20, pI_75_24, pI_75_26, pL_75_27, pL_75_28, pI_75_31, Option.bind_some, q_b2_some, q_zr_0, q_zr_1, x10_fine, x10_refused, x12_good, x12_refused, mod_isThing hM (hA'.1.1 2 (by decide)).2.1, hx, if_false, q3, cd, aI_82 ht4, fm_82, y2, w_day w31, w_giver w31, w_person w31]
            · rw [put_ne (by decide), fm_q (by decide) (by decide) (by decide), wr_role (by decide)]
          · rw [r1] at q1; cases q1
end SFX
