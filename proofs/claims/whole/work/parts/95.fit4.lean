section FMF
variable {T D m M : Nat} {c4 : sF} {u : mU} {v : mV} {N : Nat → Nat}
theorem fnd_m (ho : okTD T D) (hM : 88 ≤ M) (h : relC u T M N) {k : Nat} (hk : k < N 8) : fT (col u M) k < N 2 ∧ fP (col u M) k < N 3 ∧ u (M + 4) k = nI (fT (col u M) k) ∧ u (M + 3) (fT (col u M) k) = nI (fP (col u M) k) := by
  have b3 : N 3 ≤ 5 := (bndN_of h.1).2.2.2.1
  obtain ⟨t, p, ht, hp, e0, e1, e2, e3, e4⟩ := fnd_at h hk
  have e5 : fT (col u M) k = t := e0
  have e6 : fP (col u M) k = p := by
    show kI (col u M) 3 (kI (col u M) 4 k) = p
    rw [e0]
    show (u (M + 3) t).toNatClampNeg = p
    rw [e2, nI_clamp (by omega)]
  rw [e5, e6]
  exact ⟨ht, hp, e1, e2⟩
theorem ref_free {w : Nat → Nat} {W G X : Nat → Int32} {a : Int32} {k : Nat} (hk : k < 4) (hw : ∀ j, j ≤ k → w j < 105 ∧ W j = nI (w j)) : f_X12_isFree (Rep (SH T D (fR M) c4 m) (put (fmB u W G a) 78 X) v) 75 (nI k) = some (bI (fre (fun j => w j / 5) k (w k / 5))) := by
  have go : ∀ (r j f : Nat), j + r = k → r < f → L_X12_isFree_2 (Rep (SH T D (fR M) c4 m) (put (fmB u W G a) 78 X) v) f 75 (nI k) (nI j) = some (bI (allB (fun j => decide (¬ w j / 5 = w k / 5)) r j)) := by
    intro r
    induction r with
    | zero =>
      intro j f hj hf
      obtain ⟨f, rfl⟩ : ∃ f', f = f' + 1 := ⟨f - 1, by omega⟩
      have c : nI k ≤ nI j := nI_le (by omega) (by omega)
      rw [L_X12_isFree_2, if_pos c]
      rfl
    | succ r ih =>
      intro j f hj hf
      obtain ⟨f, rfl⟩ : ∃ f', f = f' + 1 := ⟨f - 1, by omega⟩
      have c : ¬ nI k ≤ nI j := nI_ge (by omega) (by omega)
      have hi := ih (j + 1) f (by omega) (by omega)
      obtain ⟨w1, e1⟩ := hw j (by omega)
      obtain ⟨w2, e2⟩ := hw k (by omega)
      have p1 : (nI (w j / 15) = nI (w k / 15)) = (w j / 15 = w k / 15) := propext (nI_eq (by omega) (by omega))
      have p2 : (nI (w j / 5 % 3) = nI (w k / 5 % 3)) = (w j / 5 % 3 = w k / 5 % 3) := propext (nI_eq (by omega) (by omega))
      have hs : allB (fun j => decide (¬ w j / 5 = w k / 5)) (r + 1) j = (decide (¬ w j / 5 = w k / 5) && allB (fun j => decide (¬ w j / 5 = w k / 5)) r (j + 1)) := rfl
      rw [hs]
      by_cases c1 : w j / 15 = w k / 15
      · by_cases c2 : w j / 5 % 3 = w k / 5 % 3
        · have c3 : ¬ ¬ w j / 5 = w k / 5 := by omega
          rw [decide_eq_false c3, Bool.false_and]
          simp -implicitDefEqProofs only [L_X12_isFree_2, c, if_false, gR_75_22, Option.bind_some, aI_82 (show j < 4 by omega), aI_82 hk, fm_82, e1, e2, w_day (show w j < 2 ^ 31 by omega), w_day (show w k < 2 ^ 31 by omega), w_giver (show w j < 2 ^ 31 by omega), w_giver (show w k < 2 ^ 31 by omega), p1, p2, c1, c2, if_true]
          rfl
        · have c3 : ¬ w j / 5 = w k / 5 := by omega
          rw [decide_eq_true c3, Bool.true_and, ← hi]
          simp -implicitDefEqProofs only [L_X12_isFree_2, c, if_false, gR_75_22, Option.bind_some, aI_82 (show j < 4 by omega), aI_82 hk, fm_82, e1, e2, w_day (show w j < 2 ^ 31 by omega), w_day (show w k < 2 ^ 31 by omega), w_giver (show w j < 2 ^ 31 by omega), w_giver (show w k < 2 ^ 31 by omega), p1, p2, c1, c2, if_true, nI_1]
      · have c3 : ¬ w j / 5 = w k / 5 := by omega
        rw [decide_eq_true c3, Bool.true_and, ← hi]
        simp -implicitDefEqProofs only [L_X12_isFree_2, c, if_false, gR_75_22, Option.bind_some, aI_82 (show j < 4 by omega), aI_82 hk, fm_82, e1, e2, w_day (show w j < 2 ^ 31 by omega), w_day (show w k < 2 ^ 31 by omega), w_giver (show w j < 2 ^ 31 by omega), w_giver (show w k < 2 ^ 31 by omega), p1, c1, nI_1]
  have e := go k 0 1000000000 (by omega) (by omega)
  rw [nI_0] at e
  unfold f_X12_isFree fre
  rw [gC_75, Option.bind_some, e]
/-- whether way x will do for found thing k after the ways w -/
def fOk (K : cK) (N : Nat → Nat) (ch : Nat → Nat) (k x : Nat) : Bool := decide (x % 5 = fP K k) && (alo K N (fT K k) x && fre ch k (x / 5))
theorem ref_found {w : Nat → Nat} {W G X : Nat → Int32} {a : Int32} {k : Nat} (ho : okTD T D) (hMs : mSh (SH T D (fR M) c4 m) M) (hM : 88 ≤ M) (h : relC u T M N) (hk : k < N 8) (hw : ∀ j, j ≤ k → w j < 105 ∧ W j = nI (w j)) : ∃ X', f_X12_isFound (Rep (SH T D (fR M) c4 m) (put (fmB u W G a) 78 X) v) 75 (nI k) = some (bI (fOk (col u M) N (fun j => w j / 5) k (w k)), Rep (SH T D (fR M) c4 m) (put (fmB u W G a) 78 X') v) := by
  have hb := bndN_of h.1
  have b2 : N 2 ≤ 4 := hb.2.2.1
  have b3 : N 3 ≤ 5 := hb.2.2.2.1
  have b8 : N 8 ≤ 4 := hb.2.2.2.2.2.2.2.2.1
  obtain ⟨ht, hp, e3, e4⟩ := fnd_m ho hM h hk
  obtain ⟨w2, e2⟩ := hw k (by omega)
  have hk4 : k < 4 := by omega
  have ht4 : fT (col u M) k < 4 := by omega
  obtain ⟨X', e5⟩ := ref_alone (v := v) (c4 := c4) (m := m) ho hMs hM (fm_relC (W := W) (G := G) (a := a) ho hM h) ht w2 X
  rw [fm_col hM] at e5
  have p1 : (nI (w k % 5) = nI (fP (col u M) k)) = (w k % 5 = fP (col u M) k) := propext (nI_eq (by omega) (by omega))
  have e6 := ref_free (T := T) (D := D) (m := m) (M := M) (c4 := c4) (u := u) (v := v) (G := G) (X := X') (a := a) hk4 hw
  have w31 : w k < 2 ^ 31 := by omega
  unfold fOk
  by_cases c1 : w k % 5 = fP (col u M) k
  · refine ⟨X', ?_⟩
    rw [decide_eq_true c1, Bool.true_and]
    unfold f_X12_isFound
    rw [gC_75, Option.bind_some, gR_75_3, Option.bind_some, mR_14 hMs, Option.bind_some, ma_4 hMs hk4, fm_M hM, e3, Option.bind_some, gR_75_22, Option.bind_some, aI_82 hk4, fm_82, e2, Option.bind_some, w_person w31, Option.bind_some, Option.bind_some, mR_13 hMs, Option.bind_some, ma_3 hMs ht4, fm_M hM, e4, Option.bind_some, if_pos (p1.mpr c1), Option.bind_some, aI_82 hk4, fm_82, e2, Option.bind_some, e5]
    cases alo (col u M) N (fT (col u M) k) (w k) with
    | false => rfl
    | true =>
      show ((f_X12_isFree _ 75 (nI k)).bind fun v14 => _) = _
      rw [e6, Option.bind_some, Bool.true_and]
      cases fre (fun j => w j / 5) k (w k / 5) <;> rfl
  · refine ⟨X, ?_⟩
    rw [decide_eq_false c1, Bool.false_and]
    unfold f_X12_isFound
    rw [gC_75, Option.bind_some, gR_75_3, Option.bind_some, mR_14 hMs, Option.bind_some, ma_4 hMs hk4, fm_M hM, e3, Option.bind_some, gR_75_22, Option.bind_some, aI_82 hk4, fm_82, e2, Option.bind_some, w_person w31, Option.bind_some, Option.bind_some, mR_13 hMs, Option.bind_some, ma_3 hMs ht4, fm_M hM, e4, Option.bind_some, if_neg (fun z => c1 (p1.mp z))]
    rfl
end FMF
