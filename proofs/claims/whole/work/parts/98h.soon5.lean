/-- the last one of the same person -/
theorem lst_of {ch : Nat → Nat} {t : Nat} : ∀ (r : Nat), ∃ i, t ≤ i ∧ i < t + 1 + r ∧ ch i % 5 = ch t % 5 ∧ ∀ j, i + 1 ≤ j → j < t + 1 + r → ¬ ch j % 5 = ch t % 5 := by
  intro r
  induction r with
  | zero => exact ⟨t, by omega, by omega, rfl, fun j a b => by omega⟩
  | succ r ih =>
    obtain ⟨i, h1, h2, h3, h4⟩ := ih
    by_cases c : ch (t + 1 + r) % 5 = ch t % 5
    · exact ⟨t + 1 + r, by omega, by omega, c, fun j a b => by omega⟩
    · refine ⟨i, h1, by omega, h3, fun j a b => ?_⟩
      by_cases cj : j = t + 1 + r
      · rw [cj]; exact c
      · exact h4 j a (by omega)
theorem sb_all {T M : Nat} {u : mU} {N : Nat → Nat} {ch : Nat → Nat} {n : Nat} (h : relC u T M N) (hn : n ≤ N 2) (hi : ∀ j, j < n → ch j < 105 ∧ ch j / 5 % 3 < N 5 ∧ ch j % 5 < N 3) : (∀ k, k < n → alD (sbP (col u M) ch k) (k + 1) = true) ↔ ∀ t, t < n → stS (col u M) ch n t = true := by
  have b2 : N 2 ≤ 4 := (bndN_of h.1).2.2.1
  constructor
  · intro H t ht
    obtain ⟨i, h1, h2, h3, h4⟩ := lst_of (ch := ch) (t := t) (n - (t + 1))
    have a := (alD_iff (i + 1)).mp (H i (by omega)) t (by omega)
    unfold sbP at a
    rw [decide_eq_false (not_not_intro h3.symm), Bool.false_or] at a
    have e : hd ch t n = hd ch t (i + 1) := by
      have := hd_stop (ch := ch) (t := t) (i := i + 1) (n - (i + 1)) (fun j a b => h4 j a (by omega))
      rw [show i + 1 + (n - (i + 1)) = n by omega] at this
      exact this
    unfold stS at a ⊢
    rw [e]
    exact a
  · intro H k hk
    rw [alD_iff]
    intro j hj
    unfold sbP
    rw [Bool.or_eq_true]
    refine Or.inr ?_
    have a := H j (by omega)
    obtain ⟨w1, w2, w3⟩ := hi j (by omega)
    unfold stS at a ⊢
    have m1 := hd_mono (ch := ch) (t := j) (k + 1) (n - (k + 1))
    rw [show k + 1 + (n - (k + 1)) = n by omega] at m1
    have m2 := hd_le (ch := ch) (t := j) n
    exact can_mono h w2 (by omega) w3 (by omega) m1 (by omega) a
