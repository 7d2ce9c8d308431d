section MON
variable {T D m M : Nat} {u : mU} {N : Nat → Nat} {g t p d a b : Nat}
theorem nrN_mono {X Y kd : Nat} (h : a ≤ b) : nrN X Y kd a ≤ nrN X Y kd b := by
  unfold nrN
  by_cases c : kd = 3
  · rw [if_pos c, if_pos c]; omega
  · rw [if_neg c, if_neg c]; omega
/-- who can give with more already had, can with fewer -/
theorem can_mono (h : relC u T M N) (hg : g < N 5) (ht : t < N 2) (hp : p < N 3) (hd : d < 7) (hab : a ≤ b) (hb : b ≤ 10) (hc : s_can (col u M) g t p d b = true) : s_can (col u M) g t p d a = true := by
  unfold s_can at hc ⊢
  rw [Bool.and_eq_true, Bool.and_eq_true] at hc ⊢
  obtain ⟨c1, c2, c3⟩ := hc
  have t1 := of_decide_eq_true c1
  obtain ⟨-, htr⟩ := tog_tr h hg hp hd t1
  obtain ⟨X, Y, kd, hn⟩ := near_N h.2.2.2.2.2.2.2.2.2.2 hg ht hp htr
  refine ⟨c1, decide_eq_true ?_, decide_eq_true ?_⟩
  · exact Int32.lt_of_le_of_lt (nI_le hab (by omega)) (of_decide_eq_true c2)
  · have e := of_decide_eq_true c3
    rw [hn b hb] at e
    rw [hn a (by omega)]
    refine Int32.le_trans (nI_le (nrN_mono hab) ?_) e
    have : nrN X Y kd b ≤ 100 := by unfold nrN; omega
    omega
end MON
/-! how many were had before, among the first n of a row of ways -/
def bfS (ch : Nat → Nat) (t j : Nat) : Bool := decide (ch j % 5 = ch t % 5) && decide (ch j / 15 < ch t / 15 ∨ (ch j / 15 = ch t / 15 ∧ j < t))
def hd (ch : Nat → Nat) (t : Nat) : Nat → Nat
  | 0 => 0
  | n + 1 => hd ch t n + if bfS ch t n = true then 1 else 0
theorem hd_mono {ch : Nat → Nat} {t : Nat} : ∀ (n k : Nat), hd ch t n ≤ hd ch t (n + k) := by
  intro n k
  induction k with
  | zero => exact Nat.le_refl _
  | succ k ih =>
    refine Nat.le_trans ih ?_
    show hd ch t (n + k) ≤ hd ch t (n + k) + _
    omega
theorem hd_le {ch : Nat → Nat} {t : Nat} : ∀ (n : Nat), hd ch t n ≤ n := by
  intro n
  induction n with
  | zero => exact Nat.le_refl _
  | succ n ih =>
    show hd ch t n + (if bfS ch t n = true then 1 else 0) ≤ n + 1
    by_cases c : bfS ch t n = true
    · rw [if_pos c]; omega
    · rw [if_neg c]; omega
theorem hd_congr {ch ch' : Nat → Nat} {t : Nat} : ∀ (n : Nat), ch t = ch' t → (∀ j, j < n → ch j = ch' j) → hd ch t n = hd ch' t n := by
  intro n ht
  induction n with
  | zero => intro _; rfl
  | succ n ih =>
    intro h
    show hd ch t n + (if bfS ch t n = true then 1 else 0) = hd ch' t n + (if bfS ch' t n = true then 1 else 0)
    rw [ih (fun j hj => h j (by omega))]
    unfold bfS
    rw [ht, h n (by omega)]
/-- later ones of other people do not count -/
theorem hd_stop {ch : Nat → Nat} {t i : Nat} : ∀ (k : Nat), (∀ j, i ≤ j → j < i + k → ¬ ch j % 5 = ch t % 5) → hd ch t (i + k) = hd ch t i := by
  intro k
  induction k with
  | zero => intro _; rfl
  | succ k ih =>
    intro h
    show hd ch t (i + k) + (if bfS ch t (i + k) = true then 1 else 0) = hd ch t i
    rw [ih (fun j a b => h j a (by omega))]
    have : bfS ch t (i + k) = false := by
      unfold bfS
      rw [decide_eq_false (h (i + k) (by omega) (by omega)), Bool.false_and]
    rw [this, if_neg (by decide)]
    rfl
