/-! ===== rows of trams chosen: digits of a number, low first ===== -/
def dgt (n x j : Nat) : Nat := x / n ^ j % n
theorem cN_front {p : Nat → Bool} : ∀ n, cN p (n + 1) = (if p 0 = true then 1 else 0) + cN (fun i => p (i + 1)) n := by
  intro n
  induction n with
  | zero => simp -implicitDefEqProofs only [cN, Nat.zero_add, Nat.add_zero]
  | succ n ih =>
    have e : cN p (n + 1 + 1) = cN p (n + 1) + (if p (n + 1) = true then 1 else 0) := rfl
    have e2 : cN (fun i => p (i + 1)) (n + 1) = cN (fun i => p (i + 1)) n + (if p (n + 1) = true then 1 else 0) := rfl
    rw [e, e2, ih, Nat.add_assoc]
theorem cN_rev {p : Nat → Bool} : ∀ n, cN (fun i => p (n - 1 - i)) n = cN p n := by
  intro n
  induction n with
  | zero => rfl
  | succ n ih =>
    rw [cN_front]
    show _ = cN p n + _
    rw [← ih, show n + 1 - 1 - 0 = n by omega, Nat.add_comm]
    congr 1
    apply cN_same
    intro k hk
    rw [show n + 1 - 1 - (k + 1) = n - 1 - k by omega]
def rid (n P x k : Nat) : Nat := cN (fun j => decide (dgt n x j = k)) P
theorem dgt_lt {n x j : Nat} (hn : 0 < n) : dgt n x j < n := Nat.mod_lt _ hn
/-- one more: the low j digits of x are all the greatest -/
theorem odo {n x j : Nat} (hn : 0 < n) (h : (x + 1) % n ^ j = 0) : (x + 1) / n ^ j = x / n ^ j + 1 := by
  have hp : 0 < n ^ j := Nat.pow_pos hn
  have e1 := Nat.div_add_mod (x + 1) (n ^ j)
  have e2 := Nat.div_add_mod x (n ^ j)
  have e3 := Nat.mod_lt x hp
  rw [h, Nat.add_zero] at e1
  generalize x % n ^ j = r at e2 e3
  generalize (x + 1) / n ^ j = b at *
  generalize x / n ^ j = a at *
  generalize n ^ j = q at *
  have h1 : a < b := by
    apply Nat.lt_of_not_le
    intro z
    have := Nat.mul_le_mul_left q z
    omega
  have h2 : b ≤ a + 1 := by
    apply Nat.le_of_not_lt
    intro z
    have : q * (a + 2) ≤ q * b := Nat.mul_le_mul_left q z
    rw [Nat.mul_add] at this
    omega
  omega
theorem dgt_low {n x j i : Nat} (hn : 0 < n) (h : (x + 1) % n ^ j = 0) (hi : i < j) : dgt n (x + 1) i = 0 := by
  unfold dgt
  have hd : n ^ (i + 1) ∣ n ^ j := Nat.pow_dvd_pow n (by omega)
  have h1 : n ^ (i + 1) ∣ x + 1 := Nat.dvd_trans hd (Nat.dvd_of_mod_eq_zero h)
  obtain ⟨c, hc⟩ := h1
  rw [hc, Nat.pow_succ, Nat.mul_assoc, Nat.mul_div_cancel_left _ (Nat.pow_pos hn), Nat.mul_mod_right]
theorem dgt_at {n x j : Nat} (hn : 0 < n) (h : (x + 1) % n ^ j = 0) (hd : dgt n x j + 1 < n) : dgt n (x + 1) j = dgt n x j + 1 := by
  unfold dgt at *
  rw [odo hn h, Nat.add_mod, Nat.mod_eq_of_lt (show 1 < n by omega), Nat.mod_eq_of_lt hd]
theorem div_pow_add {n y j i : Nat} : y / n ^ (j + i) = y / n ^ j / n ^ i := by
  rw [Nat.pow_add, Nat.div_div_eq_div_mul]
theorem dgt_high {n x j i : Nat} (hn : 0 < n) (h : (x + 1) % n ^ j = 0) (hd : dgt n x j + 1 < n) (hi : j < i) : dgt n (x + 1) i = dgt n x i := by
  unfold dgt at *
  obtain ⟨k, rfl⟩ : ∃ k, i = j + (1 + k) := ⟨i - j - 1, by omega⟩
  rw [div_pow_add, div_pow_add (y := x), odo hn h]
  generalize x / n ^ j = y at *
  rw [div_pow_add (y := y + 1), div_pow_add (y := y), Nat.pow_one]
  have : (y + 1) / n = y / n := by
    have e1 := Nat.div_add_mod y n
    have e2 : y + 1 = (y % n + 1) + n * (y / n) := by omega
    rw [e2, Nat.add_mul_div_left _ _ hn, Nat.div_eq_of_lt hd, Nat.zero_add]
  rw [this]
theorem odo_next {n x j : Nat} (hn : 0 < n) (h : (x + 1) % n ^ j = 0) (hd : ¬ dgt n x j + 1 < n) : (x + 1) % n ^ (j + 1) = 0 := by
  have hl := dgt_lt (x := x) (j := j) hn
  have he : dgt n x j = n - 1 := by omega
  unfold dgt at he
  have e1 := odo hn h
  have e2 := Nat.div_add_mod (x + 1) (n ^ j)
  rw [h, Nat.add_zero, e1] at e2
  have e3 := Nat.div_add_mod (x / n ^ j) n
  rw [he] at e3
  have e4 : x / n ^ j + 1 = n * (x / n ^ j / n + 1) := by
    rw [Nat.mul_add]
    omega
  rw [← e2, e4, Nat.pow_succ, ← Nat.mul_assoc, Nat.mul_mod_right]
/-- shares and rest -/
def shr (gv : Nat → Nat) (k r : Nat) : Nat := 60 * gv k / r
def rsP (gv : Nat → Nat) (n P x : Nat) : Bool := decide (∀ k, k < n → 0 < rid n P x k → ∀ k', k' < n → shr gv k' (rid n P x k' + 1) ≤ shr gv k (rid n P x k))
def lsR (gv : Nat → Nat) (rd : Nat → Nat) : Nat → Nat
  | 0 => 180
  | k + 1 => if rd k = 0 then lsR gv rd k else min (lsR gv rd k) (shr gv k (rd k))
def grR (gv : Nat → Nat) (rd : Nat → Nat) : Nat → Nat
  | 0 => 0
  | k + 1 => max (grR gv rd k) (shr gv k (rd k + 1))
theorem shr_le {gv : Nat → Nat} {k r : Nat} (h : gv k ≤ 3) : shr gv k r ≤ 180 := by
  unfold shr
  exact Nat.le_trans (Nat.div_le_self _ _) (by omega)
theorem ls_iff {gv rd : Nat → Nat} {y : Nat} (hy : y ≤ 180) : ∀ n, y ≤ lsR gv rd n ↔ ∀ k, k < n → 0 < rd k → y ≤ shr gv k (rd k) := by
  intro n
  induction n with
  | zero => exact ⟨fun _ k hk => absurd hk (by omega), fun _ => hy⟩
  | succ n ih =>
    unfold lsR
    by_cases c : rd n = 0
    · rw [if_pos c, ih]
      constructor
      · intro h k hk h0
        by_cases ck : k = n
        · subst ck; omega
        · exact h k (by omega) h0
      · intro h k hk h0
        exact h k (by omega) h0
    · rw [if_neg c]
      constructor
      · intro h k hk h0
        by_cases ck : k = n
        · subst ck
          exact Nat.le_trans h (Nat.min_le_right _ _)
        · exact ih.mp (Nat.le_trans h (Nat.min_le_left _ _)) k (by omega) h0
      · intro h
        exact Nat.le_min.mpr ⟨ih.mpr (fun k hk h0 => h k (by omega) h0), h n (by omega) (by omega)⟩
theorem gr_iff {gv rd : Nat → Nat} {y : Nat} : ∀ n, grR gv rd n ≤ y ↔ ∀ k, k < n → shr gv k (rd k + 1) ≤ y := by
  intro n
  induction n with
  | zero => exact ⟨fun _ k hk => absurd hk (by omega), fun _ => Nat.zero_le _⟩
  | succ n ih =>
    unfold grR
    rw [Nat.max_le, ih]
    constructor
    · rintro ⟨h1, h2⟩ k hk
      by_cases ck : k = n
      · subst ck; exact h2
      · exact h1 k (by omega)
    · intro h
      exact ⟨fun k hk => h k (by omega), h n (by omega)⟩
theorem rest_iff {gv : Nat → Nat} {n P x : Nat} (hg : ∀ k, gv k ≤ 3) : grR gv (rid n P x) n ≤ lsR gv (rid n P x) n ↔ rsP gv n P x = true := by
  unfold rsP
  rw [decide_eq_true_iff, gr_iff]
  constructor
  · intro h k hk h0 k' hk'
    exact (ls_iff (by have := shr_le (k := k') (r := rid n P x k' + 1) (hg k'); omega) n).mp (h k' hk') k hk h0
  · intro h k' hk'
    exact (ls_iff (by have := shr_le (k := k') (r := rid n P x k' + 1) (hg k'); omega) n).mpr (fun k hk h0 => h k hk h0 k' hk')
theorem cN_pos {p : Nat → Bool} : ∀ n, 0 < cN p n ↔ ∃ k, k < n ∧ p k = true := by
  intro n
  induction n with
  | zero => exact ⟨fun h => absurd h (Nat.lt_irrefl 0), fun ⟨k, hk, _⟩ => absurd hk (by omega)⟩
  | succ n ih =>
    unfold cN
    constructor
    · intro h
      by_cases c : p n = true
      · exact ⟨n, by omega, c⟩
      · rw [if_neg c] at h
        obtain ⟨k, h1, h2⟩ := ih.mp (by omega)
        exact ⟨k, by omega, h2⟩
    · rintro ⟨k, h1, h2⟩
      by_cases c : k = n
      · rw [c] at h2
        rw [if_pos h2]
        omega
      · have := ih.mpr ⟨k, by omega, h2⟩
        omega
theorem shr_mono {gv : Nat → Nat} {k r : Nat} : shr gv k (r + 1) ≤ shr gv k r ∨ r = 0 := by
  by_cases c : r = 0
  · exact Or.inr c
  · exact Or.inl (Nat.div_le_div_left (by omega) (by omega))
/-- the model's test: nobody gains by another tram -/
def rsM (gv : Nat → Nat) (n P x : Nat) : Bool := allB (fun p => allB (fun k => decide (k = dgt n x (P - 1 - p)) || decide (shr gv k (rid n P x k + 1) ≤ shr gv (dgt n x (P - 1 - p)) (rid n P x (dgt n x (P - 1 - p))))) n 0) P 0
theorem rsM_eq {gv : Nat → Nat} {n P x : Nat} (hn : 0 < n) : rsM gv n P x = rsP gv n P x := by
  apply Bool.eq_iff_iff.mpr
  unfold rsM rsP
  rw [decide_eq_true_iff, allB_iff]
  constructor
  · intro h k hk h0 k' hk'
    obtain ⟨j, hj, hd⟩ := (cN_pos P).mp h0
    have hd := of_decide_eq_true hd
    have h1 := (allB_iff _ _).mp (h (P - 1 - j) (by omega) (by omega)) k' (by omega) (by omega)
    rw [show P - 1 - (P - 1 - j) = j by omega, hd, Bool.or_eq_true, decide_eq_true_iff, decide_eq_true_iff] at h1
    rcases h1 with h1 | h1
    · rw [h1]
      rcases shr_mono (gv := gv) (k := k) (r := rid n P x k) with h2 | h2
      · exact h2
      · omega
    · exact h1
  · intro h p _ hp
    rw [allB_iff]
    intro k _ hk
    rw [Bool.or_eq_true, decide_eq_true_iff, decide_eq_true_iff]
    right
    exact h _ (dgt_lt hn) ((cN_pos P).mpr ⟨P - 1 - p, by omega, decide_eq_true rfl⟩) k (by omega)
