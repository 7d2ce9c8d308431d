/-! ===== ranks of the trams by worth ===== -/
def bfr (w : Nat → Nat) (i j : Nat) : Bool := decide (w j < w i) || (decide (w i = w j) && decide (i < j))
def rk (w : Nat → Nat) (n i : Nat) : Nat := cN (fun j => bfr w j i) n
theorem bfr_iff {w : Nat → Nat} {i j : Nat} : bfr w i j = true ↔ (w j < w i ∨ (w i = w j ∧ i < j)) := by
  unfold bfr
  rw [Bool.or_eq_true, Bool.and_eq_true, decide_eq_true_iff, decide_eq_true_iff, decide_eq_true_iff]
theorem cN_mono {p q : Nat → Bool} : ∀ n, (∀ k, k < n → p k = true → q k = true) → cN p n ≤ cN q n := by
  intro n
  induction n with
  | zero => intro _; exact Nat.le_refl _
  | succ n ih =>
    intro h
    unfold cN
    have h1 := ih (fun k hk => h k (by omega))
    have h2 := h n (by omega)
    cases c1 : p n <;> cases c2 : q n <;> simp_all <;> omega
theorem cN_lt {p q : Nat → Bool} {k0 : Nat} (h1 : p k0 = false) (h2 : q k0 = true) : ∀ n, k0 < n → (∀ k, k < n → p k = true → q k = true) → cN p n < cN q n := by
  intro n
  induction n with
  | zero => intro h _; omega
  | succ n ih =>
    intro hk h
    unfold cN
    by_cases c : k0 = n
    · subst c
      have := cN_mono k0 (fun k hk => h k (by omega))
      rw [h1, h2]
      simp
      omega
    · have h3 := ih (by omega) (fun k hk => h k (by omega))
      have h4 := h n (by omega)
      cases c1 : p n <;> cases c2 : q n <;> simp_all <;> omega
theorem rk_lt {w : Nat → Nat} {n i j : Nat} (hi : i < n) (h : bfr w i j = true) : rk w n i < rk w n j := by
  unfold rk
  have hb := bfr_iff.mp h
  refine cN_lt (k0 := i) ?_ h n hi ?_
  · cases c : bfr w i i with
    | false => rfl
    | true => have := bfr_iff.mp c; omega
  · intro k hk hc
    have := bfr_iff.mp hc
    exact bfr_iff.mpr (by omega)
theorem rk_bound {w : Nat → Nat} {n i : Nat} (hi : i < n) : rk w n i < n := by
  unfold rk
  have h1 : ∀ m, cN (fun _ => true) m = m := by
    intro m
    induction m with
    | zero => rfl
    | succ m ih => unfold cN; rw [ih]; simp
  have := cN_lt (p := fun j => bfr w j i) (q := fun _ => true) (k0 := i) (by
    cases c : bfr w i i with
    | false => rfl
    | true => have := bfr_iff.mp c; omega) rfl n hi (fun _ _ _ => rfl)
  rw [h1] at this
  exact this
theorem rk_inj {w : Nat → Nat} {n i j : Nat} (hi : i < n) (hj : j < n) (h : rk w n i = rk w n j) : i = j := by
  by_cases c : i = j
  · exact c
  · exfalso
    by_cases c1 : bfr w i j = true
    · have := rk_lt hi c1
      omega
    · have c2 : bfr w j i = true := by
        apply bfr_iff.mpr
        by_cases c3 : bfr w i j = true
        · exact absurd c3 c1
        · have : ¬ (w j < w i ∨ (w i = w j ∧ i < j)) := fun z => c3 (bfr_iff.mpr z)
          omega
      have := rk_lt hj c2
      omega
/-- a row of trams in their order -/
def Sd (w r : Nat → Nat) (k : Nat) : Prop := (∀ j, j < k → r j < k) ∧ ∀ j, j + 1 < k → bfr w (r j) (r (j + 1)) = true
theorem rk_Sd {w r : Nat → Nat} {n : Nat} (h : Sd w r n) : ∀ k, k < n → rk w n (r k) = k := by
  have lo : ∀ k, k < n → k ≤ rk w n (r k) := by
    intro k
    induction k with
    | zero => intro _; omega
    | succ k ih =>
      intro hk
      have h1 := ih (by omega)
      have h2 := rk_lt (n := n) (h.1 k (by omega)) (h.2 k hk)
      omega
  have hi : ∀ d k, k + d + 1 = n → rk w n (r k) ≤ k := by
    intro d
    induction d with
    | zero =>
      intro k hk
      have := rk_bound (w := w) (h.1 k (by omega))
      omega
    | succ d ih =>
      intro k hk
      have h1 := ih (k + 1) (by omega)
      have h2 := rk_lt (n := n) (h.1 k (by omega)) (h.2 k (by omega))
      omega
  intro k hk
  have h1 := lo k hk
  have h2 := hi (n - 1 - k) k (by omega)
  omega
def prP (p : Nat → Bool) (w : Nat → Nat) : Nat → Nat
  | 0 => 1
  | i + 1 => if p i = true then prP p w i * w i else prP p w i
def smP (p : Nat → Bool) (w : Nat → Nat) (q : Nat) : Nat → Nat
  | 0 => 0
  | i + 1 => if p i = true then smP p w q i + q / w i else smP p w q i
theorem prP_same {p p' : Nat → Bool} {w : Nat → Nat} : ∀ n, (∀ k, k < n → p k = p' k) → prP p w n = prP p' w n := by
  intro n
  induction n with
  | zero => intro _; rfl
  | succ n ih =>
    intro h
    unfold prP
    rw [ih (fun k hk => h k (by omega)), h n (by omega)]
theorem smP_same {p p' : Nat → Bool} {w : Nat → Nat} {q : Nat} : ∀ n, (∀ k, k < n → p k = p' k) → smP p w q n = smP p' w q n := by
  intro n
  induction n with
  | zero => intro _; rfl
  | succ n ih =>
    intro h
    unfold smP
    rw [ih (fun k hk => h k (by omega)), h n (by omega)]
theorem prP_upd {p p' : Nat → Bool} {w : Nat → Nat} {k0 : Nat} (h0 : p k0 = false) (h1 : p' k0 = true) : ∀ n, k0 < n → (∀ k, k < n → k ≠ k0 → p' k = p k) → prP p' w n = prP p w n * w k0 := by
  intro n
  induction n with
  | zero => intro h; omega
  | succ n ih =>
    intro h hs
    unfold prP
    by_cases c : k0 = n
    · subst c
      rw [prP_same k0 (fun k hk => hs k (by omega) (by omega)), h0, h1, if_pos rfl, if_neg (by decide)]
    · rw [ih (by omega) (fun k hk hne => hs k (by omega) hne), hs n (by omega) (by omega)]
      split
      · rw [Nat.mul_assoc, Nat.mul_comm (w k0), Nat.mul_assoc]
      · rfl
theorem smP_upd {p p' : Nat → Bool} {w : Nat → Nat} {q k0 : Nat} (h0 : p k0 = false) (h1 : p' k0 = true) : ∀ n, k0 < n → (∀ k, k < n → k ≠ k0 → p' k = p k) → smP p' w q n = smP p w q n + q / w k0 := by
  intro n
  induction n with
  | zero => intro h; omega
  | succ n ih =>
    intro h hs
    unfold smP
    by_cases c : k0 = n
    · subst c
      rw [smP_same k0 (fun k hk => hs k (by omega) (by omega)), h0, h1, if_pos rfl, if_neg (by decide)]
    · rw [ih (by omega) (fun k hk hne => hs k (by omega) hne), hs n (by omega) (by omega)]
      split <;> omega
def prM (w r : Nat → Nat) : Nat → Nat
  | 0 => 1
  | k + 1 => prM w r k * w (r k)
def smM (w r : Nat → Nat) (q : Nat) : Nat → Nat
  | 0 => 0
  | k + 1 => smM w r q k + q / w (r k)
abbrev rkP (w : Nat → Nat) (n c i : Nat) : Bool := decide (rk w n i < c)
theorem rkP_up {w r : Nat → Nat} {n c : Nat} (h : Sd w r n) (hc : c < n) : rkP w n c (r c) = false ∧ rkP w n (c + 1) (r c) = true ∧ ∀ k, k < n → k ≠ r c → rkP w n (c + 1) k = rkP w n c k := by
  have e := rk_Sd h c hc
  refine ⟨decide_eq_false (by omega), decide_eq_true (by omega), fun k hk hne => ?_⟩
  apply decide_eq_decide.mpr
  have : rk w n k ≠ c := fun z => hne (rk_inj hk (h.1 c hc) (by rw [z, e]))
  omega
theorem pr_eq {w r : Nat → Nat} {n : Nat} (h : Sd w r n) : ∀ c, c ≤ n → prP (rkP w n c) w n = prM w r c := by
  intro c
  induction c with
  | zero =>
    intro _
    have : ∀ m, prP (rkP w n 0) w m = 1 := by
      intro m
      induction m with
      | zero => rfl
      | succ m ih => unfold prP; rw [if_neg (fun z => absurd (of_decide_eq_true z) (by omega)), ih]
    exact this n
  | succ c ih =>
    intro hc
    obtain ⟨a1, a2, a3⟩ := rkP_up h (show c < n by omega)
    rw [prP_upd a1 a2 n (h.1 c (by omega)) a3, ih (by omega)]
    rfl
theorem sm_eq {w r : Nat → Nat} {n q : Nat} (h : Sd w r n) : ∀ c, c ≤ n → smP (rkP w n c) w q n = smM w r q c := by
  intro c
  induction c with
  | zero =>
    intro _
    have : ∀ m, smP (rkP w n 0) w q m = 0 := by
      intro m
      induction m with
      | zero => rfl
      | succ m ih => unfold smP; rw [if_neg (fun z => absurd (of_decide_eq_true z) (by omega)), ih]
    exact this n
  | succ c ih =>
    intro hc
    obtain ⟨a1, a2, a3⟩ := rkP_up h (show c < n by omega)
    rw [smP_upd a1 a2 n (h.1 c (by omega)) a3, ih (by omega)]
    rfl
