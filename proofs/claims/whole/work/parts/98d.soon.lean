/-! ===== soonest: the first row of ways, with and without pruning ===== -/
def ff {β : Type} (f : Nat → Option β) : Nat → Nat → Option β
  | 0, _ => none
  | r + 1, i => match f i with
    | some b => some b
    | none => ff f r (i + 1)
theorem ff_congr {β : Type} {f g : Nat → Option β} : ∀ (r i : Nat), (∀ j, i ≤ j → j < i + r → f j = g j) → ff f r i = ff g r i := by
  intro r
  induction r with
  | zero => intro i _; rfl
  | succ r ih =>
    intro i h
    show (match f i with | some b => some b | none => ff f r (i + 1)) = (match g i with | some b => some b | none => ff g r (i + 1))
    rw [h i (by omega) (by omega), ih (i + 1) (fun j a b => h j (by omega) (by omega))]
theorem ff_some {β : Type} {f : Nat → Option β} {b : β} : ∀ (r i : Nat), ff f r i = some b → ∃ j, i ≤ j ∧ j < i + r ∧ f j = some b := by
  intro r
  induction r with
  | zero => intro i h; cases h
  | succ r ih =>
    intro i h
    have h' : (match f i with | some b => some b | none => ff f r (i + 1)) = some b := h
    cases c : f i with
    | some b' =>
      rw [c] at h'
      exact ⟨i, by omega, by omega, by rw [c]; exact h'⟩
    | none =>
      rw [c] at h'
      obtain ⟨j, h1, h2, h3⟩ := ih (i + 1) h'
      exact ⟨j, by omega, by omega, h3⟩
/-- the first row that L takes, W ways a level, pruned by A -/
def sr (W : Nat) (A : Nat → (Nat → Nat) → Nat → Bool) (L : (Nat → Nat) → Bool) : Nat → Nat → (Nat → Nat) → Option (Nat → Nat)
  | 0, _, ch => if L ch = true then some ch else none
  | r + 1, k, ch => ff (fun w => if A k ch w = true then sr W A L r (k + 1) (updN ch k w) else none) W 0
theorem sr_some {W : Nat} {A : Nat → (Nat → Nat) → Nat → Bool} {L : (Nat → Nat) → Bool} {c : Nat → Nat} : ∀ (r k : Nat) (ch : Nat → Nat), sr W A L r k ch = some c → L c = true ∧ ∀ j, j < k → c j = ch j := by
  intro r
  induction r with
  | zero =>
    intro k ch h
    have h' : (if L ch = true then some ch else none) = some c := h
    by_cases cl : L ch = true
    · rw [if_pos cl] at h'
      cases h'
      exact ⟨cl, fun _ _ => rfl⟩
    · rw [if_neg cl] at h'
      cases h'
  | succ r ih =>
    intro k ch h
    obtain ⟨w, -, -, h1⟩ := ff_some W 0 h
    by_cases ca : A k ch w = true
    · rw [if_pos ca] at h1
      obtain ⟨h2, h3⟩ := ih (k + 1) _ h1
      refine ⟨h2, fun j hj => ?_⟩
      rw [h3 j (by omega), updN_at, if_neg (by omega)]
    · rw [if_neg ca] at h1
      cases h1
/-- pruning that every row which is taken passes does not matter -/
theorem sr_prune {W n : Nat} {A : Nat → (Nat → Nat) → Nat → Bool} {L : (Nat → Nat) → Bool} (hc : ∀ k ch ch' w, (∀ j, j < k → ch j = ch' j) → A k ch w = A k ch' w) (hL : ∀ c, L c = true → ∀ k, k < n → A k c (c k) = true) : ∀ (r k : Nat) (ch : Nat → Nat), k + r = n → sr W A L r k ch = sr W (fun _ _ _ => true) L r k ch := by
  intro r
  induction r with
  | zero => intro k ch _; rfl
  | succ r ih =>
    intro k ch hk
    refine ff_congr W 0 (fun w _ _ => ?_)
    show (if A k ch w = true then sr W A L r (k + 1) (updN ch k w) else none) = (if true = true then sr W (fun _ _ _ => true) L r (k + 1) (updN ch k w) else none)
    rw [if_pos rfl, ih (k + 1) (updN ch k w) (by omega)]
    by_cases ca : A k ch w = true
    · rw [if_pos ca]
    · rw [if_neg ca]
      cases cs : sr W (fun _ _ _ => true) L r (k + 1) (updN ch k w) with
      | none => rfl
      | some c =>
        exfalso
        obtain ⟨h1, h2⟩ := sr_some r (k + 1) _ cs
        have h3 := hL c h1 k (by omega)
        rw [h2 k (by omega), show updN ch k w k = w from if_pos rfl] at h3
        rw [hc k c ch w (fun j hj => by rw [h2 j (by omega), updN_at, if_neg (by omega)])] at h3
        exact ca h3
