theorem st_some : f_start.isSome = true := by decide +kernel
def D88 (g : qS) : Prop := ∀ r, 88 ≤ r → g r = none
section DOM
variable {g g' : qS} {r ci j k B : Nat} {i x : Int32} {v : Value}
theorem D_b {α : Type} {y : Option α} {f : α → Option qS} (h : y.bind f = some g') : ∃ a, y = some a ∧ f a = some g' := by
  cases y with
  | none => cases h
  | some a => exact ⟨a, rfl, h⟩
theorem D_up {e : Option qE} (h : D88 g) (hr : r < 88) : D88 (va_up g r e) := fun q hq => by
  rw [va_up_ne _ _ (by omega)]
  exact h q hq
theorem D_lt {e : qE} (h : D88 g) (he : g r = some e) : r < 88 := Nat.lt_of_not_le fun z => by
  rw [h r z] at he
  cases he
theorem D_pV (h : D88 g) (hp : p_V g r ci j v = some g') : D88 g' := by
  unfold p_V at hp
  split at hp
  · rename_i he
    have hr := D_lt h he
    split at hp
    · split at hp
      · cases hp
        exact D_up h hr
      · cases hp
    · cases hp
  · cases hp
theorem D_nO {fs : List Value} (h : D88 g) (hr : r < 88) (hp : n_O g r ci fs = some g') : D88 g' := by
  cases hp
  exact D_up h hr
theorem D_nK (h : D88 g) (hr : r < 88) (hp : n_K k B g r x = some g') : D88 g' := by
  unfold n_K at hp
  split at hp
  · cases hp
  · cases hp
    exact D_up h hr
theorem D_nL (h : D88 g) (hr : r < 88) (hp : n_L B g r x = some g') : D88 g' := by
  unfold n_L at hp
  split at hp
  · cases hp
  · cases hp
    exact D_up h hr
theorem D_sK (h : D88 g) (hp : s_K k g r i x = some g') : D88 g' := by
  unfold s_K at hp
  split at hp
  · rename_i he
    have hr := D_lt h he
    split at hp
    · split at hp
      · cases hp
      · cases hp
        exact D_up h hr
    · cases hp
  · cases hp
theorem D_set {y z : Int32} (h : D88 g) (hp : f_X8_set g r x y z = some g') : D88 g' := by
  unfold f_X8_set at hp
  obtain ⟨_, _, hp⟩ := D_b hp
  split at hp
  · cases hp; exact h
  obtain ⟨_, _, hp⟩ := D_b hp
  split at hp
  · cases hp; exact h
  split at hp
  · cases hp; exact h
  obtain ⟨_, _, hp⟩ := D_b hp
  split at hp
  · obtain ⟨_, _, hp⟩ := D_b hp
    obtain ⟨_, _, hp⟩ := D_b hp
    obtain ⟨_, _, hp⟩ := D_b hp
    split at hp
    · cases hp; exact h
    · obtain ⟨_, _, hp⟩ := D_b hp
      obtain ⟨g1, h1, hp⟩ := D_b hp
      cases hp
      exact D_sK h h1
  · cases hp; exact h
theorem D_fillgo : ∀ (f : Nat) (i : Int32) (g : qS), D88 g → L_X8_fill_2 f r x i g = some g' → D88 g' := by
  intro f
  induction f with
  | zero => intro i g h hp; cases hp
  | succ f ih =>
    intro i g h hp
    unfold L_X8_fill_2 at hp
    obtain ⟨_, _, hp⟩ := D_b hp
    obtain ⟨_, _, hp⟩ := D_b hp
    split at hp
    · cases hp; exact h
    · obtain ⟨_, _, hp⟩ := D_b hp
      obtain ⟨g1, h1, hp⟩ := D_b hp
      exact ih _ g1 (D_sK h h1) hp
theorem D_fill (h : D88 g) (hp : f_X8_fill g r x = some g') : D88 g' := by
  unfold f_X8_fill at hp
  obtain ⟨_, _, hp⟩ := D_b hp
  exact D_fillgo _ _ _ h hp
theorem D_begingo : ∀ (f : Nat) (i : Int32) (g : qS), D88 g → L_X7_begin_10 f r i g = some g' → D88 g' := by
  intro f
  induction f with
  | zero => intro i g h hp; cases hp
  | succ f ih =>
    intro i g h hp
    unfold L_X7_begin_10 at hp
    split at hp
    · cases hp; exact h
    · obtain ⟨_, _, hp⟩ := D_b hp
      obtain ⟨g1, h1, hp⟩ := D_b hp
      exact ih _ g1 (D_set h h1) hp
theorem D_begin (h : D88 g) (hp : f_X7_begin g r = some g') : D88 g' := by
  unfold f_X7_begin at hp
  obtain ⟨_, _, hp⟩ := D_b hp
  obtain ⟨_, _, hp⟩ := D_b hp
  obtain ⟨g1, h1, hp⟩ := D_b hp
  exact D_begingo _ _ _ (D_fill h h1) hp
theorem D_X8_init {g g' : qS} {n a0 : Nat} (x1 x2 : Int32) (h : D88 g) (hn : n + 1 ≤ 88) (hp : f_X8_init g n a0 x1 x2 = some g') : D88 g' := by
  unfold f_X8_init at hp
  obtain ⟨g1, h1, hp⟩ := D_b hp
  have h := D_pV h h1
  clear h1
  obtain ⟨g1, h1, hp⟩ := D_b hp
  have h := D_pV h h1
  clear h1
  obtain ⟨_, _, hp⟩ := D_b hp
  obtain ⟨_, _, hp⟩ := D_b hp
  obtain ⟨g1, h1, hp⟩ := D_b hp
  have h := D_nK h (by omega) h1
  clear h1
  obtain ⟨g1, h1, hp⟩ := D_b hp
  have h := D_pV h h1
  clear h1
  cases hp
  exact h
theorem D_X3_init {g g' : qS} {n a0 : Nat} (h : D88 g) (hn : n + 20 ≤ 88) (hp : f_X3_init g n a0 = some g') : D88 g' := by
  unfold f_X3_init at hp
  obtain ⟨g1, h1, hp⟩ := D_b hp
  have h := D_nO h (by omega) h1
  clear h1
  obtain ⟨g1, h1, hp⟩ := D_b hp
  have h := D_X8_init _ _ h (by omega) h1
  clear h1
  obtain ⟨g1, h1, hp⟩ := D_b hp
  have h := D_pV h h1
  clear h1
  obtain ⟨g1, h1, hp⟩ := D_b hp
  have h := D_nO h (by omega) h1
  clear h1
  obtain ⟨g1, h1, hp⟩ := D_b hp
  have h := D_X8_init _ _ h (by omega) h1
  clear h1
  obtain ⟨g1, h1, hp⟩ := D_b hp
  have h := D_pV h h1
  clear h1
  obtain ⟨g1, h1, hp⟩ := D_b hp
  have h := D_nO h (by omega) h1
  clear h1
  obtain ⟨g1, h1, hp⟩ := D_b hp
  have h := D_X8_init _ _ h (by omega) h1
  clear h1
  obtain ⟨g1, h1, hp⟩ := D_b hp
  have h := D_pV h h1
  clear h1
  obtain ⟨g1, h1, hp⟩ := D_b hp
  have h := D_nO h (by omega) h1
  clear h1
  obtain ⟨g1, h1, hp⟩ := D_b hp
  have h := D_X8_init _ _ h (by omega) h1
  clear h1
  obtain ⟨g1, h1, hp⟩ := D_b hp
  have h := D_pV h h1
  clear h1
  obtain ⟨g1, h1, hp⟩ := D_b hp
  have h := D_nO h (by omega) h1
  clear h1
  obtain ⟨g1, h1, hp⟩ := D_b hp
  have h := D_X8_init _ _ h (by omega) h1
  clear h1
  obtain ⟨g1, h1, hp⟩ := D_b hp
  have h := D_pV h h1
  clear h1
  obtain ⟨g1, h1, hp⟩ := D_b hp
  have h := D_nO h (by omega) h1
  clear h1
  obtain ⟨g1, h1, hp⟩ := D_b hp
  have h := D_X8_init _ _ h (by omega) h1
  clear h1
  obtain ⟨g1, h1, hp⟩ := D_b hp
  have h := D_pV h h1
  clear h1
  obtain ⟨g1, h1, hp⟩ := D_b hp
  have h := D_nO h (by omega) h1
  clear h1
  obtain ⟨g1, h1, hp⟩ := D_b hp
  have h := D_X8_init _ _ h (by omega) h1
  clear h1
  obtain ⟨g1, h1, hp⟩ := D_b hp
  have h := D_pV h h1
  clear h1
  obtain ⟨g1, h1, hp⟩ := D_b hp
  have h := D_nO h (by omega) h1
  clear h1
  obtain ⟨g1, h1, hp⟩ := D_b hp
  have h := D_X8_init _ _ h (by omega) h1
  clear h1
  obtain ⟨g1, h1, hp⟩ := D_b hp
  have h := D_pV h h1
  clear h1
  obtain ⟨g1, h1, hp⟩ := D_b hp
  have h := D_nO h (by omega) h1
  clear h1
  obtain ⟨g1, h1, hp⟩ := D_b hp
  have h := D_X8_init _ _ h (by omega) h1
  clear h1
  obtain ⟨g1, h1, hp⟩ := D_b hp
  have h := D_pV h h1
  clear h1
  obtain ⟨g1, h1, hp⟩ := D_b hp
  have h := D_nO h (by omega) h1
  clear h1
  obtain ⟨g1, h1, hp⟩ := D_b hp
  have h := D_X8_init _ _ h (by omega) h1
  clear h1
  obtain ⟨g1, h1, hp⟩ := D_b hp
  have h := D_pV h h1
  clear h1
  cases hp
  exact h
theorem D_X6_init {g g' : qS} {n a0 : Nat} (h : D88 g) (hn : n + 25 ≤ 88) (hp : f_X6_init g n a0 = some g') : D88 g' := by
  unfold f_X6_init at hp
  obtain ⟨g1, h1, hp⟩ := D_b hp
  have h := D_nK h (by omega) h1
  clear h1
  obtain ⟨g1, h1, hp⟩ := D_b hp
  have h := D_pV h h1
  clear h1
  obtain ⟨g1, h1, hp⟩ := D_b hp
  have h := D_pV h h1
  clear h1
  obtain ⟨g1, h1, hp⟩ := D_b hp
  have h := D_nO h (by omega) h1
  clear h1
  obtain ⟨g1, h1, hp⟩ := D_b hp
  have h := D_X3_init h (by omega) h1
  clear h1
  obtain ⟨g1, h1, hp⟩ := D_b hp
  have h := D_pV h h1
  clear h1
  obtain ⟨g1, h1, hp⟩ := D_b hp
  have h := D_nL h (by omega) h1
  clear h1
  obtain ⟨g1, h1, hp⟩ := D_b hp
  have h := D_pV h h1
  clear h1
  obtain ⟨g1, h1, hp⟩ := D_b hp
  have h := D_nO h (by omega) h1
  clear h1
  obtain ⟨g1, h1, hp⟩ := D_b hp
  have h := D_X8_init _ _ h (by omega) h1
  clear h1
  obtain ⟨g1, h1, hp⟩ := D_b hp
  have h := D_pV h h1
  clear h1
  obtain ⟨g1, h1, hp⟩ := D_b hp
  have h := D_pV h h1
  clear h1
  obtain ⟨g1, h1, hp⟩ := D_b hp
  have h := D_pV h h1
  clear h1
  obtain ⟨g1, h1, hp⟩ := D_b hp
  have h := D_pV h h1
  clear h1
  obtain ⟨g1, h1, hp⟩ := D_b hp
  have h := D_pV h h1
  clear h1
  obtain ⟨g1, h1, hp⟩ := D_b hp
  have h := D_pV h h1
  clear h1
  obtain ⟨g1, h1, hp⟩ := D_b hp
  have h := D_pV h h1
  clear h1
  obtain ⟨g1, h1, hp⟩ := D_b hp
  have h := D_pV h h1
  clear h1
  obtain ⟨g1, h1, hp⟩ := D_b hp
  have h := D_pV h h1
  clear h1
  obtain ⟨g1, h1, hp⟩ := D_b hp
  have h := D_pV h h1
  clear h1
  obtain ⟨g1, h1, hp⟩ := D_b hp
  have h := D_pV h h1
  clear h1
  cases hp
  exact h
theorem D_X7_init {g g' : qS} {n a0 : Nat} (h : D88 g) (hn : n + 2 ≤ 88) (hp : f_X7_init g n a0 = some g') : D88 g' := by
  unfold f_X7_init at hp
  obtain ⟨g1, h1, hp⟩ := D_b hp
  have h := D_nO h (by omega) h1
  clear h1
  obtain ⟨g1, h1, hp⟩ := D_b hp
  have h := D_X8_init _ _ h (by omega) h1
  clear h1
  obtain ⟨g1, h1, hp⟩ := D_b hp
  have h := D_pV h h1
  clear h1
  obtain ⟨g1, h1, hp⟩ := D_b hp
  have h := D_begin h h1
  clear h1
  cases hp
  exact h
theorem D_X4_init {g g' : qS} {n a0 : Nat} (h : D88 g) (hn : n + 4 ≤ 88) (hp : f_X4_init g n a0 = some g') : D88 g' := by
  unfold f_X4_init at hp
  obtain ⟨g1, h1, hp⟩ := D_b hp
  have h := D_nO h (by omega) h1
  clear h1
  obtain ⟨g1, h1, hp⟩ := D_b hp
  have h := D_X8_init _ _ h (by omega) h1
  clear h1
  obtain ⟨g1, h1, hp⟩ := D_b hp
  have h := D_pV h h1
  clear h1
  obtain ⟨g1, h1, hp⟩ := D_b hp
  have h := D_nO h (by omega) h1
  clear h1
  obtain ⟨g1, h1, hp⟩ := D_b hp
  have h := D_X8_init _ _ h (by omega) h1
  clear h1
  obtain ⟨g1, h1, hp⟩ := D_b hp
  have h := D_pV h h1
  clear h1
  obtain ⟨g1, h1, hp⟩ := D_b hp
  have h := D_pV h h1
  clear h1
  obtain ⟨g1, h1, hp⟩ := D_b hp
  have h := D_pV h h1
  clear h1
  obtain ⟨g1, h1, hp⟩ := D_b hp
  have h := D_pV h h1
  clear h1
  cases hp
  exact h
theorem D_X5_init {g g' : qS} {n a0 : Nat} (h : D88 g) (hn : n + 5 ≤ 88) (hp : f_X5_init g n a0 = some g') : D88 g' := by
  unfold f_X5_init at hp
  obtain ⟨g1, h1, hp⟩ := D_b hp
  have h := D_nO h (by omega) h1
  clear h1
  obtain ⟨g1, h1, hp⟩ := D_b hp
  have h := D_X7_init h (by omega) h1
  clear h1
  obtain ⟨g1, h1, hp⟩ := D_b hp
  have h := D_pV h h1
  clear h1
  obtain ⟨g1, h1, hp⟩ := D_b hp
  have h := D_nO h (by omega) h1
  clear h1
  obtain ⟨g1, h1, hp⟩ := D_b hp
  have h := D_X8_init _ _ h (by omega) h1
  clear h1
  obtain ⟨g1, h1, hp⟩ := D_b hp
  have h := D_pV h h1
  clear h1
  obtain ⟨g1, h1, hp⟩ := D_b hp
  have h := D_pV h h1
  clear h1
  cases hp
  exact h
theorem D_X0_init {g g' : qS} {n a0 : Nat} (h : D88 g) (hn : n + 2 ≤ 88) (hp : f_X0_init g n a0 = some g') : D88 g' := by
  unfold f_X0_init at hp
  obtain ⟨g1, h1, hp⟩ := D_b hp
  have h := D_nO h (by omega) h1
  clear h1
  obtain ⟨g1, h1, hp⟩ := D_b hp
  have h := D_X8_init _ _ h (by omega) h1
  clear h1
  obtain ⟨g1, h1, hp⟩ := D_b hp
  have h := D_pV h h1
  clear h1
  obtain ⟨g1, h1, hp⟩ := D_b hp
  have h := D_pV h h1
  clear h1
  obtain ⟨g1, h1, hp⟩ := D_b hp
  have h := D_pV h h1
  clear h1
  cases hp
  exact h
theorem D_X9_init {g g' : qS} {n a0 : Nat} (h : D88 g) (hn : n + 4 ≤ 88) (hp : f_X9_init g n a0 = some g') : D88 g' := by
  unfold f_X9_init at hp
  obtain ⟨g1, h1, hp⟩ := D_b hp
  have h := D_nO h (by omega) h1
  clear h1
  obtain ⟨g1, h1, hp⟩ := D_b hp
  have h := D_X8_init _ _ h (by omega) h1
  clear h1
  obtain ⟨g1, h1, hp⟩ := D_b hp
  have h := D_pV h h1
  clear h1
  obtain ⟨g1, h1, hp⟩ := D_b hp
  have h := D_nO h (by omega) h1
  clear h1
  obtain ⟨g1, h1, hp⟩ := D_b hp
  have h := D_X8_init _ _ h (by omega) h1
  clear h1
  obtain ⟨g1, h1, hp⟩ := D_b hp
  have h := D_pV h h1
  clear h1
  obtain ⟨g1, h1, hp⟩ := D_b hp
  have h := D_pV h h1
  clear h1
  obtain ⟨g1, h1, hp⟩ := D_b hp
  have h := D_pV h h1
  clear h1
  cases hp
  exact h
theorem D_X2_init {g g' : qS} {n a0 : Nat} (h : D88 g) (hn : n + 4 ≤ 88) (hp : f_X2_init g n a0 = some g') : D88 g' := by
  unfold f_X2_init at hp
  obtain ⟨g1, h1, hp⟩ := D_b hp
  have h := D_nO h (by omega) h1
  clear h1
  obtain ⟨g1, h1, hp⟩ := D_b hp
  have h := D_X8_init _ _ h (by omega) h1
  clear h1
  obtain ⟨g1, h1, hp⟩ := D_b hp
  have h := D_pV h h1
  clear h1
  obtain ⟨g1, h1, hp⟩ := D_b hp
  have h := D_nO h (by omega) h1
  clear h1
  obtain ⟨g1, h1, hp⟩ := D_b hp
  have h := D_X8_init _ _ h (by omega) h1
  clear h1
  obtain ⟨g1, h1, hp⟩ := D_b hp
  have h := D_pV h h1
  clear h1
  obtain ⟨g1, h1, hp⟩ := D_b hp
  have h := D_pV h h1
  clear h1
  obtain ⟨g1, h1, hp⟩ := D_b hp
  have h := D_pV h h1
  clear h1
  cases hp
  exact h
theorem D_X10_init {g g' : qS} {n a0 : Nat} (h : D88 g) (hn : n + 74 ≤ 88) (hp : f_X10_init g n a0 = some g') : D88 g' := by
  unfold f_X10_init at hp
  obtain ⟨g1, h1, hp⟩ := D_b hp
  have h := D_nO h (by omega) h1
  clear h1
  obtain ⟨g1, h1, hp⟩ := D_b hp
  have h := D_X6_init h (by omega) h1
  clear h1
  obtain ⟨g1, h1, hp⟩ := D_b hp
  have h := D_pV h h1
  clear h1
  obtain ⟨g1, h1, hp⟩ := D_b hp
  have h := D_nO h (by omega) h1
  clear h1
  obtain ⟨g1, h1, hp⟩ := D_b hp
  have h := D_X7_init h (by omega) h1
  clear h1
  obtain ⟨g1, h1, hp⟩ := D_b hp
  have h := D_pV h h1
  clear h1
  obtain ⟨g1, h1, hp⟩ := D_b hp
  have h := D_nO h (by omega) h1
  clear h1
  obtain ⟨g1, h1, hp⟩ := D_b hp
  have h := D_X4_init h (by omega) h1
  clear h1
  obtain ⟨g1, h1, hp⟩ := D_b hp
  have h := D_pV h h1
  clear h1
  obtain ⟨g1, h1, hp⟩ := D_b hp
  have h := D_nO h (by omega) h1
  clear h1
  obtain ⟨g1, h1, hp⟩ := D_b hp
  have h := D_X5_init h (by omega) h1
  clear h1
  obtain ⟨g1, h1, hp⟩ := D_b hp
  have h := D_pV h h1
  clear h1
  obtain ⟨g1, h1, hp⟩ := D_b hp
  have h := D_nO h (by omega) h1
  clear h1
  obtain ⟨g1, h1, hp⟩ := D_b hp
  have h := D_X0_init h (by omega) h1
  clear h1
  obtain ⟨g1, h1, hp⟩ := D_b hp
  have h := D_pV h h1
  clear h1
  obtain ⟨g1, h1, hp⟩ := D_b hp
  have h := D_nO h (by omega) h1
  clear h1
  obtain ⟨g1, h1, hp⟩ := D_b hp
  have h := D_X9_init h (by omega) h1
  clear h1
  obtain ⟨g1, h1, hp⟩ := D_b hp
  have h := D_pV h h1
  clear h1
  obtain ⟨g1, h1, hp⟩ := D_b hp
  have h := D_nO h (by omega) h1
  clear h1
  obtain ⟨g1, h1, hp⟩ := D_b hp
  have h := D_X2_init h (by omega) h1
  clear h1
  obtain ⟨g1, h1, hp⟩ := D_b hp
  have h := D_pV h h1
  clear h1
  obtain ⟨g1, h1, hp⟩ := D_b hp
  have h := D_pV h h1
  clear h1
  obtain ⟨g1, h1, hp⟩ := D_b hp
  have h := D_nO h (by omega) h1
  clear h1
  obtain ⟨g1, h1, hp⟩ := D_b hp
  have h := D_X3_init h (by omega) h1
  clear h1
  obtain ⟨g1, h1, hp⟩ := D_b hp
  have h := D_pV h h1
  clear h1
  cases hp
  exact h
theorem D_X12_init {g g' : qS} {n a0 : Nat} (h : D88 g) (hn : n + 11 ≤ 88) (hp : f_X12_init g n a0 = some g') : D88 g' := by
  unfold f_X12_init at hp
  obtain ⟨g1, h1, hp⟩ := D_b hp
  have h := D_pV h h1
  clear h1
  obtain ⟨g1, h1, hp⟩ := D_b hp
  have h := D_nK h (by omega) h1
  clear h1
  obtain ⟨g1, h1, hp⟩ := D_b hp
  have h := D_pV h h1
  clear h1
  obtain ⟨g1, h1, hp⟩ := D_b hp
  have h := D_nK h (by omega) h1
  clear h1
  obtain ⟨g1, h1, hp⟩ := D_b hp
  have h := D_pV h h1
  clear h1
  obtain ⟨g1, h1, hp⟩ := D_b hp
  have h := D_nK h (by omega) h1
  clear h1
  obtain ⟨g1, h1, hp⟩ := D_b hp
  have h := D_pV h h1
  clear h1
  obtain ⟨g1, h1, hp⟩ := D_b hp
  have h := D_nK h (by omega) h1
  clear h1
  obtain ⟨g1, h1, hp⟩ := D_b hp
  have h := D_pV h h1
  clear h1
  obtain ⟨g1, h1, hp⟩ := D_b hp
  have h := D_nK h (by omega) h1
  clear h1
  obtain ⟨g1, h1, hp⟩ := D_b hp
  have h := D_pV h h1
  clear h1
  obtain ⟨g1, h1, hp⟩ := D_b hp
  have h := D_nK h (by omega) h1
  clear h1
  obtain ⟨g1, h1, hp⟩ := D_b hp
  have h := D_pV h h1
  clear h1
  obtain ⟨g1, h1, hp⟩ := D_b hp
  have h := D_nK h (by omega) h1
  clear h1
  obtain ⟨g1, h1, hp⟩ := D_b hp
  have h := D_pV h h1
  clear h1
  obtain ⟨g1, h1, hp⟩ := D_b hp
  have h := D_nK h (by omega) h1
  clear h1
  obtain ⟨g1, h1, hp⟩ := D_b hp
  have h := D_pV h h1
  clear h1
  obtain ⟨g1, h1, hp⟩ := D_b hp
  have h := D_nK h (by omega) h1
  clear h1
  obtain ⟨g1, h1, hp⟩ := D_b hp
  have h := D_pV h h1
  clear h1
  obtain ⟨g1, h1, hp⟩ := D_b hp
  have h := D_nK h (by omega) h1
  clear h1
  obtain ⟨g1, h1, hp⟩ := D_b hp
  have h := D_pV h h1
  clear h1
  obtain ⟨g1, h1, hp⟩ := D_b hp
  have h := D_nK h (by omega) h1
  clear h1
  obtain ⟨g1, h1, hp⟩ := D_b hp
  have h := D_pV h h1
  clear h1
  cases hp
  exact h
theorem D_start {g5 : qS} (hp : f_start = some g5) : D88 g5 := by
  unfold f_start at hp
  obtain ⟨g1, h1, hp⟩ := D_b hp
  have h := D_nO (fun _ _ => rfl) (by omega) h1
  obtain ⟨g2, h2, hp⟩ := D_b hp
  have h := D_X10_init h (by omega) h2
  obtain ⟨g3, h3, hp⟩ := D_b hp
  have h := D_nO h (by omega) h3
  obtain ⟨g4, h4, hp⟩ := D_b hp
  have h := D_X12_init h (by omega) h4
  obtain ⟨g9, h9, hp⟩ := D_b hp
  cases hp
  exact D_nL h (by omega) h9
end DOM
