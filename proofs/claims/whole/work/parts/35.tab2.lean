/-- row i of a, copied from row k of b, both C wide -/
def cpR (u : mU) (a i b k C : Nat) : mU := fun q j => if q = a ∧ i * C ≤ j ∧ j < i * C + C then u b (k * C + (j - i * C)) else u q j
section TAB2
variable {sh : mS} {u : mU} {v : mV} {r a R C r2 a2 R2 : Nat} {x y z : Int32}
theorem tG_in {i j : Nat} (hR : R ≤ 100) (hC : C ≤ 100) (hi : i < R) (hj : j < C) : tG u a R C (nI i) (nI j) = u a (i * C + j) := by
  unfold tG
  rw [if_neg]
  · unfold tIx
    rw [nI_clamp (by omega), nI_clamp (by omega)]
  · intro h
    rcases h with h | h | h | h
    · exact nI_pos (by omega) h
    · exact nI_ge hi (by omega) h
    · exact nI_pos (by omega) h
    · exact nI_ge hj (by omega) h
theorem tS_in {i j : Nat} (hR : R ≤ 100) (hC : C ≤ 100) (hi : i < R) (hj : j < C) : tS u a R C (nI i) (nI j) z = wr u a (i * C + j) z := by
  unfold tS
  rw [if_neg]
  · unfold tIx
    rw [nI_clamp (by omega), nI_clamp (by omega)]
  · intro h
    rcases h with h | h | h | h
    · exact nI_pos (by omega) h
    · exact nI_ge hi (by omega) h
    · exact nI_pos (by omega) h
    · exact nI_ge hj (by omega) h
theorem tab_copy_go (h : tSh sh r a R C) (h2 : tSh sh r2 a2 R2 C) (hne : a2 ≠ a) {i k : Nat} (hi : i < R) (hk : k < R2) : ∀ (d j f : Nat) (u : mU), j + d = C → d < f → L_X8_copyRow_3 f r (nI i) r2 (nI k) (nI j) (Rep sh u v) = some (Rep sh (fun q p => if q = a ∧ i * C + j ≤ p ∧ p < i * C + C then u a2 (k * C + (p - i * C)) else u q p) v) := by
  have hC := h.2.2.2
  have hR := h.2.2.1
  have hR2 := h2.2.2.1
  intro d
  induction d with
  | zero =>
    intro j f u hj hf
    obtain ⟨f, rfl⟩ : ∃ f', f = f' + 1 := ⟨f - 1, by omega⟩
    unfold L_X8_copyRow_3
    rw [Rep_gK (j := 1) h.1 rfl, Option.bind_some, if_pos (nI_le (show C ≤ j by omega) (by omega))]
    congr 2
    funext q p
    rw [if_neg (by omega)]
  | succ d ih =>
    intro j f u hj hf
    obtain ⟨f, rfl⟩ : ∃ f', f = f' + 1 := ⟨f - 1, by omega⟩
    unfold L_X8_copyRow_3
    rw [Rep_gK (j := 1) h.1 rfl, Option.bind_some, if_neg (nI_ge (show j < C by omega) (by omega)), tab_get h2, Option.bind_some, tab_set h, Option.bind_some, nI_1, tG_in hR2 hC hk (by omega), tS_in hR hC hi (by omega), ih (j + 1) f _ (by omega) (by omega)]
    congr 2
    funext q p
    by_cases hq : q = a
    · subst hq
      by_cases hp : p = i * C + j
      · subst hp
        rw [if_neg (by omega), wr_same, if_pos (by omega)]
        congr 1
        omega
      · by_cases hp2 : i * C + (j + 1) ≤ p ∧ p < i * C + C
        · rw [if_pos ⟨rfl, hp2⟩, if_pos ⟨rfl, by omega, hp2.2⟩, wr_role hne]
        · rw [if_neg (fun z => hp2 z.2), wr_ix hp, if_neg (fun z => hp2 ⟨by omega, z.2.2⟩)]
    · rw [if_neg (fun z => hq z.1), if_neg (fun z => hq z.1), wr_role hq]
theorem tab_copy (h : tSh sh r a R C) (h2 : tSh sh r2 a2 R2 C) (hne : a2 ≠ a) {i k : Nat} (hi : i < R) (hk : k < R2) : f_X8_copyRow (Rep sh u v) r (nI i) r2 (nI k) = some (Rep sh (cpR u a i a2 k C) v) := by
  unfold f_X8_copyRow
  rw [Rep_gC h.1, Option.bind_some]
  have hC := h.2.2.2
  have := tab_copy_go (v := v) h h2 hne hi hk C 0 1000000000 u (by omega) (by omega)
  rw [show (0 : Int32) = nI 0 from nI_0.symm, this]
  rfl
end TAB2
