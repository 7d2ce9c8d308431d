/-! ===== tables ===== -/
def tSh (sh : mS) (r a R C : Nat) : Prop := sh r = some (hO 7 [fC R, fC C, fR a]) ∧ sh a = some (hA 1 (R * C)) ∧ R ≤ 100 ∧ C ≤ 100
abbrev tOut (R C : Nat) (x y : Int32) : Prop := x < 0 ∨ nI R ≤ x ∨ y < 0 ∨ nI C ≤ y
def tIx (C : Nat) (x y : Int32) : Nat := x.toNatClampNeg * C + y.toNatClampNeg
def tG (u : mU) (a R C : Nat) (x y : Int32) : Int32 := if tOut R C x y then 0 else u a (tIx C x y)
def tS (u : mU) (a R C : Nat) (x y z : Int32) : mU := if tOut R C x y then u else wr u a (tIx C x y) z
theorem nI_mul (a b : Nat) : nI a * nI b = nI (a * b) := (Int32.ofNat_mul a b).symm
theorem tIn {R C : Nat} {x y : Int32} (h : ¬ tOut R C x y) (hR : R ≤ 100) (hC : C ≤ 100) : ∃ i j : Nat, i < R ∧ j < C ∧ x = nI i ∧ y = nI j := by
  have h1 : ¬ x < 0 := fun z => h (Or.inl z)
  have h2 : ¬ nI R ≤ x := fun z => h (Or.inr (Or.inl z))
  have h3 : ¬ y < 0 := fun z => h (Or.inr (Or.inr (Or.inl z)))
  have h4 : ¬ nI C ≤ y := fun z => h (Or.inr (Or.inr (Or.inr z)))
  obtain ⟨i, hi, rfl⟩ := nI_of h1
  obtain ⟨j, hj, rfl⟩ := nI_of h3
  exact ⟨i, j, Nat.not_le.mp fun z => h2 (nI_le z hi), Nat.not_le.mp fun z => h4 (nI_le z hj), rfl, rfl⟩
theorem tIx_lt {R C i j : Nat} (hi : i < R) (hj : j < C) : i * C + j < R * C := by
  have : (i + 1) * C ≤ R * C := Nat.mul_le_mul_right C hi
  rw [Nat.add_mul] at this
  omega
theorem tRC {R C : Nat} (hR : R ≤ 100) (hC : C ≤ 100) : R * C ≤ 10000 := Nat.mul_le_mul hR hC
section TAB
variable {sh : mS} {u : mU} {v : mV} {r a R C : Nat} {x y z : Int32}
theorem tab_get (h : tSh sh r a R C) : f_X8_get (Rep sh u v) r x y = some (tG u a R C x y) := by
  obtain ⟨h1, h2, hR, hC⟩ := h
  have h3 := tRC hR hC
  unfold f_X8_get tG
  simp only [Rep_gC h1, Rep_gK (j := 0) h1 rfl, Rep_gK (j := 1) h1 rfl, Rep_gR (j := 2) h1 rfl, Rep_an h2 (by decide), Option.bind_some]
  by_cases ho : tOut R C x y
  · rw [if_pos ho]
    by_cases c1 : x < 0
    · rw [if_pos c1]
    rw [if_neg c1]
    by_cases c2 : nI R ≤ x
    · rw [if_pos c2]
    rw [if_neg c2]
    by_cases c3 : y < 0
    · rw [if_pos c3]
    rw [if_neg c3]
    have c4 : nI C ≤ y := by
      rcases ho with h | h | h | h
      · exact absurd h c1
      · exact absurd h c2
      · exact absurd h c3
      · exact h
    rw [if_neg (Int32.not_lt.mpr c4)]
  · rw [if_neg ho]
    obtain ⟨i, j, hi, hj, rfl, rfl⟩ := tIn ho hR hC
    have hlt := tIx_lt hi hj
    rw [if_neg (nI_pos (by omega)), if_neg (nI_ge hi (by omega)), if_neg (nI_pos (by omega)), if_pos (nI_lt hj (by omega)), nI_mul, nI_add]
    rw [if_neg (nI_ge hlt (by omega)), Rep_aI h2 (nI_in hlt (by omega)), nI_clamp (by omega)]
    unfold tIx
    rw [nI_clamp (by omega), nI_clamp (by omega)]
    rfl
theorem tab_set (h : tSh sh r a R C) : f_X8_set (Rep sh u v) r x y z = some (Rep sh (tS u a R C x y z) v) := by
  obtain ⟨h1, h2, hR, hC⟩ := h
  have h3 := tRC hR hC
  unfold f_X8_set tS
  simp only [Rep_gC h1, Rep_gK (j := 0) h1 rfl, Rep_gK (j := 1) h1 rfl, Rep_gR (j := 2) h1 rfl, Rep_an h2 (by decide), Option.bind_some]
  by_cases ho : tOut R C x y
  · rw [if_pos ho]
    by_cases c1 : x < 0
    · rw [if_pos c1]
    rw [if_neg c1]
    by_cases c2 : nI R ≤ x
    · rw [if_pos c2]
    rw [if_neg c2]
    by_cases c3 : y < 0
    · rw [if_pos c3]
    rw [if_neg c3]
    have c4 : nI C ≤ y := by
      rcases ho with h | h | h | h
      · exact absurd h c1
      · exact absurd h c2
      · exact absurd h c3
      · exact h
    rw [if_neg (Int32.not_lt.mpr c4)]
  · rw [if_neg ho]
    obtain ⟨i, j, hi, hj, rfl, rfl⟩ := tIn ho hR hC
    have hlt := tIx_lt hi hj
    rw [if_neg (nI_pos (by omega)), if_neg (nI_ge hi (by omega)), if_neg (nI_pos (by omega)), if_pos (nI_lt hj (by omega)), nI_mul, nI_add]
    rw [if_neg (nI_ge hlt (by omega)), Rep_sI h2 (nI_in hlt (by omega)), nI_clamp (by omega)]
    unfold tIx
    rw [nI_clamp (by omega), nI_clamp (by omega)]
    rfl
theorem tab_add (h : tSh sh r a R C) : f_X8_add (Rep sh u v) r x y z = some (Rep sh (tS u a R C x y (tG u a R C x y + z)) v) := by
  unfold f_X8_add
  rw [Rep_gC h.1, Option.bind_some, tab_get h, Option.bind_some, tab_set h, Option.bind_some]
/-- a whole table, filled -/
def tF (u : mU) (a N : Nat) (x : Int32) : mU := fun q j => if q = a ∧ j < N then x else u q j
theorem tab_fill_go (h : tSh sh r a R C) : ∀ (d i f : Nat) (u : mU), i + d = R * C → d < f → L_X8_fill_2 f r x (nI i) (Rep sh u v) = some (Rep sh (fun q j => if q = a ∧ i ≤ j ∧ j < R * C then x else u q j) v) := by
  obtain ⟨h1, h2, hR, hC⟩ := h
  have h3 := tRC hR hC
  intro d
  induction d with
  | zero =>
    intro i f u hi hf
    obtain ⟨f, rfl⟩ : ∃ f', f = f' + 1 := ⟨f - 1, by omega⟩
    unfold L_X8_fill_2
    simp only [Rep_gR (j := 2) h1 rfl, Rep_an h2 (by decide), Option.bind_some]
    rw [if_pos (nI_le (show R * C ≤ i by omega) (by omega))]
    congr 2
    funext q j
    rw [if_neg (by omega)]
  | succ d ih =>
    intro i f u hi hf
    obtain ⟨f, rfl⟩ : ∃ f', f = f' + 1 := ⟨f - 1, by omega⟩
    unfold L_X8_fill_2
    simp only [Rep_gR (j := 2) h1 rfl, Rep_an h2 (by decide), Option.bind_some]
    rw [if_neg (nI_ge (show i < R * C by omega) (by omega))]
    rw [Rep_sI h2 (nI_in (show i < R * C by omega) (by omega)), Option.bind_some, nI_1, nI_clamp (by omega), ih (i + 1) f _ (by omega) (by omega)]
    congr 2
    funext q j
    unfold wr
    by_cases hq : q = a
    · subst hq
      by_cases hj : j = i
      · subst hj
        simp
        omega
      · by_cases hj2 : i + 1 ≤ j ∧ j < R * C
        · rw [if_pos ⟨rfl, hj2⟩, if_pos ⟨rfl, by omega, hj2.2⟩]
        · rw [if_neg (fun z => hj2 z.2), if_neg (fun z => hj z.2), if_neg (fun z => hj2 ⟨by omega, z.2.2⟩)]
    · rw [if_neg (fun z => hq z.1), if_neg (fun z => hq z.1), if_neg (fun z => hq z.1)]
theorem tab_fill (h : tSh sh r a R C) : f_X8_fill (Rep sh u v) r x = some (Rep sh (tF u a (R * C) x) v) := by
  unfold f_X8_fill
  rw [Rep_gC h.1, Option.bind_some]
  have h3 := tRC h.2.2.1 h.2.2.2
  have := tab_fill_go (v := v) (x := x) h (R * C) 0 1000000000 u (by omega) (by omega)
  rw [show (0 : Int32) = nI 0 from nI_0.symm, this]
  congr 2
  funext q j
  unfold tF
  by_cases hq : q = a ∧ j < R * C
  · rw [if_pos ⟨hq.1, Nat.zero_le _, hq.2⟩, if_pos hq]
  · rw [if_neg (fun z => hq ⟨z.1, z.2.2⟩), if_neg hq]
end TAB
