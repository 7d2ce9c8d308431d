/-- the references of a shape -/
def refsIn (h : sH) (P : Nat → Prop) : Prop := match h with
  | .inr (.inr (_, fs)) => ∀ q, fR q ∈ fs → P q
  | _ => True
theorem shF_ok {T D : Nat} {c3 c4 : sF} (hT : T < 88) (hD : D < 88) (r : Nat) (hr : r < 88) : ∃ h, shF T D c3 c4 r = some h ∧ refsIn h (fun q => q < 88 ∨ fR q = c3 ∨ fR q = c4) := by
  match r, hr with
  | 0, _ => exact ⟨_, rfl, by intro q hq; simp at hq; omega⟩
  | 1, _ => exact ⟨_, rfl, by intro q hq; simp at hq; omega⟩
  | 2, _ => exact ⟨_, rfl, trivial⟩
  | 3, _ => exact ⟨_, rfl, by intro q hq; simp at hq; omega⟩
  | 4, _ => exact ⟨_, rfl, by intro q hq; simp at hq; omega⟩
  | 5, _ => exact ⟨_, rfl, trivial⟩
  | 6, _ => exact ⟨_, rfl, by intro q hq; simp at hq; omega⟩
  | 7, _ => exact ⟨_, rfl, trivial⟩
  | 8, _ => exact ⟨_, rfl, by intro q hq; simp at hq; omega⟩
  | 9, _ => exact ⟨_, rfl, trivial⟩
  | 10, _ => exact ⟨_, rfl, by intro q hq; simp at hq; omega⟩
  | 11, _ => exact ⟨_, rfl, trivial⟩
  | 12, _ => exact ⟨_, rfl, by intro q hq; simp at hq; omega⟩
  | 13, _ => exact ⟨_, rfl, trivial⟩
  | 14, _ => exact ⟨_, rfl, by intro q hq; simp at hq; omega⟩
  | 15, _ => exact ⟨_, rfl, trivial⟩
  | 16, _ => exact ⟨_, rfl, by intro q hq; simp at hq; omega⟩
  | 17, _ => exact ⟨_, rfl, trivial⟩
  | 18, _ => exact ⟨_, rfl, by intro q hq; simp at hq; omega⟩
  | 19, _ => exact ⟨_, rfl, trivial⟩
  | 20, _ => exact ⟨_, rfl, by intro q hq; simp at hq; omega⟩
  | 21, _ => exact ⟨_, rfl, trivial⟩
  | 22, _ => exact ⟨_, rfl, by intro q hq; simp at hq; omega⟩
  | 23, _ => exact ⟨_, rfl, trivial⟩
  | 24, _ => exact ⟨_, rfl, trivial⟩
  | 25, _ => exact ⟨_, rfl, by intro q hq; simp at hq; omega⟩
  | 26, _ => exact ⟨_, rfl, trivial⟩
  | 27, _ => exact ⟨_, rfl, by intro q hq; simp at hq; omega⟩
  | 28, _ => exact ⟨_, rfl, by intro q hq; simp at hq; omega⟩
  | 29, _ => exact ⟨_, rfl, trivial⟩
  | 30, _ => exact ⟨_, rfl, by intro q hq; simp at hq; omega⟩
  | 31, _ => exact ⟨_, rfl, by intro q hq; simp at hq; omega⟩
  | 32, _ => exact ⟨_, rfl, trivial⟩
  | 33, _ => exact ⟨_, rfl, by intro q hq; simp at hq; omega⟩
  | 34, _ => exact ⟨_, rfl, trivial⟩
  | 35, _ => exact ⟨_, rfl, by intro q hq; simp at hq; omega⟩
  | 36, _ => exact ⟨_, rfl, by intro q hq; simp at hq; omega⟩
  | 37, _ => exact ⟨_, rfl, by intro q hq; simp at hq; omega⟩
  | 38, _ => exact ⟨_, rfl, trivial⟩
  | 39, _ => exact ⟨_, rfl, by intro q hq; simp at hq; omega⟩
  | 40, _ => exact ⟨_, rfl, trivial⟩
  | 41, _ => exact ⟨_, rfl, by intro q hq; simp at hq; omega⟩
  | 42, _ => exact ⟨_, rfl, by intro q hq; simp at hq; omega⟩
  | 43, _ => exact ⟨_, rfl, trivial⟩
  | 44, _ => exact ⟨_, rfl, by intro q hq; simp at hq; omega⟩
  | 45, _ => exact ⟨_, rfl, by intro q hq; simp at hq; omega⟩
  | 46, _ => exact ⟨_, rfl, trivial⟩
  | 47, _ => exact ⟨_, rfl, by intro q hq; simp at hq; omega⟩
  | 48, _ => exact ⟨_, rfl, trivial⟩
  | 49, _ => exact ⟨_, rfl, by intro q hq; simp at hq; omega⟩
  | 50, _ => exact ⟨_, rfl, by intro q hq; simp at hq; omega⟩
  | 51, _ => exact ⟨_, rfl, trivial⟩
  | 52, _ => exact ⟨_, rfl, by intro q hq; simp at hq; omega⟩
  | 53, _ => exact ⟨_, rfl, trivial⟩
  | 54, _ => exact ⟨_, rfl, by intro q hq; simp at hq; omega⟩
  | 55, _ => exact ⟨_, rfl, by intro q hq; simp at hq; omega⟩
  | 56, _ => exact ⟨_, rfl, trivial⟩
  | 57, _ => exact ⟨_, rfl, by intro q hq; simp at hq; omega⟩
  | 58, _ => exact ⟨_, rfl, trivial⟩
  | 59, _ => exact ⟨_, rfl, by intro q hq; simp at hq; omega⟩
  | 60, _ => exact ⟨_, rfl, trivial⟩
  | 61, _ => exact ⟨_, rfl, by intro q hq; simp at hq; omega⟩
  | 62, _ => exact ⟨_, rfl, trivial⟩
  | 63, _ => exact ⟨_, rfl, by intro q hq; simp at hq; omega⟩
  | 64, _ => exact ⟨_, rfl, trivial⟩
  | 65, _ => exact ⟨_, rfl, by intro q hq; simp at hq; omega⟩
  | 66, _ => exact ⟨_, rfl, trivial⟩
  | 67, _ => exact ⟨_, rfl, by intro q hq; simp at hq; omega⟩
  | 68, _ => exact ⟨_, rfl, trivial⟩
  | 69, _ => exact ⟨_, rfl, by intro q hq; simp at hq; omega⟩
  | 70, _ => exact ⟨_, rfl, trivial⟩
  | 71, _ => exact ⟨_, rfl, by intro q hq; simp at hq; omega⟩
  | 72, _ => exact ⟨_, rfl, trivial⟩
  | 73, _ => exact ⟨_, rfl, by intro q hq; simp at hq; omega⟩
  | 74, _ => exact ⟨_, rfl, trivial⟩
  | 75, _ => exact ⟨_, rfl, by intro q hq; simp at hq; (first | omega | (rcases hq with h | h | h <;> first | omega | exact Or.inr (Or.inl h) | exact Or.inr (Or.inr h) | skip))⟩
  | 76, _ => exact ⟨_, rfl, trivial⟩
  | 77, _ => exact ⟨_, rfl, trivial⟩
  | 78, _ => exact ⟨_, rfl, trivial⟩
  | 79, _ => exact ⟨_, rfl, trivial⟩
  | 80, _ => exact ⟨_, rfl, trivial⟩
  | 81, _ => exact ⟨_, rfl, trivial⟩
  | 82, _ => exact ⟨_, rfl, trivial⟩
  | 83, _ => exact ⟨_, rfl, trivial⟩
  | 84, _ => exact ⟨_, rfl, trivial⟩
  | 85, _ => exact ⟨_, rfl, trivial⟩
  | 86, _ => exact ⟨_, rfl, trivial⟩
  | 87, _ => exact ⟨_, rfl, trivial⟩
  | r + 88, hr => exact absurd hr (by omega)
theorem shC_ok (b i : Nat) (hi : i < 25) : ∃ h, shC b i = some h ∧ refsIn h (fun q => q < b + 25) := by
  match i, hi with
  | 0, _ => exact ⟨_, rfl, by intro q hq; simp at hq; omega⟩
  | 1, _ => exact ⟨_, rfl, trivial⟩
  | 2, _ => exact ⟨_, rfl, trivial⟩
  | 3, _ => exact ⟨_, rfl, trivial⟩
  | 4, _ => exact ⟨_, rfl, trivial⟩
  | 5, _ => exact ⟨_, rfl, trivial⟩
  | 6, _ => exact ⟨_, rfl, trivial⟩
  | 7, _ => exact ⟨_, rfl, trivial⟩
  | 8, _ => exact ⟨_, rfl, trivial⟩
  | 9, _ => exact ⟨_, rfl, trivial⟩
  | 10, _ => exact ⟨_, rfl, trivial⟩
  | 11, _ => exact ⟨_, rfl, trivial⟩
  | 12, _ => exact ⟨_, rfl, trivial⟩
  | 13, _ => exact ⟨_, rfl, trivial⟩
  | 14, _ => exact ⟨_, rfl, trivial⟩
  | 15, _ => exact ⟨_, rfl, trivial⟩
  | 16, _ => exact ⟨_, rfl, trivial⟩
  | 17, _ => exact ⟨_, rfl, trivial⟩
  | 18, _ => exact ⟨_, rfl, trivial⟩
  | 19, _ => exact ⟨_, rfl, trivial⟩
  | 20, _ => exact ⟨_, rfl, trivial⟩
  | 21, _ => exact ⟨_, rfl, trivial⟩
  | 22, _ => exact ⟨_, rfl, trivial⟩
  | 23, _ => exact ⟨_, rfl, trivial⟩
  | 24, _ => exact ⟨_, rfl, trivial⟩
  | i + 25, hi => exact absurd hi (by omega)
theorem SH_dom {T D m : Nat} {c3 c4 : sF} {u : mU} {v : mV} (htd : okTD T D) (h3 : okC m c3) (h4 : okC m c4) : q_dom (Rep (SH T D c3 c4 m) u v) (88 + 25 * m) := by
  have hT : T < 88 := by rcases htd with ⟨h, _⟩ | ⟨h, _⟩ <;> omega
  have hD : D < 88 := by rcases htd with ⟨_, h⟩ | ⟨_, h⟩ <;> omega
  have hc : ∀ c : sF, okC m c → ∀ q, fR q = c → q < 88 + 25 * m := by
    intro c hc q hq
    rcases hc with h | ⟨k, hk, h⟩
    · rw [h] at hq; cases hq
    · rw [h] at hq
      have : q = 88 + k * 25 := Sum.inl.inj (Sum.inr.inj hq)
      omega
  have hall : ∀ r, r < 88 + 25 * m → ∃ h, SH T D c3 c4 m r = some h ∧ refsIn h (fun q => q < 88 + 25 * m) := by
    intro r hr
    by_cases h88 : r < 88
    · obtain ⟨h, e1, e2⟩ := shF_ok (c3 := c3) (c4 := c4) hT hD r h88
      refine ⟨h, (SH_lo h88).trans e1, ?_⟩
      unfold refsIn at e2 ⊢
      split
      · intro q hq
        rcases e2 q hq with h | h | h
        · omega
        · exact hc c3 h3 q h
        · exact hc c4 h4 q h
      · trivial
    · obtain ⟨h, e1, e2⟩ := shC_ok (88 + (r - 88) / 25 * 25) ((r - 88) % 25) (Nat.mod_lt _ (by omega))
      refine ⟨h, ?_, ?_⟩
      · unfold SH
        rw [if_neg h88, if_pos (by omega), e1]
      · unfold refsIn at e2 ⊢
        split
        · intro q hq
          have := e2 q hq
          omega
        · trivial
  refine ⟨fun r x hr => ?_, fun r hr => ?_, fun r ci fs hr q hq => ?_⟩
  · refine Classical.byContradiction fun hn => ?_
    have : SH T D c3 c4 m r = none := by
      unfold SH
      rw [if_neg (by omega), if_neg (by omega)]
    unfold Rep at hr
    rw [this] at hr
    cases hr
  · obtain ⟨h, e1, _⟩ := hall r hr
    exact ⟨_, Rep_at e1⟩
  · have hlt : r < 88 + 25 * m := Classical.byContradiction fun hn => by
      have : SH T D c3 c4 m r = none := by
        unfold SH
        rw [if_neg (by omega), if_neg (by omega)]
      unfold Rep at hr
      rw [this] at hr
      cases hr
    obtain ⟨h, e1, e2⟩ := hall r hlt
    rw [Rep_at e1] at hr
    rcases h with ⟨k, n⟩ | n | ⟨ci', fs'⟩
    · cases hr
    · cases hr
    · have hr := Sum.inr.inj (Option.some.inj hr)
      cases hr
      obtain ⟨i, hi, e3⟩ := List.mem_mapIdx.mp hq
      refine e2 q ?_
      have hm : fs'[i] ∈ fs' := List.getElem_mem hi
      generalize fs'[i] = f at e3 hm
      unfold rV at e3
      split at e3 <;> cases e3
      exact hm
