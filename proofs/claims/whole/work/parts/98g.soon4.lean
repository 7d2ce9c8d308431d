def alD (p : Nat → Bool) : Nat → Bool
  | 0 => true
  | j + 1 => p j && alD p j
theorem alD_iff {p : Nat → Bool} : ∀ (n : Nat), alD p n = true ↔ ∀ j, j < n → p j = true := by
  intro n
  induction n with
  | zero => exact ⟨fun _ j hj => absurd hj (by omega), fun _ => rfl⟩
  | succ n ih =>
    show (p n && alD p n) = true ↔ _
    rw [Bool.and_eq_true, ih]
    constructor
    · rintro ⟨h1, h2⟩ j hj
      by_cases c : j = n
      · rw [c]; exact h1
      · exact h2 j (by omega)
    · intro h
      exact ⟨h n (by omega), fun j hj => h j (by omega)⟩
/-- thing j of the first n stands -/
def stS (K : cK) (ch : Nat → Nat) (n j : Nat) : Bool := s_can K (ch j / 5 % 3) j (ch j % 5) (ch j / 15) (hd ch j n)
/-- what the class asks when thing k is placed -/
def sbP (K : cK) (ch : Nat → Nat) (k j : Nat) : Bool := decide (¬ ch j % 5 = ch k % 5) || stS K ch (k + 1) j
theorem pd_m {k : Nat} : nI (k + 1) + (-1) = nI k := by
  rw [← Int32.sub_eq_add_neg]
  exact nI_pred ..
section STB
variable {T D m M : Nat} {c3 c4 : sF} {u : mU} {v : mV} {N : Nat → Nat} {ch : Nat → Nat}
theorem cls_standsBy {k : Nat} (ho : okTD T D) (h : relC u T M N) (hk : k < N 2) (hc : chO u ch (k + 1)) (hi : ∀ j, j ≤ k → ch j / 5 % 3 < N 5 ∧ ch j % 5 < N 3) : f_X0_standsBy (Rep (SH T D c3 c4 m) u v) 41 T (nI k) = some (bI (alD (sbP (col u M) ch k) (k + 1))) := by
  have b2 : N 2 ≤ 4 := (bndN_of h.1).2.2.1
  have g2 := fun j (hj : j < 4) => get43 (T := T) (D := D) (c3 := c3) (c4 := c4) (m := m) (u := u) (v := v) (c := 2) hj (by decide)
  rw [show nI 2 = (2 : Int32) from rfl] at g2
  obtain ⟨w1, _, _, p1⟩ := hc k (by omega)
  have go : ∀ (j f : Nat), j ≤ k + 1 → j < f → L_X0_standsBy_2 (Rep (SH T D c3 c4 m) u v) f 41 T (nI k) (nI j + (-1)) = some (bI (alD (sbP (col u M) ch k) j)) := by
    intro j
    induction j with
    | zero =>
      intro f _ hf
      obtain ⟨f, rfl⟩ : ∃ f', f = f' + 1 := ⟨f - 1, by omega⟩
      rw [L_X0_standsBy_2, if_pos (by rw [nI_0]; decide)]
      rfl
    | succ j ih =>
      intro f hj hf
      obtain ⟨f, rfl⟩ : ∃ f', f = f' + 1 := ⟨f - 1, by omega⟩
      have e := ih f (by omega) (by omega)
      have cz : ¬ nI j < 0 := nI_pos (by omega)
      obtain ⟨w2, _, _, p2⟩ := hc j (by omega)
      have q4 : (nI (ch j % 5) = nI (ch k % 5)) = (ch j % 5 = ch k % 5) := propext (nI_eq (by omega) (by omega))
      rw [pd_m, show alD (sbP (col u M) ch k) (j + 1) = (sbP (col u M) ch k j && alD (sbP (col u M) ch k) j) from rfl]
      rw [L_X0_standsBy_2, if_neg cz, gR_41_0, Option.bind_some, g2 j (by omega), p2, Option.bind_some, Option.bind_some, g2 k (by omega), p1, Option.bind_some]
      have es : sbP (col u M) ch k j = (decide (¬ ch j % 5 = ch k % 5) || stS (col u M) ch (k + 1) j) := rfl
      by_cases cp : ch j % 5 = ch k % 5
      · have e1 := cls_stands (c3 := c3) (c4 := c4) (m := m) (v := v) ho h hk (show j ≤ k by omega) hc (hi j (by omega)).1 (hi j (by omega)).2
        rw [decide_eq_false (not_not_intro cp), Bool.false_or] at es
        rw [if_pos (q4.mpr cp), e1, Option.bind_some, es]
        rw [show s_can (col u M) (ch j / 5 % 3) j (ch j % 5) (ch j / 15) (hd ch j (k + 1)) = stS (col u M) ch (k + 1) j from rfl]
        cases stS (col u M) ch (k + 1) j with
        | false => rw [Bool.false_and]; rfl
        | true => rw [Bool.true_and, show bI true = 1 from rfl, if_neg (by decide), e]
      · rw [decide_eq_true cp, Bool.true_or] at es
        rw [if_neg (fun y => cp (q4.mp y)), es, Bool.true_and, e]
  have e := go (k + 1) 1000000000 (by omega) (by omega)
  rw [pd_m] at e
  unfold f_X0_standsBy
  rw [gC_41, Option.bind_some, e]
end STB
