/-- the class's chosen ways of the first n things -/
def chO (u : mU) (ch : Nat → Nat) (n : Nat) : Prop := ∀ j, j < n → ch j < 105 ∧ u 43 (j * 3 + 0) = nI (ch j / 15) ∧ u 43 (j * 3 + 1) = nI (ch j / 5 % 3) ∧ u 43 (j * 3 + 2) = nI (ch j % 5)
section STN
variable {T D m M : Nat} {c3 c4 : sF} {u : mU} {v : mV} {N : Nat → Nat} {ch : Nat → Nat}
theorem SH_43 : tSh (SH T D c3 c4 m) 42 43 4 3 := ⟨rfl, rfl, by decide, by decide⟩
theorem get43 {j c : Nat} (hj : j < 4) (hc : c < 3) : f_X8_get (Rep (SH T D c3 c4 m) u v) 42 (nI j) (nI c) = some (u 43 (j * 3 + c)) := by
  rw [tab_get SH_43, tG_in (by decide) (by decide) hj hc]
theorem cls_stands {t n : Nat} (ho : okTD T D) (h : relC u T M N) (hn : n < N 2) (ht : t ≤ n) (hc : chO u ch (n + 1)) (hg : ch t / 5 % 3 < N 5) (hp : ch t % 5 < N 3) : f_X0_stands (Rep (SH T D c3 c4 m) u v) 41 T (nI t) (nI n) = some (bI (s_can (col u M) (ch t / 5 % 3) t (ch t % 5) (ch t / 15) (hd ch t (n + 1)))) := by
  have b2 : N 2 ≤ 4 := (bndN_of h.1).2.2.1
  obtain ⟨w1, d1, g1, p1⟩ := hc t (by omega)
  have g0 := fun j (hj : j < 4) => get43 (T := T) (D := D) (c3 := c3) (c4 := c4) (m := m) (u := u) (v := v) (c := 0) hj (by decide)
  have g1' := fun j (hj : j < 4) => get43 (T := T) (D := D) (c3 := c3) (c4 := c4) (m := m) (u := u) (v := v) (c := 1) hj (by decide)
  have g2 := fun j (hj : j < 4) => get43 (T := T) (D := D) (c3 := c3) (c4 := c4) (m := m) (u := u) (v := v) (c := 2) hj (by decide)
  rw [nI_0] at g0
  rw [show nI 1 = (1 : Int32) from rfl] at g1'
  rw [show nI 2 = (2 : Int32) from rfl] at g2
  have ecan := fun hh => cls_can (c3 := c3) (c4 := c4) (m := m) (v := v) (h := hh) ho h hg (show t < N 2 by omega) hp (show ch t / 15 < 7 by omega)
  have go : ∀ (r i f : Nat), i + r = n + 1 → r < f → L_X0_stands_28 (Rep (SH T D c3 c4 m) u v) f 41 T (nI t) (nI n) (nI (ch t / 15)) (nI (ch t % 5)) (nI (hd ch t i)) (nI i) = some (bI (s_can (col u M) (ch t / 5 % 3) t (ch t % 5) (ch t / 15) (hd ch t (n + 1)))) := by
    intro r
    induction r with
    | zero =>
      intro i f hi hf
      obtain ⟨f, rfl⟩ : ∃ f', f = f' + 1 := ⟨f - 1, by omega⟩
      have c : nI n < nI i := nI_lt (by omega) (by omega)
      have hi : i = n + 1 := by omega
      subst hi
      rw [L_X0_stands_28, if_pos c, gR_41_0, Option.bind_some, g1' t (by omega), g1, Option.bind_some, ecan, Option.bind_some]
      cases s_can (col u M) (ch t / 5 % 3) t (ch t % 5) (ch t / 15) (hd ch t (n + 1)) <;> rfl
    | succ r ih =>
      intro i f hi hf
      obtain ⟨f, rfl⟩ : ∃ f', f = f' + 1 := ⟨f - 1, by omega⟩
      have c : ¬ nI n < nI i := nI_nlt (by omega) (by omega)
      have hi4 : i < 4 := by omega
      obtain ⟨w2, d2, _, p2⟩ := hc i (by omega)
      have e := ih (i + 1) f (by omega) (by omega)
      have hs : hd ch t (i + 1) = hd ch t i + if bfS ch t i = true then 1 else 0 := rfl
      have q1 : (nI (ch i / 15) < nI (ch t / 15)) = (ch i / 15 < ch t / 15) := propext (nI_ltI (by omega) (by omega))
      have q2 : (nI (ch i / 15) = nI (ch t / 15)) = (ch i / 15 = ch t / 15) := propext (nI_eq (by omega) (by omega))
      have q3 : (nI t ≤ nI i) = (t ≤ i) := propext (nI_leI (by omega) (by omega))
      have q4 : (nI (ch i % 5) = nI (ch t % 5)) = (ch i % 5 = ch t % 5) := propext (nI_eq (by omega) (by omega))
      rw [hs] at e
      have hb : bfS ch t i = (decide (ch i % 5 = ch t % 5) && decide (ch i / 15 < ch t / 15 ∨ (ch i / 15 = ch t / 15 ∧ i < t))) := rfl
      by_cases cb : ch i / 15 < ch t / 15 ∨ (ch i / 15 = ch t / 15 ∧ i < t)
      · rw [decide_eq_true cb, Bool.and_true] at hb
        have e66 : L_X0_stands_28 (Rep (SH T D c3 c4 m) u v) (f + 1) 41 T (nI t) (nI n) (nI (ch t / 15)) (nI (ch t % 5)) (nI (hd ch t i)) (nI i) = J_X0_stands_66 (L_X0_stands_28 (Rep (SH T D c3 c4 m) u v) f) (Rep (SH T D c3 c4 m) u v) 41 T (nI t) (nI n) (nI (ch t / 15)) (nI (ch t % 5)) (nI (hd ch t i)) (nI i) := by
          rw [L_X0_stands_28, if_neg c, gR_41_0, Option.bind_some, g0 i hi4, d2, Option.bind_some]
          rcases cb with z | ⟨z1, z2⟩
          · rw [if_pos (q1.mpr z)]
          · rw [if_neg (fun y => by have := q1.mp y; omega), if_pos (q2.mpr z1), if_neg (fun y => by have := q3.mp y; omega)]
        rw [e66]
        unfold J_X0_stands_66 J_X0_stands_71
        rw [if_neg (by decide), gR_41_0, Option.bind_some, g2 i hi4, p2, Option.bind_some]
        by_cases cp : ch i % 5 = ch t % 5
        · rw [hb, decide_eq_true cp, if_pos rfl] at e
          rw [if_pos (q4.mpr cp), nI_1, nI_1, e]
        · rw [hb, decide_eq_false cp, if_neg (by decide), Nat.add_zero] at e
          rw [if_neg (fun y => cp (q4.mp y)), nI_1, e]
      · rw [decide_eq_false cb, Bool.and_false] at hb
        rw [hb, if_neg (by decide)] at e
        have e70 : L_X0_stands_28 (Rep (SH T D c3 c4 m) u v) (f + 1) 41 T (nI t) (nI n) (nI (ch t / 15)) (nI (ch t % 5)) (nI (hd ch t i)) (nI i) = J_X0_stands_70 (L_X0_stands_28 (Rep (SH T D c3 c4 m) u v) f) (Rep (SH T D c3 c4 m) u v) 41 T (nI t) (nI n) (nI (ch t / 15)) (nI (ch t % 5)) (nI (hd ch t i)) (nI i) := by
          rw [L_X0_stands_28, if_neg c, gR_41_0, Option.bind_some, g0 i hi4, d2, Option.bind_some]
          rw [if_neg (fun y => cb (Or.inl (q1.mp y)))]
          by_cases z1 : ch i / 15 = ch t / 15
          · rw [if_pos (q2.mpr z1), if_pos (q3.mpr (by omega))]
          · rw [if_neg (fun y => z1 (q2.mp y))]
        rw [e70]
        unfold J_X0_stands_70 J_X0_stands_71
        rw [if_pos rfl, nI_1]
        exact e
  have e := go (n + 1) 0 1000000000 (by omega) (by omega)
  rw [show hd ch t 0 = 0 from rfl, nI_0] at e
  unfold f_X0_stands
  rw [gC_41, Option.bind_some, gR_41_0, Option.bind_some, g0 t (by omega), d1, Option.bind_some, Option.bind_some, g2 t (by omega), p1, Option.bind_some, e]
end STN
