/-- thing k's way is written -/
def chW (C : Nat → Int32) (k d g p : Nat) : Nat → Int32 := upd (upd (upd C (k * 3 + 0) (nI d)) (k * 3 + 1) (nI g)) (k * 3 + 2) (nI p)
section CHO
variable {T D m M : Nat} {c3 c4 : sF} {u : mU} {v : mV} {N : Nat → Nat} {ch : Nat → Nat} {C : Nat → Int32} {k d g p : Nat}
theorem set43 {j c : Nat} {z : Int32} (hj : j < 4) (hc : c < 3) : f_X8_set (Rep (SH T D c3 c4 m) (put u 43 C) v) 42 (nI j) (nI c) z = some (Rep (SH T D c3 c4 m) (put u 43 (upd C (j * 3 + c) z)) v) := by
  rw [tab_set SH_43, tS_in (by decide) (by decide) hj hc, wr_put, put_at, put_put]
theorem cls_write (hk : k < 4) : f_X0_choose (Rep (SH T D c3 c4 m) (put u 43 C) v) 41 (nI k) (nI d) (nI g) (nI p) = some (Rep (SH T D c3 c4 m) (put u 43 (chW C k d g p)) v) := by
  have s0 := fun (C : Nat → Int32) z => set43 (T := T) (D := D) (c3 := c3) (c4 := c4) (m := m) (u := u) (v := v) (C := C) (z := z) hk (show 0 < 3 by decide)
  have s1 := fun (C : Nat → Int32) z => set43 (T := T) (D := D) (c3 := c3) (c4 := c4) (m := m) (u := u) (v := v) (C := C) (z := z) hk (show 1 < 3 by decide)
  have s2 := fun (C : Nat → Int32) z => set43 (T := T) (D := D) (c3 := c3) (c4 := c4) (m := m) (u := u) (v := v) (C := C) (z := z) hk (show 2 < 3 by decide)
  rw [nI_0] at s0
  rw [show nI 1 = (1 : Int32) from rfl] at s1
  rw [show nI 2 = (2 : Int32) from rfl] at s2
  unfold f_X0_choose chW
  rw [gC_41, Option.bind_some, gR_41_0, Option.bind_some, s0, Option.bind_some, gR_41_0, Option.bind_some, s1, Option.bind_some, gR_41_0, Option.bind_some, s2, Option.bind_some]
theorem chO_up (h : chO (put u 43 C) ch k) (hd : d < 7) (hg : g < 3) (hp : p < 5) : chO (put u 43 (chW C k d g p)) (updN ch k (15 * d + 5 * g + p)) (k + 1) := by
  intro j hj
  rw [put_at, updN_at]
  unfold chW
  simp -implicitDefEqProofs only [upd_at]
  by_cases c : j = k
  · subst c
    rw [if_pos rfl]
    refine ⟨by omega, ?_, ?_, ?_⟩
    · rw [if_neg (by omega), if_neg (by omega), if_pos rfl, show (15 * d + 5 * g + p) / 15 = d by omega]
    · rw [if_neg (by omega), if_pos rfl, show (15 * d + 5 * g + p) / 5 % 3 = g by omega]
    · rw [if_pos rfl, show (15 * d + 5 * g + p) % 5 = p by omega]
  · rw [if_neg c]
    obtain ⟨h1, h2, h3, h4⟩ := h j (by omega)
    rw [put_at] at h2 h3 h4
    refine ⟨h1, ?_, ?_, ?_⟩
    · rw [if_neg (by omega), if_neg (by omega), if_neg (by omega)]; exact h2
    · rw [if_neg (by omega), if_neg (by omega), if_neg (by omega)]; exact h3
    · rw [if_neg (by omega), if_neg (by omega), if_neg (by omega)]; exact h4
end CHO
