/-- two rows of sixteen, the same -/
def rowEq (u : mU) (a b : Nat) : Prop := ∀ j, j < 16 → u a j = u b j
/-- who has a thing: nobody, or a person of the college -/
def rowOk (u : mU) (a : Nat) (N : Nat → Nat) : Prop := ∀ t, t < 4 → u a t = -2 ∨ ∃ p, p < N 3 ∧ u a t = nI p
theorem cnt_congr {f h : Nat → Int32} {x : Int32} (e : ∀ j, j < 4 → f j = h j) : cntOf f x = cntOf h x := by
  unfold cntOf
  rw [e 0 (by decide), e 1 (by decide), e 2 (by decide), e 3 (by decide)]
theorem cnt_nn (f : Nat → Int32) (x : Int32) : 0 ≤ cntOf f x := by
  unfold cntOf
  by_cases c0 : f 0 = x <;> by_cases c1 : f 1 = x <;> by_cases c2 : f 2 = x <;> by_cases c3 : f 3 = x <;> simp only [c0, c1, c2, c3, if_true, if_false] <;> decide
theorem okTr_nn {N : Nat → Nat} {x : Int32} (h : okTr N x) (hN : N 4 ≤ 4) : 0 ≤ x ↔ ¬ x = -2 := by
  rcases h with rfl | ⟨t, ht, rfl⟩
  · exact ⟨fun z => absurd z (by decide), fun z => absurd rfl z⟩
  · refine ⟨fun _ z => ?_, fun _ => nI_pos' (by omega)⟩
    exact absurd (show nI t < 0 by rw [z]; decide) (nI_pos (by omega))
section OEQ
variable {u : mU} {B M a b : Nat} {N : Nat → Nat} {g t p d : Nat}
theorem hind_eq (h : relCnt u B M N) (h2 : relPers u B M N) (h5 : relRide u B M N) (h6 : relTake u B M N) (hr : rowEq u a b) (ho : rowOk u a N) (hg : g < N 5) (ht : t < N 2) (hp : p < N 3) (hd : d < 7) : k_hind u B a (nI d) (nI g) t p = m_hind u M b g t p d := by
  have hT : N 2 ≤ 4 := (h 2 (by decide)).2.2
  have hP : N 3 ≤ 5 := (h 3 (by decide)).2.2
  have hR : N 4 ≤ 4 := (h 4 (by decide)).2.2
  obtain ⟨e1, o1⟩ := shared_eq h h5 h6 hg hp hd
  unfold k_hind m_hind
  rw [e1]
  by_cases c1 : m_tog u M g p d = -2
  · rw [if_pos c1, if_neg (fun z => (okTr_nn o1 hR).mp z c1)]
  · rw [if_neg c1, if_pos ((okTr_nn o1 hR).mpr c1), ← hr t (by omega)]
    by_cases c2 : u a t = -2
    · rw [if_pos c2, if_pos (by rw [c2]; decide), cnt_congr (h := u b) (fun j hj => hr j (by omega)), room_eq h h2 hp, hr (4 + p) (by omega)]
      unfold m_roomIn
      have hnn := cnt_nn (u b) (nI p)
      by_cases c3 : m_room u M p - u b (4 + p) ≤ 0
      · rw [if_pos c3, if_neg (fun z => Int32.lt_irrefl (Int32.lt_of_lt_of_le z (Int32.le_trans c3 hnn))), if_neg (Int32.not_lt.mpr hnn)]
      · rw [if_neg c3]
    · rw [if_neg c2, if_neg]
      rcases ho t (by omega) with z | ⟨q, hq, z⟩
      · exact absurd z c2
      · rw [z]
        exact nI_pos (by omega)
end OEQ
