/-! ===== the told college and the model's, entry by entry; N c is the count c (days limit things people trams givers lines gifts finds exams) ===== -/
def maxN (c : Nat) : Nat := match c with
  | 0 => 7
  | 1 => 100
  | 2 => 4
  | 3 => 5
  | 4 => 4
  | 5 => 3
  | 6 => 16
  | 7 => 12
  | 8 => 4
  | 9 => 8
  | _ => 0
def relCnt (u : mU) (B M : Nat) (N : Nat → Nat) : Prop := ∀ c, c < 10 → u (B + 20) c = nI (N c) ∧ u M c = nI (N c) ∧ N c ≤ maxN c
def relThing (u : mU) (B M : Nat) (N : Nat → Nat) : Prop := ∀ t, t < N 2 → u (B + 2) (t * 2 + 0) = u (M + 1) t ∧ u (B + 2) (t * 2 + 1) = u (M + 2) t
def relPers (u : mU) (B M : Nat) (N : Nat → Nat) : Prop := ∀ p, p < N 3 → u (B + 4) (p * 3 + 0) = u (M + 5) p ∧ u (B + 4) (p * 3 + 1) = u (M + 6) p ∧ u (B + 4) (p * 3 + 2) = u (M + 7) p
def relTram (u : mU) (B M : Nat) (N : Nat → Nat) : Prop := ∀ t, t < N 4 → u (B + 6) (t * 2 + 0) = u (M + 9) t ∧ u (B + 6) (t * 2 + 1) = u (M + 10) t
def relGivr (u : mU) (B M : Nat) (N : Nat → Nat) : Prop := ∀ g, g < N 5 → u (B + 8) (g * 1 + 0) = u (M + 11) g
def okTr (N : Nat → Nat) (x : Int32) : Prop := x = -2 ∨ ∃ t, t < N 4 ∧ x = nI t
def relRide (u : mU) (B M : Nat) (N : Nat → Nat) : Prop := ∀ p d, p < N 3 → d < 7 → u (B + 16) (p * 7 + d) = u (M + 8) (7 * p + d) ∧ okTr N (u (M + 8) (7 * p + d))
def relTake (u : mU) (B M : Nat) (N : Nat → Nat) : Prop := ∀ g d, g < N 5 → d < 7 → u (B + 18) (g * 7 + d) = u (M + 12) (7 * g + d) ∧ okTr N (u (M + 12) (7 * g + d))
section RELA
variable {u : mU} {B M : Nat} {N : Nat → Nat} {x : Int32}
theorem k_n_eq (h : relCnt u B M N) {c : Nat} (hc : c < 10) : k_n u B (nI c) = nI (N c) := by
  show tG u (B + 20) 1 10 (nI 0) (nI c) = _
  rw [tG_in (by decide) (by decide) (by decide) hc, Nat.zero_mul, Nat.zero_add]
  exact (h c hc).1
theorem k_thing_eq (h : relCnt u B M N) (ht : relThing u B M N) {t : Nat} (hh : t < N 2) : k_thing u B (nI t) 0 = u (M + 1) t ∧ k_thing u B (nI t) 1 = u (M + 2) t := by
  have h4 : N 2 ≤ 4 := (h 2 (by decide)).2.2
  constructor
  · show tG u (B + 2) 4 2 (nI t) (nI 0) = _
    rw [tG_in (by decide) (by decide) (by omega) (by decide)]
    exact (ht t hh).1
  · show tG u (B + 2) 4 2 (nI t) (nI 1) = _
    rw [tG_in (by decide) (by decide) (by omega) (by decide)]
    exact (ht t hh).2
theorem k_pers_eq (h : relCnt u B M N) (ht : relPers u B M N) {p : Nat} (hh : p < N 3) : k_pers u B (nI p) 0 = u (M + 5) p ∧ k_pers u B (nI p) 1 = u (M + 6) p ∧ k_pers u B (nI p) 2 = u (M + 7) p := by
  have h4 : N 3 ≤ 5 := (h 3 (by decide)).2.2
  refine ⟨?_, ?_, ?_⟩
  · show tG u (B + 4) 5 3 (nI p) (nI 0) = _
    rw [tG_in (by decide) (by decide) (by omega) (by decide)]
    exact (ht p hh).1
  · show tG u (B + 4) 5 3 (nI p) (nI 1) = _
    rw [tG_in (by decide) (by decide) (by omega) (by decide)]
    exact (ht p hh).2.1
  · show tG u (B + 4) 5 3 (nI p) (nI 2) = _
    rw [tG_in (by decide) (by decide) (by omega) (by decide)]
    exact (ht p hh).2.2
theorem k_tram_eq (h : relCnt u B M N) (ht : relTram u B M N) {t : Nat} (hh : t < N 4) : k_tram u B (nI t) 0 = u (M + 9) t ∧ k_tram u B (nI t) 1 = u (M + 10) t := by
  have h4 : N 4 ≤ 4 := (h 4 (by decide)).2.2
  constructor
  · show tG u (B + 6) 4 2 (nI t) (nI 0) = _
    rw [tG_in (by decide) (by decide) (by omega) (by decide)]
    exact (ht t hh).1
  · show tG u (B + 6) 4 2 (nI t) (nI 1) = _
    rw [tG_in (by decide) (by decide) (by omega) (by decide)]
    exact (ht t hh).2
theorem k_givr_eq (h : relCnt u B M N) (ht : relGivr u B M N) {g : Nat} (hh : g < N 5) : k_givr u B (nI g) 0 = u (M + 11) g := by
  have h4 : N 5 ≤ 3 := (h 5 (by decide)).2.2
  show tG u (B + 8) 3 1 (nI g) (nI 0) = _
  rw [tG_in (by decide) (by decide) (by omega) (by decide)]
  exact ht g hh
theorem near_eq (h : relCnt u B M N) (h1 : relThing u B M N) (h2 : relPers u B M N) (h3 : relTram u B M N) (h4 : relGivr u B M N) {g t p tr : Nat} (hg : g < N 5) (ht : t < N 2) (hp : p < N 3) (htr : tr < N 4) : k_near u B (nI g) (nI t) (nI p) (nI tr) x = m_near u M g t p tr x := by
  unfold k_near m_near
  rw [(k_thing_eq h h1 ht).1, (k_thing_eq h h1 ht).2, (k_pers_eq h h2 hp).1, (k_pers_eq h h2 hp).2.2, (k_tram_eq h h3 htr).1, k_givr_eq h h4 hg, clip_eq, near_sort]
theorem room_eq (h : relCnt u B M N) (h2 : relPers u B M N) {p : Nat} (hp : p < N 3) : k_room u B (nI p) = m_room u M p := by
  unfold k_room m_room
  rw [(k_pers_eq h h2 hp).1, (k_pers_eq h h2 hp).2.1]
theorem shared_eq (h : relCnt u B M N) (h5 : relRide u B M N) (h6 : relTake u B M N) {g p d : Nat} (hg : g < N 5) (hp : p < N 3) (hd : d < 7) : k_shared u B (nI g) (nI p) (nI d) = m_tog u M g p d ∧ okTr N (m_tog u M g p d) := by
  have hG : N 5 ≤ 3 := (h 5 (by decide)).2.2
  have hP : N 3 ≤ 5 := (h 3 (by decide)).2.2
  have hR : N 4 ≤ 4 := (h 4 (by decide)).2.2
  have e1 : k_take u B (nI g) (nI d) = u (M + 12) (7 * g + d) := by
    show tG u (B + 18) 3 7 (nI g) (nI d) = _
    rw [tG_in (by decide) (by decide) (by omega) hd]
    exact (h6 g d hg hd).1
  have e2 : k_ride u B (nI p) (nI d) = u (M + 8) (7 * p + d) := by
    show tG u (B + 16) 5 7 (nI p) (nI d) = _
    rw [tG_in (by decide) (by decide) (by omega) hd]
    exact (h5 p d hp hd).1
  unfold k_shared m_tog
  rw [e1, e2]
  have o1 := (h6 g d hg hd).2
  have o2 := (h5 p d hp hd).2
  generalize u (M + 12) (7 * g + d) = a at o1
  generalize u (M + 8) (7 * p + d) = b at o2
  rcases o1 with rfl | ⟨t, ht, rfl⟩
  · rw [if_pos (by decide)]
    by_cases hb : b = -2
    · rw [if_pos hb]; exact ⟨rfl, Or.inl rfl⟩
    · rw [if_neg hb, if_neg (fun z => hb z.symm)]; exact ⟨rfl, Or.inl rfl⟩
  · rw [if_neg (nI_pos (by omega))]
    by_cases hb : b = -2
    · rw [if_pos hb, hb, if_neg]
      · exact ⟨rfl, Or.inl rfl⟩
      · intro z
        exact absurd (show nI t < 0 by rw [z]; decide) (nI_pos (by omega))
    · rw [if_neg hb]
      by_cases hab : nI t = b
      · rw [if_pos hab, if_pos hab]
        exact ⟨hab, hab ▸ Or.inr ⟨t, ht, rfl⟩⟩
      · rw [if_neg hab, if_neg hab]
        exact ⟨rfl, Or.inl rfl⟩
end RELA
