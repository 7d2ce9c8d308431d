section NEAR
variable {sh : mS} {u : mU} {v : mV} {M B : Nat} {x : Int32}
theorem mod_near87 {p : Nat} (h : mSh sh M) (hp : p < 5) : J_X11_near_87 (Rep sh u v) M (nI p) x = some (m_clip (u (M + 5) p) x) := by
  have h0 : sh M = _ := h 0 (by omega)
  unfold J_X11_near_87 m_clip
  simp only [Rep_gR (j := 15) h0 rfl, m_aI (h := h 5 (by omega)) hp (by decide), Option.bind_some]
  by_cases c1 : u (M + 5) p = 3
  · rw [if_pos c1, if_pos c1]
    split <;> rfl
  · rw [if_neg c1, if_neg c1]
    split <;> rfl
theorem mod_near79 {p : Nat} (h : mSh sh M) (hp : p < 5) : J_X11_near_79 (Rep sh u v) M (nI p) x = some (m_clip (u (M + 5) p) (m_pos x)) := by
  unfold J_X11_near_79 m_pos
  rw [mod_near87 h hp, mod_near87 h hp]
  split <;> rfl
theorem mod_near43 {g p tr : Nat} {a b c : Int32} (h : mSh sh M) (hg : g < 3) (hp : p < 5) (ht : tr < 4) : J_X11_near_43 (Rep sh u v) M (nI g) (nI p) (nI tr) a b c = some (m_clip (u (M + 5) p) (m_pos (k_bish (u (M + 5) p) ((((c + b) + (5 * a)) - u (M + 9) tr) - u (M + 11) g)))) := by
  have h0 : sh M = _ := h 0 (by omega)
  unfold J_X11_near_43 k_bish
  simp only [Rep_gR (j := 15) h0 rfl, Rep_gR (j := 19) h0 rfl, Rep_gR (j := 21) h0 rfl, m_aI (h := h 5 (by omega)) hp (by decide), m_aI (h := h 9 (by omega)) ht (by decide), m_aI (h := h 11 (by omega)) hg (by decide), Option.bind_some]
  rw [mod_near79 h hp, mod_near79 h hp]
  split <;> rfl
theorem mod_near {g t p tr : Nat} (h : mSh sh M) (hg : g < 3) (ht : t < 4) (hp : p < 5) (htr : tr < 4) : f_X11_near (Rep sh u v) M (nI g) (nI t) (nI p) (nI tr) x = some (m_near u M g t p tr x) := by
  have h0 : sh M = _ := h 0 (by omega)
  unfold f_X11_near m_near
  simp only [Rep_gC h0, Rep_gR (j := 17) h0 rfl, Rep_gR (j := 12) h0 rfl, Rep_gR (j := 11) h0 rfl, m_aI (h := h 7 (by omega)) hp (by decide), m_aI (h := h 2 (by omega)) ht (by decide), m_aI (h := h 1 (by omega)) ht (by decide), Option.bind_some]
  rw [mod_near43 h hg hp htr, mod_near43 h hg hp htr, mod_near43 h hg hp htr]
  by_cases c1 : u (M + 1) t = 1
  · rw [if_pos c1, if_pos c1]
  · rw [if_neg c1, if_neg c1]
    by_cases c2 : u (M + 1) t = 2
    · rw [if_pos c2, if_pos c2]
    · rw [if_neg c2, if_neg c2]
theorem clip_eq (k n : Int32) : k_clip k n = m_clip k (m_pos n) := by
  have hp : q_mx 0 n = m_pos n := by
    unfold q_mx m_pos
    by_cases h : 0 < n
    · rw [if_pos h, if_pos (Int32.le_of_lt h)]
    · rw [if_neg h]
      by_cases h2 : 0 ≤ n
      · rw [if_pos h2]
        exact Int32.le_antisymm h2 (Int32.not_lt.mp h)
      · rw [if_neg h2]
  have hm : ∀ y : Int32, q_mn 100 y = if y ≤ 100 then y else 100 := by
    intro y
    unfold q_mn
    by_cases h : y < 100
    · rw [if_pos h, if_pos (Int32.le_of_lt h)]
    · rw [if_neg h]
      by_cases h2 : y ≤ 100
      · rw [if_pos h2]
        exact Int32.le_antisymm (Int32.not_lt.mp h) h2
      · rw [if_neg h2]
  unfold k_clip m_clip
  rw [hm, hm, hp]
theorem sum_eq (a b c d e f : Int32) : (a + b + 5 * c - (d + e)) + f = a + b + f + 5 * c - d - e := by
  simp only [Int32.sub_eq_add_neg, Int32.neg_add]
  generalize 5 * c = z
  ac_rfl
theorem near_sort (s a b c d e : Int32) : k_sort s (a + b + 5 * c - (d + e)) = a + b + (if s = 1 then 3 else if s = 2 then 10 else 0) + 5 * c - d - e := by
  unfold k_sort
  by_cases c1 : s = 1
  · rw [if_pos c1, if_pos c1, sum_eq]
  · rw [if_neg c1, if_neg c1]
    by_cases c2 : s = 2
    · rw [if_pos c2, if_pos c2, sum_eq]
    · rw [if_neg c2, if_neg c2, ← sum_eq, Int32.add_zero]
end NEAR
