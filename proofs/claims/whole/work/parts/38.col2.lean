def k_clip (kind n : Int32) : Int32 := if kind = 3 then q_mn 100 (q_mx 0 n * 2) else q_mn 100 (q_mx 0 n)
def k_bish (kind n : Int32) : Int32 := if kind = 1 then n + (-20) else n
def k_sort (sort n : Int32) : Int32 := if sort = 1 then n + 3 else if sort = 2 then n + 10 else n
def k_near (u : mU) (B : Nat) (g t p tr had : Int32) : Int32 := k_clip (k_pers u B p 0) (k_bish (k_pers u B p 0) (k_sort (k_thing u B t 0) (((k_pers u B p 2 + k_thing u B t 1) + (5 * had)) - (k_tram u B tr 0 + k_givr u B g 0))))
def k_can (u : mU) (B : Nat) (d g t p had : Int32) : Int32 := if k_shared u B g p d < 0 then 0 else if k_room u B p ≤ had then 0 else if k_noticed u B (k_near u B g t p (k_shared u B g p d) had) = 0 then 1 else 0
section COL2
variable {sh : mS} {u : mU} {v : mV} {B : Nat} {x y z w a5 : Int32} {g : qS}
theorem j_near103 {k n : Int32} : J_X3_nearness_103 g k n = some (k_clip k n) := by
  unfold J_X3_nearness_103 k_clip
  split <;> rfl
theorem j_near94 {k n : Int32} : J_X3_nearness_94 g k n = some (k_clip k (k_bish k n)) := by
  unfold J_X3_nearness_94 k_bish
  rw [j_near103, j_near103]
  split <;> rfl
theorem col_near (h : cSh sh B) : f_X3_nearness (Rep sh u v) B x y z w a5 = some (k_near u B x y z w a5) := by
  obtain ⟨h0, t0, t1, t2, t3, t4, t5, t6, t7, t8, t9⟩ := h
  unfold f_X3_nearness k_near
  simp only [Rep_gC h0, Rep_gR (j := 0) h0 rfl, Rep_gR (j := 1) h0 rfl, Rep_gR (j := 2) h0 rfl, Rep_gR (j := 3) h0 rfl, tab_get t0, tab_get t1, tab_get t2, tab_get t3, Option.bind_some, j_near94]
  unfold k_sort
  by_cases c1 : k_thing u B y 0 = 1
  · rw [if_pos c1, if_pos c1]
  · rw [if_neg c1, if_neg c1]
    by_cases c2 : k_thing u B y 0 = 2
    · rw [if_pos c2, if_pos c2]
    · rw [if_neg c2, if_neg c2]
theorem col_can {d g9 t p had : Int32} (h : cSh sh B) : f_X3_canGive (Rep sh u v) B d g9 t p had = some (k_can u B d g9 t p had) := by
  unfold f_X3_canGive k_can
  rw [Rep_gC h.1, Option.bind_some, col_shared h, Option.bind_some, col_room h, Option.bind_some, col_near h, Option.bind_some, col_noticed h, Option.bind_some]
  by_cases c1 : k_shared u B g9 p d < 0
  · rw [if_pos c1, if_pos c1]
  · rw [if_neg c1, if_neg c1]
    by_cases c2 : k_room u B p ≤ had
    · rw [if_pos c2, if_pos c2]
    · rw [if_neg c2, if_neg c2]
      by_cases c3 : k_noticed u B (k_near u B g9 t p (k_shared u B g9 p d) had) = 0
      · rw [if_pos c3, if_pos c3]
      · rw [if_neg c3, if_neg c3]
end COL2
/-! ===== the model's college at M ===== -/
def mSh (sh : mS) (M : Nat) : Prop := ∀ i, i < 25 → sh (M + i) = shC M i
theorem SH_mod {T D m : Nat} {c3 c4 : sF} {k : Nat} (hk : k < m) : mSh (SH T D c3 c4 m) (88 + k * 25) := fun i hi => SH_hi rfl hk hi
def m_room (u : mU) (M p : Nat) : Int32 := if u (M + 5) p = 2 then u (M + 6) p / 2 else u (M + 6) p
def m_tog (u : mU) (M g p d : Nat) : Int32 := if u (M + 8) (7 * p + d) = -2 then -2 else if u (M + 12) (7 * g + d) = u (M + 8) (7 * p + d) then u (M + 8) (7 * p + d) else -2
def m_clip (kind n : Int32) : Int32 := if kind = 3 then (if n * 2 ≤ 100 then n * 2 else 100) else (if n ≤ 100 then n else 100)
def m_pos (n : Int32) : Int32 := if 0 ≤ n then n else 0
def m_near (u : mU) (M g t p tr : Nat) (had : Int32) : Int32 := m_clip (u (M + 5) p) (m_pos (k_bish (u (M + 5) p) (((((u (M + 7) p + u (M + 2) t) + (if u (M + 1) t = 1 then 3 else if u (M + 1) t = 2 then 10 else 0)) + (5 * had)) - u (M + 9) tr) - u (M + 11) g)))
section MOD
variable {sh : mS} {u : mU} {v : mV} {M : Nat} {x : Int32}
theorem m_aI {i n k : Nat} {h : sh (M + i) = some (hA 1 n)} (hk : k < n) (hn : n < 2 ^ 31) : a_I (Rep sh u v) (M + i) (nI k) = some (u (M + i) k) := by
  rw [Rep_aI h (nI_in hk hn), nI_clamp (by omega)]
theorem mod_room {p : Nat} (h : mSh sh M) (hp : p < 5) : f_X11_roomOf (Rep sh u v) M (nI p) = some (m_room u M p) := by
  have h0 : sh M = _ := h 0 (by omega)
  unfold f_X11_roomOf m_room
  simp only [Rep_gC h0, Rep_gR (j := 15) h0 rfl, Rep_gR (j := 16) h0 rfl, m_aI (h := h 5 (by omega)) hp (by decide), m_aI (h := h 6 (by omega)) hp (by decide), Option.bind_some]
  by_cases c1 : u (M + 5) p = 2
  · rw [if_pos c1, if_pos c1, if_neg (by decide)]
  · rw [if_neg c1, if_neg c1]
theorem n7 (a b : Nat) : (7 * nI a) + nI b = nI (7 * a + b) := by
  rw [show (7 : Int32) = nI 7 from rfl, nI_mul, nI_add]
theorem mod_tog {g p d : Nat} (h : mSh sh M) (hg : g < 3) (hp : p < 5) (hd : d < 7) : f_X11_together (Rep sh u v) M (nI g) (nI p) (nI d) = some (m_tog u M g p d) := by
  have h0 : sh M = _ := h 0 (by omega)
  unfold f_X11_together m_tog
  simp only [n7, Rep_gC h0, Rep_gR (j := 18) h0 rfl, Rep_gR (j := 22) h0 rfl, m_aI (h := h 8 (by omega)) (show 7 * p + d < 35 by omega) (by decide), m_aI (h := h 12 (by omega)) (show 7 * g + d < 21 by omega) (by decide), Option.bind_some]
  by_cases c1 : u (M + 8) (7 * p + d) = -2
  · rw [if_pos c1, if_pos c1]
  · rw [if_neg c1, if_neg c1]
    by_cases c2 : u (M + 12) (7 * g + d) = u (M + 8) (7 * p + d)
    · rw [if_pos c2, if_pos c2]
    · rw [if_neg c2, if_neg c2]
end MOD
