/-! ===== the class's college at base B ===== -/
def cSh (sh : mS) (B : Nat) : Prop := sh B = some (hO 2 [fR (B + 1), fR (B + 3), fR (B + 5), fR (B + 7), fR (B + 9), fR (B + 11), fR (B + 13), fR (B + 15), fR (B + 17), fR (B + 19)]) ∧ tSh sh (B + 1) (B + 2) 4 2 ∧ tSh sh (B + 3) (B + 4) 5 3 ∧ tSh sh (B + 5) (B + 6) 4 2 ∧ tSh sh (B + 7) (B + 8) 3 1 ∧ tSh sh (B + 9) (B + 10) 12 4 ∧ tSh sh (B + 11) (B + 12) 4 2 ∧ tSh sh (B + 13) (B + 14) 8 5 ∧ tSh sh (B + 15) (B + 16) 5 7 ∧ tSh sh (B + 17) (B + 18) 3 7 ∧ tSh sh (B + 19) (B + 20) 1 10
theorem SH_told {T D m : Nat} {c3 c4 : sF} (h : okTD T D) : cSh (SH T D c3 c4 m) T := by
  rcases h with ⟨rfl, rfl⟩ | ⟨rfl, rfl⟩
  · exact ⟨rfl, ⟨rfl, rfl, by decide, by decide⟩, ⟨rfl, rfl, by decide, by decide⟩, ⟨rfl, rfl, by decide, by decide⟩, ⟨rfl, rfl, by decide, by decide⟩, ⟨rfl, rfl, by decide, by decide⟩, ⟨rfl, rfl, by decide, by decide⟩, ⟨rfl, rfl, by decide, by decide⟩, ⟨rfl, rfl, by decide, by decide⟩, ⟨rfl, rfl, by decide, by decide⟩, ⟨rfl, rfl, by decide, by decide⟩⟩
  · exact ⟨rfl, ⟨rfl, rfl, by decide, by decide⟩, ⟨rfl, rfl, by decide, by decide⟩, ⟨rfl, rfl, by decide, by decide⟩, ⟨rfl, rfl, by decide, by decide⟩, ⟨rfl, rfl, by decide, by decide⟩, ⟨rfl, rfl, by decide, by decide⟩, ⟨rfl, rfl, by decide, by decide⟩, ⟨rfl, rfl, by decide, by decide⟩, ⟨rfl, rfl, by decide, by decide⟩, ⟨rfl, rfl, by decide, by decide⟩⟩
theorem SH_draft {T D m : Nat} {c3 c4 : sF} (h : okTD T D) : cSh (SH T D c3 c4 m) D := by
  rcases h with ⟨rfl, rfl⟩ | ⟨rfl, rfl⟩
  · exact ⟨rfl, ⟨rfl, rfl, by decide, by decide⟩, ⟨rfl, rfl, by decide, by decide⟩, ⟨rfl, rfl, by decide, by decide⟩, ⟨rfl, rfl, by decide, by decide⟩, ⟨rfl, rfl, by decide, by decide⟩, ⟨rfl, rfl, by decide, by decide⟩, ⟨rfl, rfl, by decide, by decide⟩, ⟨rfl, rfl, by decide, by decide⟩, ⟨rfl, rfl, by decide, by decide⟩, ⟨rfl, rfl, by decide, by decide⟩⟩
  · exact ⟨rfl, ⟨rfl, rfl, by decide, by decide⟩, ⟨rfl, rfl, by decide, by decide⟩, ⟨rfl, rfl, by decide, by decide⟩, ⟨rfl, rfl, by decide, by decide⟩, ⟨rfl, rfl, by decide, by decide⟩, ⟨rfl, rfl, by decide, by decide⟩, ⟨rfl, rfl, by decide, by decide⟩, ⟨rfl, rfl, by decide, by decide⟩, ⟨rfl, rfl, by decide, by decide⟩, ⟨rfl, rfl, by decide, by decide⟩⟩
abbrev k_thing (u : mU) (B : Nat) (x y : Int32) : Int32 := tG u (B + 2) 4 2 x y
abbrev k_pers (u : mU) (B : Nat) (x y : Int32) : Int32 := tG u (B + 4) 5 3 x y
abbrev k_tram (u : mU) (B : Nat) (x y : Int32) : Int32 := tG u (B + 6) 4 2 x y
abbrev k_givr (u : mU) (B : Nat) (x y : Int32) : Int32 := tG u (B + 8) 3 1 x y
abbrev k_gift (u : mU) (B : Nat) (x y : Int32) : Int32 := tG u (B + 10) 12 4 x y
abbrev k_fnd (u : mU) (B : Nat) (x y : Int32) : Int32 := tG u (B + 12) 4 2 x y
abbrev k_exam (u : mU) (B : Nat) (x y : Int32) : Int32 := tG u (B + 14) 8 5 x y
abbrev k_ride (u : mU) (B : Nat) (x y : Int32) : Int32 := tG u (B + 16) 5 7 x y
abbrev k_take (u : mU) (B : Nat) (x y : Int32) : Int32 := tG u (B + 18) 3 7 x y
abbrev k_cnt (u : mU) (B : Nat) (x y : Int32) : Int32 := tG u (B + 20) 1 10 x y
abbrev k_n (u : mU) (B : Nat) (y : Int32) : Int32 := k_cnt u B 0 y
def k_room (u : mU) (B : Nat) (p : Int32) : Int32 := if k_pers u B p 0 = 2 then k_pers u B p 1 / 2 else k_pers u B p 1
def k_honour (u : mU) (B : Nat) (t : Int32) : Int32 := if k_thing u B t 0 = 2 then 4 else if k_thing u B t 0 = 1 then 2 else 1
def k_shared (u : mU) (B : Nat) (g p d : Int32) : Int32 := if k_take u B g d < 0 then -2 else if k_take u B g d = k_ride u B p d then k_take u B g d else -2
def k_has (u : mU) (B : Nat) (w x : Int32) : Int32 := if x < 0 then 0 else if k_n u B w ≤ x then 0 else 1
def k_noticed (u : mU) (B : Nat) (x : Int32) : Int32 := if x ≤ k_n u B 1 then 0 else 1
section COL
variable {sh : mS} {u : mU} {v : mV} {B : Nat} {x y z w a5 : Int32}
theorem col_count (h : cSh sh B) : f_X3_count (Rep sh u v) B x = some (k_n u B x) := by
  obtain ⟨h0, t0, t1, t2, t3, t4, t5, t6, t7, t8, t9⟩ := h
  unfold f_X3_count
  simp only [Rep_gC h0, Rep_gR (j := 9) h0 rfl, tab_get t9, Option.bind_some]

theorem col_has (h : cSh sh B) : f_X3_has (Rep sh u v) B w x = some (k_has u B w x) := by
  unfold f_X3_has k_has
  rw [Rep_gC h.1, Option.bind_some, col_count h, Option.bind_some]
  by_cases c1 : x < 0
  · rw [if_pos c1, if_pos c1]
  · rw [if_neg c1, if_neg c1]
    by_cases c2 : k_n u B w ≤ x
    · rw [if_pos c2, if_pos c2]
    · rw [if_neg c2, if_neg c2]
theorem col_room (h : cSh sh B) : f_X3_roomTold (Rep sh u v) B x = some (k_room u B x) := by
  obtain ⟨h0, t0, t1, t2, t3, t4, t5, t6, t7, t8, t9⟩ := h
  unfold f_X3_roomTold k_room
  simp only [Rep_gC h0, Rep_gR (j := 1) h0 rfl, tab_get t1, Option.bind_some]
  by_cases c1 : k_pers u B x 0 = 2
  · rw [if_pos c1, if_pos c1, if_neg (by decide)]
  · rw [if_neg c1, if_neg c1]
theorem col_honour (h : cSh sh B) : f_X3_honourOf (Rep sh u v) B x = some (k_honour u B x) := by
  obtain ⟨h0, t0, t1, t2, t3, t4, t5, t6, t7, t8, t9⟩ := h
  unfold f_X3_honourOf k_honour
  simp only [Rep_gC h0, Rep_gR (j := 0) h0 rfl, tab_get t0, Option.bind_some]
  by_cases c1 : k_thing u B x 0 = 2
  · rw [if_pos c1, if_pos c1]
  · rw [if_neg c1, if_neg c1]
    by_cases c2 : k_thing u B x 0 = 1
    · rw [if_pos c2, if_pos c2]
    · rw [if_neg c2, if_neg c2]
theorem col_shared (h : cSh sh B) : f_X3_sharedTram (Rep sh u v) B x y z = some (k_shared u B x y z) := by
  obtain ⟨h0, t0, t1, t2, t3, t4, t5, t6, t7, t8, t9⟩ := h
  unfold f_X3_sharedTram k_shared
  simp only [Rep_gC h0, Rep_gR (j := 7) h0 rfl, Rep_gR (j := 8) h0 rfl, tab_get t7, tab_get t8, Option.bind_some]
  by_cases c1 : k_take u B x z < 0
  · rw [if_pos c1, if_pos c1]
  · rw [if_neg c1, if_neg c1]
    by_cases c2 : k_take u B x z = k_ride u B y z
    · rw [if_pos c2, if_pos c2]
    · rw [if_neg c2, if_neg c2]
theorem col_noticed (h : cSh sh B) : f_X3_isNoticed (Rep sh u v) B x = some (k_noticed u B x) := by
  obtain ⟨h0, t0, t1, t2, t3, t4, t5, t6, t7, t8, t9⟩ := h
  unfold f_X3_isNoticed k_noticed
  simp only [Rep_gC h0, Rep_gR (j := 9) h0 rfl, tab_get t9, Option.bind_some]
  by_cases c1 : x ≤ k_n u B 1
  · rw [if_pos c1, if_pos c1]
  · rw [if_neg c1, if_neg c1]
end COL
