/-- is x a number below n? -/
def hasN (n : Nat) (x : Int32) : Int32 := if x < 0 then 0 else if nI n ≤ x then 0 else 1
theorem hasN_0 (x : Int32) : hasN 0 x = 0 := by
  unfold hasN
  by_cases c : x < 0
  · rw [if_pos c]
  · rw [if_neg c, nI_0, if_pos (Int32.not_lt.mp c)]
theorem hasN_in {n : Nat} {x : Int32} (h : ¬ hasN n x = 0) (hn : n < 2 ^ 31) : ∃ k, k < n ∧ x = nI k := by
  unfold hasN at h
  by_cases c : x < 0
  · rw [if_pos c] at h; exact absurd rfl h
  · rw [if_neg c] at h
    by_cases c2 : nI n ≤ x
    · rw [if_pos c2] at h; exact absurd rfl h
    · obtain ⟨k, hk, rfl⟩ := nI_of c
      exact ⟨k, Nat.not_le.mp fun z => c2 (nI_le z hk), rfl⟩
section HAS
variable {T D m M : Nat} {c3 c4 : sF} {u : mU} {v : mV} {x : Int32} {N : Nat → Nat}
theorem x10_refused : f_X10_refused (Rep (SH T D c3 c4 m) u v) 0 x = some (-1, Rep (SH T D c3 c4 m) (wr u 0 7 x) v) := by
  unfold f_X10_refused
  rw [Rep_gC SH_0, Option.bind_some, Rep_pI (j := 7) SH_0 rfl, Option.bind_some]
theorem x12_refused : f_X12_refused (Rep (SH T D c3 c4 m) u v) 75 x = some (-1, Rep (SH T D c3 c4 m) (wr (wr u 75 1 x) 75 2 (-1)) v) := by
  unfold f_X12_refused
  rw [Rep_gC SH_75, Option.bind_some, Rep_pI (j := 1) SH_75 rfl, Option.bind_some, Rep_pI (j := 2) SH_75 rfl, Option.bind_some]
theorem mod_isThing (hM : mSh (SH T D (fR M) c4 m) M) (h : u M 2 = nI (N 2)) : f_X12_isThing (Rep (SH T D (fR M) c4 m) u v) 75 x = some (hasN (N 2) x) := by
  have h0 : SH T D (fR M) c4 m M = _ := hM 0 (by omega)
  unfold f_X12_isThing hasN
  rw [Rep_gC SH_75c, Option.bind_some, Rep_gQ (j := 3) SH_75c rfl, Option.bind_some, if_neg (by intro z; cases z), Rep_gR (j := 3) SH_75c rfl, Option.bind_some, Rep_gI (j := 2) h0 rfl, Option.bind_some, h]
  by_cases c : x < 0
  · rw [if_pos c, if_pos c]
  · rw [if_neg c, if_neg c]
    by_cases c2 : nI (N 2) ≤ x
    · rw [if_pos c2, if_pos c2]
    · rw [if_neg c2, if_neg c2]
theorem mod_noThing : f_X12_isThing (Rep (SH T D fN c4 m) u v) 75 x = some 0 := by
  unfold f_X12_isThing
  rw [Rep_gC SH_75, Option.bind_some, Rep_gQn (j := 3) SH_75 rfl, Option.bind_some, if_pos rfl]
end HAS
