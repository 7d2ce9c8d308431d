theorem q_b2_some {α β γ : Type} {a : α} {b : β} {f : α → β → Option γ} : q_b2 (some (a, b)) f = f a b := rfl
theorem q_zr_0 {α : Type} {a : α} : q_zr 0 a = some a := rfl
theorem q_zr_1 {α : Type} {a : α} : q_zr 1 a = some a := rfl
theorem ite_some_none {α : Type} {a : α} {c : Prop} [Decidable c] (h : c) : (if c then some a else none) = some a := if_pos h
section HSN
variable {T D m M : Nat} {c3 c4 : sF} {u : mU} {v : mV} {x : Int32} {N : Nat → Nat}
theorem cls_n0 (h : relCnt u T M N) : k_n u T 0 = nI (N 0) := k_n_eq h (c := 0) (by decide)
theorem cls_z0 (h : IN T u) : k_n u T 0 = 0 := by
  show tG u (T + 20) 1 10 (nI 0) (nI 0) = _
  rw [tG_in (by decide) (by decide) (by decide) (by decide), Nat.zero_mul, Nat.zero_add]
  exact h.1 0 (by decide)
theorem cls_c0 (ho : okTD T D) (h : relCnt u T M N) : f_X3_count (Rep (SH T D c3 c4 m) u v) T 0 = some (nI (N 0)) := by
  rw [col_count (SH_told ho), cls_n0 h]
theorem cls_k0 (ho : okTD T D) (h : IN T u) : f_X3_count (Rep (SH T D c3 c4 m) u v) T 0 = some 0 := by
  rw [col_count (SH_told ho), cls_z0 h]
theorem cls_h0 (ho : okTD T D) (h : relCnt u T M N) : f_X3_has (Rep (SH T D c3 c4 m) u v) T 0 x = some (hasN (N 0) x) := by
  rw [col_has (SH_told ho)]
  unfold k_has hasN
  rw [cls_n0 h]
theorem cls_o0 (ho : okTD T D) (h : IN T u) : f_X3_has (Rep (SH T D c3 c4 m) u v) T 0 x = some 0 := by
  rw [col_has (SH_told ho)]
  unfold k_has
  rw [cls_z0 h]
  exact congrArg some (hasN_0 x)
theorem cls_n1 (h : relCnt u T M N) : k_n u T 1 = nI (N 1) := k_n_eq h (c := 1) (by decide)
theorem cls_z1 (h : IN T u) : k_n u T 1 = 0 := by
  show tG u (T + 20) 1 10 (nI 0) (nI 1) = _
  rw [tG_in (by decide) (by decide) (by decide) (by decide), Nat.zero_mul, Nat.zero_add]
  exact h.1 1 (by decide)
theorem cls_c1 (ho : okTD T D) (h : relCnt u T M N) : f_X3_count (Rep (SH T D c3 c4 m) u v) T 1 = some (nI (N 1)) := by
  rw [col_count (SH_told ho), cls_n1 h]
theorem cls_k1 (ho : okTD T D) (h : IN T u) : f_X3_count (Rep (SH T D c3 c4 m) u v) T 1 = some 0 := by
  rw [col_count (SH_told ho), cls_z1 h]
theorem cls_h1 (ho : okTD T D) (h : relCnt u T M N) : f_X3_has (Rep (SH T D c3 c4 m) u v) T 1 x = some (hasN (N 1) x) := by
  rw [col_has (SH_told ho)]
  unfold k_has hasN
  rw [cls_n1 h]
theorem cls_o1 (ho : okTD T D) (h : IN T u) : f_X3_has (Rep (SH T D c3 c4 m) u v) T 1 x = some 0 := by
  rw [col_has (SH_told ho)]
  unfold k_has
  rw [cls_z1 h]
  exact congrArg some (hasN_0 x)
theorem cls_n2 (h : relCnt u T M N) : k_n u T 2 = nI (N 2) := k_n_eq h (c := 2) (by decide)
theorem cls_z2 (h : IN T u) : k_n u T 2 = 0 := by
  show tG u (T + 20) 1 10 (nI 0) (nI 2) = _
  rw [tG_in (by decide) (by decide) (by decide) (by decide), Nat.zero_mul, Nat.zero_add]
  exact h.1 2 (by decide)
theorem cls_c2 (ho : okTD T D) (h : relCnt u T M N) : f_X3_count (Rep (SH T D c3 c4 m) u v) T 2 = some (nI (N 2)) := by
  rw [col_count (SH_told ho), cls_n2 h]
theorem cls_k2 (ho : okTD T D) (h : IN T u) : f_X3_count (Rep (SH T D c3 c4 m) u v) T 2 = some 0 := by
  rw [col_count (SH_told ho), cls_z2 h]
theorem cls_h2 (ho : okTD T D) (h : relCnt u T M N) : f_X3_has (Rep (SH T D c3 c4 m) u v) T 2 x = some (hasN (N 2) x) := by
  rw [col_has (SH_told ho)]
  unfold k_has hasN
  rw [cls_n2 h]
theorem cls_o2 (ho : okTD T D) (h : IN T u) : f_X3_has (Rep (SH T D c3 c4 m) u v) T 2 x = some 0 := by
  rw [col_has (SH_told ho)]
  unfold k_has
  rw [cls_z2 h]
  exact congrArg some (hasN_0 x)
theorem cls_n3 (h : relCnt u T M N) : k_n u T 3 = nI (N 3) := k_n_eq h (c := 3) (by decide)
theorem cls_z3 (h : IN T u) : k_n u T 3 = 0 := by
  show tG u (T + 20) 1 10 (nI 0) (nI 3) = _
  rw [tG_in (by decide) (by decide) (by decide) (by decide), Nat.zero_mul, Nat.zero_add]
  exact h.1 3 (by decide)
theorem cls_c3 (ho : okTD T D) (h : relCnt u T M N) : f_X3_count (Rep (SH T D c3 c4 m) u v) T 3 = some (nI (N 3)) := by
  rw [col_count (SH_told ho), cls_n3 h]
theorem cls_k3 (ho : okTD T D) (h : IN T u) : f_X3_count (Rep (SH T D c3 c4 m) u v) T 3 = some 0 := by
  rw [col_count (SH_told ho), cls_z3 h]
theorem cls_h3 (ho : okTD T D) (h : relCnt u T M N) : f_X3_has (Rep (SH T D c3 c4 m) u v) T 3 x = some (hasN (N 3) x) := by
  rw [col_has (SH_told ho)]
  unfold k_has hasN
  rw [cls_n3 h]
theorem cls_o3 (ho : okTD T D) (h : IN T u) : f_X3_has (Rep (SH T D c3 c4 m) u v) T 3 x = some 0 := by
  rw [col_has (SH_told ho)]
  unfold k_has
  rw [cls_z3 h]
  exact congrArg some (hasN_0 x)
theorem cls_n4 (h : relCnt u T M N) : k_n u T 4 = nI (N 4) := k_n_eq h (c := 4) (by decide)
theorem cls_z4 (h : IN T u) : k_n u T 4 = 0 := by
  show tG u (T + 20) 1 10 (nI 0) (nI 4) = _
  rw [tG_in (by decide) (by decide) (by decide) (by decide), Nat.zero_mul, Nat.zero_add]
  exact h.1 4 (by decide)
theorem cls_c4 (ho : okTD T D) (h : relCnt u T M N) : f_X3_count (Rep (SH T D c3 c4 m) u v) T 4 = some (nI (N 4)) := by
  rw [col_count (SH_told ho), cls_n4 h]
theorem cls_k4 (ho : okTD T D) (h : IN T u) : f_X3_count (Rep (SH T D c3 c4 m) u v) T 4 = some 0 := by
  rw [col_count (SH_told ho), cls_z4 h]
theorem cls_h4 (ho : okTD T D) (h : relCnt u T M N) : f_X3_has (Rep (SH T D c3 c4 m) u v) T 4 x = some (hasN (N 4) x) := by
  rw [col_has (SH_told ho)]
  unfold k_has hasN
  rw [cls_n4 h]
theorem cls_o4 (ho : okTD T D) (h : IN T u) : f_X3_has (Rep (SH T D c3 c4 m) u v) T 4 x = some 0 := by
  rw [col_has (SH_told ho)]
  unfold k_has
  rw [cls_z4 h]
  exact congrArg some (hasN_0 x)
theorem cls_n5 (h : relCnt u T M N) : k_n u T 5 = nI (N 5) := k_n_eq h (c := 5) (by decide)
theorem cls_z5 (h : IN T u) : k_n u T 5 = 0 := by
  show tG u (T + 20) 1 10 (nI 0) (nI 5) = _
  rw [tG_in (by decide) (by decide) (by decide) (by decide), Nat.zero_mul, Nat.zero_add]
  exact h.1 5 (by decide)
theorem cls_c5 (ho : okTD T D) (h : relCnt u T M N) : f_X3_count (Rep (SH T D c3 c4 m) u v) T 5 = some (nI (N 5)) := by
  rw [col_count (SH_told ho), cls_n5 h]
theorem cls_k5 (ho : okTD T D) (h : IN T u) : f_X3_count (Rep (SH T D c3 c4 m) u v) T 5 = some 0 := by
  rw [col_count (SH_told ho), cls_z5 h]
theorem cls_h5 (ho : okTD T D) (h : relCnt u T M N) : f_X3_has (Rep (SH T D c3 c4 m) u v) T 5 x = some (hasN (N 5) x) := by
  rw [col_has (SH_told ho)]
  unfold k_has hasN
  rw [cls_n5 h]
theorem cls_o5 (ho : okTD T D) (h : IN T u) : f_X3_has (Rep (SH T D c3 c4 m) u v) T 5 x = some 0 := by
  rw [col_has (SH_told ho)]
  unfold k_has
  rw [cls_z5 h]
  exact congrArg some (hasN_0 x)
theorem cls_n6 (h : relCnt u T M N) : k_n u T 6 = nI (N 6) := k_n_eq h (c := 6) (by decide)
theorem cls_z6 (h : IN T u) : k_n u T 6 = 0 := by
  show tG u (T + 20) 1 10 (nI 0) (nI 6) = _
  rw [tG_in (by decide) (by decide) (by decide) (by decide), Nat.zero_mul, Nat.zero_add]
  exact h.1 6 (by decide)
theorem cls_c6 (ho : okTD T D) (h : relCnt u T M N) : f_X3_count (Rep (SH T D c3 c4 m) u v) T 6 = some (nI (N 6)) := by
  rw [col_count (SH_told ho), cls_n6 h]
theorem cls_k6 (ho : okTD T D) (h : IN T u) : f_X3_count (Rep (SH T D c3 c4 m) u v) T 6 = some 0 := by
  rw [col_count (SH_told ho), cls_z6 h]
theorem cls_h6 (ho : okTD T D) (h : relCnt u T M N) : f_X3_has (Rep (SH T D c3 c4 m) u v) T 6 x = some (hasN (N 6) x) := by
  rw [col_has (SH_told ho)]
  unfold k_has hasN
  rw [cls_n6 h]
theorem cls_o6 (ho : okTD T D) (h : IN T u) : f_X3_has (Rep (SH T D c3 c4 m) u v) T 6 x = some 0 := by
  rw [col_has (SH_told ho)]
  unfold k_has
  rw [cls_z6 h]
  exact congrArg some (hasN_0 x)
theorem cls_n7 (h : relCnt u T M N) : k_n u T 7 = nI (N 7) := k_n_eq h (c := 7) (by decide)
theorem cls_z7 (h : IN T u) : k_n u T 7 = 0 := by
  show tG u (T + 20) 1 10 (nI 0) (nI 7) = _
  rw [tG_in (by decide) (by decide) (by decide) (by decide), Nat.zero_mul, Nat.zero_add]
  exact h.1 7 (by decide)
theorem cls_c7 (ho : okTD T D) (h : relCnt u T M N) : f_X3_count (Rep (SH T D c3 c4 m) u v) T 7 = some (nI (N 7)) := by
  rw [col_count (SH_told ho), cls_n7 h]
theorem cls_k7 (ho : okTD T D) (h : IN T u) : f_X3_count (Rep (SH T D c3 c4 m) u v) T 7 = some 0 := by
  rw [col_count (SH_told ho), cls_z7 h]
theorem cls_h7 (ho : okTD T D) (h : relCnt u T M N) : f_X3_has (Rep (SH T D c3 c4 m) u v) T 7 x = some (hasN (N 7) x) := by
  rw [col_has (SH_told ho)]
  unfold k_has hasN
  rw [cls_n7 h]
theorem cls_o7 (ho : okTD T D) (h : IN T u) : f_X3_has (Rep (SH T D c3 c4 m) u v) T 7 x = some 0 := by
  rw [col_has (SH_told ho)]
  unfold k_has
  rw [cls_z7 h]
  exact congrArg some (hasN_0 x)
theorem cls_n8 (h : relCnt u T M N) : k_n u T 8 = nI (N 8) := k_n_eq h (c := 8) (by decide)
theorem cls_z8 (h : IN T u) : k_n u T 8 = 0 := by
  show tG u (T + 20) 1 10 (nI 0) (nI 8) = _
  rw [tG_in (by decide) (by decide) (by decide) (by decide), Nat.zero_mul, Nat.zero_add]
  exact h.1 8 (by decide)
theorem cls_c8 (ho : okTD T D) (h : relCnt u T M N) : f_X3_count (Rep (SH T D c3 c4 m) u v) T 8 = some (nI (N 8)) := by
  rw [col_count (SH_told ho), cls_n8 h]
theorem cls_k8 (ho : okTD T D) (h : IN T u) : f_X3_count (Rep (SH T D c3 c4 m) u v) T 8 = some 0 := by
  rw [col_count (SH_told ho), cls_z8 h]
theorem cls_h8 (ho : okTD T D) (h : relCnt u T M N) : f_X3_has (Rep (SH T D c3 c4 m) u v) T 8 x = some (hasN (N 8) x) := by
  rw [col_has (SH_told ho)]
  unfold k_has hasN
  rw [cls_n8 h]
theorem cls_o8 (ho : okTD T D) (h : IN T u) : f_X3_has (Rep (SH T D c3 c4 m) u v) T 8 x = some 0 := by
  rw [col_has (SH_told ho)]
  unfold k_has
  rw [cls_z8 h]
  exact congrArg some (hasN_0 x)
theorem cls_n9 (h : relCnt u T M N) : k_n u T 9 = nI (N 9) := k_n_eq h (c := 9) (by decide)
theorem cls_z9 (h : IN T u) : k_n u T 9 = 0 := by
  show tG u (T + 20) 1 10 (nI 0) (nI 9) = _
  rw [tG_in (by decide) (by decide) (by decide) (by decide), Nat.zero_mul, Nat.zero_add]
  exact h.1 9 (by decide)
theorem cls_c9 (ho : okTD T D) (h : relCnt u T M N) : f_X3_count (Rep (SH T D c3 c4 m) u v) T 9 = some (nI (N 9)) := by
  rw [col_count (SH_told ho), cls_n9 h]
theorem cls_k9 (ho : okTD T D) (h : IN T u) : f_X3_count (Rep (SH T D c3 c4 m) u v) T 9 = some 0 := by
  rw [col_count (SH_told ho), cls_z9 h]
theorem cls_h9 (ho : okTD T D) (h : relCnt u T M N) : f_X3_has (Rep (SH T D c3 c4 m) u v) T 9 x = some (hasN (N 9) x) := by
  rw [col_has (SH_told ho)]
  unfold k_has hasN
  rw [cls_n9 h]
theorem cls_o9 (ho : okTD T D) (h : IN T u) : f_X3_has (Rep (SH T D c3 c4 m) u v) T 9 x = some 0 := by
  rw [col_has (SH_told ho)]
  unfold k_has
  rw [cls_z9 h]
  exact congrArg some (hasN_0 x)
theorem mod_isPerson (hM : mSh (SH T D (fR M) c4 m) M) (h : u M 3 = nI (N 3)) : f_X12_isPerson (Rep (SH T D (fR M) c4 m) u v) 75 x = some (hasN (N 3) x) := by
  have h0 : SH T D (fR M) c4 m M = _ := hM 0 (by omega)
  unfold f_X12_isPerson hasN
  rw [Rep_gC SH_75c, Option.bind_some, Rep_gQ (j := 3) SH_75c rfl, Option.bind_some, if_neg (by intro z; cases z), Rep_gR (j := 3) SH_75c rfl, Option.bind_some, Rep_gI (j := 3) h0 rfl, Option.bind_some, h]
  by_cases c : x < 0
  · rw [if_pos c, if_pos c]
  · rw [if_neg c, if_neg c]
    by_cases c2 : nI (N 3) ≤ x
    · rw [if_pos c2, if_pos c2]
    · rw [if_neg c2, if_neg c2]
theorem mod_noPerson : f_X12_isPerson (Rep (SH T D fN c4 m) u v) 75 x = some 0 := by
  unfold f_X12_isPerson
  rw [Rep_gC SH_75, Option.bind_some, Rep_gQn (j := 3) SH_75 rfl, Option.bind_some, if_pos rfl]
theorem mod_isTram (hM : mSh (SH T D (fR M) c4 m) M) (h : u M 4 = nI (N 4)) : f_X12_isTram (Rep (SH T D (fR M) c4 m) u v) 75 x = some (hasN (N 4) x) := by
  have h0 : SH T D (fR M) c4 m M = _ := hM 0 (by omega)
  unfold f_X12_isTram hasN
  rw [Rep_gC SH_75c, Option.bind_some, Rep_gQ (j := 3) SH_75c rfl, Option.bind_some, if_neg (by intro z; cases z), Rep_gR (j := 3) SH_75c rfl, Option.bind_some, Rep_gI (j := 4) h0 rfl, Option.bind_some, h]
  by_cases c : x < 0
  · rw [if_pos c, if_pos c]
  · rw [if_neg c, if_neg c]
    by_cases c2 : nI (N 4) ≤ x
    · rw [if_pos c2, if_pos c2]
    · rw [if_neg c2, if_neg c2]
theorem mod_noTram : f_X12_isTram (Rep (SH T D fN c4 m) u v) 75 x = some 0 := by
  unfold f_X12_isTram
  rw [Rep_gC SH_75, Option.bind_some, Rep_gQn (j := 3) SH_75 rfl, Option.bind_some, if_pos rfl]
theorem mod_isGiver (hM : mSh (SH T D (fR M) c4 m) M) (h : u M 5 = nI (N 5)) : f_X12_isGiver (Rep (SH T D (fR M) c4 m) u v) 75 x = some (hasN (N 5) x) := by
  have h0 : SH T D (fR M) c4 m M = _ := hM 0 (by omega)
  unfold f_X12_isGiver hasN
  rw [Rep_gC SH_75c, Option.bind_some, Rep_gQ (j := 3) SH_75c rfl, Option.bind_some, if_neg (by intro z; cases z), Rep_gR (j := 3) SH_75c rfl, Option.bind_some, Rep_gI (j := 5) h0 rfl, Option.bind_some, h]
  by_cases c : x < 0
  · rw [if_pos c, if_pos c]
  · rw [if_neg c, if_neg c]
    by_cases c2 : nI (N 5) ≤ x
    · rw [if_pos c2, if_pos c2]
    · rw [if_neg c2, if_neg c2]
theorem mod_noGiver : f_X12_isGiver (Rep (SH T D fN c4 m) u v) 75 x = some 0 := by
  unfold f_X12_isGiver
  rw [Rep_gC SH_75, Option.bind_some, Rep_gQn (j := 3) SH_75 rfl, Option.bind_some, if_pos rfl]
theorem mod_isDay (hM : mSh (SH T D (fR M) c4 m) M) (h : u M 0 = nI (N 0)) : f_X12_isDay (Rep (SH T D (fR M) c4 m) u v) 75 x = some (hasN (N 0) x) := by
  have h0 : SH T D (fR M) c4 m M = _ := hM 0 (by omega)
  unfold f_X12_isDay hasN
  rw [Rep_gC SH_75c, Option.bind_some, Rep_gQ (j := 3) SH_75c rfl, Option.bind_some, if_neg (by intro z; cases z), Rep_gR (j := 3) SH_75c rfl, Option.bind_some, Rep_gI (j := 0) h0 rfl, Option.bind_some, h]
  by_cases c : x < 0
  · rw [if_pos c, if_pos c]
  · rw [if_neg c, if_neg c]
    by_cases c2 : nI (N 0) ≤ x
    · rw [if_pos c2, if_pos c2]
    · rw [if_neg c2, if_neg c2]
theorem mod_noDay : f_X12_isDay (Rep (SH T D fN c4 m) u v) 75 x = some 0 := by
  unfold f_X12_isDay
  rw [Rep_gC SH_75, Option.bind_some, Rep_gQn (j := 3) SH_75 rfl, Option.bind_some, if_pos rfl]
end HSN
section ASK
variable {P Q : cP} {α : Type}
theorem ask [DecidableEq α] {f10 f12 : qS → Option (α × qS)} {g : qS} {n : Nat} (hI : Inv P Q g n) (h1 : ∀ T D c3 c4 m u v, okTD T D → IK P Q T c3 m u → ∃ A t u1 v1, t ≠ 4 ∧ f10 (Rep (SH T D c3 c4 m) u v) = some (A, Rep (SH T D c3 c4 m) u1 v1) ∧ keep u u1 ∧ u1 0 7 = t ∧ ∀ u' v', keep u u' → ∃ u2 v2, f12 (Rep (SH T D c3 c4 m) u' v') = some (A, Rep (SH T D c3 c4 m) u2 v2) ∧ keep u' u2 ∧ u2 75 1 = t ∧ u2 75 2 = -1 ∧ u2 0 7 = u' 0 7) : ∃ g', (q_b2 (f10 g) fun r1 g1 => q_b2 (f12 g1) fun r2 g2 => if r1 = r2 then some g2 else none) = some g' ∧ Inv P Q g' n := by
  obtain ⟨T, D, c3, c4, m, u, v, rfl, rfl, ho, h3, h4, ht, hK⟩ := hI
  obtain ⟨A, t, u1, v1, ht4, e1, k1, t1, h2⟩ := h1 T D c3 c4 m u v ho hK
  obtain ⟨u2, v2, e2, k2, t2, t3, t4⟩ := h2 u1 v1 k1
  refine ⟨Rep (SH T D c3 c4 m) u2 v2, ?_, Inv_mk ho h3 h4 hK (keep_trans k1 k2) ⟨?_, ?_⟩⟩
  · rw [e1, q_b2_some, e2, q_b2_some, if_pos rfl]
  · rw [t2, t4, t1]
  · rw [t3, t4, t1, if_neg ht4]
theorem ask0 [DecidableEq α] {f10 f12 : qS → Option (α × qS)} {g : qS} {n : Nat} (hI : Inv P Q g n) (h1 : ∀ T D c3 c4 m u v, okTD T D → IK P Q T c3 m u → ∃ A t, t ≠ 4 ∧ f10 (Rep (SH T D c3 c4 m) u v) = some (A, Rep (SH T D c3 c4 m) (wr u 0 7 t) v) ∧ ∀ u' v', keep u u' → f12 (Rep (SH T D c3 c4 m) u' v') = some (A, Rep (SH T D c3 c4 m) (wr (wr (wr u' 75 0 0) 75 1 t) 75 2 (-1)) v')) : ∃ g', (q_b2 (f10 g) fun r1 g1 => q_b2 (f12 g1) fun r2 g2 => if r1 = r2 then some g2 else none) = some g' ∧ Inv P Q g' n := by
  refine ask hI ?_
  intro T D c3 c4 m u v ho hK
  obtain ⟨A, t, ht, e1, h2⟩ := h1 T D c3 c4 m u v ho hK
  refine ⟨A, t, _, v, ht, e1, keep_wr keep_refl rfl, wr_same _ _ _ _, ?_⟩
  intro u' v' hk
  refine ⟨_, v', h2 u' v' hk, keep_wr (keep_wr (keep_wr keep_refl rfl) rfl) rfl, ?_, wr_same _ _ _ _, ?_⟩
  · rw [wr_ix (by decide), wr_same]
  · rw [wr_role (by decide), wr_role (by decide), wr_role (by decide)]
end ASK
