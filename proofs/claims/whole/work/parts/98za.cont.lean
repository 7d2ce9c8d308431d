/-! ===== the reader: what was told so far, of both ===== -/
section R2D
variable (uc um : mU) (D M : Nat) (N : Nat → Nat)
def r2Cnt : Prop := ∀ c, c < 10 → uc (D + 20) c = nI (N c) ∧ um M c = nI (N c) ∧ N c ≤ maxN c
def r2Thing : Prop := ∀ t, t < N 2 → uc (D + 2) (t * 2 + 0) = um (M + 1) t ∧ uc (D + 2) (t * 2 + 1) = um (M + 2) t
def r2Pers : Prop := ∀ p, p < N 3 → uc (D + 4) (p * 3 + 0) = um (M + 5) p ∧ uc (D + 4) (p * 3 + 1) = um (M + 6) p ∧ uc (D + 4) (p * 3 + 2) = um (M + 7) p
def r2Tram : Prop := ∀ t, t < N 4 → uc (D + 6) (t * 2 + 0) = um (M + 9) t ∧ uc (D + 6) (t * 2 + 1) = um (M + 10) t
def r2Givr : Prop := ∀ g, g < N 5 → uc (D + 8) (g * 1 + 0) = um (M + 11) g
def r2Ride : Prop := ∀ p d, p < 5 → d < 7 → uc (D + 16) (p * 7 + d) = um (M + 8) (7 * p + d) ∧ okTr N (um (M + 8) (7 * p + d))
def r2Take : Prop := ∀ g d, g < 3 → d < 7 → uc (D + 18) (g * 7 + d) = um (M + 12) (7 * g + d) ∧ okTr N (um (M + 12) (7 * g + d))
def r2Gift : Prop := ∀ k, k < N 7 → (∃ g, g < N 5 ∧ um (M + 13) k = nI g) ∧ (∃ t, t < N 2 ∧ um (M + 14) k = nI t) ∧ (∃ p, p < N 3 ∧ um (M + 15) k = nI p) ∧ (∃ d, d < N 0 ∧ um (M + 16) k = nI d) ∧ uc (D + 10) (k * 4 + 0) = um (M + 13) k ∧ uc (D + 10) (k * 4 + 1) = um (M + 14) k ∧ uc (D + 10) (k * 4 + 2) = um (M + 15) k ∧ uc (D + 10) (k * 4 + 3) = um (M + 16) k
def r2Fnd : Prop := (∀ k, k < N 8 → ∃ t p, t < N 2 ∧ p < N 3 ∧ um (M + 4) k = nI t ∧ um (M + 3) t = nI p ∧ uc (D + 12) (k * 2 + 0) = nI t ∧ uc (D + 12) (k * 2 + 1) = nI p) ∧ (∀ t, t < 4 → um (M + 3) t = -2 ∨ ∃ k, k < N 8 ∧ um (M + 4) k = nI t) ∧ (∀ k k', k < k' → k' < N 8 → um (M + 4) k ≠ um (M + 4) k')
def r2Exam : Prop := ∀ k, k < N 9 → (∃ g, g < N 5 ∧ um (M + 17) k = nI g) ∧ (∃ t, t < N 2 ∧ um (M + 18) k = nI t) ∧ (∃ p, p < N 3 ∧ um (M + 19) k = nI p) ∧ (∃ r, r < N 4 ∧ um (M + 20) k = nI r) ∧ uc (D + 14) (k * 5 + 0) = um (M + 17) k ∧ uc (D + 14) (k * 5 + 1) = um (M + 18) k ∧ uc (D + 14) (k * 5 + 2) = um (M + 19) k ∧ uc (D + 14) (k * 5 + 3) = um (M + 20) k ∧ ((uc (D + 14) (k * 5 + 4) = 0 ∧ um (M + 21) k = 1) ∨ (uc (D + 14) (k * 5 + 4) = 1 ∧ um (M + 21) k = 0))
def b2Thing : Prop := ∀ t, t < N 2 → ∃ s w, s ≤ 2 ∧ w ≤ 50 ∧ um (M + 1) t = nI s ∧ um (M + 2) t = nI w
def b2Pers : Prop := ∀ p, p < N 3 → ∃ k r w, k ≤ 3 ∧ r ≤ 9 ∧ w ≤ 99 ∧ um (M + 5) p = nI k ∧ um (M + 6) p = nI r ∧ um (M + 7) p = nI w
def b2Tram : Prop := ∀ t, t < N 4 → ∃ c w, c ≤ 60 ∧ 1 ≤ w ∧ w ≤ 60 ∧ um (M + 9) t = nI c ∧ um (M + 10) t = nI w
def b2Givr : Prop := ∀ g, g < N 5 → ∃ s, s ≤ 60 ∧ um (M + 11) g = nI s
end R2D
/-- what was told so far -/
def J1 (uc um : mU) (D M : Nat) (N : Nat → Nat) : Prop := r2Cnt uc um D M N ∧ (r2Thing uc um D M N ∧ b2Thing um M N) ∧ (r2Pers uc um D M N ∧ b2Pers um M N) ∧ (r2Tram uc um D M N ∧ b2Tram um M N) ∧ (r2Givr uc um D M N ∧ b2Givr um M N) ∧ r2Ride uc um D M N ∧ r2Take uc um D M N ∧ r2Gift uc um D M N ∧ r2Fnd uc um D M N ∧ r2Exam uc um D M N ∧ 2 ≤ N 0
theorem J1_rel {u : mU} {D M : Nat} {N : Nat → Nat} (h : J1 u u D M N) : relC u D M N := by
  obtain ⟨h0, ⟨h1, g1⟩, ⟨h2, g2⟩, ⟨h3, g3⟩, ⟨h4, g4⟩, h5, h6, h7, h8, h9, -⟩ := h
  have b3 : N 3 ≤ 5 := (h0 3 (by decide)).2.2
  have b5 : N 5 ≤ 3 := (h0 5 (by decide)).2.2
  exact ⟨h0, h1, h2, h3, h4, fun p d hp hd => h5 p d (by omega) hd, fun g d hg hd => h6 g d (by omega) hd, h7, h8, h9, g1, g2, g3, g4⟩
section CGS
variable {uc uc' um um' : mU} {D M : Nat} {N N' : Nat → Nat}
theorem cg_Thing (hc : uc' (D + 2) = uc (D + 2)) (h1 : um' (M + 1) = um (M + 1)) (h2 : um' (M + 2) = um (M + 2)) (hN : N' 2 = N 2) (h : r2Thing uc um D M N ∧ b2Thing um M N) : r2Thing uc' um' D M N' ∧ b2Thing um' M N' := by
  unfold r2Thing b2Thing at *
  rw [hc, h1, h2, hN]
  exact h
theorem cg_Pers (hc : uc' (D + 4) = uc (D + 4)) (h1 : um' (M + 5) = um (M + 5)) (h2 : um' (M + 6) = um (M + 6)) (h3 : um' (M + 7) = um (M + 7)) (hN : N' 3 = N 3) (h : r2Pers uc um D M N ∧ b2Pers um M N) : r2Pers uc' um' D M N' ∧ b2Pers um' M N' := by
  unfold r2Pers b2Pers at *
  rw [hc, h1, h2, h3, hN]
  exact h
theorem cg_Tram (hc : uc' (D + 6) = uc (D + 6)) (h1 : um' (M + 9) = um (M + 9)) (h2 : um' (M + 10) = um (M + 10)) (hN : N' 4 = N 4) (h : r2Tram uc um D M N ∧ b2Tram um M N) : r2Tram uc' um' D M N' ∧ b2Tram um' M N' := by
  unfold r2Tram b2Tram at *
  rw [hc, h1, h2, hN]
  exact h
theorem cg_Givr (hc : uc' (D + 8) = uc (D + 8)) (h1 : um' (M + 11) = um (M + 11)) (hN : N' 5 = N 5) (h : r2Givr uc um D M N ∧ b2Givr um M N) : r2Givr uc' um' D M N' ∧ b2Givr um' M N' := by
  unfold r2Givr b2Givr at *
  rw [hc, h1, hN]
  exact h
theorem okTr_mono {x : Int32} (hle : N 4 ≤ N' 4) (h : okTr N x) : okTr N' x := by
  rcases h with h | ⟨t, ht, e⟩
  · exact Or.inl h
  · exact Or.inr ⟨t, by omega, e⟩
theorem cg_Ride (hc : uc' (D + 16) = uc (D + 16)) (h1 : um' (M + 8) = um (M + 8)) (hle : N 4 ≤ N' 4) (h : r2Ride uc um D M N) : r2Ride uc' um' D M N' := by
  unfold r2Ride at *
  rw [hc, h1]
  exact fun p d hp hd => ⟨(h p d hp hd).1, okTr_mono hle (h p d hp hd).2⟩
theorem cg_Take (hc : uc' (D + 18) = uc (D + 18)) (h1 : um' (M + 12) = um (M + 12)) (hle : N 4 ≤ N' 4) (h : r2Take uc um D M N) : r2Take uc' um' D M N' := by
  unfold r2Take at *
  rw [hc, h1]
  exact fun p d hp hd => ⟨(h p d hp hd).1, okTr_mono hle (h p d hp hd).2⟩
theorem cg_Gift (hc : uc' (D + 10) = uc (D + 10)) (h1 : um' (M + 13) = um (M + 13)) (h2 : um' (M + 14) = um (M + 14)) (h3 : um' (M + 15) = um (M + 15)) (h4 : um' (M + 16) = um (M + 16)) (hN : N' 7 = N 7) (hle : ∀ c, N c ≤ N' c) (h : r2Gift uc um D M N) : r2Gift uc' um' D M N' := by
  unfold r2Gift at *
  rw [hc, h1, h2, h3, h4, hN]
  intro k hk
  obtain ⟨⟨g, g1, g2⟩, ⟨t, t1, t2⟩, ⟨p, p1, p2⟩, ⟨d, d1, d2⟩, hr⟩ := h k hk
  exact ⟨⟨g, Nat.lt_of_lt_of_le g1 (hle 5), g2⟩, ⟨t, Nat.lt_of_lt_of_le t1 (hle 2), t2⟩, ⟨p, Nat.lt_of_lt_of_le p1 (hle 3), p2⟩, ⟨d, Nat.lt_of_lt_of_le d1 (hle 0), d2⟩, hr⟩
theorem cg_Fnd (hc : uc' (D + 12) = uc (D + 12)) (h1 : um' (M + 3) = um (M + 3)) (h2 : um' (M + 4) = um (M + 4)) (hN : N' 8 = N 8) (hle : ∀ c, N c ≤ N' c) (h : r2Fnd uc um D M N) : r2Fnd uc' um' D M N' := by
  unfold r2Fnd at *
  rw [hc, h1, h2, hN]
  refine ⟨fun k hk => ?_, h.2⟩
  obtain ⟨t, p, t1, p1, hr⟩ := h.1 k hk
  exact ⟨t, p, Nat.lt_of_lt_of_le t1 (hle 2), Nat.lt_of_lt_of_le p1 (hle 3), hr⟩
theorem cg_Exam (hc : uc' (D + 14) = uc (D + 14)) (h1 : um' (M + 17) = um (M + 17)) (h2 : um' (M + 18) = um (M + 18)) (h3 : um' (M + 19) = um (M + 19)) (h4 : um' (M + 20) = um (M + 20)) (h5 : um' (M + 21) = um (M + 21)) (hN : N' 9 = N 9) (hle : ∀ c, N c ≤ N' c) (h : r2Exam uc um D M N) : r2Exam uc' um' D M N' := by
  unfold r2Exam at *
  rw [hc, h1, h2, h3, h4, h5, hN]
  intro k hk
  obtain ⟨⟨g, g1, g2⟩, ⟨t, t1, t2⟩, ⟨p, p1, p2⟩, ⟨d, d1, d2⟩, hr⟩ := h k hk
  exact ⟨⟨g, Nat.lt_of_lt_of_le g1 (hle 5), g2⟩, ⟨t, Nat.lt_of_lt_of_le t1 (hle 2), t2⟩, ⟨p, Nat.lt_of_lt_of_le p1 (hle 3), p2⟩, ⟨d, Nat.lt_of_lt_of_le d1 (hle 4), d2⟩, hr⟩
/-- one more of a sort -/
theorem ad_Cnt {c : Nat} (hc : c < 10) (hm : N c + 1 ≤ maxN c) (h1 : uc' (D + 20) = upd (uc (D + 20)) c (nI (N c + 1))) (h2 : ∀ i, i < 10 → um' M i = if i = c then nI (N c + 1) else um M i) (h : r2Cnt uc um D M N) : r2Cnt uc' um' D M (updN N c (N c + 1)) := by
  intro i hi
  obtain ⟨a1, a2, a3⟩ := h i hi
  rw [h1, h2 i hi, upd_at, updN_at]
  by_cases e : i = c
  · rw [if_pos e, if_pos e, if_pos e]
    exact ⟨rfl, rfl, by rw [e]; exact hm⟩
  · rw [if_neg e, if_neg e, if_neg e]
    exact ⟨a1, a2, a3⟩
theorem updN_le {c : Nat} (i : Nat) : N i ≤ updN N c (N c + 1) i := by
  rw [updN_at]
  by_cases e : i = c
  · rw [if_pos e, e]; omega
  · rw [if_neg e]; omega
end CGS
/-- the names told, and how many there are -/
def J2 (uc : mU) (vc : mV) (um : mU) (vm : mV) (M : Nat) (N : Nat → Nat) : Prop := ∃ nm ss xx, NMR uc vc um vm M (N 2 + N 3 + N 4 + N 5) nm ss xx ∧ ∀ i, i < N 2 + N 3 + N 4 + N 5 → xx i < N (ss i + 2)
theorem J2_keep {uc uc' um um' : mU} {vc vc' vm vm' : mV} {M : Nat} {N N' : Nat → Nat} (h5 : uc' 1 5 = uc 1 5) (h26 : uc' 26 = uc 26) (h10 : um' M 10 = um M 10) (h23 : um' (M + 23) = um (M + 23)) (h24 : um' (M + 24) = um (M + 24)) (v24 : vc' 24 = vc 24) (v22 : vm' (M + 22) = vm (M + 22)) (hN : N' 2 = N 2 ∧ N' 3 = N 3 ∧ N' 4 = N 4 ∧ N' 5 = N 5) (h : J2 uc vc um vm M N) : J2 uc' vc' um' vm' M N' := by
  obtain ⟨nm, ss, xx, ⟨n1, n2, n3, n4⟩, hx⟩ := h
  unfold J2 NMR
  rw [h5, h26, h10, h23, h24, v24, v22, hN.1, hN.2.1, hN.2.2.1, hN.2.2.2]
  refine ⟨nm, ss, xx, ⟨n1, n2, n3, n4⟩, fun i hi => ?_⟩
  have h1 := hx i hi
  have hs := (n4 i hi).2.2.2.1
  have : ss i = 0 ∨ ss i = 1 ∨ ss i = 2 ∨ ss i = 3 := by omega
  rcases this with z | z | z | z
  · rw [z] at h1 ⊢; exact hN.1 ▸ h1
  · rw [z] at h1 ⊢; exact hN.2.1 ▸ h1
  · rw [z] at h1 ⊢; exact hN.2.2.1 ▸ h1
  · rw [z] at h1 ⊢; exact hN.2.2.2 ▸ h1
/-- a name more, of sort c -/
theorem J2_add {uc uc' um um' : mU} {vc vc' vm vm' : mV} {M : Nat} {N : Nat → Nat} {l0 : List Nat} {c : Nat} (hc : 2 ≤ c ∧ c ≤ 5) (hl : okQ l0) (h16 : N 2 + N 3 + N 4 + N 5 < 16) (h5 : uc' 1 5 = nI (N 2 + N 3 + N 4 + N 5 + 1)) (h26 : uc' 26 = upd (upd (uc 26) ((N 2 + N 3 + N 4 + N 5) * 2 + 0) (nI c)) ((N 2 + N 3 + N 4 + N 5) * 2 + 1) (nI (N c))) (h10 : um' M 10 = nI (N 2 + N 3 + N 4 + N 5 + 1)) (h23 : um' (M + 23) = upd (um (M + 23)) (N 2 + N 3 + N 4 + N 5) (nI (c - 2))) (h24 : um' (M + 24) = upd (um (M + 24)) (N 2 + N 3 + N 4 + N 5) (nI (N c))) (v24 : ∀ j, vc' 24 j = if j = N 2 + N 3 + N 4 + N 5 then rv 27 l0 else vc 24 j) (v22 : ∀ j, vm' (M + 22) j = if j = N 2 + N 3 + N 4 + N 5 then rv 32 l0 else vm (M + 22) j) (hNc : N c < 16) (h : J2 uc vc um vm M N) : J2 uc' vc' um' vm' M (updN N c (N c + 1)) := by
  obtain ⟨nm, ss, xx, ⟨n1, n2, n3, n4⟩, hx⟩ := h
  have es : updN N c (N c + 1) 2 + updN N c (N c + 1) 3 + updN N c (N c + 1) 4 + updN N c (N c + 1) 5 = N 2 + N 3 + N 4 + N 5 + 1 := by
    have : c = 2 ∨ c = 3 ∨ c = 4 ∨ c = 5 := by omega
    simp -implicitDefEqProofs only [updN_at]
    rcases this with z | z | z | z <;> subst z <;> simp <;> omega
  unfold J2 NMR
  rw [es]
  generalize hnn : N 2 + N 3 + N 4 + N 5 = nn at *
  refine ⟨fun j => if j = nn then l0 else nm j, fun j => if j = nn then c - 2 else ss j, fun j => if j = nn then N c else xx j, ⟨h5, h10, by omega, fun i hi => ?_⟩, fun i hi => ?_⟩
  · rw [v24 i, v22 i, h26, h23, h24]
    simp -implicitDefEqProofs only [upd_at]
    by_cases e : i = nn
    · subst e
      simp -implicitDefEqProofs only [if_true]
      rw [if_neg (by omega)]
      refine ⟨hl, trivial, trivial, by omega, by omega, ?_, trivial, trivial, trivial⟩
      rw [show c - 2 + 2 = c by omega]
    · obtain ⟨o1, o2, o3, o4, o5, o6, o7, o8, o9⟩ := n4 i (by omega)
      have z1 : ¬ i * 2 + 0 = nn * 2 + 1 := by omega
      have z2 : ¬ i * 2 + 0 = nn * 2 + 0 := by omega
      have z3 : ¬ i * 2 + 1 = nn * 2 + 1 := by omega
      have z4 : ¬ i * 2 + 1 = nn * 2 + 0 := by omega
      simp -implicitDefEqProofs only [e, z1, z2, z3, z4, if_false]
      exact ⟨o1, o2, o3, o4, o5, o6, o7, o8, o9⟩
  · simp -implicitDefEqProofs only []
    by_cases e : i = nn
    · rw [if_pos e, if_pos e, updN_at, show c - 2 + 2 = c by omega, if_pos rfl]; omega
    · rw [if_neg e, if_neg e]
      exact Nat.lt_of_lt_of_le (hx i (by omega)) (updN_le _)
