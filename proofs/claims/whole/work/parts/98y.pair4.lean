/-! ===== the reader: names ===== -/
/-- the names told so far: their words, sorts, numbers -/
def NMR (uc : mU) (vc : mV) (um : mU) (vm : mV) (M nn : Nat) (nm : Nat → List Nat) (ss xx : Nat → Nat) : Prop :=
  uc 1 5 = nI nn ∧ um M 10 = nI nn ∧ nn ≤ 16 ∧ ∀ i, i < nn → okQ (nm i) ∧ vc 24 i = rv 27 (nm i) ∧ vm (M + 22) i = rv 32 (nm i) ∧ ss i < 4 ∧ xx i < 100 ∧ uc 26 (i * 2 + 0) = nI (ss i + 2) ∧ um (M + 23) i = nI (ss i) ∧ uc 26 (i * 2 + 1) = nI (xx i) ∧ um (M + 24) i = nI (xx i)
def fdN (nm : Nat → List Nat) (l : List Nat) : Nat → Nat → Option Nat
  | 0, _ => none
  | r + 1, i => if nm i = l then some i else fdN nm l r (i + 1)
def fdV (o : Option Nat) : Int32 := match o with
  | some j => nI j
  | none => -1
theorem fdN_some {nm : Nat → List Nat} {l : List Nat} {j : Nat} : ∀ (r i : Nat), fdN nm l r i = some j → i ≤ j ∧ j < i + r ∧ nm j = l := by
  intro r
  induction r with
  | zero => intro i h; cases h
  | succ r ih =>
    intro i h
    have h' : (if nm i = l then some i else fdN nm l r (i + 1)) = some j := h
    by_cases c : nm i = l
    · rw [if_pos c] at h'
      cases h'
      exact ⟨by omega, by omega, c⟩
    · rw [if_neg c] at h'
      obtain ⟨h1, h2, h3⟩ := ih (i + 1) h'
      exact ⟨by omega, by omega, h3⟩
theorem SH_26 {T D m : Nat} {c3 c4 : sF} : tSh (SH T D c3 c4 m) 25 26 16 2 := ⟨rfl, rfl, by decide, by decide⟩
theorem wS24 {T D m : Nat} {c3 c4 : sF} : SH T D c3 c4 m 24 = some (hB 16) := rfl
theorem an_24 {T D m : Nat} {c3 c4 : sF} {u : mU} {v : mV} : a_n (Rep (SH T D c3 c4 m) u v) 24 = some (nI 16) := by
  unfold a_n
  rw [Rep_at wS24]
  rfl
theorem aL_24 {T D m : Nat} {c3 c4 : sF} {u : mU} {v : mV} {k : Nat} (h : k < 16) : a_L (Rep (SH T D c3 c4 m) u v) 24 (nI k) = some (v 24 k) := by rw [Rep_aL wS24 (nI_in h (by decide)), nI_clamp (by omega)]
theorem sL_24 {T D m : Nat} {c3 c4 : sF} {u : mU} {v : mV} {k : Nat} {y : Int64} (h : k < 16) : s_L (Rep (SH T D c3 c4 m) u v) 24 (nI k) y = some (Rep (SH T D c3 c4 m) u (wrL v 24 k y)) := by rw [Rep_sL wS24 (nI_in h (by decide)), nI_clamp (by omega)]
theorem gt26 {T D m : Nat} {c3 c4 : sF} {u : mU} {v : mV} {j c : Nat} (hj : j < 16) (hc : c < 2) : f_X8_get (Rep (SH T D c3 c4 m) u v) 25 (nI j) (nI c) = some (u 26 (j * 2 + c)) := by
  rw [tab_get SH_26, tG_in (by decide) (by decide) hj hc]
theorem st26 {T D m : Nat} {c3 c4 : sF} {u : mU} {v : mV} {j c : Nat} {z : Int32} (hj : j < 16) (hc : c < 2) : f_X8_set (Rep (SH T D c3 c4 m) u v) 25 (nI j) (nI c) z = some (Rep (SH T D c3 c4 m) (wr u 26 (j * 2 + c) z) v) := by
  rw [tab_set SH_26, tS_in (by decide) (by decide) hj hc]
section PR4
variable {T D m T2 D2 m2 M : Nat} {c3 c4 c3b : sF} {uc um : mU} {vc vm : mV} {L s k x nn : Nat} {l : List Nat} {nm : Nat → List Nat} {ss xx : Nat → Nat}
theorem find_c (hN : NMR uc vc um vm M nn nm ss xx) (hl : okQ l) (hv : vc 1 10 = rv 27 l) : f_X6_findName (Rep (SH T D c3 c4 m) uc vc) 1 = some (fdV (fdN nm l nn 0)) := by
  obtain ⟨n1, n2, n3, n4⟩ := hN
  have go : ∀ (r i f : Nat), i + r = nn → r < f → L_X6_findName_2 (Rep (SH T D c3 c4 m) uc vc) f 1 (nI i) = some (fdV (fdN nm l r i)) := by
    intro r
    induction r with
    | zero =>
      intro i f hi hf
      obtain ⟨f, rfl⟩ : ∃ f', f = f' + 1 := ⟨f - 1, by omega⟩
      rw [L_X6_findName_2, gI_1_5, Option.bind_some, n1, if_pos (nI_le (by omega) (by omega))]
      rfl
    | succ r ih =>
      intro i f hi hf
      obtain ⟨f, rfl⟩ : ∃ f', f = f' + 1 := ⟨f - 1, by omega⟩
      obtain ⟨o1, o2, o3, -⟩ := n4 i (by omega)
      have e : (rv 27 (nm i) = rv 27 l) = (nm i = l) := propext (rv27 o1 hl)
      rw [L_X6_findName_2, gI_1_5, Option.bind_some, n1, if_neg (nI_ge (by omega) (by omega)), gR_1_3, Option.bind_some, an_24, Option.bind_some, if_neg (nI_ge (by omega) (by omega)), Option.bind_some, aL_24 (by omega), Option.bind_some, gL_1_10, Option.bind_some, o2, hv, nI_1, ih (i + 1) f (by omega) (by omega)]
      show (if rv 27 (nm i) = rv 27 l then some (nI i) else some (fdV (fdN nm l r (i + 1)))) = some (fdV (if nm i = l then some i else fdN nm l r (i + 1)))
      by_cases c : nm i = l
      · rw [if_pos (e.mpr c), if_pos c]; rfl
      · rw [if_neg (fun z => c (e.mp z)), if_neg c]
  have e := go nn 0 1000000000 (by omega) (by omega)
  rw [nI_0] at e
  unfold f_X6_findName
  rw [gC_1, Option.bind_some, e]
theorem find_m (hMs : mSh (SH T2 D2 c3b (fR M) m2) M) (hN : NMR uc vc um vm M nn nm ss xx) (hl : okQ l) : f_X11_find (Rep (SH T2 D2 c3b (fR M) m2) um vm) M (rv 32 l) = some (fdV (fdN nm l nn 0)) := by
  obtain ⟨n1, n2, n3, n4⟩ := hN
  have go : ∀ (r i f : Nat), i + r = nn → r < f → L_X11_find_2 (Rep (SH T2 D2 c3b (fR M) m2) um vm) f M (rv 32 l) (nI i) = some (fdV (fdN nm l r i)) := by
    intro r
    induction r with
    | zero =>
      intro i f hi hf
      obtain ⟨f, rfl⟩ : ∃ f', f = f' + 1 := ⟨f - 1, by omega⟩
      rw [L_X11_find_2, mI_10 hMs, Option.bind_some, n2, if_pos (nI_le (by omega) (by omega))]
      rfl
    | succ r ih =>
      intro i f hi hf
      obtain ⟨f, rfl⟩ : ∃ f', f = f' + 1 := ⟨f - 1, by omega⟩
      obtain ⟨o1, o2, o3, -⟩ := n4 i (by omega)
      have e : (rv 32 (nm i) = rv 32 l) = (nm i = l) := propext (rv32 o1 hl)
      rw [L_X11_find_2, mI_10 hMs, Option.bind_some, n2, if_neg (nI_ge (by omega) (by omega)), mR_32 hMs, Option.bind_some, ma_22 hMs (by omega), Option.bind_some, o3, nI_1, ih (i + 1) f (by omega) (by omega)]
      show (if rv 32 (nm i) = rv 32 l then some (nI i) else some (fdV (fdN nm l r (i + 1)))) = some (fdV (if nm i = l then some i else fdN nm l r (i + 1)))
      by_cases c : nm i = l
      · rw [if_pos (e.mpr c), if_pos c]; rfl
      · rw [if_neg (fun z => c (e.mp z)), if_neg c]
  have e := go nn 0 1000000000 (by omega) (by omega)
  rw [nI_0] at e
  unfold f_X11_find
  rw [mC hMs, Option.bind_some, e]
/-- the model's search in the dead -/
theorem find_any (hMs : mSh (SH T2 D2 c3b (fR M) m2) M) (hn : um M 10 = nI nn) (hn16 : nn ≤ 16) (y : Int64) : f_X11_find (Rep (SH T2 D2 c3b (fR M) m2) um vm) M y = some (-1) ∨ ∃ j, j < 16 ∧ f_X11_find (Rep (SH T2 D2 c3b (fR M) m2) um vm) M y = some (nI j) := by
  have go : ∀ (r i f : Nat), i + r = nn → r < f → L_X11_find_2 (Rep (SH T2 D2 c3b (fR M) m2) um vm) f M y (nI i) = some (-1) ∨ ∃ j, j < 16 ∧ L_X11_find_2 (Rep (SH T2 D2 c3b (fR M) m2) um vm) f M y (nI i) = some (nI j) := by
    intro r
    induction r with
    | zero =>
      intro i f hi hf
      obtain ⟨f, rfl⟩ : ∃ f', f = f' + 1 := ⟨f - 1, by omega⟩
      refine Or.inl ?_
      rw [L_X11_find_2, mI_10 hMs, Option.bind_some, hn, if_pos (nI_le (by omega) (by omega))]
    | succ r ih =>
      intro i f hi hf
      obtain ⟨f, rfl⟩ : ∃ f', f = f' + 1 := ⟨f - 1, by omega⟩
      rw [L_X11_find_2, mI_10 hMs, Option.bind_some, hn, if_neg (nI_ge (by omega) (by omega)), mR_32 hMs, Option.bind_some, ma_22 hMs (by omega), Option.bind_some, nI_1]
      by_cases c : vm (M + 22) i = y
      · rw [if_pos c]; exact Or.inr ⟨i, by omega, rfl⟩
      · rw [if_neg c]; exact ih (i + 1) f (by omega) (by omega)
  have e := go nn 0 1000000000 (by omega) (by omega)
  rw [nI_0] at e
  unfold f_X11_find
  rw [mC hMs, Option.bind_some]
  exact e
theorem fresh12_dead (hMs : mSh (SH T2 D2 c3b (fR M) m2) M) (hn : um M 10 = nI nn) (hn16 : nn ≤ 16) (h9 : um 75 9 = 5) : J_X12_readFresh_12 75 (Rep (SH T2 D2 c3b (fR M) m2) um vm) = some (vm 75 14, Rep (SH T2 D2 c3b (fR M) m2) um vm) := by
  unfold J_X12_readFresh_12
  rw [gR_75_4, Option.bind_some, gL_75_14, Option.bind_some]
  rcases find_any (vm := vm) hMs hn hn16 (vm 75 14) with e | ⟨j, hj, e⟩
  · rw [e, Option.bind_some, if_pos rfl, Option.bind_some, goes_dead h9, Option.bind_some]
  · have c : ¬ nI j = -1 := fun z => absurd (show nI j < 0 by rw [z]; decide) (nI_pos (by omega))
    rw [e, Option.bind_some, if_neg c, flaw_dead h9, Option.bind_some, gL_75_14, Option.bind_some, goes_dead h9, Option.bind_some]
theorem fresh_dead (hMs : mSh (SH T2 D2 c3b (fR M) m2) M) (hn : um M 10 = nI nn) (hn16 : nn ≤ 16) (h9 : um 75 9 = 5) : f_X12_readFresh (Rep (SH T2 D2 c3b (fR M) m2) um vm) 75 = some (vm 75 14, Rep (SH T2 D2 c3b (fR M) m2) um vm) := by
  unfold f_X12_readFresh
  rw [gC_75, Option.bind_some, name_dead h9, Option.bind_some, if_pos rfl, flaw_dead h9, Option.bind_some, fresh12_dead hMs hn hn16 h9]
theorem known47_dead {j : Int32} (h9 : um 75 9 = 5) : J_X12_knownOne_47 75 j (Rep (SH T2 D2 c3b (fR M) m2) um vm) = some (0, Rep (SH T2 D2 c3b (fR M) m2) um vm) := by
  unfold J_X12_knownOne_47
  rw [gI_75_9, Option.bind_some, if_pos h9]
theorem known42_dead {j : Int32} (h9 : um 75 9 = 5) : J_X12_knownOne_42 75 j (Rep (SH T2 D2 c3b (fR M) m2) um vm) = some (0, Rep (SH T2 D2 c3b (fR M) m2) um vm) := by
  unfold J_X12_knownOne_42
  rw [flaw_dead h9, Option.bind_some, known47_dead h9]
theorem known12_dead {c : Int32} (hMs : mSh (SH T2 D2 c3b (fR M) m2) M) (hn : um M 10 = nI nn) (hn16 : nn ≤ 16) (h9 : um 75 9 = 5) : J_X12_knownOne_12 75 c (Rep (SH T2 D2 c3b (fR M) m2) um vm) = some (0, Rep (SH T2 D2 c3b (fR M) m2) um vm) := by
  unfold J_X12_knownOne_12
  rw [gR_75_4, Option.bind_some, gL_75_14, Option.bind_some]
  rcases find_any (vm := vm) hMs hn hn16 (vm 75 14) with e | ⟨j, hj, e⟩
  · rw [e, Option.bind_some, if_pos rfl, known42_dead h9]
  · have cj : ¬ nI j = -1 := fun z => absurd (show nI j < 0 by rw [z]; decide) (nI_pos (by omega))
    rw [e, Option.bind_some, if_neg cj, Option.bind_some, mR_33 hMs, Option.bind_some, ma_23 hMs hj, Option.bind_some, known47_dead h9, known42_dead h9]
    by_cases c1 : um (M + 23) j = c
    · rw [if_pos c1]
    · rw [if_neg c1]
theorem known_dead {c : Int32} (hMs : mSh (SH T2 D2 c3b (fR M) m2) M) (hn : um M 10 = nI nn) (hn16 : nn ≤ 16) (h9 : um 75 9 = 5) : f_X12_knownOne (Rep (SH T2 D2 c3b (fR M) m2) um vm) 75 c = some (0, Rep (SH T2 D2 c3b (fR M) m2) um vm) := by
  unfold f_X12_knownOne
  rw [gC_75, Option.bind_some, name_dead h9, Option.bind_some, if_pos rfl, flaw_dead h9, Option.bind_some, known12_dead hMs hn hn16 h9]
theorem rknown_dead {c : Int32} (hMs : mSh (SH T2 D2 c3b (fR M) m2) M) (hn : um M 10 = nI nn) (hn16 : nn ≤ 16) (h9 : um 75 9 = 5) : f_X12_readKnown (Rep (SH T2 D2 c3b (fR M) m2) um vm) 75 c = some (0, Rep (SH T2 D2 c3b (fR M) m2) um vm) := by
  unfold f_X12_readKnown
  rw [gC_75, Option.bind_some, known_dead hMs hn hn16 h9, q_b2_some, goes_dead h9, Option.bind_some]
theorem is_name (h : TKR L uc vc um vm s 1 l x) : f_X12_isName (Rep (SH T2 D2 c3b (fR M) m2) um vm) 75 = some (bI (decide (lnS l 10 0 = 10))) := by
  have h9 : um 75 9 = 2 := by
    obtain ⟨hL, h6, h7, hb, hs, hk5, hwd, hx, e, e1, e2, e3, hC, hM⟩ := h
    exact hM.1
  have w0 : f_X12_isWord (Rep (SH T2 D2 c3b (fR M) m2) um vm) 75 29 = _ := mod_word (w := 0) (by decide) (by decide) h
  have w1 : f_X12_isWord (Rep (SH T2 D2 c3b (fR M) m2) um vm) 75 32 = _ := mod_word (w := 1) (by decide) (by decide) h
  have w2 : f_X12_isWord (Rep (SH T2 D2 c3b (fR M) m2) um vm) 75 33 = _ := mod_word (w := 2) (by decide) (by decide) h
  have w3 : f_X12_isWord (Rep (SH T2 D2 c3b (fR M) m2) um vm) 75 34 = _ := mod_word (w := 3) (by decide) (by decide) h
  have w4 : f_X12_isWord (Rep (SH T2 D2 c3b (fR M) m2) um vm) 75 35 = _ := mod_word (w := 4) (by decide) (by decide) h
  have w5 : f_X12_isWord (Rep (SH T2 D2 c3b (fR M) m2) um vm) 75 36 = _ := mod_word (w := 5) (by decide) (by decide) h
  have w6 : f_X12_isWord (Rep (SH T2 D2 c3b (fR M) m2) um vm) 75 37 = _ := mod_word (w := 6) (by decide) (by decide) h
  have w7 : f_X12_isWord (Rep (SH T2 D2 c3b (fR M) m2) um vm) 75 38 = _ := mod_word (w := 7) (by decide) (by decide) h
  have w8 : f_X12_isWord (Rep (SH T2 D2 c3b (fR M) m2) um vm) 75 39 = _ := mod_word (w := 8) (by decide) (by decide) h
  have w9 : f_X12_isWord (Rep (SH T2 D2 c3b (fR M) m2) um vm) 75 40 = _ := mod_word (w := 9) (by decide) (by decide) h
  have t : bI true = 1 := rfl
  have f : bI false = 0 := rfl
  have n10 : ¬ (1 : Int32) = 0 := by decide
  unfold f_X12_isName
  rw [gC_75, Option.bind_some, gI_75_9, Option.bind_some, if_pos h9, w0, Option.bind_some, w1, Option.bind_some, w2, Option.bind_some, w3, Option.bind_some, w4, Option.bind_some, w5, Option.bind_some, w6, Option.bind_some, w7, Option.bind_some, w8, Option.bind_some, w9, Option.bind_some]
  have hb : ∀ b : Bool, (if bI b = 0 then some (1 : Int32) else some 0) = some (bI (!b)) := fun b => by cases b <;> rfl
  simp -implicitDefEqProofs only [lnS]
  by_cases g0 : l = wd 0
  · simp -implicitDefEqProofs only [g0, decide_true, t, n10, if_false, if_true]; rfl
  simp -implicitDefEqProofs only [g0, decide_false, f, if_true, if_false]
  by_cases g1 : l = wd 1
  · simp -implicitDefEqProofs only [g1, decide_true, t, n10, if_false, if_true]; rfl
  simp -implicitDefEqProofs only [g1, decide_false, f, if_true, if_false]
  by_cases g2 : l = wd 2
  · simp -implicitDefEqProofs only [g2, decide_true, t, n10, if_false, if_true]; rfl
  simp -implicitDefEqProofs only [g2, decide_false, f, if_true, if_false]
  by_cases g3 : l = wd 3
  · simp -implicitDefEqProofs only [g3, decide_true, t, n10, if_false, if_true]; rfl
  simp -implicitDefEqProofs only [g3, decide_false, f, if_true, if_false]
  by_cases g4 : l = wd 4
  · simp -implicitDefEqProofs only [g4, decide_true, t, n10, if_false, if_true]; rfl
  simp -implicitDefEqProofs only [g4, decide_false, f, if_true, if_false]
  by_cases g5 : l = wd 5
  · simp -implicitDefEqProofs only [g5, decide_true, t, n10, if_false, if_true]; rfl
  simp -implicitDefEqProofs only [g5, decide_false, f, if_true, if_false]
  by_cases g6 : l = wd 6
  · simp -implicitDefEqProofs only [g6, decide_true, t, n10, if_false, if_true]; rfl
  simp -implicitDefEqProofs only [g6, decide_false, f, if_true, if_false]
  by_cases g7 : l = wd 7
  · simp -implicitDefEqProofs only [g7, decide_true, t, n10, if_false, if_true]; rfl
  simp -implicitDefEqProofs only [g7, decide_false, f, if_true, if_false]
  by_cases g8 : l = wd 8
  · simp -implicitDefEqProofs only [g8, decide_true, t, n10, if_false, if_true]; rfl
  simp -implicitDefEqProofs only [g8, decide_false, f, if_true, if_false]
  by_cases g9 : l = wd 9
  · simp -implicitDefEqProofs only [g9, decide_true, t, n10, if_false, if_true]; rfl
  simp -implicitDefEqProofs only [g9, decide_false, f, if_true, if_false]
  rfl
theorem is_nameN (hk : k ≠ 1) (h : TKR L uc vc um vm s k l x) : f_X12_isName (Rep (SH T2 D2 c3b (fR M) m2) um vm) 75 = some 0 := by
  obtain ⟨hL, h6, h7, hb, hs, hk5, hwd, hx, e, e1, e2, e3, hC, hM⟩ := h
  unfold f_X12_isName
  rw [gC_75, Option.bind_some, gI_75_9, Option.bind_some, if_neg]
  rw [hM.1]
  exact fun z => hk ((mkK_2 hk5).mp z)
end PR4
