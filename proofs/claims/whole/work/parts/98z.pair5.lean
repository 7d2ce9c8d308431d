theorem TKR_c {L s k x : Nat} {l : List Nat} {uc uc' um : mU} {vc vc' vm : mV} (h6 : uc' 1 6 = uc 1 6) (h7 : uc' 1 7 = uc 1 7) (h8 : uc' 1 8 = uc 1 8) (h9 : uc' 1 9 = uc 1 9) (h2 : uc' 2 = uc 2) (hv : vc' 1 10 = vc 1 10) (h : TKR L uc vc um vm s k l x) : TKR L uc' vc' um vm s k l x := by
  obtain ⟨a1, a2, a3, a4, a5, a6, a7, a8, e, e1, e2, e3, hC, hM⟩ := h
  refine ⟨a1, by rw [h6]; exact a2, a3, by rw [h2]; exact a4, a5, a6, a7, a8, e, e1, e2, e3, ?_, hM⟩
  unfold CT at *
  rw [h7, h8, h9, hv]
  exact hC
theorem lnS_le {l : List Nat} : ∀ (r i : Nat), i + r ≤ 10 → lnS l r i ≤ 10 := by
  intro r
  induction r with
  | zero => intro i _; exact Nat.le_refl _
  | succ r ih =>
    intro i hi
    show (if l = wd i then i else lnS l r (i + 1)) ≤ 10
    by_cases c : l = wd i
    · rw [if_pos c]; omega
    · rw [if_neg c]; exact ih (i + 1) (by omega)
section PR5
variable {T D m T2 D2 m2 M : Nat} {c3 c4 c3b : sF} {uc um : mU} {vc vm : mV} {L s k x nn : Nat} {l : List Nat} {nm : Nat → List Nat} {ss xx : Nat → Nat}
/-- a name that is told now -/
abbrev nwU (uc : mU) (nn c cc : Nat) : mU := wr (wr (wr uc 26 (nn * 2 + 0) (nI c)) 26 (nn * 2 + 1) (nI cc)) 1 5 (nI (nn + 1))
theorem pr_fresh {c cc : Nat} (ho : okTD T D) (hMs : mSh (SH T2 D2 c3b (fR M) m2) M) (hM : 88 ≤ M) (hN : NMR uc vc um vm M nn nm ss xx) (hn : nn < 16) (hc : c < 10) (hcc : uc (D + 20) c = nI cc) (h : TKR L uc vc um vm s k l x) :
    (∃ l0 uc' vc' um' vm', okQ l0 ∧ f_X6_takeNewName (Rep (SH T D c3 c4 m) uc vc) 1 (nI c) = some (1, Rep (SH T D c3 c4 m) uc' vc') ∧ f_X12_readFresh (Rep (SH T2 D2 c3b (fR M) m2) um vm) 75 = some (rv 32 l0, Rep (SH T2 D2 c3b (fR M) m2) um' vm') ∧ GON L s (nwU uc nn c cc) (wrL vc 24 nn (rv 27 l0)) um vm uc' vc' um' vm') ∨
    (∃ y uc' vc' um' vm', f_X6_takeNewName (Rep (SH T D c3 c4 m) uc vc) 1 (nI c) = some (0, Rep (SH T D c3 c4 m) uc' vc') ∧ f_X12_readFresh (Rep (SH T2 D2 c3b (fR M) m2) um vm) 75 = some (y, Rep (SH T2 D2 c3b (fR M) m2) um' vm') ∧ rdC D uc uc' ∧ mdF um um' ∧ DDR uc' um') := by
  have hCt := SH_draft (c3 := c3) (c4 := c4) (m := m) ho
  have hD : D = 54 ∨ D = 3 := by rcases ho with ⟨rfl, rfl⟩ | ⟨rfl, rfl⟩ <;> simp
  have h' := h
  obtain ⟨hL, h6, h7, hb, hs, hk5, hwd, hx, e, e1, e2, e3, hC, hMt⟩ := h
  obtain ⟨d1, d2, d3, d4, d5⟩ := flaw_DD (T2 := T2) (D2 := D2) (m2 := m2) (c3b := c3b) (c4 := fR M) (D := D) (n := 1) h' (by omega)
  obtain ⟨f1, f2, f3, f4, -⟩ := flaw_DD (T2 := T2) (D2 := D2) (m2 := m2) (c3b := c3b) (c4 := fR M) (D := D) (n := 3) h' (by omega)
  have d1' : f_X12_flaw (Rep (SH T2 D2 c3b (fR M) m2) um vm) 75 1 = _ := d1
  have f1' : f_X12_flaw (Rep (SH T2 D2 c3b (fR M) m2) um vm) 75 3 = _ := f1
  have dead1 : f_X12_isName (Rep (SH T2 D2 c3b (fR M) m2) um vm) 75 = some 0 → f_X12_readFresh (Rep (SH T2 D2 c3b (fR M) m2) um vm) 75 = some (vm 75 14, Rep (SH T2 D2 c3b (fR M) m2) (wr (wr (wr um 75 12 (nI 1)) 75 13 (um 75 10)) 75 9 5) vm) := by
    intro a1
    have e10 : wr (wr (wr um 75 12 (nI 1)) 75 13 (um 75 10)) 75 9 5 M 10 = nI nn := by
      rw [wr_role (by omega), wr_role (by omega), wr_role (by omega)]; exact hN.2.1
    unfold f_X12_readFresh
    rw [gC_75, Option.bind_some, a1, Option.bind_some, if_pos rfl, d1', Option.bind_some, fresh12_dead hMs e10 hN.2.2.1 (wr_same _ _ _ _)]
  by_cases ck : k = 1
  · subst ck
    have hl := (hwd rfl).1
    have c7 : uc 1 7 = 1 := hC.1
    have els := line_sort (T := T) (D := D) (c3 := c3) (c4 := c4) (m := m) (u := uc) (v := vc) hC.1 (hC.2.2.2.1 rfl) hl
    have ein := is_name (T2 := T2) (D2 := D2) (m2 := m2) (M := M) (c3b := c3b) h'
    have p10 : (nI (lnS l 10 0) = 10) = (lnS l 10 0 = 10) := propext (nI_eq (b := 10) (by have := lnS_le (l := l) 10 0 (by omega); omega) (by omega))
    by_cases cs : lnS l 10 0 = 10
    · rw [decide_eq_true cs] at ein
      have efc := find_c (T := T) (D := D) (c3 := c3) (c4 := c4) (m := m) hN hl (hC.2.2.2.1 rfl)
      have efm := find_m (T2 := T2) (D2 := D2) (m2 := m2) (c3b := c3b) hMs hN hl
      cases co : fdN nm l nn 0 with
      | none =>
        rw [co] at efc efm
        have efc : f_X6_findName (Rep (SH T D c3 c4 m) uc vc) 1 = some (-1) := efc
        have efm : f_X11_find (Rep (SH T2 D2 c3b (fR M) m2) um vm) M (rv 32 l) = some (-1) := efm
        have g0 := st26 (T := T) (D := D) (c3 := c3) (c4 := c4) (m := m) (u := uc) (v := wrL vc 24 nn (rv 27 l)) (j := nn) (c := 0) (z := nI c) hn (by decide)
        rw [nI_0] at g0
        have g1 := st26 (T := T) (D := D) (c3 := c3) (c4 := c4) (m := m) (u := wr uc 26 (nn * 2 + 0) (nI c)) (v := wrL vc 24 nn (rv 27 l)) (j := nn) (c := 1) (z := nI cc) hn (by decide)
        rw [show nI 1 = (1 : Int32) from rfl] at g1
        have ecn : f_X3_count (Rep (SH T D c3 c4 m) (wr uc 26 (nn * 2 + 0) (nI c)) (wrL vc 24 nn (rv 27 l))) D (nI c) = some (nI cc) := by
          unfold f_X3_count
          rw [cC hCt, Option.bind_some, cR_9 hCt, Option.bind_some, cG_9 hCt, Option.bind_some, show (0 : Int32) = nI 0 from nI_0.symm, tG_in (by decide) (by decide) (by decide) hc, Nat.zero_mul, Nat.zero_add, wr_role (by omega), hcc]
        have t1 : TKR L (nwU uc nn c cc) (wrL vc 24 nn (rv 27 l)) um vm s 1 l x := by
          refine TKR_c ?_ ?_ ?_ ?_ ?_ (wrL_role (by decide)) h'
          · unfold nwU; rw [wr_ix (by decide), wr_role (by decide), wr_role (by decide)]
          · unfold nwU; rw [wr_ix (by decide), wr_role (by decide), wr_role (by decide)]
          · unfold nwU; rw [wr_ix (by decide), wr_role (by decide), wr_role (by decide)]
          · unfold nwU; rw [wr_ix (by decide), wr_role (by decide), wr_role (by decide)]
          · unfold nwU; rw [wr_off (by decide), wr_off (by decide), wr_off (by decide)]
        obtain ⟨uc', vc', um', vm', s', k', l', x', q1, q2, q3, q4, q5, q6, q7, q8, q9, q10⟩ := adv (T := T) (D := D) (c3 := c3) (c4 := c4) (m := m) (T2 := T2) (D2 := D2) (c3b := c3b) (M := M) (m2 := m2) (y := 0) t1 (Or.inl rfl)
        have r5 : wr (wr uc 26 (nn * 2 + 0) (nI c)) 26 (nn * 2 + 1) (nI cc) 1 5 = nI nn := by rw [wr_role (by decide), wr_role (by decide)]; exact hN.1
        have r5' : wr uc 26 (nn * 2 + 0) (nI c) 1 5 = nI nn := by rw [wr_role (by decide)]; exact hN.1
        refine Or.inl ⟨l, uc', vc', um', vm', hl, ?_, ?_, ⟨s', k', l', x', q3, q4⟩, q7, q8, q9, q10⟩
        · unfold f_X6_takeNewName
          rw [gC_1, Option.bind_some, gI_1_7, Option.bind_some, c7, if_pos rfl, els, Option.bind_some, if_pos (p10.mpr cs), efc, Option.bind_some, if_pos (by decide), gI_1_5, Option.bind_some, hN.1, if_neg (nI_pos (by omega)), Option.bind_some, gR_1_3, Option.bind_some, an_24, Option.bind_some, if_neg (nI_ge (by omega) (by omega)), Option.bind_some, Option.bind_some, gL_1_10, Option.bind_some, hC.2.2.2.1 rfl, sL_24 hn, Option.bind_some, gR_1_4, Option.bind_some, gI_1_5, Option.bind_some, hN.1, g0, Option.bind_some, gR_1_4, Option.bind_some, gI_1_5, Option.bind_some, r5', gR_1_2, Option.bind_some, ecn, Option.bind_some, g1, Option.bind_some, gI_1_5, Option.bind_some, r5, nI_1, pI_1_5, Option.bind_some, q1, q_b2_some, zr1]
        · unfold f_X12_readFresh J_X12_readFresh_12
          rw [gC_75, Option.bind_some, ein, Option.bind_some, show bI true = 1 from rfl, if_neg (by decide), gR_75_4, Option.bind_some, gL_75_14, Option.bind_some, hMt.2.2.2.1 rfl, efm, Option.bind_some, if_pos rfl, Option.bind_some, q2, Option.bind_some]
      | some j =>
        obtain ⟨j1, j2, -⟩ := fdN_some nn 0 co
        rw [co] at efc efm
        have efc : f_X6_findName (Rep (SH T D c3 c4 m) uc vc) 1 = some (nI j) := efc
        have efm : f_X11_find (Rep (SH T2 D2 c3b (fR M) m2) um vm) M (rv 32 l) = some (nI j) := efm
        have cj : ¬ nI j = -1 := fun z => absurd (show nI j < 0 by rw [z]; decide) (nI_pos (by omega))
        refine Or.inr ⟨vm 75 14, wr (wr uc 1 13 (nI 3)) 1 14 (nI s), vc, _, vm, ?_, ?_, f3, f4, f2⟩
        · unfold f_X6_takeNewName
          rw [gC_1, Option.bind_some, gI_1_7, Option.bind_some, c7, if_pos rfl, els, Option.bind_some, if_pos (p10.mpr cs), efc, Option.bind_some, if_neg (nI_pos (by omega)), gI_1_8, Option.bind_some, d5, cls_fail, q_b2_some, zr0]
          rfl
        · unfold f_X12_readFresh J_X12_readFresh_12
          rw [gC_75, Option.bind_some, ein, Option.bind_some, show bI true = 1 from rfl, if_neg (by decide), gR_75_4, Option.bind_some, gL_75_14, Option.bind_some, hMt.2.2.2.1 rfl, efm, Option.bind_some, if_neg cj, f1', Option.bind_some, gL_75_14, Option.bind_some, goes_dead (wr_same _ _ _ _), Option.bind_some, hMt.2.2.2.1 rfl]
    · rw [decide_eq_false cs] at ein
      refine Or.inr ⟨vm 75 14, wr (wr uc 1 13 (nI 1)) 1 14 (nI s), vc, _, vm, ?_, dead1 ein, d3, d4, d2⟩
      unfold f_X6_takeNewName
      rw [gC_1, Option.bind_some, gI_1_7, Option.bind_some, c7, if_pos rfl, els, Option.bind_some, if_neg (fun z => cs (p10.mp z)), gI_1_8, Option.bind_some, d5, cls_fail, q_b2_some, zr0]
      rfl
  · have n7 : ¬ uc 1 7 = 1 := by
      rw [hC.1]
      exact fun z => ck ((nI_eq (b := 1) (by omega) (by omega)).mp z)
    refine Or.inr ⟨vm 75 14, wr (wr uc 1 13 (nI 1)) 1 14 (nI s), vc, _, vm, ?_, dead1 (is_nameN ck h'), d3, d4, d2⟩
    unfold f_X6_takeNewName
    rw [gC_1, Option.bind_some, gI_1_7, Option.bind_some, if_neg n7, gI_1_8, Option.bind_some, d5, cls_fail, q_b2_some, zr0]
    rfl
/-- a name of its sort that was told, or a fault -/
theorem kn_case {c : Nat} (hMs : mSh (SH T2 D2 c3b (fR M) m2) M) (hM : 88 ≤ M) (hN : NMR uc vc um vm M nn nm ss xx) (hc : c < 4) (h : TKR L uc vc um vm s k l x) :
    (∃ j, j < nn ∧ ss j = c ∧ k = 1 ∧ f_X6_takeName (Rep (SH T D c3 c4 m) uc vc) 1 (nI (c + 2)) = tkZ T D m c3 c4 uc vc (nI (xx j)) ∧ f_X12_knownOne (Rep (SH T2 D2 c3b (fR M) m2) um vm) 75 (nI c) = some (nI (xx j), Rep (SH T2 D2 c3b (fR M) m2) um vm)) ∨
    (∃ uc' um', f_X6_takeName (Rep (SH T D c3 c4 m) uc vc) 1 (nI (c + 2)) = some (0, Rep (SH T D c3 c4 m) uc' vc) ∧ f_X12_knownOne (Rep (SH T2 D2 c3b (fR M) m2) um vm) 75 (nI c) = some (0, Rep (SH T2 D2 c3b (fR M) m2) um' vm) ∧ rdC D uc uc' ∧ mdF um um' ∧ DDR uc' um') := by
  have h' := h
  obtain ⟨hL, h6, h7, hb, hs, hk5, hwd, hx, e, e1, e2, e3, hC, hMt⟩ := h
  obtain ⟨d1, d2, d3, d4, d5⟩ := flaw_DD (T2 := T2) (D2 := D2) (m2 := m2) (c3b := c3b) (c4 := fR M) (D := D) (n := 1) h' (by omega)
  obtain ⟨f1, f2, f3, f4, -⟩ := flaw_DD (T2 := T2) (D2 := D2) (m2 := m2) (c3b := c3b) (c4 := fR M) (D := D) (n := 2) h' (by omega)
  have d1' : f_X12_flaw (Rep (SH T2 D2 c3b (fR M) m2) um vm) 75 1 = _ := d1
  have f1' : f_X12_flaw (Rep (SH T2 D2 c3b (fR M) m2) um vm) 75 2 = _ := f1
  have dead1 : f_X12_isName (Rep (SH T2 D2 c3b (fR M) m2) um vm) 75 = some 0 → f_X12_knownOne (Rep (SH T2 D2 c3b (fR M) m2) um vm) 75 (nI c) = some (0, Rep (SH T2 D2 c3b (fR M) m2) (wr (wr (wr um 75 12 (nI 1)) 75 13 (um 75 10)) 75 9 5) vm) := by
    intro a1
    have e10 : wr (wr (wr um 75 12 (nI 1)) 75 13 (um 75 10)) 75 9 5 M 10 = nI nn := by
      rw [wr_role (by omega), wr_role (by omega), wr_role (by omega)]; exact hN.2.1
    unfold f_X12_knownOne
    rw [gC_75, Option.bind_some, a1, Option.bind_some, if_pos rfl, d1', Option.bind_some, known12_dead hMs e10 hN.2.2.1 (wr_same _ _ _ _)]
  by_cases ck : k = 1
  · subst ck
    have hl := (hwd rfl).1
    have c7 : uc 1 7 = 1 := hC.1
    have els := line_sort (T := T) (D := D) (c3 := c3) (c4 := c4) (m := m) (u := uc) (v := vc) hC.1 (hC.2.2.2.1 rfl) hl
    have ein := is_name (T2 := T2) (D2 := D2) (m2 := m2) (M := M) (c3b := c3b) h'
    have p10 : (nI (lnS l 10 0) = 10) = (lnS l 10 0 = 10) := propext (nI_eq (b := 10) (by have := lnS_le (l := l) 10 0 (by omega); omega) (by omega))
    by_cases cs : lnS l 10 0 = 10
    · rw [decide_eq_true cs] at ein
      have efc := find_c (T := T) (D := D) (c3 := c3) (c4 := c4) (m := m) hN hl (hC.2.2.2.1 rfl)
      have efm := find_m (T2 := T2) (D2 := D2) (m2 := m2) (c3b := c3b) hMs hN hl
      cases co : fdN nm l nn 0 with
      | none =>
        rw [co] at efc efm
        have efc : f_X6_findName (Rep (SH T D c3 c4 m) uc vc) 1 = some (-1) := efc
        have efm : f_X11_find (Rep (SH T2 D2 c3b (fR M) m2) um vm) M (rv 32 l) = some (-1) := efm
        refine Or.inr ⟨wr (wr uc 1 13 (nI 2)) 1 14 (nI s), _, ?_, ?_, f3, f4, f2⟩
        · unfold f_X6_takeName
          rw [gC_1, Option.bind_some, gI_1_7, Option.bind_some, c7, if_pos rfl, els, Option.bind_some, if_pos (p10.mpr cs), efc, Option.bind_some, if_pos (by decide), gI_1_8, Option.bind_some, d5, cls_fail, q_b2_some, zr0]
          rfl
        · unfold f_X12_knownOne J_X12_knownOne_12 J_X12_knownOne_42
          rw [gC_75, Option.bind_some, ein, Option.bind_some, show bI true = 1 from rfl, if_neg (by decide), gR_75_4, Option.bind_some, gL_75_14, Option.bind_some, hMt.2.2.2.1 rfl, efm, Option.bind_some, if_pos rfl, f1', Option.bind_some, known47_dead (wr_same _ _ _ _)]
      | some j =>
        obtain ⟨j1, j2, -⟩ := fdN_some nn 0 co
        have hnn := hN.2.2.1
        obtain ⟨o1, o2, o3, o4, o5, o6, o7, o8, o9⟩ := hN.2.2.2 j (by omega)
        rw [co] at efc efm
        have efc : f_X6_findName (Rep (SH T D c3 c4 m) uc vc) 1 = some (nI j) := efc
        have efm : f_X11_find (Rep (SH T2 D2 c3b (fR M) m2) um vm) M (rv 32 l) = some (nI j) := efm
        have cj : ¬ nI j = -1 := fun z => absurd (show nI j < 0 by rw [z]; decide) (nI_pos (by omega))
        have g0 := gt26 (T := T) (D := D) (c3 := c3) (c4 := c4) (m := m) (u := uc) (v := vc) (j := j) (c := 0) (by omega) (by decide)
        rw [nI_0, o6] at g0
        have g1 := gt26 (T := T) (D := D) (c3 := c3) (c4 := c4) (m := m) (u := uc) (v := vc) (j := j) (c := 1) (by omega) (by decide)
        rw [show nI 1 = (1 : Int32) from rfl, o8] at g1
        have p1 : (nI (ss j + 2) = nI (c + 2)) = (ss j = c) := propext ⟨fun z => by have := (nI_eq (by omega) (by omega)).mp z; omega, fun z => by rw [z]⟩
        have p2 : (nI (ss j) = nI c) = (ss j = c) := propext (nI_eq (by omega) (by omega))
        by_cases cz : ss j = c
        · refine Or.inl ⟨j, by omega, cz, rfl, ?_, ?_⟩
          · unfold f_X6_takeName tkZ
            rw [gC_1, Option.bind_some, gI_1_7, Option.bind_some, c7, if_pos rfl, els, Option.bind_some, if_pos (p10.mpr cs), efc, Option.bind_some, if_neg (nI_pos (by omega)), gR_1_4, Option.bind_some, g0, Option.bind_some, if_pos (p1.mpr cz), Option.bind_some, g1, Option.bind_some]
          · unfold f_X12_knownOne J_X12_knownOne_12 J_X12_knownOne_47
            rw [gC_75, Option.bind_some, ein, Option.bind_some, show bI true = 1 from rfl, if_neg (by decide), gR_75_4, Option.bind_some, gL_75_14, Option.bind_some, hMt.2.2.2.1 rfl, efm, Option.bind_some, if_neg cj, Option.bind_some, mR_33 hMs, Option.bind_some, ma_23 hMs (by omega), Option.bind_some, o7, if_pos (p2.mpr cz), gI_75_9, Option.bind_some, hMt.1, if_neg (by decide), Option.bind_some, mR_34 hMs, Option.bind_some, ma_24 hMs (by omega), Option.bind_some, o9]
        · refine Or.inr ⟨wr (wr uc 1 13 (nI 2)) 1 14 (nI s), _, ?_, ?_, f3, f4, f2⟩
          · unfold f_X6_takeName
            rw [gC_1, Option.bind_some, gI_1_7, Option.bind_some, c7, if_pos rfl, els, Option.bind_some, if_pos (p10.mpr cs), efc, Option.bind_some, if_neg (nI_pos (by omega)), gR_1_4, Option.bind_some, g0, Option.bind_some, if_neg (fun z => cz (p1.mp z)), gI_1_8, Option.bind_some, d5, cls_fail, q_b2_some, zr0]
            rfl
          · unfold f_X12_knownOne J_X12_knownOne_12 J_X12_knownOne_42
            rw [gC_75, Option.bind_some, ein, Option.bind_some, show bI true = 1 from rfl, if_neg (by decide), gR_75_4, Option.bind_some, gL_75_14, Option.bind_some, hMt.2.2.2.1 rfl, efm, Option.bind_some, if_neg cj, Option.bind_some, mR_33 hMs, Option.bind_some, ma_23 hMs (by omega), Option.bind_some, o7, if_neg (fun z => cz (p2.mp z)), f1', Option.bind_some, known47_dead (wr_same _ _ _ _)]
    · rw [decide_eq_false cs] at ein
      refine Or.inr ⟨wr (wr uc 1 13 (nI 1)) 1 14 (nI s), _, ?_, dead1 ein, d3, d4, d2⟩
      unfold f_X6_takeName
      rw [gC_1, Option.bind_some, gI_1_7, Option.bind_some, c7, if_pos rfl, els, Option.bind_some, if_neg (fun z => cs (p10.mp z)), gI_1_8, Option.bind_some, d5, cls_fail, q_b2_some, zr0]
      rfl
  · have n7 : ¬ uc 1 7 = 1 := by
      rw [hC.1]
      exact fun z => ck ((nI_eq (b := 1) (by omega) (by omega)).mp z)
    refine Or.inr ⟨wr (wr uc 1 13 (nI 1)) 1 14 (nI s), _, ?_, dead1 (is_nameN ck h'), d3, d4, d2⟩
    unfold f_X6_takeName
    rw [gC_1, Option.bind_some, gI_1_7, Option.bind_some, if_neg n7, gI_1_8, Option.bind_some, d5, cls_fail, q_b2_some, zr0]
    rfl
theorem pr_known {c : Nat} (hMs : mSh (SH T2 D2 c3b (fR M) m2) M) (hM : 88 ≤ M) (hN : NMR uc vc um vm M nn nm ss xx) (hc : c < 4) (h : TKR L uc vc um vm s k l x) : STV T D m c3 c4 T2 D2 m2 M c3b uc um (f_X6_takeName (Rep (SH T D c3 c4 m) uc vc) 1 (nI (c + 2))) (f_X12_readKnown (Rep (SH T2 D2 c3b (fR M) m2) um vm) 75 (nI c)) (fun a uc' vc' um' vm' => (∃ j, j < nn ∧ ss j = c ∧ a = nI (xx j) ∧ uc' 1 11 = nI (xx j)) ∧ GON L s uc vc um vm uc' vc' um' vm') := by
  rcases kn_case (T := T) (D := D) (m := m) (c3 := c3) (c4 := c4) hMs hM hN hc h with ⟨j, j1, j2, ck, e1, e2⟩ | ⟨uc', um', e1, e2, e3, e4, e5⟩
  · obtain ⟨uc', vc', um', vm', s', k', l', x', q1, q2, q3, q4, q5, q6, q7, q8, q9, q10⟩ := adv (T := T) (D := D) (c3 := c3) (c4 := c4) (m := m) (T2 := T2) (D2 := D2) (c3b := c3b) (M := M) (m2 := m2) (y := nI (xx j)) h (Or.inl ck)
    refine Or.inl ⟨nI (xx j), uc', vc', um', vm', ?_, ?_, rdC_T q7, mdF_T q9, ⟨j, j1, j2, rfl, q5⟩, ⟨s', k', l', x', q3, q4⟩, q7, q8, q9, q10⟩
    · rw [e1]
      unfold tkZ
      rw [q1, q_b2_some, zr1]
    · unfold f_X12_readKnown
      rw [gC_75, Option.bind_some, e2, q_b2_some, q2, Option.bind_some]
  · refine Or.inr ⟨0, uc', vc, um', vm, e1, ?_, e3, e4, e5⟩
    obtain ⟨n, s1, -, -, -, -, -, -, h5⟩ := e5
    unfold f_X12_readKnown
    rw [gC_75, Option.bind_some, e2, q_b2_some, goes_dead h5, Option.bind_some]
end PR5
