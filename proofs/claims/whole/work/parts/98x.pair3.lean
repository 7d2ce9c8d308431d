section PR3
variable {T D m T2 D2 m2 M : Nat} {c3 c4 c3b : sF} {uc um : mU} {vc vm : mV} {L s k x : Nat} {l : List Nat}
abbrev tkZ (T D m : Nat) (c3 c4 : sF) (uc : mU) (vc : mV) (y : Int32) : Option (Int32 × qS) := q_b2 (f_X6_take (Rep (SH T D c3 c4 m) uc vc) 1 y) fun a g => q_zr a (a, g)
theorem one_c {a1 a2 a3 a4 : Nat} (h1 : a1 < 28) (h2 : a2 < 28) (h3 : a3 < 28) (h4 : a4 < 28) (h : TKR L uc vc um vm s 1 l x) : f_X6_takeOneOf (Rep (SH T D c3 c4 m) uc vc) 1 a1 a2 a3 a4 = if l = wd a1 then tkZ T D m c3 c4 uc vc 0 else if l = wd a2 then tkZ T D m c3 c4 uc vc 1 else if l = wd a3 then tkZ T D m c3 c4 uc vc 2 else if l = wd a4 then tkZ T D m c3 c4 uc vc 3 else some (0, Rep (SH T D c3 c4 m) (wr (wr uc 1 13 (nI 1)) 1 14 (nI s)) vc) := by
  obtain ⟨hL, h6, h7, hb, hs, hk5, hwd, hx, e, e1, e2, e3, hC, hM⟩ := h
  have hl := (hwd rfl).1
  have c7 : uc 1 7 = 1 := hC.1
  have ev : ∀ a, a < 28 → (rv 27 l = rv 27 (wd a)) = (l = wd a) := fun a ha => propext (rv27 hl (wd_ok (by omega) (by omega)))
  unfold f_X6_takeOneOf
  rw [gC_1, Option.bind_some, gI_1_7, Option.bind_some, c7, if_pos rfl, gL_1_10, Option.bind_some, hC.2.2.2.1 rfl, code27 (by omega) (by omega), Option.bind_some, Option.bind_some, code27 (by omega) (by omega), Option.bind_some, Option.bind_some, code27 (by omega) (by omega), Option.bind_some, Option.bind_some, code27 (by omega) (by omega), Option.bind_some, gI_1_8, Option.bind_some, hC.2.1, cls_fail, q_b2_some, zr0]
  simp -implicitDefEqProofs only [ev a1 h1, ev a2 h2, ev a3 h3, ev a4 h4]
  rfl
theorem one_n {a1 a2 a3 a4 : Nat} (hk : k ≠ 1) (h : TKR L uc vc um vm s k l x) : f_X6_takeOneOf (Rep (SH T D c3 c4 m) uc vc) 1 a1 a2 a3 a4 = some (0, Rep (SH T D c3 c4 m) (wr (wr uc 1 13 (nI 1)) 1 14 (nI s)) vc) := by
  obtain ⟨hL, h6, h7, hb, hs, hk5, hwd, hx, e, e1, e2, e3, hC, hM⟩ := h
  have n7 : ¬ uc 1 7 = 1 := by
    rw [hC.1]
    exact fun z => hk ((nI_eq (b := 1) (by omega) (by omega)).mp z)
  unfold f_X6_takeOneOf
  rw [gC_1, Option.bind_some, gI_1_7, Option.bind_some, if_neg n7, gI_1_8, Option.bind_some, hC.2.1, cls_fail, q_b2_some, zr0]
  rfl
theorem mod_word {w : Nat} (hw : w < 28) (h15 : w ≠ 15) (h : TKR L uc vc um vm s 1 l x) : f_X12_isWord (Rep (SH T2 D2 c3b (fR M) m2) um vm) 75 (mw w) = some (bI (decide (l = wd w))) := by
  obtain ⟨hw1, hw2, hw3⟩ := mw_eq w hw h15
  obtain ⟨hL, h6, h7, hb, hs, hk5, hwd, hx, e, e1, e2, e3, hC, hM⟩ := h
  have ei := is_word (T := T2) (D := D2) (c3 := c3b) (c4 := fR M) (m := m2) (u := um) hw1 hw2 (show um 75 9 = 2 from hM.1) (hM.2.2.2.1 rfl) (hwd rfl).1
  rw [hw3] at ei
  exact ei
theorem mod_wordN {w : Nat} (hk : k ≠ 1) (h : TKR L uc vc um vm s k l x) : f_X12_isWord (Rep (SH T2 D2 c3b (fR M) m2) um vm) 75 w = some 0 := by
  obtain ⟨hL, h6, h7, hb, hs, hk5, hwd, hx, e, e1, e2, e3, hC, hM⟩ := h
  exact is_wordN (by
    rw [hM.1]
    exact fun z => hk ((mkK_2 hk5).mp z))
/-- one of some kinds: its number, or a fault -/
def kdI (l : List Nat) : List Nat → Nat → Option Nat
  | [], _ => none
  | a :: as, i => if l = wd a then some i else kdI l as (i + 1)
/-- what the class does with a kind -/
theorem kd_step {i a1 a2 a3 a4 : Nat} (h : TKR L uc vc um vm s 1 l x) (hX : f_X6_takeOneOf (Rep (SH T D c3 c4 m) uc vc) 1 a1 a2 a3 a4 = tkZ T D m c3 c4 uc vc (nI i)) : ∃ uc' vc' um' vm', f_X6_takeOneOf (Rep (SH T D c3 c4 m) uc vc) 1 a1 a2 a3 a4 = some (1, Rep (SH T D c3 c4 m) uc' vc') ∧ f_X12_goesOn (Rep (SH T2 D2 c3b (fR M) m2) um vm) 75 = some (Rep (SH T2 D2 c3b (fR M) m2) um' vm') ∧ uc' 1 11 = nI i ∧ GON L s uc vc um vm uc' vc' um' vm' := by
  obtain ⟨uc', vc', um', vm', s', k', l', x', q1, q2, q3, q4, q5, q6, q7, q8, q9, q10⟩ := adv (T := T) (D := D) (c3 := c3) (c4 := c4) (m := m) (T2 := T2) (D2 := D2) (c3b := c3b) (M := M) (m2 := m2) (y := nI i) h (Or.inl rfl)
  refine ⟨uc', vc', um', vm', ?_, q2, q5, ⟨s', k', l', x', q3, q4⟩, q7, q8, q9, q10⟩
  rw [hX]
  unfold tkZ
  rw [q1, q_b2_some, zr1]
theorem thing_kd {y : Int64} (h : TKR L uc vc um vm s k l x) : (∃ i uc' vc' um' vm', i ≤ 2 ∧ f_X6_takeOneOf (Rep (SH T D c3 c4 m) uc vc) 1 12 13 14 15 = some (1, Rep (SH T D c3 c4 m) uc' vc') ∧ f_X12_goesOn (Rep (SH T2 D2 c3b (fR M) m2) um vm) 75 = some (Rep (SH T2 D2 c3b (fR M) m2) um' vm') ∧ uc' 1 11 = nI i ∧ GON L s uc vc um vm uc' vc' um' vm' ∧ ((f_X12_isWord (Rep (SH T2 D2 c3b (fR M) m2) um vm) 75 41).bind fun v6 => if v6 = 0 then ((f_X12_isWord (Rep (SH T2 D2 c3b (fR M) m2) um vm) 75 42).bind fun v7 => if v7 = 0 then ((f_X12_isWord (Rep (SH T2 D2 c3b (fR M) m2) um vm) 75 43).bind fun v8 => if v8 = 0 then (J_X12_readThing_60 75 y (-1) (Rep (SH T2 D2 c3b (fR M) m2) um vm)) else (J_X12_readThing_60 75 y 2 (Rep (SH T2 D2 c3b (fR M) m2) um vm))) else (J_X12_readThing_60 75 y 1 (Rep (SH T2 D2 c3b (fR M) m2) um vm))) else (J_X12_readThing_60 75 y 0 (Rep (SH T2 D2 c3b (fR M) m2) um vm))) = J_X12_readThing_71 75 y (nI i) (Rep (SH T2 D2 c3b (fR M) m2) um vm)) ∨ (∃ uc' um', f_X6_takeOneOf (Rep (SH T D c3 c4 m) uc vc) 1 12 13 14 15 = some (0, Rep (SH T D c3 c4 m) uc' vc) ∧ rdC D uc uc' ∧ mdF um um' ∧ DDR uc' um' ∧ ((f_X12_isWord (Rep (SH T2 D2 c3b (fR M) m2) um vm) 75 41).bind fun v6 => if v6 = 0 then ((f_X12_isWord (Rep (SH T2 D2 c3b (fR M) m2) um vm) 75 42).bind fun v7 => if v7 = 0 then ((f_X12_isWord (Rep (SH T2 D2 c3b (fR M) m2) um vm) 75 43).bind fun v8 => if v8 = 0 then (J_X12_readThing_60 75 y (-1) (Rep (SH T2 D2 c3b (fR M) m2) um vm)) else (J_X12_readThing_60 75 y 2 (Rep (SH T2 D2 c3b (fR M) m2) um vm))) else (J_X12_readThing_60 75 y 1 (Rep (SH T2 D2 c3b (fR M) m2) um vm))) else (J_X12_readThing_60 75 y 0 (Rep (SH T2 D2 c3b (fR M) m2) um vm))) = J_X12_readThing_71 75 y (-1) (Rep (SH T2 D2 c3b (fR M) m2) um' vm)) := by
  obtain ⟨d1, d2, d3, d4, d5⟩ := flaw_DD (T2 := T2) (D2 := D2) (m2 := m2) (c3b := c3b) (c4 := fR M) (D := D) (n := 1) h (by omega)
  have d1' : f_X12_flaw (Rep (SH T2 D2 c3b (fR M) m2) um vm) 75 1 = _ := d1
  by_cases ck : k = 1
  · subst ck
    have hne : ¬ l = wd 15 := by rw [wd_15]; exact (h.2.2.2.2.2.2.1 rfl).2
    have e0 := one_c (T := T) (D := D) (m := m) (c3 := c3) (c4 := c4) (a1 := 12) (a2 := 13) (a3 := 14) (a4 := 15) (by decide) (by decide) (by decide) (by decide) h
    have w0 : f_X12_isWord (Rep (SH T2 D2 c3b (fR M) m2) um vm) 75 41 = _ := mod_word (w := 12) (by decide) (by decide) h
    have w1 : f_X12_isWord (Rep (SH T2 D2 c3b (fR M) m2) um vm) 75 42 = _ := mod_word (w := 13) (by decide) (by decide) h
    have w2 : f_X12_isWord (Rep (SH T2 D2 c3b (fR M) m2) um vm) 75 43 = _ := mod_word (w := 14) (by decide) (by decide) h
    rw [w0, Option.bind_some, w1, Option.bind_some, w2, Option.bind_some]
    by_cases g0 : l = wd 12
    · rw [if_pos g0] at e0
      obtain ⟨uc', vc', um', vm', q1, q2, q3, q4⟩ := kd_step (T2 := T2) (D2 := D2) (m2 := m2) (M := M) (c3b := c3b) (i := 0) h e0
      refine Or.inl ⟨0, uc', vc', um', vm', by omega, q1, q2, q3, q4, ?_⟩
      rw [decide_eq_true g0, show bI true = 1 from rfl, if_neg (by decide)]
      unfold J_X12_readThing_60
      rw [if_neg (by decide), nI_0]
    · rw [if_neg g0] at e0
      rw [decide_eq_false g0, show bI false = 0 from rfl, if_pos rfl]
      by_cases g1 : l = wd 13
      · rw [if_pos g1] at e0
        obtain ⟨uc', vc', um', vm', q1, q2, q3, q4⟩ := kd_step (T2 := T2) (D2 := D2) (m2 := m2) (M := M) (c3b := c3b) (i := 1) h e0
        refine Or.inl ⟨1, uc', vc', um', vm', by omega, q1, q2, q3, q4, ?_⟩
        rw [decide_eq_true g1, show bI true = 1 from rfl, if_neg (by decide)]
        unfold J_X12_readThing_60
        rw [if_neg (by decide)]
        rfl
      · rw [if_neg g1] at e0
        rw [decide_eq_false g1, show bI false = 0 from rfl, if_pos rfl]
        by_cases g2 : l = wd 14
        · rw [if_pos g2] at e0
          obtain ⟨uc', vc', um', vm', q1, q2, q3, q4⟩ := kd_step (T2 := T2) (D2 := D2) (m2 := m2) (M := M) (c3b := c3b) (i := 2) h e0
          refine Or.inl ⟨2, uc', vc', um', vm', by omega, q1, q2, q3, q4, ?_⟩
          rw [decide_eq_true g2, show bI true = 1 from rfl, if_neg (by decide)]
          unfold J_X12_readThing_60
          rw [if_neg (by decide)]
          rfl
        · rw [if_neg g2] at e0
          rw [decide_eq_false g2, show bI false = 0 from rfl, if_pos rfl]
          rw [if_neg hne] at e0
          refine Or.inr ⟨_, _, e0, d3, d4, d2, ?_⟩
          unfold J_X12_readThing_60
          rw [if_pos rfl, d1', Option.bind_some]
  · have e0 := one_n (T := T) (D := D) (m := m) (c3 := c3) (c4 := c4) (a1 := 12) (a2 := 13) (a3 := 14) (a4 := 15) ck h
    refine Or.inr ⟨_, _, e0, d3, d4, d2, ?_⟩
    rw [mod_wordN ck h, Option.bind_some, if_pos rfl, mod_wordN ck h, Option.bind_some, if_pos rfl, mod_wordN ck h, Option.bind_some, if_pos rfl]
    unfold J_X12_readThing_60
    rw [if_pos rfl, d1', Option.bind_some]
theorem pers_kd {y : Int64} (h : TKR L uc vc um vm s k l x) : (∃ i uc' vc' um' vm', i ≤ 3 ∧ f_X6_takeOneOf (Rep (SH T D c3 c4 m) uc vc) 1 17 18 19 20 = some (1, Rep (SH T D c3 c4 m) uc' vc') ∧ f_X12_goesOn (Rep (SH T2 D2 c3b (fR M) m2) um vm) 75 = some (Rep (SH T2 D2 c3b (fR M) m2) um' vm') ∧ uc' 1 11 = nI i ∧ GON L s uc vc um vm uc' vc' um' vm' ∧ ((f_X12_isWord (Rep (SH T2 D2 c3b (fR M) m2) um vm) 75 45).bind fun v6 => if v6 = 0 then ((f_X12_isWord (Rep (SH T2 D2 c3b (fR M) m2) um vm) 75 46).bind fun v7 => if v7 = 0 then ((f_X12_isWord (Rep (SH T2 D2 c3b (fR M) m2) um vm) 75 47).bind fun v8 => if v8 = 0 then ((f_X12_isWord (Rep (SH T2 D2 c3b (fR M) m2) um vm) 75 48).bind fun v9 => if v9 = 0 then (J_X12_readPersonLine_74 75 y (-1) (Rep (SH T2 D2 c3b (fR M) m2) um vm)) else (J_X12_readPersonLine_74 75 y 3 (Rep (SH T2 D2 c3b (fR M) m2) um vm))) else (J_X12_readPersonLine_74 75 y 2 (Rep (SH T2 D2 c3b (fR M) m2) um vm))) else (J_X12_readPersonLine_74 75 y 1 (Rep (SH T2 D2 c3b (fR M) m2) um vm))) else (J_X12_readPersonLine_74 75 y 0 (Rep (SH T2 D2 c3b (fR M) m2) um vm))) = J_X12_readPersonLine_85 75 y (nI i) (Rep (SH T2 D2 c3b (fR M) m2) um vm)) ∨ (∃ uc' um', f_X6_takeOneOf (Rep (SH T D c3 c4 m) uc vc) 1 17 18 19 20 = some (0, Rep (SH T D c3 c4 m) uc' vc) ∧ rdC D uc uc' ∧ mdF um um' ∧ DDR uc' um' ∧ ((f_X12_isWord (Rep (SH T2 D2 c3b (fR M) m2) um vm) 75 45).bind fun v6 => if v6 = 0 then ((f_X12_isWord (Rep (SH T2 D2 c3b (fR M) m2) um vm) 75 46).bind fun v7 => if v7 = 0 then ((f_X12_isWord (Rep (SH T2 D2 c3b (fR M) m2) um vm) 75 47).bind fun v8 => if v8 = 0 then ((f_X12_isWord (Rep (SH T2 D2 c3b (fR M) m2) um vm) 75 48).bind fun v9 => if v9 = 0 then (J_X12_readPersonLine_74 75 y (-1) (Rep (SH T2 D2 c3b (fR M) m2) um vm)) else (J_X12_readPersonLine_74 75 y 3 (Rep (SH T2 D2 c3b (fR M) m2) um vm))) else (J_X12_readPersonLine_74 75 y 2 (Rep (SH T2 D2 c3b (fR M) m2) um vm))) else (J_X12_readPersonLine_74 75 y 1 (Rep (SH T2 D2 c3b (fR M) m2) um vm))) else (J_X12_readPersonLine_74 75 y 0 (Rep (SH T2 D2 c3b (fR M) m2) um vm))) = J_X12_readPersonLine_85 75 y (-1) (Rep (SH T2 D2 c3b (fR M) m2) um' vm)) := by
  obtain ⟨d1, d2, d3, d4, d5⟩ := flaw_DD (T2 := T2) (D2 := D2) (m2 := m2) (c3b := c3b) (c4 := fR M) (D := D) (n := 1) h (by omega)
  have d1' : f_X12_flaw (Rep (SH T2 D2 c3b (fR M) m2) um vm) 75 1 = _ := d1
  by_cases ck : k = 1
  · subst ck
    have hne : ¬ l = wd 15 := by rw [wd_15]; exact (h.2.2.2.2.2.2.1 rfl).2
    have e0 := one_c (T := T) (D := D) (m := m) (c3 := c3) (c4 := c4) (a1 := 17) (a2 := 18) (a3 := 19) (a4 := 20) (by decide) (by decide) (by decide) (by decide) h
    have w0 : f_X12_isWord (Rep (SH T2 D2 c3b (fR M) m2) um vm) 75 45 = _ := mod_word (w := 17) (by decide) (by decide) h
    have w1 : f_X12_isWord (Rep (SH T2 D2 c3b (fR M) m2) um vm) 75 46 = _ := mod_word (w := 18) (by decide) (by decide) h
    have w2 : f_X12_isWord (Rep (SH T2 D2 c3b (fR M) m2) um vm) 75 47 = _ := mod_word (w := 19) (by decide) (by decide) h
    have w3 : f_X12_isWord (Rep (SH T2 D2 c3b (fR M) m2) um vm) 75 48 = _ := mod_word (w := 20) (by decide) (by decide) h
    rw [w0, Option.bind_some, w1, Option.bind_some, w2, Option.bind_some, w3, Option.bind_some]
    by_cases g0 : l = wd 17
    · rw [if_pos g0] at e0
      obtain ⟨uc', vc', um', vm', q1, q2, q3, q4⟩ := kd_step (T2 := T2) (D2 := D2) (m2 := m2) (M := M) (c3b := c3b) (i := 0) h e0
      refine Or.inl ⟨0, uc', vc', um', vm', by omega, q1, q2, q3, q4, ?_⟩
      rw [decide_eq_true g0, show bI true = 1 from rfl, if_neg (by decide)]
      unfold J_X12_readPersonLine_74
      rw [if_neg (by decide), nI_0]
    · rw [if_neg g0] at e0
      rw [decide_eq_false g0, show bI false = 0 from rfl, if_pos rfl]
      by_cases g1 : l = wd 18
      · rw [if_pos g1] at e0
        obtain ⟨uc', vc', um', vm', q1, q2, q3, q4⟩ := kd_step (T2 := T2) (D2 := D2) (m2 := m2) (M := M) (c3b := c3b) (i := 1) h e0
        refine Or.inl ⟨1, uc', vc', um', vm', by omega, q1, q2, q3, q4, ?_⟩
        rw [decide_eq_true g1, show bI true = 1 from rfl, if_neg (by decide)]
        unfold J_X12_readPersonLine_74
        rw [if_neg (by decide)]
        rfl
      · rw [if_neg g1] at e0
        rw [decide_eq_false g1, show bI false = 0 from rfl, if_pos rfl]
        by_cases g2 : l = wd 19
        · rw [if_pos g2] at e0
          obtain ⟨uc', vc', um', vm', q1, q2, q3, q4⟩ := kd_step (T2 := T2) (D2 := D2) (m2 := m2) (M := M) (c3b := c3b) (i := 2) h e0
          refine Or.inl ⟨2, uc', vc', um', vm', by omega, q1, q2, q3, q4, ?_⟩
          rw [decide_eq_true g2, show bI true = 1 from rfl, if_neg (by decide)]
          unfold J_X12_readPersonLine_74
          rw [if_neg (by decide)]
          rfl
        · rw [if_neg g2] at e0
          rw [decide_eq_false g2, show bI false = 0 from rfl, if_pos rfl]
          by_cases g3 : l = wd 20
          · rw [if_pos g3] at e0
            obtain ⟨uc', vc', um', vm', q1, q2, q3, q4⟩ := kd_step (T2 := T2) (D2 := D2) (m2 := m2) (M := M) (c3b := c3b) (i := 3) h e0
            refine Or.inl ⟨3, uc', vc', um', vm', by omega, q1, q2, q3, q4, ?_⟩
            rw [decide_eq_true g3, show bI true = 1 from rfl, if_neg (by decide)]
            unfold J_X12_readPersonLine_74
            rw [if_neg (by decide)]
            rfl
          · rw [if_neg g3] at e0
            rw [decide_eq_false g3, show bI false = 0 from rfl, if_pos rfl]
            refine Or.inr ⟨_, _, e0, d3, d4, d2, ?_⟩
            unfold J_X12_readPersonLine_74
            rw [if_pos rfl, d1', Option.bind_some]
  · have e0 := one_n (T := T) (D := D) (m := m) (c3 := c3) (c4 := c4) (a1 := 17) (a2 := 18) (a3 := 19) (a4 := 20) ck h
    refine Or.inr ⟨_, _, e0, d3, d4, d2, ?_⟩
    rw [mod_wordN ck h, Option.bind_some, if_pos rfl, mod_wordN ck h, Option.bind_some, if_pos rfl, mod_wordN ck h, Option.bind_some, if_pos rfl, mod_wordN ck h, Option.bind_some, if_pos rfl]
    unfold J_X12_readPersonLine_74
    rw [if_pos rfl, d1', Option.bind_some]
theorem exam_kd {a b c d : Int32} (h : TKR L uc vc um vm s k l x) : (∃ i uc' vc' um' vm', i ≤ 1 ∧ f_X6_takeOneOf (Rep (SH T D c3 c4 m) uc vc) 1 26 27 15 15 = some (1, Rep (SH T D c3 c4 m) uc' vc') ∧ f_X12_goesOn (Rep (SH T2 D2 c3b (fR M) m2) um vm) 75 = some (Rep (SH T2 D2 c3b (fR M) m2) um' vm') ∧ uc' 1 11 = nI i ∧ GON L s uc vc um vm uc' vc' um' vm' ∧ ((f_X12_isWord (Rep (SH T2 D2 c3b (fR M) m2) um vm) 75 54).bind fun v12 => if v12 = 0 then ((f_X12_isWord (Rep (SH T2 D2 c3b (fR M) m2) um vm) 75 55).bind fun v13 => if v13 = 0 then ((f_X12_flaw (Rep (SH T2 D2 c3b (fR M) m2) um vm) 75 1).bind fun g14 => J_X12_readExam_67 75 a b c d v12 g14) else (J_X12_readExam_67 75 a b c d v12 (Rep (SH T2 D2 c3b (fR M) m2) um vm))) else (J_X12_readExam_67 75 a b c d v12 (Rep (SH T2 D2 c3b (fR M) m2) um vm))) = J_X12_readExam_67 75 a b c d (nI (1 - i)) (Rep (SH T2 D2 c3b (fR M) m2) um vm)) ∨ (∃ uc' um', f_X6_takeOneOf (Rep (SH T D c3 c4 m) uc vc) 1 26 27 15 15 = some (0, Rep (SH T D c3 c4 m) uc' vc) ∧ rdC D uc uc' ∧ mdF um um' ∧ DDR uc' um' ∧ ((f_X12_isWord (Rep (SH T2 D2 c3b (fR M) m2) um vm) 75 54).bind fun v12 => if v12 = 0 then ((f_X12_isWord (Rep (SH T2 D2 c3b (fR M) m2) um vm) 75 55).bind fun v13 => if v13 = 0 then ((f_X12_flaw (Rep (SH T2 D2 c3b (fR M) m2) um vm) 75 1).bind fun g14 => J_X12_readExam_67 75 a b c d v12 g14) else (J_X12_readExam_67 75 a b c d v12 (Rep (SH T2 D2 c3b (fR M) m2) um vm))) else (J_X12_readExam_67 75 a b c d v12 (Rep (SH T2 D2 c3b (fR M) m2) um vm))) = J_X12_readExam_67 75 a b c d 0 (Rep (SH T2 D2 c3b (fR M) m2) um' vm)) := by
  obtain ⟨d1, d2, d3, d4, d5⟩ := flaw_DD (T2 := T2) (D2 := D2) (m2 := m2) (c3b := c3b) (c4 := fR M) (D := D) (n := 1) h (by omega)
  have d1' : f_X12_flaw (Rep (SH T2 D2 c3b (fR M) m2) um vm) 75 1 = _ := d1
  by_cases ck : k = 1
  · subst ck
    have hne : ¬ l = wd 15 := by rw [wd_15]; exact (h.2.2.2.2.2.2.1 rfl).2
    have e0 := one_c (T := T) (D := D) (m := m) (c3 := c3) (c4 := c4) (a1 := 26) (a2 := 27) (a3 := 15) (a4 := 15) (by decide) (by decide) (by decide) (by decide) h
    have w0 : f_X12_isWord (Rep (SH T2 D2 c3b (fR M) m2) um vm) 75 54 = _ := mod_word (w := 26) (by decide) (by decide) h
    have w1 : f_X12_isWord (Rep (SH T2 D2 c3b (fR M) m2) um vm) 75 55 = _ := mod_word (w := 27) (by decide) (by decide) h
    rw [w0, Option.bind_some, w1, Option.bind_some]
    by_cases g0 : l = wd 26
    · rw [if_pos g0] at e0
      obtain ⟨uc', vc', um', vm', q1, q2, q3, q4⟩ := kd_step (T2 := T2) (D2 := D2) (m2 := m2) (M := M) (c3b := c3b) (i := 0) h e0
      refine Or.inl ⟨0, uc', vc', um', vm', by omega, q1, q2, q3, q4, ?_⟩
      rw [decide_eq_true g0, show bI true = 1 from rfl, if_neg (by decide)]
      rfl
    · rw [if_neg g0] at e0
      rw [decide_eq_false g0, show bI false = 0 from rfl, if_pos rfl]
      by_cases g1 : l = wd 27
      · rw [if_pos g1] at e0
        obtain ⟨uc', vc', um', vm', q1, q2, q3, q4⟩ := kd_step (T2 := T2) (D2 := D2) (m2 := m2) (M := M) (c3b := c3b) (i := 1) h e0
        refine Or.inl ⟨1, uc', vc', um', vm', by omega, q1, q2, q3, q4, ?_⟩
        rw [decide_eq_true g1, show bI true = 1 from rfl, if_neg (by decide)]
        rfl
      · rw [if_neg g1, if_neg hne, if_neg hne] at e0
        rw [decide_eq_false g1, show bI false = 0 from rfl, if_pos rfl]
        refine Or.inr ⟨_, _, e0, d3, d4, d2, ?_⟩
        rw [d1', Option.bind_some]
  · have e0 := one_n (T := T) (D := D) (m := m) (c3 := c3) (c4 := c4) (a1 := 26) (a2 := 27) (a3 := 15) (a4 := 15) ck h
    refine Or.inr ⟨_, _, e0, d3, d4, d2, ?_⟩
    rw [mod_wordN ck h, Option.bind_some, if_pos rfl, mod_wordN ck h, Option.bind_some, if_pos rfl, d1', Option.bind_some]
end PR3
