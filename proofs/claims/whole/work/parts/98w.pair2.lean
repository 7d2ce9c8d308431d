section DED
variable {T2 D2 m2 M : Nat} {c3b c4b : sF} {um : mU} {vm : mV}
theorem word_dead {w : Nat} (h9 : um 75 9 = 5) : f_X12_isWord (Rep (SH T2 D2 c3b c4b m2) um vm) 75 w = some 0 := is_wordN (by rw [h9]; decide)
theorem needs_dead {w : Nat} (h9 : um 75 9 = 5) : f_X12_needs (Rep (SH T2 D2 c3b c4b m2) um vm) 75 w = some (Rep (SH T2 D2 c3b c4b m2) um vm) := by
  unfold f_X12_needs
  rw [gC_75, Option.bind_some, word_dead h9, Option.bind_some, if_pos rfl, flaw_dead h9, Option.bind_some, goes_dead h9, Option.bind_some]
theorem bound_dead {a b : Int32} (h9 : um 75 9 = 5) : f_X12_bounded (Rep (SH T2 D2 c3b c4b m2) um vm) 75 a b = some (a, Rep (SH T2 D2 c3b c4b m2) um vm) := by
  unfold f_X12_bounded
  rw [gC_75, Option.bind_some, gI_75_9, Option.bind_some, h9, if_neg (by decide), flaw_dead h9, Option.bind_some, gI_75_9, Option.bind_some, h9, if_pos rfl]
theorem whole_dead {a b : Int32} (h9 : um 75 9 = 5) : f_X12_readWhole (Rep (SH T2 D2 c3b c4b m2) um vm) 75 a b = some (a, Rep (SH T2 D2 c3b c4b m2) um vm) := by
  unfold f_X12_readWhole
  rw [gC_75, Option.bind_some, bound_dead h9, q_b2_some, goes_dead h9, Option.bind_some]
theorem part_dead {w : Nat} {a b : Int32} (h9 : um 75 9 = 5) : f_X12_readPart (Rep (SH T2 D2 c3b c4b m2) um vm) 75 w a b = some (a, Rep (SH T2 D2 c3b c4b m2) um vm) := by
  unfold f_X12_readPart
  rw [gC_75, Option.bind_some, needs_dead h9, Option.bind_some, whole_dead h9, q_b2_some]
theorem name_dead (h9 : um 75 9 = 5) : f_X12_isName (Rep (SH T2 D2 c3b c4b m2) um vm) 75 = some 0 := by
  unfold f_X12_isName
  rw [gC_75, Option.bind_some, gI_75_9, Option.bind_some, h9, if_neg (by decide)]
end DED
section PR2
variable {T D m T2 D2 m2 M : Nat} {c3 c4 c3b : sF} {uc um : mU} {vc vm : mV} {L s k x : Nat} {l : List Nat}
/-- a whole within bounds, or a fault -/
theorem bd_case {lo hi : Nat} (hlo : lo ≤ 1000) (hhi : hi ≤ 1000) (h : TKR L uc vc um vm s k l x) :
    (k = 2 ∧ lo ≤ x ∧ x ≤ hi ∧ f_X6_takeWhole (Rep (SH T D c3 c4 m) uc vc) 1 (nI lo) (nI hi) = (q_b2 (f_X6_take (Rep (SH T D c3 c4 m) uc vc) 1 (nI x)) fun a g => q_zr a (a, g)) ∧ f_X12_bounded (Rep (SH T2 D2 c3b (fR M) m2) um vm) 75 (nI lo) (nI hi) = some (nI x, Rep (SH T2 D2 c3b (fR M) m2) um vm)) ∨
    (∃ uc' um', f_X6_takeWhole (Rep (SH T D c3 c4 m) uc vc) 1 (nI lo) (nI hi) = some (0, Rep (SH T D c3 c4 m) uc' vc) ∧ f_X12_bounded (Rep (SH T2 D2 c3b (fR M) m2) um vm) 75 (nI lo) (nI hi) = some (nI lo, Rep (SH T2 D2 c3b (fR M) m2) um' vm) ∧ rdC D uc uc' ∧ mdF um um' ∧ DDR uc' um') := by
  have h' := h
  obtain ⟨hL, h6, h7, hb, hs, hk5, hwd, hx, e, e1, e2, e3, hC, hM⟩ := h
  have h9 := hM.1
  obtain ⟨d1, d2, d3, d4, d5⟩ := flaw_DD (T2 := T2) (D2 := D2) (m2 := m2) (c3b := c3b) (c4 := fR M) (D := D) (n := 1) h' (by omega)
  obtain ⟨f1, f2, f3, f4, -⟩ := flaw_DD (T2 := T2) (D2 := D2) (m2 := m2) (c3b := c3b) (c4 := fR M) (D := D) (n := 4) h' (by omega)
  by_cases ck : k = 2
  · subst ck
    have hx := hx rfl
    have c7 : uc 1 7 = 2 := hC.1
    have c9 : um 75 9 = 3 := h9
    have c10 : vc 1 10 = lN x := hC.2.2.2.2 rfl
    have c11 : um 75 11 = nI x := hM.2.2.2.2 rfl
    have p1 : (lN x < (nI lo).toInt64) = (x < lo) := by
      rw [nI_l (by omega)]
      exact propext (lN_lt (by omega) (by omega))
    have p2 : (lN x ≤ (nI hi).toInt64) = (x ≤ hi) := by
      rw [nI_l (by omega)]
      exact propext (lN_le (by omega) (by omega))
    have p3 : (nI x < nI lo) = (x < lo) := propext (nI_ltI (by omega) (by omega))
    have p4 : (nI hi < nI x) = (hi < x) := propext (nI_ltI (by omega) (by omega))
    have dead : f_X6_takeWhole (Rep (SH T D c3 c4 m) uc vc) 1 (nI lo) (nI hi) = some (0, Rep (SH T D c3 c4 m) (wr (wr uc 1 13 4) 1 14 (nI s)) vc) → f_X12_in (Rep (SH T2 D2 c3b (fR M) m2) um vm) (nI x) (nI lo) (nI hi) = some 0 → (∃ uc' um', f_X6_takeWhole (Rep (SH T D c3 c4 m) uc vc) 1 (nI lo) (nI hi) = some (0, Rep (SH T D c3 c4 m) uc' vc) ∧ f_X12_bounded (Rep (SH T2 D2 c3b (fR M) m2) um vm) 75 (nI lo) (nI hi) = some (nI lo, Rep (SH T2 D2 c3b (fR M) m2) um' vm) ∧ rdC D uc uc' ∧ mdF um um' ∧ DDR uc' um') := by
      intro a1 a2
      refine ⟨_, _, a1, ?_, f3, f4, f2⟩
      unfold f_X12_bounded
      rw [gC_75, Option.bind_some, gI_75_9, Option.bind_some, c9, if_pos rfl, gI_75_11, Option.bind_some, c11, a2, Option.bind_some, if_pos rfl, show (4 : Int32) = nI 4 from rfl, f1, Option.bind_some, gI_75_9, Option.bind_some, wr_same, if_pos rfl]
    by_cases c1 : x < lo
    · refine Or.inr (dead ?_ ?_)
      · unfold f_X6_takeWhole
        rw [gC_1, Option.bind_some, gI_1_7, Option.bind_some, c7, if_pos rfl, gL_1_10, Option.bind_some, c10, if_pos (p1.mpr c1), gI_1_8, Option.bind_some, d5, cls_fail, q_b2_some, zr0]
      · unfold f_X12_in
        rw [if_pos (p3.mpr c1)]
    · by_cases c2 : x ≤ hi
      · refine Or.inl ⟨rfl, by omega, c2, ?_, ?_⟩
        · unfold f_X6_takeWhole
          rw [gC_1, Option.bind_some, gI_1_7, Option.bind_some, c7, if_pos rfl, gL_1_10, Option.bind_some, c10, if_neg (fun z => c1 (p1.mp z)), Option.bind_some, if_pos (p2.mpr c2), Option.bind_some, lN_i]
        · have ein : f_X12_in (Rep (SH T2 D2 c3b (fR M) m2) um vm) (nI x) (nI lo) (nI hi) = some 1 := by
            unfold f_X12_in
            rw [if_neg (fun z => c1 (p3.mp z)), if_neg (fun z => by have := p4.mp z; omega)]
          unfold f_X12_bounded
          rw [gC_75, Option.bind_some, gI_75_9, Option.bind_some, c9, if_pos rfl, gI_75_11, Option.bind_some, c11, ein, Option.bind_some, if_neg (by decide), Option.bind_some, if_neg (by decide), Option.bind_some]
      · refine Or.inr (dead ?_ ?_)
        · unfold f_X6_takeWhole
          rw [gC_1, Option.bind_some, gI_1_7, Option.bind_some, c7, if_pos rfl, gL_1_10, Option.bind_some, c10, if_neg (fun z => c1 (p1.mp z)), Option.bind_some, if_neg (fun z => c2 (p2.mp z)), gI_1_8, Option.bind_some, d5, cls_fail, q_b2_some, zr0]
        · unfold f_X12_in
          rw [if_neg (fun z => c1 (p3.mp z)), if_pos (p4.mpr (by omega))]
  · have n7 : ¬ uc 1 7 = 2 := by
      rw [hC.1]
      exact fun z => ck ((nI_eq (b := 2) (by omega) (by omega)).mp z)
    have n9 : ¬ um 75 9 = 3 := by
      rw [h9]
      exact fun z => ck ((mkK_3 hk5).mp z)
    refine Or.inr ⟨_, _, ?_, ?_, d3, d4, d2⟩
    · unfold f_X6_takeWhole
      rw [gC_1, Option.bind_some, gI_1_7, Option.bind_some, if_neg n7, gI_1_8, Option.bind_some, d5, cls_fail, q_b2_some, zr0]
      rfl
    · unfold f_X12_bounded
      rw [gC_75, Option.bind_some, gI_75_9, Option.bind_some, if_neg n9, show (1 : Int32) = nI 1 from rfl, d1, Option.bind_some, gI_75_9, Option.bind_some, wr_same, if_pos rfl]
/-- a step that gives a number -/
def STV (T D m : Nat) (c3 c4 : sF) (T2 D2 m2 M : Nat) (c3b : sF) (uc um : mU) {α : Type} (X : Option (Int32 × qS)) (Y : Option (α × qS)) (G : α → mU → mV → mU → mV → Prop) : Prop :=
  (∃ a uc' vc' um' vm', X = some (1, Rep (SH T D c3 c4 m) uc' vc') ∧ Y = some (a, Rep (SH T2 D2 c3b (fR M) m2) um' vm') ∧ rdC D uc uc' ∧ mdF um um' ∧ G a uc' vc' um' vm') ∨
  (∃ a uc' vc' um' vm', X = some (0, Rep (SH T D c3 c4 m) uc' vc') ∧ Y = some (a, Rep (SH T2 D2 c3b (fR M) m2) um' vm') ∧ rdC D uc uc' ∧ mdF um um' ∧ DDR uc' um')
/-- both went on from a token -/
def GON (L s : Nat) (uc : mU) (vc : mV) (um : mU) (vm : mV) (uc' : mU) (vc' : mV) (um' : mU) (vm' : mV) : Prop := (∃ s' k' l' x', TKR L uc' vc' um' vm' s' k' l' x' ∧ s < s') ∧ cfT uc uc' ∧ cfV vc vc' ∧ mfT um um' ∧ mfV vm vm'
theorem pr_whole {lo hi : Nat} (hlo : lo ≤ 1000) (hhi : hi ≤ 1000) (h : TKR L uc vc um vm s k l x) : STV T D m c3 c4 T2 D2 m2 M c3b uc um (f_X6_takeWhole (Rep (SH T D c3 c4 m) uc vc) 1 (nI lo) (nI hi)) (f_X12_readWhole (Rep (SH T2 D2 c3b (fR M) m2) um vm) 75 (nI lo) (nI hi)) (fun a uc' vc' um' vm' => (∃ z, lo ≤ z ∧ z ≤ hi ∧ a = nI z ∧ uc' 1 11 = nI z) ∧ GON L s uc vc um vm uc' vc' um' vm') := by
  rcases bd_case (T := T) (D := D) (m := m) (c3 := c3) (c4 := c4) (T2 := T2) (D2 := D2) (m2 := m2) (M := M) (c3b := c3b) hlo hhi h with ⟨ck, z1, z2, e1, e2⟩ | ⟨uc', um', e1, e2, e3, e4, e5⟩
  · obtain ⟨uc', vc', um', vm', s', k', l', x', q1, q2, q3, q4, q5, q6, q7, q8, q9, q10⟩ := adv (T := T) (D := D) (c3 := c3) (c4 := c4) (m := m) (T2 := T2) (D2 := D2) (c3b := c3b) (M := M) (m2 := m2) (y := nI x) h (Or.inr (Or.inl ck))
    refine Or.inl ⟨nI x, uc', vc', um', vm', ?_, ?_, rdC_T q7, mdF_T q9, ⟨x, z1, z2, rfl, q5⟩, ⟨s', k', l', x', q3, q4⟩, q7, q8, q9, q10⟩
    · rw [e1, q1, q_b2_some, zr1]
    · unfold f_X12_readWhole
      rw [gC_75, Option.bind_some, e2, q_b2_some, q2, Option.bind_some]
  · refine Or.inr ⟨nI lo, uc', vc, um', vm, e1, ?_, e3, e4, e5⟩
    obtain ⟨n, s1, -, -, -, -, -, -, h5⟩ := e5
    unfold f_X12_readWhole
    rw [gC_75, Option.bind_some, e2, q_b2_some, goes_dead h5, Option.bind_some]
/-- the same, of several steps of the class, whatever comes behind -/
def STK (T D m : Nat) (c3 c4 : sF) (T2 D2 m2 M : Nat) (c3b : sF) (uc um : mU) {α : Type} (X : (qS → Option (Int32 × qS)) → Option (Int32 × qS)) (Y : Option (α × qS)) (G : α → mU → mV → mU → mV → Prop) : Prop :=
  (∃ a uc' vc' um' vm', (∀ K, X K = K (Rep (SH T D c3 c4 m) uc' vc')) ∧ Y = some (a, Rep (SH T2 D2 c3b (fR M) m2) um' vm') ∧ rdC D uc uc' ∧ mdF um um' ∧ G a uc' vc' um' vm') ∨
  (∃ a uc' vc' um' vm', (∀ K, X K = some (0, Rep (SH T D c3 c4 m) uc' vc')) ∧ Y = some (a, Rep (SH T2 D2 c3b (fR M) m2) um' vm') ∧ rdC D uc uc' ∧ mdF um um' ∧ DDR uc' um')
theorem pr_part {w lo hi : Nat} (hw : w < 28) (h15 : w ≠ 15) (hlo : lo ≤ 1000) (hhi : hi ≤ 1000) (h : TKR L uc vc um vm s k l x) : STK T D m c3 c4 T2 D2 m2 M c3b uc um (fun K => q_b2 (f_X6_takeWord (Rep (SH T D c3 c4 m) uc vc) 1 w) fun a g => if a = 0 then some (0, g) else (q_b2 (f_X6_takeWhole g 1 (nI lo) (nI hi)) fun a g => if a = 0 then some (0, g) else K g)) (f_X12_readPart (Rep (SH T2 D2 c3b (fR M) m2) um vm) 75 (mw w) (nI lo) (nI hi)) (fun a uc' vc' um' vm' => (∃ z, lo ≤ z ∧ z ≤ hi ∧ a = nI z ∧ uc' 1 11 = nI z) ∧ GON L s uc vc um vm uc' vc' um' vm') := by
  rcases pr_word (T := T) (D := D) (m := m) (c3 := c3) (c4 := c4) (T2 := T2) (D2 := D2) (m2 := m2) (M := M) (c3b := c3b) hw h15 h with ⟨u1, v1, u2, v2, e1, e2, e3, e4, ⟨s1, k1, l1, x1, t1, t2⟩, g1, g2, g3, g4⟩ | ⟨u1, v1, u2, v2, e1, e2, e3, e4, e5⟩
  · rcases pr_whole (T := T) (D := D) (m := m) (c3 := c3) (c4 := c4) (T2 := T2) (D2 := D2) (m2 := m2) (M := M) (c3b := c3b) hlo hhi t1 with ⟨a, u3, v3, u4, v4, q1, q2, q3, q4, q5, ⟨s2, k2, l2, x2, t3, t4⟩, p1, p2, p3, p4⟩ | ⟨a, u3, v3, u4, v4, q1, q2, q3, q4, q5⟩
    · refine Or.inl ⟨a, u3, v3, u4, v4, fun K => ?_, ?_, rdC_trans e3 q3, mdF_trans e4 q4, q5, ⟨s2, k2, l2, x2, t3, by omega⟩, fun q j hq => (p1 q j hq).trans (g1 q j hq), fun q j hq => (p2 q j hq).trans (g2 q j hq), fun q j hq => (p3 q j hq).trans (g3 q j hq), fun q j hq => (p4 q j hq).trans (g4 q j hq)⟩
      · show q_b2 (f_X6_takeWord (Rep (SH T D c3 c4 m) uc vc) 1 w) _ = _
        rw [e1, q_b2_some, if_neg (by decide), q1, q_b2_some, if_neg (by decide)]
      · unfold f_X12_readPart
        rw [gC_75, Option.bind_some, e2, Option.bind_some, q2, q_b2_some]
    · refine Or.inr ⟨a, u3, v3, u4, v4, fun K => ?_, ?_, rdC_trans e3 q3, mdF_trans e4 q4, q5⟩
      · show q_b2 (f_X6_takeWord (Rep (SH T D c3 c4 m) uc vc) 1 w) _ = _
        rw [e1, q_b2_some, if_neg (by decide), q1, q_b2_some, if_pos rfl]
      · unfold f_X12_readPart
        rw [gC_75, Option.bind_some, e2, Option.bind_some, q2, q_b2_some]
  · have e5' := e5
    obtain ⟨n, s1, -, -, -, -, -, -, h5⟩ := e5'
    refine Or.inr ⟨nI lo, u1, v1, u2, v2, fun K => ?_, ?_, e3, e4, e5⟩
    · show q_b2 (f_X6_takeWord (Rep (SH T D c3 c4 m) uc vc) 1 w) _ = _
      rw [e1, q_b2_some, if_pos rfl]
    · unfold f_X12_readPart
      rw [gC_75, Option.bind_some, e2, Option.bind_some, whole_dead h5, q_b2_some]
end PR2
