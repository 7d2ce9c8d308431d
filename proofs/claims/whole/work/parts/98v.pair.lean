/-! ===== the reader: class and model side by side ===== -/
/-- what reading may change, of the class and of the model -/
def rdC (D : Nat) (u u' : mU) : Prop := ∀ q j, ¬ ((q = 1 ∧ 5 ≤ j ∧ j ≠ 6) ∨ q = 26 ∨ (D ≤ q ∧ q ≤ D + 20)) → u' q j = u q j
def rdM (M : Nat) (u u' : mU) : Prop := ∀ q j, ¬ ((q = 75 ∧ 8 ≤ j ∧ j ≤ 13) ∨ M ≤ q) → u' q j = u q j
theorem rdC_refl {D : Nat} {u : mU} : rdC D u u := fun _ _ _ => rfl
theorem rdM_refl {M : Nat} {u : mU} : rdM M u u := fun _ _ _ => rfl
theorem rdC_trans {D : Nat} {u u' u'' : mU} (h : rdC D u u') (h' : rdC D u' u'') : rdC D u u'' := fun q j hq => (h' q j hq).trans (h q j hq)
theorem rdM_trans {M : Nat} {u u' u'' : mU} (h : rdM M u u') (h' : rdM M u' u'') : rdM M u u'' := fun q j hq => (h' q j hq).trans (h q j hq)
theorem rdC_T {D : Nat} {u u' : mU} (h : cfT u u') : rdC D u u' := fun q j hq => h q j (fun z => hq (Or.inl ⟨z.1, by omega, by omega⟩))
theorem rdM_T {M : Nat} {u u' : mU} (h : mfT u u') : rdM M u u' := fun q j hq => h q j (fun z => hq (Or.inl ⟨z.1, by omega, by omega⟩))
theorem rdC_wr {D : Nat} {u u' : mU} {r i : Nat} {x : Int32} (h : rdC D u u') (hr : (r = 1 ∧ 5 ≤ i ∧ i ≠ 6) ∨ r = 26 ∨ (D ≤ r ∧ r ≤ D + 20)) : rdC D u (wr u' r i x) := by
  intro q j hq
  unfold wr
  rw [if_neg]
  · exact h q j hq
  · rintro ⟨rfl, rfl⟩
    exact hq hr
theorem rdM_wr {M : Nat} {u u' : mU} {r i : Nat} {x : Int32} (h : rdM M u u') (hr : (r = 75 ∧ 8 ≤ i ∧ i ≤ 13) ∨ M ≤ r) : rdM M u (wr u' r i x) := by
  intro q j hq
  unfold wr
  rw [if_neg]
  · exact h q j hq
  · rintro ⟨rfl, rfl⟩
    exact hq hr
/-- what reading within a line may change of the model -/
def mdF (u u' : mU) : Prop := ∀ q j, ¬ (q = 75 ∧ 8 ≤ j ∧ j ≤ 13) → u' q j = u q j
theorem mdF_refl {u : mU} : mdF u u := fun _ _ _ => rfl
theorem mdF_trans {u u' u'' : mU} (h : mdF u u') (h' : mdF u' u'') : mdF u u'' := fun q j hq => (h' q j hq).trans (h q j hq)
theorem mdF_T {u u' : mU} (h : mfT u u') : mdF u u' := fun q j hq => h q j (fun z => hq ⟨z.1, by omega, by omega⟩)
theorem mdF_wr {u u' : mU} {i : Nat} {x : Int32} (h : mdF u u') (hr : 8 ≤ i ∧ i ≤ 13) : mdF u (wr u' 75 i x) := by
  intro q j hq
  unfold wr
  rw [if_neg]
  · exact h q j hq
  · rintro ⟨rfl, rfl⟩
    exact hq ⟨rfl, hr⟩
theorem rdM_F {M : Nat} {u u' : mU} (h : mdF u u') : rdM M u u' := fun q j hq => h q j (fun z => hq (Or.inl z))
theorem mdF_M {M i : Nat} {u u' : mU} (h : mdF u u') (hM : 88 ≤ M) : u' (M + i) = u (M + i) := funext fun j => h (M + i) j (fun z => by omega)
/-- both stand at the same token -/
def TKR (L : Nat) (uc : mU) (vc : mV) (um : mU) (vm : mV) (s k : Nat) (l : List Nat) (x : Nat) : Prop :=
  L ≤ 1000 ∧ uc 1 6 = nI L ∧ um 75 7 = nI L ∧ (∀ i, i < L → uc 2 i = um 76 i ∧ byt (uc 2 i)) ∧ s ≤ L ∧ k < 5 ∧ (k = 1 → okQ l ∧ l ≠ []) ∧ (k = 2 → x < 1000) ∧
  (∃ e, s ≤ e ∧ e ≤ L ∧ (k = 1 ∨ k = 2 ∨ k = 3 → s < e) ∧ CT uc vc s k l x e ∧ MT um vm s k l x e)
/-- read to a fault: the class says so, the model goes on to nothing -/
def DDR (uc um : mU) : Prop := ∃ n s, 1 ≤ n ∧ n ≤ 6 ∧ uc 1 13 = nI n ∧ um 75 12 = nI n ∧ uc 1 14 = nI s ∧ um 75 13 = nI s ∧ um 75 9 = 5
theorem mkK_ne {k : Nat} (h : k < 5) : ¬ mkK k = 5 := by
  rcases k with _ | _ | _ | _ | _ | k
  · decide
  · decide
  · decide
  · decide
  · decide
  · omega
theorem mkK_2 {k : Nat} (h : k < 5) : mkK k = 2 ↔ k = 1 := by
  rcases k with _ | _ | _ | _ | _ | k
  · decide
  · decide
  · decide
  · decide
  · decide
  · omega
theorem mkK_3 {k : Nat} (h : k < 5) : mkK k = 3 ↔ k = 2 := by
  rcases k with _ | _ | _ | _ | _ | k
  · decide
  · decide
  · decide
  · decide
  · decide
  · omega
theorem mkK_4 {k : Nat} (h : k < 5) : mkK k = 4 ↔ k = 3 := by
  rcases k with _ | _ | _ | _ | _ | k
  · decide
  · decide
  · decide
  · decide
  · decide
  · omega
theorem mkK_1 {k : Nat} (h : k < 5) : mkK k = 1 ↔ k = 0 := by
  rcases k with _ | _ | _ | _ | _ | k
  · decide
  · decide
  · decide
  · decide
  · decide
  · omega
theorem LX_tok {b : Nat → Int32} {L a s k x e : Nat} {l : List Nat} (hb : ∀ i, i < L → byt (b i)) (h : LX b L a s k l x e) : k < 5 ∧ (k = 1 → okQ l ∧ l ≠ []) ∧ (k = 2 → x < 1000) ∧ (k = 1 ∨ k = 2 ∨ k = 3 → s < e ∧ e ≤ L) ∧ (k ≠ 4 → s ≤ e ∧ e ≤ L) := by
  obtain ⟨h1, h2, h3, h4, h5⟩ := h
  rcases h5 with ⟨q1, q2, q3⟩ | ⟨q1, q2, q3, q4⟩ | ⟨q1, q2, q3, q4, q5, q6, q7⟩ | ⟨q1, q2, q3, q4, q5, q6, q7⟩ | ⟨q1, q2, q3⟩
  · exact ⟨by omega, fun z => by omega, fun z => by omega, fun z => by omega, fun _ => by omega⟩
  · exact ⟨by omega, fun z => by omega, fun z => by omega, fun z => by omega, fun _ => by omega⟩
  · have := ltB_ok hb (e - s) (by omega) (fun i a1 a2 => q5 i a1 (by omega))
    refine ⟨by omega, fun _ => ⟨⟨?_, ?_⟩, ?_⟩, fun z => by omega, fun z => by omega, fun _ => by omega⟩
    · rw [q7, this.1]; omega
    · rw [q7]; exact this.2
    · intro z
      have h1 := this.1
      rw [← q7, z] at h1
      have : 0 = e - s := h1
      omega
  · have := nvB_le hb (e - s) (by omega) (fun i a1 a2 => q5 i a1 (by omega))
    refine ⟨by omega, fun z => by omega, fun _ => ?_, fun z => by omega, fun _ => by omega⟩
    have h3 : 10 ^ (e - s) ≤ 10 ^ 3 := Nat.pow_le_pow_right (by decide) (by omega)
    rw [q7]
    omega
  · exact ⟨by omega, fun z => by omega, fun z => by omega, fun z => by omega, fun z => absurd q1 z⟩
section PRS
variable {T D m T2 D2 m2 M : Nat} {c3 c4 c3b : sF} {uc um : mU} {vc vm : mV} {L s k x : Nat} {l : List Nat}
/-- both go on, from the end of what was read -/
theorem adv0 {a : Nat} {y : Int32} (hL : L ≤ 1000) (h6 : uc 1 6 = nI L) (h7 : um 75 7 = nI L) (hb : ∀ i, i < L → uc 2 i = um 76 i ∧ byt (uc 2 i)) (haL : a ≤ L) (hc : uc 1 8 + uc 1 9 = nI a) (hm : um 75 8 = nI a) (h9 : ¬ um 75 9 = 5) : ∃ uc' vc' um' vm' s' k' l' x', f_X6_take (Rep (SH T D c3 c4 m) uc vc) 1 y = some (1, Rep (SH T D c3 c4 m) uc' vc') ∧ f_X12_goesOn (Rep (SH T2 D2 c3b (fR M) m2) um vm) 75 = some (Rep (SH T2 D2 c3b (fR M) m2) um' vm') ∧ TKR L uc' vc' um' vm' s' k' l' x' ∧ a ≤ s' ∧ uc' 1 11 = y ∧ uc' 1 12 = uc 1 8 ∧ cfT uc uc' ∧ cfV vc vc' ∧ mfT um um' ∧ mfV vm vm' := by
  obtain ⟨s', k', l', x', e', hx⟩ := LX_ex (uc 2) L a haL
  have hbc : ∀ i, i < L → byt (uc 2 i) := fun i hi => (hb i hi).2
  have hbm : ∀ i, i < L → byt (um 76 i) := fun i hi => by rw [← (hb i hi).1]; exact (hb i hi).2
  obtain ⟨uc', vc', q1, q2, q3, q4, q5, q6⟩ := cls_take (T := T) (D := D) (c3 := c3) (c4 := c4) (m := m) (v := vc) (y := y) hL h6 hbc hc hx
  obtain ⟨um', vm', r1, r2, r3, r4⟩ := mod_goes (T := T2) (D := D2) (c3 := c3b) (c4 := fR M) (m := m2) (v := vm) hL h7 hbm h9 hm (LX_congr (fun i hi => (hb i hi).1) hx)
  have ht := LX_tok hbc hx
  refine ⟨uc', vc', um', vm', s', k', l', x', q1, r1, ⟨hL, ?_, ?_, fun i hi => ?_, hx.2.1, ht.1, ht.2.1, ht.2.2.1, ?_⟩, hx.1, q3, q4, q5, q6, r3, r4⟩
  · rw [q5 1 6 (fun c => by omega)]; exact h6
  · rw [r3 75 7 (fun c => by omega)]; exact h7
  · rw [q5 2 i (fun c => by omega), r3 76 i (fun c => by omega)]; exact hb i hi
  · by_cases c4k : k' = 4
    · refine ⟨s', Nat.le_refl _, hx.2.1, fun z => by omega, ?_, ?_⟩
      · exact ⟨q2.1, q2.2.1, fun z => absurd c4k z, fun z => by omega, fun z => by omega⟩
      · exact ⟨r2.1, r2.2.1, fun z => by omega, fun z => by omega, fun z => by omega⟩
    · exact ⟨e', (ht.2.2.2.2 c4k).1, (ht.2.2.2.2 c4k).2, fun z => (ht.2.2.2.1 z).1, q2, r2⟩
theorem adv {y : Int32} (h : TKR L uc vc um vm s k l x) (hk : k = 1 ∨ k = 2 ∨ k = 3) : ∃ uc' vc' um' vm' s' k' l' x', f_X6_take (Rep (SH T D c3 c4 m) uc vc) 1 y = some (1, Rep (SH T D c3 c4 m) uc' vc') ∧ f_X12_goesOn (Rep (SH T2 D2 c3b (fR M) m2) um vm) 75 = some (Rep (SH T2 D2 c3b (fR M) m2) um' vm') ∧ TKR L uc' vc' um' vm' s' k' l' x' ∧ s < s' ∧ uc' 1 11 = y ∧ uc' 1 12 = uc 1 8 ∧ cfT uc uc' ∧ cfV vc vc' ∧ mfT um um' ∧ mfV vm vm' := by
  obtain ⟨hL, h6, h7, hb, hs, hk5, hw, hx, e, e1, e2, e3, hC, hM⟩ := h
  have e3 := e3 hk
  have hc : uc 1 8 + uc 1 9 = nI e := by
    rw [hC.2.1, hC.2.2.1 (by omega), nI_add, show s + (e - s) = e by omega]
  obtain ⟨uc', vc', um', vm', s', k', l', x', q1, q2, q3, q4, q5⟩ := adv0 (T := T) (D := D) (c3 := c3) (c4 := c4) (m := m) (T2 := T2) (D2 := D2) (c3b := c3b) (M := M) (m2 := m2) (vc := vc) (vm := vm) (y := y) hL h6 h7 hb e2 hc (hM.2.2.1 hk) (by rw [hM.1]; exact mkK_ne hk5)
  exact ⟨uc', vc', um', vm', s', k', l', x', q1, q2, q3, by omega, q5⟩
theorem cls_fail {n p : Int32} : f_X6_failAt (Rep (SH T D c3 c4 m) uc vc) 1 n p = some (0, Rep (SH T D c3 c4 m) (wr (wr uc 1 13 n) 1 14 p) vc) := by
  unfold f_X6_failAt
  rw [gC_1, Option.bind_some, pI_1_13, Option.bind_some, pI_1_14, Option.bind_some]
theorem mod_flaw {n : Int32} (h9 : ¬ um 75 9 = 5) : f_X12_flaw (Rep (SH T2 D2 c3b c4 m2) um vm) 75 n = some (Rep (SH T2 D2 c3b c4 m2) (wr (wr (wr um 75 12 n) 75 13 (um 75 10)) 75 9 5) vm) := by
  unfold f_X12_flaw
  rw [gC_75, Option.bind_some, gI_75_9, Option.bind_some, if_neg h9, pI_75_12, Option.bind_some, gI_75_10, Option.bind_some, wr_ix (show (10 : Nat) ≠ 12 by decide), pI_75_13, Option.bind_some, pI_75_9, Option.bind_some]
theorem flaw_DD {n : Nat} (h : TKR L uc vc um vm s k l x) (hn : 1 ≤ n ∧ n ≤ 6) : f_X12_flaw (Rep (SH T2 D2 c3b c4 m2) um vm) 75 (nI n) = some (Rep (SH T2 D2 c3b c4 m2) (wr (wr (wr um 75 12 (nI n)) 75 13 (um 75 10)) 75 9 5) vm) ∧ DDR (wr (wr uc 1 13 (nI n)) 1 14 (nI s)) (wr (wr (wr um 75 12 (nI n)) 75 13 (um 75 10)) 75 9 5) ∧ rdC D uc (wr (wr uc 1 13 (nI n)) 1 14 (nI s)) ∧ mdF um (wr (wr (wr um 75 12 (nI n)) 75 13 (um 75 10)) 75 9 5) ∧ uc 1 8 = nI s := by
  obtain ⟨hL, h6, h7, hb, hs, hk5, hw, hx, e, e1, e2, e3, hC, hM⟩ := h
  refine ⟨mod_flaw (by rw [hM.1]; exact mkK_ne hk5), ⟨n, s, hn.1, hn.2, ?_, ?_, ?_, ?_, ?_⟩, rdC_wr (rdC_wr rdC_refl (by omega)) (by omega), mdF_wr (mdF_wr (mdF_wr mdF_refl (by omega)) (by omega)) (by omega), hC.2.1⟩
  · rw [wr_ix (by decide), wr_same]
  · rw [wr_ix (by decide), wr_ix (by decide), wr_same]
  · rw [wr_same]
  · rw [wr_ix (by decide), wr_same, hM.2.1]
  · rw [wr_same]
/-- a step that both take, or both end with a fault -/
def STP (T D m : Nat) (c3 c4 : sF) (T2 D2 m2 M : Nat) (c3b : sF) (uc um : mU) (X : Option (Int32 × qS)) (Y : Option qS) (G : mU → mV → mU → mV → Prop) : Prop :=
  (∃ uc' vc' um' vm', X = some (1, Rep (SH T D c3 c4 m) uc' vc') ∧ Y = some (Rep (SH T2 D2 c3b (fR M) m2) um' vm') ∧ rdC D uc uc' ∧ mdF um um' ∧ G uc' vc' um' vm') ∨
  (∃ uc' vc' um' vm', X = some (0, Rep (SH T D c3 c4 m) uc' vc') ∧ Y = some (Rep (SH T2 D2 c3b (fR M) m2) um' vm') ∧ rdC D uc uc' ∧ mdF um um' ∧ DDR uc' um')
theorem zr1 {α : Type} {a : α} : q_zr 1 a = some a := q_zr_1
theorem zr0 {α : Type} {a : α} : q_zr 0 a = some a := q_zr_0
theorem pr_word {w : Nat} (hw : w < 28) (h15 : w ≠ 15) (h : TKR L uc vc um vm s k l x) : STP T D m c3 c4 T2 D2 m2 M c3b uc um (f_X6_takeWord (Rep (SH T D c3 c4 m) uc vc) 1 w) (f_X12_needs (Rep (SH T2 D2 c3b (fR M) m2) um vm) 75 (mw w)) (fun uc' vc' um' vm' => (∃ s' k' l' x', TKR L uc' vc' um' vm' s' k' l' x' ∧ s < s') ∧ cfT uc uc' ∧ cfV vc vc' ∧ mfT um um' ∧ mfV vm vm') := by
  obtain ⟨hw1, hw2, hw3⟩ := mw_eq w hw h15
  have h' := h
  obtain ⟨hL, h6, h7, hb, hs, hk5, hwd, hx, e, e1, e2, e3, hC, hM⟩ := h
  obtain ⟨d1, d2, d3, d4, d5⟩ := flaw_DD (T2 := T2) (D2 := D2) (m2 := m2) (c3b := c3b) (c4 := fR M) (D := D) (n := 1) h' (by omega)
  have h9 := hM.1
  have dead : f_X6_takeWord (Rep (SH T D c3 c4 m) uc vc) 1 w = some (0, Rep (SH T D c3 c4 m) (wr (wr uc 1 13 1) 1 14 (nI s)) vc) → f_X12_isWord (Rep (SH T2 D2 c3b (fR M) m2) um vm) 75 (mw w) = some 0 → STP T D m c3 c4 T2 D2 m2 M c3b uc um (f_X6_takeWord (Rep (SH T D c3 c4 m) uc vc) 1 w) (f_X12_needs (Rep (SH T2 D2 c3b (fR M) m2) um vm) 75 (mw w)) (fun uc' vc' um' vm' => (∃ s' k' l' x', TKR L uc' vc' um' vm' s' k' l' x' ∧ s < s') ∧ cfT uc uc' ∧ cfV vc vc' ∧ mfT um um' ∧ mfV vm vm') := by
    intro a1 a2
    refine Or.inr ⟨_, _, _, vm, a1, ?_, d3, d4, d2⟩
    unfold f_X12_needs
    rw [gC_75, Option.bind_some, a2, Option.bind_some, if_pos rfl, show (1 : Int32) = nI 1 from rfl, d1, Option.bind_some, goes_dead (wr_same _ _ _ _), Option.bind_some]
  by_cases ck : k = 1
  · subst ck
    have hl := (hwd rfl).1
    have c7 : uc 1 7 = 1 := hC.1
    have ev : (rv 27 l = rv 27 (wd w)) = (l = wd w) := propext (rv27 hl (wd_ok (by omega) (by omega)))
    have ei := is_word (T := T2) (D := D2) (c3 := c3b) (c4 := fR M) (m := m2) (u := um) hw1 hw2 h9 (hM.2.2.2.1 rfl) hl
    rw [hw3] at ei
    by_cases cl : l = wd w
    · obtain ⟨uc', vc', um', vm', s', k', l', x', q1, q2, q3, q4, q5, q6, q7, q8, q9, q10⟩ := adv (T := T) (D := D) (c3 := c3) (c4 := c4) (m := m) (T2 := T2) (D2 := D2) (c3b := c3b) (M := M) (m2 := m2) (y := 0) h' (Or.inl rfl)
      refine Or.inl ⟨uc', vc', um', vm', ?_, ?_, rdC_T q7, mdF_T q9, ⟨s', k', l', x', q3, q4⟩, q7, q8, q9, q10⟩
      · unfold f_X6_takeWord
        rw [gC_1, Option.bind_some, gI_1_7, Option.bind_some, c7, if_pos rfl, gL_1_10, Option.bind_some, hC.2.2.2.1 rfl, code27 (by omega) (by omega), Option.bind_some, if_pos (ev.mpr cl), q1, q_b2_some, zr1]
      · unfold f_X12_needs
        rw [gC_75, Option.bind_some, ei, Option.bind_some, decide_eq_true cl, show bI true = 1 from rfl, if_neg (by decide), q2, Option.bind_some]
    · refine dead ?_ (by rw [ei, decide_eq_false cl]; rfl)
      unfold f_X6_takeWord
      rw [gC_1, Option.bind_some, gI_1_7, Option.bind_some, c7, if_pos rfl, gL_1_10, Option.bind_some, hC.2.2.2.1 rfl, code27 (by omega) (by omega), Option.bind_some, if_neg (fun z => cl (ev.mp z)), gI_1_8, Option.bind_some, d5, cls_fail, q_b2_some, zr0]
  · have n7 : ¬ uc 1 7 = 1 := by
      rw [hC.1]
      exact fun z => ck ((nI_eq (b := 1) (by omega) (by omega)).mp z)
    have n9 : ¬ um 75 9 = 2 := by
      rw [h9]
      exact fun z => ck ((mkK_2 hk5).mp z)
    refine dead ?_ (is_wordN n9)
    unfold f_X6_takeWord
    rw [gC_1, Option.bind_some, gI_1_7, Option.bind_some, if_neg n7, gI_1_8, Option.bind_some, d5, cls_fail, q_b2_some, zr0]
end PRS
