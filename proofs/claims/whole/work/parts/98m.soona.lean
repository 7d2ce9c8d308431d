/-! ===== soonest: the model plays the days ===== -/
/-- the row after the days before d, and of d the things before t -/
def pyI (N ch : Nat → Nat) (d t : Nat) (X : Nat → Int32) : Prop := (∀ j, j < 4 → X j = if j < N 2 ∧ (ch j / 15 < d ∨ (ch j / 15 = d ∧ j < t)) then nI (ch j % 5) else -2) ∧ ∀ p, p < 5 → X (4 + p) = 0
theorem cnt_hd {N ch : Nat → Nat} {t : Nat} {X : Nat → Int32} (b2 : N 2 ≤ 4) (ht : t < N 2) (hw : ∀ j, j < N 2 → ch j < 105) (h : pyI N ch (ch t / 15) t X) : cntOf X (nI (ch t % 5)) = nI (hd ch t (N 2)) := by
  have hne : ¬ (-2 : Int32) = nI (ch t % 5) := fun z => absurd (show nI (ch t % 5) < 0 by rw [← z]; decide) (nI_pos (by omega))
  have e1 : ∀ j, j < 4 → (if X j = nI (ch t % 5) then (1 : Int32) else 0) = nI (if j < N 2 ∧ bfS ch t j = true then 1 else 0) := by
    intro j hj
    rw [h.1 j hj]
    unfold bfS
    by_cases c1 : j < N 2 ∧ (ch j / 15 < ch t / 15 ∨ (ch j / 15 = ch t / 15 ∧ j < t))
    · rw [if_pos c1, decide_eq_true c1.2, Bool.and_true]
      by_cases c2 : ch j % 5 = ch t % 5
      · rw [if_pos (by rw [c2]), decide_eq_true c2, if_pos ⟨c1.1, rfl⟩]
        rfl
      · rw [if_neg (fun z => c2 ((nI_eq (by omega) (by omega)).mp z)), decide_eq_false c2, if_neg (fun z => absurd z.2 (by decide)), nI_0]
    · rw [if_neg c1, if_neg hne, if_neg, nI_0]
      rintro ⟨z1, z2⟩
      rw [Bool.and_eq_true] at z2
      exact c1 ⟨z1, of_decide_eq_true z2.2⟩
  unfold cntOf
  rw [e1 0 (by decide), e1 1 (by decide), e1 2 (by decide), e1 3 (by decide), nI_add, nI_add, nI_add]
  apply congrArg nI
  have h4 : N 2 = 1 ∨ N 2 = 2 ∨ N 2 = 3 ∨ N 2 = 4 := by omega
  rcases h4 with z | z | z | z
  · rw [z]
    show _ = (0 + if bfS ch t 0 = true then 1 else 0)
    cases bfS ch t 0 <;> simp
  · rw [z]
    show _ = ((0 + if bfS ch t 0 = true then 1 else 0) + if bfS ch t 1 = true then 1 else 0)
    cases bfS ch t 0 <;> cases bfS ch t 1 <;> simp
  · rw [z]
    show _ = (((0 + if bfS ch t 0 = true then 1 else 0) + if bfS ch t 1 = true then 1 else 0) + if bfS ch t 2 = true then 1 else 0)
    cases bfS ch t 0 <;> cases bfS ch t 1 <;> cases bfS ch t 2 <;> simp
  · rw [z]
    show _ = ((((0 + if bfS ch t 0 = true then 1 else 0) + if bfS ch t 1 = true then 1 else 0) + if bfS ch t 2 = true then 1 else 0) + if bfS ch t 3 = true then 1 else 0)
    cases bfS ch t 0 <;> cases bfS ch t 1 <;> cases bfS ch t 2 <;> cases bfS ch t 3 <;> simp
theorem out_hd {K : cK} {N ch : Nat → Nat} {t : Nat} {X : Nat → Int32} (b2 : N 2 ≤ 4) (ht : t < N 2) (hw : ∀ j, j < N 2 → ch j < 105) (h : pyI N ch (ch t / 15) t X) : (s_out K X (ch t / 5 % 3) t (ch t % 5) (ch t / 15) = 0) = (stS K ch (N 2) t = true) := by
  have e1 : X t = -2 := by
    rw [h.1 t (by omega), if_neg (by omega)]
  have e2 : X (4 + ch t % 5) = 0 := h.2 _ (by omega)
  apply propext
  unfold s_out s_nr s_hind s_roomIn stS s_can
  rw [e1, e2, cnt_hd b2 ht hw h, Int32.sub_zero]
  have h0 : ¬ nI (hd ch t (N 2)) < 0 := nI_pos (by have := hd_le (ch := ch) (t := t) (N 2); omega)
  generalize hd ch t (N 2) = hh at *
  generalize ch t / 15 = d at *
  generalize ch t / 5 % 3 = g at *
  generalize ch t % 5 = p at *
  by_cases c1 : s_tog K g p d = -2
  · rw [if_pos c1, decide_eq_false (not_not_intro c1), Bool.false_and, if_neg (by decide)]
    exact ⟨fun z => absurd z (by decide), fun z => by cases z⟩
  · rw [if_neg c1, decide_eq_true c1, Bool.true_and, if_pos rfl]
    have er : (nI hh < if s_room K p ≤ 0 then 0 else s_room K p) = (nI hh < s_room K p) := by
      apply propext
      by_cases c2 : s_room K p ≤ 0
      · rw [if_pos c2]
        exact ⟨fun z => absurd z h0, fun z => absurd (Int32.lt_of_lt_of_le z c2) h0⟩
      · rw [if_neg c2]
    by_cases c2 : nI hh < s_room K p
    · rw [if_pos (er.mpr c2), if_pos rfl, decide_eq_true c2, Bool.true_and]
      by_cases c3 : s_near K g t p (s_tr K g p d) (nI hh) ≤ K 0 1
      · rw [if_pos c3, decide_eq_true c3]
        exact ⟨fun _ => rfl, fun _ => rfl⟩
      · rw [if_neg c3, decide_eq_false c3]
        exact ⟨fun z => absurd z (by decide), fun z => by cases z⟩
    · rw [if_neg (fun z => c2 (er.mp z)), if_neg (by decide), decide_eq_false c2, Bool.false_and]
      exact ⟨fun z => absurd z (by decide), fun z => by cases z⟩
theorem pyI_skip {N ch : Nat → Nat} {d t : Nat} {X : Nat → Int32} (h : pyI N ch d t X) (hd : ¬ ch t / 15 = d) : pyI N ch d (t + 1) X := by
  refine ⟨fun j hj => ?_, h.2⟩
  rw [h.1 j hj]
  by_cases c : j < N 2 ∧ (ch j / 15 < d ∨ (ch j / 15 = d ∧ j < t))
  · rw [if_pos c, if_pos ⟨c.1, by omega⟩]
  · rw [if_neg c, if_neg]
    rintro ⟨z1, z2 | ⟨z2, z3⟩⟩
    · exact c ⟨z1, Or.inl z2⟩
    · by_cases cj : j = t
      · subst cj; exact hd z2
      · exact c ⟨z1, Or.inr ⟨z2, by omega⟩⟩
theorem pyI_give {K : cK} {N ch : Nat → Nat} {t : Nat} {X : Nat → Int32} (b2 : N 2 ≤ 4) (ht : t < N 2) (h : pyI N ch (ch t / 15) t X) (hg : ch t / 5 % 3 < 3) : pyI N ch (ch t / 15) (t + 1) (s_stl K X (ch t / 5 % 3) t (ch t % 5) 0) := by
  unfold s_stl
  rw [if_pos rfl]
  refine ⟨fun j hj => ?_, fun p hp => ?_⟩
  · rw [upd_at, if_neg (by omega), upd_at]
    by_cases cj : j = t
    · subst cj
      rw [if_pos rfl, if_pos ⟨ht, Or.inr ⟨rfl, by omega⟩⟩]
    · rw [if_neg cj, h.1 j hj]
      by_cases c : j < N 2 ∧ (ch j / 15 < ch t / 15 ∨ (ch j / 15 = ch t / 15 ∧ j < t))
      · rw [if_pos c, if_pos ⟨c.1, by omega⟩]
      · rw [if_neg c, if_neg]
        rintro ⟨z1, z2 | ⟨z2, z3⟩⟩
        · exact c ⟨z1, Or.inl z2⟩
        · exact c ⟨z1, Or.inr ⟨z2, by omega⟩⟩
  · rw [upd_at, if_neg (by omega), upd_at, if_neg (by omega)]
    exact h.2 p hp
theorem pyI_next {N ch : Nat → Nat} {d : Nat} {X : Nat → Int32} (h : pyI N ch d (N 2) X) : pyI N ch (d + 1) 0 X := by
  refine ⟨fun j hj => ?_, h.2⟩
  rw [h.1 j hj]
  by_cases c : j < N 2 ∧ (ch j / 15 < d ∨ (ch j / 15 = d ∧ j < N 2))
  · rw [if_pos c, if_pos ⟨c.1, by omega⟩]
  · rw [if_neg c, if_neg (by omega)]
theorem pyI_rowH {N ch : Nat → Nat} {d t : Nat} {X : Nat → Int32} (h : pyI N ch d t X) (hp : ∀ j, j < N 2 → ch j % 5 < N 3) : rowH N X := by
  intro j hj
  rw [h.1 j hj]
  by_cases c : j < N 2 ∧ (ch j / 15 < d ∨ (ch j / 15 = d ∧ j < t))
  · rw [if_pos c]; exact Or.inr ⟨_, hp j c.1, rfl⟩
  · rw [if_neg c]; exact Or.inl rfl
section GVN
variable {T D m M : Nat} {c4 : sF} {u : mU} {v : mV} {N : Nat → Nat} {ch : Nat → Nat}
theorem ref_gv19 {d : Nat} (ho : okTD T D) (hMs : mSh (SH T D (fR M) c4 m) M) (hM : 88 ≤ M) (h : relC u T M N) (hd : d < N 0) (hw : ∀ j, j < N 2 → ch j < 105 ∧ u 82 j = nI (ch j)) (hi : ∀ j, j < N 2 → ch j / 5 % 3 < N 5 ∧ ch j % 5 < N 3) : ∀ (r t f : Nat) (X : Nat → Int32), t + r = N 2 → r < f → pyI N ch d t X → (∃ X', pyI N ch (d + 1) 0 X' ∧ (∀ j, t ≤ j → j < N 2 → ch j / 15 = d → stS (col u M) ch (N 2) j = true) ∧ ∀ kk, L_X12_areGiven_19 kk f 75 (nI d) (nI t) (Rep (SH T D (fR M) c4 m) (put u 78 X) v) = kk 75 (nI d) (Rep (SH T D (fR M) c4 m) (put u 78 X') v)) ∨ (∃ X' j, j < N 2 ∧ stS (col u M) ch (N 2) j = false ∧ ∀ kk, L_X12_areGiven_19 kk f 75 (nI d) (nI t) (Rep (SH T D (fR M) c4 m) (put u 78 X) v) = some (0, Rep (SH T D (fR M) c4 m) (put u 78 X') v)) := by
  have hb := bndN_of h.1
  have b0 : N 0 ≤ 7 := hb.1
  have b2 : N 2 ≤ 4 := hb.2.2.1
  have b3 : N 3 ≤ 5 := hb.2.2.2.1
  have b5 : N 5 ≤ 3 := hb.2.2.2.2.2.1
  have m2 : ∀ X, put u 78 X M 2 = nI (N 2) := fun X => ((put_relC (f := X) ho hM (Or.inl rfl) h).1 2 (by decide)).2.1
  intro r
  induction r with
  | zero =>
    intro t f X ht hf hX
    obtain ⟨f, rfl⟩ : ∃ f', f = f' + 1 := ⟨f - 1, by omega⟩
    have c : nI (N 2) ≤ nI t := nI_le (by omega) (by omega)
    have ht' : t = N 2 := by omega
    refine Or.inl ⟨X, pyI_next (by rw [← ht']; exact hX), fun j h1 h2 => absurd h2 (by omega), fun kk => ?_⟩
    rw [L_X12_areGiven_19, gR_75_3, Option.bind_some, mI_2 hMs, m2, Option.bind_some, if_pos c]
  | succ r ih =>
    intro t f X ht hf hX
    obtain ⟨f, rfl⟩ : ∃ f', f = f' + 1 := ⟨f - 1, by omega⟩
    have c : ¬ nI (N 2) ≤ nI t := nI_ge (by omega) (by omega)
    have ht2 : t < N 2 := by omega
    have ht4 : t < 4 := by omega
    obtain ⟨w1, w2⟩ := hw t ht2
    obtain ⟨i1, i2⟩ := hi t ht2
    have w31 : ch t < 2 ^ 31 := by omega
    have e82 : ∀ X, put u 78 X 82 t = nI (ch t) := fun X => by rw [put_ne (by decide)]; exact w2
    have pd : (nI (ch t / 15) = nI d) = (ch t / 15 = d) := propext (nI_eq (by omega) (by omega))
    by_cases cd : ch t / 15 = d
    · have hX' := hX
      rw [← cd] at hX'
      have hH : rowH N (put u 78 X 78) := by rw [put_at]; exact pyI_rowH hX (fun j hj => (hi j hj).2)
      have e2 := ref_out (v := v) (b := 78) (g := ch t / 5 % 3) (t := t) (p := ch t % 5) (d := d) hMs wS_78 (put_relC (f := X) ho hM (Or.inl rfl) h) hH i1 ht2 i2 (by omega)
      rw [put_col hM (by decide), put_at] at e2
      have ez := out_hd (K := col u M) b2 ht2 (fun j hj => (hw j hj).1) hX'
      rw [cd] at ez
      cases cs : stS (col u M) ch (N 2) t with
      | true =>
        rw [cs] at ez
        have ez : s_out (col u M) X (ch t / 5 % 3) t (ch t % 5) d = 0 := ez.mpr rfl
        have e3 := mod_does (u := put u 78 X) (v := v) (p := nI (ch t % 5)) (o := 0) hMs wS_78 (show M + 1 ≠ 78 by omega) (show ch t / 5 % 3 < 3 by omega) ht4
        rw [show m_honour (put u 78 X) M t = s_hon (col (put u 78 X) M) t from rfl, put_col hM (by decide), stl_s, put_at] at e3
        have e4 : (fun q j => if q = 78 then s_stl (col u M) X (ch t / 5 % 3) t (ch t % 5) 0 j else put u 78 X q j) = put u 78 (s_stl (col u M) X (ch t / 5 % 3) t (ch t % 5) 0) := by
          funext q j
          unfold put
          by_cases hq : q = 78
          · rw [if_pos hq, if_pos hq]
          · rw [if_neg hq, if_neg hq, if_neg hq]
        rw [e4] at e3
        have hX2 := pyI_give (K := col u M) b2 ht2 hX' (by omega)
        rw [cd] at hX2
        have hstep : ∀ kk, L_X12_areGiven_19 kk (f + 1) 75 (nI d) (nI t) (Rep (SH T D (fR M) c4 m) (put u 78 X) v) = L_X12_areGiven_19 kk f 75 (nI d) (nI (t + 1)) (Rep (SH T D (fR M) c4 m) (put u 78 (s_stl (col u M) X (ch t / 5 % 3) t (ch t % 5) 0)) v) := by
          intro kk
          simp -implicitDefEqProofs only [L_X12_areGiven_19, gR_75_3, Option.bind_some, mI_2 hMs, m2, c, if_false, gR_75_22, gR_75_16, aI_82 ht4, e82, w_day w31, w_giver w31, w_person w31, pd, cd, if_true, e2, ez, e3, nI_1]
        rcases ih (t + 1) f _ (by omega) (by omega) hX2 with ⟨X', q1, q2, q3⟩ | ⟨X', j, q1, q2, q3⟩
        · refine Or.inl ⟨X', q1, fun j h1 h2 h3 => ?_, fun kk => by rw [hstep, q3]⟩
          by_cases cj : j = t
          · rw [cj]; exact cs
          · exact q2 j (by omega) h2 h3
        · exact Or.inr ⟨X', j, q1, q2, fun kk => by rw [hstep, q3]⟩
      | false =>
        rw [cs] at ez
        have ez : ¬ s_out (col u M) X (ch t / 5 % 3) t (ch t % 5) d = 0 := fun z => absurd (ez.mp z) (by decide)
        refine Or.inr ⟨X, t, ht2, cs, fun kk => ?_⟩
        simp -implicitDefEqProofs only [L_X12_areGiven_19, gR_75_3, Option.bind_some, mI_2 hMs, m2, c, if_false, gR_75_22, gR_75_16, aI_82 ht4, e82, w_day w31, w_giver w31, w_person w31, pd, cd, if_true, e2, ez]
    · have hstep : ∀ kk, L_X12_areGiven_19 kk (f + 1) 75 (nI d) (nI t) (Rep (SH T D (fR M) c4 m) (put u 78 X) v) = L_X12_areGiven_19 kk f 75 (nI d) (nI (t + 1)) (Rep (SH T D (fR M) c4 m) (put u 78 X) v) := by
        intro kk
        simp -implicitDefEqProofs only [L_X12_areGiven_19, gR_75_3, Option.bind_some, mI_2 hMs, m2, c, if_false, gR_75_22, aI_82 ht4, e82, w_day w31, pd, cd, nI_1]
      rcases ih (t + 1) f _ (by omega) (by omega) (pyI_skip hX cd) with ⟨X', q1, q2, q3⟩ | ⟨X', j, q1, q2, q3⟩
      · refine Or.inl ⟨X', q1, fun j h1 h2 h3 => ?_, fun kk => by rw [hstep, q3]⟩
        by_cases cj : j = t
        · rw [cj] at h3; exact absurd h3 cd
        · exact q2 j (by omega) h2 h3
      · exact Or.inr ⟨X', j, q1, q2, fun kk => by rw [hstep, q3]⟩
theorem ref_gv6 (ho : okTD T D) (hMs : mSh (SH T D (fR M) c4 m) M) (hM : 88 ≤ M) (h : relC u T M N) (hw : ∀ j, j < N 2 → ch j < 105 ∧ u 82 j = nI (ch j)) (hi : ∀ j, j < N 2 → ch j / 5 % 3 < N 5 ∧ ch j % 5 < N 3) : ∀ (r d f : Nat) (X : Nat → Int32), d + r = N 0 → r < f → pyI N ch d 0 X → (∃ X', (∀ j, j < N 2 → d ≤ ch j / 15 → ch j / 15 < N 0 → stS (col u M) ch (N 2) j = true) ∧ L_X12_areGiven_6 f 75 (nI d) (Rep (SH T D (fR M) c4 m) (put u 78 X) v) = some (1, Rep (SH T D (fR M) c4 m) (put u 78 X') v)) ∨ (∃ X' j, j < N 2 ∧ stS (col u M) ch (N 2) j = false ∧ L_X12_areGiven_6 f 75 (nI d) (Rep (SH T D (fR M) c4 m) (put u 78 X) v) = some (0, Rep (SH T D (fR M) c4 m) (put u 78 X') v)) := by
  have hb := bndN_of h.1
  have b0 : N 0 ≤ 7 := hb.1
  have b2 : N 2 ≤ 4 := hb.2.2.1
  have m0 : ∀ X, put u 78 X M 0 = nI (N 0) := fun X => ((put_relC (f := X) ho hM (Or.inl rfl) h).1 0 (by decide)).2.1
  intro r
  induction r with
  | zero =>
    intro d f X hd hf hX
    obtain ⟨f, rfl⟩ : ∃ f', f = f' + 1 := ⟨f - 1, by omega⟩
    have c : nI (N 0) ≤ nI d := nI_le (by omega) (by omega)
    refine Or.inl ⟨X, fun j h1 h2 h3 => absurd h3 (by omega), ?_⟩
    rw [L_X12_areGiven_6, gR_75_3, Option.bind_some, mI_0 hMs, m0, Option.bind_some, if_pos c]
  | succ r ih =>
    intro d f X hd hf hX
    obtain ⟨f, rfl⟩ : ∃ f', f = f' + 1 := ⟨f - 1, by omega⟩
    have c : ¬ nI (N 0) ≤ nI d := nI_ge (by omega) (by omega)
    have q := ref_gv19 (v := v) ho hMs hM h (show d < N 0 by omega) hw hi (N 2) 0 1000000000 X (by omega) (by omega) hX
    rw [nI_0] at q
    rw [L_X12_areGiven_6, gR_75_3, Option.bind_some, mI_0 hMs, m0, Option.bind_some, if_neg c]
    rcases q with ⟨X', q1, q2, q3⟩ | ⟨X', j, q1, q2, q3⟩
    · rw [q3, nI_1]
      rcases ih (d + 1) f X' (by omega) (by omega) q1 with ⟨X2, p1, p2⟩ | ⟨X2, j, p1, p2, p3⟩
      · refine Or.inl ⟨X2, fun j h1 h2 h3 => ?_, p2⟩
        by_cases cj : ch j / 15 = d
        · exact q2 j (by omega) h1 cj
        · exact p1 j h1 (by omega) h3
      · exact Or.inr ⟨X2, j, p1, p2, p3⟩
    · exact Or.inr ⟨X', j, q1, q2, q3 _⟩
theorem pyI_0 {X : Nat → Int32} : pyI N ch 0 0 (rowZ X) := by
  refine ⟨fun j hj => ?_, fun p hp => ?_⟩
  · unfold rowZ
    rw [if_pos (by omega), if_pos hj, if_neg (by omega)]
  · unfold rowZ
    rw [if_pos (by omega), if_neg (by omega)]
theorem ref_given (ho : okTD T D) (hMs : mSh (SH T D (fR M) c4 m) M) (hM : 88 ≤ M) (h : relC u T M N) (hw : ∀ j, j < N 2 → ch j < 105 ∧ u 82 j = nI (ch j)) (hi : ∀ j, j < N 2 → ch j / 15 < N 0 ∧ ch j / 5 % 3 < N 5 ∧ ch j % 5 < N 3) (X : Nat → Int32) : ∃ X', f_X12_areGiven (Rep (SH T D (fR M) c4 m) (put u 78 X) v) 75 = some (bI (alD (stS (col u M) ch (N 2)) (N 2)), Rep (SH T D (fR M) c4 m) (put u 78 X') v) := by
  have b0 : N 0 ≤ 7 := (bndN_of h.1).1
  have e1 := ref_starts (T := T) (D := D) (c3 := fR M) (c4 := c4) (m := m) (u := put u 78 X) (v := v)
  rw [put_at, put_put] at e1
  have q := ref_gv6 (v := v) ho hMs hM h hw (fun j hj => (hi j hj).2) (N 0) 0 1000000000 (rowZ X) (by omega) (by omega) pyI_0
  rw [nI_0] at q
  unfold f_X12_areGiven
  rw [gC_75, Option.bind_some, e1, Option.bind_some]
  rcases q with ⟨X', q1, q2⟩ | ⟨X', j, q1, q2, q3⟩
  · refine ⟨X', ?_⟩
    rw [q2, (alD_iff (N 2)).mpr (fun j hj => q1 j hj (by omega) (hi j hj).1)]
    rfl
  · refine ⟨X', ?_⟩
    have : alD (stS (col u M) ch (N 2)) (N 2) = false := by
      cases ca : alD (stS (col u M) ch (N 2)) (N 2) with
      | false => rfl
      | true =>
        have := (alD_iff (N 2)).mp ca j q1
        rw [q2] at this
        cases this
    rw [q3, this]
    rfl
end GVN
