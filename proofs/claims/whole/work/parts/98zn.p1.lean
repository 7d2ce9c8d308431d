/-! ===== op 1: a college is told ===== -/
/-- the row NOW at the beginning -/
def r77 (w : mU) (i : Nat) : mU := fun q j => if q = 77 ∧ j < i then (if j < 4 then -2 else 0) else w q j
theorem r77_0 {w : mU} : r77 w 0 = w := by
  funext q j
  unfold r77
  rw [if_neg (by omega)]
theorem r77_q {w : mU} {i q : Nat} (h : q ≠ 77) : r77 w i q = w q := funext fun j => if_neg (fun z => h z.1)
theorem r77_wr {w : mU} {i : Nat} {x : Int32} (hx : x = if i < 4 then -2 else 0) : wr (r77 w i) 77 i x = r77 w (i + 1) := by
  funext q j
  show (if q = 77 ∧ j = i then x else (if q = 77 ∧ j < i then (if j < 4 then -2 else 0) else w q j)) = (if q = 77 ∧ j < i + 1 then (if j < 4 then -2 else 0) else w q j)
  by_cases h : q = 77 ∧ j < i + 1
  · rw [if_pos h]
    by_cases h2 : j = i
    · rw [if_pos ⟨h.1, h2⟩, hx, h2]
    · rw [if_neg (fun z => h2 z.2), if_pos (show q = 77 ∧ j < i from ⟨h.1, by omega⟩)]
  · rw [if_neg h, if_neg (fun z : q = 77 ∧ j = i => h ⟨z.1, by omega⟩), if_neg (fun z : q = 77 ∧ j < i => h ⟨z.1, by omega⟩)]
section P1S
variable {T D m T2 D2 m2 n : Nat} {c3 c4 c3b c4b : sF} {u w : mU} {v z : mV} {a : Nat}
theorem coll_99 (hMs : mSh (SH T2 D2 (fR n) c4b m2) n) (hn : 88 ≤ n) : ∀ (r i f : Nat), i + r = 16 → r < f → L_X12_college_99 f 75 (nI i) (Rep (SH T2 D2 (fR n) c4b m2) (r77 w i) z) = some (w n 2, Rep (SH T2 D2 (fR n) c4b m2) (wr (wr (wr (wr (r77 w 16) 75 19 0) 75 20 0) 75 1 0) 75 2 (-1)) z) := by
  intro r
  induction r with
  | zero =>
    intro i f hi hf
    obtain ⟨f, rfl⟩ : ∃ f', f = f' + 1 := ⟨f - 1, by omega⟩
    have hi : i = 16 := by omega
    subst hi
    have e : wr (wr (r77 w 16) 75 19 0) 75 20 0 n 2 = w n 2 := by rw [wr_role (by omega), wr_role (by omega), r77_q (by omega)]
    rw [L_X12_college_99, if_pos (by decide), pI_75_19, Option.bind_some, pI_75_20, Option.bind_some, gR_75_3, Option.bind_some, mI_2 hMs, Option.bind_some, e]
    unfold f_X12_good
    rw [gC_75, Option.bind_some, pI_75_1, Option.bind_some, pI_75_2, Option.bind_some, q_b2_some]
  | succ r ih =>
    intro i f hi hf
    obtain ⟨f, rfl⟩ : ∃ f', f = f' + 1 := ⟨f - 1, by omega⟩
    have c : ¬ (16 : Int32) ≤ nI i := (show ¬ nI 16 ≤ nI i from nI_ge (by omega) (by omega))
    have hs := fun x => Rep_sI (sh := SH T2 D2 (fR n) c4b m2) (u := r77 w i) (v := z) (i := nI i) (x := x) wS_77 (nI_in (show i < 16 by omega) (by decide))
    rw [nI_clamp (by omega)] at hs
    rw [L_X12_college_99, if_neg c, gR_75_15, Option.bind_some]
    by_cases c4 : 4 ≤ i
    · rw [if_pos (show (4 : Int32) ≤ nI i from (show nI 4 ≤ nI i from nI_le c4 (by omega))), hs, Option.bind_some, r77_wr (by rw [if_neg (by omega)]), nI_1]
      exact ih (i + 1) f (by omega) (by omega)
    · rw [if_neg (show ¬ (4 : Int32) ≤ nI i from (show ¬ nI 4 ≤ nI i from nI_ge (by omega) (by omega))), hs, Option.bind_some, r77_wr (by rw [if_pos (by omega)]), nI_1]
      exact ih (i + 1) f (by omega) (by omega)
/-- the two readings of one tape -/
theorem rd_two (ho : okTD T D) (hn : n = 88 + 25 * m) {Lt : Nat} (hLt : Lt ≤ 1000) (ha : a ≤ Lt) (hbt : ∀ i, i < Lt → u 2 i = u 76 i ∧ byt (u 2 i)) (h76 : w 76 = u 76) : RDO T D m c3 c4 T2 D2 (m + 1) n c3b (bgU u D a) (mst w a n) (f_X6_read (Rep (SH T D c3 c4 m) u v) 1 (nI a)) ((f_X12_goesOn (Rep (SH T2 D2 c3b (fR n) (m + 1)) (mst w a n) (nwL z n)) 75).bind fun g13 => f_X12_readAll g13 75) := by
  have hD : D = 54 ∨ D = 3 := by rcases ho with ⟨rfl, rfl⟩ | ⟨rfl, rfl⟩ <;> simp
  have hn88 : 88 ≤ n := by omega
  have hMs : mSh (SH T2 D2 c3b (fR n) (m + 1)) n := by
    have := SH_mod (T := T2) (D := D2) (c3 := c3b) (c4 := fR n) (m := m + 1) (k := m) (by omega)
    rw [show 88 + m * 25 = n by omega] at this
    exact this
  obtain ⟨b1, b5, b6, b8, b9, b13⟩ := bgU_1 (u := u) (D := D) (a := a)
  obtain ⟨s6, s7, s8, s9, s12⟩ := mst_75 (u := w) (a := a) hn88
  rw [cls_read ho (by omega)]
  refine rd_both ho hMs hn88 (by omega) b6 s7 (fun i hi => ?_) b8 b9 s8 s9 ⟨fun c hc => ⟨bgU_cnt hD hc, ?_⟩, b5, ?_, fun j hj => bgU_ride hD hj, fun j hj => bgU_take hD hj⟩
  · rw [bgU_q (by decide) (by omega) (by omega) (by omega), mst_q (by decide) (by omega), h76]
    exact hbt i (by omega)
  · rw [mst_hi (Nat.le_refl _) hn88]
  · rw [mst_hi (Nat.le_refl _) hn88]
end P1S
theorem rd_eq {X : Option (Int32 × qS)} {a b : Int32} {g h : qS} (h1 : X = some (a, g)) (h2 : X = some (b, h)) : a = b ∧ g = h := by
  rw [h1] at h2
  have := Option.some.inj h2
  exact ⟨congrArg Prod.fst this, congrArg Prod.snd this⟩
theorem inj_13 {T D m : Nat} {c3 c4 : sF} {u u' : mU} {v v' : mV} (h : Rep (SH T D c3 c4 m) u v = Rep (SH T D c3 c4 m) u' v') : u 1 13 = u' 1 13 := Option.some.inj ((gI_1_13 (T := T) (D := D) (c3 := c3) (c4 := c4) (m := m) (u := u) (v := v)).symm.trans ((congrArg (fun g => g_I g 1 5 13) h).trans gI_1_13))
theorem inj_14 {T D m : Nat} {c3 c4 : sF} {u u' : mU} {v v' : mV} (h : Rep (SH T D c3 c4 m) u v = Rep (SH T D c3 c4 m) u' v') : u 1 14 = u' 1 14 := Option.some.inj ((gI_1_14 (T := T) (D := D) (c3 := c3) (c4 := c4) (m := m) (u := u) (v := v)).symm.trans ((congrArg (fun g => g_I g 1 5 14) h).trans gI_1_14))
theorem P1 : q_P1c (Inv fPs fQ) := by
  intro g n x1 hI
  obtain ⟨T, D, c3, c4, m, u, v, rfl, hn, ho, h3, h4, ht, hK⟩ := hI
  have hD : (T = 54 ∧ D = 3) ∨ (T = 3 ∧ D = 54) := ho
  have hn88 : 88 ≤ n := by omega
  have hK' := hK
  obtain ⟨⟨hf, Lt, hLt, e1, e6, hbt⟩, hK2⟩ := hK
  unfold lop_1
  by_cases c1 : x1 < 0 ∨ ¬ x1 ≤ nI Lt
  · have k10 : f_X10_college (Rep (SH T D c3 c4 m) u v) 0 x1 = some (-1, Rep (SH T D c3 c4 m) (wr u 0 7 2) v) := by
      unfold f_X10_college f_X6_tapeLength f_X10_refused
      rw [gC_0, Option.bind_some, Option.bind_some, pI_0_7, Option.bind_some, q_b2_some, gR_0_0, Option.bind_some, gC_1, Option.bind_some, gI_1_1, Option.bind_some, Option.bind_some, e1]
      by_cases c2 : x1 < 0
      · rw [if_pos c2]
      · rw [if_neg c2, if_neg (c1.resolve_left c2)]
    have e6' : wr (wr u 0 7 2) 75 0 0 75 6 = nI Lt := by rw [wr_ix (by decide), wr_role (by decide)]; exact e6
    have k12 : f_X12_college (Rep (SH T D c3 c4 m) (wr u 0 7 2) v) n 75 x1 = some (-1, Rep (SH T D c3 c4 m) (wr (wr (wr (wr u 0 7 2) 75 0 0) 75 1 2) 75 2 (-1)) v) := by
      unfold f_X12_college f_X12_refused
      rw [gC_75, Option.bind_some, pI_75_0, Option.bind_some, gC_75, Option.bind_some, pI_75_1, Option.bind_some, pI_75_2, Option.bind_some, q_b2_some, gI_75_6, Option.bind_some, e6']
      by_cases c2 : x1 < 0
      · rw [if_pos c2]
      · rw [if_neg c2, if_neg (c1.resolve_left c2)]
    refine ⟨_, n, by rw [k10, q_b2_some, k12, q_b2_some, if_pos rfl], ?_, Nat.le_refl _, by omega⟩
    rw [hn]
    refine Inv_mk ho h3 h4 hK' (keep_wr (keep_wr (keep_wr (keep_wr keep_refl rfl) rfl) rfl) rfl) (TR_of ?_ (wr_same _ _ _ _) ?_)
    · rw [wr_ix (by decide), wr_same, wr_role (by decide), wr_role (by decide), wr_role (by decide), wr_same]
    · rw [wr_role (by decide), wr_role (by decide), wr_role (by decide), wr_same]; decide
  · have c2 : ¬ x1 < 0 := fun q => c1 (Or.inl q)
    have c3' : x1 ≤ nI Lt := Classical.byContradiction fun q => c1 (Or.inr q)
    obtain ⟨a, ha, rfl⟩ := nI_of2 (nI_toInt (show Lt < 2 ^ 31 by omega)) c2 c3'
    have hMs : ∀ T2 D2 c3b c4b, mSh (SH T2 D2 c3b c4b (m + 1)) n := fun T2 D2 c3b c4b => by
      have := SH_mod (T := T2) (D := D2) (c3 := c3b) (c4 := c4b) (m := m + 1) (k := m) (by omega)
      rw [show 88 + m * 25 = n by omega] at this
      exact this
    have hoC : okC (m + 1) (fR n) := Or.inr ⟨m, by omega, by rw [show 88 + m * 25 = n by omega]⟩
    have hoC3 : okC (m + 1) c3 := by
      rcases h3 with z | ⟨k, hk, z⟩
      · exact Or.inl z
      · exact Or.inr ⟨k, by omega, z⟩
    have hn' : n + 25 = 88 + 25 * (m + 1) := by omega
    have k10 : ∀ X, f_X6_read (Rep (SH T D c3 c4 m) u v) 1 (nI a) = X → f_X10_college (Rep (SH T D c3 c4 m) u v) 0 (nI a) = (q_b2 X fun v7 g6 => if v7 = 0 then (q_b2 (f_X10_refused g6 0 4) fun v26 g25 => some (v26, g25)) else ((g_R g6 0 9 0).bind fun v8 => (g_R g6 0 9 8).bind fun v9 => q_b2 (f_X6_exchange g6 v8 v9) fun v11 g10 => (p_R g10 0 9 8 v11).bind fun g12 => (g_R g12 0 9 1).bind fun v13 => (f_X7_begin g12 v13).bind fun g14 => (g_R g14 0 9 2).bind fun v15 => (f_X4_forgetAll g14 v15).bind fun g16 => (g_R g16 0 9 4).bind fun v17 => (f_X0_forget g16 v17).bind fun g18 => (g_R g18 0 9 5).bind fun v19 => (f_X9_forget g18 v19).bind fun g20 => (g_R g20 0 9 8).bind fun v21 => (f_X3_count g20 v21 2).bind fun v22 => q_b2 (f_X10_fine g20 0 v22) fun v24 g23 => some (v24, g23))) := by
      intro X hX
      unfold f_X10_college f_X6_tapeLength
      rw [gC_0, Option.bind_some, if_neg c2, gR_0_0, Option.bind_some, gC_1, Option.bind_some, gI_1_1, Option.bind_some, Option.bind_some, e1, if_pos (nI_le ha (by omega)), Option.bind_some, hX]
    rcases rd_two (T := T) (D := D) (c3 := c3) (c4 := c4) (T2 := T) (D2 := D) (c3b := c3) (w := u) (v := v) (z := v) ho hn hLt ha hbt rfl with ⟨u1, v1, w0, z0, N0, X1, -, f1, -, -, -⟩ | ⟨u1, v1, w0, z0, X1, -, f1, -, -⟩
    · -- read
      have fq : ∀ q, q ≠ 1 → q ≠ 26 → ¬ (D ≤ q ∧ q ≤ D + 20) → u1 q = u q := fun q a1 a2 a3 => by
        funext j
        rw [f1 q j (fun y => by omega), bgU_q a1 (by omega) (by omega) (by omega)]
      have f11 : u1 1 1 = 0 := by rw [f1 1 1 (fun y => by omega)]; exact bgU_1.1
      have hU : ∃ U1 : mU, U1 = wr (wr (wr (wr (wr (row0 u1 29) 30 3 0) 30 4 0) 41 1 0) 44 2 0) 0 7 0 := ⟨_, rfl⟩
      obtain ⟨U1, hU⟩ := hU
      have Uq : ∀ q, q ≠ 29 → q ≠ 30 → q ≠ 41 → q ≠ 44 → q ≠ 0 → U1 q = u1 q := fun q a1 a2 a3 a4 a5 => by
        rw [hU, wr_off a5, wr_off a4, wr_off a3, wr_off a2, wr_off a2]
        funext j
        exact if_neg (fun y => a1 y.1)
      have U76 : U1 76 = u 76 := by rw [Uq 76 (by decide) (by decide) (by decide) (by decide) (by decide), fq 76 (by decide) (by decide) (by omega)]
      rcases rd_two (T := T) (D := D) (c3 := c3) (c4 := c4) (T2 := D) (D2 := T) (c3b := c3) (w := U1) (v := v) (z := v1) ho hn hLt ha hbt U76 with ⟨u2, v2, w2, z2, N, X2, Y2, f2, g2, ⟨o1, o2⟩, hJ, n2, n3, n5⟩ | ⟨u2, v2, w2, z2, X2, -, -, -, -⟩
      · have hS : Rep (SH T D c3 c4 m) u1 v1 = Rep (SH T D c3 c4 m) u2 v2 := (rd_eq X1 X2).2
        have hCt := SH_draft (c3 := c3) (c4 := c4) (m := m) ho
        have u12 : ∀ r A R C, tSh (SH T D c3 c4 m) r A R C → u1 A = u2 A := fun r A R C hh => Rep_arr hh.2.1 hS
        have a2 := u12 _ _ _ _ hCt.2.1
        have a4 := u12 _ _ _ _ hCt.2.2.1
        have a6 := u12 _ _ _ _ hCt.2.2.2.1
        have a8 := u12 _ _ _ _ hCt.2.2.2.2.1
        have a10 := u12 _ _ _ _ hCt.2.2.2.2.2.1
        have a12 := u12 _ _ _ _ hCt.2.2.2.2.2.2.1
        have a14 := u12 _ _ _ _ hCt.2.2.2.2.2.2.2.1
        have a16 := u12 _ _ _ _ hCt.2.2.2.2.2.2.2.2.1
        have a18 := u12 _ _ _ _ hCt.2.2.2.2.2.2.2.2.2.1
        have a20 := u12 _ _ _ _ hCt.2.2.2.2.2.2.2.2.2.2
        have cN2 : u1 (D + 20) 2 = nI (N 2) := by rw [a20]; exact (hJ.1 2 (by decide)).1
        -- the class's end
        have ho' : okTD D T := hD.elim (fun z => Or.inr ⟨z.2, z.1⟩) (fun z => Or.inl ⟨z.2, z.1⟩)
        have ex : ∀ K : Nat → qS → Option (Int32 × qS), (q_b2 (f_X6_exchange (Rep (SH T D c3 c4 m) u1 v1) 1 T) fun v11 g10 => (p_R g10 0 9 8 v11).bind fun g12 => K v11 g12) = K D (Rep (SH D T c3 c4 m) u1 v1) := by
          intro K
          unfold f_X6_exchange
          rw [gC_1, Option.bind_some, gR_1_2, Option.bind_some, Rep_pR wS_1 (show 2 < 15 by decide), Option.bind_some, q_b2_some, Rep_pR (sh := va_up (SH T D c3 c4 m) 1 _) (r := 0) (show va_up (SH T D c3 c4 m) 1 _ 0 = some (hO 9 [fR 1, fR 27, fR 30, fR 35, fR 41, fR 44, fR 49, fI, fR T]) by rw [va_up_ne _ _ (by decide)]; rfl) (show 8 < 9 by decide), Option.bind_some]
          exact congrArg (fun s => K D (Rep s u1 v1)) SH_ex
        have cq : f_X3_count (Rep (SH D T c3 c4 m) (wr (wr (wr (wr (row0 u1 29) 30 3 0) 30 4 0) 41 1 0) 44 2 0) v1) D 2 = some (nI (N 2)) := by
          have hCt' := SH_told (c3 := c3) (c4 := c4) (m := m) ho'
          unfold f_X3_count
          rw [cC hCt', Option.bind_some, cR_9 hCt', Option.bind_some, cG_9 hCt', Option.bind_some, show (0 : Int32) = nI 0 from nI_0.symm, show (2 : Int32) = nI 2 from rfl, tG_in (by decide) (by decide) (by decide) (by decide), Nat.zero_mul, Nat.zero_add, wr_role (by omega), wr_role (by omega), wr_role (by omega), wr_role (by omega)]
          show some (if D + 20 = 29 ∧ 2 < 16 then _ else u1 (D + 20) 2) = _
          rw [if_neg (by omega), cN2]
        have k10' : f_X10_college (Rep (SH T D c3 c4 m) u v) 0 (nI a) = some (nI (N 2), Rep (SH D T c3 c4 m) U1 v1) := by
          rw [k10 _ X1, q_b2_some, if_neg (by decide), gR_0_0, Option.bind_some, gR_0_8, Option.bind_some, ex, gR_0_1, Option.bind_some, st_begin SH_now, Option.bind_some, gR_0_2, Option.bind_some]
          unfold f_X4_forgetAll f_X0_forget f_X9_forget f_X10_fine
          rw [gC_30, Option.bind_some, pI_30_3, Option.bind_some, pI_30_4, Option.bind_some, Option.bind_some, gR_0_4, Option.bind_some, gC_41, Option.bind_some, pZ0_41_1, Option.bind_some, Option.bind_some, gR_0_5, Option.bind_some, gC_44, Option.bind_some, pZ0_44_2, Option.bind_some, Option.bind_some, gR_0_8, Option.bind_some, cq, Option.bind_some, gC_0, Option.bind_some, pI_0_7, Option.bind_some, q_b2_some, ← hU]
        -- the model's end
        obtain ⟨s6, s7, s8, s9, s12⟩ := mst_75 (u := U1) (a := a) hn88
        have w12 : w2 75 12 = 0 := by rw [o2]; exact s12
        have U6 : U1 75 6 = nI Lt := by rw [Uq 75 (by decide) (by decide) (by decide) (by decide) (by decide), fq 75 (by decide) (by decide) (by omega)]; exact e6
        have k12 := mod_run (T2 := D) (D2 := T) (c3b := c3) (c4b := c4) (v := v1) hn U6 hLt ha Y2
        have k99 := coll_99 (T2 := D) (D2 := T) (m2 := m + 1) (c4b := fR n) (w := w2) (z := z2) (hMs D T (fR n) (fR n)) hn88 16 0 1000000000 (by omega) (by omega)
        rw [r77_0, nI_0] at k99
        have wN2 : w2 n 2 = nI (N 2) := (hJ.1 2 (by decide)).2.1
        rw [w12, if_pos (by decide), k99, wN2] at k12
        refine ⟨Rep (SH D T (fR n) (fR n) (m + 1)) (wr (wr (wr (wr (r77 w2 16) 75 19 0) 75 20 0) 75 1 0) 75 2 (-1)) z2, n + 25, by rw [k10', q_b2_some, k12, q_b2_some, if_pos rfl], ?_, by omega, Nat.le_refl _⟩
        have Wq : ∀ q, q ≠ 75 → q ≠ 77 → wr (wr (wr (wr (r77 w2 16) 75 19 0) 75 20 0) 75 1 0) 75 2 (-1) q = w2 q := fun q b1 b2 => by
          rw [wr_off b1, wr_off b1, wr_off b1, wr_off b1, r77_q b2]
        have Vq : ∀ q, q ≠ 75 → q < n → w2 q = U1 q := fun q b1 b2 => by
          funext j
          rw [g2 q j (fun y => by omega), mst_q b1 b2]
        have Zq : ∀ q, q ≠ 75 → q ≠ 77 → q < n → wr (wr (wr (wr (r77 w2 16) 75 19 0) 75 20 0) 75 1 0) 75 2 (-1) q = U1 q := fun q b1 b2 b3 => by rw [Wq q b1 b2, Vq q b1 b3]
        have DA : ∀ i, i ≤ 20 → u1 (D + i) = u2 (D + i) → wr (wr (wr (wr (r77 w2 16) 75 19 0) 75 20 0) 75 1 0) 75 2 (-1) (D + i) = u2 (D + i) := fun i hi e => by
          rw [Zq _ (by omega) (by omega) (by omega), Uq _ (by omega) (by omega) (by omega) (by omega) (by omega), e]
        have MA : ∀ i, wr (wr (wr (wr (r77 w2 16) 75 19 0) 75 20 0) 75 1 0) 75 2 (-1) (n + i) = w2 (n + i) := fun i => Wq _ (by omega) (by omega)
        have hrel : relC (wr (wr (wr (wr (r77 w2 16) 75 19 0) 75 20 0) 75 1 0) 75 2 (-1)) D n N := by
          refine J1_rel ?_
          obtain ⟨j0, j1, j2, j3, j4, j5, j6, j7, j8, j9, j10⟩ := hJ
          refine ⟨?_, cg_Thing (DA 2 (by omega) a2) (MA 1) (MA 2) rfl j1, cg_Pers (DA 4 (by omega) a4) (MA 5) (MA 6) (MA 7) rfl j2, cg_Tram (DA 6 (by omega) a6) (MA 9) (MA 10) rfl j3, cg_Givr (DA 8 (by omega) a8) (MA 11) rfl j4, cg_Ride (DA 16 (by omega) a16) (MA 8) (Nat.le_refl _) j5, cg_Take (DA 18 (by omega) a18) (MA 12) (Nat.le_refl _) j6, cg_Gift (DA 10 (by omega) a10) (MA 13) (MA 14) (MA 15) (MA 16) rfl (fun _ => Nat.le_refl _) j7, cg_Fnd (DA 12 (by omega) a12) (MA 3) (MA 4) rfl (fun _ => Nat.le_refl _) j8, cg_Exam (DA 14 (by omega) a14) (MA 17) (MA 18) (MA 19) (MA 20) (MA 21) rfl (fun _ => Nat.le_refl _) j9, j10⟩
          intro c hc
          rw [DA 20 (by omega) a20, show wr (wr (wr (wr (r77 w2 16) 75 19 0) 75 20 0) 75 1 0) 75 2 (-1) n = w2 n from MA 0]
          exact j0 c hc
        have h29 : ∀ j, j < 16 → wr (wr (wr (wr (r77 w2 16) 75 19 0) 75 20 0) 75 1 0) 75 2 (-1) 29 j = if j < 4 then -2 else 0 := fun j hj => by
          rw [Zq 29 (by decide) (by decide) (by omega), hU, wr_role (by decide), wr_role (by decide), wr_role (by decide), wr_role (by decide), wr_role (by decide)]
          exact if_pos ⟨rfl, hj⟩
        have h77 : ∀ j, j < 16 → wr (wr (wr (wr (r77 w2 16) 75 19 0) 75 20 0) 75 1 0) 75 2 (-1) 77 j = if j < 4 then -2 else 0 := fun j hj => by
          rw [wr_role (by decide), wr_role (by decide), wr_role (by decide), wr_role (by decide)]
          exact if_pos ⟨rfl, hj⟩
        have hN0 : 2 ≤ N 0 := hJ.2.2.2.2.2.2.2.2.2.2
        have b3 : N 3 ≤ 5 := (hJ.1 3 (by decide)).2.2
        have h30 : ∃ ah, ah < 16 ∧ u 30 2 = nI ah := by
          rcases hK2 with ⟨-, hN⟩ | ⟨k, N', -, -, hA, -⟩
          · exact hN.2.2.2.2
          · obtain ⟨ah, k', q', p1, -, -, p2, -⟩ := hA.2.2.2.2
            exact ⟨ah, p1, p2⟩
        obtain ⟨ah, hah, eah⟩ := h30
        have u30 : u1 30 = u 30 := fq 30 (by decide) (by decide) (by omega)
        refine ⟨D, T, fR n, fR n, m + 1, _, z2, rfl, hn', ho', hoC, hoC, TR_of ?_ (wr_same _ _ _ _) ?_, ⟨?_, 0, by decide, ?_, ?_, fun i hi => absurd hi (Nat.not_lt_zero i)⟩, Or.inr ⟨m, N, by omega, by rw [show 88 + m * 25 = n by omega], ?_, ?_⟩⟩
        · rw [wr_ix (by decide), wr_same, Zq 0 (by decide) (by decide) (by omega), hU, wr_same]
        · rw [Zq 0 (by decide) (by decide) (by omega), hU, wr_same]; decide
        · rw [Zq 1 (by decide) (by decide) (by omega), Uq 1 (by decide) (by decide) (by decide) (by decide) (by decide), wr_ix (by decide), wr_ix (by decide), wr_ix (by decide), wr_ix (by decide), r77_q (by decide), w12]
          rw [inj_13 hS, o1]
          exact bgU_1.2.2.2.2.2
        · rw [Zq 1 (by decide) (by decide) (by omega), Uq 1 (by decide) (by decide) (by decide) (by decide) (by decide), f11, nI_0]
        · rw [wr_ix (by decide), wr_ix (by decide), wr_ix (by decide), wr_ix (by decide), r77_q (by decide), g2 75 6 (fun y => by omega), s6, nI_0]
        · rw [show 88 + m * 25 = n by omega]
          refine ⟨hrel, ⟨hN0, n2, n3, n5⟩, fun j hj => by rw [h29 j hj, h77 j hj], ⟨fun t ht => Or.inl (by rw [h29 t (by omega), if_pos ht]), fun p hp => ?_, 0, by omega, by rw [h29 15 (by decide), if_neg (by decide), nI_0]⟩, ⟨ah, 0, 0, hah, by decide, by decide, ?_, ?_, ?_, ?_, ?_, fun i hi => absurd hi (Nat.not_lt_zero i), fun i hi => absurd hi (Nat.not_lt_zero i)⟩⟩
          · obtain ⟨r, hr, er⟩ := room_at hrel hp
            exact ⟨0, r, Nat.zero_le _, hr, by rw [h29 (4 + p) (by omega), if_neg (by omega), nI_0], er⟩
          · rw [Zq 30 (by decide) (by decide) (by omega), hU, wr_role (by decide), wr_role (by decide), wr_role (by decide), wr_ix (by decide), wr_ix (by decide)]
            show (if (30 : Nat) = 29 ∧ 2 < 16 then _ else u1 30 2) = nI ah
            rw [if_neg (by decide), u30, eah]
          · rw [Zq 30 (by decide) (by decide) (by omega), hU, wr_role (by decide), wr_role (by decide), wr_role (by decide), wr_ix (by decide), wr_same, nI_0]
          · rw [wr_ix (by decide), wr_ix (by decide), wr_ix (by decide), wr_same, nI_0]
          · rw [Zq 30 (by decide) (by decide) (by omega), hU, wr_role (by decide), wr_role (by decide), wr_role (by decide), wr_same, nI_0]
          · rw [wr_ix (by decide), wr_ix (by decide), wr_same, nI_0]
        · refine ⟨Or.inl ?_, Or.inl ?_⟩
          · rw [Zq 41 (by decide) (by decide) (by omega), hU, wr_role (by decide), wr_role (by decide), wr_same]
          · rw [Zq 44 (by decide) (by decide) (by omega), hU, wr_role (by decide), wr_same]
      · exfalso
        exact absurd (rd_eq X1 X2).1 (by decide)
    · -- a fault
      have fq : ∀ q, q ≠ 1 → q ≠ 26 → ¬ (D ≤ q ∧ q ≤ D + 20) → u1 q = u q := fun q a1 a2 a3 => by
        funext j
        rw [f1 q j (fun y => by omega), bgU_q a1 (by omega) (by omega) (by omega)]
      have f11 : u1 1 1 = 0 := by rw [f1 1 1 (fun y => by omega)]; exact bgU_1.1
      have U76 : wr u1 0 7 4 76 = u 76 := by rw [wr_off (by decide), fq 76 (by decide) (by decide) (by omega)]
      rcases rd_two (T := T) (D := D) (c3 := c3) (c4 := c4) (T2 := T) (D2 := D) (c3b := c3) (w := wr u1 0 7 4) (v := v) (z := v1) ho hn hLt ha hbt U76 with ⟨u2, v2, w2, z2, N, X2, -⟩ | ⟨u2, v2, w2, z2, X2, Y2, f2, g2, nf, sf, d0, d0', d1, d2, d3, d4, d5⟩
      · exfalso
        exact absurd (rd_eq X1 X2).1 (by decide)
      · have hS : Rep (SH T D c3 c4 m) u1 v1 = Rep (SH T D c3 c4 m) u2 v2 := (rd_eq X1 X2).2
        have k10' : f_X10_college (Rep (SH T D c3 c4 m) u v) 0 (nI a) = some (-1, Rep (SH T D c3 c4 m) (wr u1 0 7 4) v1) := by
          rw [k10 _ X1, q_b2_some, if_pos rfl]
          unfold f_X10_refused
          rw [gC_0, Option.bind_some, pI_0_7, Option.bind_some, q_b2_some]
        have U6 : wr u1 0 7 4 75 6 = nI Lt := by rw [wr_role (by decide), fq 75 (by decide) (by decide) (by omega)]; exact e6
        have k12 := mod_run (T2 := T) (D2 := D) (c3b := c3) (c4b := c4) (v := v1) hn U6 hLt ha Y2
        rw [d2, if_neg (nI_nle (by omega) (by omega))] at k12
        refine ⟨Rep (SH T D c3 (fR n) (m + 1)) (wr (wr w2 75 1 4) 75 2 (w2 75 13)) z2, n + 25, by rw [k10', q_b2_some, k12, q_b2_some, if_pos rfl], ?_, by omega, Nat.le_refl _⟩
        have Zq : ∀ q, q ≠ 75 → q ≠ 0 → q < n → wr (wr w2 75 1 4) 75 2 (w2 75 13) q = u1 q := fun q b1 b2 b3 => by
          rw [wr_off b1, wr_off b1]
          funext j
          rw [g2 q j (fun y => by omega), mst_q b1 b3, wr_role b2]
        have off : ∀ q, q < n → q ≠ 75 → q ≠ 0 → q ≠ 1 → q ≠ 26 → ¬ (D ≤ q ∧ q ≤ D + 20) → wr (wr w2 75 1 4) 75 2 (w2 75 13) q = u q := fun q b1 b2 b3 b4 b5 b6 => by rw [Zq q b2 b3 b1, fq q b4 b5 b6]
        have off75 : ∀ j, j ≠ 0 → j ≠ 1 → j ≠ 2 → j ≠ 6 → j ≠ 7 → ¬ (8 ≤ j ∧ j ≤ 13) → wr (wr w2 75 1 4) 75 2 (w2 75 13) 75 j = u 75 j := fun j b0 b1 b2 b6 b7 b8 => by
          rw [wr_ix b2, wr_ix b1, g2 75 j (fun y => by omega), mst_75k hn88 ⟨b0, b6, b7, by omega, by omega, by omega⟩, wr_role (by decide), fq 75 (by decide) (by decide) (by omega)]
        have h0 : wr (wr w2 75 1 4) 75 2 (w2 75 13) 0 7 = 4 := by
          rw [wr_role (by decide), wr_role (by decide), g2 0 7 (fun y => by omega), mst_q (by decide) (by omega), wr_same]
        have h13 : u1 1 13 = u2 1 13 := inj_13 hS
        have h14 : u1 1 14 = u2 1 14 := inj_14 hS
        have hTB : ∀ i, i < 21 → wr (wr w2 75 1 4) 75 2 (w2 75 13) (T + i) = u (T + i) := fun i hi => off _ (by omega) (by omega) (by omega) (by omega) (by omega) (by omega)
        obtain ⟨s6, s7, s8, s9, s12⟩ := mst_75 (u := wr u1 0 7 4) (a := a) hn88
        refine ⟨T, D, c3, fR n, m + 1, _, z2, rfl, hn', ho, hoC3, hoC, ⟨?_, ?_⟩, ⟨?_, 0, by decide, ?_, ?_, fun i hi => absurd hi (Nat.not_lt_zero i)⟩, ?_⟩
        · rw [h0, wr_ix (by decide), wr_same]
        · rw [h0, if_pos rfl, wr_same, Zq 1 (by decide) (by decide) (by omega), h14, d3, d4]
        · rw [Zq 1 (by decide) (by decide) (by omega), h13, d1, wr_ix (by decide), wr_ix (by decide), d2]
        · rw [Zq 1 (by decide) (by decide) (by omega), f11, nI_0]
        · rw [wr_ix (by decide), wr_ix (by decide), g2 75 6 (fun y => by omega), s6, nI_0]
        · rcases hK2 with ⟨hc, hN⟩ | ⟨k, N', hk, hc, hA, hW⟩
          · refine Or.inl ⟨hc, ?_⟩
            unfold IN at *
            rw [hTB 20 (by decide), off 29 (by omega) (by decide) (by decide) (by decide) (by decide) (by omega), off 30 (by omega) (by decide) (by decide) (by decide) (by decide) (by omega)]
            exact hN
          · have hMk : ∀ i, i < 25 → wr (wr w2 75 1 4) 75 2 (w2 75 13) (88 + k * 25 + i) = u (88 + k * 25 + i) := fun i hi => off _ (by omega) (by omega) (by omega) (by omega) (by omega) (by omega)
            have o : ∀ q, 27 ≤ q → q ≤ 53 → wr (wr w2 75 1 4) 75 2 (w2 75 13) q = u q := fun q b1 b2 => off q (by omega) (by omega) (by omega) (by omega) (by omega) (by omega)
            have o' : ∀ q, 76 ≤ q → q ≤ 87 → wr (wr w2 75 1 4) 75 2 (w2 75 13) q = u q := fun q b1 b2 => off q (by omega) (by omega) (by omega) (by omega) (by omega) (by omega)
            exact Or.inr ⟨k, N', by omega, hc, IA_25 hTB hMk (o 29 (by decide) (by decide)) (o' 77 (by decide) (by decide)) (o 30 (by decide) (by decide)) (o 32 (by decide) (by decide)) (o 34 (by decide) (by decide)) (o' 79 (by decide) (by decide)) (o' 80 (by decide) (by decide)) (off75 19 (by decide) (by decide) (by decide) (by decide) (by decide) (by decide)) (off75 20 (by decide) (by decide) (by decide) (by decide) (by decide) (by decide)) hA, IW_25 hMk (o 41 (by decide) (by decide)) (o 43 (by decide) (by decide)) (o 44 (by decide) (by decide)) (o 48 (by decide) (by decide)) hW⟩
