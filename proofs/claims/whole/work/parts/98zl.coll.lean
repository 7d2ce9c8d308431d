/-! ===== a college is told: both runs ===== -/
theorem q_b2_bind {α β γ : Type} {x : Option (α × β)} {f : β → Option γ} : (q_b2 x fun _ g => some g).bind f = q_b2 x fun _ g => f g := by
  cases x with
  | none => rfl
  | some p => rfl
theorem Rep_arr {sh : mS} {u u' : mU} {v v' : mV} {q k n : Nat} (hs : sh q = some (hA k n)) (h : Rep sh u v = Rep sh u' v') : u q = u' q := by
  have h1 := congrFun h q
  unfold Rep at h1
  rw [hs] at h1
  have h2 : some (Sum.inl (k, n, Sum.inl (u q)) : qE) = some (Sum.inl (k, n, Sum.inl (u' q))) := h1
  injection h2 with h3
  injection h3 with h4
  injection h4 with _ h5
  injection h5 with _ h6
  injection h6
section COL
variable {T D m T2 D2 m2 M : Nat} {c3 c4 c3b c4b : sF} {u ub wm : mU} {v vb zm : mV} {L a n : Nat}
theorem rd_both (ho : okTD T D) (hMs : mSh (SH T2 D2 c3b (fR M) m2) M) (hM : 88 ≤ M) (hL : L ≤ 1000) (h6 : ub 1 6 = nI L) (h7 : wm 75 7 = nI L) (hb : ∀ i, i < L → ub 2 i = wm 76 i ∧ byt (ub 2 i)) (h8 : ub 1 8 = 0) (h9 : ub 1 9 = 0) (m8 : wm 75 8 = 0) (m9 : wm 75 9 = 0) (hZ : JZ ub wm D M) : RDO T D m c3 c4 T2 D2 m2 M c3b ub wm (q_b2 (f_X6_take (Rep (SH T D c3 c4 m) ub vb) 1 0) fun _ g12 => L_X6_read_7 1000000000 1 0 g12) ((f_X12_goesOn (Rep (SH T2 D2 c3b (fR M) m2) wm zm) 75).bind fun g13 => f_X12_readAll g13 75) := by
  have hD : D = 54 ∨ D = 3 := by rcases ho with ⟨rfl, rfl⟩ | ⟨rfl, rfl⟩ <;> simp
  obtain ⟨uc, vc, um, vm, s, k, l, x, q1, q2, q3, q4, q5, q6, q7, q8, q9, q10⟩ := adv0 (T := T) (D := D) (c3 := c3) (c4 := c4) (m := m) (T2 := T2) (D2 := D2) (c3b := c3b) (M := M) (m2 := m2) (vc := vb) (vm := zm) (a := 0) (y := 0) hL h6 h7 hb (Nat.zero_le _) (by rw [h8, h9]; decide) (by rw [m8, nI_0]) (by rw [m9]; decide)
  have hZ' : JZ uc um D M := by
    obtain ⟨z0, z5, z10, z16, z18⟩ := hZ
    unfold JZ
    rw [cfT_q q7 (show D + 20 ≠ 1 by omega), cfT_q q7 (show D + 16 ≠ 1 by omega), cfT_q q7 (show D + 18 ≠ 1 by omega), cfT_5 q7, mfT_q q9 (show M ≠ 75 by omega)]
    exact ⟨z0, z5, z10, z16, z18⟩
  have e := rd_all (T := T) (D := D) (m := m) (c3 := c3) (c4 := c4) (L := L) ho hMs hM 1001 0 1000000000 1000000000 uc vc um vm s k l x (by omega) (by omega) (by omega) (by omega) q3 (Or.inl hZ')
  rw [nI_0] at e
  have eA : f_X12_readAll (Rep (SH T2 D2 c3b (fR M) m2) um vm) 75 = L_X12_readAll_2 kLst 1000000000 75 1 (Rep (SH T2 D2 c3b (fR M) m2) um vm) := by
    unfold f_X12_readAll
    rw [gC_75, Option.bind_some]
  rw [q1, q_b2_some, q2, Option.bind_some, eA]
  exact RDO_lift (rdC_T q7) (rdM_T q9) (cfT_13 q7) (mfT_12 q9) e
/-- what the class's reader begins with -/
def bgU (u : mU) (D a : Nat) : mU := wr (wr (wr (wr (wr (wr (wr (tF (tF (tF u (D + 20) (1 * 10) 0) (D + 16) (5 * 7) (-2)) (D + 18) (3 * 7) (-2)) 1 1 0) 1 6 (nI a)) 1 5 0) 1 13 0) 1 14 0) 1 8 0) 1 9 0
theorem mn_nI (h : a ≤ 1000) : q_mn (nI a) (nI 1000) = nI a := by
  unfold q_mn
  rw [if_neg (nI_nlt h (by omega))]
theorem cls_read (ho : okTD T D) (h : a ≤ 1000) : f_X6_read (Rep (SH T D c3 c4 m) u v) 1 (nI a) = q_b2 (f_X6_take (Rep (SH T D c3 c4 m) (bgU u D a) v) 1 0) fun _ g12 => L_X6_read_7 1000000000 1 0 g12 := by
  have hCt := SH_draft (c3 := c3) (c4 := c4) (m := m) ho
  unfold f_X6_read f_X6_begin f_X3_clear
  rw [gC_1, Option.bind_some, Option.bind_some, gR_1_2, Option.bind_some, cC hCt, Option.bind_some, cR_9 hCt, Option.bind_some, tab_fill hCt.2.2.2.2.2.2.2.2.2.2, Option.bind_some, cR_7 hCt, Option.bind_some, tab_fill hCt.2.2.2.2.2.2.2.2.1, Option.bind_some, cR_8 hCt, Option.bind_some, tab_fill hCt.2.2.2.2.2.2.2.2.2.1, Option.bind_some, Option.bind_some, pI_1_1, Option.bind_some, gR_1_0, Option.bind_some, an_2, Option.bind_some, mn_nI h, pI_1_6, Option.bind_some, pI_1_5, Option.bind_some, pI_1_13, Option.bind_some, pI_1_14, Option.bind_some, pI_1_8, Option.bind_some, pI_1_9, Option.bind_some, q_b2_bind]
  rfl
theorem bgU_q {q : Nat} (h1 : q ≠ 1) (h2 : q ≠ D + 20) (h3 : q ≠ D + 16) (h4 : q ≠ D + 18) : bgU u D a q = u q := by
  unfold bgU
  rw [wr_off h1, wr_off h1, wr_off h1, wr_off h1, wr_off h1, wr_off h1, wr_off h1]
  funext j
  unfold tF
  rw [if_neg (fun z => h4 z.1), if_neg (fun z => h3 z.1), if_neg (fun z => h2 z.1)]
theorem bgU_cnt (hD : D = 54 ∨ D = 3) {c : Nat} (hc : c < 10) : bgU u D a (D + 20) c = 0 := by
  unfold bgU
  rw [wr_role (by omega), wr_role (by omega), wr_role (by omega), wr_role (by omega), wr_role (by omega), wr_role (by omega), wr_role (by omega)]
  unfold tF
  rw [if_neg (by omega), if_neg (by omega), if_pos ⟨rfl, by omega⟩]
theorem bgU_ride (hD : D = 54 ∨ D = 3) {j : Nat} (hj : j < 35) : bgU u D a (D + 16) j = -2 := by
  unfold bgU
  rw [wr_role (by omega), wr_role (by omega), wr_role (by omega), wr_role (by omega), wr_role (by omega), wr_role (by omega), wr_role (by omega)]
  unfold tF
  rw [if_neg (by omega), if_pos ⟨rfl, by omega⟩]
theorem bgU_take (hD : D = 54 ∨ D = 3) {j : Nat} (hj : j < 21) : bgU u D a (D + 18) j = -2 := by
  unfold bgU
  rw [wr_role (by omega), wr_role (by omega), wr_role (by omega), wr_role (by omega), wr_role (by omega), wr_role (by omega), wr_role (by omega)]
  unfold tF
  rw [if_pos ⟨rfl, by omega⟩]
theorem bgU_1 : bgU u D a 1 1 = 0 ∧ bgU u D a 1 5 = 0 ∧ bgU u D a 1 6 = nI a ∧ bgU u D a 1 8 = 0 ∧ bgU u D a 1 9 = 0 ∧ bgU u D a 1 13 = 0 := by
  unfold bgU
  refine ⟨?_, ?_, ?_, ?_, ?_, ?_⟩
  · rw [wr_ix (by decide), wr_ix (by decide), wr_ix (by decide), wr_ix (by decide), wr_ix (by decide), wr_ix (by decide), wr_same]
  · rw [wr_ix (by decide), wr_ix (by decide), wr_ix (by decide), wr_ix (by decide), wr_same]
  · rw [wr_ix (by decide), wr_ix (by decide), wr_ix (by decide), wr_ix (by decide), wr_ix (by decide), wr_same]
  · rw [wr_ix (by decide), wr_same]
  · rw [wr_same]
  · rw [wr_ix (by decide), wr_ix (by decide), wr_ix (by decide), wr_same]
/-- what the model's reader begins with -/
def mst (z : mU) (a n : Nat) : mU := wr (nwC (wr (wr (wr (wr (wr z 75 0 0) 75 7 (nI a)) 75 6 0) 75 8 0) 75 12 0) n) 75 9 0
theorem mst_q {q : Nat} (h1 : q ≠ 75) (h2 : q < n) : mst u a n q = u q := by
  unfold mst
  rw [wr_off h1, nwC_lo h2, wr_off h1, wr_off h1, wr_off h1, wr_off h1, wr_off h1]
theorem mst_hi {q : Nat} (h1 : n ≤ q) (hn : 88 ≤ n) : mst u a n q = fun _ => 0 := by
  unfold mst
  rw [wr_off (by omega), nwC_hi h1]
theorem mst_75 (hn : 88 ≤ n) : mst u a n 75 6 = 0 ∧ mst u a n 75 7 = nI a ∧ mst u a n 75 8 = 0 ∧ mst u a n 75 9 = 0 ∧ mst u a n 75 12 = 0 := by
  unfold mst
  refine ⟨?_, ?_, ?_, ?_, ?_⟩
  · rw [wr_ix (by decide), nwC_lo (by omega), wr_ix (by decide), wr_ix (by decide), wr_same]
  · rw [wr_ix (by decide), nwC_lo (by omega), wr_ix (by decide), wr_ix (by decide), wr_ix (by decide), wr_same]
  · rw [wr_ix (by decide), nwC_lo (by omega), wr_ix (by decide), wr_same]
  · rw [wr_same]
  · rw [wr_ix (by decide), nwC_lo (by omega), wr_same]
theorem mst_75k {j : Nat} (hn : 88 ≤ n) (h : j ≠ 0 ∧ j ≠ 6 ∧ j ≠ 7 ∧ j ≠ 8 ∧ j ≠ 9 ∧ j ≠ 12) : mst u a n 75 j = u 75 j := by
  unfold mst
  rw [wr_ix h.2.2.2.2.1, nwC_lo (by omega), wr_ix h.2.2.2.2.2, wr_ix h.2.2.2.1, wr_ix h.2.1, wr_ix h.2.2.1, wr_ix h.1]
theorem mk_obj {g : qS} : n_O g (n + 0) 10 [.int 0, .int 0, .int 0, .int 0, .int 0, .int 0, .int 0, .int 0, .int 0, .int 0, .int 0, .null, .null, .null, .null, .null, .null, .null, .null, .null, .null, .null, .null, .null, .null, .null, .null, .null, .null, .null, .null, .null, .null, .null, .null] = some (STk g n 0) := by
  unfold n_O
  refine congrArg some ?_
  funext q
  unfold STk
  by_cases h1 : q = n
  · rw [if_pos h1, h1, Nat.add_zero, va_up_self, fsK_0 (n := n)]
  · rw [if_neg h1, Nat.add_zero, va_up_ne _ _ h1, if_neg (by omega)]
/-- the model's run, up to the end of its reading -/
theorem mod_run {Lt : Nat} {w2 : mU} {z2 : mV} (hn : n = 88 + 25 * m) (h6 : u 75 6 = nI Lt) (hLt : Lt ≤ 1000) (ha : a ≤ Lt) (hY : ((f_X12_goesOn (Rep (SH T2 D2 c3b (fR n) (m + 1)) (mst u a n) (nwL v n)) 75).bind fun g13 => f_X12_readAll g13 75) = some (Rep (SH T2 D2 c3b (fR n) (m + 1)) w2 z2)) : f_X12_college (Rep (SH T2 D2 c3b c4b m) u v) n 75 (nI a) = if w2 75 12 ≤ 0 then (L_X12_college_99 1000000000 75 0 (Rep (SH T2 D2 (fR n) (fR n) (m + 1)) w2 z2)) else some (-1, Rep (SH T2 D2 c3b (fR n) (m + 1)) (wr (wr w2 75 1 4) 75 2 (w2 75 13)) z2) := by
  have e6 : wr u 75 0 0 75 6 = nI Lt := by rw [wr_ix (by decide)]; exact h6
  unfold f_X12_college
  rw [gC_75, Option.bind_some, pI_75_0, Option.bind_some, if_neg (nI_pos (by omega)), gI_75_6, Option.bind_some, e6, if_pos (nI_le ha (by omega)), pI_75_7, Option.bind_some, pI_75_6, Option.bind_some, pI_75_8, Option.bind_some, pI_75_12, Option.bind_some, mk_obj, Option.bind_some, mk_arrs, Option.bind_some, STk_24 hn, pR_75_4, Option.bind_some, pI_75_9, Option.bind_some]
  have e := hY
  unfold mst at e
  rw [← Option.bind_assoc, e, Option.bind_some, gI_75_12, Option.bind_some, gR_75_4, Option.bind_some, pR_75_3, Option.bind_some, pI_75_1, Option.bind_some, gI_75_13, Option.bind_some, wr_ix (show (13 : Nat) ≠ 1 by decide), pI_75_2, Option.bind_some]
end COL
