/-! ===== the plan, of the college's numbers alone: row, outcomes, seed (-1: no draws) ===== -/
abbrev pS : Type := (Nat → Int32) × (Nat → Int32) × Int32
def lcg (s : Int32) : Int32 := ((75 * s) + 74) - ((75 * s) + 74) / 65537 * 65537
def pO (K : cK) (d : Nat) (f : Nat → Int32) (seed : Int32) (g t p : Nat) : Int32 × Int32 :=
  if s_hind K f g t p d = 0 then (if seed = -1 then ((if s_nr K f g t p d ≤ K 0 1 then 0 else 1), seed) else ((if s_nr K f g t p d ≤ lcg seed - lcg seed / 100 * 100 then 0 else 1), lcg seed)) else (s_hind K f g t p d, seed)
def kI (K : cK) (i k : Nat) : Nat := (K i k).toNatClampNeg
def pRun (K : cK) (d k : Nat) (s : pS) : pS := (s_stl K s.1 (kI K 13 k) (kI K 14 k) (kI K 15 k) (pO K d s.1 s.2.2 (kI K 13 k) (kI K 14 k) (kI K 15 k)).1, upd s.2.1 k (pO K d s.1 s.2.2 (kI K 13 k) (kI K 14 k) (kI K 15 k)).1, (pO K d s.1 s.2.2 (kI K 13 k) (kI K 14 k) (kI K 15 k)).2)
def pSt (K : cK) (d k : Nat) (s : pS) : pS := if K 16 k = nI d then pRun K d k s else s
def pDay (K : cK) (n d : Nat) (s : pS) : pS := lp (pSt K d) n 0 s
def rowZ (f : Nat → Int32) : Nat → Int32 := fun j => if j < 16 then (if j < 4 then -2 else 0) else f j
/-- what the class's plan leaves in its places -/
def plU (u : mU) (s : pS) : mU := wr (put (put u 40 s.2.1) 38 s.1) 35 2 s.2.2
section PLN
variable {T D m M : Nat} {c3 c4 : sF} {u : mU} {v : mV} {N : Nat → Nat} {s : pS} {k d : Nat}
theorem SH_outs : tSh (SH T D c3 c4 m) 39 40 1 12 := ⟨rfl, rfl, by decide, by decide⟩
theorem plU_38 : plU u s 38 = s.1 := by unfold plU; rw [wr_off (by decide), put_at]
theorem plU_40 : plU u s 40 = s.2.1 := by unfold plU; rw [wr_off (by decide), put_ne (by decide), put_at]
theorem plU_s : plU u s 35 2 = s.2.2 := wr_same _ _ _ _
theorem plU_q {q : Nat} (h1 : q ≠ 38) (h2 : q ≠ 40) (h3 : q ≠ 35) : plU u s q = u q := by unfold plU; rw [wr_off h3, put_ne h1, put_ne h2]
theorem plU_T (ho : okTD T D) (i : Nat) (hi : i < 21) : plU u s (T + i) = u (T + i) := by
  have hT : T = 54 ∨ T = 3 := by rcases ho with ⟨rfl, rfl⟩ | ⟨rfl, rfl⟩ <;> simp
  exact plU_q (by omega) (by omega) (by omega)
theorem plU_M (hM : 88 ≤ M) (i : Nat) : plU u s (M + i) = u (M + i) := plU_q (by omega) (by omega) (by omega)
theorem plU_relC (ho : okTD T D) (hM : 88 ≤ M) (h : relC u T M N) : relC (plU u s) T M N := relC_congr (plU_T ho) (plU_M hM) h
theorem plU_col (hM : 88 ≤ M) : col (plU u s) M = col u M := funext (plU_M hM)
theorem plU_set {R : Nat → Int32} {o : Int32} : put (wr (plU u s) 40 k o) 38 R = plU u (R, upd s.2.1 k o, s.2.2) := by
  funext q j
  unfold plU
  by_cases h1 : q = 38
  · subst h1
    rw [put_at, wr_role (by decide), put_at]
  · rw [put_ne h1]
    by_cases h2 : q = 40
    · subst h2
      rw [wr_put, put_at, wr_off (by decide), put_ne (by decide), put_at, wr_off (by decide), put_ne (by decide), put_at]
    · rw [wr_role h2]
      by_cases h3 : q = 35
      · subst h3
        by_cases h4 : j = 2
        · subst h4; rw [wr_same, wr_same]
        · rw [wr_ix h4, wr_ix h4, put_ne (by decide), put_ne (by decide), put_ne (by decide), put_ne (by decide)]
      · rw [wr_role h3, wr_role h3, put_ne h1, put_ne h2, put_ne h1, put_ne h2]
theorem plU_seed {x : Int32} : wr (plU u s) 35 2 x = plU u (s.1, s.2.1, x) := by
  funext q j
  unfold plU
  by_cases h3 : q = 35 ∧ j = 2
  · rw [h3.1, h3.2, wr_same, wr_same]
  · unfold wr
    rw [if_neg h3, if_neg h3, if_neg h3]
theorem plU_0 {x : Int32} : row0 (wr u 35 2 x) 38 = plU u (rowZ (u 38), u 40, x) := by
  funext q j
  unfold row0 plU rowZ
  by_cases h1 : q = 38
  · subst h1
    rw [wr_role (by decide), wr_role (by decide), put_at]
    by_cases h2 : j < 16
    · rw [if_pos ⟨rfl, h2⟩]
      exact (if_pos h2).symm
    · rw [if_neg (fun z => h2 z.2)]
      exact (if_neg h2).symm
  · rw [if_neg (fun z => h1 z.1)]
    unfold wr
    rw [put_ne h1]
    by_cases h2 : q = 40
    · subst h2; rw [put_at]
    · rw [put_ne h2]
theorem gift_at (h : relC u T M N) (hk : k < N 7) : ∃ g t p e, g < N 5 ∧ t < N 2 ∧ p < N 3 ∧ e < N 0 ∧ kI (col u M) 13 k = g ∧ kI (col u M) 14 k = t ∧ kI (col u M) 15 k = p ∧ kI (col u M) 16 k = e ∧ u (M + 13) k = nI g ∧ u (M + 14) k = nI t ∧ u (M + 15) k = nI p ∧ u (M + 16) k = nI e ∧ tG u (T + 10) 12 4 (nI k) 0 = nI g ∧ tG u (T + 10) 12 4 (nI k) 1 = nI t ∧ tG u (T + 10) 12 4 (nI k) 2 = nI p ∧ tG u (T + 10) 12 4 (nI k) 3 = nI e := by
  have hb := bndN_of h.1
  have b7 : N 7 ≤ 12 := hb.2.2.2.2.2.2.2.1
  have b5 : N 5 ≤ 3 := hb.2.2.2.2.2.1
  have b2 : N 2 ≤ 4 := hb.2.2.1
  have b3 : N 3 ≤ 5 := hb.2.2.2.1
  have b0 : N 0 ≤ 7 := hb.1
  obtain ⟨⟨g, hg, e1⟩, ⟨t, ht, e2⟩, ⟨p, hp, e3⟩, ⟨e, he, e4⟩, f1, f2, f3, f4⟩ := h.2.2.2.2.2.2.2.1 k hk
  have z : ∀ (i x : Nat) , x < 100 → u (M + i) k = nI x → kI (col u M) i k = x := by
    intro i x hx hh
    show (u (M + i) k).toNatClampNeg = x
    rw [hh, nI_clamp (by omega)]
  refine ⟨g, t, p, e, hg, ht, hp, he, z 13 g (by omega) e1, z 14 t (by omega) e2, z 15 p (by omega) e3, z 16 e (by omega) e4, e1, e2, e3, e4, ?_, ?_, ?_, ?_⟩
  · show tG u (T + 10) 12 4 (nI k) (nI 0) = _
    rw [tG_in (by decide) (by decide) (by omega) (by decide), f1, e1]
  · show tG u (T + 10) 12 4 (nI k) (nI 1) = _
    rw [tG_in (by decide) (by decide) (by omega) (by decide), f2, e2]
  · show tG u (T + 10) 12 4 (nI k) (nI 2) = _
    rw [tG_in (by decide) (by decide) (by omega) (by decide), f3, e3]
  · show tG u (T + 10) 12 4 (nI k) (nI 3) = _
    rw [tG_in (by decide) (by decide) (by omega) (by decide), f4, e4]
theorem cls_end81 {g t p : Nat} {o : Int32} (ho : okTD T D) (hM : 88 ≤ M) (h : relC u T M N) (hk : k < N 7) (hg : g < N 5) (ht : t < N 2) : J_X5_runGift_81 35 T (nI k) (nI g) (nI t) (nI p) o (Rep (SH T D c3 c4 m) (plU u s) v) = some (Rep (SH T D c3 c4 m) (plU u (s_stl (col u M) s.1 g t p o, upd s.2.1 k o, s.2.2)) v) := by
  have hb := bndN_of h.1
  have b7 : N 7 ≤ 12 := hb.2.2.2.2.2.2.2.1
  have b5 : N 5 ≤ 3 := hb.2.2.2.2.2.1
  have b2 : N 2 ≤ 4 := hb.2.2.1
  have hC := SH_told (c3 := c3) (c4 := c4) (m := m) ho
  have hT : T = 54 ∨ T = 3 := by rcases ho with ⟨rfl, rfl⟩ | ⟨rfl, rfl⟩ <;> simp
  have t1 := tab_set (u := plU u s) (v := v) (x := nI 0) (y := nI k) (z := o) (SH_outs (T := T) (D := D) (c3 := c3) (c4 := c4) (m := m))
  rw [tS_in (by decide) (by decide) (by decide) (by omega), Nat.zero_mul, Nat.zero_add, nI_0] at t1
  have hr : relC (wr (plU u s) 40 k o) T M N := relC_congr (u := plU u s) (fun i hi => wr_off (by omega)) (fun i => wr_off (by omega)) (plU_relC ho hM h)
  have t2 := st_settle (u := wr (plU u s) 40 k o) (v := v) (p := nI p) (o := o) SH_plan hC (show T + 2 ≠ 38 by omega) (show g < 3 by omega) (show t < 4 by omega)
  have hcol : col (wr (plU u s) 40 k o) M = col u M := by
    rw [show col (wr (plU u s) 40 k o) M = col (plU u s) M from funext (fun i => wr_off (by omega)), plU_col hM]
  rw [hon_s hr ht, hcol, stl_s, wr_off (by decide), plU_38] at t2
  simp only [J_X5_runGift_81, gC_0, gR_0_0, gR_0_1, gR_0_2, gR_0_3, gR_0_4, gR_0_5, gR_0_6, gI_0_7, gR_0_8, gC_1, gR_1_0, gI_1_1, gR_1_2, gR_1_3, gR_1_4, gI_1_5, gI_1_6, gI_1_7, gI_1_8, gI_1_9, gL_1_10, gI_1_11, gI_1_12, gI_1_13, gI_1_14, gC_27, gR_27_0, gC_30, gR_30_0, gR_30_1, gI_30_2, gI_30_3, gI_30_4, gC_35, gR_35_0, gR_35_1, gI_35_2, gC_36, gR_36_0, gC_41, gR_41_0, gI_41_1, gI_41_2, gC_44, gR_44_0, gR_44_1, gI_44_2, gI_44_3, gC_49, gR_49_0, gR_49_1, gI_49_2, gI_49_3, gC_75, gI_75_0, gI_75_1, gI_75_2, gR_75_5, gI_75_6, gI_75_7, gI_75_8, gI_75_9, gI_75_10, gI_75_11, gI_75_12, gI_75_13, gL_75_14, gR_75_15, gR_75_16, gR_75_17, gR_75_18, gI_75_19, gI_75_20, gR_75_21, gR_75_22, gR_75_23, gI_75_24, gR_75_25, gI_75_26, gL_75_27, gL_75_28, gR_75_29, gR_75_30, gI_75_31, gR_75_3, gQ_75_3, gN_75_3, gR_75_4, gQ_75_4, gN_75_4, pI_0_7, pI_1_1, pI_1_5, pI_1_6, pI_1_7, pI_1_8, pI_1_9, pL_1_10, pI_1_11, pI_1_12, pI_1_13, pI_1_14, pI_30_2, pI_30_3, pI_30_4, pI_35_2, pI_41_1, pZ0_41_1, pZ1_41_1, pI_41_2, pI_44_2, pZ0_44_2, pZ1_44_2, pI_44_3, pI_49_2, pI_49_3, pI_75_0, pI_75_1, pI_75_2, pI_75_6, pI_75_7, pI_75_8, pI_75_9, pI_75_10, pI_75_11, pI_75_12, pI_75_13, pL_75_14, pI_75_19, pI_75_20, pI_75_24, pI_75_26, pL_75_27, pL_75_28, pI_75_31, Option.bind_some, q_b2_some, q_zr_0, q_zr_1, x10_fine, x10_refused, x12_good, x12_refused, t1, t2]
  exact congrArg (fun x => some (Rep (SH T D c3 c4 m) x v)) plU_set
theorem cls_gift (ho : okTD T D) (hM : 88 ≤ M) (h : relC u T M N) (hk : k < N 7) (hd : d < 7) (hH : rowH N s.1) : f_X5_runGift (Rep (SH T D c3 c4 m) (plU u s) v) 35 T (nI k) (nI d) = some (Rep (SH T D c3 c4 m) (plU u (pRun (col u M) d k s)) v) := by
  have hC := SH_told (c3 := c3) (c4 := c4) (m := m) ho
  have hw := plU_relC (s := s) ho hM h
  have hcol := plU_col (u := u) (s := s) hM
  have hb := bndN_of h.1
  have b2 : N 2 ≤ 4 := hb.2.2.1
  have b3 : N 3 ≤ 5 := hb.2.2.2.1
  obtain ⟨g, t, p, e, hg, ht, hp, he, q1, q2, q3, q4, -, -, -, -, f1, f2, f3, f4⟩ := gift_at hw hk
  rw [hcol] at q1 q2 q3 q4
  have hH' : rowH N (plU u s 38) := by rw [plU_38]; exact hH
  have a1 := st_hind (u := plU u s) (v := v) (d := nI d) (g := nI g) (t := t) (p := p) SH_plan hC (show t < 4 by omega) (show p < 5 by omega)
  rw [hind_s hw hH' hg ht hp hd, hcol, plU_38] at a1
  unfold pRun
  rw [q1, q2, q3]
  by_cases c : s_hind (col u M) s.1 g t p d = 0
  · have hs : ¬ s_tog (col (plU u s) M) g p d = -2 := by
      rw [hcol]
      intro z
      unfold s_hind at c
      rw [if_pos z] at c
      exact absurd c (by decide)
    have a2 := st_nearOn (u := plU u s) (v := v) (d := nI d) (g := nI g) (t := t) (p := p) (SH_plan (T := T) (D := D) (c3 := c3) (c4 := c4) (m := m)) hC
    rw [(nearOn_s hw hg ht hp hd hs).1, hcol, plU_38] at a2
    by_cases c2 : s.2.2 = -1
    · have a3 := col_noticed (u := plU u s) (v := v) (x := s_nr (col u M) s.1 g t p d) hC
      rw [noticed_eq hw.1] at a3
      have hl : col u M 0 1 = nI (N 1) := (h.1 1 (by decide)).2.1
      have hpo : pO (col u M) d s.1 s.2.2 g t p = (if s_nr (col u M) s.1 g t p d ≤ nI (N 1) then 0 else 1, s.2.2) := by
        unfold pO
        rw [if_pos c, if_pos c2, hl]
      rw [hpo]
      by_cases c3 : s_nr (col u M) s.1 g t p d ≤ nI (N 1)
      · rw [if_pos c3] at a3 ⊢
        simp only [f_X5_runGift, f_X5_isCaught, gC_0, gR_0_0, gR_0_1, gR_0_2, gR_0_3, gR_0_4, gR_0_5, gR_0_6, gI_0_7, gR_0_8, gC_1, gR_1_0, gI_1_1, gR_1_2, gR_1_3, gR_1_4, gI_1_5, gI_1_6, gI_1_7, gI_1_8, gI_1_9, gL_1_10, gI_1_11, gI_1_12, gI_1_13, gI_1_14, gC_27, gR_27_0, gC_30, gR_30_0, gR_30_1, gI_30_2, gI_30_3, gI_30_4, gC_35, gR_35_0, gR_35_1, gI_35_2, gC_36, gR_36_0, gC_41, gR_41_0, gI_41_1, gI_41_2, gC_44, gR_44_0, gR_44_1, gI_44_2, gI_44_3, gC_49, gR_49_0, gR_49_1, gI_49_2, gI_49_3, gC_75, gI_75_0, gI_75_1, gI_75_2, gR_75_5, gI_75_6, gI_75_7, gI_75_8, gI_75_9, gI_75_10, gI_75_11, gI_75_12, gI_75_13, gL_75_14, gR_75_15, gR_75_16, gR_75_17, gR_75_18, gI_75_19, gI_75_20, gR_75_21, gR_75_22, gR_75_23, gI_75_24, gR_75_25, gI_75_26, gL_75_27, gL_75_28, gR_75_29, gR_75_30, gI_75_31, gR_75_3, gQ_75_3, gN_75_3, gR_75_4, gQ_75_4, gN_75_4, pI_0_7, pI_1_1, pI_1_5, pI_1_6, pI_1_7, pI_1_8, pI_1_9, pL_1_10, pI_1_11, pI_1_12, pI_1_13, pI_1_14, pI_30_2, pI_30_3, pI_30_4, pI_35_2, pI_41_1, pZ0_41_1, pZ1_41_1, pI_41_2, pI_44_2, pZ0_44_2, pZ1_44_2, pI_44_3, pI_49_2, pI_49_3, pI_75_0, pI_75_1, pI_75_2, pI_75_6, pI_75_7, pI_75_8, pI_75_9, pI_75_10, pI_75_11, pI_75_12, pI_75_13, pL_75_14, pI_75_19, pI_75_20, pI_75_24, pI_75_26, pL_75_27, pL_75_28, pI_75_31, Option.bind_some, q_b2_some, q_zr_0, q_zr_1, x10_fine, x10_refused, x12_good, x12_refused, cC, cR_0, cG_0, cR_1, cG_1, cR_2, cG_2, cR_3, cG_3, cR_4, cG_4, cR_5, cG_5, cR_6, cG_6, cR_7, cG_7, cR_8, cG_8, cR_9, cG_9, hC, f1, f2, f3, a1, c, if_true, a2, plU_s, c2, a3, cls_end81 ho hM h hk hg ht]
      · rw [if_neg c3] at a3 ⊢
        simp only [f_X5_runGift, f_X5_isCaught, gC_0, gR_0_0, gR_0_1, gR_0_2, gR_0_3, gR_0_4, gR_0_5, gR_0_6, gI_0_7, gR_0_8, gC_1, gR_1_0, gI_1_1, gR_1_2, gR_1_3, gR_1_4, gI_1_5, gI_1_6, gI_1_7, gI_1_8, gI_1_9, gL_1_10, gI_1_11, gI_1_12, gI_1_13, gI_1_14, gC_27, gR_27_0, gC_30, gR_30_0, gR_30_1, gI_30_2, gI_30_3, gI_30_4, gC_35, gR_35_0, gR_35_1, gI_35_2, gC_36, gR_36_0, gC_41, gR_41_0, gI_41_1, gI_41_2, gC_44, gR_44_0, gR_44_1, gI_44_2, gI_44_3, gC_49, gR_49_0, gR_49_1, gI_49_2, gI_49_3, gC_75, gI_75_0, gI_75_1, gI_75_2, gR_75_5, gI_75_6, gI_75_7, gI_75_8, gI_75_9, gI_75_10, gI_75_11, gI_75_12, gI_75_13, gL_75_14, gR_75_15, gR_75_16, gR_75_17, gR_75_18, gI_75_19, gI_75_20, gR_75_21, gR_75_22, gR_75_23, gI_75_24, gR_75_25, gI_75_26, gL_75_27, gL_75_28, gR_75_29, gR_75_30, gI_75_31, gR_75_3, gQ_75_3, gN_75_3, gR_75_4, gQ_75_4, gN_75_4, pI_0_7, pI_1_1, pI_1_5, pI_1_6, pI_1_7, pI_1_8, pI_1_9, pL_1_10, pI_1_11, pI_1_12, pI_1_13, pI_1_14, pI_30_2, pI_30_3, pI_30_4, pI_35_2, pI_41_1, pZ0_41_1, pZ1_41_1, pI_41_2, pI_44_2, pZ0_44_2, pZ1_44_2, pI_44_3, pI_49_2, pI_49_3, pI_75_0, pI_75_1, pI_75_2, pI_75_6, pI_75_7, pI_75_8, pI_75_9, pI_75_10, pI_75_11, pI_75_12, pI_75_13, pL_75_14, pI_75_19, pI_75_20, pI_75_24, pI_75_26, pL_75_27, pL_75_28, pI_75_31, Option.bind_some, q_b2_some, q_zr_0, q_zr_1, x10_fine, x10_refused, x12_good, x12_refused, cC, cR_0, cG_0, cR_1, cG_1, cR_2, cG_2, cR_3, cG_3, cR_4, cG_4, cR_5, cG_5, cR_6, cG_6, cR_7, cG_7, cR_8, cG_8, cR_9, cG_9, hC, f1, f2, f3, a1, c, if_true, a2, plU_s, c2, a3, ne10, if_false, cls_end81 ho hM h hk hg ht]
    · have hpo : pO (col u M) d s.1 s.2.2 g t p = (if s_nr (col u M) s.1 g t p d ≤ lcg s.2.2 - lcg s.2.2 / 100 * 100 then 0 else 1, lcg s.2.2) := by
        unfold pO
        rw [if_pos c, if_neg c2]
      rw [hpo]
      have hlc : (75 * s.2.2 + 74 - (75 * s.2.2 + 74) / 65537 * 65537) = lcg s.2.2 := rfl
      by_cases c3 : s_nr (col u M) s.1 g t p d ≤ lcg s.2.2 - lcg s.2.2 / 100 * 100
      · rw [if_pos c3]
        simp only [f_X5_runGift, f_X5_isCaught, gC_0, gR_0_0, gR_0_1, gR_0_2, gR_0_3, gR_0_4, gR_0_5, gR_0_6, gI_0_7, gR_0_8, gC_1, gR_1_0, gI_1_1, gR_1_2, gR_1_3, gR_1_4, gI_1_5, gI_1_6, gI_1_7, gI_1_8, gI_1_9, gL_1_10, gI_1_11, gI_1_12, gI_1_13, gI_1_14, gC_27, gR_27_0, gC_30, gR_30_0, gR_30_1, gI_30_2, gI_30_3, gI_30_4, gC_35, gR_35_0, gR_35_1, gI_35_2, gC_36, gR_36_0, gC_41, gR_41_0, gI_41_1, gI_41_2, gC_44, gR_44_0, gR_44_1, gI_44_2, gI_44_3, gC_49, gR_49_0, gR_49_1, gI_49_2, gI_49_3, gC_75, gI_75_0, gI_75_1, gI_75_2, gR_75_5, gI_75_6, gI_75_7, gI_75_8, gI_75_9, gI_75_10, gI_75_11, gI_75_12, gI_75_13, gL_75_14, gR_75_15, gR_75_16, gR_75_17, gR_75_18, gI_75_19, gI_75_20, gR_75_21, gR_75_22, gR_75_23, gI_75_24, gR_75_25, gI_75_26, gL_75_27, gL_75_28, gR_75_29, gR_75_30, gI_75_31, gR_75_3, gQ_75_3, gN_75_3, gR_75_4, gQ_75_4, gN_75_4, pI_0_7, pI_1_1, pI_1_5, pI_1_6, pI_1_7, pI_1_8, pI_1_9, pL_1_10, pI_1_11, pI_1_12, pI_1_13, pI_1_14, pI_30_2, pI_30_3, pI_30_4, pI_35_2, pI_41_1, pZ0_41_1, pZ1_41_1, pI_41_2, pI_44_2, pZ0_44_2, pZ1_44_2, pI_44_3, pI_49_2, pI_49_3, pI_75_0, pI_75_1, pI_75_2, pI_75_6, pI_75_7, pI_75_8, pI_75_9, pI_75_10, pI_75_11, pI_75_12, pI_75_13, pL_75_14, pI_75_19, pI_75_20, pI_75_24, pI_75_26, pL_75_27, pL_75_28, pI_75_31, Option.bind_some, q_b2_some, q_zr_0, q_zr_1, x10_fine, x10_refused, x12_good, x12_refused, cC, cR_0, cG_0, cR_1, cG_1, cR_2, cG_2, cR_3, cG_3, cR_4, cG_4, cR_5, cG_5, cR_6, cG_6, cR_7, cG_7, cR_8, cG_8, cR_9, cG_9, hC, f1, f2, f3, a1, c, if_true, a2, plU_s, c2, if_false, show ((65537 : Int32) = 0) = False from by decide, show ((100 : Int32) = 0) = False from by decide, hlc, plU_seed, c3, cls_end81 ho hM h hk hg ht]
      · rw [if_neg c3]
        simp only [f_X5_runGift, f_X5_isCaught, gC_0, gR_0_0, gR_0_1, gR_0_2, gR_0_3, gR_0_4, gR_0_5, gR_0_6, gI_0_7, gR_0_8, gC_1, gR_1_0, gI_1_1, gR_1_2, gR_1_3, gR_1_4, gI_1_5, gI_1_6, gI_1_7, gI_1_8, gI_1_9, gL_1_10, gI_1_11, gI_1_12, gI_1_13, gI_1_14, gC_27, gR_27_0, gC_30, gR_30_0, gR_30_1, gI_30_2, gI_30_3, gI_30_4, gC_35, gR_35_0, gR_35_1, gI_35_2, gC_36, gR_36_0, gC_41, gR_41_0, gI_41_1, gI_41_2, gC_44, gR_44_0, gR_44_1, gI_44_2, gI_44_3, gC_49, gR_49_0, gR_49_1, gI_49_2, gI_49_3, gC_75, gI_75_0, gI_75_1, gI_75_2, gR_75_5, gI_75_6, gI_75_7, gI_75_8, gI_75_9, gI_75_10, gI_75_11, gI_75_12, gI_75_13, gL_75_14, gR_75_15, gR_75_16, gR_75_17, gR_75_18, gI_75_19, gI_75_20, gR_75_21, gR_75_22, gR_75_23, gI_75_24, gR_75_25, gI_75_26, gL_75_27, gL_75_28, gR_75_29, gR_75_30, gI_75_31, gR_75_3, gQ_75_3, gN_75_3, gR_75_4, gQ_75_4, gN_75_4, pI_0_7, pI_1_1, pI_1_5, pI_1_6, pI_1_7, pI_1_8, pI_1_9, pL_1_10, pI_1_11, pI_1_12, pI_1_13, pI_1_14, pI_30_2, pI_30_3, pI_30_4, pI_35_2, pI_41_1, pZ0_41_1, pZ1_41_1, pI_41_2, pI_44_2, pZ0_44_2, pZ1_44_2, pI_44_3, pI_49_2, pI_49_3, pI_75_0, pI_75_1, pI_75_2, pI_75_6, pI_75_7, pI_75_8, pI_75_9, pI_75_10, pI_75_11, pI_75_12, pI_75_13, pL_75_14, pI_75_19, pI_75_20, pI_75_24, pI_75_26, pL_75_27, pL_75_28, pI_75_31, Option.bind_some, q_b2_some, q_zr_0, q_zr_1, x10_fine, x10_refused, x12_good, x12_refused, cC, cR_0, cG_0, cR_1, cG_1, cR_2, cG_2, cR_3, cG_3, cR_4, cG_4, cR_5, cG_5, cR_6, cG_6, cR_7, cG_7, cR_8, cG_8, cR_9, cG_9, hC, f1, f2, f3, a1, c, if_true, a2, plU_s, c2, if_false, show ((65537 : Int32) = 0) = False from by decide, show ((100 : Int32) = 0) = False from by decide, hlc, plU_seed, c3, ne10, cls_end81 ho hM h hk hg ht]
  · have hpo : pO (col u M) d s.1 s.2.2 g t p = (s_hind (col u M) s.1 g t p d, s.2.2) := by
      unfold pO
      rw [if_neg c]
    rw [hpo]
    simp only [f_X5_runGift, gC_0, gR_0_0, gR_0_1, gR_0_2, gR_0_3, gR_0_4, gR_0_5, gR_0_6, gI_0_7, gR_0_8, gC_1, gR_1_0, gI_1_1, gR_1_2, gR_1_3, gR_1_4, gI_1_5, gI_1_6, gI_1_7, gI_1_8, gI_1_9, gL_1_10, gI_1_11, gI_1_12, gI_1_13, gI_1_14, gC_27, gR_27_0, gC_30, gR_30_0, gR_30_1, gI_30_2, gI_30_3, gI_30_4, gC_35, gR_35_0, gR_35_1, gI_35_2, gC_36, gR_36_0, gC_41, gR_41_0, gI_41_1, gI_41_2, gC_44, gR_44_0, gR_44_1, gI_44_2, gI_44_3, gC_49, gR_49_0, gR_49_1, gI_49_2, gI_49_3, gC_75, gI_75_0, gI_75_1, gI_75_2, gR_75_5, gI_75_6, gI_75_7, gI_75_8, gI_75_9, gI_75_10, gI_75_11, gI_75_12, gI_75_13, gL_75_14, gR_75_15, gR_75_16, gR_75_17, gR_75_18, gI_75_19, gI_75_20, gR_75_21, gR_75_22, gR_75_23, gI_75_24, gR_75_25, gI_75_26, gL_75_27, gL_75_28, gR_75_29, gR_75_30, gI_75_31, gR_75_3, gQ_75_3, gN_75_3, gR_75_4, gQ_75_4, gN_75_4, pI_0_7, pI_1_1, pI_1_5, pI_1_6, pI_1_7, pI_1_8, pI_1_9, pL_1_10, pI_1_11, pI_1_12, pI_1_13, pI_1_14, pI_30_2, pI_30_3, pI_30_4, pI_35_2, pI_41_1, pZ0_41_1, pZ1_41_1, pI_41_2, pI_44_2, pZ0_44_2, pZ1_44_2, pI_44_3, pI_49_2, pI_49_3, pI_75_0, pI_75_1, pI_75_2, pI_75_6, pI_75_7, pI_75_8, pI_75_9, pI_75_10, pI_75_11, pI_75_12, pI_75_13, pL_75_14, pI_75_19, pI_75_20, pI_75_24, pI_75_26, pL_75_27, pL_75_28, pI_75_31, Option.bind_some, q_b2_some, q_zr_0, q_zr_1, x10_fine, x10_refused, x12_good, x12_refused, cC, cR_0, cG_0, cR_1, cG_1, cR_2, cG_2, cR_3, cG_3, cR_4, cG_4, cR_5, cG_5, cR_6, cG_6, cR_7, cG_7, cR_8, cG_8, cR_9, cG_9, hC, f1, f2, f3, a1, c, if_false, cls_end81 ho hM h hk hg ht]
theorem pSt_H (h : relC u T M N) (hk : k < N 7) (hH : rowH N s.1) : rowH N (pSt (col u M) d k s).1 := by
  have hb := bndN_of h.1
  have b2 : N 2 ≤ 4 := hb.2.2.1
  have b5 : N 5 ≤ 3 := hb.2.2.2.2.2.1
  obtain ⟨g, t, p, e, hg, ht, hp, he, q1, q2, q3, q4, -⟩ := gift_at h hk
  unfold pSt
  split
  · unfold pRun
    rw [q1, q2, q3]
    exact rowH_stl hH hp (by omega) (by omega)
  · exact hH
theorem lp_H (h : relC u T M N) : ∀ (r i : Nat) (s : pS), i + r ≤ N 7 → rowH N s.1 → rowH N (lp (pSt (col u M) d) r i s).1 := by
  intro r
  induction r with
  | zero => intro i s _ hH; exact hH
  | succ r ih =>
    intro i s hi hH
    exact ih (i + 1) _ (by omega) (pSt_H h (by omega) hH)
theorem cls_day {kk : Nat → Nat → Int32 → Int32 → qS → Option qS} {x : Int32} (ho : okTD T D) (hM : 88 ≤ M) (h : relC u T M N) (hd : d < 7) : ∀ (r i f : Nat) (s : pS), i + r = N 7 → r < f → rowH N s.1 → L_X5_runGifts_23 kk f 35 T x (nI d) (nI i) (Rep (SH T D c3 c4 m) (plU u s) v) = kk 35 T x (nI d) (Rep (SH T D c3 c4 m) (plU u (lp (pSt (col u M) d) r i s)) v) := by
  have hC := SH_told (c3 := c3) (c4 := c4) (m := m) ho
  have hb := bndN_of h.1
  have b7 : N 7 ≤ 12 := hb.2.2.2.2.2.2.2.1
  have b0 : N 0 ≤ 7 := hb.1
  intro r
  induction r with
  | zero =>
    intro i f s hi hf hH
    obtain ⟨f, rfl⟩ : ∃ f', f = f' + 1 := ⟨f - 1, by omega⟩
    have c : nI (N 7) ≤ nI i := nI_le (by omega) (by omega)
    simp only [L_X5_runGifts_23, gC_0, gR_0_0, gR_0_1, gR_0_2, gR_0_3, gR_0_4, gR_0_5, gR_0_6, gI_0_7, gR_0_8, gC_1, gR_1_0, gI_1_1, gR_1_2, gR_1_3, gR_1_4, gI_1_5, gI_1_6, gI_1_7, gI_1_8, gI_1_9, gL_1_10, gI_1_11, gI_1_12, gI_1_13, gI_1_14, gC_27, gR_27_0, gC_30, gR_30_0, gR_30_1, gI_30_2, gI_30_3, gI_30_4, gC_35, gR_35_0, gR_35_1, gI_35_2, gC_36, gR_36_0, gC_41, gR_41_0, gI_41_1, gI_41_2, gC_44, gR_44_0, gR_44_1, gI_44_2, gI_44_3, gC_49, gR_49_0, gR_49_1, gI_49_2, gI_49_3, gC_75, gI_75_0, gI_75_1, gI_75_2, gR_75_5, gI_75_6, gI_75_7, gI_75_8, gI_75_9, gI_75_10, gI_75_11, gI_75_12, gI_75_13, gL_75_14, gR_75_15, gR_75_16, gR_75_17, gR_75_18, gI_75_19, gI_75_20, gR_75_21, gR_75_22, gR_75_23, gI_75_24, gR_75_25, gI_75_26, gL_75_27, gL_75_28, gR_75_29, gR_75_30, gI_75_31, gR_75_3, gQ_75_3, gN_75_3, gR_75_4, gQ_75_4, gN_75_4, pI_0_7, pI_1_1, pI_1_5, pI_1_6, pI_1_7, pI_1_8, pI_1_9, pL_1_10, pI_1_11, pI_1_12, pI_1_13, pI_1_14, pI_30_2, pI_30_3, pI_30_4, pI_35_2, pI_41_1, pZ0_41_1, pZ1_41_1, pI_41_2, pI_44_2, pZ0_44_2, pZ1_44_2, pI_44_3, pI_49_2, pI_49_3, pI_75_0, pI_75_1, pI_75_2, pI_75_6, pI_75_7, pI_75_8, pI_75_9, pI_75_10, pI_75_11, pI_75_12, pI_75_13, pL_75_14, pI_75_19, pI_75_20, pI_75_24, pI_75_26, pL_75_27, pL_75_28, pI_75_31, Option.bind_some, q_b2_some, q_zr_0, q_zr_1, x10_fine, x10_refused, x12_good, x12_refused, cls_c7 ho (plU_relC ho hM h).1, c, if_true, lp]
  | succ r ih =>
    intro i f s hi hf hH
    obtain ⟨f, rfl⟩ : ∃ f', f = f' + 1 := ⟨f - 1, by omega⟩
    have c : ¬ nI (N 7) ≤ nI i := nI_ge (by omega) (by omega)
    have hw := plU_relC (s := s) ho hM h
    obtain ⟨g, t, p, e, hg, ht, hp, he, q1, q2, q3, q4, -, -, -, z4, f1, f2, f3, f4⟩ := gift_at hw (show i < N 7 by omega)
    have hz : col u M 16 i = nI e := by
      show u (M + 16) i = nI e
      rw [← z4, plU_M hM]
    by_cases c2 : nI e = nI d
    · have hst : pSt (col u M) d i s = pRun (col u M) d i s := by
        unfold pSt
        rw [hz, if_pos c2]
      simp only [L_X5_runGifts_23, gC_0, gR_0_0, gR_0_1, gR_0_2, gR_0_3, gR_0_4, gR_0_5, gR_0_6, gI_0_7, gR_0_8, gC_1, gR_1_0, gI_1_1, gR_1_2, gR_1_3, gR_1_4, gI_1_5, gI_1_6, gI_1_7, gI_1_8, gI_1_9, gL_1_10, gI_1_11, gI_1_12, gI_1_13, gI_1_14, gC_27, gR_27_0, gC_30, gR_30_0, gR_30_1, gI_30_2, gI_30_3, gI_30_4, gC_35, gR_35_0, gR_35_1, gI_35_2, gC_36, gR_36_0, gC_41, gR_41_0, gI_41_1, gI_41_2, gC_44, gR_44_0, gR_44_1, gI_44_2, gI_44_3, gC_49, gR_49_0, gR_49_1, gI_49_2, gI_49_3, gC_75, gI_75_0, gI_75_1, gI_75_2, gR_75_5, gI_75_6, gI_75_7, gI_75_8, gI_75_9, gI_75_10, gI_75_11, gI_75_12, gI_75_13, gL_75_14, gR_75_15, gR_75_16, gR_75_17, gR_75_18, gI_75_19, gI_75_20, gR_75_21, gR_75_22, gR_75_23, gI_75_24, gR_75_25, gI_75_26, gL_75_27, gL_75_28, gR_75_29, gR_75_30, gI_75_31, gR_75_3, gQ_75_3, gN_75_3, gR_75_4, gQ_75_4, gN_75_4, pI_0_7, pI_1_1, pI_1_5, pI_1_6, pI_1_7, pI_1_8, pI_1_9, pL_1_10, pI_1_11, pI_1_12, pI_1_13, pI_1_14, pI_30_2, pI_30_3, pI_30_4, pI_35_2, pI_41_1, pZ0_41_1, pZ1_41_1, pI_41_2, pI_44_2, pZ0_44_2, pZ1_44_2, pI_44_3, pI_49_2, pI_49_3, pI_75_0, pI_75_1, pI_75_2, pI_75_6, pI_75_7, pI_75_8, pI_75_9, pI_75_10, pI_75_11, pI_75_12, pI_75_13, pL_75_14, pI_75_19, pI_75_20, pI_75_24, pI_75_26, pL_75_27, pL_75_28, pI_75_31, Option.bind_some, q_b2_some, q_zr_0, q_zr_1, x10_fine, x10_refused, x12_good, x12_refused, cC, cR_0, cG_0, cR_1, cG_1, cR_2, cG_2, cR_3, cG_3, cR_4, cG_4, cR_5, cG_5, cR_6, cG_6, cR_7, cG_7, cR_8, cG_8, cR_9, cG_9, hC, cls_c7 ho hw.1, c, if_false, f4, c2, if_true, cls_gift ho hM h (show i < N 7 by omega) hd hH, nI_1, lp]
      rw [ih (i + 1) f _ (by omega) (by omega) (by rw [← hst]; exact pSt_H h (by omega) hH), hst]
    · have hst : pSt (col u M) d i s = s := by
        unfold pSt
        rw [hz, if_neg c2]
      simp only [L_X5_runGifts_23, gC_0, gR_0_0, gR_0_1, gR_0_2, gR_0_3, gR_0_4, gR_0_5, gR_0_6, gI_0_7, gR_0_8, gC_1, gR_1_0, gI_1_1, gR_1_2, gR_1_3, gR_1_4, gI_1_5, gI_1_6, gI_1_7, gI_1_8, gI_1_9, gL_1_10, gI_1_11, gI_1_12, gI_1_13, gI_1_14, gC_27, gR_27_0, gC_30, gR_30_0, gR_30_1, gI_30_2, gI_30_3, gI_30_4, gC_35, gR_35_0, gR_35_1, gI_35_2, gC_36, gR_36_0, gC_41, gR_41_0, gI_41_1, gI_41_2, gC_44, gR_44_0, gR_44_1, gI_44_2, gI_44_3, gC_49, gR_49_0, gR_49_1, gI_49_2, gI_49_3, gC_75, gI_75_0, gI_75_1, gI_75_2, gR_75_5, gI_75_6, gI_75_7, gI_75_8, gI_75_9, gI_75_10, gI_75_11, gI_75_12, gI_75_13, gL_75_14, gR_75_15, gR_75_16, gR_75_17, gR_75_18, gI_75_19, gI_75_20, gR_75_21, gR_75_22, gR_75_23, gI_75_24, gR_75_25, gI_75_26, gL_75_27, gL_75_28, gR_75_29, gR_75_30, gI_75_31, gR_75_3, gQ_75_3, gN_75_3, gR_75_4, gQ_75_4, gN_75_4, pI_0_7, pI_1_1, pI_1_5, pI_1_6, pI_1_7, pI_1_8, pI_1_9, pL_1_10, pI_1_11, pI_1_12, pI_1_13, pI_1_14, pI_30_2, pI_30_3, pI_30_4, pI_35_2, pI_41_1, pZ0_41_1, pZ1_41_1, pI_41_2, pI_44_2, pZ0_44_2, pZ1_44_2, pI_44_3, pI_49_2, pI_49_3, pI_75_0, pI_75_1, pI_75_2, pI_75_6, pI_75_7, pI_75_8, pI_75_9, pI_75_10, pI_75_11, pI_75_12, pI_75_13, pL_75_14, pI_75_19, pI_75_20, pI_75_24, pI_75_26, pL_75_27, pL_75_28, pI_75_31, Option.bind_some, q_b2_some, q_zr_0, q_zr_1, x10_fine, x10_refused, x12_good, x12_refused, cC, cR_0, cG_0, cR_1, cG_1, cR_2, cG_2, cR_3, cG_3, cR_4, cG_4, cR_5, cG_5, cR_6, cG_6, cR_7, cG_7, cR_8, cG_8, cR_9, cG_9, hC, cls_c7 ho hw.1, c, if_false, f4, c2, nI_1, lp, hst]
      exact ih (i + 1) f s (by omega) (by omega) hH
theorem cls_days {x : Nat} (ho : okTD T D) (hM : 88 ≤ M) (h : relC u T M N) (hx : x < 7) : ∀ (r d f : Nat) (s : pS), d + r = x + 1 → r < f → rowH N s.1 → L_X5_runGifts_9 f 35 T (nI x) (nI d) (Rep (SH T D c3 c4 m) (plU u s) v) = some (Rep (SH T D c3 c4 m) (plU u (lp (fun d s => pDay (col u M) (N 7) d s) r d s)) v) := by
  have b7 : N 7 ≤ 12 := (bndN_of h.1).2.2.2.2.2.2.2.1
  intro r
  induction r with
  | zero =>
    intro d f s hi hf hH
    obtain ⟨f, rfl⟩ : ∃ f', f = f' + 1 := ⟨f - 1, by omega⟩
    have c : nI x < nI d := nI_lt (by omega) (by omega)
    simp only [L_X5_runGifts_9, c, if_true, lp]
  | succ r ih =>
    intro d f s hi hf hH
    obtain ⟨f, rfl⟩ : ∃ f', f = f' + 1 := ⟨f - 1, by omega⟩
    have c : ¬ nI x < nI d := nI_nlt (by omega) (by omega)
    have c2 : ¬ (7 : Int32) ≤ nI d := nI_ge (b := 7) (by omega) (by omega)
    have e1 := fun kk => cls_day (T := T) (D := D) (c3 := c3) (c4 := c4) (m := m) (v := v) (kk := kk) (x := nI x) ho hM h (show d < 7 by omega) (N 7) 0 1000000000 s (by omega) (by omega) hH
    rw [nI_0] at e1
    unfold L_X5_runGifts_9
    rw [if_neg c, if_neg c2, e1, nI_1]
    exact ih (d + 1) f _ (by omega) (by omega) (lp_H h _ _ _ (by omega) hH)
theorem rowZ_H {f : Nat → Int32} : rowH N (rowZ f) := by
  intro t ht
  left
  unfold rowZ
  rw [if_pos (by omega), if_pos ht]
def pAll (K : cK) (n r : Nat) (f o : Nat → Int32) (seed : Int32) : pS := lp (fun d s => pDay K n d s) r 0 (rowZ f, o, seed)
theorem cls_plan {x : Nat} {seed : Int32} (ho : okTD T D) (hM : 88 ≤ M) (h : relC u T M N) (hx : x < 7) : f_X5_runGifts (Rep (SH T D c3 c4 m) (wr u 35 2 seed) v) 35 T (nI x) = some (Rep (SH T D c3 c4 m) (plU u (pAll (col u M) (N 7) (x + 1) (u 38) (u 40) seed)) v) := by
  have e1 := cls_days (T := T) (D := D) (c3 := c3) (c4 := c4) (m := m) (v := v) (u := u) ho hM h hx (x + 1) 0 1000000000 (rowZ (u 38), u 40, seed) (by omega) (by omega) rowZ_H
  rw [nI_0] at e1
  unfold f_X5_runGifts
  rw [gC_35, Option.bind_some, gR_35_0, Option.bind_some, st_begin SH_plan, Option.bind_some, plU_0, e1]
  rfl
end PLN
