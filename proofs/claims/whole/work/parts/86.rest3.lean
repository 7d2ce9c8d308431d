theorem fnd_snoc {p : Nat → Bool} : ∀ (r i : Nat), fnd p (r + 1) i = match fnd p r i with
    | some y => some y
    | none => if p (i + r) = true then some (i + r) else none := by
  intro r
  induction r with
  | zero =>
    intro i
    show (if p i = true then some i else none) = _
    rw [Nat.add_zero]
    rfl
  | succ r ih =>
    intro i
    have e : fnd p (r + 1 + 1) i = if p i = true then some i else fnd p (r + 1) (i + 1) := rfl
    have e2 : fnd p (r + 1) i = if p i = true then some i else fnd p r (i + 1) := rfl
    rw [e, e2, ih (i + 1), show i + 1 + r = i + (r + 1) by omega]
    by_cases c : p i = true
    · rw [if_pos c, if_pos c]
    · rw [if_neg c, if_neg c]
theorem fnd_lt {p : Nat → Bool} {y : Nat} : ∀ (r i : Nat), fnd p r i = some y → i ≤ y ∧ y < i + r ∧ p y = true := by
  intro r
  induction r with
  | zero => intro i h; cases h
  | succ r ih =>
    intro i h
    have e : fnd p (r + 1) i = if p i = true then some i else fnd p r (i + 1) := rfl
    rw [e] at h
    by_cases c : p i = true
    · rw [if_pos c] at h
      cases h
      exact ⟨by omega, by omega, c⟩
    · rw [if_neg c] at h
      have := ih (i + 1) h
      exact ⟨by omega, by omega, this.2.2⟩
theorem cN_fnd {p : Nat → Bool} : ∀ n, cN p n = 0 ↔ fnd p n 0 = none := by
  intro n
  induction n with
  | zero => exact ⟨fun _ => rfl, fun _ => rfl⟩
  | succ n ih =>
    rw [fnd_snoc, Nat.zero_add]
    show cN p n + _ = 0 ↔ _
    cases hf : fnd p n 0 with
    | none =>
      have h0 := ih.mpr hf
      rw [h0]
      by_cases c : p n = true
      · rw [if_pos c]
        show 0 + 1 = 0 ↔ (if p n = true then some n else none) = none
        rw [if_pos c]
        exact ⟨fun z => by omega, fun z => by cases z⟩
      · rw [if_neg c]
        show 0 + 0 = 0 ↔ (if p n = true then some n else none) = none
        rw [if_neg c]
        exact ⟨fun _ => rfl, fun _ => rfl⟩
    | some y =>
      have h0 : ¬ cN p n = 0 := fun z => by rw [ih.mp z] at hf; cases hf
      exact ⟨fun z => by omega, fun z => by cases z⟩
def oJ (o : Option Nat) : Int32 := match o with
  | some k => nI k
  | none => -1
def oD (n P p : Nat) (o : Option Nat) : Int32 := match o with
  | none => -2
  | some x => nI (dgt n x (P - 1 - p))
section RSD
variable {T D m M : Nat} {c3 c4 : sF} {u : mU} {v : mV} {N : Nat → Nat} {d : Nat} {G S : Nat → Int32} {a b : Int32}
theorem pow_le {n P : Nat} (hn : n ≤ 4) (hP : P ≤ 5) : n ^ P ≤ 1024 := by
  have h1 : n ^ P ≤ 4 ^ P := Nat.pow_le_pow_left hn P
  have h2 : 4 ^ P ≤ 4 ^ 5 := Nat.pow_le_pow_right (by decide) hP
  omega
theorem cls_f21 {kk : Nat → Nat → Int32 → qS → Option qS} (ho : okTD T D) (hM : 88 ≤ M) (h : relC u T M N) : ∀ (r i f : Nat), i + r = N 3 → r < f → L_X2_find_21 kk f 49 T (nI (N 4 ^ i)) (nI i) (Rep (SH T D c3 c4 m) (chU u G S a b) v) = kk 49 T (nI (N 4 ^ N 3)) (Rep (SH T D c3 c4 m) (chU u G S a b) v) := by
  have b3 : N 3 ≤ 5 := (bndN_of h.1).2.2.2.1
  have hr := (ch_relC (G := G) (S := S) (a := a) (b := b) ho hM h).1
  intro r
  induction r with
  | zero =>
    intro i f hi hf
    obtain ⟨f, rfl⟩ : ∃ f', f = f' + 1 := ⟨f - 1, by omega⟩
    have c : nI (N 3) ≤ nI i := nI_le (by omega) (by omega)
    rw [L_X2_find_21, cls_c3 ho hr, Option.bind_some, if_pos c, show i = N 3 by omega]
  | succ r ih =>
    intro i f hi hf
    obtain ⟨f, rfl⟩ : ∃ f', f = f' + 1 := ⟨f - 1, by omega⟩
    have c : ¬ nI (N 3) ≤ nI i := nI_ge (by omega) (by omega)
    rw [L_X2_find_21, cls_c3 ho hr, Option.bind_some, if_neg c, cls_c4 ho hr, Option.bind_some, nI_mul, ← Nat.pow_succ, nI_1]
    exact ih (i + 1) f (by omega) (by omega)
theorem cls_f48 {gv : Nat → Nat} (ho : okTD T D) (hM : 88 ≤ M) (h : relC u T M N) (hn0 : 0 < N 4) (hG : ∀ k, k < 4 → G k = nI (gv k)) (hg : ∀ k, gv k ≤ 3) : ∀ (r x f : Nat) (S : Nat → Int32), x + r = N 4 ^ N 3 → r < f → ∃ S', L_X2_find_48 f 49 T (nI (N 4 ^ N 3)) (nI x) (Rep (SH T D c3 c4 m) (chU u G S (nI (cN (rsP gv (N 4) (N 3)) x)) (oJ (fnd (rsP gv (N 4) (N 3)) x 0))) v) = some (Rep (SH T D c3 c4 m) (chU u G S' (nI (cN (rsP gv (N 4) (N 3)) (N 4 ^ N 3))) (oJ (fnd (rsP gv (N 4) (N 3)) (N 4 ^ N 3) 0))) v) := by
  have hb := bndN_of h.1
  have b3 : N 3 ≤ 5 := hb.2.2.2.1
  have b4 : N 4 ≤ 4 := hb.2.2.2.2.1
  have hp := pow_le b4 b3
  intro r
  induction r with
  | zero =>
    intro x f S hx hf
    obtain ⟨f, rfl⟩ : ∃ f', f = f' + 1 := ⟨f - 1, by omega⟩
    have c : nI (N 4 ^ N 3) ≤ nI x := nI_le (by omega) (by omega)
    refine ⟨S, ?_⟩
    rw [L_X2_find_48, if_pos c, show x = N 4 ^ N 3 by omega]
  | succ r ih =>
    intro x f S hx hf
    obtain ⟨f, rfl⟩ : ∃ f', f = f' + 1 := ⟨f - 1, by omega⟩
    have c : ¬ nI (N 4 ^ N 3) ≤ nI x := nI_ge (by omega) (by omega)
    obtain ⟨S1, s1, s2⟩ := cls_seat (c3 := c3) (c4 := c4) (m := m) (v := v) (G := G) (S := S) (a := nI (cN (rsP gv (N 4) (N 3)) x)) (b := oJ (fnd (rsP gv (N 4) (N 3)) x 0)) ho hM h hn0 (show x < 2 ^ 20 by omega)
    have hrd : ∀ k, rid (N 4) (N 3) x k ≤ 5 := fun k => Nat.le_trans (cN_le _) b3
    have e1 := cls_isRest (T := T) (D := D) (c3 := c3) (c4 := c4) (m := m) (u := u) (v := v) (a := nI (cN (rsP gv (N 4) (N 3)) x)) (b := oJ (fnd (rsP gv (N 4) (N 3)) x 0)) b4 hG hg s1 hrd
    have e2 : decide (grR gv (rid (N 4) (N 3) x) (N 4) ≤ lsR gv (rid (N 4) (N 3) x) (N 4)) = rsP gv (N 4) (N 3) x := by
      apply Bool.eq_iff_iff.mpr
      rw [decide_eq_true_iff, rest_iff hg]
    rw [e2] at e1
    have hcs : cN (rsP gv (N 4) (N 3)) (x + 1) = cN (rsP gv (N 4) (N 3)) x + (if rsP gv (N 4) (N 3) x = true then 1 else 0) := rfl
    have hfs := fnd_snoc (p := rsP gv (N 4) (N 3)) x 0
    rw [Nat.zero_add] at hfs
    obtain ⟨S', nx⟩ := ih (x + 1) f S1 (by omega) (by omega)
    refine ⟨S', ?_⟩
    cases cr : rsP gv (N 4) (N 3) x with
    | false =>
      have hcs : cN (rsP gv (N 4) (N 3)) (x + 1) = cN (rsP gv (N 4) (N 3)) x := by
        rw [hcs, cr, if_neg (by decide)]
        exact Nat.add_zero _
      rw [cr] at hfs e1
      have hfs2 : fnd (rsP gv (N 4) (N 3)) (x + 1) 0 = fnd (rsP gv (N 4) (N 3)) x 0 := by
        rw [hfs]
        cases fnd (rsP gv (N 4) (N 3)) x 0 with
        | none => rfl
        | some y => rfl
      rw [hcs, hfs2] at nx
      rw [L_X2_find_48, if_neg c, s2, Option.bind_some, cls_c4 ho (ch_relC ho hM h).1, Option.bind_some, e1, Option.bind_some, show bI false = 0 from rfl, if_pos rfl, nI_1, nx]
    | true =>
      rw [cr, if_pos rfl] at hcs
      rw [cr] at hfs e1
      rw [hcs] at nx
      cases cf : fnd (rsP gv (N 4) (N 3)) x 0 with
      | none =>
        rw [cf] at hfs s2 e1
        have hfs2 : fnd (rsP gv (N 4) (N 3)) (x + 1) 0 = some x := hfs
        rw [hfs2] at nx
        have cj : ¬ (0 : Int32) ≤ oJ none := by decide
        rw [L_X2_find_48, if_neg c, s2, Option.bind_some, cls_c4 ho (ch_relC ho hM h).1, Option.bind_some, e1, Option.bind_some, show bI true = 1 from rfl, if_neg (by decide), gI_49_2, ch_a, Option.bind_some, pI_49_2, Option.bind_some, ch_wa, gI_49_3, ch_b, Option.bind_some, if_neg cj, pI_49_3, Option.bind_some, ch_wb, nI_1, nI_1]
        exact nx
      | some y =>
        rw [cf] at hfs s2 e1
        have hfs2 : fnd (rsP gv (N 4) (N 3)) (x + 1) 0 = some y := hfs
        rw [hfs2] at nx
        have hy := fnd_lt _ _ cf
        have cj : (0 : Int32) ≤ oJ (some y) := nI_pos' (n := y) (by omega)
        rw [L_X2_find_48, if_neg c, s2, Option.bind_some, cls_c4 ho (ch_relC ho hM h).1, Option.bind_some, e1, Option.bind_some, show bI true = 1 from rfl, if_neg (by decide), gI_49_2, ch_a, Option.bind_some, pI_49_2, Option.bind_some, ch_wa, gI_49_3, ch_b, Option.bind_some, if_pos cj, Option.bind_some, pI_49_3, Option.bind_some, ch_wb, nI_1, nI_1]
        exact nx
theorem gv_le (K : cK) (h5 : N 5 ≤ 3) : ∀ k, gvN K N d k ≤ 3 := fun k => Nat.le_trans (cN_le _) h5
theorem cls_choice (ho : okTD T D) (hM : 88 ≤ M) (h : relC u T M N) (hn0 : 0 < N 4) (hd : d < 7) : ∃ G S, f_X2_find (Rep (SH T D c3 c4 m) u v) 49 T (nI d) = some (Rep (SH T D c3 c4 m) (chU u G S (nI (cN (rsP (gvN (col u M) N d) (N 4) (N 3)) (N 4 ^ N 3))) (oJ (fnd (rsP (gvN (col u M) N d) (N 4) (N 3)) (N 4 ^ N 3) 0))) v) := by
  have hb := bndN_of h.1
  have b3 : N 3 ≤ 5 := hb.2.2.2.1
  have b4 : N 4 ≤ 4 := hb.2.2.2.2.1
  have b5 : N 5 ≤ 3 := hb.2.2.2.2.2.1
  have hp := pow_le b4 b3
  obtain ⟨G, g1, g2⟩ := cls_gv (c3 := c3) (c4 := c4) (m := m) (v := v) (G := u 51) (S := u 53) (a := 0) (b := -1) ho hM h hd
  obtain ⟨S, e⟩ := cls_f48 (c3 := c3) (c4 := c4) (m := m) (v := v) (G := G) ho hM h hn0 g1 (gv_le (col u M) b5) (N 4 ^ N 3) 0 1000000000 (u 53) (by omega) (by omega)
  have e1 := fun kk => cls_f21 (c3 := c3) (c4 := c4) (m := m) (v := v) (G := G) (S := u 53) (a := 0) (b := -1) (kk := kk) ho hM h (N 3) 0 1000000000 (by omega) (by omega)
  rw [nI_0, Nat.pow_zero, show nI 1 = (1 : Int32) from rfl] at e1
  rw [nI_0, show nI (cN (rsP (gvN (col u M) N d) (N 4) (N 3)) 0) = 0 from rfl, show oJ (fnd (rsP (gvN (col u M) N d) (N 4) (N 3)) 0 0) = -1 from rfl] at e
  refine ⟨G, S, ?_⟩
  unfold f_X2_find
  rw [gC_49, Option.bind_some, pI_49_2, Option.bind_some, pI_49_3, Option.bind_some, ch_init, g2, Option.bind_some, e1, e]
theorem cls_first35 {g : qS} {n p : Nat} (hn0 : 0 < n) (hn : n ≤ 4) : ∀ (r j f x : Nat), p + r = j → j < 100 → r < f → x < 2 ^ 20 → L_X2_firstTramOf_35 g f (nI p) (nI n) (nI x) (nI j) = some (nI (x / n ^ r % n)) := by
  intro r
  induction r with
  | zero =>
    intro j f x hj hj2 hf hx
    obtain ⟨f, rfl⟩ : ∃ f', f = f' + 1 := ⟨f - 1, by omega⟩
    have c : nI j ≤ nI p := nI_le (by omega) (by omega)
    have hne : ¬ nI n = 0 := nI_ne0 hn0 (by omega)
    rw [L_X2_firstTramOf_35, if_pos c, if_neg hne, pk_rem (by omega) hn0 (by omega), Nat.pow_zero, Nat.div_one]
  | succ r ih =>
    intro j f x hj hj2 hf hx
    obtain ⟨f, rfl⟩ : ∃ f', f = f' + 1 := ⟨f - 1, by omega⟩
    obtain ⟨j, rfl⟩ : ∃ j', j = j' + 1 := ⟨j - 1, by omega⟩
    have c : ¬ nI (j + 1) ≤ nI p := nI_ge (by omega) (by omega)
    have hne : ¬ nI n = 0 := nI_ne0 hn0 (by omega)
    rw [L_X2_firstTramOf_35, if_neg c, if_neg hne, pk_div (by omega) hn0 (by omega), pk_m1, ih j f (x / n) (by omega) (by omega) (by omega) (Nat.lt_of_le_of_lt (Nat.div_le_self _ _) hx), Nat.div_div_eq_div_mul, ← Nat.pow_succ']
theorem cls_frst {o : Option Nat} {p : Nat} (ho : okTD T D) (hM : 88 ≤ M) (h : relC u T M N) (hn0 : 0 < N 4) (hp : p < N 3) (hx : ∀ x, o = some x → x < 2 ^ 20) : f_X2_firstTramOf (Rep (SH T D c3 c4 m) (chU u G S a (oJ o)) v) 49 T (nI p) = some (oD (N 4) (N 3) p o) := by
  have hb := bndN_of h.1
  have b3 : N 3 ≤ 5 := hb.2.2.2.1
  have b4 : N 4 ≤ 4 := hb.2.2.2.2.1
  have hr := (ch_relC (G := G) (S := S) (a := a) (b := oJ o) ho hM h).1
  cases o with
  | none =>
    have c : oJ none < 0 := by decide
    simp -implicitDefEqProofs only [f_X2_firstTramOf, gC_0, gR_0_0, gR_0_1, gR_0_2, gR_0_3, gR_0_4, gR_0_5, gR_0_6, gI_0_7, gR_0_8, gC_1, gR_1_0, gI_1_1, gR_1_2, gR_1_3, gR_1_4, gI_1_5, gI_1_6, gI_1_7, gI_1_8, gI_1_9, gL_1_10, gI_1_11, gI_1_12, gI_1_13, gI_1_14, gC_27, gR_27_0, gC_30, gR_30_0, gR_30_1, gI_30_2, gI_30_3, gI_30_4, gC_35, gR_35_0, gR_35_1, gI_35_2, gC_36, gR_36_0, gC_41, gR_41_0, gI_41_1, gI_41_2, gC_44, gR_44_0, gR_44_1, gI_44_2, gI_44_3, gC_49, gR_49_0, gR_49_1, gI_49_2, gI_49_3, gC_75, gI_75_0, gI_75_1, gI_75_2, gR_75_5, gI_75_6, gI_75_7, gI_75_8, gI_75_9, gI_75_10, gI_75_11, gI_75_12, gI_75_13, gL_75_14, gR_75_15, gR_75_16, gR_75_17, gR_75_18, gI_75_19, gI_75_20, gR_75_21, gR_75_22, gR_75_23, gI_75_24, gR_75_25, gI_75_26, gL_75_27, gL_75_28, gR_75_29, gR_75_30, gI_75_31, gR_75_3, gQ_75_3, gN_75_3, gR_75_4, gQ_75_4, gN_75_4, pI_0_7, pI_1_1, pI_1_5, pI_1_6, pI_1_7, pI_1_8, pI_1_9, pL_1_10, pI_1_11, pI_1_12, pI_1_13, pI_1_14, pI_30_2, pI_30_3, pI_30_4, pI_35_2, pI_41_1, pZ0_41_1, pZ1_41_1, pI_41_2, pI_44_2, pZ0_44_2, pZ1_44_2, pI_44_3, pI_49_2, pI_49_3, pI_75_0, pI_75_1, pI_75_2, pI_75_6, pI_75_7, pI_75_8, pI_75_9, pI_75_10, pI_75_11, pI_75_12, pI_75_13, pL_75_14, pI_75_19, pI_75_20, pI_75_24, pI_75_26, pL_75_27, pL_75_28, pI_75_31, Option.bind_some, q_b2_some, q_zr_0, q_zr_1, x10_fine, x10_refused, x12_good, x12_refused, cls_c4 ho hr, ch_b, c, if_true, oD]
  | some x =>
    have hx := hx x rfl
    have c : ¬ oJ (some x) < 0 := nI_pos (n := x) (by omega)
    have c2 : (0 : Int32) < nI (N 4) := nI_lt (a := 0) hn0 (by omega)
    have e3 : nI (N 3) - 1 = nI (N 3 - 1) := by
      obtain ⟨k, hk⟩ : ∃ k, N 3 = k + 1 := ⟨N 3 - 1, by omega⟩
      rw [hk, nI_pred]
      rfl
    have e := cls_first35 (g := Rep (SH T D c3 c4 m) (chU u G S a (oJ (some x))) v) (n := N 4) (p := p) hn0 b4 (N 3 - 1 - p) (N 3 - 1) 1000000000 x (by omega) (by omega) (by omega) hx
    simp -implicitDefEqProofs only [f_X2_firstTramOf, gC_0, gR_0_0, gR_0_1, gR_0_2, gR_0_3, gR_0_4, gR_0_5, gR_0_6, gI_0_7, gR_0_8, gC_1, gR_1_0, gI_1_1, gR_1_2, gR_1_3, gR_1_4, gI_1_5, gI_1_6, gI_1_7, gI_1_8, gI_1_9, gL_1_10, gI_1_11, gI_1_12, gI_1_13, gI_1_14, gC_27, gR_27_0, gC_30, gR_30_0, gR_30_1, gI_30_2, gI_30_3, gI_30_4, gC_35, gR_35_0, gR_35_1, gI_35_2, gC_36, gR_36_0, gC_41, gR_41_0, gI_41_1, gI_41_2, gC_44, gR_44_0, gR_44_1, gI_44_2, gI_44_3, gC_49, gR_49_0, gR_49_1, gI_49_2, gI_49_3, gC_75, gI_75_0, gI_75_1, gI_75_2, gR_75_5, gI_75_6, gI_75_7, gI_75_8, gI_75_9, gI_75_10, gI_75_11, gI_75_12, gI_75_13, gL_75_14, gR_75_15, gR_75_16, gR_75_17, gR_75_18, gI_75_19, gI_75_20, gR_75_21, gR_75_22, gR_75_23, gI_75_24, gR_75_25, gI_75_26, gL_75_27, gL_75_28, gR_75_29, gR_75_30, gI_75_31, gR_75_3, gQ_75_3, gN_75_3, gR_75_4, gQ_75_4, gN_75_4, pI_0_7, pI_1_1, pI_1_5, pI_1_6, pI_1_7, pI_1_8, pI_1_9, pL_1_10, pI_1_11, pI_1_12, pI_1_13, pI_1_14, pI_30_2, pI_30_3, pI_30_4, pI_35_2, pI_41_1, pZ0_41_1, pZ1_41_1, pI_41_2, pI_44_2, pZ0_44_2, pZ1_44_2, pI_44_3, pI_49_2, pI_49_3, pI_75_0, pI_75_1, pI_75_2, pI_75_6, pI_75_7, pI_75_8, pI_75_9, pI_75_10, pI_75_11, pI_75_12, pI_75_13, pL_75_14, pI_75_19, pI_75_20, pI_75_24, pI_75_26, pL_75_27, pL_75_28, pI_75_31, Option.bind_some, q_b2_some, q_zr_0, q_zr_1, x10_fine, x10_refused, x12_good, x12_refused, cls_c4 ho hr, cls_c3 ho hr, ch_b, c, if_false, c2, if_true, e3]
    exact e
end RSD
