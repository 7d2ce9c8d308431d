theorem mn_N {a b : Nat} (ha : a < 2 ^ 31) (hb : b < 2 ^ 31) : q_mn (nI a) (nI b) = nI (min a b) := by
  unfold q_mn
  by_cases c : b < a
  · rw [if_pos (nI_lt c ha), Nat.min_eq_right (by omega)]
  · rw [if_neg (nI_nlt (by omega) hb), Nat.min_eq_left (by omega)]
section TB4
variable {sh : mS} {u : mU} {v : mV} {r a : Nat}
theorem get4 {k : Nat} (h : tSh sh r a 1 4) (hk : k < 4) : f_X8_get (Rep sh u v) r 0 (nI k) = some (u a k) := by
  rw [tab_get h, show (0 : Int32) = nI 0 from nI_0.symm, tG_in (by decide) (by decide) (by decide) hk, Nat.zero_mul, Nat.zero_add]
theorem add4 {k : Nat} (h : tSh sh r a 1 4) (hk : k < 4) : f_X8_add (Rep sh u v) r 0 (nI k) 1 = some (Rep sh (put u a (upd (u a) k (u a k + 1))) v) := by
  rw [tab_add h, show (0 : Int32) = nI 0 from nI_0.symm, tG_in (by decide) (by decide) (by decide) hk, tS_in (by decide) (by decide) (by decide) hk, Nat.zero_mul, Nat.zero_add, wr_put]
theorem add4_out (h : tSh sh r a 1 4) : f_X8_add (Rep sh u v) r 0 (-2) 1 = some (Rep sh u v) := by
  rw [tab_add h]
  unfold tS
  rw [if_pos (Or.inr (Or.inr (Or.inl (by decide))))]
theorem fill4 (h : tSh sh r a 1 4) : f_X8_fill (Rep sh u v) r 0 = some (Rep sh (put u a (fun j => if j < 4 then 0 else u a j)) v) := by
  rw [tab_fill h]
  refine congrArg (fun x => some (Rep sh x v)) ?_
  funext q j
  unfold tF put
  by_cases c : q = a
  · subst c
    rw [if_pos rfl]
    by_cases c2 : j < 4
    · rw [if_pos ⟨rfl, c2⟩]
      exact (if_pos c2).symm
    · rw [if_neg (fun z => c2 z.2)]
      exact (if_neg c2).symm
  · rw [if_neg (fun z => c z.1), if_neg c]
end TB4
/-- what the class's choice leaves -/
def chU (u : mU) (G S : Nat → Int32) (a b : Int32) : mU := wr (wr (put (put u 51 G) 53 S) 49 2 a) 49 3 b
def gvN (K : cK) (N : Nat → Nat) (d k : Nat) : Nat := cN (fun g => decide (K 12 (7 * g + d) = nI k)) (N 5)
section RSC
variable {T D m M : Nat} {c3 c4 : sF} {u : mU} {v : mV} {N : Nat → Nat} {d : Nat} {G S : Nat → Int32} {a b : Int32}
theorem SH_gv : tSh (SH T D c3 c4 m) 50 51 1 4 := ⟨rfl, rfl, by decide, by decide⟩
theorem SH_st : tSh (SH T D c3 c4 m) 52 53 1 4 := ⟨rfl, rfl, by decide, by decide⟩
theorem ch_51 : chU u G S a b 51 = G := by unfold chU; rw [wr_off (by decide), wr_off (by decide), put_ne (by decide), put_at]
theorem ch_53 : chU u G S a b 53 = S := by unfold chU; rw [wr_off (by decide), wr_off (by decide), put_at]
theorem ch_a : chU u G S a b 49 2 = a := by unfold chU; rw [wr_ix (by decide), wr_same]
theorem ch_b : chU u G S a b 49 3 = b := wr_same _ _ _ _
theorem ch_q {q : Nat} (h1 : q ≠ 49) (h2 : q ≠ 51) (h3 : q ≠ 53) : chU u G S a b q = u q := by unfold chU; rw [wr_off h1, wr_off h1, put_ne h3, put_ne h2]
theorem ch_relC (ho : okTD T D) (hM : 88 ≤ M) (h : relC u T M N) : relC (chU u G S a b) T M N := by
  have hT : T = 54 ∨ T = 3 := by rcases ho with ⟨rfl, rfl⟩ | ⟨rfl, rfl⟩ <;> simp
  exact relC_congr (fun i hi => ch_q (by omega) (by omega) (by omega)) (fun i => ch_q (by omega) (by omega) (by omega)) h
theorem ch_col (hM : 88 ≤ M) : col (chU u G S a b) M = col u M := funext fun i => ch_q (by omega) (by omega) (by omega)
theorem ch_pG {G' : Nat → Int32} : put (chU u G S a b) 51 G' = chU u G' S a b := by
  funext q j
  unfold chU
  by_cases h1 : q = 51
  · subst h1
    rw [put_at, wr_role (by decide), wr_role (by decide), put_ne (by decide), put_at]
  · rw [put_ne h1]
    unfold wr
    by_cases h2 : q = 53
    · subst h2; rw [put_at, put_at]
    · rw [put_ne h2, put_ne h2, put_ne h1, put_ne h1]
theorem ch_pS {S' : Nat → Int32} : put (chU u G S a b) 53 S' = chU u G S' a b := by
  funext q j
  unfold chU
  by_cases h2 : q = 53
  · subst h2
    rw [put_at, wr_role (by decide), wr_role (by decide), put_at]
  · rw [put_ne h2]
    unfold wr
    rw [put_ne h2, put_ne h2]
theorem ch_wa {x : Int32} : wr (chU u G S a b) 49 2 x = chU u G S x b := by
  funext q j
  unfold chU wr
  by_cases h1 : q = 49 ∧ j = 2
  · rw [if_pos h1, if_neg (by omega), if_pos h1]
  · rw [if_neg h1, if_neg h1, if_neg h1]
theorem ch_wb {x : Int32} : wr (chU u G S a b) 49 3 x = chU u G S a x := by
  funext q j
  unfold chU wr
  by_cases h1 : q = 49 ∧ j = 3
  · rw [if_pos h1, if_pos h1]
  · rw [if_neg h1, if_neg h1, if_neg h1]
theorem ch_init : wr (wr u 49 2 a) 49 3 b = chU u (u 51) (u 53) a b := by
  unfold chU
  rw [put_self, put_self]
theorem keep_ch : keep u (chU u G S a b) := keep_wr (keep_wr (keep_put (keep_put keep_refl (fun _ => rfl)) (fun _ => rfl)) rfl) rfl
abbrev gP (K : cK) (d k g : Nat) : Bool := decide (K 12 (7 * g + d) = nI k)
theorem cls_gv10 (ho : okTD T D) (hM : 88 ≤ M) (h : relC u T M N) (hd : d < 7) : ∀ (r g f : Nat) (G : Nat → Int32), g + r = N 5 → r < f → (∀ k, k < 4 → G k = nI (cN (gP (col u M) d k) g)) → ∃ G', (∀ k, k < 4 → G' k = nI (gvN (col u M) N d k)) ∧ L_X2_countGivers_10 f 49 T (nI d) (nI g) (Rep (SH T D c3 c4 m) (chU u G S a b) v) = some (Rep (SH T D c3 c4 m) (chU u G' S a b) v) := by
  have hC := SH_told (c3 := c3) (c4 := c4) (m := m) ho
  have hb := bndN_of h.1
  have b4 : N 4 ≤ 4 := hb.2.2.2.2.1
  have b5 : N 5 ≤ 3 := hb.2.2.2.2.2.1
  intro r
  induction r with
  | zero =>
    intro g f G hg hf hG
    obtain ⟨f, rfl⟩ : ∃ f', f = f' + 1 := ⟨f - 1, by omega⟩
    have c : nI (N 5) ≤ nI g := nI_le (by omega) (by omega)
    refine ⟨G, fun k hk => ?_, ?_⟩
    · rw [hG k hk, show g = N 5 by omega]
      rfl
    · simp -implicitDefEqProofs only [L_X2_countGivers_10, cls_c5 ho (ch_relC ho hM h).1, Option.bind_some, c, if_true]
  | succ r ih =>
    intro g f G hg hf hG
    obtain ⟨f, rfl⟩ : ∃ f', f = f' + 1 := ⟨f - 1, by omega⟩
    have c : ¬ nI (N 5) ≤ nI g := nI_ge (by omega) (by omega)
    have hr := ch_relC (G := G) (S := S) (a := a) (b := b) ho hM h
    have e1 := take_at hr hb (show g < N 5 by omega) hd
    have o1 := (hr.2.2.2.2.2.2.1 g d (by omega) hd).2
    have ecol : chU u G S a b (M + 12) (7 * g + d) = col u M 12 (7 * g + d) := by
      rw [ch_q (by omega) (by omega) (by omega)]
      rfl
    rw [ecol] at e1 o1
    have hstep : ∀ k, cN (gP (col u M) d k) (g + 1) = cN (gP (col u M) d k) g + (if gP (col u M) d k g = true then 1 else 0) := fun k => rfl
    rcases o1 with z | ⟨t, htt, z⟩
    · rw [z] at e1
      obtain ⟨G', q1, q2⟩ := ih (g + 1) f G (by omega) (by omega) (fun k hk => by
        have hf : gP (col u M) d k g = false := by
          unfold gP
          rw [z]
          exact decide_eq_false (fun y => absurd (show nI k < 0 by rw [← y]; decide) (nI_pos (by omega)))
        rw [hG k hk, hstep, hf, if_neg (by decide), Nat.add_zero])
      refine ⟨G', q1, ?_⟩
      simp -implicitDefEqProofs only [L_X2_countGivers_10, cls_c5 ho hr.1, Option.bind_some, c, if_false, gR_49_0, cC, cR_0, cG_0, cR_1, cG_1, cR_2, cG_2, cR_3, cG_3, cR_4, cG_4, cR_5, cG_5, cR_6, cG_6, cR_7, cG_7, cR_8, cG_8, cR_9, cG_9, hC, e1, add4_out SH_gv, nI_1]
      exact q2
    · rw [z] at e1
      obtain ⟨G', q1, q2⟩ := ih (g + 1) f (upd G t (G t + 1)) (by omega) (by omega) (fun k hk => by
        rw [upd_at, hstep]
        by_cases ck : k = t
        · have hf : gP (col u M) d k g = true := by
            unfold gP
            rw [z, ck]
            exact decide_eq_true rfl
          rw [if_pos ck, ← ck, hG k hk, hf, if_pos rfl, nI_1]
        · have hf : gP (col u M) d k g = false := by
            unfold gP
            rw [z]
            exact decide_eq_false (fun y => ck ((nI_eq (by omega) (by omega)).mp y).symm)
          rw [if_neg ck, hG k hk, hf, if_neg (by decide), Nat.add_zero])
      refine ⟨G', q1, ?_⟩
      simp -implicitDefEqProofs only [L_X2_countGivers_10, cls_c5 ho hr.1, Option.bind_some, c, if_false, gR_49_0, cC, cR_0, cG_0, cR_1, cG_1, cR_2, cG_2, cR_3, cG_3, cR_4, cG_4, cR_5, cG_5, cR_6, cG_6, cR_7, cG_7, cR_8, cG_8, cR_9, cG_9, hC, e1, add4 SH_gv (show t < 4 by omega), ch_51, ch_pG, nI_1]
      exact q2
theorem cls_gv (ho : okTD T D) (hM : 88 ≤ M) (h : relC u T M N) (hd : d < 7) : ∃ G', (∀ k, k < 4 → G' k = nI (gvN (col u M) N d k)) ∧ f_X2_countGivers (Rep (SH T D c3 c4 m) (chU u G S a b) v) 49 T (nI d) = some (Rep (SH T D c3 c4 m) (chU u G' S a b) v) := by
  have b5 : N 5 ≤ 3 := (bndN_of h.1).2.2.2.2.2.1
  obtain ⟨G', q1, q2⟩ := cls_gv10 (c3 := c3) (c4 := c4) (m := m) (v := v) (S := S) (a := a) (b := b) ho hM h hd (N 5) 0 1000000000 (fun j => if j < 4 then 0 else G j) (by omega) (by omega) (fun k hk => by
    show (if k < 4 then (0 : Int32) else G k) = _
    rw [if_pos hk]
    rfl)
  refine ⟨G', q1, ?_⟩
  rw [nI_0] at q2
  have e := fill4 (u := chU u G S a b) (v := v) (SH_gv (T := T) (D := D) (c3 := c3) (c4 := c4) (m := m))
  rw [ch_pG, ch_51] at e
  unfold f_X2_countGivers
  rw [gC_49, Option.bind_some, gR_49_0, Option.bind_some, e, Option.bind_some, q2]
theorem cls_seat25 {n x : Nat} (ho : okTD T D) (hM : 88 ≤ M) (h : relC u T M N) (hn : n = N 4) (hn0 : 0 < n) (hx : x < 2 ^ 20) : ∀ (r p f : Nat) (S : Nat → Int32), p + r = N 3 → r < f → (∀ k, k < 4 → S k = nI (cN (fun j => decide (dgt n x j = k)) p)) → ∃ S', (∀ k, k < 4 → S' k = nI (rid n (N 3) x k)) ∧ L_X2_seat_25 f 49 T (nI n) (nI (x / n ^ p)) (nI p) (Rep (SH T D c3 c4 m) (chU u G S a b) v) = some (Rep (SH T D c3 c4 m) (chU u G S' a b) v) := by
  have hb := bndN_of h.1
  have b4 : N 4 ≤ 4 := hb.2.2.2.2.1
  have b3 : N 3 ≤ 5 := hb.2.2.2.1
  intro r
  induction r with
  | zero =>
    intro p f S hp hf hS
    obtain ⟨f, rfl⟩ : ∃ f', f = f' + 1 := ⟨f - 1, by omega⟩
    have c : nI (N 3) ≤ nI p := nI_le (by omega) (by omega)
    refine ⟨S, fun k hk => ?_, ?_⟩
    · rw [hS k hk, show p = N 3 by omega]
      rfl
    · simp -implicitDefEqProofs only [L_X2_seat_25, cls_c3 ho (ch_relC ho hM h).1, Option.bind_some, c, if_true]
  | succ r ih =>
    intro p f S hp hf hS
    obtain ⟨f, rfl⟩ : ∃ f', f = f' + 1 := ⟨f - 1, by omega⟩
    have c : ¬ nI (N 3) ≤ nI p := nI_ge (by omega) (by omega)
    have hxp : x / n ^ p < 2 ^ 20 := Nat.lt_of_le_of_lt (Nat.div_le_self _ _) hx
    have e1 := pk_rem (a := x / n ^ p) (d := n) (by omega) hn0 (by omega)
    have e2 := pk_div (a := x / n ^ p) (d := n) (by omega) hn0 (by omega)
    have hne : ¬ nI n = 0 := nI_ne0 hn0 (by omega)
    have hdl : dgt n x p < 4 := by have := dgt_lt (x := x) (j := p) hn0; omega
    have e1 : nI (x / n ^ p) - nI (x / n ^ p) / nI n * nI n = nI (dgt n x p) := e1
    have hq : x / n ^ p / n = x / n ^ (p + 1) := by rw [Nat.div_div_eq_div_mul, ← Nat.pow_succ]
    rw [hq] at e2
    have hstep : ∀ k, cN (fun j => decide (dgt n x j = k)) (p + 1) = cN (fun j => decide (dgt n x j = k)) p + (if decide (dgt n x p = k) = true then 1 else 0) := fun k => rfl
    obtain ⟨S', q1, q2⟩ := ih (p + 1) f (upd S (dgt n x p) (S (dgt n x p) + 1)) (by omega) (by omega) (fun k hk => by
      rw [upd_at, hstep]
      by_cases ck : k = dgt n x p
      · rw [if_pos ck, ← ck, hS k hk, decide_eq_true rfl, if_pos rfl, nI_1]
      · rw [if_neg ck, hS k hk, decide_eq_false (fun y => ck y.symm), if_neg (by decide), Nat.add_zero])
    refine ⟨S', q1, ?_⟩
    rw [L_X2_seat_25, cls_c3 ho (ch_relC ho hM h).1, Option.bind_some, if_neg c, gR_49_1, Option.bind_some, if_neg hne, e1, add4 SH_st hdl, ch_53, Option.bind_some, if_neg hne, ch_pS, e2, nI_1, q2]
theorem cls_seat {x : Nat} (ho : okTD T D) (hM : 88 ≤ M) (h : relC u T M N) (hn0 : 0 < N 4) (hx : x < 2 ^ 20) : ∃ S', (∀ k, k < 4 → S' k = nI (rid (N 4) (N 3) x k)) ∧ f_X2_seat (Rep (SH T D c3 c4 m) (chU u G S a b) v) 49 T (nI x) = some (Rep (SH T D c3 c4 m) (chU u G S' a b) v) := by
  have hb := bndN_of h.1
  have b4 : N 4 ≤ 4 := hb.2.2.2.2.1
  have b3 : N 3 ≤ 5 := hb.2.2.2.1
  obtain ⟨S', q1, q2⟩ := cls_seat25 (c3 := c3) (c4 := c4) (m := m) (v := v) (G := G) (a := a) (b := b) ho hM h rfl hn0 hx (N 3) 0 1000000000 (fun j => if j < 4 then 0 else S j) (by omega) (by omega) (fun k hk => by
    show (if k < 4 then (0 : Int32) else S k) = _
    rw [if_pos hk]
    rfl)
  refine ⟨S', q1, ?_⟩
  rw [Nat.pow_zero, Nat.div_one, nI_0] at q2
  have e := fill4 (u := chU u G S a b) (v := v) (SH_st (T := T) (D := D) (c3 := c3) (c4 := c4) (m := m))
  rw [ch_pS, ch_53] at e
  have c0 : (0 : Int32) < nI (N 4) := nI_lt (a := 0) hn0 (by omega)
  unfold f_X2_seat
  rw [gC_49, Option.bind_some, cls_c4 ho (ch_relC ho hM h).1, Option.bind_some, if_pos c0, gR_49_1, Option.bind_some, e, Option.bind_some, q2]
theorem cls_share {gv : Nat → Nat} {k r : Nat} (hG : ∀ k, k < 4 → G k = nI (gv k)) (hg : ∀ k, gv k ≤ 3) (hk : k < 4) (hr : 0 < r) (hr2 : r < 100) : f_X2_share (Rep (SH T D c3 c4 m) (chU u G S a b) v) 49 (nI k) (nI r) = some (nI (shr gv k r)) := by
  have c0 : (0 : Int32) < nI r := nI_lt (a := 0) hr (by omega)
  have hne : ¬ nI r = 0 := nI_ne0 hr (by omega)
  have := hg k
  unfold f_X2_share shr
  rw [gC_49, Option.bind_some, if_pos c0, gR_49_0, Option.bind_some, get4 SH_gv hk, ch_51, hG k hk, Option.bind_some, if_neg hne, show (60 : Int32) = nI 60 from rfl, nI_mul, pk_div (by omega) hr (by omega)]
theorem lsR_le {gv rd : Nat → Nat} : ∀ k, lsR gv rd k ≤ 180 := by
  intro k
  induction k with
  | zero => exact Nat.le_refl _
  | succ k ih =>
    unfold lsR
    split
    · exact ih
    · exact Nat.le_trans (Nat.min_le_left _ _) ih
theorem grR_le {gv rd : Nat → Nat} (hg : ∀ k, gv k ≤ 3) : ∀ k, grR gv rd k ≤ 180 := fun k => (gr_iff k).mpr (fun j _ => shr_le (hg j))
theorem cls_isRest {gv rd : Nat → Nat} {n : Nat} (hn : n ≤ 4) (hG : ∀ k, k < 4 → G k = nI (gv k)) (hg : ∀ k, gv k ≤ 3) (hS : ∀ k, k < 4 → S k = nI (rd k)) (hrd : ∀ k, rd k ≤ 5) : f_X2_isRest (Rep (SH T D c3 c4 m) (chU u G S a b) v) 49 (nI n) = some (bI (decide (grR gv rd n ≤ lsR gv rd n))) := by
  have go : ∀ (r k f : Nat), k + r = n → r < f → L_X2_isRest_9 (Rep (SH T D c3 c4 m) (chU u G S a b) v) f 49 (nI n) (nI (lsR gv rd k)) (nI (grR gv rd k)) (nI k) = some (bI (decide (grR gv rd n ≤ lsR gv rd n))) := by
    intro r
    induction r with
    | zero =>
      intro k f hk hf
      obtain ⟨f, rfl⟩ : ∃ f', f = f' + 1 := ⟨f - 1, by omega⟩
      have c : nI n ≤ nI k := nI_le (by omega) (by omega)
      have hkn : k = n := by omega
      subst hkn
      have h1 := lsR_le (gv := gv) (rd := rd) k
      have h2 := grR_le (rd := rd) hg k
      have p1 : (nI (lsR gv rd k) < nI (grR gv rd k)) = (lsR gv rd k < grR gv rd k) := propext (nI_ltI (by omega) (by omega))
      rw [L_X2_isRest_9, if_pos c]
      simp -implicitDefEqProofs only [p1]
      by_cases cc : lsR gv rd k < grR gv rd k
      · rw [if_pos cc, decide_eq_false (by omega)]
        rfl
      · rw [if_neg cc, decide_eq_true (by omega)]
        rfl
    | succ r ih =>
      intro k f hk hf
      obtain ⟨f, rfl⟩ : ∃ f', f = f' + 1 := ⟨f - 1, by omega⟩
      have c : ¬ nI n ≤ nI k := nI_ge (by omega) (by omega)
      have k4 : k < 4 := by omega
      have hrk := hrd k
      have h1 := lsR_le (gv := gv) (rd := rd) k
      have h2 := grR_le (rd := rd) hg k
      have s1 := cls_share (T := T) (D := D) (c3 := c3) (c4 := c4) (m := m) (u := u) (v := v) (S := S) (a := a) (b := b) (r := rd k + 1) hG hg k4 (by omega) (by omega)
      have hs1 := shr_le (k := k) (r := rd k + 1) (hg k)
      have hs0 := shr_le (k := k) (r := rd k) (hg k)
      have nx := ih (k + 1) f (by omega) (by omega)
      rw [show grR gv rd (k + 1) = max (grR gv rd k) (shr gv k (rd k + 1)) from rfl] at nx
      by_cases c0 : rd k = 0
      · have p0 : nI (rd k) ≤ 0 := by rw [c0]; decide
        rw [show lsR gv rd (k + 1) = lsR gv rd k from if_pos c0] at nx
        rw [L_X2_isRest_9, if_neg c, gR_49_1, Option.bind_some, get4 SH_st k4, ch_53, hS k k4, Option.bind_some, if_pos p0, J_X2_isRest_45, nI_1, s1, Option.bind_some, mx_N (by omega) (by omega), nI_1, nx]
      · have p0 : ¬ nI (rd k) ≤ 0 := nI_nle (by omega) (by omega)
        have s2 := cls_share (T := T) (D := D) (c3 := c3) (c4 := c4) (m := m) (u := u) (v := v) (S := S) (a := a) (b := b) (r := rd k) hG hg k4 (by omega) (by omega)
        rw [show lsR gv rd (k + 1) = min (lsR gv rd k) (shr gv k (rd k)) from if_neg c0] at nx
        rw [L_X2_isRest_9, if_neg c, gR_49_1, Option.bind_some, get4 SH_st k4, ch_53, hS k k4, Option.bind_some, if_neg p0, s2, Option.bind_some, J_X2_isRest_45, nI_1, s1, Option.bind_some, mx_N (by omega) (by omega), mn_N (by omega) (by omega), nI_1, nx]
  have e := go n 0 1000000000 (by omega) (by omega)
  unfold f_X2_isRest
  rw [gC_49, Option.bind_some]
  exact e
end RSC
