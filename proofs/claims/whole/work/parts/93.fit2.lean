theorem set4 {sh : mS} {u : mU} {v : mV} {r a k : Nat} {z : Int32} (h : tSh sh r a 1 4) (hk : k < 4) : f_X8_set (Rep sh u v) r 0 (nI k) z = some (Rep sh (put u a (upd (u a) k z)) v) := by
  rw [tab_set h, show (0 : Int32) = nI 0 from nI_0.symm, tS_in (by decide) (by decide) (by decide) hk, Nat.zero_mul, Nat.zero_add, wr_put]
/-- what the class's WhoGave leaves -/
def whU (u : mU) (C G : Nat → Int32) (a : Int32) : mU := wr (put (put u 46 C) 48 G) 44 3 a
section WHC
variable {T D m M : Nat} {c3 c4 : sF} {u : mU} {v : mV} {N : Nat → Nat} {C G : Nat → Int32} {a : Int32}
theorem SH_ch : tSh (SH T D c3 c4 m) 45 46 1 4 := ⟨rfl, rfl, by decide, by decide⟩
theorem SH_gs : tSh (SH T D c3 c4 m) 47 48 1 4 := ⟨rfl, rfl, by decide, by decide⟩
theorem wh_46 : whU u C G a 46 = C := by unfold whU; rw [wr_off (by decide), put_ne (by decide), put_at]
theorem wh_48 : whU u C G a 48 = G := by unfold whU; rw [wr_off (by decide), put_at]
theorem wh_a : whU u C G a 44 3 = a := wr_same _ _ _ _
theorem wh_q {q : Nat} (h1 : q ≠ 44) (h2 : q ≠ 46) (h3 : q ≠ 48) : whU u C G a q = u q := by unfold whU; rw [wr_off h1, put_ne h3, put_ne h2]
theorem wh_relC (ho : okTD T D) (hM : 88 ≤ M) (h : relC u T M N) : relC (whU u C G a) T M N := by
  have hT : T = 54 ∨ T = 3 := by rcases ho with ⟨rfl, rfl⟩ | ⟨rfl, rfl⟩ <;> simp
  exact relC_congr (fun i hi => wh_q (by omega) (by omega) (by omega)) (fun i => wh_q (by omega) (by omega) (by omega)) h
theorem wh_col (hM : 88 ≤ M) : col (whU u C G a) M = col u M := funext fun i => wh_q (by omega) (by omega) (by omega)
theorem wh_pC {C' : Nat → Int32} : put (whU u C G a) 46 C' = whU u C' G a := by
  funext q j
  unfold whU
  by_cases h1 : q = 46
  · subst h1
    rw [put_at, wr_role (by decide), put_ne (by decide), put_at]
  · rw [put_ne h1]
    unfold wr
    by_cases h2 : q = 48
    · subst h2; rw [put_at, put_at]
    · rw [put_ne h2, put_ne h2, put_ne h1, put_ne h1]
theorem wh_pG {G' : Nat → Int32} : put (whU u C G a) 48 G' = whU u C G' a := by
  funext q j
  unfold whU
  by_cases h2 : q = 48
  · subst h2
    rw [put_at, wr_role (by decide), put_at]
  · rw [put_ne h2]
    unfold wr
    rw [put_ne h2, put_ne h2]
theorem wh_wa {x : Int32} : wr (whU u C G a) 44 3 x = whU u C G x := wr_wr
/-- the found things of the class -/
theorem fnd_c (ho : okTD T D) (hM : 88 ≤ M) (h : relC u T M N) {k : Nat} (hk : k < N 8) : fT (col u M) k < N 2 ∧ fP (col u M) k < N 3 ∧ tG (whU u C G a) (T + 12) 4 2 (nI k) 0 = nI (fT (col u M) k) ∧ tG (whU u C G a) (T + 12) 4 2 (nI k) 1 = nI (fP (col u M) k) := by
  have hr := wh_relC (C := C) (G := G) (a := a) ho hM h
  have b3 : N 3 ≤ 5 := (bndN_of h.1).2.2.2.1
  obtain ⟨t, p, ht, hp, e0, e1, e2, e3, e4⟩ := fnd_at hr hk
  rw [wh_col hM] at e0
  have e5 : fT (col u M) k = t := e0
  have e6 : fP (col u M) k = p := by
    show kI (col u M) 3 (kI (col u M) 4 k) = p
    rw [e0]
    show (u (M + 3) t).toNatClampNeg = p
    rw [show u (M + 3) t = nI p by rw [← e2, wh_q (by omega) (by omega) (by omega)], nI_clamp (by omega)]
  rw [e5, e6]
  exact ⟨ht, hp, e3, e4⟩
theorem cls_count {ch : Nat → Nat} {n : Nat} (ho : okTD T D) (hM : 88 ≤ M) (h : relC u T M N) (hC : ∀ j, j < N 8 → C j = nI (ch j % 3)) : f_X9_countRow (Rep (SH T D c3 c4 m) (whU u C G (nI n)) v) 44 T = some (Rep (SH T D c3 c4 m) (whU u C (fLeaf (col u M) (N 8) ch (n, G)).2 (nI (fLeaf (col u M) (N 8) ch (n, G)).1)) v) := by
  have hCt := SH_told (c3 := c3) (c4 := c4) (m := m) ho
  have hb := bndN_of h.1
  have b8 : N 8 ≤ 4 := hb.2.2.2.2.2.2.2.2.1
  have b2 : N 2 ≤ 4 := hb.2.2.1
  have go : ∀ (r j f : Nat) (G : Nat → Int32), j + r = N 8 → r < f → L_X9_countRow_12 f 44 T (nI j) (Rep (SH T D c3 c4 m) (whU u C G (nI (n + 1))) v) = some (Rep (SH T D c3 c4 m) (whU u C (lp (fun j cd => upd cd (fT (col u M) j) (cd (fT (col u M) j) ||| sbit (ch j % 3))) r j G) (nI (n + 1))) v) := by
    intro r
    induction r with
    | zero =>
      intro j f G hj hf
      obtain ⟨f, rfl⟩ : ∃ f', f = f' + 1 := ⟨f - 1, by omega⟩
      have c : nI (N 8) ≤ nI j := nI_le (by omega) (by omega)
      simp -implicitDefEqProofs only [L_X9_countRow_12, cls_c8 ho (wh_relC ho hM h).1, Option.bind_some, c, if_true, lp]
    | succ r ih =>
      intro j f G hj hf
      obtain ⟨f, rfl⟩ : ∃ f', f = f' + 1 := ⟨f - 1, by omega⟩
      have c : ¬ nI (N 8) ≤ nI j := nI_ge (by omega) (by omega)
      obtain ⟨ht, hp, e1, e2⟩ := fnd_c (C := C) (G := G) (a := nI (n + 1)) ho hM h (show j < N 8 by omega)
      have ht4 : fT (col u M) j < 4 := by omega
      have hj4 : j < 4 := by omega
      simp -implicitDefEqProofs only [L_X9_countRow_12, cls_c8 ho (wh_relC ho hM h).1, Option.bind_some, c, if_false, cC, cR_0, cG_0, cR_1, cG_1, cR_2, cG_2, cR_3, cG_3, cR_4, cG_4, cR_5, cG_5, cR_6, cG_6, cR_7, cG_7, cR_8, cG_8, cR_9, cG_9, hCt, e1, gR_44_0, gR_44_1, get4 SH_gs ht4, get4 SH_ch hj4, wh_48, wh_46, hC j (by omega), set4 SH_gs ht4, wh_pG, nI_1, lp]
      exact ih (j + 1) f _ (by omega) (by omega)
  have e := go (N 8) 0 1000000000 G (by omega) (by omega)
  rw [nI_0] at e
  unfold f_X9_countRow
  rw [gC_44, Option.bind_some, gI_44_3, Option.bind_some, wh_a, pI_44_3, Option.bind_some, wh_wa, nI_1, e]
  rfl
def clH (K : cK) (N : Nat → Nat) (u : mU) (v : mV) (T D m : Nat) (c3 c4 : sF) (r k d : Nat) : Prop := ∀ (ch : Nat → Nat) (C G : Nat → Int32) (n : Nat) (busy : Int32), (∀ j, j < k → C j = nI (ch j % 3)) → BZ busy ch k → ∃ C', (∀ j, j < k → C' j = nI (ch j % 3)) ∧ f_X9_choose d (Rep (SH T D c3 c4 m) (whU u C G (nI n)) v) 44 T (nI k) busy = some (Rep (SH T D c3 c4 m) (whU u C' (fitR K N (N 8) r k ch (n, G)).2 (nI (fitR K N (N 8) r k ch (n, G)).1)) v)
abbrev fStp (K : cK) (N : Nat → Nat) (r k : Nat) (ch : Nat → Nat) (d g : Nat) (st : fS) : fS := if (okG K N k d g && fre ch k (3 * d + g)) = true then fitR K N (N 8) r (k + 1) (updN ch k (3 * d + g)) st else st
theorem cls_ch59 {r k dd d : Nat} {ch : Nat → Nat} {busy : Int32} {kk : Nat → Nat → Int32 → Int32 → Int32 → Int32 → Int32 → qS → Option qS} (ho : okTD T D) (hM : 88 ≤ M) (h : relC u T M N) (hk : k < N 8) (hd : d < N 0) (hB : BZ busy ch k) (H : clH (col u M) N u v T D m c3 c4 r (k + 1) dd) : ∀ (e g f : Nat) (C : Nat → Int32) (st : fS), g + e = N 5 → e < f → (∀ j, j < k → C j = nI (ch j % 3)) → ∃ C', (∀ j, j < k → C' j = nI (ch j % 3)) ∧ L_X9_choose_59 (f_X9_choose dd) kk f 44 T (nI k) busy (nI (fT (col u M) k)) (nI (fP (col u M) k)) (nI d) (nI g) (Rep (SH T D c3 c4 m) (whU u C st.2 (nI st.1)) v) = kk 44 T (nI k) busy (nI (fT (col u M) k)) (nI (fP (col u M) k)) (nI d) (Rep (SH T D c3 c4 m) (whU u C' (lp (fStp (col u M) N r k ch d) e g st).2 (nI (lp (fStp (col u M) N r k ch d) e g st).1)) v) := by
  have hb := bndN_of h.1
  have b0 : N 0 ≤ 7 := hb.1
  have b5 : N 5 ≤ 3 := hb.2.2.2.2.2.1
  have b8 : N 8 ≤ 4 := hb.2.2.2.2.2.2.2.2.1
  intro e
  induction e with
  | zero =>
    intro g f C st hg hf hC
    obtain ⟨f, rfl⟩ : ∃ f', f = f' + 1 := ⟨f - 1, by omega⟩
    have c : nI (N 5) ≤ nI g := nI_le (by omega) (by omega)
    refine ⟨C, hC, ?_⟩
    simp -implicitDefEqProofs only [L_X9_choose_59, cls_c5 ho (wh_relC ho hM h).1, Option.bind_some, c, if_true, lp]
  | succ e ih =>
    intro g f C st hg hf hC
    obtain ⟨f, rfl⟩ : ∃ f', f = f' + 1 := ⟨f - 1, by omega⟩
    have c : ¬ nI (N 5) ≤ nI g := nI_ge (by omega) (by omega)
    have hg5 : g < N 5 := by omega
    have hbit : ((nI d * 3) + nI g) = nI (3 * d + g) := by
      rw [show (3 : Int32) = nI 3 from rfl, nI_mul, nI_add, Nat.mul_comm d 3]
    obtain ⟨ht, hp, -, -⟩ := fnd_c (C := C) (G := st.2) (a := nI st.1) ho hM h hk
    have hz := hB (3 * d + g) (by omega)
    simp -implicitDefEqProofs only [lp]
    by_cases c1 : fre ch k (3 * d + g) = true
    · have c1' : busy &&& sbit (3 * d + g) = 0 := hz.mpr (fre_iff.mp c1)
      have ecan := cls_can (c3 := c3) (c4 := c4) (m := m) (v := v) (h := 0) ho (wh_relC (C := C) (G := st.2) (a := nI st.1) ho hM h) hg5 ht hp (show d < 7 by omega)
      rw [wh_col hM, nI_0] at ecan
      have hok : okG (col u M) N k d g = s_can (col u M) g (fT (col u M) k) (fP (col u M) k) d 0 := by
        unfold okG
        rw [decide_eq_true ⟨hd, hg5⟩, Bool.true_and]
      cases cc : s_can (col u M) g (fT (col u M) k) (fP (col u M) k) d 0 with
      | false =>
        rw [cc] at ecan hok
        obtain ⟨C', q1, q2⟩ := ih (g + 1) f C st (by omega) (by omega) hC
        refine ⟨C', q1, ?_⟩
        rw [show fStp (col u M) N r k ch d g st = st by unfold fStp; rw [hok, Bool.false_and, if_neg (by decide)]]
        rw [L_X9_choose_59, cls_c5 ho (wh_relC ho hM h).1, Option.bind_some, if_neg c, hbit, if_pos c1', ecan, Option.bind_some, show bI false = 0 from rfl, if_pos rfl, nI_1, q2]
      | true =>
        rw [cc] at ecan hok
        have k4 : k < 4 := by omega
        obtain ⟨C1, p1, p2⟩ := H (updN ch k (3 * d + g)) (upd C k (nI g)) st.2 st.1 (busy ||| sbit (3 * d + g)) (fun j hj => by
          rw [upd_at, updN_at]
          by_cases cj : j = k
          · rw [if_pos cj, if_pos cj, show (3 * d + g) % 3 = g by omega]
          · rw [if_neg cj, if_neg cj]
            exact hC j (by omega)) (BZ_up hB (by omega))
        obtain ⟨C', q1, q2⟩ := ih (g + 1) f C1 (fitR (col u M) N (N 8) r (k + 1) (updN ch k (3 * d + g)) st) (by omega) (by omega) (fun j hj => by
          rw [p1 j (by omega), updN_at, if_neg (by omega)])
        refine ⟨C', q1, ?_⟩
        rw [show fStp (col u M) N r k ch d g st = fitR (col u M) N (N 8) r (k + 1) (updN ch k (3 * d + g)) st by unfold fStp; rw [hok, c1, Bool.true_and, if_pos rfl]]
        rw [L_X9_choose_59, cls_c5 ho (wh_relC ho hM h).1, Option.bind_some, if_neg c, hbit, if_pos c1', ecan, Option.bind_some, show bI true = 1 from rfl, if_neg (by decide), gR_44_0, Option.bind_some, set4 SH_ch k4, Option.bind_some, wh_46, wh_pC, nI_1, p2, Option.bind_some, nI_1, q2]
    · have c1' : ¬ busy &&& sbit (3 * d + g) = 0 := fun z => c1 (fre_iff.mpr (hz.mp z))
      obtain ⟨C', q1, q2⟩ := ih (g + 1) f C st (by omega) (by omega) hC
      refine ⟨C', q1, ?_⟩
      rw [show fStp (col u M) N r k ch d g st = st by
        unfold fStp
        rw [if_neg]
        intro z
        rw [Bool.and_eq_true] at z
        exact c1 z.2]
      rw [L_X9_choose_59, cls_c5 ho (wh_relC ho hM h).1, Option.bind_some, if_neg c, hbit, if_neg c1', nI_1, q2]
theorem cls_ch46 {r k dd : Nat} {ch : Nat → Nat} {busy : Int32} (ho : okTD T D) (hM : 88 ≤ M) (h : relC u T M N) (hk : k < N 8) (hB : BZ busy ch k) (H : clH (col u M) N u v T D m c3 c4 r (k + 1) dd) : ∀ (e d f : Nat) (C : Nat → Int32) (st : fS), d + e = N 0 → e < f → (∀ j, j < k → C j = nI (ch j % 3)) → ∃ C', (∀ j, j < k → C' j = nI (ch j % 3)) ∧ L_X9_choose_46 (f_X9_choose dd) f 44 T (nI k) busy (nI (fT (col u M) k)) (nI (fP (col u M) k)) (nI d) (Rep (SH T D c3 c4 m) (whU u C st.2 (nI st.1)) v) = some (Rep (SH T D c3 c4 m) (whU u C' (lp (fun d st => lp (fStp (col u M) N r k ch d) (N 5) 0 st) e d st).2 (nI (lp (fun d st => lp (fStp (col u M) N r k ch d) (N 5) 0 st) e d st).1)) v) := by
  have hb := bndN_of h.1
  have b0 : N 0 ≤ 7 := hb.1
  have b5 : N 5 ≤ 3 := hb.2.2.2.2.2.1
  intro e
  induction e with
  | zero =>
    intro d f C st hd hf hC
    obtain ⟨f, rfl⟩ : ∃ f', f = f' + 1 := ⟨f - 1, by omega⟩
    have c : nI (N 0) ≤ nI d := nI_le (by omega) (by omega)
    refine ⟨C, hC, ?_⟩
    simp -implicitDefEqProofs only [L_X9_choose_46, cls_c0 ho (wh_relC ho hM h).1, Option.bind_some, c, if_true, lp]
  | succ e ih =>
    intro d f C st hd hf hC
    obtain ⟨f, rfl⟩ : ∃ f', f = f' + 1 := ⟨f - 1, by omega⟩
    have c : ¬ nI (N 0) ≤ nI d := nI_ge (by omega) (by omega)
    obtain ⟨C1, p1, p2⟩ := cls_ch59 (v := v) (kk := fun y2 y3 y4 y5 y6 y7 y8 g9 => L_X9_choose_46 (f_X9_choose dd) f y2 y3 y4 y5 y6 y7 (y8 + 1) g9) ho hM h hk (show d < N 0 by omega) hB H (N 5) 0 1000000000 C st (by omega) (by omega) hC
    rw [nI_0] at p2
    obtain ⟨C', q1, q2⟩ := ih (d + 1) f C1 (lp (fStp (col u M) N r k ch d) (N 5) 0 st) (by omega) (by omega) p1
    refine ⟨C', q1, ?_⟩
    simp -implicitDefEqProofs only [lp]
    rw [L_X9_choose_46, cls_c0 ho (wh_relC ho hM h).1, Option.bind_some, if_neg c, p2, nI_1, q2]
theorem cls_choose (ho : okTD T D) (hM : 88 ≤ M) (h : relC u T M N) : ∀ (r k d : Nat), k + r = N 8 → r < d → clH (col u M) N u v T D m c3 c4 r k d := by
  have hCt := SH_told (c3 := c3) (c4 := c4) (m := m) ho
  have hb := bndN_of h.1
  have b0 : N 0 ≤ 7 := hb.1
  have b5 : N 5 ≤ 3 := hb.2.2.2.2.2.1
  have b8 : N 8 ≤ 4 := hb.2.2.2.2.2.2.2.2.1
  intro r
  induction r with
  | zero =>
    intro k d hk hd ch C G n busy hC hB
    obtain ⟨d, rfl⟩ : ∃ d', d = d' + 1 := ⟨d - 1, by omega⟩
    have c : nI (N 8) ≤ nI k := nI_le (by omega) (by omega)
    have e := cls_count (c3 := c3) (c4 := c4) (m := m) (v := v) (G := G) (n := n) ho hM h (fun j hj => hC j (by omega))
    refine ⟨C, hC, ?_⟩
    rw [f_X9_choose, gC_44, Option.bind_some, cls_c8 ho (wh_relC ho hM h).1, Option.bind_some, if_pos c, e, Option.bind_some]
    rfl
  | succ r ih =>
    intro k d hk hd ch C G n busy hC hB
    obtain ⟨d, rfl⟩ : ∃ d', d = d' + 1 := ⟨d - 1, by omega⟩
    have c : ¬ nI (N 8) ≤ nI k := nI_ge (by omega) (by omega)
    have c4' : nI k < 4 := nI_lt (b := 4) (by omega) (by decide)
    obtain ⟨ht, hp, e1, e2⟩ := fnd_c (C := C) (G := G) (a := nI n) ho hM h (show k < N 8 by omega)
    obtain ⟨C', q1, q2⟩ := cls_ch46 (v := v) ho hM h (show k < N 8 by omega) hB (ih (k + 1) d (by omega) (by omega)) (N 0) 0 1000000000 C (n, G) (by omega) (by omega) hC
    rw [nI_0] at q2
    have hall : fitR (col u M) N (N 8) (r + 1) k ch (n, G) = lp (fun d st => lp (fStp (col u M) N r k ch d) (N 5) 0 st) (N 0) 0 (n, G) := slt_all (step := fStp (col u M) N r k ch) b0 b5 (fun d g s hn => by
      unfold fStp okG
      rw [decide_eq_false hn, Bool.false_and, Bool.false_and, if_neg (by decide)]) (n, G)
    refine ⟨C', q1, ?_⟩
    rw [hall, f_X9_choose, gC_44, Option.bind_some, cls_c8 ho (wh_relC ho hM h).1, Option.bind_some, if_neg c, if_pos c4', cR_5 hCt, Option.bind_some, cG_5 hCt, e1, Option.bind_some, Option.bind_some, cG_5 hCt, e2, Option.bind_some, q2]
end WHC
