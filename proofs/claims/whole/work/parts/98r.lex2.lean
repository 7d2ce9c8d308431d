/-! ===== the reader: the class takes a token ===== -/
theorem nI_dif {a b : Nat} (h : b ≤ a) : nI a - nI b = nI (a - b) := by
  obtain ⟨c, rfl⟩ : ∃ c, a = c + b := ⟨a - b, by omega⟩
  rw [Nat.add_sub_cancel, ← nI_add, Int32.add_sub_cancel]
theorem mx_nI {a : Nat} (h : a < 2 ^ 31) : q_mx 0 (nI a) = nI a := by
  unfold q_mx
  by_cases c : (0 : Int32) < nI a
  · rw [if_pos c]
  · rw [if_neg c]
    exact Int32.le_antisymm (Int32.not_lt.mp (nI_pos h)) (Int32.not_lt.mp c)
theorem wrL_wrL {v : mV} {r i : Nat} {x y : Int64} : wrL (wrL v r i x) r i y = wrL v r i y := by
  funext q j
  unfold wrL
  by_cases h : q = r ∧ j = i
  · rw [if_pos h, if_pos h]
  · rw [if_neg h, if_neg h, if_neg h]
/-- the class stands at a token -/
def CT (u : mU) (v : mV) (s k : Nat) (l : List Nat) (x e : Nat) : Prop := u 1 7 = nI k ∧ u 1 8 = nI s ∧ (k ≠ 4 → u 1 9 = nI (e - s)) ∧ (k = 1 → v 1 10 = rv 27 l) ∧ (k = 2 → v 1 10 = Int64.ofNat x)
/-- what taking a token may change -/
def cfT (u u' : mU) : Prop := ∀ q j, ¬ (q = 1 ∧ 7 ≤ j ∧ j ≤ 12) → u' q j = u q j
def cfV (v v' : mV) : Prop := ∀ q j, q ≠ 1 → v' q j = v q j
theorem cfT_refl {u : mU} : cfT u u := fun _ _ _ => rfl
theorem cfT_wr {u u' : mU} {i : Nat} {x : Int32} (h : cfT u u') (hi : 7 ≤ i ∧ i ≤ 12) : cfT u (wr u' 1 i x) := by
  intro q j hq
  unfold wr
  rw [if_neg]
  · exact h q j hq
  · rintro ⟨rfl, rfl⟩
    exact hq ⟨rfl, hi⟩
theorem cfV_wr {v v' : mV} {i : Nat} {x : Int64} (h : cfV v v') : cfV v (wrL v' 1 i x) := by
  intro q j hq
  rw [wrL_role hq]
  exact h q j hq
section CTK
variable {T D m : Nat} {c3 c4 : sF} {u : mU} {v : mV} {L : Nat}
theorem cls_skip {kk : Nat → Int32 → qS → Option (Int32 × qS)} {s : Nat} (hL : L ≤ 1000) (h6 : u 1 6 = nI L) (hs : s ≤ L) (hn : s < L → ¬ u 2 s = 32) : ∀ (r i f : Nat), i + r = s → r < f → (∀ j, i ≤ j → j < s → u 2 j = 32) → L_X6_take_27 kk f 1 (nI i) (Rep (SH T D c3 c4 m) u v) = kk 1 (nI s) (Rep (SH T D c3 c4 m) u v) := by
  intro r
  induction r with
  | zero =>
    intro i f hi hf _
    obtain ⟨f, rfl⟩ : ∃ f', f = f' + 1 := ⟨f - 1, by omega⟩
    have hi : i = s := by omega
    subst hi
    by_cases c : i < L
    · have c1 : ¬ nI L ≤ nI i := nI_ge c (by omega)
      have c2 : ¬ nI 1000 ≤ nI i := nI_ge (by omega) (by omega)
      rw [L_X6_take_27, gI_1_6, Option.bind_some, h6, if_neg c1, gR_1_0, Option.bind_some, an_2, Option.bind_some, if_neg c2, Option.bind_some, aB_2 (by omega), Option.bind_some, if_neg (hn c)]
    · have c1 : nI L ≤ nI i := nI_le (by omega) (by omega)
      rw [L_X6_take_27, gI_1_6, Option.bind_some, h6, if_pos c1]
  | succ r ih =>
    intro i f hi hf hb
    obtain ⟨f, rfl⟩ : ∃ f', f = f' + 1 := ⟨f - 1, by omega⟩
    have c1 : ¬ nI L ≤ nI i := nI_ge (by omega) (by omega)
    have c2 : ¬ nI 1000 ≤ nI i := nI_ge (by omega) (by omega)
    rw [L_X6_take_27, gI_1_6, Option.bind_some, h6, if_neg c1, gR_1_0, Option.bind_some, an_2, Option.bind_some, if_neg c2, Option.bind_some, aB_2 (by omega), Option.bind_some, if_pos (hb i (by omega) (by omega)), nI_1]
    exact ih (i + 1) f (by omega) (by omega) (fun j h1 h2 => hb j (by omega) h2)
theorem cls_run {lo hi off B : Int32} {s e : Nat} (hL : L ≤ 1000) (h6 : u 1 6 = nI L) (h8 : u 1 8 = nI s) (hse : s ≤ e) (he : e ≤ L) (hp : ∀ i, s ≤ i → i < e → ¬ u 2 i < lo ∧ ¬ hi < u 2 i) (hn : e < L → u 2 e < lo ∨ hi < u 2 e) : f_X6_findRun (Rep (SH T D c3 c4 m) u v) 1 lo hi off B = some (nI (e - s), Rep (SH T D c3 c4 m) (wr u 1 9 (nI (e - s))) (wrL v 1 10 (ivB B.toInt64 lo off (u 2) s (e - s)))) := by
  have go : ∀ (r i f : Nat), i + r = e → s ≤ i → r < f → L_X6_findRun_15 f 1 lo hi off B (nI i) (Rep (SH T D c3 c4 m) u (wrL v 1 10 (ivB B.toInt64 lo off (u 2) s (i - s)))) = some (nI (e - s), Rep (SH T D c3 c4 m) (wr u 1 9 (nI (e - s))) (wrL v 1 10 (ivB B.toInt64 lo off (u 2) s (e - s)))) := by
    intro r
    induction r with
    | zero =>
      intro i f hi' hsi hf
      obtain ⟨f, rfl⟩ : ∃ f', f = f' + 1 := ⟨f - 1, by omega⟩
      have hi' : i = e := by omega
      subst hi'
      by_cases c : i < L
      · have c1 : ¬ nI L ≤ nI i := nI_ge c (by omega)
        have c2 : ¬ nI 1000 ≤ nI i := nI_ge (by omega) (by omega)
        by_cases c3' : u 2 i < lo
        · rw [L_X6_findRun_15, gI_1_6, Option.bind_some, h6, if_neg c1, gR_1_0, Option.bind_some, an_2, Option.bind_some, if_neg c2, Option.bind_some, aB_2 (by omega), Option.bind_some, if_pos c3', gI_1_8, Option.bind_some, h8, nI_dif hsi, pI_1_9, Option.bind_some, gI_1_9, Option.bind_some, wr_same]
        · have c4' : hi < u 2 i := (hn c).resolve_left c3'
          rw [L_X6_findRun_15, gI_1_6, Option.bind_some, h6, if_neg c1, gR_1_0, Option.bind_some, an_2, Option.bind_some, if_neg c2, Option.bind_some, aB_2 (by omega), Option.bind_some, if_neg c3', Option.bind_some, aB_2 (by omega), Option.bind_some, if_pos c4', gI_1_8, Option.bind_some, h8, nI_dif hsi, pI_1_9, Option.bind_some, gI_1_9, Option.bind_some, wr_same]
      · have c1 : nI L ≤ nI i := nI_le (by omega) (by omega)
        rw [L_X6_findRun_15, gI_1_6, Option.bind_some, h6, if_pos c1, gI_1_8, Option.bind_some, h8, nI_dif hsi, pI_1_9, Option.bind_some, gI_1_9, Option.bind_some, wr_same]
    | succ r ih =>
      intro i f hi' hsi hf
      obtain ⟨f, rfl⟩ : ∃ f', f = f' + 1 := ⟨f - 1, by omega⟩
      have c1 : ¬ nI L ≤ nI i := nI_ge (by omega) (by omega)
      have c2 : ¬ nI 1000 ≤ nI i := nI_ge (by omega) (by omega)
      obtain ⟨p1, p2⟩ := hp i hsi (by omega)
      have hiv : ivB B.toInt64 lo off (u 2) s (i + 1 - s) = (B.toInt64 * ivB B.toInt64 lo off (u 2) s (i - s)) + (((u 2 i - lo) + off).toInt64) := by
        rw [show i + 1 - s = (i - s) + 1 by omega]
        show (B.toInt64 * ivB B.toInt64 lo off (u 2) s (i - s)) + (((u 2 (s + (i - s)) - lo) + off).toInt64) = _
        rw [show s + (i - s) = i by omega]
      rw [L_X6_findRun_15, gI_1_6, Option.bind_some, h6, if_neg c1, gR_1_0, Option.bind_some, an_2, Option.bind_some, if_neg c2, Option.bind_some, aB_2 (by omega), Option.bind_some, if_neg p1, Option.bind_some, aB_2 (by omega), Option.bind_some, if_neg p2, gL_1_10, Option.bind_some, wrL_same, Option.bind_some, aB_2 (by omega), Option.bind_some, pL_1_10, Option.bind_some, wrL_wrL, nI_1, ← hiv]
      exact ih (i + 1) f (by omega) (by omega) (by omega)
  have g0 := go (e - s) s 1000000000 (by omega) (Nat.le_refl _) (by omega)
  rw [Nat.sub_self] at g0
  unfold f_X6_findRun
  rw [gC_1, Option.bind_some, gI_1_8, Option.bind_some, h8, pL_1_10, Option.bind_some, mx_nI (by omega)]
  exact g0
theorem cls_take {a s k x e : Nat} {l : List Nat} {y : Int32} (hL : L ≤ 1000) (h6 : u 1 6 = nI L) (hb : ∀ i, i < L → byt (u 2 i)) (ha : u 1 8 + u 1 9 = nI a) (h : LX (u 2) L a s k l x e) : ∃ u' v', f_X6_take (Rep (SH T D c3 c4 m) u v) 1 y = some (1, Rep (SH T D c3 c4 m) u' v') ∧ CT u' v' s k l x e ∧ u' 1 11 = y ∧ u' 1 12 = u 1 8 ∧ cfT u u' ∧ cfV v v' := by
  obtain ⟨h1, h2, h3, h4, h5⟩ := h
  have e2 : ∀ z : mU, cfT u z → z 2 = u 2 := fun z hz => funext fun j => hz 2 j (fun c => by omega)
  -- the state before the token is looked at
  have hU : ∀ (z : mU), cfT u z → z = wr (wr u 1 11 y) 1 12 (u 1 8) → L_X6_take_27 (fun y6 y7 g8 => J_X6_take_61 y6 y7 g8) 1000000000 1 (nI a) (Rep (SH T D c3 c4 m) z v) = J_X6_take_61 1 (nI s) (Rep (SH T D c3 c4 m) z v) := by
    intro z hz _
    exact cls_skip hL (by rw [hz 1 6 (fun c => by omega)]; exact h6) h2 (by rw [e2 z hz]; exact h4) (s - a) a 1000000000 (by omega) (by omega) (by rw [e2 z hz]; exact h3)
  have hz1 : cfT u (wr (wr u 1 11 y) 1 12 (u 1 8)) := cfT_wr (cfT_wr cfT_refl (by omega)) (by omega)
  have hz2 : cfT u (wr (wr (wr (wr u 1 11 y) 1 12 (u 1 8)) 1 8 (nI s)) 1 9 0) := cfT_wr (cfT_wr hz1 (by omega)) (by omega)
  have et : f_X6_take (Rep (SH T D c3 c4 m) u v) 1 y = J_X6_take_61 1 (nI s) (Rep (SH T D c3 c4 m) (wr (wr u 1 11 y) 1 12 (u 1 8)) v) := by
    have a8 : wr (wr u 1 11 y) 1 12 (u 1 8) 1 8 = u 1 8 := by rw [wr_ix (by decide), wr_ix (by decide)]
    have a9 : wr (wr u 1 11 y) 1 12 (u 1 8) 1 9 = u 1 9 := by rw [wr_ix (by decide), wr_ix (by decide)]
    have a8' : wr u 1 11 y 1 8 = u 1 8 := wr_ix (by decide)
    unfold f_X6_take
    rw [gC_1, Option.bind_some, pI_1_11, Option.bind_some, gI_1_8, Option.bind_some, a8', pI_1_12, Option.bind_some, gI_1_8, Option.bind_some, gI_1_9, Option.bind_some, a8, a9, ha, mx_nI (by omega)]
    exact hU _ hz1 rfl
  have w6 : wr (wr (wr (wr u 1 11 y) 1 12 (u 1 8)) 1 8 (nI s)) 1 9 0 1 6 = nI L := by rw [hz2 1 6 (fun c => by omega)]; exact h6
  have w8 : wr (wr (wr (wr u 1 11 y) 1 12 (u 1 8)) 1 8 (nI s)) 1 9 0 1 8 = nI s := by rw [wr_ix (by decide), wr_same]
  have w9 : wr (wr (wr (wr u 1 11 y) 1 12 (u 1 8)) 1 8 (nI s)) 1 9 0 1 9 = nI 0 := by rw [wr_same, nI_0]
  have w11 : wr (wr (wr (wr u 1 11 y) 1 12 (u 1 8)) 1 8 (nI s)) 1 9 0 1 11 = y := by rw [wr_ix (by decide), wr_ix (by decide), wr_ix (by decide), wr_same]
  have w12 : wr (wr (wr (wr u 1 11 y) 1 12 (u 1 8)) 1 8 (nI s)) 1 9 0 1 12 = u 1 8 := by rw [wr_ix (by decide), wr_ix (by decide), wr_same]
  have w2 := e2 _ hz2
  have ej : ∀ X, (∀ w : mU, w = wr (wr (wr (wr u 1 11 y) 1 12 (u 1 8)) 1 8 (nI s)) 1 9 0 → (if nI L ≤ nI s then ((p_I (Rep (SH T D c3 c4 m) w v) 1 5 7 0).bind fun g4 => some ((1 : Int32), g4)) else ((g_R (Rep (SH T D c3 c4 m) w v) 1 5 0).bind fun v5 => (a_n (Rep (SH T D c3 c4 m) w v) v5).bind fun v6 => if nI s < v6 then ((g_R (Rep (SH T D c3 c4 m) w v) 1 5 0).bind fun v7 => (a_B (Rep (SH T D c3 c4 m) w v) v7 (nI s)).bind fun v8 => if v8 = 59 then ((p_I (Rep (SH T D c3 c4 m) w v) 1 5 9 1).bind fun g13 => (p_I g13 1 5 7 3).bind fun g14 => some (1, g14)) else (if v8 < 97 then (J_X6_take_161 1 v8 (Rep (SH T D c3 c4 m) w v)) else (if 122 < v8 then (J_X6_take_161 1 v8 (Rep (SH T D c3 c4 m) w v)) else (q_b2 (f_X6_findRun (Rep (SH T D c3 c4 m) w v) 1 97 122 1 27) fun v10 g9 => if 8 < v10 then ((p_I g9 1 5 7 4).bind fun g11 => some (1, g11)) else ((p_I g9 1 5 7 1).bind fun g12 => some (1, g12)))))) else ((p_I (Rep (SH T D c3 c4 m) w v) 1 5 7 0).bind fun g15 => some (1, g15)))) = X) → f_X6_take (Rep (SH T D c3 c4 m) u v) 1 y = X := by
    intro X hX
    rw [et]
    unfold J_X6_take_61
    rw [pI_1_8, Option.bind_some, pI_1_9, Option.bind_some, gI_1_6, Option.bind_some, w6]
    exact hX _ rfl
  generalize wr (wr (wr (wr u 1 11 y) 1 12 (u 1 8)) 1 8 (nI s)) 1 9 0 = w at *
  have w2s : w 2 = u 2 := w2
  rcases h5 with ⟨rfl, hs, he0⟩ | ⟨rfl, hs, b1, he0⟩ | ⟨rfl, hs, he, h8', hr, hn, rfl⟩ | ⟨rfl, hs, he, h8', hr, hn, rfl⟩ | ⟨rfl, hs, hbad⟩
  · have c1 : nI L ≤ nI s := nI_le (by omega) (by omega)
    refine ⟨wr w 1 7 0, v, ej _ (fun w' hw' => ?_), ⟨?_, ?_, fun _ => ?_, fun z => absurd z (by decide), fun z => absurd z (by decide)⟩, ?_, ?_, cfT_wr hz2 (by omega), fun q j _ => rfl⟩
    · rw [hw', if_pos c1, pI_1_7, Option.bind_some]
    · rw [wr_same, nI_0]
    · rw [wr_ix (by decide), w8]
    · rw [wr_ix (by decide), w9, he0, Nat.sub_self]
    · rw [wr_ix (by decide), w11]
    · rw [wr_ix (by decide), w12]
  · have c1 : ¬ nI L ≤ nI s := nI_ge (by omega) (by omega)
    have c2 : nI s < nI 1000 := nI_lt (by omega) (by omega)
    refine ⟨wr (wr w 1 9 1) 1 7 3, v, ej _ (fun w' hw' => ?_), ⟨?_, ?_, fun _ => ?_, fun z => absurd z (by decide), fun z => absurd z (by decide)⟩, ?_, ?_, cfT_wr (cfT_wr hz2 (by omega)) (by omega), fun q j _ => rfl⟩
    · rw [hw', if_neg c1, gR_1_0, Option.bind_some, an_2, Option.bind_some, if_pos c2, Option.bind_some, aB_2 (by omega), Option.bind_some, w2s, if_pos b1, pI_1_9, Option.bind_some, pI_1_7, Option.bind_some]
    · rw [wr_same]; rfl
    · rw [wr_ix (by decide), wr_ix (by decide), w8]
    · rw [wr_ix (by decide), wr_same, he0, show s + 1 - s = 1 by omega]; rfl
    · rw [wr_ix (by decide), wr_ix (by decide), w11]
    · rw [wr_ix (by decide), wr_ix (by decide), w12]
  · have c1 : ¬ nI L ≤ nI s := nI_ge (by omega) (by omega)
    have c2 : nI s < nI 1000 := nI_lt (by omega) (by omega)
    have hl := hr s (by omega) (by omega)
    obtain ⟨l1, l2⟩ := of_decide_eq_true hl
    obtain ⟨kb, hkb, ekb⟩ := byt_k (hb s (by omega))
    rw [ekb] at hl
    have n59 : ¬ u 2 s = 59 := by rw [ekb]; exact (by_LD kb hkb hl).2.1
    have er := cls_run (T := T) (D := D) (c3 := c3) (c4 := c4) (m := m) (v := v) (u := w) (lo := 97) (hi := 122) (off := 1) (B := 27) (s := s) (e := e) hL w6 w8 (by omega) he (by rw [w2s]; exact fun i a1 a2 => of_decide_eq_true (hr i a1 a2)) (by
      rw [w2s]
      intro z
      have := of_decide_eq_false (hn z)
      by_cases c : u 2 e < 97
      · exact Or.inl c
      · exact Or.inr (Classical.byContradiction fun c' => this ⟨c, c'⟩))
    have c8 : ¬ (8 : Int32) < nI (e - s) := show ¬ nI 8 < nI (e - s) from nI_nlt (by omega) (by omega)
    refine ⟨wr (wr w 1 9 (nI (e - s))) 1 7 1, wrL v 1 10 (ivB (27 : Int32).toInt64 97 1 (w 2) s (e - s)), ej _ (fun w' hw' => ?_), ⟨?_, ?_, fun _ => ?_, fun _ => ?_, fun z => absurd z (by decide)⟩, ?_, ?_, cfT_wr (cfT_wr hz2 (by omega)) (by omega), cfV_wr fun q j _ => rfl⟩
    · rw [hw', if_neg c1, gR_1_0, Option.bind_some, an_2, Option.bind_some, if_pos c2, Option.bind_some, aB_2 (by omega), Option.bind_some, w2s, if_neg n59, if_neg l1, if_neg l2, er, q_b2_some, if_neg c8, pI_1_7, Option.bind_some, w2s]
    · rw [wr_same]; rfl
    · rw [wr_ix (by decide), wr_ix (by decide), w8]
    · rw [wr_ix (by decide), wr_same]
    · rw [wrL_same, w2s]
      exact iv_rv (B := 27) hb (e - s) (by omega) (fun i a1 a2 => hr i a1 (by omega))
    · rw [wr_ix (by decide), wr_ix (by decide), w11]
    · rw [wr_ix (by decide), wr_ix (by decide), w12]
  · have c1 : ¬ nI L ≤ nI s := nI_ge (by omega) (by omega)
    have c2 : nI s < nI 1000 := nI_lt (by omega) (by omega)
    have hl := hr s (by omega) (by omega)
    obtain ⟨l1, l2⟩ := of_decide_eq_true hl
    obtain ⟨kb, hkb, ekb⟩ := byt_k (hb s (by omega))
    rw [ekb] at hl
    have n59 : ¬ u 2 s = 59 := by rw [ekb]; exact (by_DS kb hkb hl).2.1
    have nL : isL (u 2 s) = false := by rw [ekb]; exact (by_DS kb hkb hl).1
    have nL' := of_decide_eq_false nL
    have er := cls_run (T := T) (D := D) (c3 := c3) (c4 := c4) (m := m) (v := v) (u := w) (lo := 48) (hi := 57) (off := 0) (B := 10) (s := s) (e := e) hL w6 w8 (by omega) he (by rw [w2s]; exact fun i a1 a2 => of_decide_eq_true (hr i a1 a2)) (by
      rw [w2s]
      intro z
      have := of_decide_eq_false (hn z)
      by_cases c : u 2 e < 48
      · exact Or.inl c
      · exact Or.inr (Classical.byContradiction fun c' => this ⟨c, c'⟩))
    have c8 : ¬ (3 : Int32) < nI (e - s) := show ¬ nI 3 < nI (e - s) from nI_nlt (by omega) (by omega)
    have ejj : J_X6_take_161 1 (u 2 s) (Rep (SH T D c3 c4 m) w v) = some (1, Rep (SH T D c3 c4 m) (wr (wr w 1 9 (nI (e - s))) 1 7 2) (wrL v 1 10 (ivB (10 : Int32).toInt64 48 0 (w 2) s (e - s)))) := by
      unfold J_X6_take_161
      rw [if_neg l1, if_neg l2, er, q_b2_some, if_neg c8, pI_1_7, Option.bind_some]
    refine ⟨wr (wr w 1 9 (nI (e - s))) 1 7 2, wrL v 1 10 (ivB (10 : Int32).toInt64 48 0 (w 2) s (e - s)), ej _ (fun w' hw' => ?_), ⟨?_, ?_, fun _ => ?_, fun z => absurd z (by decide), fun _ => ?_⟩, ?_, ?_, cfT_wr (cfT_wr hz2 (by omega)) (by omega), cfV_wr fun q j _ => rfl⟩
    · rw [hw', if_neg c1, gR_1_0, Option.bind_some, an_2, Option.bind_some, if_pos c2, Option.bind_some, aB_2 (by omega), Option.bind_some, w2s, if_neg n59, ejj]
      by_cases c : u 2 s < 97
      · rw [if_pos c, w2s]
      · rw [if_neg c, if_pos (Classical.byContradiction fun c' => nL' ⟨c, c'⟩), w2s]
    · rw [wr_same]; rfl
    · rw [wr_ix (by decide), wr_ix (by decide), w8]
    · rw [wr_ix (by decide), wr_same]
    · rw [wrL_same, w2s]
      exact iv_nv hb (e - s) (by omega) (fun i a1 a2 => hr i a1 (by omega))
    · rw [wr_ix (by decide), wr_ix (by decide), w11]
    · rw [wr_ix (by decide), wr_ix (by decide), w12]
  · have c1 : ¬ nI L ≤ nI s := nI_ge (by omega) (by omega)
    have c2 : nI s < nI 1000 := nI_lt (by omega) (by omega)
    have fin : ∀ (w1 : mU) (v1 : mV), cfT u w1 → cfV v v1 → w1 1 8 = nI s → w1 1 11 = y → w1 1 12 = u 1 8 → f_X6_take (Rep (SH T D c3 c4 m) u v) 1 y = some (1, Rep (SH T D c3 c4 m) (wr w1 1 7 4) v1) → ∃ u' v', f_X6_take (Rep (SH T D c3 c4 m) u v) 1 y = some (1, Rep (SH T D c3 c4 m) u' v') ∧ CT u' v' s 4 l x e ∧ u' 1 11 = y ∧ u' 1 12 = u 1 8 ∧ cfT u u' ∧ cfV v v' := by
      intro w1 v1 f1 f2 f3 f4 f5 f6
      refine ⟨_, _, f6, ⟨?_, ?_, fun z => absurd rfl z, fun z => absurd z (by decide), fun z => absurd z (by decide)⟩, ?_, ?_, cfT_wr f1 (by omega), f2⟩
      · rw [wr_same]; rfl
      · rw [wr_ix (by decide), f3]
      · rw [wr_ix (by decide), f4]
      · rw [wr_ix (by decide), f5]
    rcases hbad with ⟨nL, nD, n59⟩ | ⟨h8', he, hr, hn⟩ | ⟨h8', he, hr, hn⟩
    · have nL' := of_decide_eq_false nL
      have nD' := of_decide_eq_false nD
      have ejj : J_X6_take_161 1 (u 2 s) (Rep (SH T D c3 c4 m) w v) = some (1, Rep (SH T D c3 c4 m) (wr w 1 7 4) v) := by
        unfold J_X6_take_161
        by_cases c : u 2 s < 48
        · rw [if_pos c, pI_1_7, Option.bind_some]
        · rw [if_neg c, if_pos (Classical.byContradiction fun c' => nD' ⟨c, c'⟩), pI_1_7, Option.bind_some]
      refine fin w v hz2 (fun q j _ => rfl) w8 w11 w12 (ej _ (fun w' hw' => ?_))
      rw [hw', if_neg c1, gR_1_0, Option.bind_some, an_2, Option.bind_some, if_pos c2, Option.bind_some, aB_2 (by omega), Option.bind_some, w2s, if_neg n59, ejj]
      by_cases c : u 2 s < 97
      · rw [if_pos c]
      · rw [if_neg c, if_pos (Classical.byContradiction fun c' => nL' ⟨c, c'⟩)]
    · have hl := hr s (by omega) (by omega)
      obtain ⟨l1, l2⟩ := of_decide_eq_true hl
      obtain ⟨kb, hkb, ekb⟩ := byt_k (hb s (by omega))
      rw [ekb] at hl
      have n59 : ¬ u 2 s = 59 := by rw [ekb]; exact (by_LD kb hkb hl).2.1
      have er := cls_run (T := T) (D := D) (c3 := c3) (c4 := c4) (m := m) (v := v) (u := w) (lo := 97) (hi := 122) (off := 1) (B := 27) (s := s) (e := e) hL w6 w8 (by omega) he (by rw [w2s]; exact fun i a1 a2 => of_decide_eq_true (hr i a1 a2)) (by
        rw [w2s]
        intro z
        have := of_decide_eq_false (hn z)
        by_cases c : u 2 e < 97
        · exact Or.inl c
        · exact Or.inr (Classical.byContradiction fun c' => this ⟨c, c'⟩))
      have c8 : (8 : Int32) < nI (e - s) := show nI 8 < nI (e - s) from nI_lt (by omega) (by omega)
      refine fin (wr w 1 9 (nI (e - s))) (wrL v 1 10 (ivB (27 : Int32).toInt64 97 1 (w 2) s (e - s))) (cfT_wr hz2 (by omega)) (cfV_wr fun q j _ => rfl) ?_ ?_ ?_ (ej _ (fun w' hw' => ?_))
      · rw [wr_ix (by decide), w8]
      · rw [wr_ix (by decide), w11]
      · rw [wr_ix (by decide), w12]
      · rw [hw', if_neg c1, gR_1_0, Option.bind_some, an_2, Option.bind_some, if_pos c2, Option.bind_some, aB_2 (by omega), Option.bind_some, w2s, if_neg n59, if_neg l1, if_neg l2, er, q_b2_some, if_pos c8, pI_1_7, Option.bind_some, w2s]
    · have hl := hr s (by omega) (by omega)
      obtain ⟨l1, l2⟩ := of_decide_eq_true hl
      obtain ⟨kb, hkb, ekb⟩ := byt_k (hb s (by omega))
      rw [ekb] at hl
      have n59 : ¬ u 2 s = 59 := by rw [ekb]; exact (by_DS kb hkb hl).2.1
      have nL : isL (u 2 s) = false := by rw [ekb]; exact (by_DS kb hkb hl).1
      have nL' := of_decide_eq_false nL
      have er := cls_run (T := T) (D := D) (c3 := c3) (c4 := c4) (m := m) (v := v) (u := w) (lo := 48) (hi := 57) (off := 0) (B := 10) (s := s) (e := e) hL w6 w8 (by omega) he (by rw [w2s]; exact fun i a1 a2 => of_decide_eq_true (hr i a1 a2)) (by
        rw [w2s]
        intro z
        have := of_decide_eq_false (hn z)
        by_cases c : u 2 e < 48
        · exact Or.inl c
        · exact Or.inr (Classical.byContradiction fun c' => this ⟨c, c'⟩))
      have c8 : (3 : Int32) < nI (e - s) := show nI 3 < nI (e - s) from nI_lt (by omega) (by omega)
      have ejj : J_X6_take_161 1 (u 2 s) (Rep (SH T D c3 c4 m) w v) = some (1, Rep (SH T D c3 c4 m) (wr (wr w 1 9 (nI (e - s))) 1 7 4) (wrL v 1 10 (ivB (10 : Int32).toInt64 48 0 (w 2) s (e - s)))) := by
        unfold J_X6_take_161
        rw [if_neg l1, if_neg l2, er, q_b2_some, if_pos c8, pI_1_7, Option.bind_some]
      refine fin (wr w 1 9 (nI (e - s))) (wrL v 1 10 (ivB (10 : Int32).toInt64 48 0 (w 2) s (e - s))) (cfT_wr hz2 (by omega)) (cfV_wr fun q j _ => rfl) ?_ ?_ ?_ (ej _ (fun w' hw' => ?_))
      · rw [wr_ix (by decide), w8]
      · rw [wr_ix (by decide), w11]
      · rw [wr_ix (by decide), w12]
      · rw [hw', if_neg c1, gR_1_0, Option.bind_some, an_2, Option.bind_some, if_pos c2, Option.bind_some, aB_2 (by omega), Option.bind_some, w2s, if_neg n59, ejj]
        by_cases c : u 2 s < 97
        · rw [if_pos c, w2s]
        · rw [if_neg c, if_pos (Classical.byContradiction fun c' => nL' ⟨c, c'⟩), w2s]
end CTK
