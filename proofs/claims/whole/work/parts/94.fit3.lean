section WHF
variable {T D m M : Nat} {c3 c4 : sF} {u : mU} {v : mV} {N : Nat → Nat}
/-- the class fills its cache -/
theorem cls_find (ho : okTD T D) (hM : 88 ≤ M) (h : relC u T M N) (h0 : u 44 2 = 0) : ∃ C Z, (∀ j, j < 4 → Z j = 0) ∧ f_X9_find (Rep (SH T D c3 c4 m) u v) 44 T = some (Rep (SH T D c3 c4 m) (whU (wr u 44 2 1) C (fitR (col u M) N (N 8) (N 8) 0 (fun _ => 0) (0, Z)).2 (nI (fitR (col u M) N (N 8) (N 8) 0 (fun _ => 0) (0, Z)).1)) v) := by
  have hT : T = 54 ∨ T = 3 := by rcases ho with ⟨rfl, rfl⟩ | ⟨rfl, rfl⟩ <;> simp
  have hb := bndN_of h.1
  have b8 : N 8 ≤ 4 := hb.2.2.2.2.2.2.2.2.1
  have hr : relC (wr u 44 2 1) T M N := relC_congr (fun i hi => wr_off (by omega)) (fun i => wr_off (by omega)) h
  have hc : col (wr u 44 2 1) M = col u M := funext fun i => wr_off (by omega)
  have e0 : wr (wr u 44 2 1) 44 3 0 = whU (wr u 44 2 1) (u 46) (u 48) (nI 0) := by
    funext q j
    unfold whU
    rw [nI_0]
    by_cases h1 : q = 44
    · subst h1
      unfold wr
      rw [put_ne (by decide), put_ne (by decide)]
    · rw [wr_off h1, wr_off h1, wr_off h1]
      by_cases h2 : q = 48
      · subst h2; rw [put_at]
      · rw [put_ne h2]
        by_cases h3 : q = 46
        · subst h3; rw [put_at]
        · rw [put_ne h3, wr_off h1]
  have e1 := fill4 (u := whU (wr u 44 2 1) (u 46) (u 48) (nI 0)) (v := v) (SH_gs (T := T) (D := D) (c3 := c3) (c4 := c4) (m := m))
  rw [wh_48, wh_pG] at e1
  obtain ⟨C', -, e2⟩ := cls_choose (c3 := c3) (c4 := c4) (m := m) (v := v) ho hM hr (N 8) 0 6 (by omega) (by omega) (fun _ => 0) (u 46) (fun j => if j < 4 then 0 else u 48 j) 0 0 (fun j hj => absurd hj (by omega)) BZ_0
  rw [hc, nI_0] at e2
  refine ⟨C', fun j => if j < 4 then 0 else u 48 j, fun j hj => if_pos hj, ?_⟩
  unfold f_X9_find
  rw [gC_44, Option.bind_some, gI_44_2, Option.bind_some, if_pos h0, pZ1_44_2, Option.bind_some, pI_44_3, Option.bind_some, e0, gR_44_1, Option.bind_some, e1, Option.bind_some, nI_0, e2, Option.bind_some]
end WHF
/-! how the rows are counted does not look past the four things -/
def fE (s s' : fS) : Prop := s.1 = s'.1 ∧ ∀ t, t < 4 → s.2 t = s'.2 t
theorem lp_two {α : Type} {R : α → α → Prop} {f g : Nat → α → α} (hs : ∀ j s s', R s s' → R (f j s) (g j s')) : ∀ (r i : Nat) (s s' : α), R s s' → R (lp f r i s) (lp g r i s') := by
  intro r
  induction r with
  | zero => intro i s s' h; simp -implicitDefEqProofs only [lp]; exact h
  | succ r ih => intro i s s' h; simp -implicitDefEqProofs only [lp]; exact ih (i + 1) _ _ (hs i s s' h)
theorem fLeaf_E {K : cK} {F : Nat} {ch : Nat → Nat} {s s' : fS} (h : fE s s') : fE (fLeaf K F ch s) (fLeaf K F ch s') := by
  unfold fLeaf
  refine ⟨by show s.1 + 1 = s'.1 + 1; rw [h.1], ?_⟩
  show ∀ t, t < 4 → lp _ F 0 s.2 t = lp _ F 0 s'.2 t
  refine lp_two (R := fun a b : Nat → Int32 => ∀ t, t < 4 → a t = b t) ?_ F 0 s.2 s'.2 h.2
  intro j a b hab t ht
  show upd a (fT K j) _ t = upd b (fT K j) _ t
  rw [upd_at, upd_at]
  by_cases c : t = fT K j
  · rw [if_pos c, if_pos c, hab (fT K j) (by omega)]
  · rw [if_neg c, if_neg c, hab t ht]
theorem fitR_E {K : cK} {N : Nat → Nat} {F : Nat} : ∀ (r k : Nat) (ch : Nat → Nat) (s s' : fS), fE s s' → fE (fitR K N F r k ch s) (fitR K N F r k ch s') := by
  intro r
  induction r with
  | zero => intro k ch s s' h; exact fLeaf_E h
  | succ r ih =>
    intro k ch s s' h
    show fE (lp _ 21 0 s) (lp _ 21 0 s')
    refine lp_two (R := fE) ?_ 21 0 s s' h
    intro j a b hab
    show fE (if _ then _ else _) (if _ then _ else _)
    by_cases c : (okG K N k (j / 3) (j % 3) && fre ch k (3 * (j / 3) + j % 3)) = true
    · rw [if_pos c, if_pos c]; exact ih _ _ _ _ hab
    · rw [if_neg c, if_neg c]; exact hab
theorem fitR_ch {K : cK} {N : Nat → Nat} {F : Nat} : ∀ (r k : Nat) (ch ch' : Nat → Nat) (s : fS), F ≤ k + r → (∀ j, j < k → ch j = ch' j) → fitR K N F r k ch s = fitR K N F r k ch' s := by
  intro r
  induction r with
  | zero => intro k ch ch' s hk h; exact fLeaf_congr (fun j hj => h j (by omega))
  | succ r ih =>
    intro k ch ch' s hk h
    show lp _ 21 0 s = lp _ 21 0 s
    apply lp_congr
    intro j s _ _
    have e : fre ch k (3 * (j / 3) + j % 3) = fre ch' k (3 * (j / 3) + j % 3) := by
      rw [Bool.eq_iff_iff, fre_iff, fre_iff]
      constructor
      · intro a i hi; rw [← h i hi]; exact a i hi
      · intro a i hi; rw [h i hi]; exact a i hi
    show (if _ then _ else _) = (if _ then _ else _)
    rw [e, ih (k + 1) (updN ch k _) (updN ch' k _) s (by omega) (fun i hi => by
      rw [updN_at, updN_at]
      by_cases c : i = k
      · rw [if_pos c, if_pos c]
      · rw [if_neg c, if_neg c]; exact h i (by omega))]
/-! what the model's fitting leaves -/
def fmB (u : mU) (W G : Nat → Int32) (a : Int32) : mU := wr (put (put u 82 W) 83 G) 75 24 a
section FMB
variable {T D m M : Nat} {c3 c4 : sF} {u : mU} {v : mV} {N : Nat → Nat} {W G X : Nat → Int32} {a : Int32}
theorem fm_q {q : Nat} (h1 : q ≠ 75) (h2 : q ≠ 82) (h3 : q ≠ 83) : fmB u W G a q = u q := by unfold fmB; rw [wr_off h1, put_ne h3, put_ne h2]
theorem fm_82 : put (fmB u W G a) 78 X 82 = W := by rw [put_ne (by decide)]; unfold fmB; rw [wr_off (by decide), put_ne (by decide), put_at]
theorem fm_83 : put (fmB u W G a) 78 X 83 = G := by rw [put_ne (by decide)]; unfold fmB; rw [wr_off (by decide), put_at]
theorem fm_a : put (fmB u W G a) 78 X 75 24 = a := by rw [put_ne (by decide)]; exact wr_same _ _ _ _
theorem fm_M (hM : 88 ≤ M) (i : Nat) : put (fmB u W G a) 78 X (M + i) = u (M + i) := by rw [put_ne (by omega), fm_q (by omega) (by omega) (by omega)]
theorem fm_relC (ho : okTD T D) (hM : 88 ≤ M) (h : relC u T M N) : relC (fmB u W G a) T M N := by
  have hT : T = 54 ∨ T = 3 := by rcases ho with ⟨rfl, rfl⟩ | ⟨rfl, rfl⟩ <;> simp
  exact relC_congr (fun i hi => fm_q (by omega) (by omega) (by omega)) (fun i => fm_q (by omega) (by omega) (by omega)) h
theorem fm_col (hM : 88 ≤ M) : col (fmB u W G a) M = col u M := funext fun i => fm_q (by omega) (by omega) (by omega)
theorem fm_w {k : Nat} {x : Int32} : wr (put (fmB u W G a) 78 X) 82 k x = put (fmB u (upd W k x) G a) 78 X := by
  funext q j
  by_cases h1 : q = 82
  · subst h1
    rw [fm_82, upd_at]
    unfold wr
    rw [fm_82]
    by_cases hj : j = k
    · rw [if_pos ⟨rfl, hj⟩, if_pos hj]
    · rw [if_neg (fun z => hj z.2), if_neg hj]
  · rw [wr_off h1]
    by_cases h2 : q = 78
    · subst h2; rw [put_at, put_at]
    · rw [put_ne h2, put_ne h2]
      unfold fmB wr
      by_cases h3 : q = 83
      · subst h3; rw [put_at, put_at]
      · rw [put_ne h3, put_ne h3, put_ne h1, put_ne h1]
theorem fm_g {k : Nat} {x : Int32} : wr (put (fmB u W G a) 78 X) 83 k x = put (fmB u W (upd G k x) a) 78 X := by
  funext q j
  by_cases h1 : q = 83
  · subst h1
    rw [fm_83, upd_at]
    unfold wr
    rw [fm_83]
    by_cases hj : j = k
    · rw [if_pos ⟨rfl, hj⟩, if_pos hj]
    · rw [if_neg (fun z => hj z.2), if_neg hj]
  · rw [wr_off h1]
    by_cases h2 : q = 78
    · subst h2; rw [put_at, put_at]
    · rw [put_ne h2, put_ne h2]
      unfold fmB wr
      rw [put_ne h1, put_ne h1]
theorem fm_wa {x : Int32} : wr (put (fmB u W G a) 78 X) 75 24 x = put (fmB u W G x) 78 X := by
  funext q j
  by_cases h2 : q = 78
  · subst h2; rw [wr_off (by decide), put_at, put_at]
  · rw [put_ne h2]
    unfold wr
    rw [put_ne h2]
    unfold fmB wr
    by_cases c : q = 75 ∧ j = 24
    · rw [if_pos c, if_pos c]
    · rw [if_neg c, if_neg c, if_neg c]
end FMB
