/-! ===== ways: day, giver, person ===== -/
theorem lp_add {α : Type} {f : Nat → α → α} : ∀ (a b i : Nat) (s : α), lp f (a + b) i s = lp f b (i + a) (lp f a i s) := by
  intro a
  induction a with
  | zero => intro b i s; rw [Nat.zero_add]; simp -implicitDefEqProofs only [lp, Nat.add_zero]
  | succ a ih =>
    intro b i s
    rw [show a + 1 + b = (a + b) + 1 by omega]
    simp -implicitDefEqProofs only [lp]
    rw [ih b (i + 1) (f i s), show i + 1 + a = i + (a + 1) by omega]
theorem lp_congr {α : Type} {f g : Nat → α → α} : ∀ (r i : Nat) (s : α), (∀ j s, i ≤ j → j < i + r → f j s = g j s) → lp f r i s = lp g r i s := by
  intro r
  induction r with
  | zero => intro i s _; simp -implicitDefEqProofs only [lp]
  | succ r ih =>
    intro i s h
    simp -implicitDefEqProofs only [lp]
    rw [h i s (by omega) (by omega)]
    exact ih (i + 1) _ (fun j s h1 h2 => h j s (by omega) (by omega))
theorem lp_id {α : Type} {f : Nat → α → α} : ∀ (r i : Nat) (s : α), (∀ j s, i ≤ j → j < i + r → f j s = s) → lp f r i s = s := by
  intro r
  induction r with
  | zero => intro i s _; simp -implicitDefEqProofs only [lp]
  | succ r ih =>
    intro i s h
    simp -implicitDefEqProofs only [lp]
    rw [h i s (by omega) (by omega)]
    exact ih (i + 1) s (fun j s h1 h2 => h j s (by omega) (by omega))
theorem lp_cut {α : Type} {f : Nat → α → α} {n k : Nat} {s : α} (hk : k ≤ n) (h : ∀ j s, k ≤ j → j < n → f j s = s) : lp f n 0 s = lp f k 0 s := by
  have := lp_add (f := f) k (n - k) 0 s
  rw [show k + (n - k) = n by omega] at this
  rw [this]
  exact lp_id _ _ _ (fun j s h1 h2 => h j s (by omega) (by omega))
section WAY
variable {α : Type} {step : Nat → Nat → Nat → α → α}
abbrev wW (step : Nat → Nat → Nat → α → α) : Nat → α → α := fun w s => step (w / 15) (w / 5 % 3) (w % 5) s
theorem way_p {d g : Nat} (hg : g < 3) : ∀ (r i : Nat) (s : α), i + r ≤ 5 → lp (wW step) r (15 * d + 5 * g + i) s = lp (step d g) r i s := by
  intro r
  induction r with
  | zero => intro i s _; simp -implicitDefEqProofs only [lp]
  | succ r ih =>
    intro i s hi
    simp -implicitDefEqProofs only [lp]
    rw [show wW step (15 * d + 5 * g + i) s = step d g i s by
      unfold wW
      rw [show (15 * d + 5 * g + i) / 15 = d by omega, show (15 * d + 5 * g + i) / 5 % 3 = g by omega, show (15 * d + 5 * g + i) % 5 = i by omega]]
    exact ih (i + 1) _ (by omega)
theorem way_g {d : Nat} : ∀ (r g : Nat) (s : α), g + r ≤ 3 → lp (wW step) (5 * r) (15 * d + 5 * g) s = lp (fun g s => lp (step d g) 5 0 s) r g s := by
  intro r
  induction r with
  | zero => intro g s _; simp -implicitDefEqProofs only [lp, Nat.mul_zero]
  | succ r ih =>
    intro g s hg
    rw [show 5 * (r + 1) = 5 + 5 * r by omega, lp_add, show 15 * d + 5 * g + 5 = 15 * d + 5 * (g + 1) by omega, ih (g + 1) _ (by omega)]
    have := way_p (step := step) (d := d) (show g < 3 by omega) 5 0 s (by omega)
    rw [Nat.add_zero] at this
    rw [this]
    simp -implicitDefEqProofs only [lp]
theorem way_d : ∀ (r d : Nat) (s : α), lp (wW step) (15 * r) (15 * d) s = lp (fun d s => lp (fun g s => lp (step d g) 5 0 s) 3 0 s) r d s := by
  intro r
  induction r with
  | zero => intro d s; simp -implicitDefEqProofs only [lp, Nat.mul_zero]
  | succ r ih =>
    intro d s
    rw [show 15 * (r + 1) = 15 + 15 * r by omega, lp_add, show 15 * d + 15 = 15 * (d + 1) by omega, ih (d + 1) _]
    have := way_g (step := step) (d := d) 3 0 s (by omega)
    rw [Nat.mul_zero, Nat.add_zero, show 5 * 3 = 15 from rfl] at this
    rw [this]
    simp -implicitDefEqProofs only [lp]
theorem way_all {a b c : Nat} (ha : a ≤ 7) (hb : b ≤ 3) (hc : c ≤ 5) (h : ∀ d g p s, ¬ (d < a ∧ g < b ∧ p < c) → step d g p s = s) (s : α) : lp (wW step) 105 0 s = lp (fun d s => lp (fun g s => lp (step d g) c 0 s) b 0 s) a 0 s := by
  have e := way_d (step := step) 7 0 s
  rw [show 15 * 7 = 105 from rfl, Nat.mul_zero] at e
  rw [e, lp_cut (k := a) ha]
  · apply lp_congr
    intro d s _ _
    rw [lp_cut (k := b) hb]
    · apply lp_congr
      intro g s _ _
      exact lp_cut hc (fun p s h1 h2 => h d g p s (by omega))
    · intro g s h1 h2
      exact lp_id _ _ _ (fun p s h3 h4 => h d g p s (by omega))
  · intro d s h1 h2
    apply lp_id
    intro g s h3 h4
    exact lp_id _ _ _ (fun p s h5 h6 => h d g p s (by omega))
end WAY
theorem w_day {g : qS} {w : Nat} (h : w < 2 ^ 31) : f_X12_dayOf g (nI w) = some (nI (w / 15)) := by
  unfold f_X12_dayOf
  rw [if_neg (by decide), show (15 : Int32) = nI 15 from rfl, pk_div h (by decide) (by decide)]
theorem w_giver {g : qS} {w : Nat} (h : w < 2 ^ 31) : f_X12_giverOf g (nI w) = some (nI (w / 5 % 3)) := by
  unfold f_X12_giverOf
  rw [if_neg (by decide), if_neg (by decide), show (5 : Int32) = nI 5 from rfl, show (3 : Int32) = nI 3 from rfl, pk_div h (by decide) (by decide), pk_rem (by omega) (by decide) (by decide)]
theorem w_person {g : qS} {w : Nat} (h : w < 2 ^ 31) : f_X12_personOf g (nI w) = some (nI (w % 5)) := by
  unfold f_X12_personOf
  rw [if_neg (by decide), show (5 : Int32) = nI 5 from rfl, pk_rem h (by decide) (by decide)]
/-! ===== the safest gift ===== -/
def nr0 (K : cK) (g t p d : Nat) : Nat := (s_near K g t p (s_tr K g p d) 0).toNatClampNeg
def sfS (K : cK) (N : Nat → Nat) (t d g p : Nat) (s : Option (Nat × Nat)) : Option (Nat × Nat) :=
  if (d < N 0 ∧ g < N 5 ∧ p < N 3) ∧ ¬ s_room K p = 0 ∧ ¬ s_tog K g p d = -2 then (match s with | none => some (100 * d + 10 * g + p, nr0 K g t p d) | some x => if nr0 K g t p d < x.2 then some (100 * d + 10 * g + p, nr0 K g t p d) else some x) else s
def eC1 (s : Option (Nat × Nat)) : Int32 := match s with
  | none => -2
  | some x => nI x.1
def eC2 (s : Option (Nat × Nat)) : Int32 := match s with
  | none => 0
  | some x => nI x.2
def eM2 (s : Option (Nat × Nat)) : Int32 := match s with
  | none => 101
  | some x => nI x.2
def sfOk (s : Option (Nat × Nat)) : Prop := ∀ x, s = some x → x.1 < 1000 ∧ x.2 ≤ 100
section SFS
variable {T D m M : Nat} {c3 c4 : sF} {u : mU} {v : mV} {N : Nat → Nat} {t d g : Nat}
theorem near_0 (h : relC u T M N) {g p d : Nat} (hg : g < N 5) (ht : t < N 2) (hp : p < N 3) (hd : d < 7) (hs : ¬ s_tog (col u M) g p d = -2) : s_near (col u M) g t p (s_tr (col u M) g p d) 0 = nI (nr0 (col u M) g t p d) ∧ nr0 (col u M) g t p d ≤ 100 := by
  obtain ⟨-, ft2⟩ := tog_tr h hg hp hd hs
  obtain ⟨X, Y, kd, hn⟩ := near_N h.2.2.2.2.2.2.2.2.2.2 hg ht hp ft2
  have hn := hn 0 (by decide)
  rw [nI_0] at hn
  have hle : nrN X Y kd 0 ≤ 100 := by unfold nrN; omega
  have : nr0 (col u M) g t p d = nrN X Y kd 0 := by
    unfold nr0
    rw [hn, nI_clamp (by omega)]
  rw [this]
  exact ⟨hn, hle⟩
theorem room_at (h : relC u T M N) {p : Nat} (hp : p < N 3) : ∃ r, r ≤ 9 ∧ s_room (col u M) p = nI r := by
  obtain ⟨k, r, w, h1, h2, h3, e1, e2, e3⟩ := h.2.2.2.2.2.2.2.2.2.2.2.1 p hp
  unfold s_room
  rw [e1, e2]
  split
  · exact ⟨r / 2, by omega, by rw [show (2 : Int32) = nI 2 from rfl, pk_div (by omega) (by decide) (by decide)]⟩
  · exact ⟨r, h2, rfl⟩
theorem sfS_ok {K : cK} {p : Nat} {s : Option (Nat × Nat)} (hn : nr0 K g t p d ≤ 100) (hd : 100 * d + 10 * g + p < 1000) (hs : sfOk s) : sfOk (sfS K N t d g p s) := by
  unfold sfS
  split
  · intro x hx
    cases s with
    | none =>
      cases hx
      exact ⟨hd, hn⟩
    | some y =>
      dsimp only at hx
      split at hx
      · cases hx
        exact ⟨hd, hn⟩
      · cases hx
        exact hs _ rfl
  · exact hs
theorem cls_sf34 {kk : Nat → Int32 → Int32 → Int32 → Int32 → Int32 → Option Int32} (ho : okTD T D) (h : relC u T M N) (ht : t < N 2) (hd : d < N 0) (hg : g < N 5) : ∀ (r p f : Nat) (s : Option (Nat × Nat)), p + r = N 3 → r < f → sfOk s → (L_X3_safestGift_34 kk (Rep (SH T D c3 c4 m) u v) f T (nI t) (eC1 s) (eC2 s) (nI d) (nI g) (nI p) = kk T (nI t) (eC1 (lp (sfS (col u M) N t d g) r p s)) (eC2 (lp (sfS (col u M) N t d g) r p s)) (nI d) (nI g)) ∧ sfOk (lp (sfS (col u M) N t d g) r p s) := by
  have hC := SH_told (c3 := c3) (c4 := c4) (m := m) ho
  have hb := bndN_of h.1
  have b0 : N 0 ≤ 7 := hb.1
  have b3 : N 3 ≤ 5 := hb.2.2.2.1
  have b4 : N 4 ≤ 4 := hb.2.2.2.2.1
  have b5 : N 5 ≤ 3 := hb.2.2.2.2.2.1
  intro r
  induction r with
  | zero =>
    intro p f s hp hf hs
    obtain ⟨f, rfl⟩ : ∃ f', f = f' + 1 := ⟨f - 1, by omega⟩
    have c : nI (N 3) ≤ nI p := nI_le (by omega) (by omega)
    refine ⟨?_, hs⟩
    simp -implicitDefEqProofs only [L_X3_safestGift_34, cls_c3 ho h.1, Option.bind_some, c, if_true, lp]
  | succ r ih =>
    intro p f s hp hf hs
    obtain ⟨f, rfl⟩ : ∃ f', f = f' + 1 := ⟨f - 1, by omega⟩
    have c : ¬ nI (N 3) ≤ nI p := nI_ge (by omega) (by omega)
    have hp3 : p < N 3 := by omega
    obtain ⟨e1, o1⟩ := shared_eq h.1 h.2.2.2.2.2.1 h.2.2.2.2.2.2.1 hg hp3 (show d < 7 by omega)
    rw [m_tog_s] at e1
    have o2 : okTr N (s_tog (col u M) g p d) := o1
    have hneg := okTr_neg o2 hb
    obtain ⟨rm, hrm, er⟩ := room_at h hp3
    have er' := room_s h hp3
    rw [er] at er'
    have p1 : ((1 : Int32) ≤ nI rm) = (1 ≤ rm) := propext (nI_leI (a := 1) (by decide) (by omega))
    have z1 : (nI rm = 0) = (rm = 0) := propext ⟨fun z => (nI_eq (b := 0) (by omega) (by decide)).mp z, fun z => by rw [z, nI_0]⟩
    have skip : (¬ rm = 0 ∧ ¬ s_tog (col u M) g p d = -2) ∨ sfS (col u M) N t d g p s = s := by
      by_cases c1 : ¬ rm = 0 ∧ ¬ s_tog (col u M) g p d = -2
      · exact Or.inl c1
      · refine Or.inr (if_neg fun z => c1 ⟨fun y => z.2.1 ?_, z.2.2⟩)
        rw [er, y, nI_0]
    simp -implicitDefEqProofs only [lp]
    by_cases c1 : s_tog (col u M) g p d = -2
    · have hsk : sfS (col u M) N t d g p s = s := if_neg fun z => z.2.2 c1
      rw [hsk]
      obtain ⟨nx, ok⟩ := ih (p + 1) f s (by omega) (by omega) hs
      refine ⟨?_, ok⟩
      simp -implicitDefEqProofs only [L_X3_safestGift_34, cls_c3 ho h.1, Option.bind_some, c, if_false, col_shared hC, e1, hneg, c1, if_true, nI_1]
      exact nx
    · by_cases c2 : rm = 0
      · have hsk : sfS (col u M) N t d g p s = s := if_neg fun z => z.2.1 (by rw [er, c2, nI_0])
        rw [hsk]
        obtain ⟨nx, ok⟩ := ih (p + 1) f s (by omega) (by omega) hs
        refine ⟨?_, ok⟩
        have p2 : ¬ 1 ≤ rm := by omega
        simp -implicitDefEqProofs only [L_X3_safestGift_34, cls_c3 ho h.1, Option.bind_some, c, if_false, col_shared hC, e1, hneg, c1, col_room hC, er', p1, p2, nI_1]
        exact nx
      · obtain ⟨n1, n2⟩ := near_0 h hg ht hp3 (show d < 7 by omega) c1
        obtain ⟨ft1, ft2⟩ := tog_tr h hg hp3 (show d < 7 by omega) c1
        have en := near_eq (x := 0) h.1 h.2.1 h.2.2.1 h.2.2.2.1 h.2.2.2.2.1 hg ht hp3 ft2
        rw [m_near_s, n1] at en
        have p2 : 1 ≤ rm := by omega
        have hcond : (d < N 0 ∧ g < N 5 ∧ p < N 3) ∧ ¬ s_room (col u M) p = 0 ∧ ¬ s_tog (col u M) g p d = -2 := ⟨⟨hd, hg, hp3⟩, by rw [er, z1]; exact c2, c1⟩
        have hok := sfS_ok (N := N) (K := col u M) (s := s) n2 (show 100 * d + 10 * g + p < 1000 by omega) hs
        have ecode : ((100 * nI d) + (10 * nI g)) + nI p = nI (100 * d + 10 * g + p) := by
          rw [show (100 : Int32) = nI 100 from rfl, show (10 : Int32) = nI 10 from rfl, nI_mul, nI_mul, nI_add, nI_add]
        have hng : ¬ nI (s_tr (col u M) g p d) < 0 := nI_pos (by omega)
        cases s with
        | none =>
          have hst : sfS (col u M) N t d g p none = some (100 * d + 10 * g + p, nr0 (col u M) g t p d) := by unfold sfS; rw [if_pos hcond]
          rw [hst] at hok ⊢
          obtain ⟨nx, ok⟩ := ih (p + 1) f _ (by omega) (by omega) hok
          refine ⟨?_, ok⟩
          have hm : (eC1 none < 0) = True := eq_true (by decide)
          simp -implicitDefEqProofs only [L_X3_safestGift_34, J_X3_safestGift_98, cls_c3 ho h.1, Option.bind_some, c, if_false, col_shared hC, e1, ft1, hng, col_room hC, er', p1, p2, if_true, col_near hC, en, hm, ecode, nI_1]
          exact nx
        | some y =>
          obtain ⟨y1, y2⟩ := hs y rfl
          have hm : ¬ eC1 (some y) < 0 := nI_pos (n := y.1) (by omega)
          have p5 : (eC2 (some y) ≤ nI (nr0 (col u M) g t p d)) = (y.2 ≤ nr0 (col u M) g t p d) := propext (nI_leI (a := y.2) (by omega) (by omega))
          by_cases c5 : nr0 (col u M) g t p d < y.2
          · have hst : sfS (col u M) N t d g p (some y) = some (100 * d + 10 * g + p, nr0 (col u M) g t p d) := by
              unfold sfS
              rw [if_pos hcond]
              exact if_pos c5
            rw [hst] at hok ⊢
            obtain ⟨nx, ok⟩ := ih (p + 1) f _ (by omega) (by omega) hok
            refine ⟨?_, ok⟩
            have c6 : ¬ y.2 ≤ nr0 (col u M) g t p d := by omega
            simp -implicitDefEqProofs only [L_X3_safestGift_34, J_X3_safestGift_98, cls_c3 ho h.1, Option.bind_some, c, if_false, col_shared hC, e1, ft1, hng, col_room hC, er', p1, p2, if_true, col_near hC, en, hm, p5, c6, ecode, nI_1]
            exact nx
          · have hst : sfS (col u M) N t d g p (some y) = some y := by
              unfold sfS
              rw [if_pos hcond]
              exact if_neg c5
            rw [hst] at hok ⊢
            obtain ⟨nx, ok⟩ := ih (p + 1) f _ (by omega) (by omega) hok
            refine ⟨?_, ok⟩
            have c6 : y.2 ≤ nr0 (col u M) g t p d := by omega
            simp -implicitDefEqProofs only [L_X3_safestGift_34, cls_c3 ho h.1, Option.bind_some, c, if_false, col_shared hC, e1, ft1, hng, col_room hC, er', p1, p2, if_true, col_near hC, en, hm, p5, c6, nI_1]
            exact nx
theorem cls_sf21 {kk : Nat → Int32 → Int32 → Int32 → Int32 → Option Int32} (ho : okTD T D) (h : relC u T M N) (ht : t < N 2) (hd : d < N 0) : ∀ (r g f : Nat) (s : Option (Nat × Nat)), g + r = N 5 → r < f → sfOk s → (L_X3_safestGift_21 kk (Rep (SH T D c3 c4 m) u v) f T (nI t) (eC1 s) (eC2 s) (nI d) (nI g) = kk T (nI t) (eC1 (lp (fun g s => lp (sfS (col u M) N t d g) (N 3) 0 s) r g s)) (eC2 (lp (fun g s => lp (sfS (col u M) N t d g) (N 3) 0 s) r g s)) (nI d)) ∧ sfOk (lp (fun g s => lp (sfS (col u M) N t d g) (N 3) 0 s) r g s) := by
  have hb := bndN_of h.1
  have b3 : N 3 ≤ 5 := hb.2.2.2.1
  have b5 : N 5 ≤ 3 := hb.2.2.2.2.2.1
  intro r
  induction r with
  | zero =>
    intro g f s hg hf hs
    obtain ⟨f, rfl⟩ : ∃ f', f = f' + 1 := ⟨f - 1, by omega⟩
    have c : nI (N 5) ≤ nI g := nI_le (by omega) (by omega)
    refine ⟨?_, hs⟩
    simp -implicitDefEqProofs only [L_X3_safestGift_21, cls_c5 ho h.1, Option.bind_some, c, if_true, lp]
  | succ r ih =>
    intro g f s hg hf hs
    obtain ⟨f, rfl⟩ : ∃ f', f = f' + 1 := ⟨f - 1, by omega⟩
    have c : ¬ nI (N 5) ≤ nI g := nI_ge (by omega) (by omega)
    have e1 := fun kk => cls_sf34 (c3 := c3) (c4 := c4) (m := m) (v := v) (kk := kk) ho h ht hd (show g < N 5 by omega) (N 3) 0 1000000000 s (by omega) (by omega) hs
    obtain ⟨nx, ok⟩ := ih (g + 1) f _ (by omega) (by omega) (e1 (fun _ _ _ _ _ _ => none)).2
    simp -implicitDefEqProofs only [lp]
    refine ⟨?_, ok⟩
    rw [L_X3_safestGift_21, cls_c5 ho h.1, Option.bind_some, if_neg c, show (0 : Int32) = nI 0 from nI_0.symm, (e1 _).1, nI_1]
    exact nx
theorem cls_sf8 (ho : okTD T D) (h : relC u T M N) (ht : t < N 2) : ∀ (r d f : Nat) (s : Option (Nat × Nat)), d + r = N 0 → r < f → sfOk s → (L_X3_safestGift_8 (Rep (SH T D c3 c4 m) u v) f T (nI t) (eC1 s) (eC2 s) (nI d) = some (eC1 (lp (fun d s => lp (fun g s => lp (sfS (col u M) N t d g) (N 3) 0 s) (N 5) 0 s) r d s))) := by
  have hb := bndN_of h.1
  have b0 : N 0 ≤ 7 := hb.1
  have b5 : N 5 ≤ 3 := hb.2.2.2.2.2.1
  intro r
  induction r with
  | zero =>
    intro d f s hd hf hs
    obtain ⟨f, rfl⟩ : ∃ f', f = f' + 1 := ⟨f - 1, by omega⟩
    have c : nI (N 0) ≤ nI d := nI_le (by omega) (by omega)
    simp -implicitDefEqProofs only [L_X3_safestGift_8, cls_c0 ho h.1, Option.bind_some, c, if_true, lp]
  | succ r ih =>
    intro d f s hd hf hs
    obtain ⟨f, rfl⟩ : ∃ f', f = f' + 1 := ⟨f - 1, by omega⟩
    have c : ¬ nI (N 0) ≤ nI d := nI_ge (by omega) (by omega)
    have e1 := fun kk => cls_sf21 (c3 := c3) (c4 := c4) (m := m) (v := v) (kk := kk) ho h ht (show d < N 0 by omega) (N 5) 0 1000000000 s (by omega) (by omega) hs
    have nx := ih (d + 1) f _ (by omega) (by omega) (e1 (fun _ _ _ _ _ => none)).2
    simp -implicitDefEqProofs only [lp]
    rw [L_X3_safestGift_8, cls_c0 ho h.1, Option.bind_some, if_neg c, show (0 : Int32) = nI 0 from nI_0.symm, (e1 _).1, nI_1]
    exact nx
end SFS
