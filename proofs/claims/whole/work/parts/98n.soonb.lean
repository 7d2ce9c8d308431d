/-! ===== soonest: the model tries the ways ===== -/
theorem sr_leaf2 {W n : Nat} {A : Nat → (Nat → Nat) → Nat → Bool} {L L' : (Nat → Nat) → Bool} (hc : ∀ k ch ch' w, (∀ j, j < k → ch j = ch' j) → A k ch w = A k ch' w) (hL : ∀ c, (∀ k, k < n → c k < W ∧ A k c (c k) = true) → L c = L' c) : ∀ (r k : Nat) (ch : Nat → Nat), k + r = n → (∀ j, j < k → ch j < W ∧ A j ch (ch j) = true) → sr W A L r k ch = sr W A L' r k ch := by
  intro r
  induction r with
  | zero =>
    intro k ch hk hp
    show (if L ch = true then some ch else none) = (if L' ch = true then some ch else none)
    rw [hL ch (fun j hj => hp j (by omega))]
  | succ r ih =>
    intro k ch hk hp
    refine ff_congr W 0 (fun w _ hw => ?_)
    show (if A k ch w = true then sr W A L r (k + 1) (updN ch k w) else none) = (if A k ch w = true then sr W A L' r (k + 1) (updN ch k w) else none)
    by_cases ca : A k ch w = true
    · rw [if_pos ca, if_pos ca]
      refine ih (k + 1) _ (by omega) (fun j hj => ?_)
      rw [updN_at]
      by_cases cj : j = k
      · subst cj
        rw [if_pos rfl, hc j (updN ch j w) ch w (fun i hi => by rw [updN_at, if_neg (by omega)])]
        exact ⟨by omega, ca⟩
      · rw [if_neg cj, hc j (updN ch k w) ch (ch j) (fun i hi => by rw [updN_at, if_neg (by omega)])]
        exact hp j (by omega)
    · rw [if_neg ca, if_neg ca]
/-- the model's tests of a way w for thing k, and of a row -/
def mA (K : cK) (N : Nat → Nat) (k : Nat) (ch : Nat → Nat) (w : Nat) : Bool := alo K N k w && fre (fun j => ch j / 5) k (w / 5)
def mL (K : cK) (N : Nat → Nat) (c : Nat → Nat) : Bool := alD (stS K c (N 2)) (N 2)
def mSr (K : cK) (N : Nat → Nat) (W r k : Nat) (ch : Nat → Nat) : Option (Nat → Nat) := sr W (mA K N) (mL K N) r k ch
def mSt (K : cK) (N : Nat → Nat) (W r k : Nat) (ch : Nat → Nat) (w : Nat) : Option (Nat → Nat) := if mA K N k ch w = true then mSr K N W r (k + 1) (updN ch k w) else none
theorem mA_congr {K : cK} {N : Nat → Nat} (k : Nat) (ch ch' : Nat → Nat) (w : Nat) (h : ∀ j, j < k → ch j = ch' j) : mA K N k ch w = mA K N k ch' w := by
  unfold mA
  rw [fre_congr (ch := fun j => ch j / 5) (ch' := fun j => ch' j / 5) (fun j hj => by show ch j / 5 = ch' j / 5; rw [h j hj])]
section MRW
variable {T D m M : Nat} {c4 : sF} {u : mU} {v : mV} {N : Nat → Nat} {W : Nat}
theorem mod_row (h : relC u T M N) {dd : Nat} : mSr (col u M) N (15 * (dd + 1)) (N 2) 0 (fun _ => 0) = snR (col u M) N dd := by
  have hb := bndN_of h.1
  have b0 : N 0 ≤ 7 := hb.1
  have b2 : N 2 ≤ 4 := hb.2.2.1
  unfold mSr snR
  rw [sr_leaf2 (n := N 2) (L := mL (col u M) N) (L' := lfT (col u M) N) mA_congr (fun c hc => ?_) (N 2) 0 _ (by omega) (fun j hj => absurd hj (by omega))]
  · refine sr_prune (n := N 2) mA_congr (fun c hc k hk => ?_) (N 2) 0 _ (by omega)
    obtain ⟨hi, hf, hs⟩ := (lfT_iff.mp hc) k hk
    have m2 := hd_le (ch := c) (t := k) (N 2)
    have h5 := can_mono (a := 0) h hi.2.1 hk hi.2.2 (by omega) (Nat.zero_le _) (by omega) hs
    unfold mA alo
    rw [hf, decide_eq_true hi, h5]
    rfl
  · rw [Bool.eq_iff_iff, lfT_iff]
    unfold mL
    rw [alD_iff]
    have hx : ∀ k, k < N 2 → (c k / 15 < N 0 ∧ c k / 5 % 3 < N 5 ∧ c k % 5 < N 3) ∧ fre (fun j => c j / 5) k (c k / 5) = true := by
      intro k hk
      have := (hc k hk).2
      unfold mA alo at this
      rw [Bool.and_eq_true, Bool.and_eq_true] at this
      exact ⟨of_decide_eq_true this.1.1, this.2⟩
    exact ⟨fun z t ht => ⟨(hx t ht).1, (hx t ht).2, z t ht⟩, fun z t ht => (z t ht).2.2⟩
/-- the model's state while it tries -/
abbrev fgS (T D m M : Nat) (c4 : sF) (u : mU) (v : mV) (G : Nat → Int32) (a : Int32) (W X : Nat → Int32) : qS := Rep (SH T D (fR M) c4 m) (put (fmB u W G a) 78 X) v
theorem mg_scan {w : Nat → Nat} {G : Nat → Int32} {a : Int32} {k : Nat} (ho : okTD T D) (hMs : mSh (SH T D (fR M) c4 m) M) (hM : 88 ≤ M) (h : relC u T M N) (hk : k < N 2) (hW5 : W ≤ 105) : ∀ (e i f : Nat) (Y X : Nat → Int32), i + e = W → e < f → (∀ j, j < k → w j < 105 ∧ Y j = nI (w j)) → Y k = nI i → ∃ i' Y' X', i ≤ i' ∧ i' ≤ W ∧ (i' < W → mA (col u M) N k w i' = true) ∧ (∀ x, i ≤ x → x < i' → mA (col u M) N k w x = false) ∧ (∀ j, j < k → Y' j = Y j) ∧ Y' k = nI i' ∧ ∀ kk, L_X12_gives_31 kk f 75 (nI W) (nI k) (fgS T D m M c4 u v G a Y X) = kk 75 (nI W) (nI k) (fgS T D m M c4 u v G a Y' X') := by
  have b2 : N 2 ≤ 4 := (bndN_of h.1).2.2.1
  have hk4 : k < 4 := by omega
  intro e
  induction e with
  | zero =>
    intro i f Y X hi hf hw hW
    obtain ⟨f, rfl⟩ : ∃ f', f = f' + 1 := ⟨f - 1, by omega⟩
    have c : nI W ≤ nI i := nI_le (by omega) (by omega)
    refine ⟨i, Y, X, by omega, by omega, fun z => absurd z (by omega), fun x h1 h2 => absurd h2 (by omega), fun j _ => rfl, hW, fun kk => ?_⟩
    rw [L_X12_gives_31, gR_75_22, Option.bind_some, aI_82 hk4, fm_82, hW, Option.bind_some, if_pos c]
  | succ e ih =>
    intro i f Y X hi hf hw hW
    obtain ⟨f, rfl⟩ : ∃ f', f = f' + 1 := ⟨f - 1, by omega⟩
    have c : ¬ nI W ≤ nI i := nI_ge (by omega) (by omega)
    obtain ⟨X1, e1⟩ := ref_alone (v := v) (c4 := c4) (m := m) (w := i) ho hMs hM (fm_relC (W := Y) (G := G) (a := a) ho hM h) hk (by omega) X
    rw [fm_col hM] at e1
    have e2 := ref_free (T := T) (D := D) (m := m) (M := M) (c4 := c4) (u := u) (v := v) (G := G) (X := X1) (a := a) (W := Y) (w := updN w k i) hk4 (fun j hj => by
      rw [updN_at]
      by_cases cj : j = k
      · rw [if_pos cj, cj]; exact ⟨by omega, hW⟩
      · rw [if_neg cj]; exact hw j (by omega))
    rw [show updN w k i k = i from if_pos rfl, fre_congr (ch := fun j => updN w k i j / 5) (ch' := fun j => w j / 5) (fun j hj => by
      show updN w k i j / 5 = w j / 5
      rw [updN_at, if_neg (by omega)])] at e2
    have hm : mA (col u M) N k w i = (alo (col u M) N k i && fre (fun j => w j / 5) k (i / 5)) := rfl
    have hnext : mA (col u M) N k w i = false → (∀ kk, L_X12_gives_31 kk (f + 1) 75 (nI W) (nI k) (fgS T D m M c4 u v G a Y X) = J_X12_gives_63 (L_X12_gives_31 kk f) 75 (nI W) (nI k) (fgS T D m M c4 u v G a Y X1)) → ∃ i' Y' X', i ≤ i' ∧ i' ≤ W ∧ (i' < W → mA (col u M) N k w i' = true) ∧ (∀ x, i ≤ x → x < i' → mA (col u M) N k w x = false) ∧ (∀ j, j < k → Y' j = Y j) ∧ Y' k = nI i' ∧ ∀ kk, L_X12_gives_31 kk (f + 1) 75 (nI W) (nI k) (fgS T D m M c4 u v G a Y X) = kk 75 (nI W) (nI k) (fgS T D m M c4 u v G a Y' X') := by
      intro cc hstep
      obtain ⟨i', Y', X', h1, h2, h3, h4, h5, h6, h7⟩ := ih (i + 1) f (upd Y k (nI (i + 1))) X1 (by omega) (by omega) (fun j hj => by
        rw [upd_at, if_neg (by omega)]
        exact hw j hj) (by rw [upd_at, if_pos rfl])
      refine ⟨i', Y', X', by omega, h2, h3, fun x a1 a2 => ?_, fun j hj => ?_, h6, fun kk => ?_⟩
      · by_cases cx : x = i
        · rw [cx]; exact cc
        · exact h4 x (by omega) a2
      · rw [h5 j hj, upd_at, if_neg (by omega)]
      · rw [← h7 kk, hstep]
        unfold J_X12_gives_63
        rw [gR_75_22, Option.bind_some, aI_82 hk4, fm_82, hW, Option.bind_some, nI_1, sI_82 hk4, Option.bind_some, fm_w]
    cases ca : alo (col u M) N k i with
    | false =>
      rw [ca] at e1 hm
      refine hnext (by rw [hm, Bool.false_and]) (fun kk => ?_)
      rw [L_X12_gives_31, gR_75_22, Option.bind_some, aI_82 hk4, fm_82, hW, Option.bind_some, if_neg c, Option.bind_some, aI_82 hk4, fm_82, hW, Option.bind_some, e1, q_b2_some, show bI false = 0 from rfl, if_pos rfl]
    | true =>
      rw [ca, Bool.true_and] at hm
      rw [ca] at e1
      cases cf : fre (fun j => w j / 5) k (i / 5) with
      | false =>
        rw [cf] at e2 hm
        refine hnext hm (fun kk => ?_)
        rw [L_X12_gives_31, gR_75_22, Option.bind_some, aI_82 hk4, fm_82, hW, Option.bind_some, if_neg c, Option.bind_some, aI_82 hk4, fm_82, hW, Option.bind_some, e1, q_b2_some, show bI true = 1 from rfl, if_neg (by decide), e2, Option.bind_some, show bI false = 0 from rfl, if_pos rfl]
      | true =>
        rw [cf] at e2 hm
        refine ⟨i, Y, X1, by omega, by omega, fun _ => hm, fun x h1 h2 => absurd h2 (by omega), fun j _ => rfl, hW, fun kk => ?_⟩
        rw [L_X12_gives_31, gR_75_22, Option.bind_some, aI_82 hk4, fm_82, hW, Option.bind_some, if_neg c, Option.bind_some, aI_82 hk4, fm_82, hW, Option.bind_some, e1, q_b2_some, show bI true = 1 from rfl, if_neg (by decide), e2, Option.bind_some, show bI true = 1 from rfl, if_neg (by decide)]
end MRW
