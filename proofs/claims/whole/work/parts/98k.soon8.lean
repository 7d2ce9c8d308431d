theorem updN_self {ch : Nat → Nat} {k : Nat} : updN ch k (ch k) = ch := by
  funext j
  rw [updN_at]
  by_cases c : j = k
  · rw [if_pos c, c]
  · rw [if_neg c]
/-- a leaf that is reached only through the tests -/
theorem sr_leaf {W n : Nat} {A : Nat → (Nat → Nat) → Nat → Bool} {L : (Nat → Nat) → Bool} (hc : ∀ k ch ch' w, (∀ j, j < k → ch j = ch' j) → A k ch w = A k ch' w) (hL : ∀ c, (∀ k, k < n → c k < W ∧ A k c (c k) = true) → L c = true) : ∀ (r k : Nat) (ch : Nat → Nat), k + r = n → (∀ j, j < k → ch j < W ∧ A j ch (ch j) = true) → sr W A (fun _ => true) r k ch = sr W A L r k ch := by
  intro r
  induction r with
  | zero =>
    intro k ch hk hp
    show (if true = true then some ch else none) = (if L ch = true then some ch else none)
    rw [if_pos rfl, if_pos (hL ch (fun j hj => hp j (by omega)))]
  | succ r ih =>
    intro k ch hk hp
    refine ff_congr W 0 (fun w _ hw => ?_)
    show (if A k ch w = true then sr W A (fun _ => true) r (k + 1) (updN ch k w) else none) = (if A k ch w = true then sr W A L r (k + 1) (updN ch k w) else none)
    by_cases ca : A k ch w = true
    · rw [if_pos ca, if_pos ca]
      refine ih (k + 1) _ (by omega) (fun j hj => ?_)
      rw [updN_at]
      by_cases cj : j = k
      · subst cj
        rw [if_pos rfl, hc j (updN ch j w) ch w (fun i hi => by rw [updN_at, if_neg (by omega)])]
        exact ⟨by omega, ca⟩
      · rw [if_neg cj, hc j (updN ch k w) ch (ch j) (fun i hi => by rw [updN_at, if_neg (by omega)])]
        exact hp j (by omega)
    · rw [if_neg ca, if_neg ca]
/-- ways that no test takes, at the end -/
theorem sr_cut {a b : Nat} {A : Nat → (Nat → Nat) → Nat → Bool} {L : (Nat → Nat) → Bool} (h : ∀ k ch w, a ≤ w → w < a + b → A k ch w = false) : ∀ (r k : Nat) (ch : Nat → Nat), sr (a + b) A L r k ch = sr a A L r k ch := by
  intro r
  induction r with
  | zero => intro k ch; rfl
  | succ r ih =>
    intro k ch
    show ff (fun w => if A k ch w = true then sr (a + b) A L r (k + 1) (updN ch k w) else none) (a + b) 0 = ff (fun w => if A k ch w = true then sr a A L r (k + 1) (updN ch k w) else none) a 0
    rw [ff_cut (fun j h1 h2 => ?_)]
    · refine ff_congr a 0 (fun w _ _ => ?_)
      show (if A k ch w = true then sr (a + b) A L r (k + 1) (updN ch k w) else none) = _
      rw [ih (k + 1) (updN ch k w)]
    · show (if A k ch j = true then sr (a + b) A L r (k + 1) (updN ch k j) else none) = none
      rw [h k ch j (by omega) (by omega), if_neg (by decide)]
theorem sr_none {W : Nat} {A : Nat → (Nat → Nat) → Nat → Bool} {L : (Nat → Nat) → Bool} {r k : Nat} {ch : Nat → Nat} (h : ∀ c, L c = false) : sr W A L r k ch = none := by
  cases cs : sr W A L r k ch with
  | none => rfl
  | some c =>
    have := (sr_some r k ch cs).1
    rw [h c] at this
    cases this
/-- all things are given so -/
def lfT (K : cK) (N : Nat → Nat) (c : Nat → Nat) : Bool := alD (fun t => decide (c t / 15 < N 0 ∧ c t / 5 % 3 < N 5 ∧ c t % 5 < N 3) && (fre (fun j => c j / 5) t (c t / 5) && stS K c (N 2) t)) (N 2)
def snR (K : cK) (N : Nat → Nat) (dd : Nat) : Option (Nat → Nat) := sr (15 * (dd + 1)) (fun _ _ _ => true) (lfT K N) (N 2) 0 (fun _ => 0)
theorem lfT_iff {K : cK} {N : Nat → Nat} {c : Nat → Nat} : lfT K N c = true ↔ ∀ t, t < N 2 → (c t / 15 < N 0 ∧ c t / 5 % 3 < N 5 ∧ c t % 5 < N 3) ∧ fre (fun j => c j / 5) t (c t / 5) = true ∧ stS K c (N 2) t = true := by
  unfold lfT
  rw [alD_iff]
  constructor
  · intro h t ht
    have := h t ht
    rw [Bool.and_eq_true, Bool.and_eq_true] at this
    exact ⟨of_decide_eq_true this.1, this.2⟩
  · intro h t ht
    rw [Bool.and_eq_true, Bool.and_eq_true]
    exact ⟨decide_eq_true (h t ht).1, (h t ht).2⟩
theorem alD_congr {p q : Nat → Bool} : ∀ (n : Nat), (∀ j, j < n → p j = q j) → alD p n = alD q n := by
  intro n
  induction n with
  | zero => intro _; rfl
  | succ n ih =>
    intro h
    show (p n && alD p n) = (q n && alD q n)
    rw [h n (by omega), ih (fun j hj => h j (by omega))]
theorem cA_congr {K : cK} {N : Nat → Nat} (k : Nat) (ch ch' : Nat → Nat) (w : Nat) (h : ∀ j, j < k → ch j = ch' j) : cA K N k ch w = cA K N k ch' w := by
  have hu : ∀ j, j < k + 1 → updN ch k w j = updN ch' k w j := by
    intro j hj
    rw [updN_at, updN_at]
    by_cases c : j = k
    · rw [if_pos c, if_pos c]
    · rw [if_neg c, if_neg c]; exact h j (by omega)
  unfold cA
  rw [fre_congr (ch := fun j => ch j / 5) (ch' := fun j => ch' j / 5) (fun j hj => by show ch j / 5 = ch' j / 5; rw [h j hj])]
  rw [alD_congr (p := sbP K (updN ch k w) k) (q := sbP K (updN ch' k w) k) (k + 1) (fun j hj => ?_)]
  unfold sbP stS
  rw [hu j hj, hu k (by omega), hd_congr (k + 1) (hu j hj) hu]
section CFI
variable {T D m M : Nat} {c3 c4 : sF} {u : mU} {v : mV} {N : Nat → Nat} {dd : Nat} {c : Nat → Nat}
theorem cls_row (h : relC u T M N) (hdd : dd < N 0) : cSr (col u M) N (15 * (dd + 1)) (N 2) 0 (fun _ => 0) = snR (col u M) N dd := by
  have hb := bndN_of h.1
  have b0 : N 0 ≤ 7 := hb.1
  unfold cSr snR
  rw [sr_leaf (n := N 2) (L := lfT (col u M) N) cA_congr (fun c hc => ?_) (N 2) 0 _ (by omega) (fun j hj => absurd hj (by omega))]
  · refine sr_prune (n := N 2) cA_congr (fun c hc k hk => ?_) (N 2) 0 _ (by omega)
    rw [lfT_iff] at hc
    have hs := (sb_all (ch := c) h (Nat.le_refl (N 2)) (fun j hj => ⟨by have := (hc j hj).1.1; omega, (hc j hj).1.2⟩)).mpr (fun t ht => (hc t ht).2.2) k hk
    unfold cA
    rw [updN_self, hs, (hc k hk).2.1, decide_eq_true (hc k hk).1.2]
    rfl
  · rw [lfT_iff]
    have hx : ∀ k, k < N 2 → (c k / 5 % 3 < N 5 ∧ c k % 5 < N 3) ∧ fre (fun j => c j / 5) k (c k / 5) = true ∧ alD (sbP (col u M) c k) (k + 1) = true := by
      intro k hk
      have := (hc k hk).2
      unfold cA at this
      rw [updN_self, Bool.and_eq_true, Bool.and_eq_true] at this
      exact ⟨of_decide_eq_true this.1, this.2⟩
    have hw : ∀ k, k < N 2 → c k < 15 * (dd + 1) := fun k hk => (hc k hk).1
    have hs := (sb_all (ch := c) h (Nat.le_refl (N 2)) (fun j hj => ⟨by have := hw j hj; omega, (hx j hj).1⟩)).mp (fun k hk => (hx k hk).2.2)
    intro t ht
    exact ⟨⟨by have := hw t ht; omega, (hx t ht).1⟩, (hx t ht).2.1, hs t ht⟩
theorem snR_skip (h2 : 1 ≤ N 2) (hn : ∀ c, lfT (col u M) N c = true → ∀ t, t < N 2 → ¬ c t / 15 = dd) (hp : ∀ d, d + 1 = dd → snR (col u M) N d = none) : snR (col u M) N dd = none := by
  have hpr := fun W => sr_prune (W := W) (n := N 2) (A := fun _ _ w => decide (¬ w / 15 = dd)) (L := lfT (col u M) N) (fun _ _ _ _ _ => rfl) (fun c hc k hk => decide_eq_true (hn c hc k hk)) (N 2) 0 (fun _ => 0) (by omega)
  unfold snR
  rw [← hpr, show 15 * (dd + 1) = 15 * dd + 15 by omega, sr_cut (fun k ch w h1 h3 => decide_eq_false (not_not_intro (by omega))), hpr]
  rcases dd with _ | d
  · obtain ⟨r, hr⟩ : ∃ r, N 2 = r + 1 := ⟨N 2 - 1, by omega⟩
    rw [hr]
    rfl
  · exact hp d rfl
theorem lfT_tog (h : lfT (col u M) N c = true) {t : Nat} (ht : t < N 2) : ¬ s_tog (col u M) (c t / 5 % 3) (c t % 5) (c t / 15) = -2 := by
  have := ((lfT_iff.mp h) t ht).2.2
  unfold stS s_can at this
  rw [Bool.and_eq_true] at this
  exact of_decide_eq_true this.1
/-- whether anybody is together with a giver -/
def anyT (K : cK) (N : Nat → Nat) (d : Nat) : Bool := anyB (fun g => anyB (fun p => decide (¬ s_tog K g p d = -2)) (N 3) 0) (N 5) 0
theorem cls_any (ho : okTD T D) (h : relC u T M N) {d : Nat} (hd : d < 7) : f_X3_anybodyTogether (Rep (SH T D c3 c4 m) u v) T (nI d) = some (bI (anyT (col u M) N d)) := by
  have hCt := SH_told (c3 := c3) (c4 := c4) (m := m) ho
  have hb := bndN_of h.1
  have b3 : N 3 ≤ 5 := hb.2.2.2.1
  have b5 : N 5 ≤ 3 := hb.2.2.2.2.2.1
  have g13 : ∀ (g : Nat) (kk : Nat → Int32 → Int32 → Option Int32), g < N 5 → ∀ (r p f : Nat), p + r = N 3 → r < f → L_X3_anybodyTogether_13 kk (Rep (SH T D c3 c4 m) u v) f T (nI d) (nI g) (nI p) = if anyB (fun p => decide (¬ s_tog (col u M) g p d = -2)) r p = true then some 1 else kk T (nI d) (nI g) := by
    intro g kk hg r
    induction r with
    | zero =>
      intro p f hp hf
      obtain ⟨f, rfl⟩ : ∃ f', f = f' + 1 := ⟨f - 1, by omega⟩
      have c : nI (N 3) ≤ nI p := nI_le (by omega) (by omega)
      rw [L_X3_anybodyTogether_13, cls_c3 ho h.1, Option.bind_some, if_pos c, show anyB (fun p => decide (¬ s_tog (col u M) g p d = -2)) 0 p = false from rfl, if_neg (by decide)]
    | succ r ih =>
      intro p f hp hf
      obtain ⟨f, rfl⟩ : ∃ f', f = f' + 1 := ⟨f - 1, by omega⟩
      have c : ¬ nI (N 3) ≤ nI p := nI_ge (by omega) (by omega)
      obtain ⟨e1, o1⟩ := shared_eq h.1 h.2.2.2.2.2.1 h.2.2.2.2.2.2.1 hg (show p < N 3 by omega) hd
      have hneg := okTr_neg (show okTr N (s_tog (col u M) g p d) from o1) hb
      rw [m_tog_s] at e1
      rw [L_X3_anybodyTogether_13, cls_c3 ho h.1, Option.bind_some, if_neg c, col_shared hCt, e1, Option.bind_some, nI_1, ih (p + 1) f (by omega) (by omega), show anyB (fun p => decide (¬ s_tog (col u M) g p d = -2)) (r + 1) p = (decide (¬ s_tog (col u M) g p d = -2) || anyB (fun p => decide (¬ s_tog (col u M) g p d = -2)) r (p + 1)) from rfl]
      by_cases cc : s_tog (col u M) g p d = -2
      · rw [if_pos (hneg.mpr cc), decide_eq_false (not_not_intro cc), Bool.false_or]
      · rw [if_neg (fun z => cc (hneg.mp z)), decide_eq_true cc, Bool.true_or, if_pos rfl]
  have g2 : ∀ (r g f : Nat), g + r = N 5 → r < f → L_X3_anybodyTogether_2 (Rep (SH T D c3 c4 m) u v) f T (nI d) (nI g) = some (bI (anyB (fun g => anyB (fun p => decide (¬ s_tog (col u M) g p d = -2)) (N 3) 0) r g)) := by
    intro r
    induction r with
    | zero =>
      intro g f hg hf
      obtain ⟨f, rfl⟩ : ∃ f', f = f' + 1 := ⟨f - 1, by omega⟩
      have c : nI (N 5) ≤ nI g := nI_le (by omega) (by omega)
      rw [L_X3_anybodyTogether_2, cls_c5 ho h.1, Option.bind_some, if_pos c]
      rfl
    | succ r ih =>
      intro g f hg hf
      obtain ⟨f, rfl⟩ : ∃ f', f = f' + 1 := ⟨f - 1, by omega⟩
      have c : ¬ nI (N 5) ≤ nI g := nI_ge (by omega) (by omega)
      have e := fun kk => g13 g kk (by omega) (N 3) 0 1000000000 (by omega) (by omega)
      rw [nI_0] at e
      rw [L_X3_anybodyTogether_2, cls_c5 ho h.1, Option.bind_some, if_neg c, e, nI_1, ih (g + 1) f (by omega) (by omega), show anyB (fun g => anyB (fun p => decide (¬ s_tog (col u M) g p d = -2)) (N 3) 0) (r + 1) g = (anyB (fun p => decide (¬ s_tog (col u M) g p d = -2)) (N 3) 0 || anyB (fun g => anyB (fun p => decide (¬ s_tog (col u M) g p d = -2)) (N 3) 0) r (g + 1)) from rfl]
      cases cc : anyB (fun p => decide (¬ s_tog (col u M) g p d = -2)) (N 3) 0 with
      | true =>
        rw [Bool.true_or, if_pos rfl]
        rfl
      | false => rw [Bool.false_or, if_neg (by decide)]
  have e := g2 (N 5) 0 1000000000 (by omega) (by omega)
  rw [nI_0] at e
  unfold f_X3_anybodyTogether anyT
  rw [cC hCt, Option.bind_some, e]
theorem snR_any (h2 : 1 ≤ N 2) (ha : anyT (col u M) N dd = false) (hp : ∀ d, d + 1 = dd → snR (col u M) N d = none) : snR (col u M) N dd = none := by
  refine snR_skip h2 (fun c hc t ht hz => ?_) hp
  have h1 := lfT_tog hc ht
  have h3 := ((lfT_iff.mp hc) t ht).1
  rw [hz] at h1
  have : anyT (col u M) N dd = true := by
    unfold anyT
    rw [anyB_iff]
    refine ⟨c t / 5 % 3, by omega, by omega, ?_⟩
    rw [anyB_iff]
    exact ⟨c t % 5, by omega, by omega, decide_eq_true h1⟩
  rw [ha] at this
  cases this
end CFI
