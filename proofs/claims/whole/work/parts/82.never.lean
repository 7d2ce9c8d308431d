def anyB (p : Nat → Bool) : Nat → Nat → Bool
  | 0, _ => false
  | r + 1, i => p i || anyB p r (i + 1)
theorem anyB_iff {p : Nat → Bool} : ∀ (r i : Nat), anyB p r i = true ↔ ∃ k, i ≤ k ∧ k < i + r ∧ p k = true := by
  intro r
  induction r with
  | zero =>
    intro i
    constructor
    · intro h
      cases h
    · rintro ⟨k, h1, h2, h3⟩
      omega
  | succ r ih =>
    intro i
    unfold anyB
    rw [Bool.or_eq_true, ih]
    constructor
    · rintro (h | ⟨k, h1, h2, h3⟩)
      · exact ⟨i, by omega, by omega, h⟩
      · exact ⟨k, by omega, by omega, h3⟩
    · rintro ⟨k, h1, h2, h3⟩
      by_cases c : k = i
      · rw [c] at h3; exact Or.inl h3
      · exact Or.inr ⟨k, by omega, by omega, h3⟩
def s_can (K : cK) (g t p d h : Nat) : Bool := decide (¬ s_tog K g p d = -2) && (decide (nI h < s_room K p) && decide (s_near K g t p (s_tr K g p d) (nI h) ≤ K 0 1))
abbrev bI (b : Bool) : Int32 := if b = true then 1 else 0
def evr (K : cK) (N : Nat → Nat) (t : Nat) : Bool := anyB (fun d => anyB (fun g => anyB (fun p => s_can K g t p d 0) (N 3) 0) (N 5) 0) (N 0) 0
def alo (K : cK) (N : Nat → Nat) (t w : Nat) : Bool := decide (w / 15 < N 0 ∧ w / 5 % 3 < N 5 ∧ w % 5 < N 3) && s_can K (w / 5 % 3) t (w % 5) (w / 15) 0
theorem evr_alo {K : cK} {N : Nat → Nat} {t : Nat} (hb : bndN N) : anyB (alo K N t) 105 0 = evr K N t := by
  have b0 : N 0 ≤ 7 := hb.1
  have b3 : N 3 ≤ 5 := hb.2.2.2.1
  have b5 : N 5 ≤ 3 := hb.2.2.2.2.2.1
  apply Bool.eq_iff_iff.mpr
  unfold evr
  rw [anyB_iff, anyB_iff]
  constructor
  · rintro ⟨w, -, h2, h3⟩
    unfold alo at h3
    rw [Bool.and_eq_true, decide_eq_true_iff] at h3
    refine ⟨w / 15, by omega, by omega, anyB_iff _ _ |>.mpr ⟨w / 5 % 3, by omega, by omega, anyB_iff _ _ |>.mpr ⟨w % 5, by omega, by omega, h3.2⟩⟩⟩
  · rintro ⟨d, -, h2, h3⟩
    obtain ⟨g, -, h5, h6⟩ := (anyB_iff _ _).mp h3
    obtain ⟨p, -, h8, h9⟩ := (anyB_iff _ _).mp h6
    have e1 : (15 * d + 5 * g + p) / 15 = d := by omega
    have e2 : (15 * d + 5 * g + p) / 5 % 3 = g := by omega
    have e3 : (15 * d + 5 * g + p) % 5 = p := by omega
    refine ⟨15 * d + 5 * g + p, by omega, by omega, ?_⟩
    unfold alo
    rw [e1, e2, e3, Bool.and_eq_true]
    exact ⟨decide_eq_true ⟨by omega, by omega, by omega⟩, h9⟩
section NEV
variable {T D m M : Nat} {c3 c4 : sF} {u : mU} {v : mV} {N : Nat → Nat} {t d g p h : Nat}
theorem can_s (hr : relC u T M N) (hg : g < N 5) (ht : t < N 2) (hp : p < N 3) (hd : d < 7) : k_can u T (nI d) (nI g) (nI t) (nI p) (nI h) = bI (s_can (col u M) g t p d h) := by
  have hb := bndN_of hr.1
  have b4 : N 4 ≤ 4 := hb.2.2.2.2.1
  obtain ⟨e1, o1⟩ := shared_eq hr.1 hr.2.2.2.2.2.1 hr.2.2.2.2.2.2.1 hg hp hd
  rw [m_tog_s] at e1
  have hneg := okTr_neg (show okTr N (s_tog (col u M) g p d) from o1) hb
  unfold k_can s_can bI
  rw [e1, room_s hr hp]
  by_cases c1 : s_tog (col u M) g p d = -2
  · rw [if_pos (hneg.mpr c1), decide_eq_false (not_not_intro c1), Bool.false_and, if_neg (by decide)]
  · rw [if_neg (fun z => c1 (hneg.mp z)), decide_eq_true c1, Bool.true_and]
    by_cases c2 : s_room (col u M) p ≤ nI h
    · rw [if_pos c2, decide_eq_false (Int32.not_lt.mpr c2), Bool.false_and, if_neg (by decide)]
    · rw [if_neg c2, decide_eq_true (Int32.not_le.mp c2), Bool.true_and]
      obtain ⟨ft1, ft2⟩ := tog_tr hr hg hp hd c1
      rw [ft1, near_eq hr.1 hr.2.1 hr.2.2.1 hr.2.2.2.1 hr.2.2.2.2.1 hg ht hp ft2, m_near_s, noticed_eq hr.1]
      have hl : col u M 0 1 = nI (N 1) := (hr.1 1 (by decide)).2.1
      rw [hl]
      by_cases c3 : s_near (col u M) g t p (s_tr (col u M) g p d) (nI h) ≤ nI (N 1)
      · rw [if_pos c3, if_pos rfl, decide_eq_true c3, if_pos rfl]
      · rw [if_neg c3, if_neg (by decide), decide_eq_false c3, if_neg (by decide)]
theorem cls_can (ho : okTD T D) (hr : relC u T M N) (hg : g < N 5) (ht : t < N 2) (hp : p < N 3) (hd : d < 7) : f_X3_canGive (Rep (SH T D c3 c4 m) u v) T (nI d) (nI g) (nI t) (nI p) (nI h) = some (bI (s_can (col u M) g t p d h)) := by
  rw [col_can (SH_told ho), can_s hr hg ht hp hd]
theorem cnt_Z {f : Nat → Int32} (hp : p < 5) : cntOf (rowZ f) (nI p) = 0 := by
  have hne : ¬ (-2 : Int32) = nI p := fun z => absurd (show nI p < 0 by rw [← z]; decide) (nI_pos (by omega))
  unfold cntOf rowZ
  simp -implicitDefEqProofs only [show (0 : Nat) < 16 from by decide, show (1 : Nat) < 16 from by decide, show (2 : Nat) < 16 from by decide, show (3 : Nat) < 16 from by decide, show (0 : Nat) < 4 from by decide, show (1 : Nat) < 4 from by decide, show (2 : Nat) < 4 from by decide, show (3 : Nat) < 4 from by decide, if_true, hne, if_false]
  rfl
theorem out_Z {K : cK} {f : Nat → Int32} (ht : t < 4) (hp : p < 5) : (s_out K (rowZ f) g t p d = 0) = (s_can K g t p d 0 = true) := by
  have e1 : rowZ f t = -2 := by unfold rowZ; rw [if_pos (by omega), if_pos ht]
  have e2 : rowZ f (4 + p) = 0 := by unfold rowZ; rw [if_pos (by omega), if_neg (by omega)]
  apply propext
  unfold s_out s_nr s_hind s_roomIn s_can
  rw [e1, e2, cnt_Z hp, Int32.sub_zero, nI_0]
  by_cases c1 : s_tog K g p d = -2
  · rw [if_pos c1, decide_eq_false (not_not_intro c1), Bool.false_and, if_neg (by decide)]
    exact ⟨fun z => absurd z (by decide), fun z => by cases z⟩
  · rw [if_neg c1, decide_eq_true c1, Bool.true_and, if_pos rfl]
    by_cases c2 : s_room K p ≤ 0
    · rw [if_pos c2, if_neg (by decide), decide_eq_false (Int32.not_lt.mpr c2), Bool.false_and, if_neg (by decide)]
      exact ⟨fun z => absurd z (by decide), fun z => by cases z⟩
    · rw [if_neg c2, if_pos (Int32.not_le.mp c2), if_pos rfl, decide_eq_true (Int32.not_le.mp c2), Bool.true_and]
      by_cases c3 : s_near K g t p (s_tr K g p d) 0 ≤ K 0 1
      · rw [if_pos c3, decide_eq_true c3]
        exact ⟨fun _ => rfl, fun _ => rfl⟩
      · rw [if_neg c3, decide_eq_false c3]
        exact ⟨fun z => absurd z (by decide), fun z => by cases z⟩
theorem cls_ev25 {kk : Nat → Int32 → Int32 → Int32 → Option Int32} (ho : okTD T D) (hr : relC u T M N) (ht : t < N 2) (hd : d < N 0) (hg : g < N 5) : ∀ (r p f : Nat), p + r = N 3 → r < f → L_X3_canEverGive_25 kk (Rep (SH T D c3 c4 m) u v) f T (nI t) (nI d) (nI g) (nI p) = if anyB (fun p => s_can (col u M) g t p d 0) r p = true then some 1 else kk T (nI t) (nI d) (nI g) := by
  have hb := bndN_of hr.1
  have b0 : N 0 ≤ 7 := hb.1
  have b3 : N 3 ≤ 5 := hb.2.2.2.1
  intro r
  induction r with
  | zero =>
    intro p f hp hf
    obtain ⟨f, rfl⟩ : ∃ f', f = f' + 1 := ⟨f - 1, by omega⟩
    have c : nI (N 3) ≤ nI p := nI_le (by omega) (by omega)
    rw [L_X3_canEverGive_25, cls_c3 ho hr.1, Option.bind_some, if_pos c, show anyB (fun p => s_can (col u M) g t p d 0) 0 p = false from rfl, if_neg (by decide)]
  | succ r ih =>
    intro p f hp hf
    obtain ⟨f, rfl⟩ : ∃ f', f = f' + 1 := ⟨f - 1, by omega⟩
    have c : ¬ nI (N 3) ≤ nI p := nI_ge (by omega) (by omega)
    have e := cls_can (c3 := c3) (c4 := c4) (m := m) (v := v) (h := 0) ho hr hg ht (show p < N 3 by omega) (show d < 7 by omega)
    rw [nI_0] at e
    rw [L_X3_canEverGive_25, cls_c3 ho hr.1, Option.bind_some, if_neg c, e, Option.bind_some, nI_1, ih (p + 1) f (by omega) (by omega), show anyB (fun p => s_can (col u M) g t p d 0) (r + 1) p = (s_can (col u M) g t p d 0 || anyB (fun p => s_can (col u M) g t p d 0) r (p + 1)) from rfl]
    cases cc : s_can (col u M) g t p d 0 with
    | true => rw [Bool.true_or, if_pos rfl, show bI true = 1 from rfl, if_neg (by decide)]
    | false => rw [Bool.false_or, show bI false = 0 from rfl, if_pos rfl]
theorem cls_ev13 {kk : Nat → Int32 → Int32 → Option Int32} (ho : okTD T D) (hr : relC u T M N) (ht : t < N 2) (hd : d < N 0) : ∀ (r g f : Nat), g + r = N 5 → r < f → L_X3_canEverGive_13 kk (Rep (SH T D c3 c4 m) u v) f T (nI t) (nI d) (nI g) = if anyB (fun g => anyB (fun p => s_can (col u M) g t p d 0) (N 3) 0) r g = true then some 1 else kk T (nI t) (nI d) := by
  have hb := bndN_of hr.1
  have b3 : N 3 ≤ 5 := hb.2.2.2.1
  have b5 : N 5 ≤ 3 := hb.2.2.2.2.2.1
  intro r
  induction r with
  | zero =>
    intro g f hg hf
    obtain ⟨f, rfl⟩ : ∃ f', f = f' + 1 := ⟨f - 1, by omega⟩
    have c : nI (N 5) ≤ nI g := nI_le (by omega) (by omega)
    rw [L_X3_canEverGive_13, cls_c5 ho hr.1, Option.bind_some, if_pos c, show anyB (fun g => anyB (fun p => s_can (col u M) g t p d 0) (N 3) 0) 0 g = false from rfl, if_neg (by decide)]
  | succ r ih =>
    intro g f hg hf
    obtain ⟨f, rfl⟩ : ∃ f', f = f' + 1 := ⟨f - 1, by omega⟩
    have c : ¬ nI (N 5) ≤ nI g := nI_ge (by omega) (by omega)
    have e := fun kk => cls_ev25 (c3 := c3) (c4 := c4) (m := m) (v := v) (kk := kk) ho hr ht hd (show g < N 5 by omega) (N 3) 0 1000000000 (by omega) (by omega)
    rw [nI_0] at e
    rw [L_X3_canEverGive_13, cls_c5 ho hr.1, Option.bind_some, if_neg c, e, nI_1, ih (g + 1) f (by omega) (by omega), show anyB (fun g => anyB (fun p => s_can (col u M) g t p d 0) (N 3) 0) (r + 1) g = (anyB (fun p => s_can (col u M) g t p d 0) (N 3) 0 || anyB (fun g => anyB (fun p => s_can (col u M) g t p d 0) (N 3) 0) r (g + 1)) from rfl]
    cases cc : anyB (fun p => s_can (col u M) g t p d 0) (N 3) 0 with
    | true => rw [Bool.true_or, if_pos rfl, if_pos rfl]
    | false => rw [Bool.false_or, if_neg (by decide)]
theorem cls_ev2 (ho : okTD T D) (hr : relC u T M N) (ht : t < N 2) : ∀ (r d f : Nat), d + r = N 0 → r < f → L_X3_canEverGive_2 (Rep (SH T D c3 c4 m) u v) f T (nI t) (nI d) = some (bI (anyB (fun d => anyB (fun g => anyB (fun p => s_can (col u M) g t p d 0) (N 3) 0) (N 5) 0) r d)) := by
  have hb := bndN_of hr.1
  have b0 : N 0 ≤ 7 := hb.1
  have b5 : N 5 ≤ 3 := hb.2.2.2.2.2.1
  intro r
  induction r with
  | zero =>
    intro d f hd hf
    obtain ⟨f, rfl⟩ : ∃ f', f = f' + 1 := ⟨f - 1, by omega⟩
    have c : nI (N 0) ≤ nI d := nI_le (by omega) (by omega)
    rw [L_X3_canEverGive_2, cls_c0 ho hr.1, Option.bind_some, if_pos c]
    rfl
  | succ r ih =>
    intro d f hd hf
    obtain ⟨f, rfl⟩ : ∃ f', f = f' + 1 := ⟨f - 1, by omega⟩
    have c : ¬ nI (N 0) ≤ nI d := nI_ge (by omega) (by omega)
    have e := fun kk => cls_ev13 (c3 := c3) (c4 := c4) (m := m) (v := v) (kk := kk) ho hr ht (show d < N 0 by omega) (N 5) 0 1000000000 (by omega) (by omega)
    rw [nI_0] at e
    rw [L_X3_canEverGive_2, cls_c0 ho hr.1, Option.bind_some, if_neg c, e, nI_1, ih (d + 1) f (by omega) (by omega), show anyB (fun d => anyB (fun g => anyB (fun p => s_can (col u M) g t p d 0) (N 3) 0) (N 5) 0) (r + 1) d = (anyB (fun g => anyB (fun p => s_can (col u M) g t p d 0) (N 3) 0) (N 5) 0 || anyB (fun d => anyB (fun g => anyB (fun p => s_can (col u M) g t p d 0) (N 3) 0) (N 5) 0) r (d + 1)) from rfl]
    cases cc : anyB (fun g => anyB (fun p => s_can (col u M) g t p d 0) (N 3) 0) (N 5) 0 with
    | true =>
      rw [Bool.true_or, if_pos rfl]
      rfl
    | false => rw [Bool.false_or, if_neg (by decide)]
theorem cls_ever (ho : okTD T D) (hr : relC u T M N) (ht : t < N 2) : f_X3_canEverGive (Rep (SH T D c3 c4 m) u v) T (nI t) = some (bI (evr (col u M) N t)) := by
  have hb := bndN_of hr.1
  have b0 : N 0 ≤ 7 := hb.1
  have e := cls_ev2 (c3 := c3) (c4 := c4) (m := m) (v := v) ho hr ht (N 0) 0 1000000000 (by omega) (by omega)
  rw [nI_0] at e
  unfold f_X3_canEverGive evr
  rw [cC (SH_told ho), Option.bind_some, e]
def stN (K : cK) (N : Nat → Nat) (t : Nat) (acc : Int32) : Int32 := if evr K N t = true then acc else acc ||| (1 <<< (nI t &&& 31))
theorem cls_never (ho : okTD T D) (hr : relC u T M N) : f_X3_neverGiven (Rep (SH T D c3 c4 m) u v) T = some (lp (stN (col u M) N) (N 2) 0 0) := by
  have hb := bndN_of hr.1
  have b2 : N 2 ≤ 4 := hb.2.2.1
  have go : ∀ (r t f : Nat) (acc : Int32), t + r = N 2 → r < f → L_X3_neverGiven_4 (Rep (SH T D c3 c4 m) u v) f T acc (nI t) = some (lp (stN (col u M) N) r t acc) := by
    intro r
    induction r with
    | zero =>
      intro t f acc ht hf
      obtain ⟨f, rfl⟩ : ∃ f', f = f' + 1 := ⟨f - 1, by omega⟩
      have c : nI (N 2) ≤ nI t := nI_le (by omega) (by omega)
      rw [L_X3_neverGiven_4, cls_c2 ho hr.1, Option.bind_some, if_pos c]
      rfl
    | succ r ih =>
      intro t f acc ht hf
      obtain ⟨f, rfl⟩ : ∃ f', f = f' + 1 := ⟨f - 1, by omega⟩
      have c : ¬ nI (N 2) ≤ nI t := nI_ge (by omega) (by omega)
      rw [L_X3_neverGiven_4, cls_c2 ho hr.1, Option.bind_some, if_neg c, cls_ever ho hr (show t < N 2 by omega), Option.bind_some, nI_1, ih (t + 1) f _ (by omega) (by omega), ih (t + 1) f _ (by omega) (by omega)]
      simp -implicitDefEqProofs only [lp]
      unfold stN
      cases evr (col u M) N t with
      | true => rw [show bI true = 1 from rfl, if_neg (by decide), if_pos rfl]
      | false => rw [show bI false = 0 from rfl, if_pos rfl, if_neg (by decide)]
  have e := go (N 2) 0 1000000000 0 (by omega) (by omega)
  rw [nI_0] at e
  unfold f_X3_neverGiven
  rw [cC (SH_told ho), Option.bind_some, e]
end NEV
