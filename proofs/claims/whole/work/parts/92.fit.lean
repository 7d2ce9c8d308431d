/-! ===== who gave: busy days as bits ===== -/
theorem bz_iff (x : Int32) : x = 0 ↔ ∀ i, x.toBitVec.getLsbD i = false := by
  constructor
  · intro h i
    rw [h]
    simp
  · intro h
    apply Int32.toBitVec_inj.mp
    apply BitVec.eq_of_getLsbD_eq
    intro i hi
    rw [h i]
    simp
theorem or_and_zero (a b c : Int32) : ((a ||| b) &&& c = 0) ↔ (a &&& c = 0 ∧ b &&& c = 0) := by
  rw [bz_iff, bz_iff, bz_iff]
  simp -implicitDefEqProofs only [Int32.toBitVec_and, Int32.toBitVec_or, BitVec.getLsbD_and, BitVec.getLsbD_or]
  constructor
  · intro h
    refine ⟨fun i => ?_, fun i => ?_⟩
    · have := h i
      revert this
      cases a.toBitVec.getLsbD i <;> cases b.toBitVec.getLsbD i <;> cases c.toBitVec.getLsbD i <;> simp
    · have := h i
      revert this
      cases a.toBitVec.getLsbD i <;> cases b.toBitVec.getLsbD i <;> cases c.toBitVec.getLsbD i <;> simp
  · rintro ⟨h1, h2⟩ i
    have h1 := h1 i
    have h2 := h2 i
    revert h1 h2
    cases a.toBitVec.getLsbD i <;> cases b.toBitVec.getLsbD i <;> cases c.toBitVec.getLsbD i <;> simp
abbrev sbit (s : Nat) : Int32 := 1 <<< (nI s &&& 31)
theorem sbit_ne : ∀ a, a < 21 → ∀ b, b < 21 → ((sbit a &&& sbit b = 0) ↔ ¬ a = b) := by decide +kernel
/-- the bits say which slots are taken by the first k -/
def BZ (busy : Int32) (ch : Nat → Nat) (k : Nat) : Prop := ∀ s, s < 21 → ((busy &&& sbit s = 0) ↔ ∀ j, j < k → ¬ ch j = s)
def updN (f : Nat → Nat) (k x : Nat) : Nat → Nat := fun j => if j = k then x else f j
theorem updN_at (f : Nat → Nat) (k x j : Nat) : updN f k x j = if j = k then x else f j := rfl
theorem BZ_up {busy : Int32} {ch : Nat → Nat} {k s : Nat} (h : BZ busy ch k) (hs : s < 21) : BZ (busy ||| sbit s) (updN ch k s) (k + 1) := by
  intro s' hs'
  rw [or_and_zero, h s' hs', sbit_ne s hs s' hs']
  constructor
  · rintro ⟨h1, h2⟩ j hj
    rw [updN_at]
    by_cases c : j = k
    · rw [if_pos c]; exact h2
    · rw [if_neg c]; exact h1 j (by omega)
  · intro h1
    refine ⟨fun j hj => ?_, ?_⟩
    · have := h1 j (by omega)
      rw [updN_at, if_neg (by omega)] at this
      exact this
    · have := h1 k (by omega)
      rw [updN_at, if_pos rfl] at this
      exact this
theorem BZ_0 {ch : Nat → Nat} : BZ 0 ch 0 := by
  intro s hs
  refine ⟨fun _ j hj => absurd hj (by omega), fun _ => ?_⟩
  rw [bz_iff]
  intro i
  simp
section SLT
variable {α : Type} {step : Nat → Nat → α → α}
abbrev wS (step : Nat → Nat → α → α) : Nat → α → α := fun w s => step (w / 3) (w % 3) s
theorem slt_g {d : Nat} : ∀ (r i : Nat) (s : α), i + r ≤ 3 → lp (wS step) r (3 * d + i) s = lp (step d) r i s := by
  intro r
  induction r with
  | zero => intro i s _; simp -implicitDefEqProofs only [lp]
  | succ r ih =>
    intro i s hi
    simp -implicitDefEqProofs only [lp]
    rw [show wS step (3 * d + i) s = step d i s by
      unfold wS
      rw [show (3 * d + i) / 3 = d by omega, show (3 * d + i) % 3 = i by omega]]
    exact ih (i + 1) _ (by omega)
theorem slt_d : ∀ (r d : Nat) (s : α), lp (wS step) (3 * r) (3 * d) s = lp (fun d s => lp (step d) 3 0 s) r d s := by
  intro r
  induction r with
  | zero => intro d s; simp -implicitDefEqProofs only [lp, Nat.mul_zero]
  | succ r ih =>
    intro d s
    rw [show 3 * (r + 1) = 3 + 3 * r by omega, lp_add, show 3 * d + 3 = 3 * (d + 1) by omega, ih (d + 1) _]
    have := slt_g (step := step) (d := d) 3 0 s (by omega)
    rw [Nat.add_zero] at this
    rw [this]
    simp -implicitDefEqProofs only [lp]
theorem slt_all {a b : Nat} (ha : a ≤ 7) (hb : b ≤ 3) (h : ∀ d g s, ¬ (d < a ∧ g < b) → step d g s = s) (s : α) : lp (wS step) 21 0 s = lp (fun d s => lp (step d) b 0 s) a 0 s := by
  have e := slt_d (step := step) 7 0 s
  rw [show 3 * 7 = 21 from rfl, Nat.mul_zero] at e
  rw [e, lp_cut (k := a) ha]
  · apply lp_congr
    intro d s _ _
    exact lp_cut hb (fun g s h1 h2 => h d g s (by omega))
  · intro d s h1 h2
    exact lp_id _ _ _ (fun g s h3 h4 => h d g s (by omega))
end SLT
/-! the rows that fit: how many, and which givers -/
abbrev fS : Type := Nat × (Nat → Int32)
def fT (K : cK) (k : Nat) : Nat := kI K 4 k
def fP (K : cK) (k : Nat) : Nat := kI K 3 (kI K 4 k)
def fre (ch : Nat → Nat) (k s : Nat) : Bool := allB (fun j => decide (¬ ch j = s)) k 0
def okG (K : cK) (N : Nat → Nat) (k d g : Nat) : Bool := decide (d < N 0 ∧ g < N 5) && s_can K g (fT K k) (fP K k) d 0
def fLeaf (K : cK) (F : Nat) (ch : Nat → Nat) (st : fS) : fS := (st.1 + 1, lp (fun j cd => upd cd (fT K j) (cd (fT K j) ||| sbit (ch j % 3))) F 0 st.2)
def fitR (K : cK) (N : Nat → Nat) (F : Nat) : Nat → Nat → (Nat → Nat) → fS → fS
  | 0, _, ch, st => fLeaf K F ch st
  | r + 1, k, ch, st => lp (wS (fun d g st => if (okG K N k d g && fre ch k (3 * d + g)) = true then fitR K N F r (k + 1) (updN ch k (3 * d + g)) st else st)) 21 0 st
theorem fre_iff {ch : Nat → Nat} {k s : Nat} : fre ch k s = true ↔ ∀ j, j < k → ¬ ch j = s := by
  unfold fre
  rw [allB_iff]
  constructor
  · intro h j hj
    exact of_decide_eq_true (h j (by omega) (by omega))
  · intro h j _ hj
    exact decide_eq_true (h j (by omega))
theorem fLeaf_congr {K : cK} {F : Nat} {ch ch' : Nat → Nat} {st : fS} (h : ∀ j, j < F → ch j = ch' j) : fLeaf K F ch st = fLeaf K F ch' st := by
  unfold fLeaf
  rw [lp_congr F 0 st.2 (fun j s _ hj => by rw [h j (by omega)])]
