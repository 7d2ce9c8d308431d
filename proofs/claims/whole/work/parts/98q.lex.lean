/-! ===== the reader: bytes, runs of them, tokens ===== -/
def sg (k : Nat) : Int32 := (Int8.ofNat k).toInt32
theorem byt_k {x : Int32} (h : byt x) : ∃ k, k < 256 ∧ x = sg k := by
  obtain ⟨z, rfl⟩ := h
  refine ⟨z.toBitVec.toNat, z.toBitVec.isLt, ?_⟩
  unfold sg
  apply congrArg Int8.toInt32
  apply Int8.toBitVec_inj.mp
  simp
def isL (x : Int32) : Bool := decide (¬ x < 97 ∧ ¬ 122 < x)
def isD (x : Int32) : Bool := decide (¬ x < 48 ∧ ¬ 57 < x)
def isB (x : Int32) : Bool := decide (x = 32)
def dgL (x : Int32) : Nat := x.toNatClampNeg - 96
def dgD (x : Int32) : Nat := x.toNatClampNeg - 48
theorem by_32 : ∀ k, k < 256 → ((sg k &&& 255) = 32 ↔ sg k = 32) := by decide +kernel
theorem by_59 : ∀ k, k < 256 → ((sg k &&& 255) = 59 ↔ sg k = 59) := by decide +kernel
theorem by_m : ∀ k, k < 256 → ¬ (sg k &&& 255) = -1 := by decide +kernel
theorem by_L : ∀ k, k < 256 → isL (sg k &&& 255) = isL (sg k) := by decide +kernel
theorem by_D : ∀ k, k < 256 → isD (sg k &&& 255) = isD (sg k) := by decide +kernel
theorem by_same : ∀ k, k < 256 → (isL (sg k) = true ∨ isD (sg k) = true) → (sg k &&& 255) = sg k := by decide +kernel
theorem by_LV : ∀ k, k < 256 → isL (sg k) = true → ((sg k - 97) + 1).toInt64 = Int64.ofNat (dgL (sg k)) ∧ 1 ≤ dgL (sg k) ∧ dgL (sg k) ≤ 26 := by decide +kernel
theorem by_DV : ∀ k, k < 256 → isD (sg k) = true → ((sg k - 48) + 0).toInt64 = Int64.ofNat (dgD (sg k)) ∧ dgD (sg k) ≤ 9 ∧ sg k = nI (dgD (sg k) + 48) := by decide +kernel
theorem by_LD : ∀ k, k < 256 → isL (sg k) = true → isD (sg k) = false ∧ ¬ sg k = 59 ∧ ¬ sg k = 32 := by decide +kernel
theorem by_DS : ∀ k, k < 256 → isD (sg k) = true → isL (sg k) = false ∧ ¬ sg k = 59 ∧ ¬ sg k = 32 := by decide +kernel
/-- the longest run of such bytes -/
theorem run_ex (p : Int32 → Bool) (b : Nat → Int32) (L : Nat) : ∀ (r s : Nat), s + r = L → ∃ e, s ≤ e ∧ e ≤ L ∧ (∀ i, s ≤ i → i < e → p (b i) = true) ∧ (e < L → p (b e) = false) := by
  intro r
  induction r with
  | zero => intro s hs; exact ⟨s, by omega, by omega, fun i h1 h2 => by omega, fun h => by omega⟩
  | succ r ih =>
    intro s hs
    cases c : p (b s) with
    | false => exact ⟨s, by omega, by omega, fun i h1 h2 => by omega, fun _ => c⟩
    | true =>
      obtain ⟨e, h1, h2, h3, h4⟩ := ih (s + 1) (by omega)
      refine ⟨e, by omega, h2, fun i a1 a2 => ?_, h4⟩
      by_cases ci : i = s
      · rw [ci]; exact c
      · exact h3 i (by omega) a2
/-- the letters of a word, the last one first; a number's value -/
def ltB (b : Nat → Int32) (s : Nat) : Nat → List Nat
  | 0 => []
  | n + 1 => dgL (b (s + n)) :: ltB b s n
def nvB (b : Nat → Int32) (s : Nat) : Nat → Nat
  | 0 => 0
  | n + 1 => 10 * nvB b s n + dgD (b (s + n))
/-- a word as a number -/
def rn (B : Nat) : List Nat → Nat
  | [] => 0
  | x :: l => B * rn B l + x
abbrev rv (B : Nat) (l : List Nat) : Int64 := Int64.ofNat (rn B l)
def okW (l : List Nat) : Prop := 1 ≤ l.length ∧ l.length ≤ 8 ∧ ∀ x ∈ l, 1 ≤ x ∧ x ≤ 26
/-- a token (kind k as the class numbers it: 0 the end, 1 a word, 2 a whole, 3 a semicolon, 4 none) from s to e, behind what ended at a -/
def LX (b : Nat → Int32) (L a s k : Nat) (l : List Nat) (x e : Nat) : Prop :=
  a ≤ s ∧ s ≤ L ∧ (∀ i, a ≤ i → i < s → b i = 32) ∧ (s < L → ¬ b s = 32) ∧
  ((k = 0 ∧ s = L ∧ e = s) ∨ (k = 3 ∧ s < L ∧ b s = 59 ∧ e = s + 1) ∨
   (k = 1 ∧ s < e ∧ e ≤ L ∧ e ≤ s + 8 ∧ (∀ i, s ≤ i → i < e → isL (b i) = true) ∧ (e < L → isL (b e) = false) ∧ l = ltB b s (e - s)) ∨
   (k = 2 ∧ s < e ∧ e ≤ L ∧ e ≤ s + 3 ∧ (∀ i, s ≤ i → i < e → isD (b i) = true) ∧ (e < L → isD (b e) = false) ∧ x = nvB b s (e - s)) ∨
   (k = 4 ∧ s < L ∧ ((isL (b s) = false ∧ isD (b s) = false ∧ ¬ b s = 59) ∨
     (s + 8 < e ∧ e ≤ L ∧ (∀ i, s ≤ i → i < e → isL (b i) = true) ∧ (e < L → isL (b e) = false)) ∨
     (s + 3 < e ∧ e ≤ L ∧ (∀ i, s ≤ i → i < e → isD (b i) = true) ∧ (e < L → isD (b e) = false)))))
theorem LX_ex (b : Nat → Int32) (L a : Nat) (ha : a ≤ L) : ∃ s k l x e, LX b L a s k l x e := by
  obtain ⟨s, h1, h2, h3, h4⟩ := run_ex isB b L (L - a) a (by omega)
  have h3' : ∀ i, a ≤ i → i < s → b i = 32 := fun i a1 a2 => of_decide_eq_true (h3 i a1 a2)
  have h4' : s < L → ¬ b s = 32 := fun z => of_decide_eq_false (h4 z)
  by_cases c0 : s = L
  · exact ⟨s, 0, [], 0, s, h1, h2, h3', h4', Or.inl ⟨rfl, c0, rfl⟩⟩
  have hs : s < L := by omega
  by_cases c1 : b s = 59
  · exact ⟨s, 3, [], 0, s + 1, h1, h2, h3', h4', Or.inr (Or.inl ⟨rfl, hs, c1, rfl⟩)⟩
  cases cl : isL (b s) with
  | true =>
    obtain ⟨e, e1, e2, e3, e4⟩ := run_ex isL b L (L - s) s (by omega)
    have hlt : s < e := by
      by_cases ce : e = s
      · rw [ce] at e4
        have := e4 hs
        rw [cl] at this
        cases this
      · omega
    by_cases c8 : e ≤ s + 8
    · exact ⟨s, 1, ltB b s (e - s), 0, e, h1, h2, h3', h4', Or.inr (Or.inr (Or.inl ⟨rfl, hlt, e2, c8, e3, e4, rfl⟩))⟩
    · exact ⟨s, 4, [], 0, e, h1, h2, h3', h4', Or.inr (Or.inr (Or.inr (Or.inr ⟨rfl, hs, Or.inr (Or.inl ⟨by omega, e2, e3, e4⟩)⟩)))⟩
  | false =>
    cases cd : isD (b s) with
    | true =>
      obtain ⟨e, e1, e2, e3, e4⟩ := run_ex isD b L (L - s) s (by omega)
      have hlt : s < e := by
        by_cases ce : e = s
        · rw [ce] at e4
          have := e4 hs
          rw [cd] at this
          cases this
        · omega
      by_cases c8 : e ≤ s + 3
      · exact ⟨s, 2, [], nvB b s (e - s), e, h1, h2, h3', h4', Or.inr (Or.inr (Or.inr (Or.inl ⟨rfl, hlt, e2, c8, e3, e4, rfl⟩)))⟩
      · exact ⟨s, 4, [], 0, e, h1, h2, h3', h4', Or.inr (Or.inr (Or.inr (Or.inr ⟨rfl, hs, Or.inr (Or.inr ⟨by omega, e2, e3, e4⟩)⟩)))⟩
    | false => exact ⟨s, 4, [], 0, s, h1, h2, h3', h4', Or.inr (Or.inr (Or.inr (Or.inr ⟨rfl, hs, Or.inl ⟨cl, cd, c1⟩⟩)))⟩
/-- the machine's way to number a run -/
def ivB (B : Int64) (lo off : Int32) (b : Nat → Int32) (s : Nat) : Nat → Int64
  | 0 => 0
  | n + 1 => (B * ivB B lo off b s n) + (((b (s + n) - lo) + off).toInt64)
theorem iv_rv {B : Nat} {b : Nat → Int32} {s L : Nat} (hb : ∀ i, i < L → byt (b i)) : ∀ (n : Nat), s + n ≤ L → (∀ i, s ≤ i → i < s + n → isL (b i) = true) → ivB (Int64.ofNat B) 97 1 b s n = rv B (ltB b s n) := by
  intro n
  induction n with
  | zero => intro _ _; rfl
  | succ n ih =>
    intro hn hl
    show (Int64.ofNat B * ivB (Int64.ofNat B) 97 1 b s n) + (((b (s + n) - 97) + 1).toInt64) = Int64.ofNat (B * rn B (ltB b s n) + dgL (b (s + n)))
    rw [ih (by omega) (fun i a1 a2 => hl i a1 (by omega))]
    obtain ⟨k, hk, e⟩ := byt_k (hb (s + n) (by omega))
    have h1 := hl (s + n) (by omega) (by omega)
    rw [e] at h1 ⊢
    rw [(by_LV k hk h1).1, ← Int64.ofNat_mul, ← Int64.ofNat_add]
theorem iv_nv {b : Nat → Int32} {s L : Nat} (hb : ∀ i, i < L → byt (b i)) : ∀ (n : Nat), s + n ≤ L → (∀ i, s ≤ i → i < s + n → isD (b i) = true) → ivB (Int64.ofNat 10) 48 0 b s n = Int64.ofNat (nvB b s n) := by
  intro n
  induction n with
  | zero => intro _ _; rfl
  | succ n ih =>
    intro hn hl
    show (Int64.ofNat 10 * ivB (Int64.ofNat 10) 48 0 b s n) + (((b (s + n) - 48) + 0).toInt64) = Int64.ofNat (10 * nvB b s n + dgD (b (s + n)))
    rw [ih (by omega) (fun i a1 a2 => hl i a1 (by omega))]
    obtain ⟨k, hk, e⟩ := byt_k (hb (s + n) (by omega))
    have h1 := hl (s + n) (by omega) (by omega)
    rw [e] at h1 ⊢
    rw [(by_DV k hk h1).1, ← Int64.ofNat_mul, ← Int64.ofNat_add]
theorem ltB_ok {b : Nat → Int32} {s L : Nat} (hb : ∀ i, i < L → byt (b i)) : ∀ (n : Nat), s + n ≤ L → (∀ i, s ≤ i → i < s + n → isL (b i) = true) → (ltB b s n).length = n ∧ ∀ x ∈ ltB b s n, 1 ≤ x ∧ x ≤ 26 := by
  intro n
  induction n with
  | zero => intro _ _; exact ⟨rfl, fun x hx => by cases hx⟩
  | succ n ih =>
    intro hn hl
    obtain ⟨h1, h2⟩ := ih (by omega) (fun i a1 a2 => hl i a1 (by omega))
    refine ⟨by show (ltB b s n).length + 1 = n + 1; rw [h1], fun x hx => ?_⟩
    rcases List.mem_cons.mp hx with z | z
    · obtain ⟨k, hk, e⟩ := byt_k (hb (s + n) (by omega))
      have h3 := hl (s + n) (by omega) (by omega)
      rw [e] at h3 z
      rw [z]
      exact (by_LV k hk h3).2
    · exact h2 x z
theorem nvB_le {b : Nat → Int32} {s L : Nat} (hb : ∀ i, i < L → byt (b i)) : ∀ (n : Nat), s + n ≤ L → (∀ i, s ≤ i → i < s + n → isD (b i) = true) → nvB b s n + 1 ≤ 10 ^ n := by
  intro n
  induction n with
  | zero => intro _ _; exact Nat.le_refl _
  | succ n ih =>
    intro hn hl
    have h1 := ih (by omega) (fun i a1 a2 => hl i a1 (by omega))
    obtain ⟨k, hk, e⟩ := byt_k (hb (s + n) (by omega))
    have h3 := hl (s + n) (by omega) (by omega)
    rw [e] at h3
    have h4 := (by_DV k hk h3).2.1
    rw [← e] at h4
    show 10 * nvB b s n + dgD (b (s + n)) + 1 ≤ 10 ^ (n + 1)
    rw [Nat.pow_succ]
    omega
