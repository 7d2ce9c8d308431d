/-! ===== the reader: words ===== -/
abbrev bk (k : Nat) : Nat → Int32 := fun j => (q_bytes k).getD j 0
def wd (k : Nat) : List Nat := ltB (bk k) 0 (q_bytes k).length
def okQ (l : List Nat) : Prop := l.length ≤ 8 ∧ ∀ x ∈ l, 1 ≤ x ∧ x ≤ 26
theorem bk_ok : ∀ k, k < 56 → k ≠ 28 → (q_bytes k).length ≤ 8 ∧ ∀ i, i < (q_bytes k).length → ((bk k i &&& 255).toUInt32 % 65536).toInt32 = bk k i ∧ ((bk k i - 97) + 1).toInt64 = Int64.ofNat (dgL (bk k i)) ∧ 1 ≤ dgL (bk k i) ∧ dgL (bk k i) ≤ 26 := by decide +kernel
theorem wd_go {k : Nat} : ∀ (n : Nat), (∀ i, i < n → 1 ≤ dgL (bk k i) ∧ dgL (bk k i) ≤ 26) → (ltB (bk k) 0 n).length = n ∧ ∀ x ∈ ltB (bk k) 0 n, 1 ≤ x ∧ x ≤ 26 := by
  intro n
  induction n with
  | zero => intro _; exact ⟨rfl, fun x hx => by cases hx⟩
  | succ n ih =>
    intro h
    obtain ⟨h1, h2⟩ := ih (fun i hi => h i (by omega))
    refine ⟨by show (ltB (bk k) 0 n).length + 1 = n + 1; rw [h1], fun x hx => ?_⟩
    rcases List.mem_cons.mp hx with z | z
    · rw [z, Nat.zero_add]
      exact h n (by omega)
    · exact h2 x z
theorem wd_ok {k : Nat} (hk : k < 56) (h28 : k ≠ 28) : okQ (wd k) := by
  obtain ⟨h1, h2⟩ := bk_ok k hk h28
  obtain ⟨h3, h4⟩ := wd_go (k := k) (q_bytes k).length (fun i hi => (h2 i hi).2.2)
  exact ⟨by unfold wd; rw [h3]; exact h1, h4⟩
theorem rn_inj27 : ∀ (l l' : List Nat), (∀ x ∈ l, 1 ≤ x ∧ x ≤ 26) → (∀ x ∈ l', 1 ≤ x ∧ x ≤ 26) → rn 27 l = rn 27 l' → l = l' := by
  intro l
  induction l with
  | nil =>
    intro l' _ h' e
    cases l' with
    | nil => rfl
    | cons y l' =>
      have e' : 0 = 27 * rn 27 l' + y := e
      have := h' y (List.mem_cons_self ..)
      omega
  | cons x l ih =>
    intro l' h h' e
    have hx := h x (List.mem_cons_self ..)
    cases l' with
    | nil =>
      have e' : 27 * rn 27 l + x = 0 := e
      omega
    | cons y l' =>
      have hy := h' y (List.mem_cons_self ..)
      have e' : 27 * rn 27 l + x = 27 * rn 27 l' + y := e
      have e1 : x = y := by omega
      have e2 : rn 27 l = rn 27 l' := by omega
      rw [e1, ih l' (fun z hz => h z (List.mem_cons_of_mem _ hz)) (fun z hz => h' z (List.mem_cons_of_mem _ hz)) e2]
theorem rn_inj32 : ∀ (l l' : List Nat), (∀ x ∈ l, 1 ≤ x ∧ x ≤ 26) → (∀ x ∈ l', 1 ≤ x ∧ x ≤ 26) → rn 32 l = rn 32 l' → l = l' := by
  intro l
  induction l with
  | nil =>
    intro l' _ h' e
    cases l' with
    | nil => rfl
    | cons y l' =>
      have e' : 0 = 32 * rn 32 l' + y := e
      have := h' y (List.mem_cons_self ..)
      omega
  | cons x l ih =>
    intro l' h h' e
    have hx := h x (List.mem_cons_self ..)
    cases l' with
    | nil =>
      have e' : 32 * rn 32 l + x = 0 := e
      omega
    | cons y l' =>
      have hy := h' y (List.mem_cons_self ..)
      have e' : 32 * rn 32 l + x = 32 * rn 32 l' + y := e
      have e1 : x = y := by omega
      have e2 : rn 32 l = rn 32 l' := by omega
      rw [e1, ih l' (fun z hz => h z (List.mem_cons_of_mem _ hz)) (fun z hz => h' z (List.mem_cons_of_mem _ hz)) e2]
theorem rn_lt {B : Nat} (hB : 27 ≤ B) : ∀ (l : List Nat), (∀ x ∈ l, 1 ≤ x ∧ x ≤ 26) → rn B l < B ^ l.length := by
  intro l
  induction l with
  | nil => intro _; exact Nat.one_pos
  | cons x l ih =>
    intro h
    have hx := h x (List.mem_cons_self ..)
    have hi := ih (fun z hz => h z (List.mem_cons_of_mem _ hz))
    show B * rn B l + x < B ^ (l.length + 1)
    rw [Nat.pow_succ, Nat.mul_comm (B ^ l.length) B]
    have h1 : B * (rn B l + 1) ≤ B * B ^ l.length := Nat.mul_le_mul_left _ hi
    rw [Nat.mul_add, Nat.mul_one] at h1
    omega
theorem rn_small {B : Nat} (hB : 27 ≤ B) (hB2 : B ≤ 32) {l : List Nat} (h : okQ l) : rn B l < 2 ^ 63 := by
  have h1 := rn_lt hB l h.2
  have h2 : B ^ l.length ≤ 32 ^ l.length := Nat.pow_le_pow_left hB2 _
  have h3 : 32 ^ l.length ≤ 32 ^ 8 := Nat.pow_le_pow_right (by decide) h.1
  have h4 : (32 : Nat) ^ 8 < 2 ^ 63 := by decide
  omega
theorem i64_inj {a b : Nat} (ha : a < 2 ^ 63) (hb : b < 2 ^ 63) (h : Int64.ofNat a = Int64.ofNat b) : a = b := by
  have h1 := congrArg Int64.toInt h
  rw [Int64.toInt_ofNat_of_lt ha, Int64.toInt_ofNat_of_lt hb] at h1
  exact Int.ofNat.inj h1
theorem rv27 {l l' : List Nat} (h : okQ l) (h' : okQ l') : (rv 27 l = rv 27 l') ↔ l = l' := ⟨fun e => rn_inj27 l l' h.2 h'.2 (i64_inj (rn_small (by decide) (by decide) h) (rn_small (by decide) (by decide) h') e), fun e => by rw [e]⟩
theorem rv32 {l l' : List Nat} (h : okQ l) (h' : okQ l') : (rv 32 l = rv 32 l') ↔ l = l' := ⟨fun e => rn_inj32 l l' h.2 h'.2 (i64_inj (rn_small (by decide) (by decide) h) (rn_small (by decide) (by decide) h') e), fun e => by rw [e]⟩
theorem sl_k {k : Nat} (hk : k < 56) : q_slen k = some (nI (q_bytes k).length) := if_pos hk
theorem sc_k {k i : Nat} (hk : k < 56) (h28 : k ≠ 28) (hi : i < (q_bytes k).length) : q_sch k (nI i) = some (bk k i) := by
  obtain ⟨h1, h2⟩ := bk_ok k hk h28
  have c : ¬ (nI i < 0 ∨ (q_bytes k).length ≤ (nI i).toNatClampNeg) := by
    rw [nI_clamp (by omega)]
    rintro (z | z)
    · exact nI_pos (by omega) z
    · omega
  unfold q_sch
  rw [if_pos hk, if_neg c, nI_clamp (by omega)]
  exact congrArg some (h2 i hi).1
theorem code27 {g : qS} {k : Nat} (hk : k < 56) (h28 : k ≠ 28) : f_X6_codeOf g k = some (rv 27 (wd k)) := by
  obtain ⟨h1, h2⟩ := bk_ok k hk h28
  have go : ∀ (r i f : Nat), i + r = (q_bytes k).length → r < f → L_X6_codeOf_4 g f k (rv 27 (ltB (bk k) 0 i)) (nI i) = some (rv 27 (wd k)) := by
    intro r
    induction r with
    | zero =>
      intro i f hi hf
      obtain ⟨f, rfl⟩ : ∃ f', f = f' + 1 := ⟨f - 1, by omega⟩
      have hi' : i = (q_bytes k).length := by omega
      rw [L_X6_codeOf_4, sl_k hk, Option.bind_some, if_pos (nI_le (by omega) (by omega)), hi']
      rfl
    | succ r ih =>
      intro i f hi hf
      obtain ⟨f, rfl⟩ : ∃ f', f = f' + 1 := ⟨f - 1, by omega⟩
      have e : (27 * rv 27 (ltB (bk k) 0 i)) + (((bk k i - 97) + 1).toInt64) = rv 27 (ltB (bk k) 0 (i + 1)) := by
        rw [(h2 i (by omega)).2.1]
        show Int64.ofNat 27 * Int64.ofNat (rn 27 (ltB (bk k) 0 i)) + _ = Int64.ofNat (27 * rn 27 (ltB (bk k) 0 i) + dgL (bk k (0 + i)))
        rw [Nat.zero_add, Int64.ofNat_add, Int64.ofNat_mul]
      rw [L_X6_codeOf_4, sl_k hk, Option.bind_some, if_neg (nI_ge (by omega) (by omega)), sc_k hk h28 (by omega), Option.bind_some, e, nI_1]
      exact ih (i + 1) f (by omega) (by omega)
  exact go (q_bytes k).length 0 1000000000 (by omega) (by omega)
theorem code32 {g : qS} {k : Nat} (hk : k < 56) (h28 : k ≠ 28) : f_X12_packed g k = some (rv 32 (wd k)) := by
  obtain ⟨h1, h2⟩ := bk_ok k hk h28
  have go : ∀ (r i f : Nat), i + r = (q_bytes k).length → r < f → L_X12_packed_4 g f k (rv 32 (ltB (bk k) 0 i)) (nI i) = some (rv 32 (wd k)) := by
    intro r
    induction r with
    | zero =>
      intro i f hi hf
      obtain ⟨f, rfl⟩ : ∃ f', f = f' + 1 := ⟨f - 1, by omega⟩
      have hi' : i = (q_bytes k).length := by omega
      rw [L_X12_packed_4, sl_k hk, Option.bind_some, if_pos (nI_le (by omega) (by omega)), hi']
      rfl
    | succ r ih =>
      intro i f hi hf
      obtain ⟨f, rfl⟩ : ∃ f', f = f' + 1 := ⟨f - 1, by omega⟩
      have e : (32 * rv 32 (ltB (bk k) 0 i)) + (((bk k i - 97) + 1).toInt64) = rv 32 (ltB (bk k) 0 (i + 1)) := by
        rw [(h2 i (by omega)).2.1]
        show Int64.ofNat 32 * Int64.ofNat (rn 32 (ltB (bk k) 0 i)) + _ = Int64.ofNat (32 * rn 32 (ltB (bk k) 0 i) + dgL (bk k (0 + i)))
        rw [Nat.zero_add, Int64.ofNat_add, Int64.ofNat_mul]
      rw [L_X12_packed_4, sl_k hk, Option.bind_some, if_neg (nI_ge (by omega) (by omega)), sc_k hk h28 (by omega), Option.bind_some, e, nI_1]
      exact ih (i + 1) f (by omega) (by omega)
  exact go (q_bytes k).length 0 1000000000 (by omega) (by omega)
/-- the model's word for each of the class's -/
def mw (k : Nat) : Nat := [29, 32, 33, 34, 35, 36, 37, 38, 39, 40, 30, 31, 41, 42, 43, 0, 44, 45, 46, 47, 48, 49, 50, 51, 52, 53, 54, 55].getD k 0
theorem mw_eq : ∀ k, k < 28 → k ≠ 15 → mw k < 56 ∧ mw k ≠ 28 ∧ wd (mw k) = wd k := by decide +kernel
theorem wd_15 : wd 15 = [] := by decide +kernel
/-- which word of a line it is -/
def lnS (l : List Nat) : Nat → Nat → Nat
  | 0, _ => 10
  | r + 1, i => if l = wd i then i else lnS l r (i + 1)
section WDS
variable {T D m : Nat} {c3 c4 : sF} {u : mU} {v : mV}
theorem line_word {g : qS} : ∀ i, i < 10 → f_X6_lineWord g (nI i) = some i := by
  intro i hi
  rcases i with _ | _ | _ | _ | _ | _ | _ | _ | _ | _ | i
  · rfl
  · rfl
  · rfl
  · rfl
  · rfl
  · rfl
  · rfl
  · rfl
  · rfl
  · rfl
  · omega
theorem line_sort {l : List Nat} (h7 : u 1 7 = nI 1) (hv : v 1 10 = rv 27 l) (hl : okQ l) : f_X6_lineSort (Rep (SH T D c3 c4 m) u v) 1 = some (nI (lnS l 10 0)) := by
  have go : ∀ (r i f : Nat), i + r = 10 → r < f → L_X6_lineSort_2 (Rep (SH T D c3 c4 m) u v) f 1 (nI i) = some (nI (lnS l r i)) := by
    intro r
    induction r with
    | zero =>
      intro i f hi hf
      obtain ⟨f, rfl⟩ : ∃ f', f = f' + 1 := ⟨f - 1, by omega⟩
      have c : (10 : Int32) ≤ nI i := (show nI 10 ≤ nI i from nI_le (by omega) (by omega))
      rw [L_X6_lineSort_2, if_pos c]
      rfl
    | succ r ih =>
      intro i f hi hf
      obtain ⟨f, rfl⟩ : ∃ f', f = f' + 1 := ⟨f - 1, by omega⟩
      have c : ¬ (10 : Int32) ≤ nI i := (show ¬ nI 10 ≤ nI i from nI_ge (by omega) (by omega))
      have e : (rv 27 l = rv 27 (wd i)) = (l = wd i) := propext (rv27 hl (wd_ok (by omega) (by omega)))
      show L_X6_lineSort_2 (Rep (SH T D c3 c4 m) u v) (f + 1) 1 (nI i) = some (nI (if l = wd i then i else lnS l r (i + 1)))
      rw [L_X6_lineSort_2, if_neg c, gI_1_7, Option.bind_some, h7, if_pos (by decide), gL_1_10, Option.bind_some, hv, line_word i (by omega), Option.bind_some, code27 (by omega) (by omega), Option.bind_some, nI_1, ih (i + 1) f (by omega) (by omega)]
      by_cases c1 : l = wd i
      · rw [if_pos (e.mpr c1), if_pos c1]
      · rw [if_neg (fun z => c1 (e.mp z)), if_neg c1]
  have e := go 10 0 1000000000 (by omega) (by omega)
  rw [nI_0] at e
  unfold f_X6_lineSort
  rw [gC_1, Option.bind_some, e]
theorem line_none {k : Nat} (h7 : u 1 7 = nI k) (hk : k < 5) (h1 : k ≠ 1) : f_X6_lineSort (Rep (SH T D c3 c4 m) u v) 1 = some 10 := by
  have hn : ¬ nI k = 1 := fun z => h1 ((nI_eq (b := 1) (by omega) (by omega)).mp z)
  have go : ∀ (r i f : Nat), i + r = 10 → r < f → L_X6_lineSort_2 (Rep (SH T D c3 c4 m) u v) f 1 (nI i) = some 10 := by
    intro r
    induction r with
    | zero =>
      intro i f hi hf
      obtain ⟨f, rfl⟩ : ∃ f', f = f' + 1 := ⟨f - 1, by omega⟩
      have c : (10 : Int32) ≤ nI i := (show nI 10 ≤ nI i from nI_le (by omega) (by omega))
      rw [L_X6_lineSort_2, if_pos c]
    | succ r ih =>
      intro i f hi hf
      obtain ⟨f, rfl⟩ : ∃ f', f = f' + 1 := ⟨f - 1, by omega⟩
      have c : ¬ (10 : Int32) ≤ nI i := (show ¬ nI 10 ≤ nI i from nI_ge (by omega) (by omega))
      rw [L_X6_lineSort_2, if_neg c, gI_1_7, Option.bind_some, h7, if_neg hn, nI_1, ih (i + 1) f (by omega) (by omega)]
  have e := go 10 0 1000000000 (by omega) (by omega)
  rw [nI_0] at e
  unfold f_X6_lineSort
  rw [gC_1, Option.bind_some, e]
theorem is_word {l : List Nat} {k : Nat} (hk : k < 56) (h28 : k ≠ 28) (h9 : u 75 9 = 2) (hv : v 75 14 = rv 32 l) (hl : okQ l) : f_X12_isWord (Rep (SH T D c3 c4 m) u v) 75 k = some (bI (decide (l = wd k))) := by
  have e : (rv 32 l = rv 32 (wd k)) = (l = wd k) := propext (rv32 hl (wd_ok hk h28))
  unfold f_X12_isWord
  rw [gC_75, Option.bind_some, gI_75_9, Option.bind_some, if_pos h9, gL_75_14, Option.bind_some, hv, code32 hk h28, Option.bind_some]
  by_cases c : l = wd k
  · rw [if_pos (e.mpr c), decide_eq_true c]; rfl
  · rw [if_neg (fun z => c (e.mp z)), decide_eq_false c]; rfl
theorem is_wordN {k : Nat} (h9 : ¬ u 75 9 = 2) : f_X12_isWord (Rep (SH T D c3 c4 m) u v) 75 k = some 0 := by
  unfold f_X12_isWord
  rw [gC_75, Option.bind_some, gI_75_9, Option.bind_some, if_neg h9]
end WDS
