/-! ===== the reader: the model goes on ===== -/
def mkK (k : Nat) : Int32 := if k = 4 then 0 else nI (k + 1)
/-- the model stands at a token -/
def MT (u : mU) (v : mV) (s k : Nat) (l : List Nat) (x e : Nat) : Prop := u 75 9 = mkK k ∧ u 75 10 = nI s ∧ (k = 1 ∨ k = 2 ∨ k = 3 → u 75 8 = nI e) ∧ (k = 1 → v 75 14 = rv 32 l) ∧ (k = 2 → u 75 11 = nI x)
def mfT (u u' : mU) : Prop := ∀ q j, ¬ (q = 75 ∧ 8 ≤ j ∧ j ≤ 11) → u' q j = u q j
def mfV (v v' : mV) : Prop := ∀ q j, q ≠ 75 → v' q j = v q j
theorem mfT_refl {u : mU} : mfT u u := fun _ _ _ => rfl
theorem mfT_wr {u u' : mU} {i : Nat} {x : Int32} (h : mfT u u') (hi : 8 ≤ i ∧ i ≤ 11) : mfT u (wr u' 75 i x) := by
  intro q j hq
  unfold wr
  rw [if_neg]
  · exact h q j hq
  · rintro ⟨rfl, rfl⟩
    exact hq ⟨rfl, hi⟩
theorem mfV_wr {v v' : mV} {i : Nat} {x : Int64} (h : mfV v v') : mfV v (wrL v' 75 i x) := by
  intro q j hq
  rw [wrL_role hq]
  exact h q j hq
theorem wr_idm {u : mU} {r i : Nat} {x : Int32} (h : u r i = x) : wr u r i x = u := by
  funext q j
  unfold wr
  by_cases c : q = r ∧ j = i
  · rw [if_pos c, c.1, c.2, h]
  · rw [if_neg c]
theorem isL_f {g : qS} {x : Int32} : f_X12_isLetter g x = some (bI (isL x)) := by
  unfold f_X12_isLetter isL
  by_cases c : x < 97
  · rw [if_pos c, decide_eq_false (fun z => z.1 c)]; rfl
  · by_cases c2 : 122 < x
    · rw [if_neg c, if_pos c2, decide_eq_false (fun z => z.2 c2)]; rfl
    · rw [if_neg c, if_neg c2, decide_eq_true ⟨c, c2⟩]; rfl
theorem isD_f {g : qS} {x : Int32} : f_X12_isDigit g x = some (bI (isD x)) := by
  unfold f_X12_isDigit isD
  by_cases c : x < 48
  · rw [if_pos c, decide_eq_false (fun z => z.1 c)]; rfl
  · by_cases c2 : 57 < x
    · rw [if_neg c, if_pos c2, decide_eq_false (fun z => z.2 c2)]; rfl
    · rw [if_neg c, if_neg c2, decide_eq_true ⟨c, c2⟩]; rfl
section MTK
variable {T D m : Nat} {c3 c4 : sF} {u : mU} {v : mV} {L : Nat}
theorem mod_byte {i : Nat} (hL : L ≤ 1000) (h7 : u 75 7 = nI L) (hi : i < L) : f_X12_byteAt (Rep (SH T D c3 c4 m) u v) 75 (nI i) = some (u 76 i &&& 255) := by
  have c1 : ¬ nI L ≤ nI i := nI_ge (by omega) (by omega)
  unfold f_X12_byteAt
  rw [gC_75, Option.bind_some, gI_75_7, Option.bind_some, h7, if_neg c1, gR_75_5, Option.bind_some, aB_76 (by omega), Option.bind_some]
theorem mod_byteE {i : Nat} (hL : L ≤ 1000) (h7 : u 75 7 = nI L) (hi : i = L) : f_X12_byteAt (Rep (SH T D c3 c4 m) u v) 75 (nI i) = some (-1) := by
  have c1 : nI L ≤ nI i := nI_le (by omega) (by omega)
  unfold f_X12_byteAt
  rw [gC_75, Option.bind_some, gI_75_7, Option.bind_some, h7, if_pos c1]
/-- a byte past a run -/
theorem mod_past {p : Int32 → Bool} {i : Nat} (hL : L ≤ 1000) (h7 : u 75 7 = nI L) (hi : i ≤ L) (hm : p (-1) = false) (hb : i < L → p (u 76 i &&& 255) = false) : ∃ x, f_X12_byteAt (Rep (SH T D c3 c4 m) u v) 75 (nI i) = some x ∧ p x = false := by
  by_cases c : i < L
  · exact ⟨_, mod_byte hL h7 c, hb c⟩
  · exact ⟨_, mod_byteE hL h7 (by omega), hm⟩
theorem mod_skip {kk : Nat → qS → Option qS} {s : Nat} (hL : L ≤ 1000) (h7 : u 75 7 = nI L) (hb : ∀ i, i < L → byt (u 76 i)) (hs : s ≤ L) (hn : s < L → ¬ u 76 s = 32) : ∀ (r i f : Nat), i + r = s → r < f → (∀ j, i ≤ j → j < s → u 76 j = 32) → L_X12_goesOn_9 kk f 75 (Rep (SH T D c3 c4 m) (wr u 75 8 (nI i)) v) = kk 75 (Rep (SH T D c3 c4 m) (wr u 75 8 (nI s)) v) := by
  intro r
  induction r with
  | zero =>
    intro i f hi hf _
    obtain ⟨f, rfl⟩ : ∃ f', f = f' + 1 := ⟨f - 1, by omega⟩
    have hi : i = s := by omega
    subst hi
    have h7' : wr u 75 8 (nI i) 75 7 = nI L := by rw [wr_ix (by decide)]; exact h7
    have e76 : wr u 75 8 (nI i) 76 = u 76 := wr_off (by decide)
    obtain ⟨x, e1, e2⟩ := mod_past (T := T) (D := D) (c3 := c3) (c4 := c4) (m := m) (v := v) (p := fun x => decide (x = 32)) hL h7' hs (by decide) (by
      rw [e76]
      intro z
      obtain ⟨k, hk, e⟩ := byt_k (hb i z)
      have := hn z
      rw [e] at this ⊢
      exact decide_eq_false (fun y => this ((by_32 k hk).mp y)))
    rw [L_X12_goesOn_9, gI_75_8, Option.bind_some, wr_same, e1, Option.bind_some, if_neg (of_decide_eq_false e2)]
  | succ r ih =>
    intro i f hi hf hbl
    obtain ⟨f, rfl⟩ : ∃ f', f = f' + 1 := ⟨f - 1, by omega⟩
    have h7' : wr u 75 8 (nI i) 75 7 = nI L := by rw [wr_ix (by decide)]; exact h7
    have e76 : wr u 75 8 (nI i) 76 = u 76 := wr_off (by decide)
    have c : (u 76 i &&& 255) = 32 := by rw [hbl i (by omega) (by omega)]; decide
    rw [L_X12_goesOn_9, gI_75_8, Option.bind_some, wr_same, mod_byte hL h7' (show i < L by omega), Option.bind_some, e76, if_pos c, Option.bind_some, pI_75_8, Option.bind_some, wr_wr, nI_1]
    exact ih (i + 1) f (by omega) (by omega) (fun j h1 h2 => hbl j (by omega) h2)
theorem mod_lets {w : mU} {s e : Nat} (hL : L ≤ 1000) (h7 : w 75 7 = nI L) (hb : ∀ i, i < L → byt (w 76 i)) (hse : s ≤ e) (he : e ≤ L) (hr : ∀ i, s ≤ i → i < e → isL (w 76 i) = true) (hn : e < L → isL (w 76 e) = false) : ∀ (r n f : Nat), s + n + r = e → r < f → L_X12_goesOn_84 f 75 (nI n) (Rep (SH T D c3 c4 m) (wr w 75 8 (nI (s + n))) (wrL v 75 14 (ivB (Int64.ofNat 32) 97 1 (w 76) s (min n 8)))) = if 8 < e - s then some (Rep (SH T D c3 c4 m) (wr w 75 8 (nI e)) (wrL v 75 14 (ivB (Int64.ofNat 32) 97 1 (w 76) s (min (e - s) 8)))) else some (Rep (SH T D c3 c4 m) (wr (wr w 75 8 (nI e)) 75 9 2) (wrL v 75 14 (ivB (Int64.ofNat 32) 97 1 (w 76) s (min (e - s) 8)))) := by
  intro r
  induction r with
  | zero =>
    intro n f hi hf
    obtain ⟨f, rfl⟩ : ∃ f', f = f' + 1 := ⟨f - 1, by omega⟩
    have hsn : s + n = e := by omega
    have hn' : n = e - s := by omega
    have h7' : wr w 75 8 (nI (s + n)) 75 7 = nI L := by rw [wr_ix (by decide)]; exact h7
    have e76 : wr w 75 8 (nI (s + n)) 76 = w 76 := wr_off (by decide)
    obtain ⟨x, e1, e2⟩ := mod_past (T := T) (D := D) (c3 := c3) (c4 := c4) (m := m) (v := wrL v 75 14 (ivB (Int64.ofNat 32) 97 1 (w 76) s (min n 8))) (p := isL) (i := s + n) hL h7' (by omega) (by decide) (by
      rw [e76, hsn]
      intro z
      obtain ⟨k, hk, ek⟩ := byt_k (hb e z)
      have := hn z
      rw [ek] at this ⊢
      rw [by_L k hk]
      exact this)
    have c8 : ((8 : Int32) < nI n) = (8 < n) := propext (nI_ltI (a := 8) (by omega) (by omega))
    rw [L_X12_goesOn_84, gI_75_8, Option.bind_some, wr_same, e1, Option.bind_some, isL_f, Option.bind_some, e2, show bI false = 0 from rfl, if_pos rfl, ← hn', hsn]
    by_cases c : 8 < n
    · rw [if_pos (c8.mpr c), if_pos c]
    · rw [if_neg (fun z => c (c8.mp z)), if_neg c, pI_75_9, Option.bind_some]
  | succ r ih =>
    intro n f hi hf
    obtain ⟨f, rfl⟩ : ∃ f', f = f' + 1 := ⟨f - 1, by omega⟩
    have h7' : wr w 75 8 (nI (s + n)) 75 7 = nI L := by rw [wr_ix (by decide)]; exact h7
    have e76 : wr w 75 8 (nI (s + n)) 76 = w 76 := wr_off (by decide)
    have hp := hr (s + n) (by omega) (by omega)
    obtain ⟨k, hk, ek⟩ := byt_k (hb (s + n) (by omega))
    have es : (w 76 (s + n) &&& 255) = w 76 (s + n) := by
      rw [ek] at hp ⊢
      exact by_same k hk (Or.inl hp)
    have eb := mod_byte (T := T) (D := D) (c3 := c3) (c4 := c4) (m := m) (v := wrL v 75 14 (ivB (Int64.ofNat 32) 97 1 (w 76) s (min n 8))) (i := s + n) hL h7' (by omega)
    rw [e76, es] at eb
    have c8 : ((8 : Int32) ≤ nI n) = (8 ≤ n) := propext (nI_leI (a := 8) (by omega) (by omega))
    have hstep := ih (n + 1) f (by omega) (by omega)
    rw [show s + (n + 1) = s + n + 1 by omega] at hstep
    rw [← hstep, L_X12_goesOn_84, gI_75_8, Option.bind_some, wr_same, eb, Option.bind_some, isL_f, Option.bind_some, hp, show bI true = 1 from rfl, if_neg (by decide)]
    by_cases c : 8 ≤ n
    · rw [if_pos (c8.mpr c), Option.bind_some, pI_75_8, Option.bind_some, wr_wr, nI_1, nI_1, show min (n + 1) 8 = min n 8 by omega]
    · have hiv : ivB (Int64.ofNat 32) 97 1 (w 76) s (min (n + 1) 8) = (32 * ivB (Int64.ofNat 32) 97 1 (w 76) s (min n 8)) + (((w 76 (s + n) - 97) + 1).toInt64) := by
        rw [show min (n + 1) 8 = n + 1 by omega, show min n 8 = n by omega]
        rfl
      rw [if_neg (fun z => c (c8.mp z)), gL_75_14, Option.bind_some, wrL_same, Option.bind_some, eb, Option.bind_some, pL_75_14, Option.bind_some, wrL_wrL, ← hiv, gI_75_8, Option.bind_some, wr_same, pI_75_8, Option.bind_some, wr_wr, nI_1, nI_1]
theorem mod_digs {w : mU} {s e : Nat} (hL : L ≤ 1000) (h7 : w 75 7 = nI L) (hb : ∀ i, i < L → byt (w 76 i)) (hse : s ≤ e) (he : e ≤ L) (hr : ∀ i, s ≤ i → i < e → isD (w 76 i) = true) (hn : e < L → isD (w 76 e) = false) : ∀ (r n f : Nat), s + n + r = e → r < f → L_X12_goesOn_173 f 75 (nI n) (Rep (SH T D c3 c4 m) (wr (wr w 75 8 (nI (s + n))) 75 11 (nI (nvB (w 76) s (min n 3)))) v) = if 3 < e - s then some (Rep (SH T D c3 c4 m) (wr (wr w 75 8 (nI e)) 75 11 (nI (nvB (w 76) s (min (e - s) 3)))) v) else some (Rep (SH T D c3 c4 m) (wr (wr (wr w 75 8 (nI e)) 75 11 (nI (nvB (w 76) s (min (e - s) 3)))) 75 9 3) v) := by
  have hcom : ∀ (x y z : Int32), wr (wr (wr w 75 8 x) 75 11 y) 75 8 z = wr (wr w 75 8 z) 75 11 y := by
    intro x y z
    funext q j
    unfold wr
    by_cases h1 : q = 75 ∧ j = 8
    · rw [if_pos h1, if_neg (by omega), if_pos h1]
    · rw [if_neg h1]
      by_cases h2 : q = 75 ∧ j = 11
      · rw [if_pos h2, if_pos h2]
      · rw [if_neg h2, if_neg h2, if_neg h1, if_neg h1]
  intro r
  induction r with
  | zero =>
    intro n f hi hf
    obtain ⟨f, rfl⟩ : ∃ f', f = f' + 1 := ⟨f - 1, by omega⟩
    have hsn : s + n = e := by omega
    have hn' : n = e - s := by omega
    have h7' : wr (wr w 75 8 (nI (s + n))) 75 11 (nI (nvB (w 76) s (min n 3))) 75 7 = nI L := by rw [wr_ix (by decide), wr_ix (by decide)]; exact h7
    have e8 : wr (wr w 75 8 (nI (s + n))) 75 11 (nI (nvB (w 76) s (min n 3))) 75 8 = nI (s + n) := by rw [wr_ix (by decide), wr_same]
    have e76 : wr (wr w 75 8 (nI (s + n))) 75 11 (nI (nvB (w 76) s (min n 3))) 76 = w 76 := by rw [wr_off (by decide), wr_off (by decide)]
    obtain ⟨x, e1, e2⟩ := mod_past (T := T) (D := D) (c3 := c3) (c4 := c4) (m := m) (v := v) (p := isD) (i := s + n) hL h7' (by omega) (by decide) (by
      rw [e76, hsn]
      intro z
      obtain ⟨k, hk, ek⟩ := byt_k (hb e z)
      have := hn z
      rw [ek] at this ⊢
      rw [by_D k hk]
      exact this)
    have c8 : ((3 : Int32) < nI n) = (3 < n) := propext (nI_ltI (a := 3) (by omega) (by omega))
    rw [L_X12_goesOn_173, gI_75_8, Option.bind_some, e8, e1, Option.bind_some, isD_f, Option.bind_some, e2, show bI false = 0 from rfl, if_pos rfl, ← hn', hsn]
    by_cases c : 3 < n
    · rw [if_pos (c8.mpr c), if_pos c]
    · rw [if_neg (fun z => c (c8.mp z)), if_neg c, pI_75_9, Option.bind_some]
  | succ r ih =>
    intro n f hi hf
    obtain ⟨f, rfl⟩ : ∃ f', f = f' + 1 := ⟨f - 1, by omega⟩
    have h7' : wr (wr w 75 8 (nI (s + n))) 75 11 (nI (nvB (w 76) s (min n 3))) 75 7 = nI L := by rw [wr_ix (by decide), wr_ix (by decide)]; exact h7
    have e8 : wr (wr w 75 8 (nI (s + n))) 75 11 (nI (nvB (w 76) s (min n 3))) 75 8 = nI (s + n) := by rw [wr_ix (by decide), wr_same]
    have e76 : wr (wr w 75 8 (nI (s + n))) 75 11 (nI (nvB (w 76) s (min n 3))) 76 = w 76 := by rw [wr_off (by decide), wr_off (by decide)]
    have hp := hr (s + n) (by omega) (by omega)
    obtain ⟨k, hk, ek⟩ := byt_k (hb (s + n) (by omega))
    have es : (w 76 (s + n) &&& 255) = w 76 (s + n) := by
      rw [ek] at hp ⊢
      exact by_same k hk (Or.inr hp)
    have hv : w 76 (s + n) = nI (dgD (w 76 (s + n)) + 48) := by
      rw [ek] at hp ⊢
      exact (by_DV k hk hp).2.2
    have eb := mod_byte (T := T) (D := D) (c3 := c3) (c4 := c4) (m := m) (v := v) (i := s + n) hL h7' (by omega)
    rw [e76, es] at eb
    have c8 : ((3 : Int32) ≤ nI n) = (3 ≤ n) := propext (nI_leI (a := 3) (by omega) (by omega))
    have hstep := ih (n + 1) f (by omega) (by omega)
    rw [show s + (n + 1) = s + n + 1 by omega] at hstep
    rw [← hstep, L_X12_goesOn_173, gI_75_8, Option.bind_some, e8, eb, Option.bind_some, isD_f, Option.bind_some, hp, show bI true = 1 from rfl, if_neg (by decide)]
    by_cases c : 3 ≤ n
    · rw [if_pos (c8.mpr c), Option.bind_some, pI_75_8, Option.bind_some, hcom, nI_1, nI_1, show min (n + 1) 3 = min n 3 by omega]
    · have hiv : ((10 * nI (nvB (w 76) s (min n 3))) + w 76 (s + n)) - 48 = nI (nvB (w 76) s (min (n + 1) 3)) := by
        rw [show min (n + 1) 3 = n + 1 by omega, show min n 3 = n by omega]
        show ((10 * nI (nvB (w 76) s n)) + w 76 (s + n)) - 48 = nI (10 * nvB (w 76) s n + dgD (w 76 (s + n)))
        generalize dgD (w 76 (s + n)) = dd at hv ⊢
        rw [hv, show (10 : Int32) = nI 10 from rfl, nI_mul, nI_add, show (48 : Int32) = nI 48 from rfl, nI_dif (by omega), show 10 * nvB (w 76) s n + (dd + 48) - 48 = 10 * nvB (w 76) s n + dd by omega]
      rw [if_neg (fun z => c (c8.mp z)), gI_75_11, Option.bind_some, wr_same, Option.bind_some, eb, Option.bind_some, pI_75_11, Option.bind_some, wr_wr, hiv, gI_75_8, Option.bind_some, wr_ix (show (8 : Nat) ≠ 11 by decide), wr_same, pI_75_8, Option.bind_some, hcom, nI_1, nI_1]
end MTK
