/-! ===== soonest: the class places thing after thing ===== -/
theorem ff_none {β : Type} {f : Nat → Option β} : ∀ (r i : Nat), (∀ j, i ≤ j → j < i + r → f j = none) → ff f r i = none := by
  intro r
  induction r with
  | zero => intro i _; rfl
  | succ r ih =>
    intro i h
    show (match f i with | some b => some b | none => ff f r (i + 1)) = none
    rw [h i (by omega) (by omega)]
    exact ih (i + 1) (fun j a b => h j (by omega) (by omega))
theorem ff_hit {β : Type} {f : Nat → Option β} {r i : Nat} {b : β} (h : f i = some b) : ff f (r + 1) i = some b := by
  show (match f i with | some b => some b | none => ff f r (i + 1)) = some b
  rw [h]
theorem ff_miss {β : Type} {f : Nat → Option β} {r i : Nat} (h : f i = none) : ff f (r + 1) i = ff f r (i + 1) := by
  show (match f i with | some b => some b | none => ff f r (i + 1)) = _
  rw [h]
theorem ff_add {β : Type} {f : Nat → Option β} {b : Nat} : ∀ (a i : Nat), ff f (a + b) i = (match ff f a i with | some x => some x | none => ff f b (i + a)) := by
  intro a
  induction a with
  | zero => intro i; rw [Nat.zero_add]; rfl
  | succ a ih =>
    intro i
    rw [show a + 1 + b = a + b + 1 by omega]
    cases c : f i with
    | some x => rw [ff_hit c, ff_hit c]
    | none => rw [ff_miss c, ff_miss c, ih (i + 1), show i + 1 + a = i + (a + 1) by omega]
theorem ff_cut {β : Type} {f : Nat → Option β} {a b i : Nat} (h : ∀ j, i + a ≤ j → j < i + (a + b) → f j = none) : ff f (a + b) i = ff f a i := by
  rw [ff_add]
  cases ff f a i with
  | some x => rfl
  | none => exact ff_none b (i + a) (fun j p q => h j p (by omega))
theorem ff_blk {β : Type} {f : Nat → Option β} {B : Nat} : ∀ (r d : Nat), ff f (B * r) (B * d) = ff (fun d => ff f B (B * d)) r d := by
  intro r
  induction r with
  | zero => intro d; rfl
  | succ r ih =>
    intro d
    rw [show B * (r + 1) = B + B * r by rw [Nat.mul_succ, Nat.add_comm], ff_add]
    cases c : ff f B (B * d) with
    | some x => exact (ff_hit (f := fun d => ff f B (B * d)) c).symm
    | none =>
      rw [ff_miss (f := fun d => ff f B (B * d)) c, show B * d + B = B * (d + 1) by rw [Nat.mul_succ]]
      exact ih (d + 1)
theorem ff_shift {β : Type} {f : Nat → Option β} {a : Nat} : ∀ (r i : Nat), ff f r (a + i) = ff (fun j => f (a + j)) r i := by
  intro r
  induction r with
  | zero => intro i; rfl
  | succ r ih =>
    intro i
    cases c : f (a + i) with
    | some x => rw [ff_hit c, ff_hit (f := fun j => f (a + j)) c]
    | none =>
      rw [ff_miss c, ff_miss (f := fun j => f (a + j)) c, Nat.add_assoc]
      exact ih (i + 1)
theorem ff_way {β : Type} {f : Nat → Option β} {G P R : Nat} (hG : G ≤ 3) (hP : P ≤ 5) (h : ∀ w, ¬ (w / 5 % 3 < G ∧ w % 5 < P) → f w = none) : ff f (15 * R) 0 = ff (fun d => ff (fun g => ff (fun p => f (15 * d + 5 * g + p)) P 0) G 0) R 0 := by
  have e := ff_blk (f := f) (B := 15) R 0
  rw [Nat.mul_zero] at e
  rw [e]
  refine ff_congr R 0 (fun d _ _ => ?_)
  have e1 := ff_shift (f := f) (a := 15 * d) 15 0
  rw [Nat.add_zero] at e1
  rw [e1]
  have e2 := ff_blk (f := fun j => f (15 * d + j)) (B := 5) 3 0
  rw [show 5 * 3 = 15 from rfl, Nat.mul_zero] at e2
  rw [e2, show (3 : Nat) = G + (3 - G) by omega]
  have e3 : ∀ g, ff (fun j => f (15 * d + j)) 5 (5 * g) = ff (fun p => f (15 * d + (5 * g + p))) 5 0 := by
    intro g
    have := ff_shift (f := fun j => f (15 * d + j)) (a := 5 * g) 5 0
    rw [Nat.add_zero] at this
    exact this
  rw [ff_cut (fun g h1 h2 => ?_)]
  · refine ff_congr G 0 (fun g _ hg => ?_)
    rw [e3, show (5 : Nat) = P + (5 - P) by omega]
    rw [ff_cut (fun p h1 h2 => ?_)]
    · refine ff_congr P 0 (fun p _ hp => ?_)
      rw [show P + (5 - P) = 5 by omega, Nat.add_assoc]
    · rw [show P + (5 - P) = 5 by omega]
      exact h _ (fun z => by omega)
  · show ff (fun j => f (15 * d + j)) 5 (5 * g) = none
    rw [e3]
    exact ff_none _ _ (fun p h3 h4 => h _ (fun z => by omega))
/-- the class's tests of a way w for thing k -/
def cA (K : cK) (N : Nat → Nat) (k : Nat) (ch : Nat → Nat) (w : Nat) : Bool := decide (w / 5 % 3 < N 5 ∧ w % 5 < N 3) && (fre (fun j => ch j / 5) k (w / 5) && alD (sbP K (updN ch k w) k) (k + 1))
def cSr (K : cK) (N : Nat → Nat) (W r k : Nat) (ch : Nat → Nat) : Option (Nat → Nat) := sr W (cA K N) (fun _ => true) r k ch
def cSt (K : cK) (N : Nat → Nat) (W r k : Nat) (ch : Nat → Nat) (w : Nat) : Option (Nat → Nat) := if cA K N k ch w = true then cSr K N W r (k + 1) (updN ch k w) else none
section PLC
variable {T D m M : Nat} {c3 c4 : sF} {u : mU} {v : mV} {N : Nat → Nat} {ch : Nat → Nat} {C : Nat → Int32} {k d g p : Nat}
theorem p43_relC (ho : okTD T D) (hM : 88 ≤ M) (h : relC u T M N) : relC (put u 43 C) T M N := by
  have hT : T = 54 ∨ T = 3 := by rcases ho with ⟨rfl, rfl⟩ | ⟨rfl, rfl⟩ <;> simp
  exact relC_congr (fun i hi => put_ne (by omega)) (fun i => put_ne (by omega)) h
theorem chO_keep (h : chO (put u 43 C) ch k) (hd : d < 7) (hg : g < 3) (hp : p < 5) : chO (put u 43 (chW C k d g p)) ch k := by
  intro j hj
  have := chO_up h hd hg hp j (by omega)
  rw [updN_at, if_neg (by omega)] at this
  exact this
/-- what a run of placing leaves -/
def plO (u : mU) (v : mV) (sh : mS) (n k : Nat) (ch : Nat → Nat) (o : Option (Nat → Nat)) (X : Option (Int32 × qS)) (Y : (Nat → Int32) → Option (Int32 × qS)) : Prop :=
  (∃ c C', o = some c ∧ chO (put u 43 C') c n ∧ X = some (1, Rep sh (put u 43 C') v)) ∨ (∃ C', o = none ∧ chO (put u 43 C') ch k ∧ X = Y C')
def inA (N : Nat → Nat) (ch : Nat → Nat) (k : Nat) : Prop := ∀ j, j < k → ch j / 5 % 3 < N 5 ∧ ch j % 5 < N 3
def plH (K : cK) (N : Nat → Nat) (u : mU) (v : mV) (T D m : Nat) (c3 c4 : sF) (dd r k dp : Nat) : Prop := ∀ (ch : Nat → Nat) (C : Nat → Int32) (busy : Int32), chO (put u 43 C) ch k → inA N ch k → BZ busy (fun j => ch j / 5) k → plO u v (SH T D c3 c4 m) (N 2) k ch (cSr K N (15 * (dd + 1)) r k ch) (f_X0_place dp (Rep (SH T D c3 c4 m) (put u 43 C) v) 41 T (nI k) (nI dd) busy) (fun C' => some (0, Rep (SH T D c3 c4 m) (put u 43 C') v))
theorem inA_up {w : Nat} (h : inA N ch k) (h1 : w / 5 % 3 < N 5) (h2 : w % 5 < N 3) : inA N (updN ch k w) (k + 1) := by
  intro j hj
  rw [updN_at]
  by_cases c : j = k
  · rw [if_pos c]; exact ⟨h1, h2⟩
  · rw [if_neg c]; exact h j (by omega)
theorem BZ_slot {busy : Int32} {w : Nat} (h : BZ busy (fun j => ch j / 5) k) (hw : w / 5 < 21) : BZ (busy ||| sbit (w / 5)) (fun j => updN ch k w j / 5) (k + 1) := by
  have e := BZ_up h hw
  have : updN (fun j => ch j / 5) k (w / 5) = fun j => updN ch k w j / 5 := by
    funext j
    rw [updN_at, updN_at]
    by_cases c : j = k
    · rw [if_pos c, if_pos c]
    · rw [if_neg c, if_neg c]
  rw [this] at e
  exact e
theorem cls_pl84 {r dd dp : Nat} {busy : Int32} {kk : Nat → Nat → Int32 → Int32 → Int32 → Int32 → Int32 → qS → Option (Int32 × qS)} (ho : okTD T D) (hM : 88 ≤ M) (h : relC u T M N) (hk : k < N 2) (hd : d < 7) (hg : g < N 5) (hin : inA N ch k) (hB : BZ busy (fun j => ch j / 5) k) (hf : fre (fun j => ch j / 5) k (3 * d + g) = true) (H : plH (col u M) N u v T D m c3 c4 dd r (k + 1) dp) : ∀ (e p f : Nat) (C : Nat → Int32), p + e = N 3 → e < f → chO (put u 43 C) ch k → plO u v (SH T D c3 c4 m) (N 2) k ch (ff (fun p => cSt (col u M) N (15 * (dd + 1)) r k ch (15 * d + 5 * g + p)) e p) (L_X0_place_84 (f_X0_place dp) kk f 41 T (nI k) (nI dd) busy (nI d) (nI g) (sbit (3 * d + g)) (nI p) (Rep (SH T D c3 c4 m) (put u 43 C) v)) (fun C' => kk 41 T (nI k) (nI dd) busy (nI d) (nI g) (Rep (SH T D c3 c4 m) (put u 43 C') v)) := by
  have hb := bndN_of h.1
  have b2 : N 2 ≤ 4 := hb.2.2.1
  have b3 : N 3 ≤ 5 := hb.2.2.2.1
  have b5 : N 5 ≤ 3 := hb.2.2.2.2.2.1
  intro e
  induction e with
  | zero =>
    intro p f C hp hf hC
    obtain ⟨f, rfl⟩ : ∃ f', f = f' + 1 := ⟨f - 1, by omega⟩
    have c : nI (N 3) ≤ nI p := nI_le (by omega) (by omega)
    refine Or.inr ⟨C, rfl, hC, ?_⟩
    rw [L_X0_place_84, cls_c3 ho (p43_relC ho hM h).1, Option.bind_some, if_pos c]
  | succ e ih =>
    intro p f C hp hf' hC
    obtain ⟨f, rfl⟩ : ∃ f', f = f' + 1 := ⟨f - 1, by omega⟩
    have c : ¬ nI (N 3) ≤ nI p := nI_ge (by omega) (by omega)
    have hp5 : p < 5 := by omega
    have hg3 : g < 3 := by omega
    have w1 : (15 * d + 5 * g + p) / 5 % 3 = g := by omega
    have w2 : (15 * d + 5 * g + p) % 5 = p := by omega
    have w3 : (15 * d + 5 * g + p) / 5 = 3 * d + g := by omega
    have hup := chO_up hC hd hg3 hp5
    have hkp := chO_keep hC hd hg3 hp5
    have hin' := inA_up (w := 15 * d + 5 * g + p) hin (by omega) (by omega)
    have esb := cls_standsBy (c3 := c3) (c4 := c4) (m := m) (v := v) ho (p43_relC (C := chW C k d g p) ho hM h) hk hup (fun j hj => hin' j (by omega))
    rw [put_col hM (by decide)] at esb
    have hA : cA (col u M) N k ch (15 * d + 5 * g + p) = alD (sbP (col u M) (updN ch k (15 * d + 5 * g + p)) k) (k + 1) := by
      unfold cA
      rw [w1, w2, w3, hf, decide_eq_true ⟨hg, show p < N 3 by omega⟩, Bool.true_and, Bool.true_and]
    have hstep : L_X0_place_84 (f_X0_place dp) kk (f + 1) 41 T (nI k) (nI dd) busy (nI d) (nI g) (sbit (3 * d + g)) (nI p) (Rep (SH T D c3 c4 m) (put u 43 C) v) = (if bI (alD (sbP (col u M) (updN ch k (15 * d + 5 * g + p)) k) (k + 1)) = 0 then (L_X0_place_84 (f_X0_place dp) kk f 41 T (nI k) (nI dd) busy (nI d) (nI g) (sbit (3 * d + g)) (nI (p + 1)) (Rep (SH T D c3 c4 m) (put u 43 (chW C k d g p)) v)) else (q_b2 (f_X0_place dp (Rep (SH T D c3 c4 m) (put u 43 (chW C k d g p)) v) 41 T (nI (k + 1)) (nI dd) (busy ||| sbit (3 * d + g))) fun v5 g4 => if v5 = 0 then (L_X0_place_84 (f_X0_place dp) kk f 41 T (nI k) (nI dd) busy (nI d) (nI g) (sbit (3 * d + g)) (nI (p + 1)) g4) else (some (1, g4)))) := by
      rw [L_X0_place_84, cls_c3 ho (p43_relC ho hM h).1, Option.bind_some, if_neg c, cls_write (by omega), Option.bind_some, esb, Option.bind_some, nI_1, nI_1]
    rw [hstep]
    cases ca : alD (sbP (col u M) (updN ch k (15 * d + 5 * g + p)) k) (k + 1) with
    | false =>
      rw [ca] at hA
      have hz : cSt (col u M) N (15 * (dd + 1)) r k ch (15 * d + 5 * g + p) = none := by
        unfold cSt
        rw [hA, if_neg (by decide)]
      rw [ff_miss (f := fun p => cSt (col u M) N (15 * (dd + 1)) r k ch (15 * d + 5 * g + p)) hz, show bI false = 0 from rfl, if_pos rfl]
      exact ih (p + 1) f _ (by omega) (by omega) hkp
    | true =>
      rw [ca] at hA
      have hz : cSt (col u M) N (15 * (dd + 1)) r k ch (15 * d + 5 * g + p) = cSr (col u M) N (15 * (dd + 1)) r (k + 1) (updN ch k (15 * d + 5 * g + p)) := by
        unfold cSt
        rw [hA, if_pos rfl]
      have hB' := BZ_slot (w := 15 * d + 5 * g + p) hB (by omega)
      rw [w3] at hB'
      rw [show bI true = 1 from rfl, if_neg (by decide)]
      rcases H _ _ _ hup hin' hB' with ⟨c', C', q1, q2, q3⟩ | ⟨C', q1, q2, q3⟩
      · rw [q1] at hz
        rw [ff_hit (f := fun p => cSt (col u M) N (15 * (dd + 1)) r k ch (15 * d + 5 * g + p)) hz, q3, q_b2_some, if_neg (by decide)]
        exact Or.inl ⟨c', C', rfl, q2, rfl⟩
      · rw [q1] at hz
        rw [ff_miss (f := fun p => cSt (col u M) N (15 * (dd + 1)) r k ch (15 * d + 5 * g + p)) hz, q3, q_b2_some, if_pos rfl]
        refine ih (p + 1) f C' (by omega) (by omega) (fun j hj => ?_)
        have := q2 j (by omega)
        rw [updN_at, if_neg (by omega)] at this
        exact this
theorem cls_pl35 {r dd dp : Nat} {busy : Int32} {kk : Nat → Nat → Int32 → Int32 → Int32 → Int32 → qS → Option (Int32 × qS)} (ho : okTD T D) (hM : 88 ≤ M) (h : relC u T M N) (hk : k < N 2) (hd : d < 7) (hin : inA N ch k) (hB : BZ busy (fun j => ch j / 5) k) (H : plH (col u M) N u v T D m c3 c4 dd r (k + 1) dp) : ∀ (e g f : Nat) (C : Nat → Int32), g + e = N 5 → e < f → chO (put u 43 C) ch k → plO u v (SH T D c3 c4 m) (N 2) k ch (ff (fun g => ff (fun p => cSt (col u M) N (15 * (dd + 1)) r k ch (15 * d + 5 * g + p)) (N 3) 0) e g) (L_X0_place_35 (f_X0_place dp) kk f 41 T (nI k) (nI dd) busy (nI d) (nI g) (Rep (SH T D c3 c4 m) (put u 43 C) v)) (fun C' => kk 41 T (nI k) (nI dd) busy (nI d) (Rep (SH T D c3 c4 m) (put u 43 C') v)) := by
  have hCt := SH_told (c3 := c3) (c4 := c4) (m := m) ho
  have hb := bndN_of h.1
  have b2 : N 2 ≤ 4 := hb.2.2.1
  have b3 : N 3 ≤ 5 := hb.2.2.2.1
  have b5 : N 5 ≤ 3 := hb.2.2.2.2.2.1
  intro e
  induction e with
  | zero =>
    intro g f C hp hf hC
    obtain ⟨f, rfl⟩ : ∃ f', f = f' + 1 := ⟨f - 1, by omega⟩
    have c : nI (N 5) ≤ nI g := nI_le (by omega) (by omega)
    refine Or.inr ⟨C, rfl, hC, ?_⟩
    rw [L_X0_place_35, cls_c5 ho (p43_relC ho hM h).1, Option.bind_some, if_pos c]
  | succ e ih =>
    intro g f C hp hf' hC
    obtain ⟨f, rfl⟩ : ∃ f', f = f' + 1 := ⟨f - 1, by omega⟩
    have c : ¬ nI (N 5) ≤ nI g := nI_ge (by omega) (by omega)
    have hg : g < N 5 := by omega
    have hbit : ((nI d * 3) + nI g) = nI (3 * d + g) := by
      rw [show (3 : Int32) = nI 3 from rfl, nI_mul, nI_add, Nat.mul_comm d 3]
    have hz := hB (3 * d + g) (by omega)
    have hmiss : (∀ p, p < N 3 → cA (col u M) N k ch (15 * d + 5 * g + p) = false) → ff (fun g => ff (fun p => cSt (col u M) N (15 * (dd + 1)) r k ch (15 * d + 5 * g + p)) (N 3) 0) (e + 1) g = ff (fun g => ff (fun p => cSt (col u M) N (15 * (dd + 1)) r k ch (15 * d + 5 * g + p)) (N 3) 0) e (g + 1) := by
      intro hh
      refine ff_miss (f := fun g => ff (fun p => cSt (col u M) N (15 * (dd + 1)) r k ch (15 * d + 5 * g + p)) (N 3) 0) (ff_none _ _ (fun p _ hp => ?_))
      show cSt (col u M) N (15 * (dd + 1)) r k ch (15 * d + 5 * g + p) = none
      unfold cSt
      rw [hh p (by omega), if_neg (by decide)]
    by_cases c1 : fre (fun j => ch j / 5) k (3 * d + g) = true
    · have c1' : busy &&& sbit (3 * d + g) = 0 := hz.mpr (fre_iff.mp c1)
      have e1 := take_at (p43_relC (C := C) ho hM h) hb hg hd
      have o1 := okTr_neg ((p43_relC (C := C) ho hM h).2.2.2.2.2.2.1 g d hg hd).2 hb
      rw [put_M hM (by decide)] at e1 o1
      have hstep : ∀ X : Int32, u (M + 12) (7 * g + d) = X → L_X0_place_35 (f_X0_place dp) kk (f + 1) 41 T (nI k) (nI dd) busy (nI d) (nI g) (Rep (SH T D c3 c4 m) (put u 43 C) v) = (if 0 ≤ X then (L_X0_place_84 (f_X0_place dp) (fun y4 y5 y6 y7 y8 y9 y10 g11 => L_X0_place_35 (f_X0_place dp) kk f y4 y5 y6 y7 y8 y9 (y10 + 1) g11) 1000000000 41 T (nI k) (nI dd) busy (nI d) (nI g) (sbit (3 * d + g)) 0 (Rep (SH T D c3 c4 m) (put u 43 C) v)) else (L_X0_place_35 (f_X0_place dp) kk f 41 T (nI k) (nI dd) busy (nI d) (nI g + 1) (Rep (SH T D c3 c4 m) (put u 43 C) v))) := by
        intro X hX
        rw [L_X0_place_35, cls_c5 ho (p43_relC ho hM h).1, Option.bind_some, if_neg c, hbit, if_pos c1', cR_8 hCt, Option.bind_some, cG_8 hCt, e1, hX, Option.bind_some]
      by_cases c2 : u (M + 12) (7 * g + d) = -2
      · rw [hstep _ c2, if_neg (by decide), nI_1, hmiss (fun p hp => ?_)]
        · exact ih (g + 1) f C (by omega) (by omega) hC
        · have w1 : (15 * d + 5 * g + p) / 5 % 3 = g := by omega
          have w2 : (15 * d + 5 * g + p) % 5 = p := by omega
          have w3 : (15 * d + 5 * g + p) / 15 = d := by omega
          have htog : s_tog (col u M) g p d = -2 := by
            unfold s_tog
            rw [show col u M 12 (7 * g + d) = -2 from c2]
            by_cases c8 : col u M 8 (7 * p + d) = -2
            · rw [if_pos c8]
            · rw [if_neg c8, if_neg (fun z => c8 z.symm)]
          have hst : sbP (col u M) (updN ch k (15 * d + 5 * g + p)) k k = false := by
            unfold sbP stS s_can
            rw [updN_at, if_pos rfl, w1, w2, w3, htog, decide_eq_false (not_not_intro rfl), decide_eq_false (not_not_intro rfl), Bool.false_and, Bool.false_or]
          unfold cA
          rw [show alD (sbP (col u M) (updN ch k (15 * d + 5 * g + p)) k) (k + 1) = (sbP (col u M) (updN ch k (15 * d + 5 * g + p)) k k && alD (sbP (col u M) (updN ch k (15 * d + 5 * g + p)) k) k) from rfl, hst, Bool.false_and, Bool.and_false, Bool.and_false]
      · have c2' : 0 ≤ u (M + 12) (7 * g + d) := Int32.not_lt.mp (fun z => c2 (o1.mp z))
        rw [hstep _ rfl, if_pos c2']
        have q := cls_pl84 (kk := fun y4 y5 y6 y7 y8 y9 y10 g11 => L_X0_place_35 (f_X0_place dp) kk f y4 y5 y6 y7 y8 y9 (y10 + 1) g11) ho hM h hk hd hg hin hB c1 H (N 3) 0 1000000000 C (by omega) (by omega) hC
        rw [nI_0] at q
        rcases q with ⟨c', C', q1, q2, q3⟩ | ⟨C', q1, q2, q3⟩
        · rw [ff_hit (f := fun g => ff (fun p => cSt (col u M) N (15 * (dd + 1)) r k ch (15 * d + 5 * g + p)) (N 3) 0) q1]
          exact Or.inl ⟨c', C', rfl, q2, q3⟩
        · rw [ff_miss (f := fun g => ff (fun p => cSt (col u M) N (15 * (dd + 1)) r k ch (15 * d + 5 * g + p)) (N 3) 0) q1, q3, nI_1]
          exact ih (g + 1) f C' (by omega) (by omega) q2
    · have c1' : ¬ busy &&& sbit (3 * d + g) = 0 := fun z => c1 (fre_iff.mpr (hz.mp z))
      rw [hmiss (fun p hp => ?_)]
      · rw [L_X0_place_35, cls_c5 ho (p43_relC ho hM h).1, Option.bind_some, if_neg c, hbit, if_neg c1', nI_1]
        exact ih (g + 1) f C (by omega) (by omega) hC
      · unfold cA
        rw [show (15 * d + 5 * g + p) / 5 = 3 * d + g by omega, Bool.eq_false_iff.mpr c1, Bool.false_and, Bool.and_false]
theorem cls_pl19 {r dd dp : Nat} {busy : Int32} (ho : okTD T D) (hM : 88 ≤ M) (h : relC u T M N) (hk : k < N 2) (hdd : dd < 7) (hin : inA N ch k) (hB : BZ busy (fun j => ch j / 5) k) (H : plH (col u M) N u v T D m c3 c4 dd r (k + 1) dp) : ∀ (e d f : Nat) (C : Nat → Int32), d + e = dd + 1 → e < f → chO (put u 43 C) ch k → plO u v (SH T D c3 c4 m) (N 2) k ch (ff (fun d => ff (fun g => ff (fun p => cSt (col u M) N (15 * (dd + 1)) r k ch (15 * d + 5 * g + p)) (N 3) 0) (N 5) 0) e d) (L_X0_place_19 (f_X0_place dp) f 41 T (nI k) (nI dd) busy (nI d) (Rep (SH T D c3 c4 m) (put u 43 C) v)) (fun C' => some (0, Rep (SH T D c3 c4 m) (put u 43 C') v)) := by
  have hb := bndN_of h.1
  have b5 : N 5 ≤ 3 := hb.2.2.2.2.2.1
  intro e
  induction e with
  | zero =>
    intro d f C hp hf hC
    obtain ⟨f, rfl⟩ : ∃ f', f = f' + 1 := ⟨f - 1, by omega⟩
    have c : nI dd < nI d := nI_lt (by omega) (by omega)
    refine Or.inr ⟨C, rfl, hC, ?_⟩
    rw [L_X0_place_19, if_pos c]
  | succ e ih =>
    intro d f C hp hf' hC
    obtain ⟨f, rfl⟩ : ∃ f', f = f' + 1 := ⟨f - 1, by omega⟩
    have c : ¬ nI dd < nI d := nI_nlt (by omega) (by omega)
    have c7 : ¬ (7 : Int32) ≤ nI d := show ¬ nI 7 ≤ nI d from nI_ge (by omega) (by omega)
    have q := cls_pl35 (kk := fun y1 y2 y3 y4 y5 y6 g7 => L_X0_place_19 (f_X0_place dp) f y1 y2 y3 y4 y5 (y6 + 1) g7) ho hM h hk (show d < 7 by omega) hin hB H (N 5) 0 1000000000 C (by omega) (by omega) hC
    rw [nI_0] at q
    rw [L_X0_place_19, if_neg c, if_neg c7]
    rcases q with ⟨c', C', q1, q2, q3⟩ | ⟨C', q1, q2, q3⟩
    · rw [ff_hit (f := fun d => ff (fun g => ff (fun p => cSt (col u M) N (15 * (dd + 1)) r k ch (15 * d + 5 * g + p)) (N 3) 0) (N 5) 0) q1]
      exact Or.inl ⟨c', C', rfl, q2, q3⟩
    · rw [ff_miss (f := fun d => ff (fun g => ff (fun p => cSt (col u M) N (15 * (dd + 1)) r k ch (15 * d + 5 * g + p)) (N 3) 0) (N 5) 0) q1, q3, nI_1]
      exact ih (d + 1) f C' (by omega) (by omega) q2
theorem cls_place {dd : Nat} (ho : okTD T D) (hM : 88 ≤ M) (h : relC u T M N) (hdd : dd < 7) : ∀ (r k dp : Nat), k + r = N 2 → r < dp → plH (col u M) N u v T D m c3 c4 dd r k dp := by
  have hb := bndN_of h.1
  have b2 : N 2 ≤ 4 := hb.2.2.1
  have b3 : N 3 ≤ 5 := hb.2.2.2.1
  have b5 : N 5 ≤ 3 := hb.2.2.2.2.2.1
  intro r
  induction r with
  | zero =>
    intro k dp hk hd ch C busy hC hin hB
    obtain ⟨dp, rfl⟩ : ∃ d', dp = d' + 1 := ⟨dp - 1, by omega⟩
    have c : nI (N 2) ≤ nI k := nI_le (by omega) (by omega)
    refine Or.inl ⟨ch, C, rfl, ?_, ?_⟩
    · rw [show N 2 = k by omega]; exact hC
    · rw [f_X0_place, gC_41, Option.bind_some, cls_c2 ho (p43_relC ho hM h).1, Option.bind_some, if_pos c]
  | succ r ih =>
    intro k dp hk hd ch C busy hC hin hB
    obtain ⟨dp, rfl⟩ : ∃ d', dp = d' + 1 := ⟨dp - 1, by omega⟩
    have c : ¬ nI (N 2) ≤ nI k := nI_ge (by omega) (by omega)
    have c4' : nI k < 4 := nI_lt (b := 4) (by omega) (by decide)
    have q := cls_pl19 ho hM h (show k < N 2 by omega) hdd hin hB (ih (k + 1) dp (by omega) (by omega)) (dd + 1) 0 1000000000 C (by omega) (by omega) hC
    rw [nI_0] at q
    have e : cSr (col u M) N (15 * (dd + 1)) (r + 1) k ch = ff (fun d => ff (fun g => ff (fun p => cSt (col u M) N (15 * (dd + 1)) r k ch (15 * d + 5 * g + p)) (N 3) 0) (N 5) 0) (dd + 1) 0 := ff_way (f := cSt (col u M) N (15 * (dd + 1)) r k ch) b5 b3 (fun w hw => by
      unfold cSt cA
      rw [decide_eq_false hw, Bool.false_and, if_neg (by decide)])
    rw [e, f_X0_place, gC_41, Option.bind_some, cls_c2 ho (p43_relC ho hM h).1, Option.bind_some, if_neg c, if_pos c4']
    exact q
end PLC
