/-! ===== a State at S: its row's array a ===== -/
def sSh (sh : mS) (S r a : Nat) : Prop := sh S = some (hO 6 [fR r]) ∧ tSh sh r a 1 16
theorem SH_now {T D m : Nat} {c3 c4 : sF} : sSh (SH T D c3 c4 m) 27 28 29 := ⟨rfl, rfl, rfl, by decide, by decide⟩
theorem SH_plan {T D m : Nat} {c3 c4 : sF} : sSh (SH T D c3 c4 m) 36 37 38 := ⟨rfl, rfl, rfl, by decide, by decide⟩
section STA
variable {sh : mS} {u : mU} {v : mV} {S r a B : Nat} {x : Int32}
theorem row_get {k : Nat} (h : sSh sh S r a) (hk : k < 16) : f_X8_get (Rep sh u v) r 0 (nI k) = some (u a k) := by
  rw [tab_get h.2, show (0 : Int32) = nI 0 from rfl, tG_in h.2.2.2.1 h.2.2.2.2 (by decide) hk, Nat.zero_mul, Nat.zero_add]
theorem row_set {k : Nat} {z : Int32} (h : sSh sh S r a) (hk : k < 16) : f_X8_set (Rep sh u v) r 0 (nI k) z = some (Rep sh (wr u a k z) v) := by
  rw [tab_set h.2, show (0 : Int32) = nI 0 from rfl, tS_in h.2.2.2.1 h.2.2.2.2 (by decide) hk, Nat.zero_mul, Nat.zero_add]
theorem row_add {k : Nat} {z : Int32} (h : sSh sh S r a) (hk : k < 16) : f_X8_add (Rep sh u v) r 0 (nI k) z = some (Rep sh (wr u a k (u a k + z)) v) := by
  unfold f_X8_add
  rw [Rep_gC h.2.1, Option.bind_some, row_get h hk, Option.bind_some, row_set h hk, Option.bind_some]
theorem n0 (k : Nat) : (0 : Int32) + nI k = nI k := by rw [show (0 : Int32) = nI 0 from rfl, nI_add, Nat.zero_add]
theorem n4 (k : Nat) : (4 : Int32) + nI k = nI (4 + k) := by rw [show (4 : Int32) = nI 4 from rfl, nI_add]
theorem n9 (k : Nat) : (9 : Int32) + nI k = nI (9 + k) := by rw [show (9 : Int32) = nI 9 from rfl, nI_add]
theorem n12 (k : Nat) : (12 : Int32) + nI k = nI (12 + k) := by rw [show (12 : Int32) = nI 12 from rfl, nI_add]
theorem st_holder {t : Nat} (h : sSh sh S r a) (ht : t < 4) : f_X7_holder (Rep sh u v) S (nI t) = some (u a t) := by
  unfold f_X7_holder
  rw [Rep_gC h.1, Option.bind_some, Rep_gR (j := 0) h.1 rfl, Option.bind_some, n0, row_get h (by omega), Option.bind_some]
theorem st_score {g : Nat} (h : sSh sh S r a) (hg : g < 3) : f_X7_scoreOf (Rep sh u v) S (nI g) = some (u a (9 + g)) := by
  unfold f_X7_scoreOf
  rw [Rep_gC h.1, Option.bind_some, Rep_gR (j := 0) h.1 rfl, Option.bind_some, n9, row_get h (by omega), Option.bind_some]
theorem st_caught {g : Nat} (h : sSh sh S r a) (hg : g < 3) : f_X7_timesCaught (Rep sh u v) S (nI g) = some (u a (12 + g)) := by
  unfold f_X7_timesCaught
  rw [Rep_gC h.1, Option.bind_some, Rep_gR (j := 0) h.1 rfl, Option.bind_some, n12, row_get h (by omega), Option.bind_some]
theorem st_today (h : sSh sh S r a) : f_X7_today (Rep sh u v) S = some (u a 15) := by
  unfold f_X7_today
  rw [Rep_gC h.1, Option.bind_some, Rep_gR (j := 0) h.1 rfl, Option.bind_some, show (15 : Int32) = nI 15 from rfl, row_get h (by omega), Option.bind_some]
theorem st_room {p : Nat} (h : sSh sh S r a) (hc : cSh sh B) (hp : p < 5) : f_X7_roomOf (Rep sh u v) S B (nI p) = some (k_room u B (nI p) - u a (4 + p)) := by
  unfold f_X7_roomOf
  rw [Rep_gC h.1, Option.bind_some, col_room hc, Option.bind_some, Rep_gR (j := 0) h.1 rfl, Option.bind_some, n4, row_get h (by omega), Option.bind_some]
theorem st_sew {p : Nat} (h : sSh sh S r a) (hp : p < 5) : f_X7_sewUp (Rep sh u v) S (nI p) = some (Rep sh (wr u a (4 + p) (u a (4 + p) + 1)) v) := by
  unfold f_X7_sewUp
  rw [Rep_gC h.1, Option.bind_some, Rep_gR (j := 0) h.1 rfl, Option.bind_some, n4, row_add h (by omega), Option.bind_some]
/-- the things that x has, as bits -/
def bitsOf (f : Nat → Int32) (x : Int32) : Int32 := (if f 0 = x then 1 else 0) ||| (if f 1 = x then 2 else 0) ||| (if f 2 = x then 4 else 0) ||| (if f 3 = x then 8 else 0)
theorem st_begin_go (h : sSh sh S r a) : ∀ (d t f : Nat) (u : mU), t + d = 4 → d < f → L_X7_begin_10 f S (nI t) (Rep sh u v) = some (Rep sh (fun q j => if q = a ∧ t ≤ j ∧ j < 4 then -2 else u q j) v) := by
  intro d
  induction d with
  | zero =>
    intro t f u ht hf
    obtain ⟨f, rfl⟩ : ∃ f', f = f' + 1 := ⟨f - 1, by omega⟩
    unfold L_X7_begin_10
    rw [if_pos (show (4 : Int32) ≤ nI t from nI_le (a := 4) (by omega) (by omega))]
    congr 2
    funext q j
    rw [if_neg (by omega)]
  | succ d ih =>
    intro t f u ht hf
    obtain ⟨f, rfl⟩ : ∃ f', f = f' + 1 := ⟨f - 1, by omega⟩
    unfold L_X7_begin_10
    rw [if_neg (show ¬ (4 : Int32) ≤ nI t from nI_ge (b := 4) (by omega) (by omega)), Rep_gR (j := 0) h.1 rfl, Option.bind_some, n0, row_set h (by omega), Option.bind_some, nI_1, ih (t + 1) f _ (by omega) (by omega)]
    congr 2
    funext q j
    by_cases hq : q = a
    · subst hq
      by_cases hj : j = t
      · subst hj
        rw [if_neg (by omega), wr_same, if_pos ⟨rfl, by omega, by omega⟩]
      · by_cases hj2 : t + 1 ≤ j ∧ j < 4
        · rw [if_pos ⟨rfl, hj2⟩, if_pos ⟨rfl, by omega, hj2.2⟩]
        · rw [if_neg (fun z => hj2 z.2), wr_ix hj, if_neg (fun z => hj2 ⟨by omega, z.2.2⟩)]
    · rw [if_neg (fun z => hq z.1), if_neg (fun z => hq z.1), wr_role hq]
/-- the row at the start: nobody has a thing, all else is 0 -/
def row0 (u : mU) (a : Nat) : mU := fun q j => if q = a ∧ j < 16 then (if j < 4 then -2 else 0) else u q j
theorem st_begin (h : sSh sh S r a) : f_X7_begin (Rep sh u v) S = some (Rep sh (row0 u a) v) := by
  unfold f_X7_begin
  rw [Rep_gC h.1, Option.bind_some, Rep_gR (j := 0) h.1 rfl, Option.bind_some, tab_fill h.2, Option.bind_some, show (0 : Int32) = nI 0 from rfl, st_begin_go h 4 0 1000000000 _ (by omega) (by omega)]
  congr 2
  funext q j
  unfold tF row0
  by_cases hq : q = a
  · subst hq
    by_cases h4 : j < 4
    · rw [if_pos ⟨rfl, Nat.zero_le _, h4⟩, if_pos ⟨rfl, by omega⟩, if_pos h4]
    · rw [if_neg (fun z => h4 z.2.2)]
      by_cases h16 : j < 16
      · rw [if_pos ⟨rfl, by omega⟩, if_pos ⟨rfl, h16⟩, if_neg h4]
        rfl
      · rw [if_neg (fun z => h16 (by omega)), if_neg (fun z => h16 z.2)]
  · rw [if_neg (fun z => hq z.1), if_neg (fun z => hq z.1), if_neg (fun z => hq z.1)]
end STA
