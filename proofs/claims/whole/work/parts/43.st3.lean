/-- how many things x has -/
def cntOf (f : Nat → Int32) (x : Int32) : Int32 := (if f 0 = x then 1 else 0) + (if f 1 = x then 1 else 0) + (if f 2 = x then 1 else 0) + (if f 3 = x then 1 else 0)
section STC
variable {sh : mS} {u : mU} {v : mV} {S r a n : Nat} {x : Int32}
theorem bit_cnt {g : qS} (f : Nat → Int32) : f_J6_bitCount_0f7a4 g (bitsOf f x) = some (cntOf f x) := by
  unfold bitsOf cntOf f_J6_bitCount_0f7a4
  congr 1
  by_cases c0 : f 0 = x <;> by_cases c1 : f 1 = x <;> by_cases c2 : f 2 = x <;> by_cases c3 : f 3 = x <;> simp only [c0, c1, c2, c3, if_true, if_false] <;> decide
theorem st_many (h : sSh sh S r a) : f_X7_howManyOf (Rep sh u v) S x = some (cntOf (u a) x) := by
  unfold f_X7_howManyOf
  rw [Rep_gC h.1, Option.bind_some, st_things h, Option.bind_some, bit_cnt, Option.bind_some]
theorem mod_many_step {t f : Nat} {acc : Int32} (h : sh a = some (hA 1 16)) (ht : t < 4) : L_X12_many_4 (Rep sh u v) (f + 1) a x acc (nI t) = L_X12_many_4 (Rep sh u v) f a x (acc + (if u a t = x then 1 else 0)) (nI (t + 1)) := by
  show (if (4 : Int32) ≤ nI t then _ else _) = _
  rw [if_neg (show ¬ (4 : Int32) ≤ nI t from nI_ge (b := 4) ht (by decide)), n0, Rep_aI h (nI_in (by omega) (by decide)), nI_clamp (by omega), Option.bind_some, nI_1]
  by_cases c : u a t = x
  · rw [if_pos c, if_pos c]
  · rw [if_neg c, if_neg c]
theorem mod_many (h : sh a = some (hA 1 16)) : f_X12_many (Rep sh u v) a x = some (cntOf (u a) x) := by
  unfold f_X12_many
  show L_X12_many_4 (Rep sh u v) (999999995 + 1 + 1 + 1 + 1 + 1) a x 0 (nI 0) = _
  rw [mod_many_step h (by decide), mod_many_step h (by decide), mod_many_step h (by decide), mod_many_step h (by decide)]
  show (if (4 : Int32) ≤ nI 4 then some _ else _) = _
  rw [if_pos (by decide), Int32.zero_add]
  rfl
theorem mod_set_step {t f : Nat} {acc : Int32} (h : sh a = some (hA 1 16)) (ht : t < 4) : L_X12_setOf_5 (Rep sh u v) (f + 1) a x acc (nI t) = L_X12_setOf_5 (Rep sh u v) f a x (acc ||| (if u a t = x then (1 <<< (nI t &&& 31)) else 0)) (nI (t + 1)) := by
  show (if (4 : Int32) ≤ nI t then _ else _) = _
  rw [if_neg (show ¬ (4 : Int32) ≤ nI t from nI_ge (b := 4) ht (by decide)), n0, Rep_aI h (nI_in (by omega) (by decide)), nI_clamp (by omega), Option.bind_some, nI_1]
  by_cases c : u a t = x
  · rw [if_pos c, if_pos c]
  · rw [if_neg c, if_neg c]
theorem mod_set {c3 c4 : sF} {T D m : Nat} (h : SH T D c3 c4 m a = some (hA 1 16)) : f_X12_setOf (Rep (SH T D c3 c4 m) u v) 75 a x = some (bitsOf (u a) x) := by
  unfold f_X12_setOf
  rw [Rep_gC SH_75, Option.bind_some]
  show L_X12_setOf_5 (Rep (SH T D c3 c4 m) u v) (999999995 + 1 + 1 + 1 + 1 + 1) a x 0 (nI 0) = _
  rw [mod_set_step h (by decide), mod_set_step h (by decide), mod_set_step h (by decide), mod_set_step h (by decide)]
  show (if (4 : Int32) ≤ nI 4 then some _ else _) = _
  rw [if_pos (by decide)]
  unfold bitsOf
  congr 1
  by_cases c0 : u a 0 = x <;> by_cases c1 : u a (0 + 1) = x <;> by_cases c2 : u a (0 + 1 + 1) = x <;> by_cases c3 : u a (0 + 1 + 1 + 1) = x <;> simp only [c0, c1, c2, c3, if_true, if_false] <;> decide
end STC
