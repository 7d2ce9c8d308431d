section STB
variable {sh : mS} {u : mU} {v : mV} {S r a B : Nat} {x : Int32}
theorem st_things_step {t f : Nat} {acc : Int32} (h : sSh sh S r a) (ht : t < 4) : L_X7_thingsOf_4 (Rep sh u v) (f + 1) S x acc (nI t) = L_X7_thingsOf_4 (Rep sh u v) f S x (if u a t = x then acc ||| (1 <<< (nI t &&& 31)) else acc) (nI (t + 1)) := by
  show (if (4 : Int32) ≤ nI t then _ else _) = _
  rw [if_neg (show ¬ (4 : Int32) ≤ nI t from nI_ge (b := 4) ht (by decide)), Rep_gR (j := 0) h.1 rfl, Option.bind_some, n0, row_get h (by omega), Option.bind_some, nI_1]
  by_cases c : u a t = x
  · rw [if_pos c, if_pos c]
  · rw [if_neg c, if_neg c]
theorem st_things (h : sSh sh S r a) : f_X7_thingsOf (Rep sh u v) S x = some (bitsOf (u a) x) := by
  unfold f_X7_thingsOf
  rw [Rep_gC h.1, Option.bind_some]
  show L_X7_thingsOf_4 (Rep sh u v) (999999995 + 1 + 1 + 1 + 1 + 1) S x 0 (nI 0) = _
  rw [st_things_step h (by decide), st_things_step h (by decide), st_things_step h (by decide), st_things_step h (by decide)]
  show (if (4 : Int32) ≤ nI 4 then some _ else _) = _
  rw [if_pos (by decide)]
  unfold bitsOf
  congr 1
  by_cases c0 : u a 0 = x <;> by_cases c1 : u a (0 + 1) = x <;> by_cases c2 : u a (0 + 1 + 1) = x <;> by_cases c3 : u a (0 + 1 + 1 + 1) = x <;> simp only [c0, c1, c2, c3, if_true, if_false] <;> decide
end STB
