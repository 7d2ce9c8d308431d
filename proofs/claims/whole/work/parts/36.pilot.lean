section PIL
variable {T D m : Nat} {c3 c4 : sF} {u : mU} {v : mV}
theorem SH_75 : SH T D c3 c4 m 75 = some (hO 11 [fI, fI, fI, c3, c4, fR 76, fI, fI, fI, fI, fI, fI, fI, fI, fL, fR 77, fR 78, fR 79, fR 80, fI, fI, fR 81, fR 82, fR 83, fI, fR 84, fI, fL, fL, fR 85, fR 86, fI]) := rfl
theorem SH_0 : SH T D c3 c4 m 0 = some (hO 9 [fR 1, fR 27, fR 30, fR 35, fR 41, fR 44, fR 49, fI, fR T]) := rfl
theorem SH_1 : SH T D c3 c4 m 1 = some (hO 5 [fR 2, fI, fR D, fR 24, fR 25, fI, fI, fI, fI, fI, fL, fI, fI, fI, fI]) := rfl
theorem x10_trouble : f_X10_trouble (Rep (SH T D c3 c4 m) u v) 0 = some (u 0 7) := by
  unfold f_X10_trouble
  rw [Rep_gC SH_0, Option.bind_some, Rep_gI (j := 7) SH_0 rfl, Option.bind_some]
theorem x12_trouble : f_X12_trouble (Rep (SH T D c3 c4 m) u v) 75 = some (u 75 1, Rep (SH T D c3 c4 m) (wr u 75 0 0) v) := by
  unfold f_X12_trouble
  rw [Rep_gC SH_75, Option.bind_some, Rep_pI (j := 0) SH_75 rfl, Option.bind_some, Rep_gI (j := 1) SH_75 rfl, Option.bind_some, wr_ix (by decide)]
theorem x10_fine {x : Int32} : f_X10_fine (Rep (SH T D c3 c4 m) u v) 0 x = some (x, Rep (SH T D c3 c4 m) (wr u 0 7 0) v) := by
  unfold f_X10_fine
  rw [Rep_gC SH_0, Option.bind_some, Rep_pI (j := 7) SH_0 rfl, Option.bind_some]
theorem x12_good {x : Int32} : f_X12_good (Rep (SH T D c3 c4 m) u v) 75 x = some (x, Rep (SH T D c3 c4 m) (wr (wr u 75 1 0) 75 2 (-1)) v) := by
  unfold f_X12_good
  rw [Rep_gC SH_75, Option.bind_some, Rep_pI (j := 1) SH_75 rfl, Option.bind_some, Rep_pI (j := 2) SH_75 rfl, Option.bind_some]
end PIL
