/-- the row after a gift that came out so -/
def stl (u : mU) (a g t : Nat) (p o hn : Int32) : mU := if o = 0 then wr (wr u a t p) a (9 + g) (u a (9 + g) + hn) else if o = 1 then wr (wr u a (9 + g) 0) a (12 + g) (u a (12 + g) + 1) else u
def m_honour (u : mU) (M t : Nat) : Int32 := if u (M + 1) t = 2 then 4 else if u (M + 1) t = 1 then 2 else 1
section SET
variable {sh : mS} {u : mU} {v : mV} {S r a B g t M b T D m : Nat} {p o : Int32} {c4 : sF}
theorem tG_off {x y z : Int32} {q R C i : Nat} (h : q ≠ a) : tG (wr u a i z) q R C x y = tG u q R C x y := by
  unfold tG
  rw [wr_role h]
theorem honour_off {x z : Int32} {i : Nat} (h : B + 2 ≠ a) : k_honour (wr u a i z) B x = k_honour u B x := by
  unfold k_honour
  rw [show k_thing (wr u a i z) B x 0 = k_thing u B x 0 from tG_off h]
theorem st_settle (h : sSh sh S r a) (hc : cSh sh B) (ha : B + 2 ≠ a) (hg : g < 3) (ht : t < 4) : f_X7_settle (Rep sh u v) S B (nI g) (nI t) p o = some (Rep sh (stl u a g t p o (k_honour u B (nI t))) v) := by
  unfold f_X7_settle stl
  rw [Rep_gC h.1, Option.bind_some]
  by_cases c0 : o = 0
  · rw [if_pos c0, if_pos c0, Rep_gR (j := 0) h.1 rfl, Option.bind_some, n0, row_set h (by omega), Option.bind_some, Rep_gR (j := 0) h.1 rfl, Option.bind_some, col_honour hc, Option.bind_some, n9, row_add h (by omega), Option.bind_some, honour_off ha, wr_ix (by omega)]
  · rw [if_neg c0, if_neg c0]
    by_cases c1 : o = 1
    · rw [if_pos c1, if_pos c1, Rep_gR (j := 0) h.1 rfl, Option.bind_some, n9, row_set h (by omega), Option.bind_some, Rep_gR (j := 0) h.1 rfl, Option.bind_some, n12, row_add h (by omega), Option.bind_some, wr_ix (by omega)]
    · rw [if_neg c1, if_neg c1]
theorem mod_does (hM : mSh (SH T D (fR M) c4 m) M) (hb : SH T D (fR M) c4 m b = some (hA 1 16)) (hne : M + 1 ≠ b) (hg : g < 3) (ht : t < 4) : f_X12_does (Rep (SH T D (fR M) c4 m) u v) 75 b o (nI g) (nI t) p = some (Rep (SH T D (fR M) c4 m) (stl u b g t p o (m_honour u M t)) v) := by
  have h0 : SH T D (fR M) c4 m M = _ := hM 0 (by omega)
  have h1 : SH T D (fR M) c4 m (M + 1) = some (hA 1 4) := hM 1 (by omega)
  unfold f_X12_does stl
  rw [Rep_gC SH_75c, Option.bind_some]
  by_cases c1 : o = 1
  · rw [if_pos c1, if_neg (by rw [c1]; decide), if_pos c1, n9, Rep_sI hb (nI_in (show 9 + g < 16 by omega) (by decide)), nI_clamp (by omega), Option.bind_some, n12, Rep_aI hb (nI_in (show 12 + g < 16 by omega) (by decide)), nI_clamp (by omega), Option.bind_some, Rep_sI hb (nI_in (show 12 + g < 16 by omega) (by decide)), nI_clamp (by omega), Option.bind_some, wr_ix (by omega)]
  · rw [if_neg c1]
    by_cases c0 : o = 0
    · rw [if_pos c0, if_pos c0, n0, Rep_sI hb (nI_in (show t < 16 by omega) (by decide)), nI_clamp (by omega), Option.bind_some, n9, Rep_aI hb (nI_in (show 9 + g < 16 by omega) (by decide)), nI_clamp (by omega), Option.bind_some, Rep_gR (j := 3) SH_75c rfl, Option.bind_some, Rep_gR (j := 11) h0 rfl, Option.bind_some, Rep_aI h1 (nI_in ht (by decide)), nI_clamp (by omega), Option.bind_some, Option.bind_some, wr_role hne, wr_ix (q := b) (j := 9 + g) (by omega)]
      unfold m_honour
      by_cases e2 : u (M + 1) t = 2
      · rw [if_pos e2, if_pos e2, Rep_sI hb (nI_in (show 9 + g < 16 by omega) (by decide)), nI_clamp (by omega), Option.bind_some]
      · rw [if_neg e2, if_neg e2, Rep_gR (j := 11) h0 rfl, Option.bind_some, Rep_aI h1 (nI_in ht (by decide)), nI_clamp (by omega), Option.bind_some, wr_role hne]
        by_cases e1 : u (M + 1) t = 1
        · rw [if_pos e1, if_pos e1, Rep_sI hb (nI_in (show 9 + g < 16 by omega) (by decide)), nI_clamp (by omega), Option.bind_some]
        · rw [if_neg e1, if_neg e1, Rep_sI hb (nI_in (show 9 + g < 16 by omega) (by decide)), nI_clamp (by omega), Option.bind_some]
    · rw [if_neg c0, if_neg c0, if_neg c1]
end SET
