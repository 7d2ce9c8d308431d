def m_roomIn (u : mU) (M b p : Nat) : Int32 := if m_room u M p - u b (4 + p) ≤ 0 then 0 else m_room u M p - u b (4 + p)
def m_hind (u : mU) (M b g t p d : Nat) : Int32 := if m_tog u M g p d = -2 then 2 else if u b t = -2 then (if cntOf (u b) (nI p) < m_roomIn u M b p then 0 else 4) else 3
section MOUT
variable {T D m : Nat} {c4 : sF} {u : mU} {v : mV} {M k b g t p d : Nat}
theorem SH_75c : SH T D (fR M) c4 m 75 = some (hO 11 [fI, fI, fI, fR M, c4, fR 76, fI, fI, fI, fI, fI, fI, fI, fI, fL, fR 77, fR 78, fR 79, fR 80, fI, fI, fR 81, fR 82, fR 83, fI, fR 84, fI, fL, fL, fR 85, fR 86, fI]) := rfl
theorem mod_roomIn (h : mSh (SH T D (fR M) c4 m) M) (hb : SH T D (fR M) c4 m b = some (hA 1 16)) (hp : p < 5) : f_X12_roomIn (Rep (SH T D (fR M) c4 m) u v) 75 b (nI p) = some (m_roomIn u M b p) := by
  unfold f_X12_roomIn m_roomIn
  rw [Rep_gC SH_75c, Option.bind_some, Rep_gR (j := 3) SH_75c rfl, Option.bind_some, mod_room h hp, Option.bind_some, n4, Rep_aI hb (nI_in (show 4 + p < 16 by omega) (by decide)), nI_clamp (by omega), Option.bind_some]
  split <;> rfl
theorem mod_hind (h : mSh (SH T D (fR M) c4 m) M) (hb : SH T D (fR M) c4 m b = some (hA 1 16)) (hg : g < 3) (ht : t < 4) (hp : p < 5) (hd : d < 7) : f_X12_hinders (Rep (SH T D (fR M) c4 m) u v) 75 b (nI g) (nI t) (nI p) (nI d) = some (m_hind u M b g t p d) := by
  unfold f_X12_hinders m_hind
  rw [Rep_gC SH_75c, Option.bind_some, Rep_gR (j := 3) SH_75c rfl, Option.bind_some, mod_tog h hg hp hd, Option.bind_some, n0, Rep_aI hb (nI_in (show t < 16 by omega) (by decide)), nI_clamp (by omega), Option.bind_some, mod_many hb, Option.bind_some, mod_roomIn h hb hp, Option.bind_some]
  by_cases c1 : m_tog u M g p d = -2
  · rw [if_pos c1, if_pos c1]
  · rw [if_neg c1, if_neg c1]
    by_cases c2 : u b t = -2
    · rw [if_pos c2, if_pos c2]
      by_cases c3 : cntOf (u b) (nI p) < m_roomIn u M b p
      · rw [if_pos c3, if_pos c3]
      · rw [if_neg c3, if_neg c3]
    · rw [if_neg c2, if_neg c2]
theorem mod_nearIn {tr : Nat} (h : mSh (SH T D (fR M) c4 m) M) (hb : SH T D (fR M) c4 m b = some (hA 1 16)) (hg : g < 3) (ht : t < 4) (hp : p < 5) (htr : tr < 4) : f_X12_nearIn (Rep (SH T D (fR M) c4 m) u v) 75 b (nI g) (nI t) (nI p) (nI tr) = some (m_near u M g t p tr (cntOf (u b) (nI p))) := by
  unfold f_X12_nearIn
  rw [Rep_gC SH_75c, Option.bind_some, Rep_gR (j := 3) SH_75c rfl, Option.bind_some, mod_many hb, Option.bind_some, mod_near h hg ht hp htr, Option.bind_some]
end MOUT
