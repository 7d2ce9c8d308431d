section CMS
variable {T D m : Nat} {c4 : sF} {u : mU} {v : mV} {B M a b : Nat} {N : Nat → Nat} {g t p d : Nat}
theorem noticed_eq (h : relCnt u B M N) {x : Int32} : k_noticed u B x = if x ≤ nI (N 1) then 0 else 1 := by
  unfold k_noticed
  rw [show (1 : Int32) = nI 1 from rfl, k_n_eq h (by decide)]
/-- what comes of a gift: the model's answer is the class's -/
theorem mod_comes (hM : mSh (SH T D (fR M) c4 m) M) (hb : SH T D (fR M) c4 m b = some (hA 1 16)) (h : relCnt u B M N) (h1 : relThing u B M N) (h2 : relPers u B M N) (h3 : relTram u B M N) (h4 : relGivr u B M N) (h5 : relRide u B M N) (h6 : relTake u B M N) (hr : rowEq u a b) (ho : rowOk u a N) (hg : g < N 5) (ht : t < N 2) (hp : p < N 3) (hd : d < 7) : f_X12_comes (Rep (SH T D (fR M) c4 m) u v) 75 b (nI g) (nI t) (nI p) (nI d) = some (k_out u B a (nI d) (nI g) t p) := by
  have hT : N 2 ≤ 4 := (h 2 (by decide)).2.2
  have hP : N 3 ≤ 5 := (h 3 (by decide)).2.2
  have hR : N 4 ≤ 4 := (h 4 (by decide)).2.2
  have hG : N 5 ≤ 3 := (h 5 (by decide)).2.2
  have h0 : SH T D (fR M) c4 m M = _ := hM 0 (by omega)
  obtain ⟨e1, o1⟩ := shared_eq h h5 h6 hg hp hd
  unfold f_X12_comes k_out
  rw [Rep_gC SH_75c, Option.bind_some, mod_hind hM hb (by omega) (by omega) (by omega) hd, Option.bind_some, hind_eq h h2 h5 h6 hr ho hg ht hp hd, Rep_gR (j := 3) SH_75c rfl, Option.bind_some, mod_tog hM (by omega) (by omega) hd, Option.bind_some]
  by_cases c1 : m_hind u M b g t p d = 0
  · rw [if_pos c1, if_pos c1]
    rcases o1 with z | ⟨tr, htr, z⟩
    · unfold m_hind at c1
      rw [if_pos z] at c1
      exact absurd c1 (by decide)
    · have hk : k_nearOn u B a (nI d) (nI g) t p = m_near u M g t p tr (cntOf (u b) (nI p)) := by
        unfold k_nearOn
        rw [e1, z, near_eq h h1 h2 h3 h4 hg ht hp htr, cnt_congr (h := u b) (fun j hj => hr j (by omega))]
      rw [z, mod_nearIn hM hb (by omega) (by omega) (by omega) (by omega), Option.bind_some, Option.bind_some, Rep_gI (j := 1) h0 rfl, Option.bind_some, (h 1 (by decide)).2.1, hk, noticed_eq h]
      by_cases c2 : m_near u M g t p tr (cntOf (u b) (nI p)) ≤ nI (N 1)
      · rw [if_pos c2, if_pos c2, if_pos rfl]
      · rw [if_neg c2, if_neg c2, if_neg (by decide)]
  · rw [if_neg c1, if_neg c1]
end CMS
