/-! ===== what comes of a gift, of the college's numbers and a row alone ===== -/
def s_roomIn (K : cK) (f : Nat → Int32) (p : Nat) : Int32 := if s_room K p - f (4 + p) ≤ 0 then 0 else s_room K p - f (4 + p)
def s_hind (K : cK) (f : Nat → Int32) (g t p d : Nat) : Int32 := if s_tog K g p d = -2 then 2 else if f t = -2 then (if cntOf f (nI p) < s_roomIn K f p then 0 else 4) else 3
def s_tr (K : cK) (g p d : Nat) : Nat := (s_tog K g p d).toNatClampNeg
def s_nr (K : cK) (f : Nat → Int32) (g t p d : Nat) : Int32 := s_near K g t p (s_tr K g p d) (cntOf f (nI p))
def s_out (K : cK) (f : Nat → Int32) (g t p d : Nat) : Int32 := if s_hind K f g t p d = 0 then (if s_nr K f g t p d ≤ K 0 1 then 0 else 1) else s_hind K f g t p d
def s_hon (K : cK) (t : Nat) : Int32 := if K 1 t = 2 then 4 else if K 1 t = 1 then 2 else 1
/-- the row after a gift that came out so -/
def s_stl (K : cK) (f : Nat → Int32) (g t p : Nat) (o : Int32) : Nat → Int32 := if o = 0 then upd (upd f t (nI p)) (9 + g) (f (9 + g) + s_hon K t) else if o = 1 then upd (upd f (9 + g) 0) (12 + g) (f (12 + g) + 1) else f
section SOU
variable {u : mU} {v : mV} {B M a : Nat} {N : Nat → Nat} {g t p d : Nat} {K : cK} {f f' : Nat → Int32} {x : Int32} {T D m : Nat} {c3 c4 : sF}
theorem upd_at (f : Nat → Int32) (i j : Nat) (x : Int32) : upd f i x j = if j = i then x else f j := rfl
theorem bits_congr (e : ∀ j, j < 4 → f j = f' j) : bitsOf f x = bitsOf f' x := by
  unfold bitsOf
  rw [e 0 (by decide), e 1 (by decide), e 2 (by decide), e 3 (by decide)]
theorem s_hind_congr (e : ∀ j, j < 16 → f j = f' j) (ht : t < 4) (hp : p < 5) : s_hind K f g t p d = s_hind K f' g t p d := by
  unfold s_hind s_roomIn
  rw [cnt_congr (h := f') (fun j hj => e j (by omega)), e t (by omega), e (4 + p) (by omega)]
theorem s_nr_congr (e : ∀ j, j < 16 → f j = f' j) : s_nr K f g t p d = s_nr K f' g t p d := by
  unfold s_nr
  rw [cnt_congr (h := f') (fun j hj => e j (by omega))]
theorem s_out_congr (e : ∀ j, j < 16 → f j = f' j) (ht : t < 4) (hp : p < 5) : s_out K f g t p d = s_out K f' g t p d := by
  unfold s_out
  rw [s_hind_congr e ht hp, s_nr_congr e]
theorem s_stl_congr {o : Int32} (e : ∀ j, j < 16 → f j = f' j) (hg : g < 3) : ∀ j, j < 16 → s_stl K f g t p o j = s_stl K f' g t p o j := by
  intro j hj
  unfold s_stl
  rw [e (9 + g) (by omega), e (12 + g) (by omega)]
  split
  · simp only [upd_at, e j hj]
  · split
    · simp only [upd_at, e j hj]
    · exact e j hj
/-- a row's holders are persons -/
def rowH (N : Nat → Nat) (f : Nat → Int32) : Prop := ∀ t, t < 4 → f t = -2 ∨ ∃ p, p < N 3 ∧ f t = nI p
theorem rowH_stl {o : Int32} (h : rowH N f) (hp : p < N 3) (hg : g < 3) (ht : t < 4) : rowH N (s_stl K f g t p o) := by
  intro j hj
  unfold s_stl
  split
  · rw [upd_at, if_neg (by omega), upd_at]
    split
    · exact Or.inr ⟨p, hp, rfl⟩
    · exact h j hj
  · split
    · rw [upd_at, if_neg (by omega), upd_at, if_neg (by omega)]
      exact h j hj
    · exact h j hj
theorem hind_s (h : relC u B M N) (ho : rowH N (u a)) (hg : g < N 5) (ht : t < N 2) (hp : p < N 3) (hd : d < 7) : k_hind u B a (nI d) (nI g) t p = s_hind (col u M) (u a) g t p d :=
  hind_eq (b := a) h.1 h.2.2.1 h.2.2.2.2.2.1 h.2.2.2.2.2.2.1 (fun _ _ => rfl) ho hg ht hp hd
theorem nI_back {k : Nat} (h : k < 2 ^ 31) : (nI k).toNatClampNeg = k := nI_clamp h
theorem nearOn_s (h : relC u B M N) (hg : g < N 5) (ht : t < N 2) (hp : p < N 3) (hd : d < 7) (hs : ¬ s_tog (col u M) g p d = -2) : k_nearOn u B a (nI d) (nI g) t p = s_nr (col u M) (u a) g t p d ∧ k_shared u B (nI g) (nI p) (nI d) = nI (s_tr (col u M) g p d) ∧ s_tr (col u M) g p d < N 4 := by
  have hR : N 4 ≤ 4 := (h.1 4 (by decide)).2.2
  obtain ⟨e1, o1⟩ := shared_eq h.1 h.2.2.2.2.2.1 h.2.2.2.2.2.2.1 hg hp hd
  rcases o1 with z | ⟨tr, htr, z⟩
  · exact absurd z hs
  · have hz : s_tog (col u M) g p d = nI tr := z
    have e3 : s_tr (col u M) g p d = tr := by
      unfold s_tr
      rw [hz, nI_clamp (by omega)]
    rw [e3]
    refine ⟨?_, by rw [e1, z], htr⟩
    unfold k_nearOn s_nr
    rw [e1, z, near_eq h.1 h.2.1 h.2.2.1 h.2.2.2.1 h.2.2.2.2.1 hg ht hp htr, e3, m_near_s]
theorem out_s (h : relC u B M N) (ho : rowH N (u a)) (hg : g < N 5) (ht : t < N 2) (hp : p < N 3) (hd : d < 7) : k_out u B a (nI d) (nI g) t p = s_out (col u M) (u a) g t p d := by
  unfold k_out s_out
  rw [hind_s h ho hg ht hp hd]
  by_cases c : s_hind (col u M) (u a) g t p d = 0
  · rw [if_pos c, if_pos c]
    have hs : ¬ s_tog (col u M) g p d = -2 := by
      intro z
      unfold s_hind at c
      rw [if_pos z] at c
      exact absurd c (by decide)
    rw [(nearOn_s h hg ht hp hd hs).1, noticed_eq h.1]
    have : col u M 0 1 = nI (N 1) := (h.1 1 (by decide)).2.1
    rw [this]
    by_cases c2 : s_nr (col u M) (u a) g t p d ≤ nI (N 1)
    · rw [if_pos c2, if_pos rfl]
    · rw [if_neg c2, if_neg (by decide)]
  · rw [if_neg c, if_neg c]
theorem cls_out {S r : Nat} {sh : mS} (hS : sSh sh S r a) (hc : cSh sh B) (h : relC u B M N) (ho : rowH N (u a)) (hg : g < N 5) (ht : t < N 2) (hp : p < N 3) (hd : d < 7) : f_X7_outcome (Rep sh u v) S B (nI d) (nI g) (nI t) (nI p) = some (s_out (col u M) (u a) g t p d) := by
  have hT : N 2 ≤ 4 := (h.1 2 (by decide)).2.2
  have hP : N 3 ≤ 5 := (h.1 3 (by decide)).2.2
  rw [st_out hS hc (by omega) (by omega), out_s h ho hg ht hp hd]
theorem ref_out {b : Nat} (hM : mSh (SH T D (fR M) c4 m) M) (hb : SH T D (fR M) c4 m b = some (hA 1 16)) (h : relC u B M N) (ho : rowH N (u b)) (hg : g < N 5) (ht : t < N 2) (hp : p < N 3) (hd : d < 7) : f_X12_comes (Rep (SH T D (fR M) c4 m) u v) 75 b (nI g) (nI t) (nI p) (nI d) = some (s_out (col u M) (u b) g t p d) := by
  rw [mod_comes (a := b) hM hb h.1 h.2.1 h.2.2.1 h.2.2.2.1 h.2.2.2.2.1 h.2.2.2.2.2.1 h.2.2.2.2.2.2.1 (fun _ _ => rfl) ho hg ht hp hd, out_s h ho hg ht hp hd]
theorem hon_s (h : relC u B M N) (ht : t < N 2) : k_honour u B (nI t) = s_hon (col u M) t := by
  unfold k_honour s_hon
  rw [(k_thing_eq h.1 h.2.1 ht).1]
  rfl
/-- a settled row is the row written -/
theorem stl_s {o : Int32} : stl u a g t (nI p) o (s_hon K t) = fun q j => if q = a then s_stl K (u a) g t p o j else u q j := by
  funext q j
  unfold stl s_stl
  by_cases hq : q = a
  · subst hq
    rw [if_pos rfl]
    split
    · simp only [wr, upd_at, true_and]
    · split
      · simp only [wr, upd_at, true_and]
      · rfl
  · rw [if_neg hq]
    split
    · rw [wr_role hq, wr_role hq]
    · split
      · rw [wr_role hq, wr_role hq]
      · rfl
end SOU
/-- one role's contents, put -/
def put (u : mU) (a : Nat) (f : Nat → Int32) : mU := fun q j => if q = a then f j else u q j
theorem put_at (u : mU) (a : Nat) (f : Nat → Int32) : put u a f a = f := funext fun _ => if_pos rfl
theorem put_ne {u : mU} {a q : Nat} {f : Nat → Int32} (h : q ≠ a) : put u a f q = u q := funext fun _ => if_neg h
theorem put_put (u : mU) (a : Nat) (f f' : Nat → Int32) : put (put u a f) a f' = put u a f' := by
  funext q j
  unfold put
  split <;> rfl
theorem put_self (u : mU) (a : Nat) : put u a (u a) = u := by
  funext q j
  unfold put
  split
  · subst_vars; rfl
  · rfl
theorem wr_put (u : mU) (a i : Nat) (x : Int32) : wr u a i x = put u a (upd (u a) i x) := by
  funext q j
  unfold wr put
  by_cases h : q = a
  · subst h
    rw [if_pos rfl, upd_at]
    by_cases h2 : j = i
    · rw [if_pos ⟨rfl, h2⟩, if_pos h2]
    · rw [if_neg (fun z => h2 z.2), if_neg h2]
  · rw [if_neg (fun z => h z.1), if_neg h]
