/-! ===== the invariant of the two objects ===== -/
abbrev cK : Type := Nat → Nat → Int32
def col (u : mU) (M : Nat) : cK := fun i j => u (M + i) j
def s_room (K : cK) (p : Nat) : Int32 := if K 5 p = 2 then K 6 p / 2 else K 6 p
def s_tog (K : cK) (g p d : Nat) : Int32 := if K 8 (7 * p + d) = -2 then -2 else if K 12 (7 * g + d) = K 8 (7 * p + d) then K 8 (7 * p + d) else -2
def s_near (K : cK) (g t p tr : Nat) (had : Int32) : Int32 := m_clip (K 5 p) (m_pos (k_bish (K 5 p) (((((K 7 p + K 2 t) + (if K 1 t = 1 then 3 else if K 1 t = 2 then 10 else 0)) + (5 * had)) - K 9 tr) - K 11 g)))
theorem m_room_s (u : mU) (M p : Nat) : m_room u M p = s_room (col u M) p := rfl
theorem m_tog_s (u : mU) (M g p d : Nat) : m_tog u M g p d = s_tog (col u M) g p d := rfl
theorem m_near_s (u : mU) (M g t p tr : Nat) (had : Int32) : m_near u M g t p tr had = s_near (col u M) g t p tr had := rfl
def relGift (u : mU) (B M : Nat) (N : Nat → Nat) : Prop := ∀ k, k < N 7 → (∃ g, g < N 5 ∧ u (M + 13) k = nI g) ∧ (∃ t, t < N 2 ∧ u (M + 14) k = nI t) ∧ (∃ p, p < N 3 ∧ u (M + 15) k = nI p) ∧ (∃ d, d < N 0 ∧ u (M + 16) k = nI d) ∧ u (B + 10) (k * 4 + 0) = u (M + 13) k ∧ u (B + 10) (k * 4 + 1) = u (M + 14) k ∧ u (B + 10) (k * 4 + 2) = u (M + 15) k ∧ u (B + 10) (k * 4 + 3) = u (M + 16) k
def relFnd (u : mU) (B M : Nat) (N : Nat → Nat) : Prop := (∀ k, k < N 8 → ∃ t p, t < N 2 ∧ p < N 3 ∧ u (M + 4) k = nI t ∧ u (M + 3) t = nI p ∧ u (B + 12) (k * 2 + 0) = nI t ∧ u (B + 12) (k * 2 + 1) = nI p) ∧ (∀ t, t < 4 → u (M + 3) t = -2 ∨ ∃ k, k < N 8 ∧ u (M + 4) k = nI t) ∧ (∀ k k', k < k' → k' < N 8 → u (M + 4) k ≠ u (M + 4) k')
def relExam (u : mU) (B M : Nat) (N : Nat → Nat) : Prop := ∀ k, k < N 9 → (∃ g, g < N 5 ∧ u (M + 17) k = nI g) ∧ (∃ t, t < N 2 ∧ u (M + 18) k = nI t) ∧ (∃ p, p < N 3 ∧ u (M + 19) k = nI p) ∧ (∃ r, r < N 4 ∧ u (M + 20) k = nI r) ∧ u (B + 14) (k * 5 + 0) = u (M + 17) k ∧ u (B + 14) (k * 5 + 1) = u (M + 18) k ∧ u (B + 14) (k * 5 + 2) = u (M + 19) k ∧ u (B + 14) (k * 5 + 3) = u (M + 20) k ∧ ((u (B + 14) (k * 5 + 4) = 0 ∧ u (M + 21) k = 1) ∨ (u (B + 14) (k * 5 + 4) = 1 ∧ u (M + 21) k = 0))
def bndC (K : cK) (N : Nat → Nat) : Prop := (∀ t, t < N 2 → ∃ s w, s ≤ 2 ∧ w ≤ 50 ∧ K 1 t = nI s ∧ K 2 t = nI w) ∧ (∀ p, p < N 3 → ∃ k r w, k ≤ 3 ∧ r ≤ 9 ∧ w ≤ 99 ∧ K 5 p = nI k ∧ K 6 p = nI r ∧ K 7 p = nI w) ∧ (∀ t, t < N 4 → ∃ c w, c ≤ 60 ∧ 1 ≤ w ∧ w ≤ 60 ∧ K 9 t = nI c ∧ K 10 t = nI w) ∧ (∀ g, g < N 5 → ∃ s, s ≤ 60 ∧ K 11 g = nI s)
def relC (u : mU) (B M : Nat) (N : Nat → Nat) : Prop := relCnt u B M N ∧ relThing u B M N ∧ relPers u B M N ∧ relTram u B M N ∧ relGivr u B M N ∧ relRide u B M N ∧ relTake u B M N ∧ relGift u B M N ∧ relFnd u B M N ∧ relExam u B M N ∧ bndC (col u M) N
def fullN (N : Nat → Nat) : Prop := 2 ≤ N 0 ∧ 1 ≤ N 2 ∧ 1 ≤ N 3 ∧ 1 ≤ N 5
def rowG (K : cK) (N : Nat → Nat) (f : Nat → Int32) : Prop := (∀ t, t < 4 → f t = -2 ∨ ∃ p, p < N 3 ∧ f t = nI p) ∧ (∀ p, p < N 3 → ∃ s r, s ≤ r ∧ r ≤ 9 ∧ f (4 + p) = nI s ∧ s_room K p = nI r) ∧ ∃ d, d < N 0 ∧ f 15 = nI d
def relHist (u : mU) (K : cK) (N : Nat → Nat) : Prop := ∃ a k q, a < 16 ∧ k ≤ 16 ∧ q ≤ 3 ∧ u 30 2 = nI a ∧ u 30 3 = nI k ∧ u 75 19 = nI k ∧ u 30 4 = nI q ∧ u 75 20 = nI q ∧ (∀ i, i < k → (∀ j, j < 16 → u 32 ((a + 16 - k + i) % 16 * 16 + j) = u 79 (16 * i + j)) ∧ rowG K N (fun j => u 79 (16 * i + j))) ∧ (∀ i, i < q → (∀ j, j < 16 → u 34 (i * 16 + j) = u 80 (16 * i + j)) ∧ rowG K N (fun j => u 80 (16 * i + j)))
def TR (u : mU) : Prop := u 75 1 = u 0 7 ∧ u 75 2 = (if u 0 7 = 4 then u 1 14 else -1)
/-- a byte's number -/
def byt (x : Int32) : Prop := ∃ z : Int8, x = z.toInt32
def IB (u : mU) : Prop := u 1 13 = u 75 12 ∧ ∃ L, L ≤ 1000 ∧ u 1 1 = nI L ∧ u 75 6 = nI L ∧ ∀ i, i < L → u 2 i = u 76 i ∧ byt (u 2 i)
def IN (T : Nat) (u : mU) : Prop := (∀ c, c < 10 → u (T + 20) c = 0) ∧ u 29 15 = 0 ∧ u 30 3 = 0 ∧ u 30 4 = 0 ∧ ∃ a, a < 16 ∧ u 30 2 = nI a
def IA (T M : Nat) (N : Nat → Nat) (u : mU) : Prop := relC u T M N ∧ fullN N ∧ rowEq u 29 77 ∧ rowG (col u M) N (u 29) ∧ relHist u (col u M) N
abbrev cP : Type := cK → (Nat → Nat) → Int32 → (Nat → Int32) → Prop
def IW (P Q : cP) (M : Nat) (N : Nat → Nat) (u : mU) : Prop := (u 41 1 = 0 ∨ (u 41 1 = 1 ∧ P (col u M) N (u 41 2) (u 43))) ∧ (u 44 2 = 0 ∨ (u 44 2 = 1 ∧ Q (col u M) N (u 44 3) (u 48)))
def IK (P Q : cP) (T : Nat) (c3 : sF) (m : Nat) (u : mU) : Prop := IB u ∧ ((c3 = fN ∧ IN T u) ∨ ∃ k N, k < m ∧ c3 = fR (88 + k * 25) ∧ IA T (88 + k * 25) N u ∧ IW P Q (88 + k * 25) N u)
def Inv (P Q : cP) (g : qS) (n : Nat) : Prop := ∃ T D c3 c4 m u v, g = Rep (SH T D c3 c4 m) u v ∧ n = 88 + 25 * m ∧ okTD T D ∧ okC m c3 ∧ okC m c4 ∧ TR u ∧ IK P Q T c3 m u
/-- places that no promise speaks of between calls -/
def scr (q j : Nat) : Bool := match q with
  | 0 => j == 7
  | 35 => true
  | 38 => true
  | 40 => true
  | 46 => true
  | 49 => true
  | 51 => true
  | 53 => true
  | 75 => (j == 0 || j == 1 || j == 2 || j == 24 || j == 26 || j == 31)
  | 78 => true
  | 81 => true
  | 82 => true
  | 83 => true
  | 84 => true
  | 85 => true
  | 86 => true
  | _ => false
def scrB (q j : Nat) : Bool := scr q j || q == 41 || q == 43 || q == 44 || q == 48
def keep (u u' : mU) : Prop := ∀ q j, scr q j = false → u' q j = u q j
def keepB (u u' : mU) : Prop := ∀ q j, scrB q j = false → u' q j = u q j
theorem keep_refl {u : mU} : keep u u := fun _ _ _ => rfl
theorem keep_trans {u u' u'' : mU} (h : keep u u') (h' : keep u' u'') : keep u u'' := fun q j hs => (h' q j hs).trans (h q j hs)
theorem keep_wr {u u' : mU} {r i : Nat} {x : Int32} (h : keep u u') (hs : scr r i = true) : keep u (wr u' r i x) := by
  intro q j hq
  unfold wr
  rw [if_neg]
  · exact h q j hq
  · rintro ⟨rfl, rfl⟩
    rw [hs] at hq
    cases hq
theorem keepB_refl {u : mU} : keepB u u := fun _ _ _ => rfl
theorem keepB_trans {u u' u'' : mU} (h : keepB u u') (h' : keepB u' u'') : keepB u u'' := fun q j hs => (h' q j hs).trans (h q j hs)
theorem keepB_wr {u u' : mU} {r i : Nat} {x : Int32} (h : keepB u u') (hs : scrB r i = true) : keepB u (wr u' r i x) := by
  intro q j hq
  unfold wr
  rw [if_neg]
  · exact h q j hq
  · rintro ⟨rfl, rfl⟩
    rw [hs] at hq
    cases hq
theorem keep_B {u u' : mU} (h : keep u u') : keepB u u' := fun q j hs => h q j (by
  unfold scrB at hs
  cases hh : scr q j with
  | false => rfl
  | true => rw [hh] at hs; cases hs)
theorem scr_hi {q j : Nat} (h : 87 ≤ q) : scr q j = false := by
  unfold scr
  split <;> first | omega | rfl
theorem scrB_hi {q j : Nat} (h : 87 ≤ q) : scrB q j = false := by
  unfold scrB
  rw [scr_hi h, beq_false_of_ne (by omega), beq_false_of_ne (by omega), beq_false_of_ne (by omega), beq_false_of_ne (by omega)]
  rfl
theorem keepB_col {u u' : mU} {M : Nat} (h : keepB u u') (hM : 87 ≤ M) : col u' M = col u M := funext fun i => funext fun j => h (M + i) j (scrB_hi (by omega))
theorem keepB_M {u u' : mU} {M : Nat} (h : keepB u u') (hM : 87 ≤ M) (i : Nat) : u' (M + i) = u (M + i) := funext fun j => h (M + i) j (scrB_hi (by omega))
theorem keepB_T {u u' : mU} {T D : Nat} (h : keepB u u') (ho : okTD T D) (i : Nat) (hi : i < 21) : u' (T + i) = u (T + i) := by
  funext j
  apply h
  rcases ho with ⟨rfl, rfl⟩ | ⟨rfl, rfl⟩
  · rcases i with _ | _ | _ | _ | _ | _ | _ | _ | _ | _ | _ | _ | _ | _ | _ | _ | _ | _ | _ | _ | _ | i <;> first | rfl | omega
  · rcases i with _ | _ | _ | _ | _ | _ | _ | _ | _ | _ | _ | _ | _ | _ | _ | _ | _ | _ | _ | _ | _ | i <;> first | rfl | omega
theorem keepB_at {u u' : mU} (h : keepB u u') (q : Nat) (hq : ∀ j, scrB q j = false) : u' q = u q := funext fun j => h q j (hq j)
theorem relC_congr {u u' : mU} {B M : Nat} {N : Nat → Nat} (hB : ∀ i, i < 21 → u' (B + i) = u (B + i)) (hM : ∀ i, u' (M + i) = u (M + i)) (h : relC u B M N) : relC u' B M N := by
  have m0 : u' M = u M := hM 0
  have hc : col u' M = col u M := funext fun i => hM i
  unfold relC relCnt relThing relPers relTram relGivr relRide relTake relGift relFnd relExam at *
  rw [hc, hB 20 (by decide), hB 2 (by decide), hB 4 (by decide), hB 6 (by decide), hB 8 (by decide), hB 10 (by decide), hB 12 (by decide), hB 14 (by decide), hB 16 (by decide), hB 18 (by decide)]
  simp only [m0, hM]
  exact h
theorem IA_keep {u u' : mU} {T D M : Nat} {N : Nat → Nat} (hk : keepB u u') (ho : okTD T D) (hM : 87 ≤ M) (h : IA T M N u) : IA T M N u' := by
  have hc := keepB_col hk hM
  have e29 : u' 29 = u 29 := keepB_at hk 29 (fun _ => rfl)
  have e77 : u' 77 = u 77 := keepB_at hk 77 (fun _ => rfl)
  have e30 : u' 30 = u 30 := keepB_at hk 30 (fun _ => rfl)
  have e32 : u' 32 = u 32 := keepB_at hk 32 (fun _ => rfl)
  have e34 : u' 34 = u 34 := keepB_at hk 34 (fun _ => rfl)
  have e79 : u' 79 = u 79 := keepB_at hk 79 (fun _ => rfl)
  have e80 : u' 80 = u 80 := keepB_at hk 80 (fun _ => rfl)
  have e1 : u' 75 19 = u 75 19 := hk 75 19 rfl
  have e2 : u' 75 20 = u 75 20 := hk 75 20 rfl
  unfold IA rowEq relHist at *
  rw [hc, e29, e77, e30, e32, e34, e79, e80, e1, e2]
  exact ⟨relC_congr (fun i hi => keepB_T hk ho i hi) (fun i => keepB_M hk hM i) h.1, h.2⟩
theorem IB_keep {u u' : mU} (hk : keepB u u') (h : IB u) : IB u' := by
  have e1 : u' 1 = u 1 := keepB_at hk 1 (fun _ => rfl)
  have e2 : u' 2 = u 2 := keepB_at hk 2 (fun _ => rfl)
  have e76 : u' 76 = u 76 := keepB_at hk 76 (fun _ => rfl)
  have e6 : u' 75 6 = u 75 6 := hk 75 6 rfl
  have e12 : u' 75 12 = u 75 12 := hk 75 12 rfl
  unfold IB at *
  rw [e1, e2, e76, e6, e12]
  exact h
theorem IN_keep {u u' : mU} {T D : Nat} (hk : keepB u u') (ho : okTD T D) (h : IN T u) : IN T u' := by
  have e29 : u' 29 = u 29 := keepB_at hk 29 (fun _ => rfl)
  have e30 : u' 30 = u 30 := keepB_at hk 30 (fun _ => rfl)
  unfold IN at *
  rw [e29, e30, keepB_T hk ho 20 (by decide)]
  exact h
theorem IW_keep {P Q : cP} {u u' : mU} {M : Nat} {N : Nat → Nat} (hk : keep u u') (hM : 87 ≤ M) (h : IW P Q M N u) : IW P Q M N u' := by
  have e41 : u' 41 = u 41 := funext fun j => hk 41 j rfl
  have e43 : u' 43 = u 43 := funext fun j => hk 43 j rfl
  have e44 : u' 44 = u 44 := funext fun j => hk 44 j rfl
  have e48 : u' 48 = u 48 := funext fun j => hk 48 j rfl
  unfold IW at *
  rw [keepB_col (keep_B hk) hM, e41, e43, e44, e48]
  exact h
theorem IK_keep {P Q : cP} {u u' : mU} {T D m : Nat} {c3 : sF} (hk : keep u u') (ho : okTD T D) (h : IK P Q T c3 m u) : IK P Q T c3 m u' := by
  obtain ⟨h1, h2⟩ := h
  refine ⟨IB_keep (keep_B hk) h1, ?_⟩
  rcases h2 with ⟨hc, h2⟩ | ⟨k, N, h3, h4, h5, h6⟩
  · exact Or.inl ⟨hc, IN_keep (keep_B hk) ho h2⟩
  · exact Or.inr ⟨k, N, h3, h4, IA_keep (keep_B hk) ho (by omega) h5, IW_keep hk (by omega) h6⟩
/-- how an op's end is closed -/
theorem Inv_mk {P Q : cP} {u u' : mU} {v' : mV} {T D m : Nat} {c3 c4 : sF} (ho : okTD T D) (h3 : okC m c3) (h4 : okC m c4) (h : IK P Q T c3 m u) (hk : keep u u') (ht : TR u') : Inv P Q (Rep (SH T D c3 c4 m) u' v') (88 + 25 * m) := ⟨T, D, c3, c4, m, u', v', rfl, rfl, ho, h3, h4, ht, IK_keep hk ho h⟩
