/-- places that acts change -/
def actR (q j : Nat) : Bool := match q with
  | 0 => j == 7
  | 29 => true
  | 30 => true
  | 32 => true
  | 34 => true
  | 75 => (j == 0 || j == 1 || j == 2 || j == 19 || j == 20)
  | 77 => true
  | 79 => true
  | 80 => true
  | _ => false
def offA (u u' : mU) : Prop := ∀ q j, actR q j = false → u' q j = u q j
section OFA
variable {u u' : mU} {r i a b x y n : Nat} {z : Int32} {f : Nat → Int32}
theorem offA_refl : offA u u := fun _ _ _ => rfl
theorem offA_wr (h : offA u u') (hs : actR r i = true) : offA u (wr u' r i z) := by
  intro q j hq
  unfold wr
  rw [if_neg]
  · exact h q j hq
  · rintro ⟨rfl, rfl⟩
    rw [hs] at hq
    cases hq
theorem offA_cp (h : offA u u') (hs : ∀ j, actR a j = true) : offA u (cpA u' a x b y n) := by
  intro q j hq
  unfold cpA
  rw [if_neg]
  · exact h q j hq
  · rintro ⟨rfl, -⟩
    rw [hs] at hq
    cases hq
theorem offA_put (h : offA u u') (hs : ∀ j, actR a j = true) : offA u (put u' a f) := by
  intro q j hq
  unfold put
  rw [if_neg]
  · exact h q j hq
  · rintro rfl
    rw [hs] at hq
    cases hq
theorem offA_push {k : Nat} (h : offA u u') : offA u (pushM u' k) := by
  unfold pushM
  split
  · exact offA_wr (offA_cp h (fun _ => rfl)) rfl
  · exact offA_wr (offA_cp (offA_wr (offA_cp h (fun _ => rfl)) rfl) (fun _ => rfl)) rfl
theorem actR_hi {q j : Nat} (h : 87 ≤ q) : actR q j = false := by
  unfold actR
  split <;> first | omega | rfl
theorem offA_T {T D : Nat} (h : offA u u') (ho : okTD T D) (i : Nat) (hi : i < 21) : u' (T + i) = u (T + i) := by
  funext j
  apply h
  rcases ho with ⟨rfl, rfl⟩ | ⟨rfl, rfl⟩
  · rcases i with _ | _ | _ | _ | _ | _ | _ | _ | _ | _ | _ | _ | _ | _ | _ | _ | _ | _ | _ | _ | _ | i <;> first | rfl | omega
  · rcases i with _ | _ | _ | _ | _ | _ | _ | _ | _ | _ | _ | _ | _ | _ | _ | _ | _ | _ | _ | _ | _ | i <;> first | rfl | omega
theorem offA_M {M : Nat} (h : offA u u') (hM : 87 ≤ M) (i : Nat) : u' (M + i) = u (M + i) := funext fun j => h (M + i) j (actR_hi (by omega))
theorem offA_at (h : offA u u') (q : Nat) (hq : ∀ j, actR q j = false) : u' q = u q := funext fun j => h q j (hq j)
theorem rowG_congr {K : cK} {N : Nat → Nat} {f f' : Nat → Int32} (hN : N 3 ≤ 5) (e : ∀ j, j < 16 → f j = f' j) (h : rowG K N f) : rowG K N f' := by
  obtain ⟨h1, h2, d, hd, h3⟩ := h
  refine ⟨fun t ht => ?_, fun p hp => ?_, d, hd, ?_⟩
  · rw [← e t (by omega)]; exact h1 t ht
  · rw [← e (4 + p) (by omega)]; exact h2 p hp
  · rw [← e 15 (by decide)]; exact h3
theorem Inv_act {P Q : cP} {T D m M k : Nat} {c4 : sF} {v' : mV} {N : Nat → Nat} (ho : okTD T D) (h4 : okC m c4) (hk : k < m) (hm : M = 88 + k * 25) (hB : IB u) (hA : IA T M N u) (hW : IW P Q M N u) (off : offA u u') (ht : TR u') (h29 : rowEq u' 29 77) (hG : rowG (col u M) N (u' 29)) (hh : relHist u' (col u M) N) : Inv P Q (Rep (SH T D (fR M) c4 m) u' v') (88 + 25 * m) := by
  have h88 : 88 ≤ M := by omega
  have hc : col u' M = col u M := funext (offA_M off (by omega))
  refine ⟨T, D, fR M, c4, m, u', v', rfl, rfl, ho, Or.inr ⟨k, hk, by rw [hm]⟩, h4, ht, ?_, Or.inr ⟨k, N, hk, by rw [hm], ?_, ?_⟩⟩
  · unfold IB at *
    rw [offA_at off 1 (fun _ => rfl), offA_at off 2 (fun _ => rfl), offA_at off 76 (fun _ => rfl), off 75 6 rfl, off 75 12 rfl]
    exact hB
  · rw [← hm]
    exact ⟨relC_congr (offA_T off ho) (offA_M off (by omega)) hA.1, hA.2.1, h29, by rw [hc]; exact hG, by rw [hc]; exact hh⟩
  · rw [← hm]
    exact IW_agree (offA_M off (by omega)) (offA_at off 41 (fun _ => rfl)) (offA_at off 43 (fun _ => rfl)) (offA_at off 44 (fun _ => rfl)) (offA_at off 48 (fun _ => rfl)) hW
theorem pushM_77 {k : Nat} : pushM u k 77 = u 77 := by
  unfold pushM
  split
  · rw [wr_off (by decide), cpA_ne (by decide)]
  · rw [wr_off (by decide), cpA_ne (by decide), wr_off (by decide), cpA_ne (by decide)]
theorem pushM_q {k q : Nat} (h1 : q ≠ 75) (h2 : q ≠ 79) : pushM u k q = u q := by
  unfold pushM
  split
  · rw [wr_off h1, cpA_ne h2]
  · rw [wr_off h1, cpA_ne h2, wr_off h1, cpA_ne h2]
theorem pushM_75 {k j : Nat} (h1 : j ≠ 19) : pushM u k 75 j = u 75 j := by
  unfold pushM
  split
  · rw [wr_ix h1, cpA_ne (by decide)]
  · rw [wr_ix h1, cpA_ne (by decide), wr_ix h1, cpA_ne (by decide)]
theorem pushM_19 {k : Nat} (hk : k ≤ 16) : pushM u k 75 19 = nI (min 16 (k + 1)) := by
  unfold pushM
  by_cases c : k < 16
  · rw [if_pos c, wr_same, Nat.min_eq_right (by omega)]
  · rw [if_neg c, wr_same, Nat.min_eq_left (by omega)]
theorem pushM_79 {k j : Nat} : pushM u k 79 j = if k < 16 then (if 16 * k ≤ j ∧ j < 16 * k + 16 then u 77 (0 + (j - 16 * k)) else u 79 j) else (if 240 ≤ j ∧ j < 240 + 16 then u 77 (0 + (j - 240)) else (if 0 ≤ j ∧ j < 0 + 240 then u 79 (16 + (j - 0)) else u 79 j)) := by
  unfold pushM
  by_cases c : k < 16
  · rw [if_pos c, if_pos c, wr_role (by decide), cpA_at]
  · rw [if_neg c, if_neg c, wr_role (by decide), cpA_at, wr_role (by decide), wr_role (by decide), cpA_at, cpA_ne (by decide)]
theorem hist_push {K : cK} {N : Nat → Nat} {a k q : Nat} {w : mU} (hN : N 3 ≤ 5) (ha : a < 16) (hk : k ≤ 16) (hq : q ≤ 3) (h4 : u 30 4 = nI q) (h20 : u 75 20 = nI q)
    (hac : ∀ i, i < k → (∀ j, j < 16 → u 32 ((a + 16 - k + i) % 16 * 16 + j) = u 79 (16 * i + j)) ∧ rowG K N (fun j => u 79 (16 * i + j))) (hmk : ∀ i, i < q → (∀ j, j < 16 → u 34 (i * 16 + j) = u 80 (16 * i + j)) ∧ rowG K N (fun j => u 80 (16 * i + j)))
    (hr : rowEq u 29 77) (hG : rowG K N (u 29)) (w77 : w 77 = u 77) (w79 : w 79 = u 79)
    (e2 : u' 30 2 = nI ((a + 1) % 16)) (e3 : u' 30 3 = nI (min 16 (k + 1))) (e4 : u' 30 4 = u 30 4) (e19 : u' 75 19 = nI (min 16 (k + 1))) (e20 : u' 75 20 = u 75 20) (e34 : u' 34 = u 34) (e80 : u' 80 = u 80)
    (e32 : ∀ j, u' 32 j = if a * 16 ≤ j ∧ j < a * 16 + 16 then u 29 (0 + (j - a * 16)) else u 32 j) (e79 : u' 79 = pushM w k 79) : relHist u' K N := by
  refine ⟨(a + 1) % 16, min 16 (k + 1), q, by omega, by omega, hq, e2, e3, e19, by rw [e4, h4], by rw [e20, h20], ?_, ?_⟩
  · have f79 : ∀ j, u' 79 j = if k < 16 then (if 16 * k ≤ j ∧ j < 16 * k + 16 then u 77 (0 + (j - 16 * k)) else u 79 j) else (if 240 ≤ j ∧ j < 240 + 16 then u 77 (0 + (j - 240)) else (if 0 ≤ j ∧ j < 0 + 240 then u 79 (16 + (j - 0)) else u 79 j)) := fun j => by rw [e79, pushM_79, w77, w79]
    intro i hi
    by_cases c : k < 16
    · have f79 : ∀ j, u' 79 j = if 16 * k ≤ j ∧ j < 16 * k + 16 then u 77 (0 + (j - 16 * k)) else u 79 j := fun j => by rw [f79 j, if_pos c]
      by_cases ci : i < k
      · have g79 : ∀ j, j < 16 → u 79 (16 * i + j) = u' 79 (16 * i + j) := fun j hj => by rw [f79, if_neg (by omega)]
        have hid : ((a + 1) % 16 + 16 - min 16 (k + 1) + i) % 16 = (a + 16 - k + i) % 16 := by omega
        obtain ⟨g1, g2⟩ := hac i ci
        refine ⟨fun j hj => ?_, rowG_congr hN g79 g2⟩
        rw [← g79 j hj, hid, e32, if_neg (by omega)]
        exact g1 j hj
      · have hik : i = k := by omega
        subst hik
        have g79 : ∀ j, j < 16 → u 29 j = u' 79 (16 * i + j) := fun j hj => by
          rw [f79, if_pos (by omega), show 0 + (16 * i + j - 16 * i) = j by omega]
          exact hr j hj
        have hid : ((a + 1) % 16 + 16 - min 16 (i + 1) + i) % 16 = a := by omega
        refine ⟨fun j hj => ?_, rowG_congr hN g79 hG⟩
        rw [← g79 j hj, hid, e32, if_pos (by omega), show 0 + (a * 16 + j - a * 16) = j by omega]
    · have f79 : ∀ j, u' 79 j = (if 240 ≤ j ∧ j < 240 + 16 then u 77 (0 + (j - 240)) else (if 0 ≤ j ∧ j < 0 + 240 then u 79 (16 + (j - 0)) else u 79 j)) := fun j => by rw [f79 j, if_neg c]
      by_cases ci : i < 15
      · have g79 : ∀ j, j < 16 → u 79 (16 * (i + 1) + j) = u' 79 (16 * i + j) := fun j hj => by rw [f79, if_neg (by omega), if_pos (by omega), show 16 + (16 * i + j - 0) = 16 * (i + 1) + j by omega]
        have hid : ((a + 1) % 16 + 16 - min 16 (k + 1) + i) % 16 = (a + 16 - k + (i + 1)) % 16 := by omega
        obtain ⟨g1, g2⟩ := hac (i + 1) (by omega)
        refine ⟨fun j hj => ?_, rowG_congr hN g79 g2⟩
        rw [← g79 j hj, hid, e32, if_neg (by omega)]
        exact g1 j hj
      · have hik : i = 15 := by omega
        subst hik
        have g79 : ∀ j, j < 16 → u 29 j = u' 79 (16 * 15 + j) := fun j hj => by
          rw [f79, if_pos (by omega), show 0 + (16 * 15 + j - 240) = j by omega]
          exact hr j hj
        have hid : ((a + 1) % 16 + 16 - min 16 (k + 1) + 15) % 16 = a := by omega
        refine ⟨fun j hj => ?_, rowG_congr hN g79 hG⟩
        rw [← g79 j hj, hid, e32, if_pos (by omega), show 0 + (a * 16 + j - a * 16) = j by omega]
  · intro i hi
    rw [e34, e80]
    exact hmk i hi
end OFA
