theorem ltB_congr {b b' : Nat → Int32} {s : Nat} : ∀ (n : Nat), (∀ i, s ≤ i → i < s + n → b i = b' i) → ltB b s n = ltB b' s n := by
  intro n
  induction n with
  | zero => intro _; rfl
  | succ n ih =>
    intro h
    show dgL (b (s + n)) :: ltB b s n = dgL (b' (s + n)) :: ltB b' s n
    rw [h (s + n) (by omega) (by omega), ih (fun i h1 h2 => h i h1 (by omega))]
theorem nvB_congr {b b' : Nat → Int32} {s : Nat} : ∀ (n : Nat), (∀ i, s ≤ i → i < s + n → b i = b' i) → nvB b s n = nvB b' s n := by
  intro n
  induction n with
  | zero => intro _; rfl
  | succ n ih =>
    intro h
    show 10 * nvB b s n + dgD (b (s + n)) = 10 * nvB b' s n + dgD (b' (s + n))
    rw [h (s + n) (by omega) (by omega), ih (fun i h1 h2 => h i h1 (by omega))]
theorem LX_congr {b b' : Nat → Int32} {L a s k x e : Nat} {l : List Nat} (hb : ∀ i, i < L → b i = b' i) (h : LX b L a s k l x e) : LX b' L a s k l x e := by
  obtain ⟨h1, h2, h3, h4, h5⟩ := h
  refine ⟨h1, h2, fun i a1 a2 => by rw [← hb i (by omega)]; exact h3 i a1 a2, fun z => by rw [← hb s z]; exact h4 z, ?_⟩
  rcases h5 with h | ⟨q1, q2, q3, q4⟩ | ⟨q1, q2, q3, q4, q5, q6, q7⟩ | ⟨q1, q2, q3, q4, q5, q6, q7⟩ | ⟨q1, q2, q3⟩
  · exact Or.inl h
  · exact Or.inr (Or.inl ⟨q1, q2, by rw [← hb s q2]; exact q3, q4⟩)
  · refine Or.inr (Or.inr (Or.inl ⟨q1, q2, q3, q4, fun i a1 a2 => by rw [← hb i (by omega)]; exact q5 i a1 a2, fun z => by rw [← hb e z]; exact q6 z, ?_⟩))
    rw [q7]
    exact ltB_congr _ (fun i a1 a2 => hb i (by omega))
  · refine Or.inr (Or.inr (Or.inr (Or.inl ⟨q1, q2, q3, q4, fun i a1 a2 => by rw [← hb i (by omega)]; exact q5 i a1 a2, fun z => by rw [← hb e z]; exact q6 z, ?_⟩)))
    rw [q7]
    exact nvB_congr _ (fun i a1 a2 => hb i (by omega))
  · refine Or.inr (Or.inr (Or.inr (Or.inr ⟨q1, q2, ?_⟩)))
    rcases q3 with ⟨r1, r2, r3⟩ | ⟨r1, r2, r3, r4⟩ | ⟨r1, r2, r3, r4⟩
    · exact Or.inl ⟨by rw [← hb s q2]; exact r1, by rw [← hb s q2]; exact r2, by rw [← hb s q2]; exact r3⟩
    · exact Or.inr (Or.inl ⟨r1, r2, fun i a1 a2 => by rw [← hb i (by omega)]; exact r3 i a1 a2, fun z => by rw [← hb e z]; exact r4 z⟩)
    · exact Or.inr (Or.inr ⟨r1, r2, fun i a1 a2 => by rw [← hb i (by omega)]; exact r3 i a1 a2, fun z => by rw [← hb e z]; exact r4 z⟩)
section MGO
variable {T D m : Nat} {c3 c4 : sF} {u : mU} {v : mV} {L : Nat}
theorem mod_goes {a s k x e : Nat} {l : List Nat} (hL : L ≤ 1000) (h7 : u 75 7 = nI L) (hb : ∀ i, i < L → byt (u 76 i)) (h9 : ¬ u 75 9 = 5) (ha : u 75 8 = nI a) (h : LX (u 76) L a s k l x e) : ∃ u' v', f_X12_goesOn (Rep (SH T D c3 c4 m) u v) 75 = some (Rep (SH T D c3 c4 m) u' v') ∧ MT u' v' s k l x e ∧ mfT u u' ∧ mfV v v' := by
  obtain ⟨h1, h2, h3, h4, h5⟩ := h
  have hz1 : mfT u (wr u 75 8 (nI s)) := mfT_wr mfT_refl (by omega)
  have hz2 : mfT u (wr (wr (wr u 75 8 (nI s)) 75 10 (nI s)) 75 9 0) := mfT_wr (mfT_wr hz1 (by omega)) (by omega)
  have sk := fun kk => mod_skip (T := T) (D := D) (c3 := c3) (c4 := c4) (m := m) (v := v) (kk := kk) hL h7 hb h2 h4 (s - a) a 1000000000 (by omega) (by omega) h3
  rw [wr_idm ha] at sk
  have e10 : ∀ y : Int32, wr (wr u 75 8 (nI s)) 75 10 y 75 8 = nI s := fun y => by rw [wr_ix (by decide), wr_same]
  have w7 : wr (wr (wr u 75 8 (nI s)) 75 10 (nI s)) 75 9 0 75 7 = nI L := by rw [hz2 75 7 (fun c => by omega)]; exact h7
  have w8 : wr (wr (wr u 75 8 (nI s)) 75 10 (nI s)) 75 9 0 75 8 = nI s := by rw [wr_ix (by decide), wr_ix (by decide), wr_same]
  have w9 : wr (wr (wr u 75 8 (nI s)) 75 10 (nI s)) 75 9 0 75 9 = 0 := wr_same _ _ _ _
  have w10 : wr (wr (wr u 75 8 (nI s)) 75 10 (nI s)) 75 9 0 75 10 = nI s := by rw [wr_ix (by decide), wr_same]
  have w76 : wr (wr (wr u 75 8 (nI s)) 75 10 (nI s)) 75 9 0 76 = u 76 := by rw [wr_off (by decide), wr_off (by decide), wr_off (by decide)]
  have eg : ∀ X, (∀ w : mU, w = wr (wr (wr u 75 8 (nI s)) 75 10 (nI s)) 75 9 0 → ((f_X12_byteAt (Rep (SH T D c3 c4 m) w v) 75 (nI s)).bind fun v8 => if v8 = (-1) then ((p_I (Rep (SH T D c3 c4 m) w v) 75 11 9 1).bind fun g16 => some g16) else ((f_X12_isLetter (Rep (SH T D c3 c4 m) w v) v8).bind fun v9 => if v9 = 0 then ((f_X12_isDigit (Rep (SH T D c3 c4 m) w v) v8).bind fun v10 => if v10 = 0 then (if v8 = 59 then ((p_I (Rep (SH T D c3 c4 m) w v) 75 11 9 4).bind fun g11 => (g_I g11 75 11 8).bind fun v12 => (p_I g11 75 11 8 (v12 + 1)).bind fun g13 => some g13) else (some (Rep (SH T D c3 c4 m) w v))) else ((p_I (Rep (SH T D c3 c4 m) w v) 75 11 11 0).bind fun g14 => L_X12_goesOn_173 1000000000 75 0 g14)) else ((p_L (Rep (SH T D c3 c4 m) w v) 75 11 14 0).bind fun g15 => L_X12_goesOn_84 1000000000 75 0 g15))) = X) → f_X12_goesOn (Rep (SH T D c3 c4 m) u v) 75 = X := by
    intro X hX
    unfold f_X12_goesOn
    rw [gC_75, Option.bind_some, gI_75_9, Option.bind_some, if_neg h9, sk]
    show ((g_I (Rep (SH T D c3 c4 m) (wr u 75 8 (nI s)) v) 75 11 8).bind fun v4 => _) = X
    rw [gI_75_8, Option.bind_some, wr_same, pI_75_10, Option.bind_some, pI_75_9, Option.bind_some, gI_75_8, Option.bind_some, w8]
    exact hX _ rfl
  generalize wr (wr (wr u 75 8 (nI s)) 75 10 (nI s)) 75 9 0 = w at *
  have hbw : ∀ i, i < L → byt (w 76 i) := by rw [w76]; exact hb
  have lets : ∀ (he : e ≤ L) (hs : s < e) (hr : ∀ i, s ≤ i → i < e → isL (u 76 i) = true) (hn : e < L → isL (u 76 e) = false), f_X12_goesOn (Rep (SH T D c3 c4 m) u v) 75 = if 8 < e - s then some (Rep (SH T D c3 c4 m) (wr w 75 8 (nI e)) (wrL v 75 14 (ivB (Int64.ofNat 32) 97 1 (w 76) s (min (e - s) 8)))) else some (Rep (SH T D c3 c4 m) (wr (wr w 75 8 (nI e)) 75 9 2) (wrL v 75 14 (ivB (Int64.ofNat 32) 97 1 (w 76) s (min (e - s) 8)))) := by
    intro he hs hr hn
    have hp := hr s (by omega) (by omega)
    obtain ⟨kb, hkb, ek⟩ := byt_k (hb s (by omega))
    have n1 : ¬ (u 76 s &&& 255) = -1 := by rw [ek]; exact by_m kb hkb
    have n2 : isL (u 76 s &&& 255) = true := by rw [ek] at hp ⊢; rw [by_L kb hkb]; exact hp
    have el := mod_lets (T := T) (D := D) (c3 := c3) (c4 := c4) (m := m) (v := v) (w := w) (s := s) (e := e) hL w7 hbw (by omega) he (by rw [w76]; exact hr) (by rw [w76]; exact hn) (e - s) 0 1000000000 (by omega) (by omega)
    rw [Nat.add_zero, wr_idm w8, nI_0] at el
    refine eg _ (fun w' hw' => ?_)
    rw [hw', mod_byte hL w7 (by omega), Option.bind_some, w76, if_neg n1, isL_f, Option.bind_some, n2, show bI true = 1 from rfl, if_neg (by decide), pL_75_14, Option.bind_some]
    rw [← w76]
    exact el
  have digs : ∀ (he : e ≤ L) (hs : s < e) (hr : ∀ i, s ≤ i → i < e → isD (u 76 i) = true) (hn : e < L → isD (u 76 e) = false), f_X12_goesOn (Rep (SH T D c3 c4 m) u v) 75 = if 3 < e - s then some (Rep (SH T D c3 c4 m) (wr (wr w 75 8 (nI e)) 75 11 (nI (nvB (w 76) s (min (e - s) 3)))) v) else some (Rep (SH T D c3 c4 m) (wr (wr (wr w 75 8 (nI e)) 75 11 (nI (nvB (w 76) s (min (e - s) 3)))) 75 9 3) v) := by
    intro he hs hr hn
    have hp := hr s (by omega) (by omega)
    obtain ⟨kb, hkb, ek⟩ := byt_k (hb s (by omega))
    have n1 : ¬ (u 76 s &&& 255) = -1 := by rw [ek]; exact by_m kb hkb
    have n2 : isL (u 76 s &&& 255) = false := by rw [ek] at hp ⊢; rw [by_L kb hkb]; exact (by_DS kb hkb hp).1
    have n3 : isD (u 76 s &&& 255) = true := by rw [ek] at hp ⊢; rw [by_D kb hkb]; exact hp
    have el := mod_digs (T := T) (D := D) (c3 := c3) (c4 := c4) (m := m) (v := v) (w := w) (s := s) (e := e) hL w7 hbw (by omega) he (by rw [w76]; exact hr) (by rw [w76]; exact hn) (e - s) 0 1000000000 (by omega) (by omega)
    rw [Nat.add_zero, wr_idm w8, nI_0] at el
    refine eg _ (fun w' hw' => ?_)
    rw [hw', mod_byte hL w7 (by omega), Option.bind_some, w76, if_neg n1, isL_f, Option.bind_some, n2, show bI false = 0 from rfl, if_pos rfl, isD_f, Option.bind_some, n3, show bI true = 1 from rfl, if_neg (by decide), pI_75_11, Option.bind_some]
    rw [← w76]
    exact el
  rcases h5 with ⟨rfl, hs, he0⟩ | ⟨rfl, hs, b1, he0⟩ | ⟨rfl, hs, he, h8', hr, hn, rfl⟩ | ⟨rfl, hs, he, h8', hr, hn, rfl⟩ | ⟨rfl, hs, hbad⟩
  · refine ⟨wr w 75 9 1, v, eg _ (fun w' hw' => ?_), ⟨?_, ?_, fun z => by omega, fun z => absurd z (by decide), fun z => absurd z (by decide)⟩, mfT_wr hz2 (by omega), fun q j _ => rfl⟩
    · rw [hw', mod_byteE hL w7 hs, Option.bind_some, if_pos rfl, pI_75_9, Option.bind_some]
    · rw [wr_same]; rfl
    · rw [wr_ix (by decide), w10]
  · have n59 : (u 76 s &&& 255) = 59 := by rw [b1]; decide
    refine ⟨wr (wr w 75 9 4) 75 8 (nI (s + 1)), v, eg _ (fun w' hw' => ?_), ⟨?_, ?_, fun _ => ?_, fun z => absurd z (by decide), fun z => absurd z (by decide)⟩, mfT_wr (mfT_wr hz2 (by omega)) (by omega), fun q j _ => rfl⟩
    · rw [hw', mod_byte hL w7 hs, Option.bind_some, w76, n59, if_neg (by decide), isL_f, Option.bind_some, show isL 59 = false from rfl, show bI false = 0 from rfl, if_pos rfl, isD_f, Option.bind_some, show isD 59 = false from rfl, show bI false = 0 from rfl, if_pos rfl, if_pos rfl, pI_75_9, Option.bind_some, gI_75_8, Option.bind_some, wr_ix (by decide), w8, nI_1, pI_75_8, Option.bind_some]
    · rw [wr_ix (by decide), wr_same]; rfl
    · rw [wr_ix (by decide), wr_ix (by decide), w10]
    · rw [wr_same, he0]
  · have eq := lets he hs hr hn
    rw [if_neg (by omega)] at eq
    refine ⟨_, _, eq, ⟨?_, ?_, fun _ => ?_, fun _ => ?_, fun z => absurd z (by decide)⟩, mfT_wr (mfT_wr hz2 (by omega)) (by omega), mfV_wr fun q j _ => rfl⟩
    · rw [wr_same]; rfl
    · rw [wr_ix (by decide), wr_ix (by decide), w10]
    · rw [wr_ix (by decide), wr_same]
    · rw [wrL_same, w76, show min (e - s) 8 = e - s by omega]
      exact iv_rv (B := 32) hb (e - s) (by omega) (fun i a1 a2 => hr i a1 (by omega))
  · have eq := digs he hs hr hn
    rw [if_neg (by omega)] at eq
    refine ⟨_, _, eq, ⟨?_, ?_, fun _ => ?_, fun z => absurd z (by decide), fun _ => ?_⟩, mfT_wr (mfT_wr (mfT_wr hz2 (by omega)) (by omega)) (by omega), fun q j _ => rfl⟩
    · rw [wr_same]; rfl
    · rw [wr_ix (by decide), wr_ix (by decide), wr_ix (by decide), w10]
    · rw [wr_ix (by decide), wr_ix (by decide), wr_same]
    · rw [wr_ix (by decide), wr_same, w76, show min (e - s) 3 = e - s by omega]
  · have fin : ∀ (w1 : mU) (v1 : mV), mfT u w1 → mfV v v1 → w1 75 10 = nI s → w1 75 9 = 0 → f_X12_goesOn (Rep (SH T D c3 c4 m) u v) 75 = some (Rep (SH T D c3 c4 m) w1 v1) → ∃ u' v', f_X12_goesOn (Rep (SH T D c3 c4 m) u v) 75 = some (Rep (SH T D c3 c4 m) u' v') ∧ MT u' v' s 4 l x e ∧ mfT u u' ∧ mfV v v' := by
      intro w1 v1 f1 f2 f3 f4 f5
      exact ⟨w1, v1, f5, ⟨f4, f3, fun z => by omega, fun z => absurd z (by decide), fun z => absurd z (by decide)⟩, f1, f2⟩
    rcases hbad with ⟨nL, nD, n59⟩ | ⟨h8', he, hr, hn⟩ | ⟨h8', he, hr, hn⟩
    · obtain ⟨kb, hkb, ek⟩ := byt_k (hb s (by omega))
      have n1 : ¬ (u 76 s &&& 255) = -1 := by rw [ek]; exact by_m kb hkb
      have n2 : isL (u 76 s &&& 255) = false := by rw [ek] at nL ⊢; rw [by_L kb hkb]; exact nL
      have n3 : isD (u 76 s &&& 255) = false := by rw [ek] at nD ⊢; rw [by_D kb hkb]; exact nD
      have n4 : ¬ (u 76 s &&& 255) = 59 := by rw [ek] at n59 ⊢; exact fun z => n59 ((by_59 kb hkb).mp z)
      refine fin w v hz2 (fun q j _ => rfl) w10 w9 (eg _ (fun w' hw' => ?_))
      rw [hw', mod_byte hL w7 hs, Option.bind_some, w76, if_neg n1, isL_f, Option.bind_some, n2, show bI false = 0 from rfl, if_pos rfl, isD_f, Option.bind_some, n3, show bI false = 0 from rfl, if_pos rfl, if_neg n4]
    · have eq := lets he (by omega) hr hn
      rw [if_pos (by omega)] at eq
      refine fin _ _ (mfT_wr hz2 (by omega)) (mfV_wr fun q j _ => rfl) ?_ ?_ eq
      · rw [wr_ix (by decide), w10]
      · rw [wr_ix (by decide), w9]
    · have eq := digs he (by omega) hr hn
      rw [if_pos (by omega)] at eq
      refine fin _ _ (mfT_wr (mfT_wr hz2 (by omega)) (by omega)) (fun q j _ => rfl) ?_ ?_ eq
      · rw [wr_ix (by decide), wr_ix (by decide), w10]
      · rw [wr_ix (by decide), wr_ix (by decide), w9]
/-- a flawed reading goes on to nothing -/
theorem goes_dead (h9 : u 75 9 = 5) : f_X12_goesOn (Rep (SH T D c3 c4 m) u v) 75 = some (Rep (SH T D c3 c4 m) u v) := by
  unfold f_X12_goesOn
  rw [gC_75, Option.bind_some, gI_75_9, Option.bind_some, if_pos h9]
theorem flaw_dead {n : Int32} (h9 : u 75 9 = 5) : f_X12_flaw (Rep (SH T D c3 c4 m) u v) 75 n = some (Rep (SH T D c3 c4 m) u v) := by
  unfold f_X12_flaw
  rw [gC_75, Option.bind_some, gI_75_9, Option.bind_some, if_pos h9]
end MGO
