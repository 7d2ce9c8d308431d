/-- the first last day for which there is a row, and the row -/
def ffD (K : cK) (N : Nat → Nat) (r dd : Nat) : Option (Nat × (Nat → Nat)) := ff (fun dd => (snR K N dd).map (fun c => (dd, c))) r dd
/-- what the class's cache holds: the soonest row -/
def fPs : cP := fun K N a C => match ffD K N (N 0) 0 with
  | none => a = -2
  | some (d, c) => a = nI d ∧ d < N 0 ∧ ∀ j, j < N 2 → c j < 105 ∧ C (j * 3 + 0) = nI (c j / 15) ∧ C (j * 3 + 1) = nI (c j / 5 % 3) ∧ C (j * 3 + 2) = nI (c j % 5)
theorem ffD_day {K : cK} {N : Nat → Nat} {r dd d : Nat} {c : Nat → Nat} (h : ffD K N r dd = some (d, c)) : dd ≤ d ∧ d < dd + r ∧ snR K N d = some c := by
  obtain ⟨j, h1, h2, h3⟩ := ff_some r dd h
  cases e : snR K N j with
  | none => rw [e] at h3; cases h3
  | some c' =>
    rw [e] at h3
    cases h3
    exact ⟨h1, h2, e⟩
theorem lp_N0 {K : cK} {N : Nat → Nat} : ∀ (r i : Nat), (∀ t, i ≤ t → t < i + r → evr K N t = true) → lp (stN K N) r i 0 = 0 := by
  intro r
  induction r with
  | zero => intro i _; rfl
  | succ r ih =>
    intro i h
    show lp (stN K N) r (i + 1) (stN K N i 0) = 0
    rw [show stN K N i 0 = 0 by unfold stN; rw [if_pos (h i (by omega) (by omega))]]
    exact ih (i + 1) (fun t a b => h t (by omega) (by omega))
section CFJ
variable {T D m M : Nat} {c3 c4 : sF} {u : mU} {v : mV} {N : Nat → Nat}
theorem lfT_evr (h : relC u T M N) {c : Nat → Nat} (hc : lfT (col u M) N c = true) {t : Nat} (ht : t < N 2) : evr (col u M) N t = true := by
  have hb := bndN_of h.1
  have b0 : N 0 ≤ 7 := hb.1
  have b2 : N 2 ≤ 4 := hb.2.2.1
  obtain ⟨⟨h1, h2, h3⟩, -, h4⟩ := (lfT_iff.mp hc) t ht
  have m2 := hd_le (ch := c) (t := t) (N 2)
  have h5 := can_mono (a := 0) h h2 ht h3 (by omega) (Nat.zero_le _) (by omega) h4
  unfold evr
  rw [anyB_iff]
  refine ⟨c t / 15, by omega, by omega, (anyB_iff _ _).mpr ⟨c t / 5 % 3, by omega, by omega, (anyB_iff _ _).mpr ⟨c t % 5, by omega, by omega, h5⟩⟩⟩
theorem never_none (h : relC u T M N) (hn : ¬ lp (stN (col u M) N) (N 2) 0 0 = 0) : ffD (col u M) N (N 0) 0 = none := by
  by_cases ha : ∀ t, t < N 2 → evr (col u M) N t = true
  · exact absurd (lp_N0 (N 2) 0 (fun t _ ht => ha t (by omega))) hn
  · refine ff_none _ _ (fun d _ _ => ?_)
    show (snR (col u M) N d).map _ = none
    have : snR (col u M) N d = none := by
      unfold snR
      refine sr_none (fun c => ?_)
      cases cl : lfT (col u M) N c with
      | false => rfl
      | true => exact absurd (fun t ht => lfT_evr h cl ht) ha
    rw [this]
    rfl
theorem cls_f29 (ho : okTD T D) (hM : 88 ≤ M) (h : relC u T M N) (h2 : 1 ≤ N 2) : ∀ (r dd f : Nat) (C : Nat → Int32), dd + r = N 0 → r < f → (∀ d, d + 1 = dd → snR (col u M) N d = none) → (∃ d c C', ffD (col u M) N r dd = some (d, c) ∧ chO (put u 43 C') c (N 2) ∧ L_X0_find_29 f 41 T (nI dd) (Rep (SH T D c3 c4 m) (put u 43 C) v) = some (Rep (SH T D c3 c4 m) (wr (put u 43 C') 41 2 (nI d)) v)) ∨ (∃ C', ffD (col u M) N r dd = none ∧ L_X0_find_29 f 41 T (nI dd) (Rep (SH T D c3 c4 m) (put u 43 C) v) = some (Rep (SH T D c3 c4 m) (put u 43 C') v)) := by
  have hb := bndN_of h.1
  have b0 : N 0 ≤ 7 := hb.1
  have b2 : N 2 ≤ 4 := hb.2.2.1
  intro r
  induction r with
  | zero =>
    intro dd f C hd hf _
    obtain ⟨f, rfl⟩ : ∃ f', f = f' + 1 := ⟨f - 1, by omega⟩
    have c : nI (N 0) ≤ nI dd := nI_le (by omega) (by omega)
    refine Or.inr ⟨C, rfl, ?_⟩
    rw [L_X0_find_29, cls_c0 ho (p43_relC ho hM h).1, Option.bind_some, if_pos c]
  | succ r ih =>
    intro dd f C hd hf hpv
    obtain ⟨f, rfl⟩ : ∃ f', f = f' + 1 := ⟨f - 1, by omega⟩
    have c : ¬ nI (N 0) ≤ nI dd := nI_ge (by omega) (by omega)
    have ea := cls_any (c3 := c3) (c4 := c4) (m := m) (v := v) ho (p43_relC (C := C) ho hM h) (show dd < 7 by omega)
    rw [put_col hM (by decide)] at ea
    have hmiss : snR (col u M) N dd = none → ffD (col u M) N (r + 1) dd = ffD (col u M) N r (dd + 1) := by
      intro hz
      exact ff_miss (f := fun dd => (snR (col u M) N dd).map (fun c => (dd, c))) (by rw [hz]; rfl)
    cases ca : anyT (col u M) N dd with
    | false =>
      have hz := snR_any h2 ca hpv
      rw [ca] at ea
      rw [hmiss hz, L_X0_find_29, cls_c0 ho (p43_relC ho hM h).1, Option.bind_some, if_neg c, ea, Option.bind_some, show bI false = 0 from rfl, if_pos rfl, nI_1]
      exact ih (dd + 1) f C (by omega) (by omega) (fun d hd => by rw [show d = dd by omega]; exact hz)
    | true =>
      rw [ca] at ea
      have q := cls_place (c3 := c3) (c4 := c4) (m := m) (v := v) ho hM h (show dd < 7 by omega) (N 2) 0 6 (by omega) (by omega) (fun _ => 0) C 0 (fun j hj => absurd hj (by omega)) (fun j hj => absurd hj (by omega)) BZ_0
      rw [cls_row h (by omega), nI_0] at q
      rw [L_X0_find_29, cls_c0 ho (p43_relC ho hM h).1, Option.bind_some, if_neg c, ea, Option.bind_some, show bI true = 1 from rfl, if_neg (by decide)]
      rcases q with ⟨c', C', q1, q2, q3⟩ | ⟨C', q1, q2, q3⟩
      · refine Or.inl ⟨dd, c', C', ?_, q2, ?_⟩
        · exact ff_hit (f := fun dd => (snR (col u M) N dd).map (fun c => (dd, c))) (by rw [q1]; rfl)
        · rw [q3, q_b2_some, if_neg (by decide), pI_41_2, Option.bind_some]
      · rw [hmiss q1, q3, q_b2_some, if_pos rfl, nI_1]
        exact ih (dd + 1) f C' (by omega) (by omega) (fun d hd => by rw [show d = dd by omega]; exact q1)
theorem fPs_none {K : cK} {a : Int32} {C : Nat → Int32} (h : ffD K N (N 0) 0 = none) (ha : a = -2) : fPs K N a C := by
  unfold fPs
  rw [h]
  exact ha
theorem fPs_some {K : cK} {a : Int32} {d : Nat} {c : Nat → Nat} (h : ffD K N (N 0) 0 = some (d, c)) (ha : a = nI d) (hc : chO u c (N 2)) : fPs K N a (u 43) := by
  unfold fPs
  rw [h]
  have := ffD_day h
  exact ⟨ha, by omega, hc⟩
theorem cls_soon (ho : okTD T D) (hM : 88 ≤ M) (h : relC u T M N) (h2 : 1 ≤ N 2) (h0 : u 41 1 = 0) : ∃ u1, f_X0_find (Rep (SH T D c3 c4 m) u v) 41 T = some (Rep (SH T D c3 c4 m) u1 v) ∧ keepB u u1 ∧ u1 41 1 = 1 ∧ fPs (col u M) N (u1 41 2) (u1 43) ∧ u1 44 = u 44 ∧ u1 48 = u 48 := by
  have hT : T = 54 ∨ T = 3 := by rcases ho with ⟨rfl, rfl⟩ | ⟨rfl, rfl⟩ <;> simp
  have hb := bndN_of h.1
  have b0 : N 0 ≤ 7 := hb.1
  have kq : ∀ q, q ≠ 41 → wr (wr u 41 1 1) 41 2 (-2) q = u q := fun q hq => by rw [wr_off hq, wr_off hq]
  have hr : relC (wr (wr u 41 1 1) 41 2 (-2)) T M N := relC_congr (fun i hi => kq _ (by omega)) (fun i => kq _ (by omega)) h
  have hc : col (wr (wr u 41 1 1) 41 2 (-2)) M = col u M := funext fun i => kq _ (by omega)
  have kk : ∀ C', keepB u (put (wr (wr u 41 1 1) 41 2 (-2)) 43 C') := by
    intro C' q j hq
    have h41 : q ≠ 41 := fun z => by subst z; cases hq
    have h43 : q ≠ 43 := fun z => by subst z; cases hq
    rw [put_ne h43, kq q h41]
  have en := cls_never (c3 := c3) (c4 := c4) (m := m) (v := v) ho hr
  rw [hc] at en
  have ef : ∀ X : Option qS, (if lp (stN (col u M) N) (N 2) 0 0 = 0 then (L_X0_find_29 1000000000 41 T 0 (Rep (SH T D c3 c4 m) (wr (wr u 41 1 1) 41 2 (-2)) v)) else some (Rep (SH T D c3 c4 m) (wr (wr u 41 1 1) 41 2 (-2)) v)) = X → f_X0_find (Rep (SH T D c3 c4 m) u v) 41 T = X := by
    intro X hX
    unfold f_X0_find
    rw [gC_41, Option.bind_some, gI_41_1, Option.bind_some, if_pos h0, pZ1_41_1, Option.bind_some, pI_41_2, Option.bind_some, en, Option.bind_some]
    exact hX
  by_cases cn : lp (stN (col u M) N) (N 2) 0 0 = 0
  · have q := cls_f29 (c3 := c3) (c4 := c4) (m := m) (v := v) ho hM hr h2 (N 0) 0 1000000000 (wr (wr u 41 1 1) 41 2 (-2) 43) (by omega) (by omega) (fun d hd => absurd hd (by omega))
    rw [put_self, hc, nI_0] at q
    rcases q with ⟨d, c, C', q1, q2, q3⟩ | ⟨C', q1, q2⟩
    · refine ⟨_, ef _ (by rw [if_pos cn]; exact q3), keepB_wr (kk C') rfl, ?_, ?_, ?_, ?_⟩
      · rw [wr_ix (by decide), put_ne (by decide), wr_ix (by decide), wr_same]
      · refine fPs_some q1 (wr_same _ _ _ _) ?_
        unfold chO
        rw [wr_off (by decide)]
        exact q2
      · rw [wr_off (by decide), put_ne (by decide), kq 44 (by decide)]
      · rw [wr_off (by decide), put_ne (by decide), kq 48 (by decide)]
    · refine ⟨_, ef _ (by rw [if_pos cn]; exact q2), kk C', ?_, ?_, ?_, ?_⟩
      · rw [put_ne (by decide), wr_ix (by decide), wr_same]
      · exact fPs_none q1 (by rw [put_ne (by decide), wr_same])
      · rw [put_ne (by decide), kq 44 (by decide)]
      · rw [put_ne (by decide), kq 48 (by decide)]
  · refine ⟨_, ef _ (by rw [if_neg cn]), keepB_wr (keepB_wr keepB_refl rfl) rfl, ?_, ?_, ?_, ?_⟩
    · rw [wr_ix (by decide), wr_same]
    · exact fPs_none (never_none h cn) (wr_same _ _ _ _)
    · exact kq 44 (by decide)
    · exact kq 48 (by decide)
theorem cls_soonC {Q : cP} (ho : okTD T D) (hM : 88 ≤ M) (h : relC u T M N) (h2 : 1 ≤ N 2) (hW : IW fPs Q M N u) : ∃ u1, f_X0_find (Rep (SH T D c3 c4 m) u v) 41 T = some (Rep (SH T D c3 c4 m) u1 v) ∧ keepB u u1 ∧ IW fPs Q M N u1 ∧ fPs (col u M) N (u1 41 2) (u1 43) := by
  rcases hW.1 with h0 | ⟨h1, hp⟩
  · obtain ⟨u1, e, k1, a1, a2, a3, a4⟩ := cls_soon (c3 := c3) (c4 := c4) (m := m) (v := v) ho hM h h2 h0
    refine ⟨u1, e, k1, ⟨Or.inr ⟨a1, ?_⟩, ?_⟩, a2⟩
    · rw [keepB_col k1 (by omega)]; exact a2
    · rw [a3, a4, keepB_col k1 (by omega)]; exact hW.2
  · refine ⟨u, ?_, keepB_refl, hW, hp⟩
    unfold f_X0_find
    rw [gC_41, Option.bind_some, gI_41_1, Option.bind_some, h1, if_neg (by decide)]
end CFJ
