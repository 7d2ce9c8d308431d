section RDH
variable {u : mU} {v : mV} {M T D m : Nat} {N : Nat → Nat} {c3 c4 : sF} {g : qS} {x : Int32}
theorem in_no {n : Nat} (hn : n < 2 ^ 31) (c : ∀ j, j ≤ n → x ≠ nI j) : f_X12_in g x 0 (nI n) = some 0 := by
  unfold f_X12_in
  by_cases c1 : x < 0
  · rw [if_pos c1]
  · rw [if_neg c1]
    obtain ⟨j, hj, rfl⟩ := nI_of c1
    rw [if_pos]
    exact (nI_ltI hn hj).mpr (Nat.not_le.mp fun z => c j z rfl)
theorem in_yes {n j : Nat} (hn : n < 2 ^ 31) (h : j ≤ n) : f_X12_in g (nI j) 0 (nI n) = some 1 := by
  unfold f_X12_in
  rw [if_neg (nI_pos (by omega)), if_neg (nI_nlt h hn)]
theorem rowEq_a {a b : Nat} (h : rowEq u a b) : ∀ j, j < 16 → u a j = u b j := h
theorem rowG_H {K : cK} {f : Nat → Int32} (h : rowG K N f) : rowH N f := h.1
theorem rowH_congr {f f' : Nat → Int32} (e : ∀ j, j < 16 → f j = f' j) (h : rowH N f) : rowH N f' := by
  intro t ht
  rw [← e t (by omega)]
  exact h t ht
theorem room_s (h : relC u T M N) {p : Nat} (hp : p < N 3) : k_room u T (nI p) = s_room (col u M) p := room_eq h.1 h.2.2.1 hp
theorem roomIn_s {K : cK} {f : Nat → Int32} (h : rowG K N f) {p : Nat} (hp : p < N 3) : s_roomIn K f p = s_room K p - f (4 + p) := by
  obtain ⟨s, r, hs, hr, e1, e2⟩ := h.2.1 p hp
  unfold s_roomIn
  rw [e1, e2]
  by_cases c : nI r - nI s ≤ 0
  · rw [if_pos c]
    have : nI r - nI s = nI (r - s) := by
      have := nI_add (r - s) s
      rw [Nat.sub_add_cancel hs] at this
      rw [← this]
      exact Int32.add_sub_cancel _ _
    rw [this] at c ⊢
    have hz : r - s = 0 := by
      rw [← nI_0] at c
      have := (nI_leI (by omega) (by decide)).mp c
      omega
    rw [hz, nI_0]
  · rw [if_neg c]
end RDH
def bndN (N : Nat → Nat) : Prop := N 0 ≤ 7 ∧ N 1 ≤ 100 ∧ N 2 ≤ 4 ∧ N 3 ≤ 5 ∧ N 4 ≤ 4 ∧ N 5 ≤ 3 ∧ N 6 ≤ 16 ∧ N 7 ≤ 12 ∧ N 8 ≤ 4 ∧ N 9 ≤ 8
theorem bndN_of {u : mU} {B M : Nat} {N : Nat → Nat} (h : relCnt u B M N) : bndN N := ⟨(h 0 (by decide)).2.2, (h 1 (by decide)).2.2, (h 2 (by decide)).2.2, (h 3 (by decide)).2.2, (h 4 (by decide)).2.2, (h 5 (by decide)).2.2, (h 6 (by decide)).2.2, (h 7 (by decide)).2.2, (h 8 (by decide)).2.2, (h 9 (by decide)).2.2⟩
section GOS
variable {P Q : cP} {α : Type}
/-- an asking op: without a college refused as 1; else by the two runs; general ends -/
theorem goW [DecidableEq α] {f10 f12 : qS → Option (α × qS)} {g : qS} {n : Nat} {A0 : α} (hI : Inv P Q g n)
    (h10 : ∀ T D c4 m u v, okTD T D → IN T u → f10 (Rep (SH T D fN c4 m) u v) = some (A0, Rep (SH T D fN c4 m) (wr u 0 7 1) v))
    (h12 : ∀ T D c4 m u v, f12 (Rep (SH T D fN c4 m) u v) = some (A0, Rep (SH T D fN c4 m) (wr (wr (wr u 75 0 0) 75 1 1) 75 2 (-1)) v))
    (hgo : ∀ T D c4 m u v M N, okTD T D → cSh (SH T D (fR M) c4 m) T → mSh (SH T D (fR M) c4 m) M → 88 ≤ M → bndN N → IA T M N u → ∃ A t u1 v1, t ≠ 4 ∧ f10 (Rep (SH T D (fR M) c4 m) u v) = some (A, Rep (SH T D (fR M) c4 m) (wr u1 0 7 t) v1) ∧ keep u u1 ∧ ∀ u' v', keep u (wr u' 75 0 0) → IA T M N (wr u' 75 0 0) → (∀ i, wr u' 75 0 0 (M + i) = u (M + i)) → (∀ j, j < 16 → wr u' 75 0 0 77 j = u 29 j) → ∃ u2 v2, f12 (Rep (SH T D (fR M) c4 m) u' v') = some (A, Rep (SH T D (fR M) c4 m) (wr (wr u2 75 1 t) 75 2 (-1)) v2) ∧ keep (wr u' 75 0 0) u2 ∧ u2 0 7 = u' 0 7) :
    ∃ g', (q_b2 (f10 g) fun r1 g1 => q_b2 (f12 g1) fun r2 g2 => if r1 = r2 then some g2 else none) = some g' ∧ Inv P Q g' n := by
  refine ask hI ?_
  intro T D c3 c4 m u v ho hK
  rcases hK.2 with ⟨rfl, hN⟩ | ⟨k, N, hk, rfl, hA, hW⟩
  · refine ⟨A0, 1, _, v, by decide, h10 T D c4 m u v ho hN, keep_wr keep_refl rfl, wr_same _ _ _ _, ?_⟩
    intro u' v' hk
    refine ⟨_, v', h12 T D c4 m u' v', keep_wr (keep_wr (keep_wr keep_refl rfl) rfl) rfl, ?_, wr_same _ _ _ _, ?_⟩
    · rw [wr_ix (by decide), wr_same]
    · rw [wr_role (by decide), wr_role (by decide), wr_role (by decide)]
  · obtain ⟨A, t, u1, v1, ht, e1, k1, h2⟩ := hgo T D c4 m u v (88 + k * 25) N ho (SH_told ho) (SH_mod hk) (by omega) (bndN_of hA.1.1) hA
    refine ⟨A, t, _, v1, ht, e1, keep_wr k1 rfl, wr_same _ _ _ _, ?_⟩
    intro u' v' hk'
    have hkw : keep u (wr u' 75 0 0) := keep_wr hk' rfl
    obtain ⟨u2, v2, e2, k2, s2⟩ := h2 u' v' hkw (IA_keep (keep_B hkw) ho (by omega) hA) (fun i => keepB_M (keep_B hkw) (by omega) i) (fun j hj => by
      rw [hkw 77 j rfl]
      exact (hA.2.2.1 j hj).symm)
    refine ⟨_, v2, e2, keep_wr (keep_wr (keep_trans (keep_wr keep_refl rfl) k2) rfl) rfl, ?_, wr_same _ _ _ _, ?_⟩
    · rw [wr_ix (by decide), wr_same]
    · rw [wr_role (by decide), wr_role (by decide), s2]
/-- the same where neither side leaves anything behind -/
theorem go0 [DecidableEq α] {f10 f12 : qS → Option (α × qS)} {g : qS} {n : Nat} {A0 : α} (hI : Inv P Q g n)
    (h10 : ∀ T D c4 m u v, okTD T D → IN T u → f10 (Rep (SH T D fN c4 m) u v) = some (A0, Rep (SH T D fN c4 m) (wr u 0 7 1) v))
    (h12 : ∀ T D c4 m u v, f12 (Rep (SH T D fN c4 m) u v) = some (A0, Rep (SH T D fN c4 m) (wr (wr (wr u 75 0 0) 75 1 1) 75 2 (-1)) v))
    (hgo : ∀ T D c4 m u v M N, okTD T D → cSh (SH T D (fR M) c4 m) T → mSh (SH T D (fR M) c4 m) M → 88 ≤ M → bndN N → IA T M N u → ∃ A t, t ≠ 4 ∧ f10 (Rep (SH T D (fR M) c4 m) u v) = some (A, Rep (SH T D (fR M) c4 m) (wr u 0 7 t) v) ∧ ∀ u' v', keep u (wr u' 75 0 0) → IA T M N (wr u' 75 0 0) → (∀ i, wr u' 75 0 0 (M + i) = u (M + i)) → (∀ j, j < 16 → wr u' 75 0 0 77 j = u 29 j) → f12 (Rep (SH T D (fR M) c4 m) u' v') = some (A, Rep (SH T D (fR M) c4 m) (wr (wr (wr u' 75 0 0) 75 1 t) 75 2 (-1)) v')) :
    ∃ g', (q_b2 (f10 g) fun r1 g1 => q_b2 (f12 g1) fun r2 g2 => if r1 = r2 then some g2 else none) = some g' ∧ Inv P Q g' n := by
  refine goW hI h10 h12 ?_
  intro T D c4 m u v M N ho hC hM h88 hb hA
  obtain ⟨A, t, ht, e1, h2⟩ := hgo T D c4 m u v M N ho hC hM h88 hb hA
  refine ⟨A, t, u, v, ht, e1, keep_refl, ?_⟩
  intro u' v' a1 a2 a3 a4
  exact ⟨_, v', h2 u' v' a1 a2 a3 a4, keep_refl, wr_role (by decide)⟩
end GOS
