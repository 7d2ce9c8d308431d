theorem fmB_82 {u : mU} {W G : Nat → Int32} {a : Int32} : fmB u W G a 82 = W := by unfold fmB; rw [wr_off (by decide), put_ne (by decide), put_at]
section MGH
variable {T D m M : Nat} {c4 : sF} {u : mU} {v : mV} {N : Nat → Nat} {W : Nat} {G : Nat → Int32} {a : Int32}
/-- the ways of a row are written -/
def wyO (K : cK) (N : Nat → Nat) (W : Nat) (w : Nat → Nat) (Y : Nat → Int32) (n : Nat) : Prop := ∀ j, j < n → w j < W ∧ Y j = nI (w j) ∧ alo K N j (w j) = true
def mgE (T D m M : Nat) (c4 : sF) (u : mU) (v : mV) (G : Nat → Int32) (a : Int32) (K : cK) (N : Nat → Nat) (W B n : Nat) (Y : Nat → Int32) (o : Option (Nat → Nat)) (F : Nat → Option (Int32 × qS)) (z : Int32) : Prop :=
  (∃ c cost Y' X', o = some c ∧ cost ≤ B ∧ wyO K N W c Y' (N 2) ∧ ∀ f, F (f + cost) = some (1, fgS T D m M c4 u v G a Y' X')) ∨ (∃ cost Y' X', o = none ∧ cost ≤ B ∧ (∀ j, j < n → Y' j = Y j) ∧ ∀ f, F (f + cost) = L_X12_gives_17 f 75 (nI W) z (fgS T D m M c4 u v G a Y' X'))
def mgN (T D m M : Nat) (c4 : sF) (u : mU) (v : mV) (G : Nat → Int32) (a : Int32) (N : Nat → Nat) (W r k B : Nat) : Prop := ∀ (w : Nat → Nat) (Y X : Nat → Int32), wyO (col u M) N W w Y (k + 1) → mgE T D m M c4 u v G a (col u M) N W B (k + 1) Y (mSr (col u M) N W r (k + 1) w) (fun f => J_X12_gives_76 (L_X12_gives_17 f) 75 (nI W) (nI k) (fgS T D m M c4 u v G a Y X)) (nI k)
def mgH (T D m M : Nat) (c4 : sF) (u : mU) (v : mV) (G : Nat → Int32) (a : Int32) (N : Nat → Nat) (W r k B : Nat) : Prop := ∀ (w : Nat → Nat) (Y X : Nat → Int32), wyO (col u M) N W w Y k → Y k = -1 → mgE T D m M c4 u v G a (col u M) N W B k Y (mSr (col u M) N W r k w) (fun f => L_X12_gives_17 f 75 (nI W) (nI k) (fgS T D m M c4 u v G a Y X)) (nI k + (-1))
theorem mg_leaf {k : Nat} (ho : okTD T D) (hMs : mSh (SH T D (fR M) c4 m) M) (hM : 88 ≤ M) (h : relC u T M N) (hW5 : W ≤ 105) (hk : k + 1 = N 2) : mgN T D m M c4 u v G a N W 0 k 0 := by
  have hb := bndN_of h.1
  have b2 : N 2 ≤ 4 := hb.2.2.1
  have m2 : ∀ (Y X : Nat → Int32), put (fmB u Y G a) 78 X M 2 = nI (N 2) := fun Y X => by rw [fm_M0 hM]; exact (h.1 2 (by decide)).2.1
  intro w Y X hw
  obtain ⟨w1, w2, -⟩ := hw k (by omega)
  have c1 : nI (w k) < nI W := nI_lt (by omega) (by omega)
  have c2 : nI (N 2) ≤ nI k + 1 := by rw [nI_1]; exact nI_le (by omega) (by omega)
  obtain ⟨X', e⟩ := ref_given (v := v) (c4 := c4) (m := m) (u := fmB u Y G a) (ch := w) ho hMs hM (fm_relC ho hM h) (fun j hj => by
    obtain ⟨a1, a2, -⟩ := hw j (by omega)
    rw [fmB_82]
    exact ⟨by omega, a2⟩) (fun j hj => by
    obtain ⟨-, -, a3⟩ := hw j (by omega)
    unfold alo at a3
    rw [Bool.and_eq_true] at a3
    exact of_decide_eq_true a3.1) X
  rw [fm_col hM, show alD (stS (col u M) w (N 2)) (N 2) = mL (col u M) N w from rfl] at e
  have hs : ∀ f, J_X12_gives_76 (L_X12_gives_17 f) 75 (nI W) (nI k) (fgS T D m M c4 u v G a Y X) = if bI (mL (col u M) N w) = 0 then L_X12_gives_17 f 75 (nI W) (nI k) (fgS T D m M c4 u v G a Y X') else some (1, fgS T D m M c4 u v G a Y X') := by
    intro f
    unfold J_X12_gives_76
    rw [gR_75_22, Option.bind_some, aI_82 (show k < 4 by omega), fm_82, w2, Option.bind_some, if_pos c1, gR_75_3, Option.bind_some, mI_2 hMs, m2, Option.bind_some, if_pos c2, e, q_b2_some]
  cases cm : mL (col u M) N w with
  | true =>
    refine Or.inl ⟨w, 0, Y, X', ?_, by omega, fun j hj => hw j (by omega), fun f => ?_⟩
    · show (if mL (col u M) N w = true then some w else none) = some w
      rw [cm, if_pos rfl]
    · show J_X12_gives_76 (L_X12_gives_17 (f + 0)) 75 (nI W) (nI k) (fgS T D m M c4 u v G a Y X) = _
      rw [hs, cm, show bI true = 1 from rfl, if_neg (by decide)]
  | false =>
    refine Or.inr ⟨0, Y, X', ?_, by omega, fun j hj => rfl, fun f => ?_⟩
    · show (if mL (col u M) N w = true then some w else none) = none
      rw [cm, if_neg (by decide)]
    · show J_X12_gives_76 (L_X12_gives_17 (f + 0)) 75 (nI W) (nI k) (fgS T D m M c4 u v G a Y X) = _
      rw [hs, cm, show bI false = 0 from rfl, if_pos rfl]
      rfl
theorem mg_next {r k B : Nat} (ho : okTD T D) (hMs : mSh (SH T D (fR M) c4 m) M) (hM : 88 ≤ M) (h : relC u T M N) (hW5 : W ≤ 105) (hk : k + 1 < N 2) (H : mgH T D m M c4 u v G a N W r (k + 1) B) : mgN T D m M c4 u v G a N W r k B := by
  have hb := bndN_of h.1
  have b2 : N 2 ≤ 4 := hb.2.2.1
  have m2 : ∀ (Y X : Nat → Int32), put (fmB u Y G a) 78 X M 2 = nI (N 2) := fun Y X => by rw [fm_M0 hM]; exact (h.1 2 (by decide)).2.1
  intro w Y X hw
  obtain ⟨w1, w2, -⟩ := hw k (by omega)
  have c1 : nI (w k) < nI W := nI_lt (by omega) (by omega)
  have c2 : ¬ nI (N 2) ≤ nI (k + 1) := nI_ge (by omega) (by omega)
  have q := H w (upd Y (k + 1) (-1)) X (fun j hj => by
    rw [upd_at, if_neg (by omega)]
    exact hw j hj) (by rw [upd_at, if_pos rfl])
  rw [pd_m] at q
  have hs : ∀ f, J_X12_gives_76 (L_X12_gives_17 f) 75 (nI W) (nI k) (fgS T D m M c4 u v G a Y X) = L_X12_gives_17 f 75 (nI W) (nI (k + 1)) (fgS T D m M c4 u v G a (upd Y (k + 1) (-1)) X) := by
    intro f
    unfold J_X12_gives_76
    rw [gR_75_22, Option.bind_some, aI_82 (show k < 4 by omega), fm_82, w2, Option.bind_some, if_pos c1, gR_75_3, Option.bind_some, mI_2 hMs, m2, Option.bind_some, nI_1, if_neg c2, Option.bind_some, sI_82 (show k + 1 < 4 by omega), Option.bind_some, fm_w]
  rcases q with ⟨c, cost, Y', X', q1, q2, q3, q4⟩ | ⟨cost, Y', X', q1, q2, q3, q4⟩
  · exact Or.inl ⟨c, cost, Y', X', q1, q2, q3, fun f => (hs (f + cost)).trans (q4 f)⟩
  · exact Or.inr ⟨cost, Y', X', q1, q2, fun j hj => by rw [q3 j hj, upd_at, if_neg (by omega)], fun f => (hs (f + cost)).trans (q4 f)⟩
theorem mg_level {r k B : Nat} (ho : okTD T D) (hMs : mSh (SH T D (fR M) c4 m) M) (hM : 88 ≤ M) (h : relC u T M N) (hW5 : W ≤ 105) (hk : k < N 2) (H : mgN T D m M c4 u v G a N W r k B) : mgH T D m M c4 u v G a N W (r + 1) k (106 * (1 + B)) := by
  have hb := bndN_of h.1
  have b2 : N 2 ≤ 4 := hb.2.2.1
  have hk4 : k < 4 := by omega
  have cz : ¬ nI k < 0 := nI_pos (by omega)
  have cn : ¬ nI W < nI W := nI_nlt (Nat.le_refl _) (by omega)
  have go : ∀ (b e i : Nat), e ≤ b → i + e = W → ∀ (w : Nat → Nat) (Y X : Nat → Int32), wyO (col u M) N W w Y k → Y k + 1 = nI i → mgE T D m M c4 u v G a (col u M) N W ((e + 1) * (1 + B)) k Y (ff (mSt (col u M) N W r k w) e i) (fun f => L_X12_gives_17 f 75 (nI W) (nI k) (fgS T D m M c4 u v G a Y X)) (nI k + (-1)) := by
    intro b
    induction b with
    | zero =>
      intro e i he hi w Y X hw hY
      have hi : i = W := by omega
      have he : e = 0 := by omega
      subst he
      obtain ⟨i', Y', X', h1, h2, h3, h4, h5, h6, h7⟩ := mg_scan (w := w) (G := G) (a := a) (v := v) ho hMs hM h hk hW5 0 i 1000000000 (upd Y k (nI i)) X (by omega) (by omega) (fun j hj => by
        rw [upd_at, if_neg (by omega)]
        obtain ⟨a1, a2, -⟩ := hw j hj
        exact ⟨by omega, a2⟩) (by rw [upd_at, if_pos rfl])
      have hi' : i' = W := by omega
      subst hi'
      refine Or.inr ⟨1, Y', X', rfl, by omega, fun j hj => by rw [h5 j hj, upd_at, if_neg (by omega)], fun f => ?_⟩
      show L_X12_gives_17 (f + 1) 75 _ (nI k) (fgS T D m M c4 u v G a Y X) = _
      rw [L_X12_gives_17, if_neg cz, gR_75_22, Option.bind_some, aI_82 hk4, fm_82, Option.bind_some, hY, sI_82 hk4, Option.bind_some, fm_w, h7]
      unfold J_X12_gives_76
      rw [gR_75_22, Option.bind_some, aI_82 hk4, fm_82, h6, Option.bind_some, if_neg cn]
    | succ b ih =>
      intro e i he hi w Y X hw hY
      obtain ⟨i', Y', X', h1, h2, h3, h4, h5, h6, h7⟩ := mg_scan (w := w) (G := G) (a := a) (v := v) ho hMs hM h hk hW5 e i 1000000000 (upd Y k (nI i)) X (by omega) (by omega) (fun j hj => by
        rw [upd_at, if_neg (by omega)]
        obtain ⟨a1, a2, -⟩ := hw j hj
        exact ⟨by omega, a2⟩) (by rw [upd_at, if_pos rfl])
      have h5' : ∀ j, j < k → Y' j = Y j := fun j hj => by rw [h5 j hj, upd_at, if_neg (by omega)]
      have elp : ff (mSt (col u M) N W r k w) e i = ff (mSt (col u M) N W r k w) (W - i') i' := by
        rw [show e = (i' - i) + (W - i') by omega, ff_add, ff_none (i' - i) i (fun x a1 a2 => by
          unfold mSt
          rw [h4 x a1 (by omega), if_neg (by decide)]), show i + (i' - i) = i' by omega]
      rw [elp]
      by_cases ci : i' < W
      · have hv := h3 ci
        have q := H (updN w k i') Y' X' (fun j hj => by
          rw [updN_at]
          by_cases cj : j = k
          · rw [if_pos cj, cj]
            refine ⟨ci, h6, ?_⟩
            unfold mA at hv
            rw [Bool.and_eq_true] at hv
            exact hv.1
          · rw [if_neg cj, h5' j (by omega)]; exact hw j (by omega))
        have hst : mSt (col u M) N W r k w i' = mSr (col u M) N W r (k + 1) (updN w k i') := by
          unfold mSt
          rw [hv, if_pos rfl]
        have hs : ∀ f, L_X12_gives_17 (f + 1) 75 (nI W) (nI k) (fgS T D m M c4 u v G a Y X) = J_X12_gives_76 (L_X12_gives_17 f) 75 (nI W) (nI k) (fgS T D m M c4 u v G a Y' X') := by
          intro f
          rw [L_X12_gives_17, if_neg cz, gR_75_22, Option.bind_some, aI_82 hk4, fm_82, Option.bind_some, hY, sI_82 hk4, Option.bind_some, fm_w, h7]
        rcases q with ⟨c, cost, Y2, X2, q1, q2, q3, q4⟩ | ⟨cost, Y2, X2, q1, q2, q3, q4⟩
        · refine Or.inl ⟨c, cost + 1, Y2, X2, ?_, ?_, q3, fun f => ?_⟩
          · rw [show W - i' = (W - (i' + 1)) + 1 by omega]
            exact ff_hit (by rw [hst, q1])
          · have : 1 * (1 + B) ≤ (e + 1) * (1 + B) := Nat.mul_le_mul_right _ (by omega)
            omega
          · show L_X12_gives_17 (f + (cost + 1)) 75 (nI W) (nI k) (fgS T D m M c4 u v G a Y X) = _
            rw [show f + (cost + 1) = (f + cost) + 1 by omega, hs]
            exact q4 f
        · have hY2 : Y2 k + 1 = nI (i' + 1) := by rw [q3 k (by omega), h6, nI_1]
          have q' := ih (W - (i' + 1)) (i' + 1) (by omega) (by omega) w Y2 X2 (fun j hj => by
            rw [q3 j (by omega), h5' j hj]; exact hw j hj) hY2
          have eff : ff (mSt (col u M) N W r k w) (W - i') i' = ff (mSt (col u M) N W r k w) (W - (i' + 1)) (i' + 1) := by
            rw [show W - i' = (W - (i' + 1)) + 1 by omega]
            exact ff_miss (by rw [hst, q1])
          rw [eff]
          have hB : (W - (i' + 1) + 1) * (1 + B) + (1 + B) ≤ (e + 1) * (1 + B) := by
            have h8 : (W - (i' + 1) + 1) * (1 + B) ≤ e * (1 + B) := Nat.mul_le_mul_right _ (by omega)
            have h9 : (e + 1) * (1 + B) = e * (1 + B) + (1 + B) := Nat.succ_mul _ _
            omega
          have hs2 : ∀ f, L_X12_gives_17 (f + cost + 1) 75 (nI W) (nI k) (fgS T D m M c4 u v G a Y X) = L_X12_gives_17 f 75 (nI W) (nI k) (fgS T D m M c4 u v G a Y2 X2) := fun f => (hs (f + cost)).trans (q4 f)
          rcases q' with ⟨c, co2, Y3, X3, p1, p2, p3, p4⟩ | ⟨co2, Y3, X3, p1, p2, p3, p4⟩
          · refine Or.inl ⟨c, co2 + cost + 1, Y3, X3, p1, by omega, p3, fun f => ?_⟩
            show L_X12_gives_17 (f + (co2 + cost + 1)) 75 (nI W) (nI k) (fgS T D m M c4 u v G a Y X) = _
            rw [show f + (co2 + cost + 1) = (f + co2) + cost + 1 by omega, hs2]
            exact p4 f
          · refine Or.inr ⟨co2 + cost + 1, Y3, X3, p1, by omega, fun j hj => by rw [p3 j hj, q3 j (by omega), h5' j hj], fun f => ?_⟩
            show L_X12_gives_17 (f + (co2 + cost + 1)) 75 (nI W) (nI k) (fgS T D m M c4 u v G a Y X) = _
            rw [show f + (co2 + cost + 1) = (f + co2) + cost + 1 by omega, hs2]
            exact p4 f
      · have hi' : i' = W := by omega
        subst hi'
        refine Or.inr ⟨1, Y', X', ?_, Nat.succ_le_of_lt (Nat.mul_pos (by omega) (by omega)), h5', fun f => ?_⟩
        · rw [Nat.sub_self]
          rfl
        · show L_X12_gives_17 (f + 1) 75 _ (nI k) (fgS T D m M c4 u v G a Y X) = _
          rw [L_X12_gives_17, if_neg cz, gR_75_22, Option.bind_some, aI_82 hk4, fm_82, Option.bind_some, hY, sI_82 hk4, Option.bind_some, fm_w, h7]
          unfold J_X12_gives_76
          rw [gR_75_22, Option.bind_some, aI_82 hk4, fm_82, h6, Option.bind_some, if_neg cn]
  intro w Y X hw hY
  have q := go W W 0 (by omega) (by omega) w Y X hw (by rw [hY, nI_0]; decide)
  have hB : (W + 1) * (1 + B) ≤ 106 * (1 + B) := Nat.mul_le_mul_right _ (by omega)
  rcases q with ⟨c, cost, Y', X', q1, q2, q3, q4⟩ | ⟨cost, Y', X', q1, q2, q3, q4⟩
  · exact Or.inl ⟨c, cost, Y', X', q1, by omega, q3, q4⟩
  · exact Or.inr ⟨cost, Y', X', q1, by omega, q3, q4⟩
theorem mg_all (ho : okTD T D) (hMs : mSh (SH T D (fR M) c4 m) M) (hM : 88 ≤ M) (h : relC u T M N) (hW5 : W ≤ 105) : ∀ (r k : Nat), k + 1 + r = N 2 → mgN T D m M c4 u v G a N W r k (mdB r) := by
  intro r
  induction r with
  | zero => intro k hk; exact mg_leaf ho hMs hM h hW5 (by omega)
  | succ r ih => intro k hk; exact mg_next ho hMs hM h hW5 (by omega) (mg_level ho hMs hM h hW5 (by omega) (ih (k + 1) (by omega)))
end MGH
