section FMH
variable {T D m M : Nat} {c4 : sF} {u : mU} {v : mV} {N : Nat → Nat}
/-- the model's state while it fits -/
abbrev fmS (T D m M : Nat) (c4 : sF) (u : mU) (v : mV) (W X : Nat → Int32) (st : fS) : qS := Rep (SH T D (fR M) c4 m) (put (fmB u W st.2 (nI st.1)) 78 X) v
def mdN (T D m M : Nat) (c4 : sF) (u : mU) (v : mV) (N : Nat → Nat) (r k B : Nat) : Prop := ∀ (w : Nat → Nat) (W X : Nat → Int32) (st : fS), (∀ j, j ≤ k → w j < 105 ∧ W j = nI (w j)) → ∃ c W' X', c ≤ B ∧ (∀ j, j ≤ k → W' j = W j) ∧ ∀ f, J_X12_fitting_80 (L_X12_fitting_34 (f + c)) 75 (nI k) (fmS T D m M c4 u v W X st) = L_X12_fitting_34 f 75 (nI k) (fmS T D m M c4 u v W' X' (fitR (col u M) N (N 8) r (k + 1) (fun j => w j / 5) st))
def mdH (T D m M : Nat) (c4 : sF) (u : mU) (v : mV) (N : Nat → Nat) (r k B : Nat) : Prop := ∀ (w : Nat → Nat) (W X : Nat → Int32) (st : fS), (∀ j, j < k → w j < 105 ∧ W j = nI (w j)) → W k = -1 → ∃ c W' X', c ≤ B ∧ (∀ j, j < k → W' j = W j) ∧ ∀ f, L_X12_fitting_34 (f + c) 75 (nI k) (fmS T D m M c4 u v W X st) = L_X12_fitting_34 f 75 (nI k + (-1)) (fmS T D m M c4 u v W' X' (fitR (col u M) N (N 8) r k (fun j => w j / 5) st))
theorem md_leaf {k : Nat} (ho : okTD T D) (hMs : mSh (SH T D (fR M) c4 m) M) (hM : 88 ≤ M) (h : relC u T M N) (hk : k + 1 = N 8) : mdN T D m M c4 u v N 0 k 0 := by
  have hb := bndN_of h.1
  have b8 : N 8 ≤ 4 := hb.2.2.2.2.2.2.2.2.1
  have m8 := (h.1 8 (by decide)).2.1
  intro w W X st hw
  obtain ⟨w2, e2⟩ := hw k (by omega)
  have c1 : nI (w k) < 105 := (show nI (w k) < nI 105 from nI_lt (by omega) (by omega))
  have c2 : nI (N 8) ≤ nI k + 1 := by rw [nI_1]; exact nI_le (by omega) (by omega)
  refine ⟨0, W, X, by omega, fun j _ => rfl, fun f => ?_⟩
  have e := ref_leaf (v := v) (X := X) (a := nI (st.1 + 1)) (k := k) (kk := fun y7 y8 g9 => L_X12_fitting_34 (f + 0) y7 y8 g9) ho hMs hM h (fun j hj => hw j (by omega)) (N 8) 0 1000000000 st.2 (by omega) (by omega)
  rw [nI_0] at e
  unfold J_X12_fitting_80
  rw [gR_75_22, Option.bind_some, aI_82 (show k < 4 by omega), fm_82, e2, Option.bind_some, if_pos c1, gR_75_3, Option.bind_some, mI_8 hMs, fm_M0 hM, m8, Option.bind_some, if_pos c2, gI_75_24, Option.bind_some, fm_a, nI_1, pI_75_24, Option.bind_some, fm_wa, e]
  rfl
theorem md_next {r k B : Nat} (ho : okTD T D) (hMs : mSh (SH T D (fR M) c4 m) M) (hM : 88 ≤ M) (h : relC u T M N) (hk : k + 1 < N 8) (H : mdH T D m M c4 u v N r (k + 1) B) : mdN T D m M c4 u v N r k B := by
  have hb := bndN_of h.1
  have b8 : N 8 ≤ 4 := hb.2.2.2.2.2.2.2.2.1
  have m8 := (h.1 8 (by decide)).2.1
  intro w W X st hw
  obtain ⟨w2, e2⟩ := hw k (by omega)
  have c1 : nI (w k) < 105 := (show nI (w k) < nI 105 from nI_lt (by omega) (by omega))
  have c2 : ¬ nI (N 8) ≤ nI (k + 1) := nI_ge (by omega) (by omega)
  obtain ⟨c, W', X', h1, h2, h3⟩ := H w (upd W (k + 1) (-1)) X st (fun j hj => by
    rw [upd_at, if_neg (by omega)]
    exact hw j (by omega)) (by rw [upd_at, if_pos rfl])
  refine ⟨c, W', X', h1, fun j hj => by rw [h2 j (by omega), upd_at, if_neg (by omega)], fun f => ?_⟩
  have e := h3 f
  have hz : nI (k + 1) + (-1) = nI k := by
    rw [← Int32.sub_eq_add_neg]
    exact nI_pred ..
  rw [hz] at e
  rw [← e]
  unfold J_X12_fitting_80
  rw [gR_75_22, Option.bind_some, aI_82 (show k < 4 by omega), fm_82, e2, Option.bind_some, if_pos c1, gR_75_3, Option.bind_some, mI_8 hMs, fm_M0 hM, m8, Option.bind_some, nI_1, if_neg c2, Option.bind_some, sI_82 (show k + 1 < 4 by omega), Option.bind_some, fm_w]
theorem md_level {r k B : Nat} (ho : okTD T D) (hMs : mSh (SH T D (fR M) c4 m) M) (hM : 88 ≤ M) (h : relC u T M N) (hk : k < N 8) (H : mdN T D m M c4 u v N r k B) : mdH T D m M c4 u v N (r + 1) k (106 * (1 + B)) := by
  have hb := bndN_of h.1
  have b8 : N 8 ≤ 4 := hb.2.2.2.2.2.2.2.2.1
  have hk4 : k < 4 := by omega
  have cz : ¬ nI k < 0 := nI_pos (by omega)
  have go : ∀ (b e i : Nat), e ≤ b → i + e = 105 → ∀ (w : Nat → Nat) (W X : Nat → Int32) (st : fS), (∀ j, j < k → w j < 105 ∧ W j = nI (w j)) → W k + 1 = nI i → ∃ c W' X', c ≤ (e + 1) * (1 + B) ∧ (∀ j, j < k → W' j = W j) ∧ ∀ f, L_X12_fitting_34 (f + c) 75 (nI k) (fmS T D m M c4 u v W X st) = L_X12_fitting_34 f 75 (nI k + (-1)) (fmS T D m M c4 u v W' X' (lp (fWy (col u M) N (fun s st => fitR (col u M) N (N 8) r (k + 1) (updN (fun j => w j / 5) k s) st) (fun j => w j / 5) k) e i st)) := by
    intro b
    induction b with
    | zero =>
      intro e i he hi w W X st hw hW
      have hi : i = 105 := by omega
      have he : e = 0 := by omega
      subst hi he
      obtain ⟨i', W', X', h1, h2, h3, h4, h5, h6, h7⟩ := ref_scan (w := w) (G := st.2) (a := nI st.1) (v := v) ho hMs hM h hk 0 105 1000000000 (upd W k (nI 105)) X (by omega) (by omega) (fun j hj => by
        rw [upd_at, if_neg (by omega)]
        exact hw j hj) (by rw [upd_at, if_pos rfl])
      have hi' : i' = 105 := by omega
      subst hi'
      refine ⟨1, W', X', by omega, fun j hj => by rw [h5 j hj, upd_at, if_neg (by omega)], fun f => ?_⟩
      have cn : ¬ nI 105 < (105 : Int32) := by decide
      rw [L_X12_fitting_34, if_neg cz, gR_75_22, Option.bind_some, aI_82 hk4, fm_82, Option.bind_some, hW, sI_82 hk4, Option.bind_some, fm_w, h7]
      unfold J_X12_fitting_80
      rw [gR_75_22, Option.bind_some, aI_82 hk4, fm_82, h6, Option.bind_some, if_neg cn]
      rfl
    | succ b ih =>
      intro e i he hi w W X st hw hW
      obtain ⟨i', W', X', h1, h2, h3, h4, h5, h6, h7⟩ := ref_scan (w := w) (G := st.2) (a := nI st.1) (v := v) ho hMs hM h hk e i 1000000000 (upd W k (nI i)) X (by omega) (by omega) (fun j hj => by
        rw [upd_at, if_neg (by omega)]
        exact hw j hj) (by rw [upd_at, if_pos rfl])
      have h5' : ∀ j, j < k → W' j = W j := fun j hj => by rw [h5 j hj, upd_at, if_neg (by omega)]
      have elp : lp (fWy (col u M) N (fun s st => fitR (col u M) N (N 8) r (k + 1) (updN (fun j => w j / 5) k s) st) (fun j => w j / 5) k) e i st = lp (fWy (col u M) N (fun s st => fitR (col u M) N (N 8) r (k + 1) (updN (fun j => w j / 5) k s) st) (fun j => w j / 5) k) (105 - i') i' st := by
        rw [show e = (i' - i) + (105 - i') by omega, lp_add, lp_id (i' - i) i st (fun x s a1 a2 => by
          show (if _ then _ else _) = s
          rw [h4 x a1 (by omega), if_neg (by decide)]), show i + (i' - i) = i' by omega]
      rw [elp]
      by_cases ci : i' < 105
      · have hv := h3 ci
        obtain ⟨c1, W1, X1, g1, g2, g3⟩ := H (updN w k i') W' X' st (fun j hj => by
          rw [updN_at]
          by_cases cj : j = k
          · rw [if_pos cj, cj]; exact ⟨ci, h6⟩
          · rw [if_neg cj, h5' j (by omega)]; exact hw j (by omega))
        have ech : (fun j => updN w k i' j / 5) = updN (fun j => w j / 5) k (i' / 5) := by
          funext j
          rw [updN_at, updN_at]
          by_cases cj : j = k
          · rw [if_pos cj, if_pos cj]
          · rw [if_neg cj, if_neg cj]
        rw [ech] at g3
        obtain ⟨c2, W2, X2, k1, k2, k3⟩ := ih (105 - (i' + 1)) (i' + 1) (by omega) (by omega) w W1 X1 (fitR (col u M) N (N 8) r (k + 1) (updN (fun j => w j / 5) k (i' / 5)) st) (fun j hj => by
          rw [g2 j (by omega), h5' j hj]; exact hw j hj) (by rw [g2 k (by omega), h6, nI_1])
        have estep : lp (fWy (col u M) N (fun s st => fitR (col u M) N (N 8) r (k + 1) (updN (fun j => w j / 5) k s) st) (fun j => w j / 5) k) (105 - i') i' st = lp (fWy (col u M) N (fun s st => fitR (col u M) N (N 8) r (k + 1) (updN (fun j => w j / 5) k s) st) (fun j => w j / 5) k) (105 - (i' + 1)) (i' + 1) (fitR (col u M) N (N 8) r (k + 1) (updN (fun j => w j / 5) k (i' / 5)) st) := by
          rw [show 105 - i' = (105 - (i' + 1)) + 1 by omega]
          simp -implicitDefEqProofs only [lp]
          exact congrArg (lp _ _ _) (if_pos hv)
        refine ⟨c2 + c1 + 1, W2, X2, ?_, fun j hj => by rw [k2 j hj, g2 j (by omega), h5' j hj], fun f => ?_⟩
        · have : (105 - (i' + 1) + 1) * (1 + B) ≤ e * (1 + B) := Nat.mul_le_mul_right _ (by omega)
          rw [Nat.succ_mul]
          omega
        · rw [estep, ← k3 f, ← g3 (f + c2)]
          rw [show f + (c2 + c1 + 1) = (f + c2 + c1) + 1 by omega, L_X12_fitting_34, if_neg cz, gR_75_22, Option.bind_some, aI_82 hk4, fm_82, Option.bind_some, hW, sI_82 hk4, Option.bind_some, fm_w, h7]
      · have hi' : i' = 105 := by omega
        subst hi'
        have cn : ¬ nI 105 < (105 : Int32) := by decide
        refine ⟨1, W', X', Nat.succ_le_of_lt (Nat.mul_pos (by omega) (by omega)), h5', fun f => ?_⟩
        rw [L_X12_fitting_34, if_neg cz, gR_75_22, Option.bind_some, aI_82 hk4, fm_82, Option.bind_some, hW, sI_82 hk4, Option.bind_some, fm_w, h7]
        unfold J_X12_fitting_80
        rw [gR_75_22, Option.bind_some, aI_82 hk4, fm_82, h6, Option.bind_some, if_neg cn]
        rfl
  intro w W X st hw hW
  obtain ⟨c, W', X', h1, h2, h3⟩ := go 105 105 0 (by omega) (by omega) w W X st hw (by rw [hW, nI_0]; decide)
  refine ⟨c, W', X', h1, h2, fun f => ?_⟩
  rw [h3 f, lv_flat hb (fnd_m ho hM h hk).2.1]
  rfl
end FMH
