theorem fre_congr {ch ch' : Nat → Nat} {k s : Nat} (h : ∀ j, j < k → ch j = ch' j) : fre ch k s = fre ch' k s := by
  rw [Bool.eq_iff_iff, fre_iff, fre_iff]
  constructor
  · intro a i hi; rw [← h i hi]; exact a i hi
  · intro a i hi; rw [h i hi]; exact a i hi
theorem lp_one {α : Type} {f : Nat → α → α} {p n : Nat} {s : α} (hp : p < n) (h : ∀ j s, j ≠ p → f j s = s) : lp f n 0 s = f p s := by
  rw [show n = p + (1 + (n - p - 1)) by omega, lp_add, lp_id p 0 s (fun j s _ hj => h j s (by omega)), lp_add]
  rw [show lp f 1 (0 + p) s = f p s by simp -implicitDefEqProofs only [lp, Nat.zero_add]]
  exact lp_id _ _ _ (fun j s h1 _ => h j s (by omega))
abbrev fWy (K : cK) (N : Nat → Nat) (F : Nat → fS → fS) (ch : Nat → Nat) (k : Nat) : Nat → fS → fS := fun x st => if fOk K N ch k x = true then F (x / 5) st else st
theorem lv_flat {K : cK} {N : Nat → Nat} {F : Nat → fS → fS} {ch : Nat → Nat} {k : Nat} {st : fS} (hb : bndN N) (hp : fP K k < N 3) : lp (fWy K N F ch k) 105 0 st = lp (wS (fun d g st => if (okG K N k d g && fre ch k (3 * d + g)) = true then F (3 * d + g) st else st)) 21 0 st := by
  have b0 : N 0 ≤ 7 := hb.1
  have b3 : N 3 ≤ 5 := hb.2.2.2.1
  have b5 : N 5 ≤ 3 := hb.2.2.2.2.2.1
  have e1 : lp (fWy K N F ch k) 105 0 st = lp (wW (fun d g p st => if (decide (p = fP K k) && (okG K N k d g && fre ch k (3 * d + g))) = true then F (3 * d + g) st else st)) 105 0 st := by
    apply lp_congr
    intro x s _ hx
    show (if fOk K N ch k x = true then F (x / 5) s else s) = (if _ then _ else _)
    rw [show 3 * (x / 15) + x / 5 % 3 = x / 5 by omega]
    unfold fOk
    by_cases c : x % 5 = fP K k
    · have ea : alo K N (fT K k) x = okG K N k (x / 15) (x / 5 % 3) := by
        unfold alo okG
        rw [c]
        by_cases c2 : x / 15 < N 0 ∧ x / 5 % 3 < N 5
        · rw [decide_eq_true c2, decide_eq_true (⟨c2.1, c2.2, hp⟩ : x / 15 < N 0 ∧ x / 5 % 3 < N 5 ∧ fP K k < N 3)]
        · rw [decide_eq_false c2, decide_eq_false (fun z : x / 15 < N 0 ∧ x / 5 % 3 < N 5 ∧ fP K k < N 3 => c2 ⟨z.1, z.2.1⟩)]
      rw [ea]
    · rw [decide_eq_false c, Bool.false_and, Bool.false_and]
  rw [e1, way_all (a := 7) (b := 3) (c := 5) (by decide) (by decide) (by decide), slt_all (a := 7) (b := 3) (by decide) (by decide)]
  · apply lp_congr
    intro d s _ _
    apply lp_congr
    intro g s _ _
    rw [lp_one (p := fP K k) (by omega)]
    · rw [decide_eq_true rfl, Bool.true_and]
    · intro j s hj
      rw [decide_eq_false hj, Bool.false_and, if_neg (by decide)]
  · intro d g s hn
    have : okG K N k d g = false := by
      unfold okG
      rw [decide_eq_false (by omega), Bool.false_and]
    rw [this, Bool.false_and, if_neg (by decide)]
  · intro d g p s hn
    by_cases c : p = fP K k
    · have : okG K N k d g = false := by
        unfold okG
        rw [decide_eq_false (by omega), Bool.false_and]
      rw [this, Bool.false_and, Bool.and_false, if_neg (by decide)]
    · rw [decide_eq_false c, Bool.false_and, if_neg (by decide)]
section FML
variable {T D m M : Nat} {c4 : sF} {u : mU} {v : mV} {N : Nat → Nat}
theorem fm_M0 {W G X : Nat → Int32} {a : Int32} (hM : 88 ≤ M) : put (fmB u W G a) 78 X M = u M := fm_M (i := 0) hM
theorem ref_scan {w : Nat → Nat} {G : Nat → Int32} {a : Int32} {k : Nat} (ho : okTD T D) (hMs : mSh (SH T D (fR M) c4 m) M) (hM : 88 ≤ M) (h : relC u T M N) (hk : k < N 8) : ∀ (e i f : Nat) (W X : Nat → Int32), i + e = 105 → e < f → (∀ j, j < k → w j < 105 ∧ W j = nI (w j)) → W k = nI i → ∃ i' W' X', i ≤ i' ∧ i' ≤ 105 ∧ (i' < 105 → fOk (col u M) N (fun j => w j / 5) k i' = true) ∧ (∀ x, i ≤ x → x < i' → fOk (col u M) N (fun j => w j / 5) k x = false) ∧ (∀ j, j < k → W' j = W j) ∧ W' k = nI i' ∧ ∀ kk, L_X12_fitting_48 kk f 75 (nI k) (Rep (SH T D (fR M) c4 m) (put (fmB u W G a) 78 X) v) = kk 75 (nI k) (Rep (SH T D (fR M) c4 m) (put (fmB u W' G a) 78 X') v) := by
  have b8 : N 8 ≤ 4 := (bndN_of h.1).2.2.2.2.2.2.2.2.1
  have hk4 : k < 4 := by omega
  intro e
  induction e with
  | zero =>
    intro i f W X hi hf hw hW
    obtain ⟨f, rfl⟩ : ∃ f', f = f' + 1 := ⟨f - 1, by omega⟩
    have c : (105 : Int32) ≤ nI i := (show nI 105 ≤ nI i from nI_le (by omega) (by omega))
    refine ⟨i, W, X, by omega, by omega, fun z => absurd z (by omega), fun x h1 h2 => absurd h2 (by omega), fun j _ => rfl, hW, fun kk => ?_⟩
    rw [L_X12_fitting_48, gR_75_22, Option.bind_some, aI_82 hk4, fm_82, hW, Option.bind_some, if_pos c]
  | succ e ih =>
    intro i f W X hi hf hw hW
    obtain ⟨f, rfl⟩ : ∃ f', f = f' + 1 := ⟨f - 1, by omega⟩
    have c : ¬ (105 : Int32) ≤ nI i := (show ¬ nI 105 ≤ nI i from nI_ge (by omega) (by omega))
    obtain ⟨X1, e1⟩ := ref_found (w := updN w k i) (W := W) (G := G) (X := X) (a := a) (v := v) ho hMs hM h hk (fun j hj => by
      rw [updN_at]
      by_cases cj : j = k
      · rw [if_pos cj, cj]; exact ⟨by omega, hW⟩
      · rw [if_neg cj]; exact hw j (by omega))
    have ef : fOk (col u M) N (fun j => updN w k i j / 5) k (updN w k i k) = fOk (col u M) N (fun j => w j / 5) k i := by
      rw [show updN w k i k = i from if_pos rfl]
      unfold fOk
      rw [fre_congr (ch := fun j => updN w k i j / 5) (ch' := fun j => w j / 5) (fun j hj => by
        show updN w k i j / 5 = w j / 5
        rw [updN_at, if_neg (by omega)])]
    rw [ef] at e1
    cases cc : fOk (col u M) N (fun j => w j / 5) k i with
    | true =>
      rw [cc] at e1
      refine ⟨i, W, X1, by omega, by omega, fun _ => cc, fun x h1 h2 => absurd h2 (by omega), fun j _ => rfl, hW, fun kk => ?_⟩
      rw [L_X12_fitting_48, gR_75_22, Option.bind_some, aI_82 hk4, fm_82, hW, Option.bind_some, if_neg c, e1, q_b2_some, show bI true = 1 from rfl, if_neg (by decide)]
    | false =>
      rw [cc] at e1
      obtain ⟨i', W', X', h1, h2, h3, h4, h5, h6, h7⟩ := ih (i + 1) f (upd W k (nI (i + 1))) X1 (by omega) (by omega) (fun j hj => by
        rw [upd_at, if_neg (by omega)]
        exact hw j hj) (by rw [upd_at, if_pos rfl])
      refine ⟨i', W', X', by omega, h2, h3, fun x a1 a2 => ?_, fun j hj => ?_, h6, fun kk => ?_⟩
      · by_cases cx : x = i
        · rw [cx]; exact cc
        · exact h4 x (by omega) a2
      · rw [h5 j hj, upd_at, if_neg (by omega)]
      · rw [← h7 kk, L_X12_fitting_48, gR_75_22, Option.bind_some, aI_82 hk4, fm_82, hW, Option.bind_some, if_neg c, e1, q_b2_some, show bI false = 0 from rfl, if_pos rfl]
        rw [gR_75_22, Option.bind_some, aI_82 hk4, fm_82, hW, Option.bind_some, nI_1, sI_82 hk4, Option.bind_some, fm_w]
theorem ref_leaf {w : Nat → Nat} {W X : Nat → Int32} {a : Int32} {k : Nat} {kk : Nat → Int32 → qS → Option qS} (ho : okTD T D) (hMs : mSh (SH T D (fR M) c4 m) M) (hM : 88 ≤ M) (h : relC u T M N) (hw : ∀ j, j < N 8 → w j < 105 ∧ W j = nI (w j)) : ∀ (r j f : Nat) (G : Nat → Int32), j + r = N 8 → r < f → L_X12_fitting_135 kk f 75 (nI k) (nI j) (Rep (SH T D (fR M) c4 m) (put (fmB u W G a) 78 X) v) = kk 75 (nI k) (Rep (SH T D (fR M) c4 m) (put (fmB u W (lp (fun j cd => upd cd (fT (col u M) j) (cd (fT (col u M) j) ||| sbit (w j / 5 % 3))) r j G) a) 78 X) v) := by
  have hb := bndN_of h.1
  have b2 : N 2 ≤ 4 := hb.2.2.1
  have b8 : N 8 ≤ 4 := hb.2.2.2.2.2.2.2.2.1
  have m8 := (h.1 8 (by decide)).2.1
  intro r
  induction r with
  | zero =>
    intro j f G hj hf
    obtain ⟨f, rfl⟩ : ∃ f', f = f' + 1 := ⟨f - 1, by omega⟩
    have c : nI (N 8) ≤ nI j := nI_le (by omega) (by omega)
    rw [L_X12_fitting_135, gR_75_3, Option.bind_some, mI_8 hMs, fm_M0 hM, m8, Option.bind_some, if_pos c]
    rfl
  | succ r ih =>
    intro j f G hj hf
    obtain ⟨f, rfl⟩ : ∃ f', f = f' + 1 := ⟨f - 1, by omega⟩
    have c : ¬ nI (N 8) ≤ nI j := nI_ge (by omega) (by omega)
    obtain ⟨ht, hp, e3, e4⟩ := fnd_m ho hM h (show j < N 8 by omega)
    obtain ⟨w2, e2⟩ := hw j (by omega)
    have hj4 : j < 4 := by omega
    have ht4 : fT (col u M) j < 4 := by omega
    have hi := ih (j + 1) f (upd G (fT (col u M) j) (G (fT (col u M) j) ||| sbit (w j / 5 % 3))) (by omega) (by omega)
    simp -implicitDefEqProofs only [lp]
    rw [← hi]
    simp -implicitDefEqProofs only [L_X12_fitting_135, gR_75_3, Option.bind_some, mI_8 hMs, fm_M0 hM, m8, c, if_false, gR_75_23, gR_75_22, mR_14 hMs, ma_4 hMs hj4, fm_M hM, e3, aI_83 ht4, fm_83, aI_82 hj4, fm_82, e2, w_giver (show w j < 2 ^ 31 by omega), sI_83 ht4, fm_g, nI_1]
end FML
