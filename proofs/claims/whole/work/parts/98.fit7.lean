def mdB : Nat → Nat
  | 0 => 0
  | r + 1 => 106 * (1 + mdB r)
theorem mdB_4 : ∀ r, r ≤ 4 → mdB r < 200000000 := by
  intro r hr
  rcases r with _ | _ | _ | _ | _ | r
  · decide
  · decide
  · decide
  · decide
  · decide
  · omega
abbrev fR0 (K : cK) (N : Nat → Nat) (Z : Nat → Int32) : fS := fitR K N (N 8) (N 8) 0 (fun _ => 0) (0, Z)
section FMZ
variable {T D m M : Nat} {c3 c4 : sF} {u : mU} {v : mV} {N : Nat → Nat}
theorem md_all (ho : okTD T D) (hMs : mSh (SH T D (fR M) c4 m) M) (hM : 88 ≤ M) (h : relC u T M N) : ∀ (r k : Nat), k + 1 + r = N 8 → mdN T D m M c4 u v N r k (mdB r) := by
  intro r
  induction r with
  | zero => intro k hk; exact md_leaf ho hMs hM h (by omega)
  | succ r ih => intro k hk; exact md_next ho hMs hM h (by omega) (md_level ho hMs hM h (by omega) (ih (k + 1) (by omega)))
theorem ref_fit7 {W X : Nat → Int32} {a : Int32} : ∀ (r i f : Nat) (G : Nat → Int32), i + r = 4 → r < f → (∀ j, j < i → G j = 0) → ∃ Z : Nat → Int32, (∀ j, j < 4 → Z j = 0) ∧ ∀ kk, L_X12_fitting_7 kk f 75 (nI i) (Rep (SH T D (fR M) c4 m) (put (fmB u W G a) 78 X) v) = kk 75 (Rep (SH T D (fR M) c4 m) (put (fmB u W Z a) 78 X) v) := by
  intro r
  induction r with
  | zero =>
    intro i f G hi hf hG
    obtain ⟨f, rfl⟩ : ∃ f', f = f' + 1 := ⟨f - 1, by omega⟩
    have c : (4 : Int32) ≤ nI i := (show nI 4 ≤ nI i from nI_le (by omega) (by omega))
    refine ⟨G, fun j hj => hG j (by omega), fun kk => ?_⟩
    rw [L_X12_fitting_7, if_pos c]
  | succ r ih =>
    intro i f G hi hf hG
    obtain ⟨f, rfl⟩ : ∃ f', f = f' + 1 := ⟨f - 1, by omega⟩
    have c : ¬ (4 : Int32) ≤ nI i := (show ¬ nI 4 ≤ nI i from nI_ge (by omega) (by omega))
    obtain ⟨Z, h1, h2⟩ := ih (i + 1) f (upd G i 0) (by omega) (by omega) (fun j hj => by
      rw [upd_at]
      by_cases cj : j = i
      · rw [if_pos cj]
      · rw [if_neg cj]; exact hG j (by omega))
    refine ⟨Z, h1, fun kk => ?_⟩
    rw [← h2 kk, L_X12_fitting_7, if_neg c, gR_75_23, Option.bind_some, sI_83 (show i < 4 by omega), Option.bind_some, fm_g, nI_1]
theorem ref_fitting (ho : okTD T D) (hMs : mSh (SH T D (fR M) c4 m) M) (hM : 88 ≤ M) (h : relC u T M N) (h8 : 1 ≤ N 8) : ∃ W X Z, (∀ j, j < 4 → Z j = 0) ∧ f_X12_fitting (Rep (SH T D (fR M) c4 m) u v) 75 = some (fmS T D m M c4 u v W X (fR0 (col u M) N Z)) := by
  have hb := bndN_of h.1
  have b8 : N 8 ≤ 4 := hb.2.2.2.2.2.2.2.2.1
  obtain ⟨Z, z1, z2⟩ := ref_fit7 (T := T) (D := D) (m := m) (M := M) (c4 := c4) (u := u) (v := v) (W := u 82) (X := u 78) (a := nI 0) 4 0 1000000000 (u 83) (by omega) (by omega) (fun j hj => absurd hj (by omega))
  rw [nI_0] at z2
  obtain ⟨r, hr⟩ : ∃ r, N 8 = r + 1 := ⟨N 8 - 1, by omega⟩
  have hm : mdH T D m M c4 u v N (r + 1) 0 (mdB (r + 1)) := md_level ho hMs hM h (by omega) (md_all ho hMs hM h r 0 (by omega))
  rw [← hr] at hm
  obtain ⟨c, W', X', h1, -, h3⟩ := hm (fun _ => 0) (upd (u 82) 0 (-1)) (u 78) (0, Z) (fun j hj => absurd hj (by omega)) (by rw [upd_at, if_pos rfl])
  have hB := mdB_4 (N 8) b8
  obtain ⟨f, hf⟩ : ∃ f, 1000000000 = (f + 1) + c := ⟨1000000000 - c - 1, by omega⟩
  have e3 := h3 (f + 1)
  rw [← hf, nI_0] at e3
  have ez : wr u 75 24 0 = put (fmB u (u 82) (u 83) (nI 0)) 78 (u 78) := by
    funext q j
    by_cases h2 : q = 78
    · subst h2; rw [wr_off (by decide), put_at]
    · rw [put_ne h2]
      unfold fmB wr
      rw [nI_0]
      by_cases h3 : q = 83
      · subst h3; rw [put_at]
      · rw [put_ne h3]
        by_cases h4 : q = 82
        · subst h4; rw [put_at]
        · rw [put_ne h4]
  have es := sI_82 (T := T) (D := D) (m := m) (c3 := fR M) (c4 := c4) (u := put (fmB u (u 82) Z (nI 0)) 78 (u 78)) (v := v) (k := 0) (x := -1) (by decide)
  rw [nI_0, fm_w] at es
  refine ⟨W', X', Z, z1, ?_⟩
  unfold f_X12_fitting
  rw [gC_75, Option.bind_some, pI_75_24, Option.bind_some, ez, nI_0, z2]
  show ((g_R _ 75 11 22).bind fun v4 => _) = _
  rw [gR_75_22, Option.bind_some, es, Option.bind_some]
  have e4 : L_X12_fitting_34 1000000000 75 0 (Rep (SH T D (fR M) c4 m) (put (fmB u (upd (u 82) 0 (-1)) Z 0) 78 (u 78)) v) = _ := e3
  rw [e4, L_X12_fitting_34, if_pos (by decide)]
end FMZ
/-- what the class's cache holds: the rows that fit -/
def fQ : cP := fun K N a G => ∃ Z, (∀ j, j < 4 → Z j = 0) ∧ a = nI (fR0 K N Z).1 ∧ ∀ t, t < 4 → G t = (fR0 K N Z).2 t
