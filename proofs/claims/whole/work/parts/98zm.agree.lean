/-! ===== an elder college of the model, beside a new one ===== -/
/-- a college's numbers alone -/
def tr25 (K : cK) : cK := fun i => if i < 25 then K i else fun _ => 0
theorem tr_eq {K K' : cK} (h : ∀ i, i < 25 → K' i = K i) : tr25 K' = tr25 K := by
  funext i
  unfold tr25
  by_cases c : i < 25
  · rw [if_pos c, if_pos c, h i c]
  · rw [if_neg c, if_neg c]
theorem tr_bnd (K : cK) (N : Nat → Nat) : bndC (tr25 K) N = bndC K N := rfl
theorem tr_rowG (K : cK) (N : Nat → Nat) (f : Nat → Int32) : rowG (tr25 K) N f = rowG K N f := rfl
theorem tr_hist (u : mU) (K : cK) (N : Nat → Nat) : relHist u (tr25 K) N = relHist u K N := rfl
theorem tr_can (K : cK) (g t p d h : Nat) : s_can (tr25 K) g t p d h = s_can K g t p d h := rfl
theorem tr_stS (K : cK) (c : Nat → Nat) (n t : Nat) : stS (tr25 K) c n t = stS K c n t := rfl
theorem tr_lfT (K : cK) (N : Nat → Nat) : lfT (tr25 K) N = lfT K N := by
  funext c
  unfold lfT
  simp -implicitDefEqProofs only [tr_stS]
theorem tr_fPs (K : cK) (N : Nat → Nat) (a : Int32) (C : Nat → Int32) : fPs (tr25 K) N a C = fPs K N a C := by
  unfold fPs ffD snR
  rw [tr_lfT]
theorem tr_fT (K : cK) (k : Nat) : fT (tr25 K) k = fT K k := rfl
theorem tr_fP (K : cK) (k : Nat) : fP (tr25 K) k = fP K k := rfl
theorem tr_okG (K : cK) (N : Nat → Nat) (k d g : Nat) : okG (tr25 K) N k d g = okG K N k d g := rfl
theorem tr_leaf (K : cK) (F : Nat) (ch : Nat → Nat) (st : fS) : fLeaf (tr25 K) F ch st = fLeaf K F ch st := rfl
theorem tr_fitR (K : cK) (N : Nat → Nat) (F : Nat) : ∀ (r k : Nat) (ch : Nat → Nat) (st : fS), fitR (tr25 K) N F r k ch st = fitR K N F r k ch st := by
  intro r
  induction r with
  | zero => intro k ch st; exact tr_leaf K F ch st
  | succ r ih =>
    intro k ch st
    show lp _ 21 0 st = lp _ 21 0 st
    apply lp_congr
    intro j s _ _
    show (if (okG (tr25 K) N k (j / 3) (j % 3) && fre ch k (3 * (j / 3) + j % 3)) = true then _ else s) = (if (okG K N k (j / 3) (j % 3) && fre ch k (3 * (j / 3) + j % 3)) = true then _ else s)
    rw [tr_okG, ih]
theorem tr_fQ (K : cK) (N : Nat → Nat) (a : Int32) (G : Nat → Int32) : fQ (tr25 K) N a G = fQ K N a G := by
  unfold fQ fR0
  simp -implicitDefEqProofs only [tr_fitR]
section AGR
variable {u u' : mU} {T M : Nat} {N : Nat → Nat}
theorem relC_25 (hB : ∀ i, i < 21 → u' (T + i) = u (T + i)) (hM : ∀ i, i < 25 → u' (M + i) = u (M + i)) (h : relC u T M N) : relC u' T M N := by
  have m0 : u' M = u M := hM 0 (by decide)
  have hbn : bndC (col u' M) N = bndC (col u M) N := by
    rw [← tr_bnd, tr_eq (K := col u M) (K' := col u' M) hM, tr_bnd]
  unfold relC relCnt relThing relPers relTram relGivr relRide relTake relGift relFnd relExam at *
  rw [hbn, hB 20 (by decide), hB 2 (by decide), hB 4 (by decide), hB 6 (by decide), hB 8 (by decide), hB 16 (by decide), hB 18 (by decide), hB 10 (by decide), hB 12 (by decide), hB 14 (by decide), m0, hM 1 (by decide), hM 2 (by decide), hM 3 (by decide), hM 4 (by decide), hM 5 (by decide), hM 6 (by decide), hM 7 (by decide), hM 8 (by decide), hM 9 (by decide), hM 10 (by decide), hM 11 (by decide), hM 12 (by decide), hM 13 (by decide), hM 14 (by decide), hM 15 (by decide), hM 16 (by decide), hM 17 (by decide), hM 18 (by decide), hM 19 (by decide), hM 20 (by decide), hM 21 (by decide)]
  exact h
theorem IA_25 (hB : ∀ i, i < 21 → u' (T + i) = u (T + i)) (hM : ∀ i, i < 25 → u' (M + i) = u (M + i)) (e29 : u' 29 = u 29) (e77 : u' 77 = u 77) (e30 : u' 30 = u 30) (e32 : u' 32 = u 32) (e34 : u' 34 = u 34) (e79 : u' 79 = u 79) (e80 : u' 80 = u 80) (e1 : u' 75 19 = u 75 19) (e2 : u' 75 20 = u 75 20) (h : IA T M N u) : IA T M N u' := by
  have hg : ∀ f, rowG (col u' M) N f = rowG (col u M) N f := fun f => by
    rw [← tr_rowG, tr_eq (K := col u M) (K' := col u' M) hM, tr_rowG]
  have hh : ∀ w, relHist w (col u' M) N = relHist w (col u M) N := fun w => by
    rw [← tr_hist, tr_eq (K := col u M) (K' := col u' M) hM, tr_hist]
  obtain ⟨h1, h2, h3, h4, h5⟩ := h
  refine ⟨relC_25 hB hM h1, h2, ?_, ?_, ?_⟩
  · unfold rowEq at *
    rw [e29, e77]
    exact h3
  · rw [hg, e29]
    exact h4
  · rw [hh]
    unfold relHist at *
    rw [e30, e32, e34, e79, e80, e1, e2]
    exact h5
theorem IW_25 (hM : ∀ i, i < 25 → u' (M + i) = u (M + i)) (e41 : u' 41 = u 41) (e43 : u' 43 = u 43) (e44 : u' 44 = u 44) (e48 : u' 48 = u 48) (h : IW fPs fQ M N u) : IW fPs fQ M N u' := by
  have hp : ∀ a C, fPs (col u' M) N a C = fPs (col u M) N a C := fun a C => by
    rw [← tr_fPs, tr_eq (K := col u M) (K' := col u' M) hM, tr_fPs]
  have hq : ∀ a C, fQ (col u' M) N a C = fQ (col u M) N a C := fun a C => by
    rw [← tr_fQ, tr_eq (K := col u M) (K' := col u' M) hM, tr_fQ]
  unfold IW at *
  rw [hp, hq, e41, e43, e44, e48]
  exact h
end AGR
