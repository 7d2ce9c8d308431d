def st0 : qS := f_start.getD (fun _ => none)
theorem st0_eq : f_start = some st0 := by
  unfold st0
  cases h : f_start with
  | none =>
    have := st_some
    rw [h] at this
    cases this
  | some g => rfl
def su0 : mU := fun r j => match st0 r with
  | some (.inl (_, _, .inl f)) => f j
  | some (.inr (_, fs)) => (match fs[j]? with | some (.int x) => x | _ => 0)
  | _ => 0
def sv0 : mV := fun r j => match st0 r with
  | some (.inl (_, _, .inr (.inl f))) => f j
  | some (.inr (_, fs)) => (match fs[j]? with | some (.long x) => x | _ => 0)
  | _ => 0
def ckF (f : sF) (w : Value) : Bool := match f, w with
  | .inl 0, .int _ => true
  | .inl 1, .long _ => true
  | .inl 2, .null => true
  | .inr (.inl q), .ref a => q == a
  | .inr (.inr c), .int x => decide (x = nI c)
  | _, _ => false
def ckL : List sF → List Value → Bool
  | [], [] => true
  | f :: fs, w :: ws => ckF f w && ckL fs ws
  | _, _ => false
def ckE (h : Option sH) (e : Option qE) : Bool := match h, e with
  | some (.inl (k, n)), some (.inl (k', n', .inl _)) => decide (k = k') && decide (n = n')
  | some (.inr (.inl n)), some (.inl (k', n', .inr (.inl _))) => decide (k' = 2) && decide (n = n')
  | some (.inr (.inr (ci, fs))), some (.inr (ci', ws)) => decide (ci = ci') && ckL fs ws
  | none, none => true
  | _, _ => false
theorem st0_ck : ∀ r, r < 88 → ckE (SH 54 3 fN fN 0 r) (st0 r) = true := by decide +kernel
theorem ckL_at : ∀ (fs : List sF) (ws : List Value), ckL fs ws = true → ∀ j : Nat, (fs[j]? = none ∧ ws[j]? = none) ∨ ∃ f w, fs[j]? = some f ∧ ws[j]? = some w ∧ ckF f w = true := by
  intro fs
  induction fs with
  | nil =>
    intro ws h j
    cases ws with
    | nil => exact Or.inl ⟨rfl, rfl⟩
    | cons w ws => cases h
  | cons f fs ih =>
    intro ws h j
    cases ws with
    | nil => cases h
    | cons w ws =>
      have h : (ckF f w && ckL fs ws) = true := h
      rw [Bool.and_eq_true] at h
      cases j with
      | zero => exact Or.inr ⟨f, w, rfl, rfl, h.1⟩
      | succ j => exact ih ws h.2 j
theorem st0_rep : st0 = Rep (SH 54 3 fN fN 0) su0 sv0 := by
  funext r
  by_cases hr : r < 88
  · have hc := st0_ck r hr
    unfold Rep
    cases hs : SH 54 3 fN fN 0 r with
    | none =>
      rw [hs] at hc
      cases he : st0 r with
      | none => rfl
      | some e =>
        rw [he] at hc
        rcases e with ⟨k, n, a⟩ | ⟨ci, ws⟩ <;> cases hc
    | some h =>
      rw [hs] at hc
      rcases h with ⟨k, n⟩ | n | ⟨ci, fs⟩
      · cases he : st0 r with
        | none => rw [he] at hc; cases hc
        | some e =>
          rw [he] at hc
          rcases e with ⟨k', n', a⟩ | ⟨ci', ws⟩
          · rcases a with f | a
            · have hc : (decide (k = k') && decide (n = n')) = true := hc
              rw [Bool.and_eq_true, decide_eq_true_iff, decide_eq_true_iff] at hc
              obtain ⟨rfl, rfl⟩ := hc
              have hu : su0 r = f := by
                funext j
                unfold su0
                rw [he]
              show _ = some (Sum.inl (k, n, Sum.inl (su0 r)))
              rw [hu]
            · cases hc
          · cases hc
      · cases he : st0 r with
        | none => rw [he] at hc; cases hc
        | some e =>
          rw [he] at hc
          rcases e with ⟨k', n', a⟩ | ⟨ci', ws⟩
          · rcases a with f | a | a
            · cases hc
            · have hc : (decide (k' = 2) && decide (n = n')) = true := hc
              rw [Bool.and_eq_true, decide_eq_true_iff, decide_eq_true_iff] at hc
              obtain ⟨rfl, rfl⟩ := hc
              have hu : sv0 r = a := by
                funext j
                unfold sv0
                rw [he]
              show _ = some (Sum.inl (2, n, Sum.inr (Sum.inl (sv0 r))))
              rw [hu]
            · cases hc
          · cases hc
      · cases he : st0 r with
        | none => rw [he] at hc; cases hc
        | some e =>
          rw [he] at hc
          rcases e with ⟨k', n', a⟩ | ⟨ci', ws⟩
          · cases hc
          · have hc : (decide (ci = ci') && ckL fs ws) = true := hc
            rw [Bool.and_eq_true, decide_eq_true_iff] at hc
            obtain ⟨rfl, hc2⟩ := hc
            show some (Sum.inr (ci, ws)) = some (Sum.inr (ci, fs.mapIdx (fun j f => rV su0 sv0 r j f)))
            have hl : ws = fs.mapIdx (fun j f => rV su0 sv0 r j f) := by
              apply List.ext_getElem?
              intro j
              rw [List.getElem?_mapIdx]
              rcases ckL_at fs ws hc2 j with ⟨h1, h2⟩ | ⟨f, w, h1, h2, h3⟩
              · rw [h1, h2]
                rfl
              · rw [h1, h2]
                refine congrArg some ?_
                have hu : su0 r j = (match some w with | some (.int x) => x | _ => 0) := by
                  unfold su0
                  rw [he]
                  show (match ws[j]? with | some (.int x) => x | _ => 0) = _
                  rw [h2]
                have hv : sv0 r j = (match some w with | some (.long x) => x | _ => 0) := by
                  unfold sv0
                  rw [he]
                  show (match ws[j]? with | some (.long x) => x | _ => 0) = _
                  rw [h2]
                unfold ckF at h3
                split at h3
                · show _ = Value.int (su0 r j)
                  rw [hu]
                · show _ = Value.long (sv0 r j)
                  rw [hv]
                · rfl
                · have := eq_of_beq h3
                  rw [this]
                  rfl
                · have := of_decide_eq_true h3
                  rw [this]
                  rfl
                · cases h3
            rw [hl]
  · rw [D_start st0_eq r (by omega)]
    unfold Rep SH
    rw [if_neg hr, if_neg (by omega)]
    rfl
theorem su0_vals : su0 75 1 = 0 ∧ su0 0 7 = 0 ∧ su0 75 2 = -1 ∧ su0 1 13 = 0 ∧ su0 75 12 = 0 ∧ su0 1 1 = 0 ∧ su0 75 6 = 0 ∧ su0 29 15 = 0 ∧ su0 30 3 = 0 ∧ su0 30 4 = 0 ∧ su0 30 2 = 0 := by decide +kernel
theorem su0_cnt : ∀ c, c < 10 → su0 74 c = 0 := by decide +kernel
/-- the two objects as they are made -/
theorem Inv_start {P Q : cP} : ∃ g5, f_start = some g5 ∧ Inv P Q g5 88 := by
  obtain ⟨a1, a2, a3, a4, a5, a6, a7, a8, a9, a10, a11⟩ := su0_vals
  refine ⟨st0, st0_eq, 54, 3, fN, fN, 0, su0, sv0, st0_rep, rfl, Or.inl ⟨rfl, rfl⟩, Or.inl rfl, Or.inl rfl, ?_, ?_, Or.inl ⟨rfl, ?_⟩⟩
  · exact TR_of (by rw [a1, a2]) a3 (by rw [a2]; decide)
  · exact ⟨by rw [a4, a5], 0, by omega, by rw [a6, nI_0], by rw [a7, nI_0], fun i hi => absurd hi (by omega)⟩
  · exact ⟨su0_cnt, a8, a9, a10, 0, by decide, by rw [a11, nI_0]⟩
