/-! ===== the model's new college ===== -/
theorem rE_congr {u u' : mU} {v v' : mV} {r : Nat} {h : sH} (hu : u r = u' r) (hv : v r = v' r) : rE u v r h = rE u' v' r h := by
  rcases h with ⟨k, n⟩ | n | ⟨ci, fs⟩
  · show Sum.inl (k, n, Sum.inl (u r)) = Sum.inl (k, n, Sum.inl (u' r))
    rw [hu]
  · show Sum.inl (2, n, Sum.inr (Sum.inl (v r))) = Sum.inl (2, n, Sum.inr (Sum.inl (v' r)))
    rw [hv]
  · show Sum.inr (ci, fs.mapIdx (fun j f => rV u v r j f)) = Sum.inr (ci, fs.mapIdx (fun j f => rV u' v' r j f))
    have : (fun (j : Nat) (f : sF) => rV u v r j f) = (fun (j : Nat) (f : sF) => rV u' v' r j f) := by
      funext j f
      unfold rV
      split
      · rw [hu]
      · rw [hv]
      · rfl
      · rfl
      · rfl
    rw [this]
/-- its object's fields, once k of its arrays are made -/
def fsK (n k : Nat) : List Value := (List.range 35).map (fun i => if i < 11 then Value.int 0 else if i < 11 + k then Value.ref (n + (i - 10)) else Value.null)
theorem fsK_at {n k j : Nat} (h : j < 35) : (fsK n k)[j]? = some (if j < 11 then Value.int 0 else if j < 11 + k then Value.ref (n + (j - 10)) else Value.null) := by
  unfold fsK
  rw [List.getElem?_map, List.getElem?_range h, Option.map_some]
theorem fsK_len {n k : Nat} : (fsK n k).length = 35 := by unfold fsK; rw [List.length_map, List.length_range]
theorem fsK_end {n k j : Nat} (h : ¬ j < 35) : (fsK n k)[j]? = none := List.getElem?_eq_none (by rw [fsK_len]; omega)
theorem fsK_24 {n : Nat} : fsK n 24 = [fI, fI, fI, fI, fI, fI, fI, fI, fI, fI, fI, fR (n + 1), fR (n + 2), fR (n + 3), fR (n + 4), fR (n + 5), fR (n + 6), fR (n + 7), fR (n + 8), fR (n + 9), fR (n + 10), fR (n + 11), fR (n + 12), fR (n + 13), fR (n + 14), fR (n + 15), fR (n + 16), fR (n + 17), fR (n + 18), fR (n + 19), fR (n + 20), fR (n + 21), fR (n + 22), fR (n + 23), fR (n + 24)].mapIdx (fun j f => rV (fun _ _ => 0) (fun _ _ => 0) n j f) := by
  apply List.ext_getElem?
  intro j
  rw [List.getElem?_mapIdx]
  by_cases h : j < 35
  · rw [fsK_at h]
    rcases j with _ | _ | _ | _ | _ | _ | _ | _ | _ | _ | _ | _ | _ | _ | _ | _ | _ | _ | _ | _ | _ | _ | _ | _ | _ | _ | _ | _ | _ | _ | _ | _ | _ | _ | _ | j <;> first | rfl | omega
  · rw [fsK_end h, List.getElem?_eq_none (by show 35 ≤ j; omega)]
    rfl
theorem fsK_0 {n : Nat} : ([.int 0, .int 0, .int 0, .int 0, .int 0, .int 0, .int 0, .int 0, .int 0, .int 0, .int 0, .null, .null, .null, .null, .null, .null, .null, .null, .null, .null, .null, .null, .null, .null, .null, .null, .null, .null, .null, .null, .null, .null, .null, .null] : List Value) = fsK n 0 := by
  apply List.ext_getElem?
  intro j
  by_cases h : j < 35
  · rw [fsK_at h]
    rcases j with _ | _ | _ | _ | _ | _ | _ | _ | _ | _ | _ | _ | _ | _ | _ | _ | _ | _ | _ | _ | _ | _ | _ | _ | _ | _ | _ | _ | _ | _ | _ | _ | _ | _ | _ | j <;> first | rfl | omega
  · rw [fsK_end h, List.getElem?_eq_none (by show 35 ≤ j; omega)]
theorem fsK_set {n k : Nat} (hk : k < 24) : (fsK n k).set (11 + k) (Value.ref (n + 1 + k)) = fsK n (k + 1) := by
  apply List.ext_getElem?
  intro i
  rw [List.getElem?_set, fsK_len]
  unfold fsK
  rw [List.getElem?_map, List.getElem?_map]
  by_cases hi : i < 35
  · rw [List.getElem?_range hi]
    by_cases e : 11 + k = i
    · rw [if_pos e, if_pos (by omega), Option.map_some]
      rw [if_neg (by omega), if_pos (by omega), show n + 1 + k = n + (i - 10) by omega]
    · rw [if_neg e, Option.map_some, Option.map_some]
      by_cases h1 : i < 11
      · rw [if_pos h1, if_pos h1]
      · rw [if_neg h1, if_neg h1]
        by_cases h2 : i < 11 + k
        · rw [if_pos h2, if_pos (by omega)]
        · rw [if_neg h2, if_neg (by omega)]
  · rw [if_neg (by omega), List.getElem?_eq_none (by rw [List.length_range]; omega)]
    rfl
/-- the store, once k of its arrays are made -/
def STk (g : qS) (n k : Nat) : qS := fun q => if q = n then some (.inr (10, fsK n k)) else if n < q ∧ q ≤ n + k then (shC n (q - n)).map (rE (fun _ _ => 0) (fun _ _ => 0) q) else g q
theorem STk_n {g : qS} {n k : Nat} : STk g n k n = some (.inr (10, fsK n k)) := if_pos rfl
theorem nK_row {kd B len : Nat} {g : qS} {r : Nat} {x : Int32} (h1 : ¬ (x < 0 ∨ B < x.toNatClampNeg)) (h2 : x.toNatClampNeg = len) : n_K kd B g r x = some (va_up g r (some (.inl (kd, len, .inl (fun _ => 0))))) := by
  unfold n_K
  rw [if_neg h1, h2]
theorem nL_row {B len : Nat} {g : qS} {r : Nat} {x : Int32} (h1 : ¬ (x < 0 ∨ B < x.toNatClampNeg)) (h2 : x.toNatClampNeg = len) : n_L B g r x = some (va_up g r (some (.inl (2, len, .inr (.inl (fun _ => 0)))))) := by
  unfold n_L
  rw [if_neg h1, h2]
theorem pN_row {g : qS} {n k : Nat} {e : qE} {sE : sH} (hk : k < 24) (hs : shC n (k + 1) = some sE) (he : rE (fun _ _ => 0) (fun _ _ => 0) (n + 1 + k) sE = e) : p_N (va_up (STk g n k) (n + 1 + k) (some e)) n 10 (11 + k) (.ref (n + 1 + k)) = some (STk g n (k + 1)) := by
  have e1 : va_up (STk g n k) (n + 1 + k) (some e) n = some (.inr (10, fsK n k)) := by rw [va_up_ne _ _ (by omega), STk_n]
  unfold p_N p_V
  rw [e1]
  show (if 10 = 10 then (if 11 + k < (fsK n k).length then some (va_up (va_up (STk g n k) (n + 1 + k) (some e)) n (some (.inr (10, (fsK n k).set (11 + k) (.ref (n + 1 + k)))))) else none) else none) = _
  rw [if_pos rfl, if_pos (by rw [fsK_len]; omega), fsK_set hk]
  refine congrArg some ?_
  funext q
  by_cases hq : q = n
  · subst hq; rw [va_up_self, STk_n]
  · rw [va_up_ne _ _ hq]
    by_cases hq2 : q = n + 1 + k
    · subst hq2
      rw [va_up_self]
      unfold STk
      rw [if_neg hq, if_pos (by omega), show n + 1 + k - n = k + 1 by omega, hs]
      show some e = some (rE _ _ _ sE)
      rw [he]
    · rw [va_up_ne _ _ hq2]
      unfold STk
      rw [if_neg hq, if_neg hq]
      by_cases h3 : n < q ∧ q ≤ n + k
      · rw [if_pos h3, if_pos (by omega)]
      · rw [if_neg h3, if_neg (by omega)]
theorem mk_arrs {g : qS} {n : Nat} : f_X11_init (STk g n 0) (n + 1) n = some (STk g n 24) := by
  have a0 : ∀ g : qS, n_K 1 4 g (n + 1 + 0) 4 = some (va_up g (n + 1 + 0) (some (.inl (1, 4, .inl (fun _ => 0))))) := fun g => nK_row (by decide) (by decide)
  have p0 : p_N (va_up (STk g n 0) (n + 1 + 0) (some (.inl (1, 4, .inl (fun _ => 0))))) n 10 11 (.ref (n + 1 + 0)) = some (STk g n 1) := pN_row (k := 0) (by decide) rfl rfl
  have a1 : ∀ g : qS, n_K 1 4 g (n + 1 + 1) 4 = some (va_up g (n + 1 + 1) (some (.inl (1, 4, .inl (fun _ => 0))))) := fun g => nK_row (by decide) (by decide)
  have p1 : p_N (va_up (STk g n 1) (n + 1 + 1) (some (.inl (1, 4, .inl (fun _ => 0))))) n 10 12 (.ref (n + 1 + 1)) = some (STk g n 2) := pN_row (k := 1) (by decide) rfl rfl
  have a2 : ∀ g : qS, n_K 1 4 g (n + 1 + 2) 4 = some (va_up g (n + 1 + 2) (some (.inl (1, 4, .inl (fun _ => 0))))) := fun g => nK_row (by decide) (by decide)
  have p2 : p_N (va_up (STk g n 2) (n + 1 + 2) (some (.inl (1, 4, .inl (fun _ => 0))))) n 10 13 (.ref (n + 1 + 2)) = some (STk g n 3) := pN_row (k := 2) (by decide) rfl rfl
  have a3 : ∀ g : qS, n_K 1 4 g (n + 1 + 3) 4 = some (va_up g (n + 1 + 3) (some (.inl (1, 4, .inl (fun _ => 0))))) := fun g => nK_row (by decide) (by decide)
  have p3 : p_N (va_up (STk g n 3) (n + 1 + 3) (some (.inl (1, 4, .inl (fun _ => 0))))) n 10 14 (.ref (n + 1 + 3)) = some (STk g n 4) := pN_row (k := 3) (by decide) rfl rfl
  have a4 : ∀ g : qS, n_K 1 5 g (n + 1 + 4) 5 = some (va_up g (n + 1 + 4) (some (.inl (1, 5, .inl (fun _ => 0))))) := fun g => nK_row (by decide) (by decide)
  have p4 : p_N (va_up (STk g n 4) (n + 1 + 4) (some (.inl (1, 5, .inl (fun _ => 0))))) n 10 15 (.ref (n + 1 + 4)) = some (STk g n 5) := pN_row (k := 4) (by decide) rfl rfl
  have a5 : ∀ g : qS, n_K 1 5 g (n + 1 + 5) 5 = some (va_up g (n + 1 + 5) (some (.inl (1, 5, .inl (fun _ => 0))))) := fun g => nK_row (by decide) (by decide)
  have p5 : p_N (va_up (STk g n 5) (n + 1 + 5) (some (.inl (1, 5, .inl (fun _ => 0))))) n 10 16 (.ref (n + 1 + 5)) = some (STk g n 6) := pN_row (k := 5) (by decide) rfl rfl
  have a6 : ∀ g : qS, n_K 1 5 g (n + 1 + 6) 5 = some (va_up g (n + 1 + 6) (some (.inl (1, 5, .inl (fun _ => 0))))) := fun g => nK_row (by decide) (by decide)
  have p6 : p_N (va_up (STk g n 6) (n + 1 + 6) (some (.inl (1, 5, .inl (fun _ => 0))))) n 10 17 (.ref (n + 1 + 6)) = some (STk g n 7) := pN_row (k := 6) (by decide) rfl rfl
  have a7 : ∀ g : qS, n_K 1 35 g (n + 1 + 7) 35 = some (va_up g (n + 1 + 7) (some (.inl (1, 35, .inl (fun _ => 0))))) := fun g => nK_row (by decide) (by decide)
  have p7 : p_N (va_up (STk g n 7) (n + 1 + 7) (some (.inl (1, 35, .inl (fun _ => 0))))) n 10 18 (.ref (n + 1 + 7)) = some (STk g n 8) := pN_row (k := 7) (by decide) rfl rfl
  have a8 : ∀ g : qS, n_K 1 4 g (n + 1 + 8) 4 = some (va_up g (n + 1 + 8) (some (.inl (1, 4, .inl (fun _ => 0))))) := fun g => nK_row (by decide) (by decide)
  have p8 : p_N (va_up (STk g n 8) (n + 1 + 8) (some (.inl (1, 4, .inl (fun _ => 0))))) n 10 19 (.ref (n + 1 + 8)) = some (STk g n 9) := pN_row (k := 8) (by decide) rfl rfl
  have a9 : ∀ g : qS, n_K 1 4 g (n + 1 + 9) 4 = some (va_up g (n + 1 + 9) (some (.inl (1, 4, .inl (fun _ => 0))))) := fun g => nK_row (by decide) (by decide)
  have p9 : p_N (va_up (STk g n 9) (n + 1 + 9) (some (.inl (1, 4, .inl (fun _ => 0))))) n 10 20 (.ref (n + 1 + 9)) = some (STk g n 10) := pN_row (k := 9) (by decide) rfl rfl
  have a10 : ∀ g : qS, n_K 1 3 g (n + 1 + 10) 3 = some (va_up g (n + 1 + 10) (some (.inl (1, 3, .inl (fun _ => 0))))) := fun g => nK_row (by decide) (by decide)
  have p10 : p_N (va_up (STk g n 10) (n + 1 + 10) (some (.inl (1, 3, .inl (fun _ => 0))))) n 10 21 (.ref (n + 1 + 10)) = some (STk g n 11) := pN_row (k := 10) (by decide) rfl rfl
  have a11 : ∀ g : qS, n_K 1 21 g (n + 1 + 11) 21 = some (va_up g (n + 1 + 11) (some (.inl (1, 21, .inl (fun _ => 0))))) := fun g => nK_row (by decide) (by decide)
  have p11 : p_N (va_up (STk g n 11) (n + 1 + 11) (some (.inl (1, 21, .inl (fun _ => 0))))) n 10 22 (.ref (n + 1 + 11)) = some (STk g n 12) := pN_row (k := 11) (by decide) rfl rfl
  have a12 : ∀ g : qS, n_K 1 12 g (n + 1 + 12) 12 = some (va_up g (n + 1 + 12) (some (.inl (1, 12, .inl (fun _ => 0))))) := fun g => nK_row (by decide) (by decide)
  have p12 : p_N (va_up (STk g n 12) (n + 1 + 12) (some (.inl (1, 12, .inl (fun _ => 0))))) n 10 23 (.ref (n + 1 + 12)) = some (STk g n 13) := pN_row (k := 12) (by decide) rfl rfl
  have a13 : ∀ g : qS, n_K 1 12 g (n + 1 + 13) 12 = some (va_up g (n + 1 + 13) (some (.inl (1, 12, .inl (fun _ => 0))))) := fun g => nK_row (by decide) (by decide)
  have p13 : p_N (va_up (STk g n 13) (n + 1 + 13) (some (.inl (1, 12, .inl (fun _ => 0))))) n 10 24 (.ref (n + 1 + 13)) = some (STk g n 14) := pN_row (k := 13) (by decide) rfl rfl
  have a14 : ∀ g : qS, n_K 1 12 g (n + 1 + 14) 12 = some (va_up g (n + 1 + 14) (some (.inl (1, 12, .inl (fun _ => 0))))) := fun g => nK_row (by decide) (by decide)
  have p14 : p_N (va_up (STk g n 14) (n + 1 + 14) (some (.inl (1, 12, .inl (fun _ => 0))))) n 10 25 (.ref (n + 1 + 14)) = some (STk g n 15) := pN_row (k := 14) (by decide) rfl rfl
  have a15 : ∀ g : qS, n_K 1 12 g (n + 1 + 15) 12 = some (va_up g (n + 1 + 15) (some (.inl (1, 12, .inl (fun _ => 0))))) := fun g => nK_row (by decide) (by decide)
  have p15 : p_N (va_up (STk g n 15) (n + 1 + 15) (some (.inl (1, 12, .inl (fun _ => 0))))) n 10 26 (.ref (n + 1 + 15)) = some (STk g n 16) := pN_row (k := 15) (by decide) rfl rfl
  have a16 : ∀ g : qS, n_K 1 8 g (n + 1 + 16) 8 = some (va_up g (n + 1 + 16) (some (.inl (1, 8, .inl (fun _ => 0))))) := fun g => nK_row (by decide) (by decide)
  have p16 : p_N (va_up (STk g n 16) (n + 1 + 16) (some (.inl (1, 8, .inl (fun _ => 0))))) n 10 27 (.ref (n + 1 + 16)) = some (STk g n 17) := pN_row (k := 16) (by decide) rfl rfl
  have a17 : ∀ g : qS, n_K 1 8 g (n + 1 + 17) 8 = some (va_up g (n + 1 + 17) (some (.inl (1, 8, .inl (fun _ => 0))))) := fun g => nK_row (by decide) (by decide)
  have p17 : p_N (va_up (STk g n 17) (n + 1 + 17) (some (.inl (1, 8, .inl (fun _ => 0))))) n 10 28 (.ref (n + 1 + 17)) = some (STk g n 18) := pN_row (k := 17) (by decide) rfl rfl
  have a18 : ∀ g : qS, n_K 1 8 g (n + 1 + 18) 8 = some (va_up g (n + 1 + 18) (some (.inl (1, 8, .inl (fun _ => 0))))) := fun g => nK_row (by decide) (by decide)
  have p18 : p_N (va_up (STk g n 18) (n + 1 + 18) (some (.inl (1, 8, .inl (fun _ => 0))))) n 10 29 (.ref (n + 1 + 18)) = some (STk g n 19) := pN_row (k := 18) (by decide) rfl rfl
  have a19 : ∀ g : qS, n_K 1 8 g (n + 1 + 19) 8 = some (va_up g (n + 1 + 19) (some (.inl (1, 8, .inl (fun _ => 0))))) := fun g => nK_row (by decide) (by decide)
  have p19 : p_N (va_up (STk g n 19) (n + 1 + 19) (some (.inl (1, 8, .inl (fun _ => 0))))) n 10 30 (.ref (n + 1 + 19)) = some (STk g n 20) := pN_row (k := 19) (by decide) rfl rfl
  have a20 : ∀ g : qS, n_K 3 8 g (n + 1 + 20) 8 = some (va_up g (n + 1 + 20) (some (.inl (3, 8, .inl (fun _ => 0))))) := fun g => nK_row (by decide) (by decide)
  have p20 : p_N (va_up (STk g n 20) (n + 1 + 20) (some (.inl (3, 8, .inl (fun _ => 0))))) n 10 31 (.ref (n + 1 + 20)) = some (STk g n 21) := pN_row (k := 20) (by decide) rfl rfl
  have a21 : ∀ g : qS, n_L 16 g (n + 1 + 21) 16 = some (va_up g (n + 1 + 21) (some (.inl (2, 16, .inr (.inl (fun _ => 0)))))) := fun g => nL_row (by decide) (by decide)
  have p21 : p_N (va_up (STk g n 21) (n + 1 + 21) (some (.inl (2, 16, .inr (.inl (fun _ => 0)))))) n 10 32 (.ref (n + 1 + 21)) = some (STk g n 22) := pN_row (k := 21) (by decide) rfl rfl
  have a22 : ∀ g : qS, n_K 1 16 g (n + 1 + 22) 16 = some (va_up g (n + 1 + 22) (some (.inl (1, 16, .inl (fun _ => 0))))) := fun g => nK_row (by decide) (by decide)
  have p22 : p_N (va_up (STk g n 22) (n + 1 + 22) (some (.inl (1, 16, .inl (fun _ => 0))))) n 10 33 (.ref (n + 1 + 22)) = some (STk g n 23) := pN_row (k := 22) (by decide) rfl rfl
  have a23 : ∀ g : qS, n_K 1 16 g (n + 1 + 23) 16 = some (va_up g (n + 1 + 23) (some (.inl (1, 16, .inl (fun _ => 0))))) := fun g => nK_row (by decide) (by decide)
  have p23 : p_N (va_up (STk g n 23) (n + 1 + 23) (some (.inl (1, 16, .inl (fun _ => 0))))) n 10 34 (.ref (n + 1 + 23)) = some (STk g n 24) := pN_row (k := 23) (by decide) rfl rfl
  unfold f_X11_init
  rw [a0, Option.bind_some, p0, Option.bind_some]
  rw [a1, Option.bind_some, p1, Option.bind_some]
  rw [a2, Option.bind_some, p2, Option.bind_some]
  rw [a3, Option.bind_some, p3, Option.bind_some]
  rw [a4, Option.bind_some, p4, Option.bind_some]
  rw [a5, Option.bind_some, p5, Option.bind_some]
  rw [a6, Option.bind_some, p6, Option.bind_some]
  rw [a7, Option.bind_some, p7, Option.bind_some]
  rw [a8, Option.bind_some, p8, Option.bind_some]
  rw [a9, Option.bind_some, p9, Option.bind_some]
  rw [a10, Option.bind_some, p10, Option.bind_some]
  rw [a11, Option.bind_some, p11, Option.bind_some]
  rw [a12, Option.bind_some, p12, Option.bind_some]
  rw [a13, Option.bind_some, p13, Option.bind_some]
  rw [a14, Option.bind_some, p14, Option.bind_some]
  rw [a15, Option.bind_some, p15, Option.bind_some]
  rw [a16, Option.bind_some, p16, Option.bind_some]
  rw [a17, Option.bind_some, p17, Option.bind_some]
  rw [a18, Option.bind_some, p18, Option.bind_some]
  rw [a19, Option.bind_some, p19, Option.bind_some]
  rw [a20, Option.bind_some, p20, Option.bind_some]
  rw [a21, Option.bind_some, p21, Option.bind_some]
  rw [a22, Option.bind_some, p22, Option.bind_some]
  rw [a23, Option.bind_some, p23, Option.bind_some]
/-- what is not of the new college stays; the new college is empty -/
def nwC (u : mU) (n : Nat) : mU := fun q => if n ≤ q then (fun _ => 0) else u q
def nwL (v : mV) (n : Nat) : mV := fun q => if n ≤ q then (fun _ => 0) else v q
theorem nwC_lo {u : mU} {n q : Nat} (h : q < n) : nwC u n q = u q := if_neg (by omega)
theorem nwC_hi {u : mU} {n q : Nat} (h : n ≤ q) : nwC u n q = fun _ => 0 := if_pos h
theorem nwL_lo {v : mV} {n q : Nat} (h : q < n) : nwL v n q = v q := if_neg (by omega)
theorem nwL_hi {v : mV} {n q : Nat} (h : n ≤ q) : nwL v n q = fun _ => 0 := if_pos h
section NWC
variable {T D m n : Nat} {c3 c4 : sF} {u : mU} {v : mV}
theorem STk_24 (hn : n = 88 + 25 * m) : STk (Rep (SH T D c3 c4 m) u v) n 24 = Rep (SH T D c3 c4 (m + 1)) (nwC u n) (nwL v n) := by
  funext q
  unfold STk
  by_cases h1 : q = n
  · rw [if_pos h1, h1]
    have hs : SH T D c3 c4 (m + 1) n = shC n 0 := by
      have := SH_hi (T := T) (D := D) (c3 := c3) (c4 := c4) (m := m + 1) (b := n) (i := 0) (k := m) (by omega) (by omega) (by omega)
      exact this
    rw [Rep_at (show SH T D c3 c4 (m + 1) n = some _ from hs), rE_congr (u' := fun _ _ => 0) (v' := fun _ _ => 0) (nwC_hi (Nat.le_refl _)) (nwL_hi (Nat.le_refl _)), fsK_24]
    rfl
  · rw [if_neg h1]
    by_cases h2 : n < q ∧ q ≤ n + 24
    · rw [if_pos h2]
      obtain ⟨i, rfl⟩ : ∃ i, q = n + i := ⟨q - n, by omega⟩
      have hs : SH T D c3 c4 (m + 1) (n + i) = shC n i := SH_hi (k := m) (by omega) (by omega) (by omega)
      show _ = (SH T D c3 c4 (m + 1) (n + i)).map (rE (nwC u n) (nwL v n) (n + i))
      rw [hs, show n + i - n = i by omega]
      cases shC n i with
      | none => rfl
      | some h => exact congrArg some (rE_congr (nwC_hi (by omega)).symm (nwL_hi (by omega)).symm)
    · rw [if_neg h2]
      show (SH T D c3 c4 m q).map (rE u v q) = (SH T D c3 c4 (m + 1) q).map (rE (nwC u n) (nwL v n) q)
      by_cases h3 : q < n
      · have hs : SH T D c3 c4 m q = SH T D c3 c4 (m + 1) q := by
          unfold SH
          by_cases h4 : q < 88
          · rw [if_pos h4, if_pos h4]
          · rw [if_neg h4, if_neg h4, if_pos (by omega), if_pos (by omega)]
        rw [hs]
        cases SH T D c3 c4 (m + 1) q with
        | none => rfl
        | some h => exact congrArg some (rE_congr (nwC_lo h3).symm (nwL_lo h3).symm)
      · have e1 : SH T D c3 c4 m q = none := by
          unfold SH
          rw [if_neg (by omega), if_neg (by omega)]
        have e2 : SH T D c3 c4 (m + 1) q = none := by
          unfold SH
          rw [if_neg (by omega), if_neg (by omega)]
        rw [e1, e2]
        rfl
theorem SH_c75 {c3' c4' : sF} : va_up (SH T D c3 c4 m) 75 (some (hO 11 [fI, fI, fI, c3', c4', fR 76, fI, fI, fI, fI, fI, fI, fI, fI, fL, fR 77, fR 78, fR 79, fR 80, fI, fI, fR 81, fR 82, fR 83, fI, fR 84, fI, fL, fL, fR 85, fR 86, fI])) = SH T D c3' c4' m := by
  funext q
  by_cases h : q = 75
  · subst h; rw [va_up_self]; rfl
  · rw [va_up_ne _ _ h]
    unfold SH
    by_cases h4 : q < 88
    · rw [if_pos h4, if_pos h4]
      unfold shF
      split <;> first | rfl | exact absurd rfl h
    · rw [if_neg h4, if_neg h4]
theorem pR_75_4 {k : Nat} : p_R (Rep (SH T D c3 c4 m) u v) 75 11 4 k = some (Rep (SH T D c3 (fR k) m) u v) := by
  rw [Rep_pR wS_75 (show _ < 32 by decide)]
  exact congrArg (fun s => some (Rep s u v)) SH_c75
theorem pR_75_3 {k : Nat} : p_R (Rep (SH T D c3 c4 m) u v) 75 11 3 k = some (Rep (SH T D (fR k) c4 m) u v) := by
  rw [Rep_pR wS_75 (show _ < 32 by decide)]
  exact congrArg (fun s => some (Rep s u v)) SH_c75
theorem SH_ex : va_up (va_up (SH T D c3 c4 m) 1 (some (hO 5 [fR 2, fI, fR T, fR 24, fR 25, fI, fI, fI, fI, fI, fL, fI, fI, fI, fI]))) 0 (some (hO 9 [fR 1, fR 27, fR 30, fR 35, fR 41, fR 44, fR 49, fI, fR D])) = SH D T c3 c4 m := by
  funext q
  by_cases h : q = 0
  · subst h; rw [va_up_self]; rfl
  · rw [va_up_ne _ _ h]
    by_cases h1 : q = 1
    · subst h1; rw [va_up_self]; rfl
    · rw [va_up_ne _ _ h1]
      unfold SH
      by_cases h4 : q < 88
      · rw [if_pos h4, if_pos h4]
        unfold shF
        split <;> first | rfl | exact absurd rfl h | exact absurd rfl h1
      · rw [if_neg h4, if_neg h4]
/-- the model's college is made -/
theorem mk_college {k : Nat} (hn : n = 88 + 25 * m) : ((n_O (Rep (SH T D c3 c4 m) u v) (n + 0) 10 [.int 0, .int 0, .int 0, .int 0, .int 0, .int 0, .int 0, .int 0, .int 0, .int 0, .int 0, .null, .null, .null, .null, .null, .null, .null, .null, .null, .null, .null, .null, .null, .null, .null, .null, .null, .null, .null, .null, .null, .null, .null, .null]).bind fun g9 => (f_X11_init g9 (n + 1) n).bind fun g10 => p_R g10 75 11 4 k) = some (Rep (SH T D c3 (fR k) (m + 1)) (nwC u n) (nwL v n)) := by
  have e0 : n_O (Rep (SH T D c3 c4 m) u v) (n + 0) 10 [.int 0, .int 0, .int 0, .int 0, .int 0, .int 0, .int 0, .int 0, .int 0, .int 0, .int 0, .null, .null, .null, .null, .null, .null, .null, .null, .null, .null, .null, .null, .null, .null, .null, .null, .null, .null, .null, .null, .null, .null, .null, .null] = some (STk (Rep (SH T D c3 c4 m) u v) n 0) := by
    unfold n_O
    refine congrArg some ?_
    funext q
    unfold STk
    by_cases h1 : q = n
    · rw [if_pos h1, h1, Nat.add_zero, va_up_self, fsK_0 (n := n)]
    · rw [if_neg h1, Nat.add_zero, va_up_ne _ _ h1, if_neg (by omega)]
  rw [e0, Option.bind_some, mk_arrs, Option.bind_some, STk_24 hn, pR_75_4]
end NWC
