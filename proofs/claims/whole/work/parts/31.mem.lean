/-! ===== the pure level: the store as a fixed shape and flat contents ===== -/
/-- a field's shape: int, long, null, a reference to role q, a constant int -/
abbrev sF : Type := Nat ⊕ (Nat ⊕ Nat)
abbrev fI : sF := .inl 0
abbrev fL : sF := .inl 1
abbrev fN : sF := .inl 2
abbrev fR (q : Nat) : sF := .inr (.inl q)
abbrev fC (c : Nat) : sF := .inr (.inr c)
/-- a role's shape: an array of bytes, ints or booleans by kind, an array of longs, an object -/
abbrev sH : Type := (Nat × Nat) ⊕ (Nat ⊕ (Nat × List sF))
abbrev hA (k n : Nat) : sH := .inl (k, n)
abbrev hB (n : Nat) : sH := .inr (.inl n)
abbrev hO (ci : Nat) (fs : List sF) : sH := .inr (.inr (ci, fs))
abbrev mU : Type := Nat → Nat → Int32
abbrev mV : Type := Nat → Nat → Int64
abbrev mS : Type := Nat → Option sH
def rV (u : mU) (v : mV) (r j : Nat) (f : sF) : Value := match f with
  | .inl 0 => .int (u r j)
  | .inl 1 => .long (v r j)
  | .inl _ => .null
  | .inr (.inl q) => .ref q
  | .inr (.inr c) => .int (nI c)
def rE (u : mU) (v : mV) (r : Nat) (h : sH) : qE := match h with
  | .inl (k, n) => .inl (k, n, .inl (u r))
  | .inr (.inl n) => .inl (2, n, .inr (.inl (v r)))
  | .inr (.inr (ci, fs)) => .inr (ci, fs.mapIdx (fun j f => rV u v r j f))
def Rep (sh : mS) (u : mU) (v : mV) : qS := fun r => (sh r).map (rE u v r)
/-- a place of the flat contents, written -/
def wr (u : mU) (r i : Nat) (x : Int32) : mU := fun q j => if q = r ∧ j = i then x else u q j
def wrL (v : mV) (r i : Nat) (x : Int64) : mV := fun q j => if q = r ∧ j = i then x else v q j
theorem wr_same (u : mU) (r i : Nat) (x : Int32) : wr u r i x r i = x := if_pos ⟨rfl, rfl⟩
theorem wr_role {u : mU} {r i q j : Nat} {x : Int32} (h : q ≠ r) : wr u r i x q j = u q j := if_neg fun z => h z.1
theorem wr_ix {u : mU} {r i q j : Nat} {x : Int32} (h : j ≠ i) : wr u r i x q j = u q j := if_neg fun z => h z.2
theorem wrL_same (u : mV) (r i : Nat) (x : Int64) : wrL u r i x r i = x := if_pos ⟨rfl, rfl⟩
theorem wrL_role {u : mV} {r i q j : Nat} {x : Int64} (h : q ≠ r) : wrL u r i x q j = u q j := if_neg fun z => h z.1
theorem wrL_ix {u : mV} {r i q j : Nat} {x : Int64} (h : j ≠ i) : wrL u r i x q j = u q j := if_neg fun z => h z.2
section MEM
variable {sh : mS} {u : mU} {v : mV} {r ci j k n : Nat} {i x : Int32} {fs : List sF}
theorem Rep_at {h : sH} (hs : sh r = some h) : Rep sh u v r = some (rE u v r h) := by
  unfold Rep
  rw [hs]
  rfl
theorem Rep_aK (hs : sh r = some (hA k n)) (hi : ¬ (i < 0 ∨ n ≤ i.toNatClampNeg)) : a_K k (Rep sh u v) r i = some (u r i.toNatClampNeg) := by
  unfold a_K
  rw [Rep_at hs]
  show (if k = k then (if i < 0 ∨ n ≤ i.toNatClampNeg then none else some (u r i.toNatClampNeg)) else none) = _
  rw [if_pos rfl, if_neg hi]
theorem Rep_aL (hs : sh r = some (hB n)) (hi : ¬ (i < 0 ∨ n ≤ i.toNatClampNeg)) : a_L (Rep sh u v) r i = some (v r i.toNatClampNeg) := by
  unfold a_L
  rw [Rep_at hs]
  show (if 2 = 2 then (if i < 0 ∨ n ≤ i.toNatClampNeg then none else some (v r i.toNatClampNeg)) else none) = _
  rw [if_pos rfl, if_neg hi]
theorem Rep_an (hs : sh r = some (hA k n)) (hk : k < 4) : a_n (Rep sh u v) r = some (nI n) := by
  unfold a_n
  rw [Rep_at hs]
  exact if_pos hk
theorem Rep_up {h h' : sH} {u' : mU} {v' : mV} (hs : sh r = some h) (h1 : rE u' v' r h' = rE u' v' r h') (hu : ∀ q, q ≠ r → u' q = u q) (hv : ∀ q, q ≠ r → v' q = v q) : va_up (Rep sh u v) r (some (rE u' v' r h')) = Rep (va_up sh r (some h')) u' v' := by
  funext q
  by_cases hq : q = r
  · subst hq
    rw [va_up_self]
    unfold Rep
    rw [va_up_self]
    rfl
  · rw [va_up_ne _ _ hq]
    unfold Rep
    rw [va_up_ne _ _ hq]
    cases hsq : sh q with
    | none => rfl
    | some z =>
      show some _ = some _
      rcases z with ⟨k, n⟩ | n | ⟨ci, fs⟩
      · simp [rE, hu q hq]
      · simp [rE, hv q hq]
      ·
        have : (fun (j : Nat) (f : sF) => rV u v q j f) = (fun (j : Nat) (f : sF) => rV u' v' q j f) := by
          funext j f
          unfold rV; split <;> simp [hu q hq, hv q hq]
        show some (Sum.inr (ci, fs.mapIdx _)) = some (Sum.inr (ci, fs.mapIdx _))
        rw [this]
theorem sh_same {h : sH} (hs : sh r = some h) : va_up sh r (some h) = sh := by
  funext q
  by_cases hq : q = r
  · subst hq; rw [va_up_self, hs]
  · rw [va_up_ne _ _ hq]
theorem wr_arr : (wr u r j x) r = upd (u r) j x := by
  funext q
  unfold wr upd
  by_cases h : q = j
  · simp [h]
  · simp [h]
theorem wrL_arr {y : Int64} : (wrL v r j y) r = vp_updL (v r) j y := by
  funext q
  unfold wrL vp_updL
  by_cases h : q = j
  · simp [h]
  · simp [h]
theorem wr_off {q : Nat} (h : q ≠ r) : (wr u r j x) q = u q := funext fun z => wr_role h
theorem wrL_off {q : Nat} {y : Int64} (h : q ≠ r) : (wrL v r j y) q = v q := funext fun z => wrL_role h
theorem Rep_sK (hs : sh r = some (hA k n)) (hi : ¬ (i < 0 ∨ n ≤ i.toNatClampNeg)) : s_K k (Rep sh u v) r i x = some (Rep sh (wr u r i.toNatClampNeg x) v) := by
  unfold s_K
  rw [Rep_at hs]
  show (if k = k then (if i < 0 ∨ n ≤ i.toNatClampNeg then none else some (va_up (Rep sh u v) r (some (.inl (k, n, .inl (upd (u r) i.toNatClampNeg x)))))) else none) = _
  rw [if_pos rfl, if_neg hi, ← wr_arr]
  rw [show (some (Sum.inl (k, n, Sum.inl ((wr u r i.toNatClampNeg x) r))) : Option qE) = some (rE (wr u r i.toNatClampNeg x) v r (hA k n)) from rfl, Rep_up hs rfl (fun q hq => wr_off hq) (fun q hq => rfl), sh_same hs]
theorem Rep_aI (hs : sh r = some (hA 1 n)) (hi : ¬ (i < 0 ∨ n ≤ i.toNatClampNeg)) : a_I (Rep sh u v) r i = some (u r i.toNatClampNeg) := Rep_aK hs hi
theorem Rep_aB (hs : sh r = some (hA 0 n)) (hi : ¬ (i < 0 ∨ n ≤ i.toNatClampNeg)) : a_B (Rep sh u v) r i = some (u r i.toNatClampNeg) := Rep_aK hs hi
theorem Rep_aZ (hs : sh r = some (hA 3 n)) (hi : ¬ (i < 0 ∨ n ≤ i.toNatClampNeg)) : a_Z (Rep sh u v) r i = some (u r i.toNatClampNeg) := Rep_aK hs hi
theorem Rep_sI (hs : sh r = some (hA 1 n)) (hi : ¬ (i < 0 ∨ n ≤ i.toNatClampNeg)) : s_I (Rep sh u v) r i x = some (Rep sh (wr u r i.toNatClampNeg x) v) := Rep_sK hs hi
theorem Rep_sB (hs : sh r = some (hA 0 n)) (hi : ¬ (i < 0 ∨ n ≤ i.toNatClampNeg)) : s_B (Rep sh u v) r i x = some (Rep sh (wr u r i.toNatClampNeg (vp_nar .byte x)) v) := Rep_sK hs hi
theorem Rep_sZ (hs : sh r = some (hA 3 n)) (hi : ¬ (i < 0 ∨ n ≤ i.toNatClampNeg)) : s_Z (Rep sh u v) r i x = some (Rep sh (wr u r i.toNatClampNeg (vp_nar .boolean x)) v) := Rep_sK hs hi
theorem Rep_sL {y : Int64} (hs : sh r = some (hB n)) (hi : ¬ (i < 0 ∨ n ≤ i.toNatClampNeg)) : s_L (Rep sh u v) r i y = some (Rep sh u (wrL v r i.toNatClampNeg y)) := by
  unfold s_L
  rw [Rep_at hs]
  show (if 2 = 2 then (if i < 0 ∨ n ≤ i.toNatClampNeg then none else some (va_up (Rep sh u v) r (some (.inl (2, n, .inr (.inl (vp_updL (v r) i.toNatClampNeg y))))))) else none) = _
  rw [if_pos rfl, if_neg hi, ← wrL_arr]
  rw [show (some (Sum.inl (2, n, Sum.inr (Sum.inl ((wrL v r i.toNatClampNeg y) r)))) : Option qE) = some (rE u (wrL v r i.toNatClampNeg y) r (hB n)) from rfl, Rep_up hs rfl (fun q hq => rfl) (fun q hq => wrL_off hq), sh_same hs]
theorem fs_at {f : sF} (hf : fs[j]? = some f) : (fs.mapIdx (fun j f => rV u v r j f))[j]? = some (rV u v r j f) := by
  rw [List.getElem?_mapIdx, hf]
  rfl
theorem Rep_gC (hs : sh r = some (hO ci fs)) : g_C (Rep sh u v) r ci = some () := by
  unfold g_C
  rw [Rep_at hs]
  exact if_pos rfl
theorem Rep_gI (hs : sh r = some (hO ci fs)) (hf : fs[j]? = some fI) : g_I (Rep sh u v) r ci j = some (u r j) := by
  unfold g_I
  rw [Rep_at hs]
  show (if ci = ci then (match (fs.mapIdx (fun j f => rV u v r j f))[j]? with | some (.int v) => some v | _ => none) else none) = _
  rw [if_pos rfl, fs_at hf]
  rfl
theorem Rep_gK {c : Nat} (hs : sh r = some (hO ci fs)) (hf : fs[j]? = some (fC c)) : g_I (Rep sh u v) r ci j = some (nI c) := by
  unfold g_I
  rw [Rep_at hs]
  show (if ci = ci then (match (fs.mapIdx (fun j f => rV u v r j f))[j]? with | some (.int v) => some v | _ => none) else none) = _
  rw [if_pos rfl, fs_at hf]
  rfl
theorem Rep_gL (hs : sh r = some (hO ci fs)) (hf : fs[j]? = some fL) : g_L (Rep sh u v) r ci j = some (v r j) := by
  unfold g_L
  rw [Rep_at hs]
  show (if ci = ci then (match (fs.mapIdx (fun j f => rV u v r j f))[j]? with | some (.long v) => some v | _ => none) else none) = _
  rw [if_pos rfl, fs_at hf]
  rfl
theorem Rep_gR {q : Nat} (hs : sh r = some (hO ci fs)) (hf : fs[j]? = some (fR q)) : g_R (Rep sh u v) r ci j = some q := by
  unfold g_R
  rw [Rep_at hs]
  show (if ci = ci then (match (fs.mapIdx (fun j f => rV u v r j f))[j]? with | some (.ref v) => some v | _ => none) else none) = _
  rw [if_pos rfl, fs_at hf]
  rfl
theorem Rep_gQ {q : Nat} (hs : sh r = some (hO ci fs)) (hf : fs[j]? = some (fR q)) : g_Q (Rep sh u v) r ci j = some (some q) := by
  unfold g_Q
  rw [Rep_at hs]
  show (if ci = ci then (match (fs.mapIdx (fun j f => rV u v r j f))[j]? with | some (.ref v) => some (some v) | some .null => some none | _ => none) else none) = _
  rw [if_pos rfl, fs_at hf]
  rfl
theorem Rep_gQn (hs : sh r = some (hO ci fs)) (hf : fs[j]? = some fN) : g_Q (Rep sh u v) r ci j = some none := by
  unfold g_Q
  rw [Rep_at hs]
  show (if ci = ci then (match (fs.mapIdx (fun j f => rV u v r j f))[j]? with | some (.ref v) => some (some v) | some .null => some none | _ => none) else none) = _
  rw [if_pos rfl, fs_at hf]
  rfl
theorem fs_set {f : sF} {u' : mU} {v' : mV} (hj : j < fs.length) (hr : ∀ q, q ≠ j → ∀ f, rV u' v' r q f = rV u v r q f) : (fs.mapIdx (fun j f => rV u v r j f)).set j (rV u' v' r j f) = (fs.set j f).mapIdx (fun j f => rV u' v' r j f) := by
  apply List.ext_getElem?
  intro q
  rw [List.getElem?_set, List.getElem?_mapIdx, List.getElem?_mapIdx, List.getElem?_set, List.length_mapIdx]
  by_cases hq : j = q
  · subst hq
    simp [hj]
  · rw [if_neg hq, if_neg hq]
    cases fs[q]? with
    | none => rfl
    | some f => exact congrArg some (hr q (fun z => hq z.symm) f).symm
theorem Rep_pV {f : sF} {u' : mU} {v' : mV} (hs : sh r = some (hO ci fs)) (hj : j < fs.length) (hr : ∀ q, q ≠ j → ∀ f, rV u' v' r q f = rV u v r q f) (hu : ∀ q, q ≠ r → u' q = u q) (hv : ∀ q, q ≠ r → v' q = v q) : p_V (Rep sh u v) r ci j (rV u' v' r j f) = some (Rep (va_up sh r (some (hO ci (fs.set j f)))) u' v') := by
  unfold p_V
  rw [Rep_at hs]
  show (if ci = ci then (if j < (fs.mapIdx (fun j f => rV u v r j f)).length then some (va_up (Rep sh u v) r (some (.inr (ci, (fs.mapIdx (fun j f => rV u v r j f)).set j (rV u' v' r j f))))) else none) else none) = _
  rw [if_pos rfl, if_pos (by rw [List.length_mapIdx]; exact hj), fs_set hj hr]
  exact congrArg some (Rep_up (h' := hO ci (fs.set j f)) hs rfl hu hv)
theorem set_same {f : sF} (hf : fs[j]? = some f) : fs.set j f = fs := by
  apply List.ext_getElem?
  intro q
  rw [List.getElem?_set]
  by_cases hq : j = q
  · subst hq
    rw [if_pos rfl, hf, if_pos (List.getElem?_eq_some_iff.mp hf).1]
  · rw [if_neg hq]
theorem Rep_pI (hs : sh r = some (hO ci fs)) (hf : fs[j]? = some fI) : p_I (Rep sh u v) r ci j x = some (Rep sh (wr u r j x) v) := by
  have h := Rep_pV (f := fI) (u := u) (v := v) (u' := wr u r j x) (v' := v) hs (List.getElem?_eq_some_iff.mp hf).1 (fun q hq f => by unfold rV; split <;> simp [wr_ix hq]) (fun q hq => wr_off hq) (fun q hq => rfl)
  rw [set_same hf, sh_same hs] at h
  rw [show rV (wr u r j x) v r j fI = .int x from congrArg Value.int (wr_same u r j x)] at h
  exact h
theorem Rep_pZ (hs : sh r = some (hO ci fs)) (hf : fs[j]? = some fI) (hx : x = 0 ∨ x = 1) : p_Z (Rep sh u v) r ci j x = some (Rep sh (wr u r j x) v) := by
  unfold p_Z
  rw [if_pos hx]
  exact Rep_pI hs hf
theorem Rep_pL {y : Int64} (hs : sh r = some (hO ci fs)) (hf : fs[j]? = some fL) : p_L (Rep sh u v) r ci j y = some (Rep sh u (wrL v r j y)) := by
  have h := Rep_pV (f := fL) (u := u) (v := v) (u' := u) (v' := wrL v r j y) hs (List.getElem?_eq_some_iff.mp hf).1 (fun q hq f => by unfold rV; split <;> simp [wrL_ix hq]) (fun q hq => rfl) (fun q hq => wrL_off hq)
  rw [set_same hf, sh_same hs] at h
  rw [show rV u (wrL v r j y) r j fL = .long y from congrArg Value.long (wrL_same v r j y)] at h
  exact h
theorem Rep_pR {q : Nat} (hs : sh r = some (hO ci fs)) (hj : j < fs.length) : p_R (Rep sh u v) r ci j q = some (Rep (va_up sh r (some (hO ci (fs.set j (fR q))))) u v) := Rep_pV (f := fR q) hs hj (fun _ _ _ => rfl) (fun _ _ => rfl) (fun _ _ => rfl)
end MEM
