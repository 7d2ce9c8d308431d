/-! ===== rows: one instruction over the pure store ===== -/
theorem q_P1 {E : qV} {g : qS} {H : Heap} {r : Nat} {x : qE} (h : q_hw E g H) (hr : g r = some x) : va_P E.1 vwCl [(q_ad E r, q_ce E x)] H := by
  intro k q hk
  match k with
  | 0 => cases hk; exact (h r x hr).2
  | k + 1 => simp at hk
def q_ci (ci : Nat) (C : String) (T : u_T) (N : Nat) (ty0 : Nat → FieldType) : Prop := vwCl[ci]? = some (C, T, N) ∧ (∀ w ∈ u_ws C T N, w ∈ q_GW) ∧ (∀ k, k < N → parseFieldDescriptor (T k).2.2.1 = some (ty0 k)) ∧ (∀ a, a < N → ∀ b, b < N → a ≠ b → (T a).2.1 ≠ (T b).2.1)
def q_lk (own : String) (idx : Nat) (T : u_T) (j : Nat) : Prop := Cond.fieldLink own idx (T j).1 (T j).2.1 (T j).2.2.1 ∈ q_GW ∨ ∃ host : String, Cond.fieldLinkNest own idx (T j).1 (T j).2.1 (T j).2.2.1 host ∈ q_NW
/-- a field that the class own may read by its entry idx: field j of class ci -/
def q_fl (own : String) (idx ci j : Nat) : Prop := ∃ (C : String) (T : u_T) (N : Nat) (ty0 : Nat → FieldType), q_ci ci C T N ty0 ∧ j < N ∧ q_lk own idx T j
/-- .. and write, its type -/
def q_fp (own : String) (idx ci j : Nat) (ty : FieldType) : Prop := ∃ (C : String) (T : u_T) (N : Nat) (ty0 : Nat → FieldType), q_ci ci C T N ty0 ∧ j < N ∧ (T j).2.2.2 = false ∧ parseFieldDescriptor (T j).2.2.1 = some ty ∧ q_lk own idx T j
/-! the kit's rows for writing speak of a list of cells: here is the list of all that the store holds -/
theorem q_snoc {β : Type} {ws : List β} {y q : β} {k : Nat} (h : (ws ++ [y])[k]? = some q) : ws[k]? = some q ∨ (k = ws.length ∧ q = y) := by
  rcases Nat.lt_trichotomy k ws.length with h1 | h1 | h1
  · rw [List.getElem?_append_left h1] at h
    exact Or.inl h
  · subst h1
    rw [List.getElem?_append_right (Nat.le_refl _), Nat.sub_self] at h
    cases h
    exact Or.inr ⟨rfl, rfl⟩
  · rw [List.getElem?_eq_none (by rw [List.length_append, List.length_singleton]; exact h1)] at h
    cases h
theorem q_snoc_old {β : Type} {ws : List β} {y q : β} {k : Nat} (h : ws[k]? = some q) : (ws ++ [y])[k]? = some q := by
  rw [List.getElem?_append_left (List.getElem?_eq_some_iff.mp h).1]
  exact h
theorem q_snoc_new {β : Type} {ws : List β} {y : β} : (ws ++ [y])[ws.length]? = some y := by
  rw [List.getElem?_append_right (Nat.le_refl _), Nat.sub_self]
  rfl
def q_cov (E : qV) (g : qS) (ws : va_W) (n : Nat) : Prop := ∀ (r : Nat) (x : qE), g r = some x → q_ad E r < n → ∃ k : Nat, ws[k]? = some (q_ad E r, q_ce E x)
/-- .. of the cells below an address -/
theorem q_below {E : qV} {g : qS} {H : Heap} (hi : q_inj E) (hw : q_hw E g H) (n : Nat) : ∃ ws : va_W, va_P E.1 vwCl ws H ∧ va_D (q_A E) ws ∧ (∀ (k : Nat) (q : Nat × va_E), ws[k]? = some q → q.1 < n) ∧ q_cov E g ws n := by
  induction n with
  | zero => exact ⟨[], fun k q h => by simp at h, ⟨fun i j p q h => by simp at h, fun k q h => by simp at h⟩, fun k q h => by simp at h, fun r x _ h => absurd h (Nat.not_lt_zero _)⟩
  | succ n ih =>
    obtain ⟨ws, hP, hD, hlt, hcov⟩ := ih
    by_cases hn : ∃ (r : Nat) (x : qE), g r = some x ∧ q_ad E r = n
    · obtain ⟨r, x, hr, ha⟩ := hn
      obtain ⟨hDm, hat⟩ := hw r x hr
      rw [ha] at hat
      refine ⟨ws ++ [(n, q_ce E x)], fun k q h => ?_, ⟨fun i j a b h1 h2 hab => ?_, fun k q h => ?_⟩, fun k q h => ?_, fun r' x' h' hlt' => ?_⟩
      · rcases q_snoc h with h | ⟨-, rfl⟩
        · exact hP k q h
        · exact hat
      · rcases q_snoc h1 with h1 | ⟨e1, rfl⟩
        · rcases q_snoc h2 with h2 | ⟨e2, rfl⟩
          · exact hD.1 i j a b h1 h2 hab
          · exact absurd hab (Nat.ne_of_lt (hlt i a h1))
        · rcases q_snoc h2 with h2 | ⟨e2, rfl⟩
          · exact absurd hab.symm (Nat.ne_of_lt (hlt j b h2))
          · exact e1.trans e2.symm
      · rcases q_snoc h with h | ⟨-, rfl⟩
        · exact hD.2 k q h
        · exact ⟨r, hDm, ha⟩
      · rcases q_snoc h with h | ⟨-, rfl⟩
        · exact Nat.lt_succ_of_lt (hlt k q h)
        · exact Nat.lt_succ_self n
      · by_cases hz : q_ad E r' = n
        · obtain rfl : r' = r := hi r' r (hw r' x' h').1 hDm (hz.trans ha.symm)
          obtain rfl : x' = x := Option.some.inj (h'.symm.trans hr)
          rw [hz]
          exact ⟨ws.length, q_snoc_new⟩
        · obtain ⟨k, hk⟩ := hcov r' x' h' (Nat.lt_of_le_of_ne (Nat.le_of_lt_succ hlt') hz)
          exact ⟨k, q_snoc_old hk⟩
    · refine ⟨ws, hP, hD, fun k q h => Nat.lt_succ_of_lt (hlt k q h), fun r' x' h' hlt' => ?_⟩
      exact hcov r' x' h' (Nat.lt_of_le_of_ne (Nat.le_of_lt_succ hlt') (fun hz => hn ⟨r', x', h', hz⟩))
theorem q_all {E : qV} {g : qS} {H : Heap} (hi : q_inj E) (hw : q_hw E g H) : ∃ ws : va_W, va_P E.1 vwCl ws H ∧ va_D (q_A E) ws ∧ ∀ (r : Nat) (x : qE), g r = some x → ∃ k : Nat, ws[k]? = some (q_ad E r, q_ce E x) := by
  obtain ⟨ws, hP, hD, -, hcov⟩ := q_below hi hw H.size
  exact ⟨ws, hP, hD, fun r x h => hcov r x h (hw r x h).2.lt⟩
/-- nothing is written yet -/
theorem q_J.begun {E : qV} {s : State} {g : qS} {H : Heap} {locs : List Loc} (hj : q_J E s g H locs) : va_S (q_A E) H H locs := ⟨Nat.le_refl _, fun _ _ _ => rfl, hj.2.2.2⟩
/-- behind a kit's row that has written one cell of the list: the store with that cell changed -/
theorem q_J.to {E : qV} {s : State} {g : qS} {H H1 : Heap} {locs locs1 : List Loc} {ws : va_W} {k r : Nat} {x0 x : qE} (hi : q_inj E) (hj : q_J E s g H locs) (hcov : ∀ (r : Nat) (x : qE), g r = some x → ∃ k : Nat, ws[k]? = some (q_ad E r, q_ce E x)) (hr : g r = some x0) (hk : ws[k]? = some (q_ad E r, q_ce E x0)) (hP : va_P E.1 vwCl (ws.set k (q_ad E r, q_ce E x)) H1) (hS : va_S (q_A E) H H1 locs1) :
    q_J E s (va_up g r (some x)) H1 locs1 := by
  refine ⟨fun r' x' h' => ?_, Nat.le_trans hj.2.1 hS.1, fun q h1 h2 => (hS.2.1 q (Nat.lt_of_lt_of_le h1 hj.2.1) h2).trans (hj.2.2.1 q h1 h2), hS.2.2⟩
  by_cases hrr : r' = r
  · subst hrr
    rw [va_up_self] at h'
    cases h'
    exact ⟨(hj.1 r' x0 hr).1, hP k _ (List.getElem?_set_self (List.getElem?_eq_some_iff.mp hk).1)⟩
  · rw [va_up_ne _ _ hrr] at h'
    obtain ⟨k', hk'⟩ := hcov r' x' h'
    have hne : k ≠ k' := fun z => by
      subst z
      have hq := congrArg Prod.fst (Option.some.inj (hk.symm.trans hk'))
      exact hrr (hi r' r (hj.1 r' x' h').1 (hj.1 r x0 hr).1 hq.symm)
    exact ⟨(hj.1 r' x' h').1, hP k' _ ((List.getElem?_set_ne hne).trans hk')⟩
section QR
variable {l : Launch} {E : qV} {p : Program} {e : Env} {R : Room} {s : State} {m : MethodId} {args : Array Value} {below : List Frame} {meth : Method} {c : Code} {H : Heap} {locs : List Loc} {cells slots : Nat} {Q : State → Prop} {cc : ByteArray} {own : String} {nL : Nat} {rt : Option FieldType} {pc : Nat} {ls : Array Slot} {rest : List Value} {g : qS} {α : Type} {res : α}
theorem q_get (C : q_C E p s m args meth c cc own nL rt) (hj : q_J E s g H locs) {r ci j idx : Nat} {v : Value} {fs : List Value} (lk : q_fl own idx ci j) (hd : decode cc pc = .ok (.getfield idx, 3)) (hg : g r = some (.inr (ci, fs))) (hv : fs[j]? = some v)
    (k : W p l e R s m args below meth c H locs cells slots Q (F0 m (pc + 3) ls (q_cv E v :: rest))) : W p l e R s m args below meth c H locs cells slots Q (F0 m pc ls (.ref (q_ad E r) :: rest)) := by
  obtain ⟨hx, hb, -, hown, hts, -, -, hEV⟩ := C
  obtain ⟨Cn, T, N, ty0, ⟨hc, hin, -, -⟩, hjN, hlk⟩ := lk
  have hv' : (fs.map (q_cv E))[j]? = some (q_cv E v) := by rw [List.getElem?_map, hv]; rfl
  rcases hlk with hl | ⟨host, hl⟩
  · exact va_get (ws := [(q_ad E r, q_ce E (.inr (ci, fs)))]) hx hb hts hin hown hEV.1 (q_P1 hj.1 hg) 0 rfl hc j hjN (hts _ hl) (fun _ h => h) hv' hd k
  · exact va_getN (ws := [(q_ad E r, q_ce E (.inr (ci, fs)))]) hx hb hts hin hown hEV.1 (q_P1 hj.1 hg) 0 rfl hc j hjN (va_Nw.use rfl (hEV.2.2.1 _ hl)) (fun _ h => h) hv' hd k
theorem q_getI (C : q_C E p s m args meth c cc own nL rt) (hj : q_J E s g H locs) {r ci j idx : Nat} (lk : q_fl own idx ci j) (hd : decode cc pc = .ok (.getfield idx, 3)) {f : Int32 → Option α} (hf : (g_I g r ci j).bind f = some res)
    (k : ∀ v, f v = some res → W p l e R s m args below meth c H locs cells slots Q (F0 m (pc + 3) ls (.int v :: rest))) : W p l e R s m args below meth c H locs cells slots Q (F0 m pc ls (.ref (q_ad E r) :: rest)) := by
  obtain ⟨v, h1, h2⟩ := q_ob hf
  obtain ⟨fs, h3, h4⟩ := g_I_sp h1
  exact q_get C hj lk hd h3 h4 (k v h2)
theorem q_getL (C : q_C E p s m args meth c cc own nL rt) (hj : q_J E s g H locs) {r ci j idx : Nat} (lk : q_fl own idx ci j) (hd : decode cc pc = .ok (.getfield idx, 3)) {f : Int64 → Option α} (hf : (g_L g r ci j).bind f = some res)
    (k : ∀ v, f v = some res → W p l e R s m args below meth c H locs cells slots Q (F0 m (pc + 3) ls (.long v :: rest))) : W p l e R s m args below meth c H locs cells slots Q (F0 m pc ls (.ref (q_ad E r) :: rest)) := by
  obtain ⟨v, h1, h2⟩ := q_ob hf
  obtain ⟨fs, h3, h4⟩ := g_L_sp h1
  exact q_get C hj lk hd h3 h4 (k v h2)
theorem q_getR (C : q_C E p s m args meth c cc own nL rt) (hj : q_J E s g H locs) {r ci j idx : Nat} (lk : q_fl own idx ci j) (hd : decode cc pc = .ok (.getfield idx, 3)) {f : Nat → Option α} (hf : (g_R g r ci j).bind f = some res)
    (k : ∀ v, f v = some res → W p l e R s m args below meth c H locs cells slots Q (F0 m (pc + 3) ls (.ref (q_ad E v) :: rest))) : W p l e R s m args below meth c H locs cells slots Q (F0 m pc ls (.ref (q_ad E r) :: rest)) := by
  obtain ⟨v, h1, h2⟩ := q_ob hf
  obtain ⟨fs, h3, h4⟩ := g_R_sp h1
  exact q_get C hj lk hd h3 h4 (k v h2)
/-- getfield; ifnull -/
theorem q_gnull (C : q_C E p s m args meth c cc own nL rt) (hj : q_J E s g H locs) {r ci j idx : Nat} (lk : q_fl own idx ci j) (hd : decode cc pc = .ok (.getfield idx, 3)) {off : Int} {tgt : Nat} (hd2 : decode cc (pc + 3) = .ok (.ifnull off, 3)) (ht : ((pc + 3 : Nat) : Int) + off = (tgt : Int)) {a b : Option α} (hf : (g_Q g r ci j).bind (fun o => if o = none then a else b) = some res)
    (kt : a = some res → W p l e R s m args below meth c H locs cells slots Q (F0 m tgt ls rest)) (kf : b = some res → W p l e R s m args below meth c H locs cells slots Q (F0 m (pc + 3 + 3) ls rest)) : W p l e R s m args below meth c H locs cells slots Q (F0 m pc ls (.ref (q_ad E r) :: rest)) := by
  obtain ⟨v, h1, h2⟩ := q_ob hf
  obtain ⟨fs, h3, h4⟩ := g_Q_sp h1
  refine q_get C hj lk hd h3 h4 ?_
  cases v with
  | none => exact lv_ifnullN C.1 C.2.1 hd2 ht (kt h2)
  | some x => exact lv_ifnull C.1 C.2.1 hd2 (kf h2)
/-- getfield; ifnonnull -/
theorem q_gnnull (C : q_C E p s m args meth c cc own nL rt) (hj : q_J E s g H locs) {r ci j idx : Nat} (lk : q_fl own idx ci j) (hd : decode cc pc = .ok (.getfield idx, 3)) {off : Int} {tgt : Nat} (hd2 : decode cc (pc + 3) = .ok (.ifnonnull off, 3)) (ht : ((pc + 3 : Nat) : Int) + off = (tgt : Int)) {a b : Option α} (hf : (g_Q g r ci j).bind (fun o => if o = none then b else a) = some res)
    (kt : a = some res → W p l e R s m args below meth c H locs cells slots Q (F0 m tgt ls rest)) (kf : b = some res → W p l e R s m args below meth c H locs cells slots Q (F0 m (pc + 3 + 3) ls rest)) : W p l e R s m args below meth c H locs cells slots Q (F0 m pc ls (.ref (q_ad E r) :: rest)) := by
  obtain ⟨v, h1, h2⟩ := q_ob hf
  obtain ⟨fs, h3, h4⟩ := g_Q_sp h1
  refine q_get C hj lk hd h3 h4 ?_
  cases v with
  | none => exact lv_ifnonnullN C.1 C.2.1 hd2 (kf h2)
  | some x => exact lv_ifnonnull C.1 C.2.1 hd2 ht (kt h2)
theorem q_putS (C : q_C E p s m args meth c cc own nL rt) (hj : q_J E s g H locs) {r ci j idx : Nat} {ty : FieldType} {v : Value} {fs : List Value} (lk : q_fp own idx ci j ty) (hd : decode cc pc = .ok (.putfield idx, 3)) (hg : g r = some (.inr (ci, fs))) (hl : j < fs.length) (hn : narrow ty (q_cv E v) = q_cv E v) (hfit : fits ty (q_cv E v) = true)
    (k : ∀ (H1 : Heap) (locs1 : List Loc), q_J E s (va_up g r (some (.inr (ci, fs.set j v)))) H1 locs1 → H.size ≤ H1.size → W p l e R s m args below meth c H1 locs1 cells slots Q (F0 m (pc + 3) ls rest)) : W p l e R s m args below meth c H locs cells slots Q (F0 m pc ls (q_cv E v :: .ref (q_ad E r) :: rest)) := by
  obtain ⟨hx, hb, -, hown, hts, -, -, hEV⟩ := C
  obtain ⟨Cn, T, N, ty0, ⟨hc, hin, hty, hnm⟩, hjN, hfin, hd2, hlk⟩ := lk
  obtain ⟨ws, hP, hD, hcov⟩ := q_all hEV.2.1 hj.1
  obtain ⟨q0, h0⟩ := hcov r _ hg
  have hl' : j < (fs.map (q_cv E)).length := by rw [List.length_map]; exact hl
  have kk : ∀ (H1 : Heap) (locs1 : List Loc), va_P E.1 vwCl (ws.set q0 (q_ad E r, .inr (ci, (fs.map (q_cv E)).set j (q_cv E v)))) H1 → va_D (q_A E) (ws.set q0 (q_ad E r, .inr (ci, (fs.map (q_cv E)).set j (q_cv E v)))) → va_S (q_A E) H H1 locs1 → W p l e R s m args below meth c H1 locs1 cells slots Q (F0 m (pc + 3) ls rest) := by
    intro H1 locs1 hP1 _ hS1
    rw [← List.map_set] at hP1
    exact k H1 locs1 (q_J.to (x := .inr (ci, fs.set j v)) hEV.2.1 hj hcov hg h0 hP1 hS1) hS1.1
  rcases hlk with h1 | ⟨host, h1⟩
  · exact va_put hx hb hts hin ty0 hty hnm hown hEV.1 hP hD hj.begun q0 h0 hc j hjN (hts _ h1) (fun _ h => h) hfin hd2 hn hfit hl' hd kk
  · exact va_putN hx hb hts hin ty0 hty hnm hown hEV.1 hP hD hj.begun q0 h0 hc j hjN (va_Nw.use rfl (hEV.2.2.1 _ h1)) (fun _ h => h) hfin hd2 hn hfit hl' hd kk
theorem q_put (C : q_C E p s m args meth c cc own nL rt) (hj : q_J E s g H locs) {r ci j idx : Nat} {ty : FieldType} {v : Value} {fs : List Value} (lk : q_fp own idx ci j ty) (hd : decode cc pc = .ok (.putfield idx, 3)) (hg : g r = some (.inr (ci, fs))) (hl : j < fs.length) (hn : narrow ty (q_cv E v) = q_cv E v) (hfit : fits ty (q_cv E v) = true)
    (k : ∀ (H1 : Heap) (locs1 : List Loc), q_J E s (va_up g r (some (.inr (ci, fs.set j v)))) H1 locs1 → W p l e R s m args below meth c H1 locs1 cells slots Q (F0 m (pc + 3) ls rest)) : W p l e R s m args below meth c H locs cells slots Q (F0 m pc ls (q_cv E v :: .ref (q_ad E r) :: rest)) :=
  q_putS C hj lk hd hg hl hn hfit (fun H1 locs1 hj1 _ => k H1 locs1 hj1)
theorem q_putI (C : q_C E p s m args meth c cc own nL rt) (hj : q_J E s g H locs) {r ci j idx : Nat} {v : Int32} (lk : q_fp own idx ci j .int) (hd : decode cc pc = .ok (.putfield idx, 3)) {f : qS → Option α} (hf : (p_I g r ci j v).bind f = some res)
    (k : ∀ (g1 : qS) (H1 : Heap) (locs1 : List Loc), q_J E s g1 H1 locs1 → f g1 = some res → W p l e R s m args below meth c H1 locs1 cells slots Q (F0 m (pc + 3) ls rest)) : W p l e R s m args below meth c H locs cells slots Q (F0 m pc ls (.int v :: .ref (q_ad E r) :: rest)) := by
  obtain ⟨g1, h1, h2⟩ := q_ob hf
  obtain ⟨fs, h3, h4, rfl⟩ := p_V_sp h1
  exact q_put (v := .int v) C hj lk hd h3 h4 rfl rfl (fun H1 locs1 hj => k _ H1 locs1 hj h2)
theorem q_putZ (C : q_C E p s m args meth c cc own nL rt) (hj : q_J E s g H locs) {r ci j idx : Nat} {v : Int32} (lk : q_fp own idx ci j .boolean) (hd : decode cc pc = .ok (.putfield idx, 3)) {f : qS → Option α} (hf : (p_Z g r ci j v).bind f = some res)
    (k : ∀ (g1 : qS) (H1 : Heap) (locs1 : List Loc), q_J E s g1 H1 locs1 → f g1 = some res → W p l e R s m args below meth c H1 locs1 cells slots Q (F0 m (pc + 3) ls rest)) : W p l e R s m args below meth c H locs cells slots Q (F0 m pc ls (.int v :: .ref (q_ad E r) :: rest)) := by
  obtain ⟨g1, h1, h2⟩ := q_ob hf
  unfold p_Z at h1
  split at h1
  · rename_i hz
    obtain ⟨fs, h3, h4, rfl⟩ := p_V_sp h1
    refine q_put (v := .int v) C hj lk hd h3 h4 ?_ ?_ (fun H1 locs1 hj => k _ H1 locs1 hj h2)
    · rcases hz with rfl | rfl
      · exact (by decide +kernel : narrow .boolean (.int 0) = .int 0)
      · exact (by decide +kernel : narrow .boolean (.int 1) = .int 1)
    · rcases hz with rfl | rfl
      · exact (by decide +kernel : fits .boolean (.int 0) = true)
      · exact (by decide +kernel : fits .boolean (.int 1) = true)
  · cases h1
theorem q_putL (C : q_C E p s m args meth c cc own nL rt) (hj : q_J E s g H locs) {r ci j idx : Nat} {v : Int64} (lk : q_fp own idx ci j .long) (hd : decode cc pc = .ok (.putfield idx, 3)) {f : qS → Option α} (hf : (p_L g r ci j v).bind f = some res)
    (k : ∀ (g1 : qS) (H1 : Heap) (locs1 : List Loc), q_J E s g1 H1 locs1 → f g1 = some res → W p l e R s m args below meth c H1 locs1 cells slots Q (F0 m (pc + 3) ls rest)) : W p l e R s m args below meth c H locs cells slots Q (F0 m pc ls (.long v :: .ref (q_ad E r) :: rest)) := by
  obtain ⟨g1, h1, h2⟩ := q_ob hf
  obtain ⟨fs, h3, h4, rfl⟩ := p_V_sp h1
  exact q_put (v := .long v) C hj lk hd h3 h4 rfl rfl (fun H1 locs1 hj => k _ H1 locs1 hj h2)
theorem q_putR (C : q_C E p s m args meth c cc own nL rt) (hj : q_J E s g H locs) {r ci j idx v : Nat} {nm : String} (lk : q_fp own idx ci j (.object nm)) (hd : decode cc pc = .ok (.putfield idx, 3)) {f : qS → Option α} (hf : (p_R g r ci j v).bind f = some res)
    (k : ∀ (g1 : qS) (H1 : Heap) (locs1 : List Loc), q_J E s g1 H1 locs1 → f g1 = some res → W p l e R s m args below meth c H1 locs1 cells slots Q (F0 m (pc + 3) ls rest)) : W p l e R s m args below meth c H locs cells slots Q (F0 m pc ls (.ref (q_ad E v) :: .ref (q_ad E r) :: rest)) := by
  obtain ⟨g1, h1, h2⟩ := q_ob hf
  obtain ⟨fs, h3, h4, rfl⟩ := p_V_sp h1
  exact q_put (v := .ref v) C hj lk hd h3 h4 rfl rfl (fun H1 locs1 hj => k _ H1 locs1 hj h2)
/-! arrays -/
theorem q_aldI (C : q_C E p s m args meth c cc own nL rt) (hj : q_J E s g H locs) {r : Nat} {i : Int32} (hd : decode cc pc = .ok (.iaload, 1)) {f : Int32 → Option α} (hf : (a_I g r i).bind f = some res)
    (k : ∀ v, f v = some res → W p l e R s m args below meth c H locs cells slots Q (F0 m (pc + 1) ls (.int v :: rest))) : W p l e R s m args below meth c H locs cells slots Q (F0 m pc ls (.int i :: .ref (q_ad E r) :: rest)) := by
  obtain ⟨v, h1, h2⟩ := q_ob hf
  obtain ⟨n, f, h3, h4, rfl⟩ := a_K_sp h1
  exact va_iald (tys := q_tys E) C.1 C.2.1 C.2.2.2.2.2.2.2.1 (q_P1 hj.1 h3) 0 1 rfl rfl h4 hd (k _ h2)
theorem q_aldB (C : q_C E p s m args meth c cc own nL rt) (hj : q_J E s g H locs) {r : Nat} {i : Int32} (hd : decode cc pc = .ok (.baload, 1)) {f : Int32 → Option α} (hf : (a_B g r i).bind f = some res)
    (k : ∀ v, f v = some res → W p l e R s m args below meth c H locs cells slots Q (F0 m (pc + 1) ls (.int v :: rest))) : W p l e R s m args below meth c H locs cells slots Q (F0 m pc ls (.int i :: .ref (q_ad E r) :: rest)) := by
  obtain ⟨v, h1, h2⟩ := q_ob hf
  obtain ⟨n, f, h3, h4, rfl⟩ := a_K_sp h1
  exact va_bald (tys := q_tys E) C.1 C.2.1 C.2.2.2.2.2.2.2.1 (q_P1 hj.1 h3) 0 0 rfl rfl h4 hd (k _ h2)
theorem q_aldZ (C : q_C E p s m args meth c cc own nL rt) (hj : q_J E s g H locs) {r : Nat} {i : Int32} (hd : decode cc pc = .ok (.baload, 1)) {f : Int32 → Option α} (hf : (a_Z g r i).bind f = some res)
    (k : ∀ v, f v = some res → W p l e R s m args below meth c H locs cells slots Q (F0 m (pc + 1) ls (.int v :: rest))) : W p l e R s m args below meth c H locs cells slots Q (F0 m pc ls (.int i :: .ref (q_ad E r) :: rest)) := by
  obtain ⟨v, h1, h2⟩ := q_ob hf
  obtain ⟨n, f, h3, h4, rfl⟩ := a_K_sp h1
  exact va_zald (tys := q_tys E) C.1 C.2.1 C.2.2.2.2.2.2.2.1 (q_P1 hj.1 h3) 0 3 rfl rfl h4 hd (k _ h2)
theorem q_aldL (C : q_C E p s m args meth c cc own nL rt) (hj : q_J E s g H locs) {r : Nat} {i : Int32} (hd : decode cc pc = .ok (.laload, 1)) {f : Int64 → Option α} (hf : (a_L g r i).bind f = some res)
    (k : ∀ v, f v = some res → W p l e R s m args below meth c H locs cells slots Q (F0 m (pc + 1) ls (.long v :: rest))) : W p l e R s m args below meth c H locs cells slots Q (F0 m pc ls (.int i :: .ref (q_ad E r) :: rest)) := by
  obtain ⟨v, h1, h2⟩ := q_ob hf
  obtain ⟨n, f, h3, h4, rfl⟩ := a_L_sp h1
  exact va_lald (tys := q_tys E) C.1 C.2.1 C.2.2.2.2.2.2.2.1 (q_P1 hj.1 h3) 0 2 rfl rfl h4 hd (k _ h2)
theorem q_alen (C : q_C E p s m args meth c cc own nL rt) (hj : q_J E s g H locs) {r : Nat} (hd : decode cc pc = .ok (.arraylength, 1)) {f : Int32 → Option α} (hf : (a_n g r).bind f = some res)
    (k : ∀ v, f v = some res → W p l e R s m args below meth c H locs cells slots Q (F0 m (pc + 1) ls (.int v :: rest))) : W p l e R s m args below meth c H locs cells slots Q (F0 m pc ls (.ref (q_ad E r) :: rest)) := by
  obtain ⟨v, h1, h2⟩ := q_ob hf
  obtain ⟨kk, a, h3, h4, rfl⟩ := a_n_sp h1
  obtain ⟨ty, hty⟩ := q_ty (E := E) h4
  exact va_alen (tys := q_tys E) C.1 C.2.1 C.2.2.2.2.2.2.2.1 (q_P1 hj.1 h3) 0 kk rfl hty rfl hd (k _ h2)
theorem q_astI (C : q_C E p s m args meth c cc own nL rt) (hj : q_J E s g H locs) {r : Nat} {i x : Int32} (hd : decode cc pc = .ok (.iastore, 1)) {f : qS → Option α} (hf : (s_I g r i x).bind f = some res)
    (k : ∀ (g1 : qS) (H1 : Heap) (locs1 : List Loc), q_J E s g1 H1 locs1 → f g1 = some res → W p l e R s m args below meth c H1 locs1 cells slots Q (F0 m (pc + 1) ls rest)) : W p l e R s m args below meth c H locs cells slots Q (F0 m pc ls (.int x :: .int i :: .ref (q_ad E r) :: rest)) := by
  obtain ⟨g1, h1, h2⟩ := q_ob hf
  obtain ⟨n, f, h3, h4, rfl⟩ := s_K_sp h1
  have hi : q_inj E := C.2.2.2.2.2.2.2.2.1
  obtain ⟨ws, hP, hD, hcov⟩ := q_all hi hj.1
  obtain ⟨q0, h0⟩ := hcov r _ h3
  exact va_iast (tys := q_tys E) C.1 C.2.1 C.2.2.2.2.2.2.2.1 hP hD hj.begun q0 1 h0 rfl h4 hd (fun H1 locs1 hP1 _ hS1 => k _ H1 locs1 (q_J.to (x := .inl (1, n, .inl (upd f i.toNatClampNeg x))) hi hj hcov h3 h0 hP1 hS1) h2)
theorem q_astB (C : q_C E p s m args meth c cc own nL rt) (hj : q_J E s g H locs) {r : Nat} {i x : Int32} (hd : decode cc pc = .ok (.bastore, 1)) {f : qS → Option α} (hf : (s_B g r i x).bind f = some res)
    (k : ∀ (g1 : qS) (H1 : Heap) (locs1 : List Loc), q_J E s g1 H1 locs1 → f g1 = some res → W p l e R s m args below meth c H1 locs1 cells slots Q (F0 m (pc + 1) ls rest)) : W p l e R s m args below meth c H locs cells slots Q (F0 m pc ls (.int x :: .int i :: .ref (q_ad E r) :: rest)) := by
  obtain ⟨g1, h1, h2⟩ := q_ob hf
  obtain ⟨n, f, h3, h4, rfl⟩ := s_K_sp h1
  have hi : q_inj E := C.2.2.2.2.2.2.2.2.1
  obtain ⟨ws, hP, hD, hcov⟩ := q_all hi hj.1
  obtain ⟨q0, h0⟩ := hcov r _ h3
  exact va_bast (tys := q_tys E) C.1 C.2.1 C.2.2.2.2.2.2.2.1 hP hD hj.begun q0 0 h0 rfl h4 hd (fun H1 locs1 hP1 _ hS1 => k _ H1 locs1 (q_J.to (x := .inl (0, n, .inl (upd f i.toNatClampNeg (vp_nar .byte x)))) hi hj hcov h3 h0 hP1 hS1) h2)
theorem q_astZ (C : q_C E p s m args meth c cc own nL rt) (hj : q_J E s g H locs) {r : Nat} {i x : Int32} (hd : decode cc pc = .ok (.bastore, 1)) {f : qS → Option α} (hf : (s_Z g r i x).bind f = some res)
    (k : ∀ (g1 : qS) (H1 : Heap) (locs1 : List Loc), q_J E s g1 H1 locs1 → f g1 = some res → W p l e R s m args below meth c H1 locs1 cells slots Q (F0 m (pc + 1) ls rest)) : W p l e R s m args below meth c H locs cells slots Q (F0 m pc ls (.int x :: .int i :: .ref (q_ad E r) :: rest)) := by
  obtain ⟨g1, h1, h2⟩ := q_ob hf
  obtain ⟨n, f, h3, h4, rfl⟩ := s_K_sp h1
  have hi : q_inj E := C.2.2.2.2.2.2.2.2.1
  obtain ⟨ws, hP, hD, hcov⟩ := q_all hi hj.1
  obtain ⟨q0, h0⟩ := hcov r _ h3
  exact va_zast (tys := q_tys E) C.1 C.2.1 C.2.2.2.2.2.2.2.1 hP hD hj.begun q0 3 h0 rfl h4 hd (fun H1 locs1 hP1 _ hS1 => k _ H1 locs1 (q_J.to (x := .inl (3, n, .inl (upd f i.toNatClampNeg (vp_nar .boolean x)))) hi hj hcov h3 h0 hP1 hS1) h2)
theorem q_astL (C : q_C E p s m args meth c cc own nL rt) (hj : q_J E s g H locs) {r : Nat} {i : Int32} {x : Int64} (hd : decode cc pc = .ok (.lastore, 1)) {f : qS → Option α} (hf : (s_L g r i x).bind f = some res)
    (k : ∀ (g1 : qS) (H1 : Heap) (locs1 : List Loc), q_J E s g1 H1 locs1 → f g1 = some res → W p l e R s m args below meth c H1 locs1 cells slots Q (F0 m (pc + 1) ls rest)) : W p l e R s m args below meth c H locs cells slots Q (F0 m pc ls (.long x :: .int i :: .ref (q_ad E r) :: rest)) := by
  obtain ⟨g1, h1, h2⟩ := q_ob hf
  obtain ⟨n, f, h3, h4, rfl⟩ := s_L_sp h1
  have hi : q_inj E := C.2.2.2.2.2.2.2.2.1
  obtain ⟨ws, hP, hD, hcov⟩ := q_all hi hj.1
  obtain ⟨q0, h0⟩ := hcov r _ h3
  exact va_last (tys := q_tys E) C.1 C.2.1 C.2.2.2.2.2.2.2.1 hP hD hj.begun q0 2 h0 rfl h4 hd (fun H1 locs1 hP1 _ hS1 => k _ H1 locs1 (q_J.to (x := .inl (2, n, .inr (.inl (vp_updL f i.toNatClampNeg x)))) hi hj hcov h3 h0 hP1 hS1) h2)
end QR
