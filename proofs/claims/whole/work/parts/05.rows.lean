/-! ===== rows: one instruction over the pure store ===== -/
theorem q_P1 {E : qV} {g : qS} {H : Heap} {r : Nat} {x : qE} (h : q_hw E g H) (hr : g r = some x) : va_P E.1 vwCl [(q_ad E r, q_ce E x)] H := by
  intro k q hk
  match k with
  | 0 => cases hk; exact (h r x hr).2
  | k + 1 => simp at hk
def q_ci (ci : Nat) (C : String) (T : u_T) (N : Nat) (ty0 : Nat → FieldType) : Prop := vwCl[ci]? = some (C, T, N) ∧ (∀ w ∈ u_ws C T N, w ∈ q_GW) ∧ (∀ k, k < N → parseFieldDescriptor (T k).2.2.1 = some (ty0 k)) ∧ (∀ a, a < N → ∀ b, b < N → a ≠ b → (T a).2.1 ≠ (T b).2.1)
def q_lk (own : String) (idx : Nat) (T : u_T) (j : Nat) : Prop := Cond.fieldLink own idx (T j).1 (T j).2.1 (T j).2.2.1 ∈ q_GW ∨ ∃ host : String, Cond.fieldLinkNest own idx (T j).1 (T j).2.1 (T j).2.2.1 host ∈ q_NW
/-- a field that the class own may read by its entry idx: field j of class ci -/
def q_fl (own : String) (idx ci j : Nat) : Prop := ∃ (C : String) (T : u_T) (N : Nat) (ty0 : Nat → FieldType), q_ci ci C T N ty0 ∧ j < N ∧ q_lk own idx T j
/-- .. and write, its type -/
def q_fp (own : String) (idx ci j : Nat) (ty : FieldType) : Prop := ∃ (C : String) (T : u_T) (N : Nat) (ty0 : Nat → FieldType), q_ci ci C T N ty0 ∧ j < N ∧ (T j).2.2.2 = false ∧ parseFieldDescriptor (T j).2.2.1 = some ty ∧ q_lk own idx T j
section QR
variable {l : Launch} {E : qV} {p : Program} {e : Env} {R : Room} {s : State} {m : MethodId} {args : Array Value} {below : List Frame} {meth : Method} {c : Code} {H : Heap} {locs : List Loc} {cells slots : Nat} {Q : State → Prop} {cc : ByteArray} {own : String} {nL : Nat} {rt : Option FieldType} {pc : Nat} {ls : Array Slot} {rest : List Value} {g : qS} {α : Type} {res : α}
theorem q_get (C : q_C E p s m args meth c cc own nL rt) (hj : q_J E s g H locs) {r ci j idx : Nat} {v : Value} {fs : List Value} (lk : q_fl own idx ci j) (hd : decode cc pc = .ok (.getfield idx, 3)) (hg : g r = some (.inr (ci, fs))) (hv : fs[j]? = some v)
    (k : W p l e R s m args below meth c H locs cells slots Q (F0 m (pc + 3) ls (q_cv E v :: rest))) : W p l e R s m args below meth c H locs cells slots Q (F0 m pc ls (.ref (q_ad E r) :: rest)) := by
  obtain ⟨hx, hb, -, hown, hts, -, -, hEV⟩ := C
  obtain ⟨Cn, T, N, ty0, ⟨hc, hin, -, -⟩, hjN, hlk⟩ := lk
  have hv' : (fs.map (q_cv E))[j]? = some (q_cv E v) := by rw [List.getElem?_map, hv]; rfl
  rcases hlk with hl | ⟨host, hl⟩
  · exact va_get (ws := [(q_ad E r, q_ce E (.inr (ci, fs)))]) hx hb hts hin hown hEV.1 (q_P1 hj.1 hg) 0 rfl hc j hjN (hts _ hl) (fun _ h => h) hv' hd k
  · exact va_getN (ws := [(q_ad E r, q_ce E (.inr (ci, fs)))]) hx hb hts hin hown hEV.1 (q_P1 hj.1 hg) 0 rfl hc j hjN (va_Nw.use rfl (hEV.2.2.1 _ hl)) (fun _ h => h) hv' hd k
theorem q_getI (C : q_C E p s m args meth c cc own nL rt) (hj : q_J E s g H locs) {r ci j idx : Nat} (lk : q_fl own idx ci j) (hd : decode cc pc = .ok (.getfield idx, 3)) {f : Int32 → Option α} (hf : (g_I g r ci j).bind f = some res)
    (k : ∀ v, f v = some res → W p l e R s m args below meth c H locs cells slots Q (F0 m (pc + 3) ls (.int v :: rest))) : W p l e R s m args below meth c H locs cells slots Q (F0 m pc ls (.ref (q_ad E r) :: rest)) := by
  obtain ⟨v, h1, h2⟩ := q_ob hf
  obtain ⟨fs, h3, h4⟩ := g_I_sp h1
  exact q_get C hj lk hd h3 h4 (k v h2)
theorem q_getL (C : q_C E p s m args meth c cc own nL rt) (hj : q_J E s g H locs) {r ci j idx : Nat} (lk : q_fl own idx ci j) (hd : decode cc pc = .ok (.getfield idx, 3)) {f : Int64 → Option α} (hf : (g_L g r ci j).bind f = some res)
    (k : ∀ v, f v = some res → W p l e R s m args below meth c H locs cells slots Q (F0 m (pc + 3) ls (.long v :: rest))) : W p l e R s m args below meth c H locs cells slots Q (F0 m pc ls (.ref (q_ad E r) :: rest)) := by
  obtain ⟨v, h1, h2⟩ := q_ob hf
  obtain ⟨fs, h3, h4⟩ := g_L_sp h1
  exact q_get C hj lk hd h3 h4 (k v h2)
theorem q_getR (C : q_C E p s m args meth c cc own nL rt) (hj : q_J E s g H locs) {r ci j idx : Nat} (lk : q_fl own idx ci j) (hd : decode cc pc = .ok (.getfield idx, 3)) {f : Nat → Option α} (hf : (g_R g r ci j).bind f = some res)
    (k : ∀ v, f v = some res → W p l e R s m args below meth c H locs cells slots Q (F0 m (pc + 3) ls (.ref (q_ad E v) :: rest))) : W p l e R s m args below meth c H locs cells slots Q (F0 m pc ls (.ref (q_ad E r) :: rest)) := by
  obtain ⟨v, h1, h2⟩ := q_ob hf
  obtain ⟨fs, h3, h4⟩ := g_R_sp h1
  exact q_get C hj lk hd h3 h4 (k v h2)
/-- getfield; ifnull -/
theorem q_gnull (C : q_C E p s m args meth c cc own nL rt) (hj : q_J E s g H locs) {r ci j idx : Nat} (lk : q_fl own idx ci j) (hd : decode cc pc = .ok (.getfield idx, 3)) {off : Int} {tgt : Nat} (hd2 : decode cc (pc + 3) = .ok (.ifnull off, 3)) (ht : ((pc + 3 : Nat) : Int) + off = (tgt : Int)) {a b : Option α} (hf : (g_Q g r ci j).bind (fun o => if o = none then a else b) = some res)
    (kt : a = some res → W p l e R s m args below meth c H locs cells slots Q (F0 m tgt ls rest)) (kf : b = some res → W p l e R s m args below meth c H locs cells slots Q (F0 m (pc + 3 + 3) ls rest)) : W p l e R s m args below meth c H locs cells slots Q (F0 m pc ls (.ref (q_ad E r) :: rest)) := by
  obtain ⟨v, h1, h2⟩ := q_ob hf
  obtain ⟨fs, h3, h4⟩ := g_Q_sp h1
  refine q_get C hj lk hd h3 h4 ?_
  cases v with
  | none => exact lv_ifnullN C.1 C.2.1 hd2 ht (kt h2)
  | some x => exact lv_ifnull C.1 C.2.1 hd2 (kf h2)
/-- getfield; ifnonnull -/
theorem q_gnnull (C : q_C E p s m args meth c cc own nL rt) (hj : q_J E s g H locs) {r ci j idx : Nat} (lk : q_fl own idx ci j) (hd : decode cc pc = .ok (.getfield idx, 3)) {off : Int} {tgt : Nat} (hd2 : decode cc (pc + 3) = .ok (.ifnonnull off, 3)) (ht : ((pc + 3 : Nat) : Int) + off = (tgt : Int)) {a b : Option α} (hf : (g_Q g r ci j).bind (fun o => if o = none then b else a) = some res)
    (kt : a = some res → W p l e R s m args below meth c H locs cells slots Q (F0 m tgt ls rest)) (kf : b = some res → W p l e R s m args below meth c H locs cells slots Q (F0 m (pc + 3 + 3) ls rest)) : W p l e R s m args below meth c H locs cells slots Q (F0 m pc ls (.ref (q_ad E r) :: rest)) := by
  obtain ⟨v, h1, h2⟩ := q_ob hf
  obtain ⟨fs, h3, h4⟩ := g_Q_sp h1
  refine q_get C hj lk hd h3 h4 ?_
  cases v with
  | none => exact lv_ifnonnullN C.1 C.2.1 hd2 (kf h2)
  | some x => exact lv_ifnonnull C.1 C.2.1 hd2 ht (kt h2)
theorem q_put (C : q_C E p s m args meth c cc own nL rt) (hj : q_J E s g H locs) {r ci j idx : Nat} {ty : FieldType} {v : Value} {fs : List Value} (lk : q_fp own idx ci j ty) (hd : decode cc pc = .ok (.putfield idx, 3)) (hg : g r = some (.inr (ci, fs))) (hl : j < fs.length) (hn : narrow ty (q_cv E v) = q_cv E v) (hfit : fits ty (q_cv E v) = true)
    (k : ∀ (H1 : Heap) (locs1 : List Loc), q_J E s (va_up g r (some (.inr (ci, fs.set j v)))) H1 locs1 → W p l e R s m args below meth c H1 locs1 cells slots Q (F0 m (pc + 3) ls rest)) : W p l e R s m args below meth c H locs cells slots Q (F0 m pc ls (q_cv E v :: .ref (q_ad E r) :: rest)) := by
  obtain ⟨hx, hb, -, hown, hts, -, -, hEV⟩ := C
  obtain ⟨hw, hS0⟩ := hj
  obtain ⟨Cn, T, N, ty0, ⟨hc, hin, hty, hnm⟩, hjN, hfin, hd2, hlk⟩ := lk
  have hap := va_apart (own := own) hts hin ty0 hty hnm hEV.1 hc
  obtain ⟨rr, h1, cell, q1, q2, q3, q4⟩ : ∃ rr : vw_C, vwCl[ci]? = some rr ∧ t_OB (q_ad E r) (E.1.1 ci) rr.2.2 (E.1.2 ci) H (vp_V (fs.map (q_cv E))) := (hw r _ hg).2
  have hr : rr = (Cn, T, N) := Option.some.inj (h1.symm.trans hc)
  subst hr
  obtain ⟨hS, hfc, kC, hkC, hkind⟩ := hEV.1.1 ci _ hc
  obtain ⟨cf, kf, fi, f, hi, hsl⟩ := hS j hjN
  have hlay := hts _ (hin _ (u_in_lay hjN))
  unfold u_lay at hlay
  rw [if_neg (by rw [hfin]; decide)] at hlay
  have hst := (u_facts hfc hkC (u_lays hts hin hjN) hi).1
  have h6 := u_store hfc hkC hkind hlay hi hd2 hn hfit
  have hend : ∀ H' : Heap, H'[q_ad E r]? = some (cell.setSlot f.slot (q_cv E v)) → H'.size = H.size → (∀ q, q ≠ q_ad E r → H'[q]? = H[q]?) → W p l e R s m args below meth c H' (locs ++ [⟨q_ad E r, f.slot⟩]) cells slots Q (F0 m (pc + 3) ls rest) := by
    intro H' e1 e2 e3
    rw [hsl] at e1 ⊢
    refine k H' _ ⟨q_hw.set hEV.2.1 hw hg ?_ e3, hS0.put e2 e3 ⟨r, (hw r _ hg).1, rfl⟩⟩
    refine ⟨_, hc, t_OB.to (V := updV (vp_V (fs.map (q_cv E))) j (q_cv E v)) ⟨_, e1, q2, q3, t_set q4 hap hjN (q_cv E v)⟩ (fun j' _ => ?_)⟩
    rw [vp_updV_set (by rw [List.length_map]; exact hl)]
    show vp_V _ _ = vp_V ((fs.set j v).map (q_cv E)) j'
    rw [List.map_set]
  rcases hlk with hl2 | ⟨host, hl2⟩
  · exact W.putK hx hb (f := f) ⟨hown, hts _ hl2, ⟨_, _, _, hi⟩, hst⟩ (by rw [q2]; exact h6) q1 q3 (by rw [hsl]; exact k2_hasslot (q4 j hjN)) rfl rfl hd hend
  · exact va_WputK hx hb (f := f) hown (va_Nw.use rfl (hEV.2.2.1 _ hl2)) hi hst (by rw [q2]; exact h6) q1 q3 (by rw [hsl]; exact k2_hasslot (q4 j hjN)) rfl rfl hd hend
theorem q_putI (C : q_C E p s m args meth c cc own nL rt) (hj : q_J E s g H locs) {r ci j idx : Nat} {v : Int32} (lk : q_fp own idx ci j .int) (hd : decode cc pc = .ok (.putfield idx, 3)) {f : qS → Option α} (hf : (p_I g r ci j v).bind f = some res)
    (k : ∀ (g1 : qS) (H1 : Heap) (locs1 : List Loc), q_J E s g1 H1 locs1 → f g1 = some res → W p l e R s m args below meth c H1 locs1 cells slots Q (F0 m (pc + 3) ls rest)) : W p l e R s m args below meth c H locs cells slots Q (F0 m pc ls (.int v :: .ref (q_ad E r) :: rest)) := by
  obtain ⟨g1, h1, h2⟩ := q_ob hf
  obtain ⟨fs, h3, h4, rfl⟩ := p_V_sp h1
  exact q_put (v := .int v) C hj lk hd h3 h4 rfl rfl (fun H1 locs1 hj => k _ H1 locs1 hj h2)
theorem q_putZ (C : q_C E p s m args meth c cc own nL rt) (hj : q_J E s g H locs) {r ci j idx : Nat} {v : Int32} (lk : q_fp own idx ci j .boolean) (hd : decode cc pc = .ok (.putfield idx, 3)) {f : qS → Option α} (hf : (p_Z g r ci j v).bind f = some res)
    (k : ∀ (g1 : qS) (H1 : Heap) (locs1 : List Loc), q_J E s g1 H1 locs1 → f g1 = some res → W p l e R s m args below meth c H1 locs1 cells slots Q (F0 m (pc + 3) ls rest)) : W p l e R s m args below meth c H locs cells slots Q (F0 m pc ls (.int v :: .ref (q_ad E r) :: rest)) := by
  obtain ⟨g1, h1, h2⟩ := q_ob hf
  unfold p_Z at h1
  split at h1
  · rename_i hz
    obtain ⟨fs, h3, h4, rfl⟩ := p_V_sp h1
    refine q_put (v := .int v) C hj lk hd h3 h4 ?_ ?_ (fun H1 locs1 hj => k _ H1 locs1 hj h2)
    · rcases hz with rfl | rfl
      · exact (by decide +kernel : narrow .boolean (.int 0) = .int 0)
      · exact (by decide +kernel : narrow .boolean (.int 1) = .int 1)
    · rcases hz with rfl | rfl
      · exact (by decide +kernel : fits .boolean (.int 0) = true)
      · exact (by decide +kernel : fits .boolean (.int 1) = true)
  · cases h1
theorem q_putL (C : q_C E p s m args meth c cc own nL rt) (hj : q_J E s g H locs) {r ci j idx : Nat} {v : Int64} (lk : q_fp own idx ci j .long) (hd : decode cc pc = .ok (.putfield idx, 3)) {f : qS → Option α} (hf : (p_L g r ci j v).bind f = some res)
    (k : ∀ (g1 : qS) (H1 : Heap) (locs1 : List Loc), q_J E s g1 H1 locs1 → f g1 = some res → W p l e R s m args below meth c H1 locs1 cells slots Q (F0 m (pc + 3) ls rest)) : W p l e R s m args below meth c H locs cells slots Q (F0 m pc ls (.long v :: .ref (q_ad E r) :: rest)) := by
  obtain ⟨g1, h1, h2⟩ := q_ob hf
  obtain ⟨fs, h3, h4, rfl⟩ := p_V_sp h1
  exact q_put (v := .long v) C hj lk hd h3 h4 rfl rfl (fun H1 locs1 hj => k _ H1 locs1 hj h2)
theorem q_putR (C : q_C E p s m args meth c cc own nL rt) (hj : q_J E s g H locs) {r ci j idx v : Nat} {nm : String} (lk : q_fp own idx ci j (.object nm)) (hd : decode cc pc = .ok (.putfield idx, 3)) {f : qS → Option α} (hf : (p_R g r ci j v).bind f = some res)
    (k : ∀ (g1 : qS) (H1 : Heap) (locs1 : List Loc), q_J E s g1 H1 locs1 → f g1 = some res → W p l e R s m args below meth c H1 locs1 cells slots Q (F0 m (pc + 3) ls rest)) : W p l e R s m args below meth c H locs cells slots Q (F0 m pc ls (.ref (q_ad E v) :: .ref (q_ad E r) :: rest)) := by
  obtain ⟨g1, h1, h2⟩ := q_ob hf
  obtain ⟨fs, h3, h4, rfl⟩ := p_V_sp h1
  exact q_put (v := .ref v) C hj lk hd h3 h4 rfl rfl (fun H1 locs1 hj => k _ H1 locs1 hj h2)
/-! arrays -/
theorem q_aldI (C : q_C E p s m args meth c cc own nL rt) (hj : q_J E s g H locs) {r : Nat} {i : Int32} (hd : decode cc pc = .ok (.iaload, 1)) {f : Int32 → Option α} (hf : (a_I g r i).bind f = some res)
    (k : ∀ v, f v = some res → W p l e R s m args below meth c H locs cells slots Q (F0 m (pc + 1) ls (.int v :: rest))) : W p l e R s m args below meth c H locs cells slots Q (F0 m pc ls (.int i :: .ref (q_ad E r) :: rest)) := by
  obtain ⟨v, h1, h2⟩ := q_ob hf
  obtain ⟨n, f, h3, h4, rfl⟩ := a_K_sp h1
  exact va_iald (tys := q_tys E) C.1 C.2.1 C.2.2.2.2.2.2.2.1 (q_P1 hj.1 h3) 0 1 rfl rfl h4 hd (k _ h2)
theorem q_aldB (C : q_C E p s m args meth c cc own nL rt) (hj : q_J E s g H locs) {r : Nat} {i : Int32} (hd : decode cc pc = .ok (.baload, 1)) {f : Int32 → Option α} (hf : (a_B g r i).bind f = some res)
    (k : ∀ v, f v = some res → W p l e R s m args below meth c H locs cells slots Q (F0 m (pc + 1) ls (.int v :: rest))) : W p l e R s m args below meth c H locs cells slots Q (F0 m pc ls (.int i :: .ref (q_ad E r) :: rest)) := by
  obtain ⟨v, h1, h2⟩ := q_ob hf
  obtain ⟨n, f, h3, h4, rfl⟩ := a_K_sp h1
  exact va_bald (tys := q_tys E) C.1 C.2.1 C.2.2.2.2.2.2.2.1 (q_P1 hj.1 h3) 0 0 rfl rfl h4 hd (k _ h2)
theorem q_aldZ (C : q_C E p s m args meth c cc own nL rt) (hj : q_J E s g H locs) {r : Nat} {i : Int32} (hd : decode cc pc = .ok (.baload, 1)) {f : Int32 → Option α} (hf : (a_Z g r i).bind f = some res)
    (k : ∀ v, f v = some res → W p l e R s m args below meth c H locs cells slots Q (F0 m (pc + 1) ls (.int v :: rest))) : W p l e R s m args below meth c H locs cells slots Q (F0 m pc ls (.int i :: .ref (q_ad E r) :: rest)) := by
  obtain ⟨v, h1, h2⟩ := q_ob hf
  obtain ⟨n, f, h3, h4, rfl⟩ := a_K_sp h1
  exact va_zald (tys := q_tys E) C.1 C.2.1 C.2.2.2.2.2.2.2.1 (q_P1 hj.1 h3) 0 3 rfl rfl h4 hd (k _ h2)
theorem q_aldL (C : q_C E p s m args meth c cc own nL rt) (hj : q_J E s g H locs) {r : Nat} {i : Int32} (hd : decode cc pc = .ok (.laload, 1)) {f : Int64 → Option α} (hf : (a_L g r i).bind f = some res)
    (k : ∀ v, f v = some res → W p l e R s m args below meth c H locs cells slots Q (F0 m (pc + 1) ls (.long v :: rest))) : W p l e R s m args below meth c H locs cells slots Q (F0 m pc ls (.int i :: .ref (q_ad E r) :: rest)) := by
  obtain ⟨v, h1, h2⟩ := q_ob hf
  obtain ⟨n, f, h3, h4, rfl⟩ := a_L_sp h1
  exact va_lald (tys := q_tys E) C.1 C.2.1 C.2.2.2.2.2.2.2.1 (q_P1 hj.1 h3) 0 2 rfl rfl h4 hd (k _ h2)
theorem q_alen (C : q_C E p s m args meth c cc own nL rt) (hj : q_J E s g H locs) {r : Nat} (hd : decode cc pc = .ok (.arraylength, 1)) {f : Int32 → Option α} (hf : (a_n g r).bind f = some res)
    (k : ∀ v, f v = some res → W p l e R s m args below meth c H locs cells slots Q (F0 m (pc + 1) ls (.int v :: rest))) : W p l e R s m args below meth c H locs cells slots Q (F0 m pc ls (.ref (q_ad E r) :: rest)) := by
  obtain ⟨v, h1, h2⟩ := q_ob hf
  obtain ⟨kk, a, h3, h4, rfl⟩ := a_n_sp h1
  obtain ⟨ty, hty⟩ := q_ty (E := E) h4
  exact va_alen (tys := q_tys E) C.1 C.2.1 C.2.2.2.2.2.2.2.1 (q_P1 hj.1 h3) 0 kk rfl hty rfl hd (k _ h2)
theorem q_J.aset {k n : Nat} {f : Nat → Int32} {r i : Nat} {x : Int32} {H1 : Heap} {q : Loc} (hi : q_inj E) (hj : q_J E s g H locs) (h3 : g r = some (.inl (k, n, .inl f))) (e1 : H1[q_ad E r]? = some (vp_cell (E.2.1 k) (n, .inl (upd f i x)))) (z : H1.size = H.size) (oq : ∀ q, q ≠ q_ad E r → H1[q]? = H[q]?) (hq : q.base = q_ad E r) :
    q_J E s (va_up g r (some (.inl (k, n, .inl (upd f i x))))) H1 (locs ++ [q]) := by
  refine ⟨q_hw.set hi hj.1 h3 e1 oq, ?_⟩
  have h := hj.2.put (a := q_ad E r) (k := q.slot) z oq ⟨r, (hj.1 r _ h3).1, rfl⟩
  obtain ⟨b, sl⟩ := q
  cases hq
  exact h
theorem q_astI (C : q_C E p s m args meth c cc own nL rt) (hj : q_J E s g H locs) {r : Nat} {i x : Int32} (hd : decode cc pc = .ok (.iastore, 1)) {f : qS → Option α} (hf : (s_I g r i x).bind f = some res)
    (k : ∀ (g1 : qS) (H1 : Heap) (locs1 : List Loc), q_J E s g1 H1 locs1 → f g1 = some res → W p l e R s m args below meth c H1 locs1 cells slots Q (F0 m (pc + 1) ls rest)) : W p l e R s m args below meth c H locs cells slots Q (F0 m pc ls (.int x :: .int i :: .ref (q_ad E r) :: rest)) := by
  obtain ⟨g1, h1, h2⟩ := q_ob hf
  obtain ⟨n, f, h3, h4, rfl⟩ := s_K_sp h1
  have hK := C.2.2.2.2.2.2.2.1
  have ha : H[q_ad E r]? = some (vp_cell (E.2.1 1) (n, .inl f)) := (hj.1 r _ h3).2
  refine W.iast C.1 C.2.1 ha ((hK.2 1 _ rfl).1 n (fun j => .int (f j))) (fun q => by cases q) (by show ¬ (i < 0 ∨ (arrV _ _ _).slots.size ≤ _); rw [arrV_size]; exact h4) rfl rfl hd fun H1 e z oq => ?_
  refine k _ H1 _ (q_J.aset C.2.2.2.2.2.2.2.2.1 hj h3 ?_ z oq rfl) h2
  rw [e]
  rw [vp_cell_i, vp_cell_i, arrV_store]
  congr 2
  funext q
  by_cases hq : q = i.toNatClampNeg
  · subst hq
    simp [updV, upd]
  · simp [updV, upd, hq]
theorem q_astB (C : q_C E p s m args meth c cc own nL rt) (hj : q_J E s g H locs) {r : Nat} {i x : Int32} (hd : decode cc pc = .ok (.bastore, 1)) {f : qS → Option α} (hf : (s_B g r i x).bind f = some res)
    (k : ∀ (g1 : qS) (H1 : Heap) (locs1 : List Loc), q_J E s g1 H1 locs1 → f g1 = some res → W p l e R s m args below meth c H1 locs1 cells slots Q (F0 m (pc + 1) ls rest)) : W p l e R s m args below meth c H locs cells slots Q (F0 m pc ls (.int x :: .int i :: .ref (q_ad E r) :: rest)) := by
  obtain ⟨g1, h1, h2⟩ := q_ob hf
  obtain ⟨n, f, h3, h4, rfl⟩ := s_K_sp h1
  have hK := C.2.2.2.2.2.2.2.1
  have ha : H[q_ad E r]? = some (vp_cell (E.2.1 0) (n, .inl f)) := (hj.1 r _ h3).2
  refine W.bast C.1 C.2.1 ha ((hK.2 0 _ rfl).1 n (fun j => .int (f j))) (fun q => by cases q) (by show ¬ (i < 0 ∨ (arrV _ _ _).slots.size ≤ _); rw [arrV_size]; exact h4) rfl rfl hd fun H1 e z oq => ?_
  refine k _ H1 _ (q_J.aset C.2.2.2.2.2.2.2.2.1 hj h3 ?_ z oq rfl) h2
  rw [e]
  rw [vp_cell_i, vp_cell_i, arrV_store]
  congr 2
  funext q
  by_cases hq : q = i.toNatClampNeg
  · subst hq
    simp [updV, upd, vp_nar]
    try rfl
  · simp [updV, upd, hq]
theorem q_astZ (C : q_C E p s m args meth c cc own nL rt) (hj : q_J E s g H locs) {r : Nat} {i x : Int32} (hd : decode cc pc = .ok (.bastore, 1)) {f : qS → Option α} (hf : (s_Z g r i x).bind f = some res)
    (k : ∀ (g1 : qS) (H1 : Heap) (locs1 : List Loc), q_J E s g1 H1 locs1 → f g1 = some res → W p l e R s m args below meth c H1 locs1 cells slots Q (F0 m (pc + 1) ls rest)) : W p l e R s m args below meth c H locs cells slots Q (F0 m pc ls (.int x :: .int i :: .ref (q_ad E r) :: rest)) := by
  obtain ⟨g1, h1, h2⟩ := q_ob hf
  obtain ⟨n, f, h3, h4, rfl⟩ := s_K_sp h1
  have hK := C.2.2.2.2.2.2.2.1
  have ha : H[q_ad E r]? = some (vp_cell (E.2.1 3) (n, .inl f)) := (hj.1 r _ h3).2
  refine W.zast C.1 C.2.1 ha ((hK.2 3 _ rfl).1 n (fun j => .int (f j))) (fun q => by cases q) (by show ¬ (i < 0 ∨ (arrV _ _ _).slots.size ≤ _); rw [arrV_size]; exact h4) rfl rfl hd fun H1 e z oq => ?_
  refine k _ H1 _ (q_J.aset C.2.2.2.2.2.2.2.2.1 hj h3 ?_ z oq rfl) h2
  rw [e]
  rw [vp_cell_i, vp_cell_i, arrV_store]
  congr 2
  funext q
  by_cases hq : q = i.toNatClampNeg
  · subst hq
    simp [updV, upd, vp_nar]
    try rfl
  · simp [updV, upd, hq]
theorem q_astL (C : q_C E p s m args meth c cc own nL rt) (hj : q_J E s g H locs) {r : Nat} {i : Int32} {x : Int64} (hd : decode cc pc = .ok (.lastore, 1)) {f : qS → Option α} (hf : (s_L g r i x).bind f = some res)
    (k : ∀ (g1 : qS) (H1 : Heap) (locs1 : List Loc), q_J E s g1 H1 locs1 → f g1 = some res → W p l e R s m args below meth c H1 locs1 cells slots Q (F0 m (pc + 1) ls rest)) : W p l e R s m args below meth c H locs cells slots Q (F0 m pc ls (.long x :: .int i :: .ref (q_ad E r) :: rest)) := by
  obtain ⟨g1, h1, h2⟩ := q_ob hf
  obtain ⟨n, f, h3, h4, rfl⟩ := s_L_sp h1
  have hK := C.2.2.2.2.2.2.2.1
  have ha : H[q_ad E r]? = some (vp_cell (E.2.1 2) (n, .inr (.inl f))) := (hj.1 r _ h3).2
  refine W.last C.1 C.2.1 ha ((hK.2 2 _ rfl).1 n (fun j => .long (f j))) (fun q => by cases q) (by show ¬ (i < 0 ∨ (arrV _ _ _).slots.size ≤ _); rw [arrV_size]; exact h4) rfl rfl hd fun H1 e z oq => ?_
  refine k _ H1 _ ⟨q_hw.set C.2.2.2.2.2.2.2.2.1 hj.1 h3 ?_ oq, hj.2.put z oq ⟨r, (hj.1 r _ h3).1, rfl⟩⟩ h2
  show H1[q_ad E r]? = some (vp_cell _ _)
  rw [e]
  rw [vp_cell_l, vp_cell_l, arrV_store]
  congr 2
  funext q
  by_cases hq : q = i.toNatClampNeg
  · subst hq
    simp [updV, vp_updL]
  · simp [updV, vp_updL, hq]
end QR
