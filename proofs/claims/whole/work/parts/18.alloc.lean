/-! ===== making cells: an arena of roles n, n + 1, .. at the heap's end ===== -/
def q_ar (E : qV) (n k sz : Nat) : Prop := ∀ i : Nat, i < k → q_Dm E (n + i) ∧ q_ad E (n + i) = sz + i
def q_PcA (E : qV) (av : List Value) (g : qS) (n k : Nat) : Array Value → State → Prop := fun a U => a = av.toArray ∧ q_EV E U U.heap ∧ q_hw E g U.heap ∧ q_ar E n k U.heap.size
def q_QA (E : qV) (v : Option Value) (g : qS) (k : Nat) : Array Value → State → Outcome → State → Prop := fun _ st o t => o = .returned v ∧ q_hw E g t.heap ∧ t.heap.size = st.heap.size + k ∧ ∀ q : Nat, q < st.heap.size → ¬ q_A E q → t.heap[q]? = st.heap[q]?
/-- .. that may make cells or not -/
def q_QC (E : qV) (v : Option Value) (g : qS) : Array Value → State → Outcome → State → Prop := fun _ st o t => o = .returned v ∧ q_hw E g t.heap ∧ st.heap.size ≤ t.heap.size ∧ ∀ q : Nat, q < st.heap.size → ¬ q_A E q → t.heap[q]? = st.heap[q]?
abbrev q_rmA (F L mc ms : Nat) : Room := { frames := F, cells := mc, slots := ms, locals := L }
/-- a constructor: it makes just mc cells, of ms slots -/
def q_MA (l : Launch) (y : MethodName) (b : ByteArray) (nl : Nat) (F L mc ms : Nat) (E : qV) (av : List Value) (g : qS) (n : Nat) (g' : qS) : Prop := Met l y (Cond.code y b nl none :: q_GW) (q_rmA F L mc ms) (q_PcA E av g n mc) (q_QA E none g' mc) mc ms (q_A E)
def n_O (g : qS) (r ci : Nat) (fs : List Value) : Option qS := some (va_up g r (some (.inr (ci, fs))))
def n_K (k B : Nat) (g : qS) (r : Nat) (x : Int32) : Option qS := if x < 0 ∨ B < x.toNatClampNeg then none else some (va_up g r (some (.inl (k, x.toNatClampNeg, .inl (fun _ => 0)))))
def n_L (B : Nat) (g : qS) (r : Nat) (x : Int32) : Option qS := if x < 0 ∨ B < x.toNatClampNeg then none else some (va_up g r (some (.inl (2, x.toNatClampNeg, .inr (.inl (fun _ => 0))))))
def p_N (g : qS) (r ci j : Nat) (v : Value) : Option qS := p_V g r ci j v
/-- a new object's words: its fields at the start -/
def q_nw (own : String) (idx ci N : Nat) (fs : List Value) : Prop := ∃ (C : String) (T : u_T) (ty0 : Nat → FieldType), q_ci ci C T N ty0 ∧ (∀ j, j < N → defaultValue (ty0 j) = vp_V fs j) ∧ (∀ E : qV, fs.map (q_cv E) = fs) ∧ Cond.classLink own idx C ∈ q_GW ∧ Cond.instantiable C N ∈ q_GW ∧ Cond.initialized C ∈ q_GW
/-- a final field that the constructor sets -/
def q_ff (own : String) (idx ci j : Nat) (ty : FieldType) : Prop := ∃ (T : u_T) (N : Nat) (ty0 : Nat → FieldType), q_ci ci own T N ty0 ∧ j < N ∧ (T j).2.2.2 = true ∧ (T j).1 = own ∧ parseFieldDescriptor (T j).2.2.1 = some ty ∧ Cond.fieldLink own idx (T j).1 (T j).2.1 (T j).2.2.1 ∈ q_GW
theorem q_oiw : Cond.instanceMethod objectInit ∈ q_GW ∧ Cond.code objectInit ⟨#[0xb1]⟩ 1 none ∈ q_GW := ⟨q_g1 (i := 30) rfl rfl, q_g1 (i := 31) rfl rfl⟩
theorem q_aw : Cond.arrayClass .byte ∈ q_GW ∧ Cond.arrayClass .int ∈ q_GW ∧ Cond.arrayClass .long ∈ q_GW ∧ Cond.arrayClass .boolean ∈ q_GW := ⟨q_g1 (i := 66) rfl rfl, q_g1 (i := 67) rfl rfl, q_g1 (i := 168) rfl rfl, q_g7 (i := 45) rfl rfl⟩
theorem q_blindA {E : qV} {av : List Value} {g : qS} {n k : Nat} : FrameBlind (q_PcA E av g n k) := fun _ U _ _ h => ⟨h.1, q_EV.same (u := U) rfl h.2.1, h.2.2⟩
section QAL
variable {l : Launch} {E : qV} {p : Program} {e : Env} {R : Room} {s : State} {m : MethodId} {args : Array Value} {below : List Frame} {meth : Method} {c : Code} {H : Heap} {locs : List Loc} {cells slots : Nat} {Q : State → Prop} {cc : ByteArray} {own : String} {nL : Nat} {rt : Option FieldType} {pc : Nat} {ls : Array Slot} {rest st : List Value} {g : qS} {α : Type} {res : α} {n k mc : Nat}
theorem q_oi (C : q_C E p s m args meth c cc own nL rt) {idx a : Nat} (hlk : Cond.methodLink own idx objectInit ∈ q_GW) {lv : List (Nat × Value)} (hl : lv_has ls nL lv) (hR : (Nat.ble 1 R.frames && Nat.ble ((rest.map fun v => v.category).sum + 12) R.locals) = true) (hd : decode cc pc = .ok (.invokespecial idx, 3))
    (kk : W p l e R s m args below meth c H locs cells slots Q (F0 m (pc + 3) ls rest)) : W p l e R s m args below meth c H locs cells slots Q (F0 m pc ls (.ref a :: rest)) := by
  rw [Bool.and_eq_true] at hR
  have hts := C.2.2.2.2.1
  have h2 := Nat.le_of_ble_eq_true hR.2
  exact W.objInit C.1 C.2.1 C.2.2.2.1 (hts _ hlk) (hts _ q_oiw.1) (hts _ q_oiw.2) rfl (hl.1.trans C.2.2.1.symm) rfl hd (Nat.le_of_ble_eq_true hR.1) (by show 2 * 0 + _ + 12 ≤ _; omega) kk
theorem q_newO (C : q_C E p s m args meth c cc own nL rt) (hj : q_J E s g H locs) (hz : H.size = s.heap.size + k) (har : q_ar E n mc s.heap.size) (hk : Nat.ble (k + 1) mc = true) {idx ci N : Nat} {fs : List Value} (nw : q_nw own idx ci N fs) (hc1 : Nat.ble (cells + 1) R.cells = true) (hc2 : Nat.ble (slots + N) R.slots = true) (hd : decode cc pc = .ok (.new idx, 3)) {f : qS → Option α} (hf : (n_O g (n + k) ci fs).bind f = some res)
    (kk : ∀ (g1 : qS) (H1 : Heap), q_J E s g1 H1 locs → H1.size = s.heap.size + (k + 1) → f g1 = some res → W p l e R s m args below meth c H1 locs (cells + 1) (slots + N) Q (F0 m (pc + 3) ls (.ref (q_ad E (n + k)) :: rest))) : W p l e R s m args below meth c H locs cells slots Q (F0 m pc ls rest) := by
  obtain ⟨Cn, T, ty0, ⟨hc, hin, hty, -⟩, hfs, hmap, h1, h2, h3⟩ := nw
  have hts := C.2.2.2.2.1
  have hKn := C.2.2.2.2.2.2.2.1.1 ci _ hc
  obtain ⟨hDm, had⟩ := har k (Nat.le_of_ble_eq_true hk)
  refine W.newcK C.1 C.2.1 C.2.2.2.1 (hts _ h1) (hts _ h2) (hts _ h3) rfl hd (Nat.le_of_ble_eq_true hc1) (Nat.le_of_ble_eq_true hc2) hKn.2.1 (h := q_ad E (n + k)) (by rw [had, hz]) fun H1 kC hkC e1 z1 o1 => ?_
  refine kk _ H1 ⟨fun r x hr => ?_, ?_⟩ (by rw [z1, had]; omega) hf
  · by_cases hrn : r = n + k
    · subst hrn
      rw [va_up_self] at hr
      cases hr
      refine ⟨hDm, ⟨_, hc, ?_⟩⟩
      show t_OB _ _ _ _ _ (vp_V (fs.map (q_cv E)))
      rw [hmap E]
      exact (u_born ty0 hts hin hKn hkC e1 hty).to hfs
    · rw [va_up_ne _ _ hrn] at hr
      obtain ⟨h4, h5⟩ := hj.1 r x hr
      refine ⟨h4, h5.kept (o1 _ ?_)⟩
      have := h5.lt
      rw [had]
      show q_ad E r < _
      omega
  · obtain ⟨-, hS1, hS2, hS3⟩ := hj
    refine ⟨by omega, fun q h6 h7 => ?_, hS3⟩
    rw [o1 q (by rw [had]; omega)]
    exact hS2 q h6 h7
theorem q_newK (C : q_C E p s m args meth c cc own nL rt) (hj : q_J E s g H locs) (hz : H.size = s.heap.size + k) (har : q_ar E n mc s.heap.size) (hk : Nat.ble (k + 1) mc = true) {kd : Nat} {at9 : ArrayType} {a0 : vp_A} {N : Nat} {x : Int32} (hw : Cond.arrayClass (newarray.typeOf at9) ∈ q_GW) (hty : (q_tys E)[kd]? = some (E.2.1 kd, newarray.typeOf at9)) (hRA : ∀ cA : ClassId, va_RA s cA (newarray.typeOf at9) → s.vm.findClass ("[" ++ (newarray.typeOf at9).toString) = some cA) (ha : ∀ cA : ClassId, vp_cell cA a0 = arrV cA N (fun _ => defaultValue (newarray.typeOf at9))) (hx0 : ¬ x < 0) (hN : x.toNatClampNeg = N) {B : Nat} (hB : N ≤ B) (hB9 : Nat.ble B 100000 = true) (hc1 : Nat.ble (cells + 1) R.cells = true) (hc2 : Nat.ble (slots + B) R.slots = true) (hd : decode cc pc = .ok (.newarray at9, 2))
    (kk : ∀ (H1 : Heap), q_J E s (va_up g (n + k) (some (.inl (kd, a0)))) H1 locs → H1.size = s.heap.size + (k + 1) → W p l e R s m args below meth c H1 locs (cells + 1) (slots + B) Q (F0 m (pc + 2) ls (.ref (q_ad E (n + k)) :: rest))) : W p l e R s m args below meth c H locs cells slots Q (F0 m pc ls (.int x :: rest)) := by
  have hts := C.2.2.2.2.1
  obtain ⟨hDm, had⟩ := har k (Nat.le_of_ble_eq_true hk)
  have hB9 := Nat.le_of_ble_eq_true hB9
  have hc2 := Nat.le_of_ble_eq_true hc2
  have hb8 : N * componentBytes (newarray.typeOf at9) ≤ 536870912 := Nat.le_trans (Nat.mul_le_mul (show N ≤ 100000 by omega) (show componentBytes (newarray.typeOf at9) ≤ 8 by cases at9 <;> decide)) (by decide)
  refine va_newaK C.1 C.2.1 (hts _ hw) rfl hd rfl hx0 hN hb8 (Nat.le_of_ble_eq_true hc1) (by omega) (h := q_ad E (n + k)) (by rw [had, hz]) fun H1 cA e1 z1 o1 hAr hNm => ?_
  have hcA : cA = E.2.1 kd := Option.some.inj (hNm.symm.trans (hRA _ (C.2.2.2.2.2.2.2.1.2 kd _ hty).2))
  subst hcA
  refine W.widen (k := cells + 1) (n := slots + B) (Nat.le_refl _) (by omega) ?_
  refine kk H1 ⟨fun r y hr => ?_, ?_⟩ (by rw [z1, had]; omega)
  · by_cases hrn : r = n + k
    · subst hrn
      rw [va_up_self] at hr
      cases hr
      refine ⟨hDm, ?_⟩
      show H1[q_ad E (n + k)]? = some (vp_cell _ _)
      rw [ha]
      exact e1
    · rw [va_up_ne _ _ hrn] at hr
      obtain ⟨h4, h5⟩ := hj.1 r y hr
      refine ⟨h4, h5.kept (o1 _ ?_)⟩
      have := h5.lt
      rw [had]
      show q_ad E r < _
      omega
  · obtain ⟨-, hS1, hS2, hS3⟩ := hj
    refine ⟨by omega, fun q h6 h7 => ?_, hS3⟩
    rw [o1 q (by rw [had]; omega)]
    exact hS2 q h6 h7
theorem n_K_sp {k B : Nat} {g g' : qS} {r : Nat} {x : Int32} (h : n_K k B g r x = some g') : ¬ x < 0 ∧ x.toNatClampNeg ≤ B ∧ g' = va_up g r (some (.inl (k, x.toNatClampNeg, .inl (fun _ => 0)))) := by
  unfold n_K at h
  split at h
  · cases h
  · rename_i h0
    cases h
    exact ⟨fun z => h0 (Or.inl z), Nat.not_lt.mp fun z => h0 (Or.inr z), rfl⟩
theorem n_L_sp {B : Nat} {g g' : qS} {r : Nat} {x : Int32} (h : n_L B g r x = some g') : ¬ x < 0 ∧ x.toNatClampNeg ≤ B ∧ g' = va_up g r (some (.inl (2, x.toNatClampNeg, .inr (.inl (fun _ => 0))))) := by
  unfold n_L at h
  split at h
  · cases h
  · rename_i h0
    cases h
    exact ⟨fun z => h0 (Or.inl z), Nat.not_lt.mp fun z => h0 (Or.inr z), rfl⟩
theorem q_newI (C : q_C E p s m args meth c cc own nL rt) (hj : q_J E s g H locs) (hz : H.size = s.heap.size + k) (har : q_ar E n mc s.heap.size) (hk : Nat.ble (k + 1) mc = true) {B : Nat} {x : Int32} (hB9 : Nat.ble B 100000 = true) (hc1 : Nat.ble (cells + 1) R.cells = true) (hc2 : Nat.ble (slots + B) R.slots = true) (hd : decode cc pc = .ok (.newarray .int, 2)) {f : qS → Option α} (hf : (n_K 1 B g (n + k) x).bind f = some res)
    (kk : ∀ (g1 : qS) (H1 : Heap), q_J E s g1 H1 locs → H1.size = s.heap.size + (k + 1) → f g1 = some res → W p l e R s m args below meth c H1 locs (cells + 1) (slots + B) Q (F0 m (pc + 2) ls (.ref (q_ad E (n + k)) :: rest))) : W p l e R s m args below meth c H locs cells slots Q (F0 m pc ls (.int x :: rest)) := by
  obtain ⟨g1, h1, h2⟩ := q_ob hf
  obtain ⟨h3, h4, rfl⟩ := n_K_sp h1
  exact q_newK (kd := 1) (at9 := .int) (a0 := (x.toNatClampNeg, .inl (fun _ => 0))) C hj hz har hk q_aw.2.1 rfl (fun cA h => h) (fun cA => rfl) h3 rfl h4 hB9 hc1 hc2 hd (fun H1 hj hz => kk _ H1 hj hz h2)

theorem q_newB (C : q_C E p s m args meth c cc own nL rt) (hj : q_J E s g H locs) (hz : H.size = s.heap.size + k) (har : q_ar E n mc s.heap.size) (hk : Nat.ble (k + 1) mc = true) {B : Nat} {x : Int32} (hB9 : Nat.ble B 100000 = true) (hc1 : Nat.ble (cells + 1) R.cells = true) (hc2 : Nat.ble (slots + B) R.slots = true) (hd : decode cc pc = .ok (.newarray .byte, 2)) {f : qS → Option α} (hf : (n_K 0 B g (n + k) x).bind f = some res)
    (kk : ∀ (g1 : qS) (H1 : Heap), q_J E s g1 H1 locs → H1.size = s.heap.size + (k + 1) → f g1 = some res → W p l e R s m args below meth c H1 locs (cells + 1) (slots + B) Q (F0 m (pc + 2) ls (.ref (q_ad E (n + k)) :: rest))) : W p l e R s m args below meth c H locs cells slots Q (F0 m pc ls (.int x :: rest)) := by
  obtain ⟨g1, h1, h2⟩ := q_ob hf
  obtain ⟨h3, h4, rfl⟩ := n_K_sp h1
  exact q_newK (kd := 0) (at9 := .byte) (a0 := (x.toNatClampNeg, .inl (fun _ => 0))) C hj hz har hk q_aw.1 rfl (fun cA h => h) (fun cA => rfl) h3 rfl h4 hB9 hc1 hc2 hd (fun H1 hj hz => kk _ H1 hj hz h2)

theorem q_newZ (C : q_C E p s m args meth c cc own nL rt) (hj : q_J E s g H locs) (hz : H.size = s.heap.size + k) (har : q_ar E n mc s.heap.size) (hk : Nat.ble (k + 1) mc = true) {B : Nat} {x : Int32} (hB9 : Nat.ble B 100000 = true) (hc1 : Nat.ble (cells + 1) R.cells = true) (hc2 : Nat.ble (slots + B) R.slots = true) (hd : decode cc pc = .ok (.newarray .boolean, 2)) {f : qS → Option α} (hf : (n_K 3 B g (n + k) x).bind f = some res)
    (kk : ∀ (g1 : qS) (H1 : Heap), q_J E s g1 H1 locs → H1.size = s.heap.size + (k + 1) → f g1 = some res → W p l e R s m args below meth c H1 locs (cells + 1) (slots + B) Q (F0 m (pc + 2) ls (.ref (q_ad E (n + k)) :: rest))) : W p l e R s m args below meth c H locs cells slots Q (F0 m pc ls (.int x :: rest)) := by
  obtain ⟨g1, h1, h2⟩ := q_ob hf
  obtain ⟨h3, h4, rfl⟩ := n_K_sp h1
  exact q_newK (kd := 3) (at9 := .boolean) (a0 := (x.toNatClampNeg, .inl (fun _ => 0))) C hj hz har hk q_aw.2.2.2 rfl (fun cA h => h) (fun cA => rfl) h3 rfl h4 hB9 hc1 hc2 hd (fun H1 hj hz => kk _ H1 hj hz h2)

theorem q_newJ (C : q_C E p s m args meth c cc own nL rt) (hj : q_J E s g H locs) (hz : H.size = s.heap.size + k) (har : q_ar E n mc s.heap.size) (hk : Nat.ble (k + 1) mc = true) {B : Nat} {x : Int32} (hB9 : Nat.ble B 100000 = true) (hc1 : Nat.ble (cells + 1) R.cells = true) (hc2 : Nat.ble (slots + B) R.slots = true) (hd : decode cc pc = .ok (.newarray .long, 2)) {f : qS → Option α} (hf : (n_L B g (n + k) x).bind f = some res)
    (kk : ∀ (g1 : qS) (H1 : Heap), q_J E s g1 H1 locs → H1.size = s.heap.size + (k + 1) → f g1 = some res → W p l e R s m args below meth c H1 locs (cells + 1) (slots + B) Q (F0 m (pc + 2) ls (.ref (q_ad E (n + k)) :: rest))) : W p l e R s m args below meth c H locs cells slots Q (F0 m pc ls (.int x :: rest)) := by
  obtain ⟨g1, h1, h2⟩ := q_ob hf
  obtain ⟨h3, h4, rfl⟩ := n_L_sp h1
  exact q_newK (kd := 2) (at9 := .long) (a0 := (x.toNatClampNeg, .inr (.inl (fun _ => 0)))) C hj hz har hk q_aw.2.2.1 rfl (fun cA h => h) (fun cA => rfl) h3 rfl h4 hB9 hc1 hc2 hd (fun H1 hj hz => kk _ H1 hj hz h2)

/-- a heap that may hold no more cells than it does holds just as many -/
theorem q_full {H1 : Heap} {locs1 : List Loc} {f1 : JFrame} (hz : H.size = s.heap.size + cells) (hle : H.size ≤ H1.size) (k : H1.size = H.size → W p l e R s m args below meth c H1 locs1 cells slots Q f1) : W p l e R s m args below meth c H1 locs1 cells slots Q f1 := by
  intro T hT X
  have h := X.heapSize
  rw [hT] at h
  exact k (by omega) T hT X
theorem q_putF (C : q_C E p s m args meth c cc own nL rt) (hin2 : meth.name = "<init>") (hj : q_J E s g H locs) (hz : H.size = s.heap.size + cells) {r ci j idx : Nat} {ty : FieldType} {v : Value} {f : qS → Option α} (lk : q_ff own idx ci j ty) (hd : decode cc pc = .ok (.putfield idx, 3)) (hn : narrow ty (q_cv E v) = q_cv E v) (hfit : fits ty (q_cv E v) = true) (hf : (p_N g r ci j v).bind f = some res)
    (k : ∀ (g1 : qS) (H1 : Heap) (locs1 : List Loc), q_J E s g1 H1 locs1 → H1.size = H.size → f g1 = some res → W p l e R s m args below meth c H1 locs1 cells slots Q (F0 m (pc + 3) ls rest)) : W p l e R s m args below meth c H locs cells slots Q (F0 m pc ls (q_cv E v :: .ref (q_ad E r) :: rest)) := by
  obtain ⟨g1, hp, h2⟩ := q_ob hf
  obtain ⟨fs, hg, hl, rfl⟩ := p_V_sp hp
  obtain ⟨hx, hb, -, hown, hts, -, -, hEV⟩ := C
  obtain ⟨T, N, ty0, ⟨hc, hin, hty, hnm⟩, hjN, hfin, hdecl, hd2, hlk⟩ := lk
  obtain ⟨ws, hP, hD, hcov⟩ := q_all hEV.2.1 hj.1
  obtain ⟨q0, h0⟩ := hcov r _ hg
  refine va_putF hx hb hts hin ty0 hty hnm hown hEV.1 hP hD hj.begun q0 h0 hc j hjN (hts _ hlk) (fun _ h => h) hfin hin2 hdecl hd2 hn hfit (by rw [List.length_map]; exact hl) hd (fun H1 locs1 hP1 _ hS1 => ?_)
  rw [← List.map_set] at hP1
  exact q_full hz hS1.1 (fun e1 => k _ H1 locs1 (q_J.to (x := .inr (ci, fs.set j v)) hEV.2.1 hj hcov hg h0 hP1 hS1) e1 h2)
theorem q_putG (C : q_C E p s m args meth c cc own nL rt) (hj : q_J E s g H locs) (hz : H.size = s.heap.size + cells) {r ci j idx : Nat} {ty : FieldType} {v : Value} {f : qS → Option α} (lk : q_fp own idx ci j ty) (hd : decode cc pc = .ok (.putfield idx, 3)) (hn : narrow ty (q_cv E v) = q_cv E v) (hfit : fits ty (q_cv E v) = true) (hf : (p_N g r ci j v).bind f = some res)
    (k : ∀ (g1 : qS) (H1 : Heap) (locs1 : List Loc), q_J E s g1 H1 locs1 → H1.size = H.size → f g1 = some res → W p l e R s m args below meth c H1 locs1 cells slots Q (F0 m (pc + 3) ls rest)) : W p l e R s m args below meth c H locs cells slots Q (F0 m pc ls (q_cv E v :: .ref (q_ad E r) :: rest)) := by
  obtain ⟨g1, hp, h2⟩ := q_ob hf
  obtain ⟨fs, hg, hl, rfl⟩ := p_V_sp hp
  exact q_putS C hj lk hd hg hl hn hfit (fun H1 locs1 hj1 hle => q_full hz hle (fun e1 => k _ H1 locs1 hj1 e1 h2))
theorem q_keep (C : q_C E p s m args meth c cc own nL rt) (kk : H.size = H.size → W p l e R s m args below meth c H locs cells slots Q (F0 m pc ls st)) : W p l e R s m args below meth c H locs cells slots Q (F0 m pc ls st) := kk rfl
theorem q_preA (C : q_C E p s m args meth c cc own nL rt) (hj : q_J E s g H locs) {av : List Value} {n1 k1 : Nat} (har : q_ar E n1 k1 H.size) : PreS s H (q_PcA E av g n1 k1) av := ⟨q_blindA, fun U hU hW => ⟨rfl, by rw [hU]; exact (C.2.2.2.2.2.2.2.kept hj.2.2.1).warm hW, by rw [hU]; exact hj.1, by rw [hU]; exact har⟩⟩
theorem q_ar.sub (har : q_ar E n mc s.heap.size) (hz : H.size = s.heap.size + k) {k1 : Nat} (hk : Nat.ble (k + k1) mc = true) : q_ar E (n + k) k1 H.size := by
  have hk := Nat.le_of_ble_eq_true hk
  intro i hi
  obtain ⟨h1, h2⟩ := har (k + i) (by omega)
  rw [Nat.add_assoc]
  exact ⟨h1, by rw [h2, hz]; omega⟩
theorem q_cbA (C : q_C E p s m args meth c cc own nL rt) {y : MethodName} {b : ByteArray} {n idx np F L mc ms : Nat} {rt' : Option FieldType} (h1 : Cond.methodLink own idx y ∈ q_GW) (h2 : Cond.initialized y.cls ∈ q_GW) (h3 : Cond.code y b n rt' ∈ q_GW) (h4 : y.cls ≠ "java/lang/invoke/MethodHandle" ∧ y.cls ≠ "java/lang/invoke/VarHandle") (h5 : (parseMethodDescriptor y.desc).map (fun d => d.parameters.length) = some np) (hR : (Nat.ble (F + 1) R.frames && Nat.ble (n + 19 + L) R.locals) = true) : CallB R s args own idx y b n rt' (Cond.code y b n rt' :: q_GW) (q_rmA F L mc ms) mc ms np := by
  obtain ⟨-, -, -, -, hts, -⟩ := C
  rw [Bool.and_eq_true] at hR
  have hR1 := Nat.le_of_ble_eq_true hR.1
  have hR2 := Nat.le_of_ble_eq_true hR.2
  refine ⟨rfl, rfl, hR1, by show 8 + (n + 11) + L ≤ _; omega, fun w hw => ?_, List.mem_cons_self, hts _ h3, hts _ h2, h4, fun sig h => ?_, hts _ h1⟩
  · rcases List.mem_cons.mp hw with rfl | h
    · exact q_pay hts h3
    · exact q_pay hts h
  · rw [h] at h5
    exact (Option.some.inj h5).symm
/-- a constructor's call: its words -/
def q_cn (own : String) (idx : Nat) (y : MethodName) (b : ByteArray) (n np : Nat) : Prop :=
  Cond.methodLink own idx y ∈ q_GW ∧ Cond.instanceMethod y ∈ q_GW ∧ Cond.initialized y.cls ∈ q_GW ∧ Cond.code y b n none ∈ q_GW ∧ (y.cls ≠ "java/lang/invoke/MethodHandle" ∧ y.cls ≠ "java/lang/invoke/VarHandle") ∧ (parseMethodDescriptor y.desc).map (fun d => d.parameters.length) = some np ∧ y.name = "<init>"
theorem q_endA {a : Array Value} {v : Option Value} {g' : qS} {mc1 ms1 : Nat} (hj : q_J E s g H locs) (hr : va_Run p l e R s m args below meth c H locs cells slots mc1 ms1 (F0 m pc ls st) rest (q_QA E v g' mc1 a) (q_A E)) (k : ∀ (H1 : Heap) (locs1 : List Loc), q_J E s g' H1 locs1 → H1.size = H.size + mc1 → W p l e R s m args below meth c H1 locs1 (cells + mc1) (slots + ms1) Q (F0 m (pc + 3) ls (v.toList ++ rest))) : W p l e R s m args below meth c H locs cells slots Q (F0 m pc ls st) := by
  intro T hT X
  obtain ⟨v', st₀, t, T', L, h0, X', hL, e1, e2, ⟨hv, hw, hz, hk⟩, sp⟩ := hr T hT X
  cases hv
  rw [h0] at hz hk
  obtain ⟨hw0, hS1, hS2, hS3⟩ := hj
  obtain ⟨t2, a1, b1⟩ := k T'.heap (locs ++ L) ⟨by rw [e1]; exact hw, by rw [e1, hz]; omega, fun q h1 h2 => by rw [e1, hk q (Nat.lt_of_lt_of_le h1 hS1) h2]; exact hS2 q h1 h2, fun q hq => by
      rcases List.mem_append.mp hq with h | h
      · exact hS3 q h
      · exact hL q h⟩ (by rw [e1, hz]) T' rfl X'
  exact ⟨t2, sp t2 a1, b1⟩
theorem q_cI (C : q_C E p s m args meth c cc own nL rt) (hj : q_J E s g H locs) (hz : H.size = s.heap.size + k) (har : q_ar E n mc s.heap.size) {y : MethodName} {b : ByteArray} {nl idx np F L mc1 ms1 r : Nat} (hk : Nat.ble (k + mc1) mc = true) (cw : q_cn own idx y b nl np) {As : List Value} {call : Option qS} {f : qS → Option α} (hf : call.bind f = some res) (hM : ∀ g1, call = some g1 → q_MA l y b nl F L mc1 ms1 E (.ref (q_ad E r) :: As) g (n + k) g1) (hR : (Nat.ble (F + 1) R.frames && Nat.ble (nl + 19 + L) R.locals) = true) {lv : List (Nat × Value)} (hl : lv_has ls nL lv) (hn : As.length = np) (hst : st = As.reverse ++ .ref (q_ad E r) :: rest) (hr8 : Nat.ble (rest.map fun v => v.category).sum 8 = true) (hd : decode cc pc = .ok (.invokespecial idx, 3)) (hc1 : Nat.ble (cells + mc1) R.cells = true) (hc2 : Nat.ble (slots + ms1) R.slots = true)
    (kk : ∀ (g1 : qS) (H1 : Heap) (locs1 : List Loc), q_J E s g1 H1 locs1 → H1.size = s.heap.size + (k + mc1) → f g1 = some res → W p l e R s m args below meth c H1 locs1 (cells + mc1) (slots + ms1) Q (F0 m (pc + 3) ls rest)) : W p l e R s m args below meth c H locs cells slots Q (F0 m pc ls st) := by
  obtain ⟨g1, h1, h2⟩ := q_ob hf
  obtain ⟨w1, w2, w3, w4, w5, w6, w7⟩ := cw
  have hts := C.2.2.2.2.1
  exact q_endA hj (va_runI (cc := cc) (nL := nL) (Ts := q_GW) ⟨C.1, C.2.1, C.2.2.1, C.2.2.2.1, hts⟩ (hM g1 h1) ⟨q_cbA C w1 w3 w4 w5 w6 hR, w7, hts _ w2⟩ (q_preA C hj (har.sub hz hk)) rfl hn hl.1 hst (lv_room (Nat.le_of_ble_eq_true hr8)) hd ⟨Nat.le_of_ble_eq_true hc1, Nat.le_of_ble_eq_true hc2⟩) (fun H1 locs1 hj hz1 => kk g1 H1 locs1 hj (by rw [hz1, hz]; omega) h2)
/-- .. of a nest mate -/
theorem q_cIN (C : q_C E p s m args meth c cc own nL rt) (hj : q_J E s g H locs) (hz : H.size = s.heap.size + k) (har : q_ar E n mc s.heap.size) {y : MethodName} {b : ByteArray} {nl idx np F L mc1 ms1 r : Nat} {host : String} (hk : Nat.ble (k + mc1) mc = true) (w1 : Cond.methodLinkNest own idx y host ∈ q_NW) (w2 : Cond.instanceMethod y ∈ q_GW) (w3 : Cond.initialized y.cls ∈ q_GW) (w4 : Cond.code y b nl none ∈ q_GW) (w5 : y.cls ≠ "java/lang/invoke/MethodHandle" ∧ y.cls ≠ "java/lang/invoke/VarHandle") (w6 : (parseMethodDescriptor y.desc).map (fun d => d.parameters.length) = some np) (w7 : y.name = "<init>") {As : List Value} {call : Option qS} {f : qS → Option α} (hf : call.bind f = some res) (hM : ∀ g1, call = some g1 → q_MA l y b nl F L mc1 ms1 E (.ref (q_ad E r) :: As) g (n + k) g1) (hR : (Nat.ble (F + 1) R.frames && Nat.ble (nl + 19 + L) R.locals) = true) {lv : List (Nat × Value)} (hl : lv_has ls nL lv) (hn : As.length = np) (hst : st = As.reverse ++ .ref (q_ad E r) :: rest) (hr8 : Nat.ble (rest.map fun v => v.category).sum 8 = true) (hd : decode cc pc = .ok (.invokespecial idx, 3)) (hc1 : Nat.ble (cells + mc1) R.cells = true) (hc2 : Nat.ble (slots + ms1) R.slots = true)
    (kk : ∀ (g1 : qS) (H1 : Heap) (locs1 : List Loc), q_J E s g1 H1 locs1 → H1.size = s.heap.size + (k + mc1) → f g1 = some res → W p l e R s m args below meth c H1 locs1 (cells + mc1) (slots + ms1) Q (F0 m (pc + 3) ls rest)) : W p l e R s m args below meth c H locs cells slots Q (F0 m pc ls st) := by
  obtain ⟨g1, h1, h2⟩ := q_ob hf
  have hts := C.2.2.2.2.1
  rw [Bool.and_eq_true] at hR
  have hR1 := Nat.le_of_ble_eq_true hR.1
  have hR2 := Nat.le_of_ble_eq_true hR.2
  refine q_endA hj (va_runIN (cc := cc) (nL := nL) (Ts := q_GW) ⟨C.1, C.2.1, C.2.2.1, C.2.2.2.1, hts⟩ (hM g1 h1) ⟨⟨⟨rfl, rfl, hR1, by show 8 + (nl + 11) + L ≤ _; omega, fun w hw => ?_, List.mem_cons_self⟩, hts _ w4, hts _ w3, w5, fun sig h => ?_, va_Nw.use rfl (C.2.2.2.2.2.2.2.2.2.1 _ w1)⟩, w7, hts _ w2⟩ (q_preA C hj (har.sub hz hk)) rfl hn hl.1 hst (lv_room (Nat.le_of_ble_eq_true hr8)) hd ⟨Nat.le_of_ble_eq_true hc1, Nat.le_of_ble_eq_true hc2⟩) (fun H1 locs1 hj hz1 => kk g1 H1 locs1 hj (by rw [hz1, hz]; omega) h2)
  · rcases List.mem_cons.mp hw with rfl | h
    · exact q_pay hts w4
    · exact q_pay hts h
  · rw [h] at w6
    exact (Option.some.inj w6).symm
/-- a writer's call, with the heap's size kept -/
theorem q_cVWVz (C : q_C E p s m args meth c cc own nL rt) (hj : q_J E s g H locs) {y : MethodName} {b : ByteArray} {nl idx np F L ci r : Nat} {rt' : Option FieldType} (cw : q_cw own idx ci y b nl rt' np) {As : List Value} {call : Option qS} {f : qS → Option α} (hf : call.bind f = some res) (hM : ∀ g1, call = some g1 → q_MW l y b nl rt' F L E (.ref (q_ad E r) :: As) g none g1 ∧ ∃ fs, g r = some (.inr (ci, fs))) (hR : (Nat.ble (F + 1) R.frames && Nat.ble (nl + 19 + L) R.locals) = true) {lv : List (Nat × Value)} (hl : lv_has ls nL lv) (hn : As.length = np) (hst : st = As.reverse ++ .ref (q_ad E r) :: rest) (hr8 : Nat.ble (rest.map fun v => v.category).sum 8 = true) (hd : decode cc pc = .ok (.invokevirtual idx, 3)) (hcs : cells ≤ R.cells ∧ slots ≤ R.slots)
    (kk : ∀ (g1 : qS) (H1 : Heap) (locs1 : List Loc), q_J E s g1 H1 locs1 → H1.size = H.size → f g1 = some res → W p l e R s m args below meth c H1 locs1 cells slots Q (F0 m (pc + 3) ls rest)) : W p l e R s m args below meth c H locs cells slots Q (F0 m pc ls st) := by
  obtain ⟨g1, h1, h2⟩ := q_ob hf
  have hr := q_runV (rest := rest) C hj cw (hM g1 h1).1 (hM g1 h1).2 hR hl hn hst hr8 hd hcs (l := l) (e := e) (below := below) (meth := meth)
  intro T hT X
  obtain ⟨v', st₀, t, T', L, h0, X', hL, e1, e2, ⟨hv, hw, hz, hk⟩, sp⟩ := hr T hT X
  cases hv
  rw [h0] at hz hk
  obtain ⟨hw0, hS1, hS2, hS3⟩ := hj
  obtain ⟨t2, a1, b1⟩ := kk g1 T'.heap (locs ++ L) ⟨by rw [e1]; exact hw, by rw [e1, hz]; exact hS1, fun q h1 h2 => by rw [e1, hk q (Nat.lt_of_lt_of_le h1 hS1) h2]; exact hS2 q h1 h2, fun q hq => by
      rcases List.mem_append.mp hq with h | h
      · exact hS3 q h
      · exact hL q h⟩ (by rw [e1, hz]) h2 T' rfl X'
  exact ⟨t2, sp t2 a1, b1⟩
theorem q_vretA {mc1 ms1 : Nat} (C : q_C E p s m args meth c cc own nL none) (hj : q_J E s g H locs) (hz : H.size = s.heap.size + mc1) (hd : decode cc pc = .ok (.return_, 1)) {res : qS} (hf : some g = some res) : W p l e R s m args below meth c H locs mc1 ms1 (MQ below (q_QA E none res mc1) args s mc1 ms1 (q_A E)) (F0 m pc ls []) := by
  cases hf
  exact W.vret C.1 C.2.1 C.2.2.2.2.2.2.1 (fun t ht _ => ⟨rfl, by rw [ht]; exact hj.1, by rw [ht]; exact hz, fun q h1 h2 => by rw [ht]; exact hj.2.2.1 q h1 h2⟩) hj.2.2.2 hd C.2.2.2.2.2.1
theorem q_iretC {mc1 ms1 : Nat} (C : q_C E p s m args meth c cc own nL (some .int)) (hj : q_J E s g H locs) (hd : decode cc pc = .ok (.ireturn, 1)) {x : Int32} {res : Int32 × qS} (hf : some (x, g) = some res) : W p l e R s m args below meth c H locs mc1 ms1 (MQ below (q_QC E (some (.int res.1)) res.2) args s mc1 ms1 (q_A E)) (F0 m pc ls [.int x]) := by
  cases hf
  exact W.iret C.1 C.2.1 C.2.2.2.2.2.2.1 (fun t ht _ => ⟨rfl, by rw [ht]; exact hj.1, by rw [ht]; exact hj.2.1, fun q h1 h2 => by rw [ht]; exact hj.2.2.1 q h1 h2⟩) hj.2.2.2 hd C.2.2.2.2.2.1
end QAL
theorem q_ofA {l : Launch} {E : qV} {y : MethodName} {b : ByteArray} {nl F L mc ms n : Nat} {av : List Value} {g g' : qS} (hy : plainName y.cls = true) (hnm : y.name = "<init>") (hen : Nat.ble (lg_sl av).length nl = true) (body : ∀ (p : Program) (e : Env) (s : State) (m : MethodId) (args : Array Value) (below : List Frame) (meth : Method) (c : Code) (ls : Array Slot), q_C E p s m args meth c b y.cls nl none → meth.name = "<init>" → q_J E s g s.heap [] → q_ar E n mc s.heap.size → lv_has ls nl (lv_args 0 av) → W p l e (q_rmA F L mc ms) s m args below meth c s.heap [] 0 0 (MQ below (q_QA E none g' mc) args s mc ms (q_A E)) (F0 m 0 ls [])) : q_MA l y b nl F L mc ms E av g n g' := by
  refine Met.ofW (cc := b) (maxL := nl) (ret := none) hy rfl ?_
  intro p e s m args below meth c s₁ B hml hv
  obtain ⟨rfl, hEV, hw, har⟩ := hv
  have hts := atoms_spec (ws := Cond.code y b nl none :: q_GW) B.pre
  have hl := lv_entry av (n := nl) (Nat.le_of_ble_eq_true hen)
  rw [lg_entry_eq]
  generalize (lg_sl av ++ List.replicate (nl - (lg_sl av).length) Slot.unset).toArray = ls at hl ⊢
  exact body p e s m _ below meth c ls ⟨B.exec, B.bytes, hml, findClass_of_methodNamed B.named, fun w hw => hts w (List.mem_cons_of_mem _ hw), B.notSynchronized, B.returns, hEV⟩ ((name_of_methodNamed B.named B.method).1.trans hnm) ⟨hw, va_S.rf⟩ har hl
def q_MC (l : Launch) (y : MethodName) (b : ByteArray) (nl : Nat) (rt : Option FieldType) (F L mc ms : Nat) (E : qV) (av : List Value) (g : qS) (n : Nat) (v : Option Value) (g' : qS) : Prop := Met l y (Cond.code y b nl rt :: q_GW) (q_rmA F L mc ms) (q_PcA E av g n mc) (q_QC E v g') mc ms (q_A E)
theorem q_ofC {l : Launch} {E : qV} {y : MethodName} {b : ByteArray} {nl F L mc ms n : Nat} {rt : Option FieldType} {v : Option Value} {av : List Value} {g g' : qS} (hy : plainName y.cls = true) (hen : Nat.ble (lg_sl av).length nl = true) (body : ∀ (p : Program) (e : Env) (s : State) (m : MethodId) (args : Array Value) (below : List Frame) (meth : Method) (c : Code) (ls : Array Slot), q_C E p s m args meth c b y.cls nl rt → q_J E s g s.heap [] → q_ar E n mc s.heap.size → lv_has ls nl (lv_args 0 av) → W p l e (q_rmA F L mc ms) s m args below meth c s.heap [] 0 0 (MQ below (q_QC E v g') args s mc ms (q_A E)) (F0 m 0 ls [])) : q_MC l y b nl rt F L mc ms E av g n v g' := by
  refine Met.ofW (cc := b) (maxL := nl) (ret := rt) hy rfl ?_
  intro p e s m args below meth c s₁ B hml hv
  obtain ⟨rfl, hEV, hw, har⟩ := hv
  have hts := atoms_spec (ws := Cond.code y b nl rt :: q_GW) B.pre
  have hl := lv_entry av (n := nl) (Nat.le_of_ble_eq_true hen)
  rw [lg_entry_eq]
  generalize (lg_sl av ++ List.replicate (nl - (lg_sl av).length) Slot.unset).toArray = ls at hl ⊢
  exact body p e s m _ below meth c ls ⟨B.exec, B.bytes, hml, findClass_of_methodNamed B.named, fun w hw => hts w (List.mem_cons_of_mem _ hw), B.notSynchronized, B.returns, hEV⟩ ⟨hw, va_S.rf⟩ har hl
