/-! ===== a method's entry and its ends ===== -/
abbrev q_ZR (below : List Frame) (v : Option Value) (args : Array Value) (s : State) : State → Prop := MQ below (q_QR v) args s 0 0 (fun _ => False)
abbrev q_ZW (E : qV) (below : List Frame) (v : Option Value) (g : qS) (args : Array Value) (s : State) : State → Prop := MQ below (q_QW E v g) args s 0 0 (q_A E)
section QO
variable {l : Launch} {E : qV} {y : MethodName} {b : ByteArray} {n F L : Nat} {rt : Option FieldType} {av : List Value} {g : qS} {v : Option Value}
theorem q_ofR (hy : plainName y.cls = true) (hen : Nat.ble (lg_sl av).length n = true) (body : ∀ (p : Program) (e : Env) (s : State) (m : MethodId) (args : Array Value) (below : List Frame) (meth : Method) (c : Code) (ls : Array Slot), q_C E p s m args meth c b y.cls n rt → q_hw E g s.heap → lv_has ls n (lv_args 0 av) → W p l e (q_rm F L) s m args below meth c s.heap [] 0 0 (q_ZR below v args s) (F0 m 0 ls [])) : q_MR l y b n rt F L E av g v := by
  refine Met.ofW (cc := b) (maxL := n) (ret := rt) hy rfl ?_
  intro p e s m args below meth c s₁ B hml hv
  obtain ⟨rfl, hEV, hw⟩ := hv
  have hts := atoms_spec (ws := Cond.code y b n rt :: q_GW) B.pre
  have hl := lv_entry av (n := n) (Nat.le_of_ble_eq_true hen)
  rw [lg_entry_eq]
  generalize (lg_sl av ++ List.replicate (n - (lg_sl av).length) Slot.unset).toArray = ls at hl ⊢
  exact body p e s m _ below meth c ls ⟨B.exec, B.bytes, hml, findClass_of_methodNamed B.named, fun w hw => hts w (List.mem_cons_of_mem _ hw), B.notSynchronized, B.returns, hEV⟩ hw hl
theorem q_ofW {g' : qS} (hy : plainName y.cls = true) (hen : Nat.ble (lg_sl av).length n = true) (body : ∀ (p : Program) (e : Env) (s : State) (m : MethodId) (args : Array Value) (below : List Frame) (meth : Method) (c : Code) (ls : Array Slot), q_C E p s m args meth c b y.cls n rt → q_J E s g s.heap [] → lv_has ls n (lv_args 0 av) → W p l e (q_rm F L) s m args below meth c s.heap [] 0 0 (q_ZW E below v g' args s) (F0 m 0 ls [])) : q_MW l y b n rt F L E av g v g' := by
  refine Met.ofW (cc := b) (maxL := n) (ret := rt) hy rfl ?_
  intro p e s m args below meth c s₁ B hml hv
  obtain ⟨rfl, hEV, hw⟩ := hv
  have hts := atoms_spec (ws := Cond.code y b n rt :: q_GW) B.pre
  have hl := lv_entry av (n := n) (Nat.le_of_ble_eq_true hen)
  rw [lg_entry_eq]
  generalize (lg_sl av ++ List.replicate (n - (lg_sl av).length) Slot.unset).toArray = ls at hl ⊢
  exact body p e s m _ below meth c ls ⟨B.exec, B.bytes, hml, findClass_of_methodNamed B.named, fun w hw => hts w (List.mem_cons_of_mem _ hw), B.notSynchronized, B.returns, hEV⟩ ⟨hw, va_S.rf⟩ hl
end QO
section QN
variable {l : Launch} {E : qV} {p : Program} {e : Env} {R : Room} {s : State} {m : MethodId} {args : Array Value} {below : List Frame} {meth : Method} {c : Code} {H : Heap} {locs : List Loc} {Q : State → Prop} {cc : ByteArray} {own : String} {nL : Nat} {pc : Nat} {ls : Array Slot} {g : qS}
theorem q_sz {cells slots : Nat} {f : JFrame} (k : H.size ≤ s.heap.size + cells → W p l e R s m args below meth c H locs cells slots Q f) : W p l e R s m args below meth c H locs cells slots Q f := fun T hT X => k (by rw [← hT]; exact X.heapSize) T hT X
def q_zr {α : Type} (x : Int32) (a : α) : Option α := if x = 0 ∨ x = 1 then some a else none
theorem q_zr_sp {α : Type} {x : Int32} {a r : α} (h : q_zr x a = some r) : narrow .boolean (.int x) = .int x ∧ a = r := by
  unfold q_zr at h
  split at h
  · rename_i hz
    cases h
    rcases hz with rfl | rfl
    · exact ⟨by decide +kernel, rfl⟩
    · exact ⟨by decide +kernel, rfl⟩
  · cases h
theorem q_wend {v : Option Value} (hj : q_J E s g H locs) (h0 : H.size ≤ s.heap.size + 0) : ∀ t : State, t.heap = H → s.WarmedH t.vm → q_QW E v g args s (.returned v) t := fun t ht _ => ⟨rfl, by rw [ht]; exact hj.1, by rw [ht]; exact Nat.le_antisymm h0 hj.2.1, fun q h1 h2 => by rw [ht]; exact hj.2.2.1 q h1 h2⟩
theorem q_iretR (C : q_C E p s m args meth c cc own nL (some .int)) (hd : decode cc pc = .ok (.ireturn, 1)) {x res : Int32} (hf : some x = some res) : W p l e R s m args below meth c s.heap [] 0 0 (q_ZR below (some (.int res)) args s) (F0 m pc ls [.int x]) := by
  cases hf
  exact W.iret C.1 C.2.1 C.2.2.2.2.2.2.1 (fun t ht _ => ⟨rfl, ht⟩) (fun q h => by cases h) hd C.2.2.2.2.2.1
theorem q_zretR (C : q_C E p s m args meth c cc own nL (some .boolean)) (hd : decode cc pc = .ok (.ireturn, 1)) {x res : Int32} (hf : q_zr x x = some res) : W p l e R s m args below meth c s.heap [] 0 0 (q_ZR below (some (.int res)) args s) (F0 m pc ls [.int x]) := by
  obtain ⟨h1, rfl⟩ := q_zr_sp hf
  exact W.zret C.1 C.2.1 C.2.2.2.2.2.2.1 h1 (fun t ht _ => ⟨rfl, ht⟩) (fun q h => by cases h) hd C.2.2.2.2.2.1
theorem q_z0retR (C : q_C E p s m args meth c cc own nL (some .boolean)) (hd : decode cc pc = .ok (.ireturn, 1)) {res : Int32} (hf : some 0 = some res) : W p l e R s m args below meth c s.heap [] 0 0 (q_ZR below (some (.int res)) args s) (F0 m pc ls [.int 0]) := q_zretR C hd (x := 0) (by rw [← hf]; rfl)
theorem q_z1retR (C : q_C E p s m args meth c cc own nL (some .boolean)) (hd : decode cc pc = .ok (.ireturn, 1)) {res : Int32} (hf : some 1 = some res) : W p l e R s m args below meth c s.heap [] 0 0 (q_ZR below (some (.int res)) args s) (F0 m pc ls [.int 1]) := q_zretR C hd (x := 1) (by rw [← hf]; rfl)
theorem q_lretR (C : q_C E p s m args meth c cc own nL (some .long)) (hd : decode cc pc = .ok (.lreturn, 1)) {x res : Int64} (hf : some x = some res) : W p l e R s m args below meth c s.heap [] 0 0 (q_ZR below (some (.long res)) args s) (F0 m pc ls [.long x]) := by
  cases hf
  exact W.lret C.1 C.2.1 C.2.2.2.2.2.2.1 (fun t ht _ => ⟨rfl, ht⟩) (fun q h => by cases h) hd C.2.2.2.2.2.1
theorem q_sretR {nm : String} (C : q_C E p s m args meth c cc own nL (some (.object nm))) (hd : decode cc pc = .ok (.areturn, 1)) {x res : Nat} (hf : some x = some res) : W p l e R s m args below meth c s.heap [] 0 0 (q_ZR below (some (.ref (q_sa E res))) args s) (F0 m pc ls [.ref (q_sa E x)]) := by
  cases hf
  exact W.aret C.1 C.2.1 C.2.2.2.2.2.2.1 (Or.inl ⟨_, rfl⟩) (Or.inr ⟨_, rfl⟩) (fun t ht _ => ⟨rfl, ht⟩) (fun q h => by cases h) hd C.2.2.2.2.2.1
theorem q_iretW (C : q_C E p s m args meth c cc own nL (some .int)) (hj : q_J E s g H locs) (hd : decode cc pc = .ok (.ireturn, 1)) {x : Int32} {res : Int32 × qS} (hf : some (x, g) = some res) : W p l e R s m args below meth c H locs 0 0 (q_ZW E below (some (.int res.1)) res.2 args s) (F0 m pc ls [.int x]) := by
  cases hf
  exact q_sz fun h0 => W.iret C.1 C.2.1 C.2.2.2.2.2.2.1 (q_wend hj h0) hj.2.2.2 hd C.2.2.2.2.2.1
theorem q_zretW (C : q_C E p s m args meth c cc own nL (some .boolean)) (hj : q_J E s g H locs) (hd : decode cc pc = .ok (.ireturn, 1)) {x : Int32} {res : Int32 × qS} (hf : q_zr x (x, g) = some res) : W p l e R s m args below meth c H locs 0 0 (q_ZW E below (some (.int res.1)) res.2 args s) (F0 m pc ls [.int x]) := by
  obtain ⟨h1, rfl⟩ := q_zr_sp hf
  exact q_sz fun h0 => W.zret C.1 C.2.1 C.2.2.2.2.2.2.1 h1 (q_wend hj h0) hj.2.2.2 hd C.2.2.2.2.2.1
theorem q_z0retW (C : q_C E p s m args meth c cc own nL (some .boolean)) (hj : q_J E s g H locs) (hd : decode cc pc = .ok (.ireturn, 1)) {res : Int32 × qS} (hf : some (0, g) = some res) : W p l e R s m args below meth c H locs 0 0 (q_ZW E below (some (.int res.1)) res.2 args s) (F0 m pc ls [.int 0]) := q_zretW C hj hd (x := 0) (by rw [← hf]; rfl)
theorem q_z1retW (C : q_C E p s m args meth c cc own nL (some .boolean)) (hj : q_J E s g H locs) (hd : decode cc pc = .ok (.ireturn, 1)) {res : Int32 × qS} (hf : some (1, g) = some res) : W p l e R s m args below meth c H locs 0 0 (q_ZW E below (some (.int res.1)) res.2 args s) (F0 m pc ls [.int 1]) := q_zretW C hj hd (x := 1) (by rw [← hf]; rfl)
theorem q_lretW (C : q_C E p s m args meth c cc own nL (some .long)) (hj : q_J E s g H locs) (hd : decode cc pc = .ok (.lreturn, 1)) {x : Int64} {res : Int64 × qS} (hf : some (x, g) = some res) : W p l e R s m args below meth c H locs 0 0 (q_ZW E below (some (.long res.1)) res.2 args s) (F0 m pc ls [.long x]) := by
  cases hf
  exact q_sz fun h0 => W.lret C.1 C.2.1 C.2.2.2.2.2.2.1 (q_wend hj h0) hj.2.2.2 hd C.2.2.2.2.2.1
theorem q_rretW {nm : String} (C : q_C E p s m args meth c cc own nL (some (.object nm))) (hj : q_J E s g H locs) (hd : decode cc pc = .ok (.areturn, 1)) {x : Nat} {res : Nat × qS} (hf : some (x, g) = some res) : W p l e R s m args below meth c H locs 0 0 (q_ZW E below (some (.ref (q_ad E res.1))) res.2 args s) (F0 m pc ls [.ref (q_ad E x)]) := by
  cases hf
  exact q_sz fun h0 => W.aret C.1 C.2.1 C.2.2.2.2.2.2.1 (Or.inl ⟨_, rfl⟩) (Or.inr ⟨_, rfl⟩) (q_wend hj h0) hj.2.2.2 hd C.2.2.2.2.2.1
theorem q_vretW (C : q_C E p s m args meth c cc own nL none) (hj : q_J E s g H locs) (hd : decode cc pc = .ok (.return_, 1)) {res : qS} (hf : some g = some res) : W p l e R s m args below meth c H locs 0 0 (q_ZW E below none res args s) (F0 m pc ls []) := by
  cases hf
  exact q_sz fun h0 => W.vret C.1 C.2.1 C.2.2.2.2.2.2.1 (q_wend hj h0) hj.2.2.2 hd C.2.2.2.2.2.1
end QN
