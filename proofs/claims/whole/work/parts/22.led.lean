abbrev q_xn : List String := ["java/lang/RuntimeException", "java/lang/Exception"]
def q_atX (own : String) (ic : Nat) (X : String) (ix : Nat) (rx : ByteArray) (names : List String) : List Cond := (Bundle.ownAtomsX own ic X ix rx names).filter vx_no
abbrev q_xl : List Cond := q_atX RX10 314 "java/util/NoSuchElementException" 13 prog_28_method_4_code q_xn
set_option maxHeartbeats 4000000 in
theorem q_throwX {p : Program} {l : Launch} {e : Env} {R : Room} {s : State} {m : MethodId} {args : Array Value} {below : List Frame} {meth : Method} {c : Code} {H : Heap} {locs : List Loc} {cells slots : Nat} {ls : Array Slot} {rest : List Value} {Qc : Array Value → State → Outcome → State → Prop} {XC : String → State → State → Prop} {free : Addr → Prop} {cc : ByteArray} {pc : Nat} (hexec : p.tables.exec = Jvm.exec) (hb : c.code = cc) (hl : l.stackTraces = false) {own cls text : String} {names : List String} {ik is ic ix mc ms sa : Nat} {rx : ByteArray} {A : Nat → Prop} (x0 : decode rx 0 = .ok (.aload_n 0, 1)) (x1 : decode rx 1 = .ok (.aload_n 1, 1)) (x2 : decode rx 2 = .ok (.invokespecial ix, 3)) (x5 : decode rx 5 = .ok (.return_, 1))
    (hown : s.vm.findClass own = some m.cls) (hcls : Bundle.fit cls = true) (hnames : ∀ n ∈ names, Bundle.fit n = true)
    (hk : (Cond.classLink own ik cls).before args s = true) (hini : (Cond.initialized cls).before args s = true) (hstr : vk_R own is text sa s) (hat : ∀ w ∈ q_atX own ic cls ix rx names, w.before args s = true)
    (hgood : ∀ w ∈ Cond.classLink own ik cls :: Cond.initialized cls :: q_atX own ic cls ix rx names, vx_ot w = true)
    (hU : vx_Zq Bundle.tN "UNASSIGNED_STACK" Bundle.steD A s s.heap) (hN : vx_Zq Bundle.tN "SUPPRESSED_SENTINEL" Bundle.listD A s s.heap) (hS : va_S A s.heap H locs) (hsize : ls.size = c.maxLocals)
    (d0 : decode cc pc = .ok (.new ik, 3)) (d3 : decode cc (pc + 3) = .ok (.dup, 1)) (d4 : decode cc (pc + 4) = .ok (.ldc_w is, 3)) (d7 : decode cc (pc + 7) = .ok (.invokespecial ic, 3)) (d10 : decode cc (pc + 10) = .ok (.athrow, 1))
    (hout : ∀ x ∈ c.exceptionTable.toList, covers x (pc + 10) = false)
    (hRframes : names.length + 3 < R.frames) (hRlocals : (rest.map fun v => v.category).sum + (13 * (names.length + 1) + 43) ≤ R.locals) (hRcells : cells + 1 ≤ R.cells) (hRslots : slots + 6 ≤ R.slots) (hlocks : meth.locks = false)
    (hx : ∀ t : State, s.vm.Alike t.vm → H.size ≤ t.heap.size → (∀ q : Nat, q < H.size → t.heap[q]? = H[q]?) → XC cls s t)
    (hf : ∀ z ∈ locs, free z.base) (hc : cells + 1 ≤ mc) (hs : slots + 6 ≤ ms) :
    W p l e R s m args below meth c H locs cells slots (vx_MQ below Qc XC args s mc ms free) (F0 m pc ls rest) := by
  intro T hT X
  have htr : e.platform.stackTraces = false := (show e.platform.stackTraces = l.stackTraces by rw [X.admits.platform]).trans hl
  have Y := vx_rebase X (R' := { frames := R.frames, locals := R.locals, cells := 1, slots := 6 }) (Nat.le_refl _) (Nat.le_refl _) hRcells hRslots
  obtain ⟨s', hA⟩ : ∃ z, z = (T.setVm s.vm).setFrames (.invoking m args :: below) := ⟨_, rfl⟩
  rw [← hA] at Y
  have hvm : s'.vm = s.vm := by rw [hA]; rfl
  have hhp : s'.heap = H := by rw [hA]; exact hT
  have hW0 : s.WarmedH s'.vm := by rw [hvm]; exact State.WarmedH.refl s
  have hat' : ∀ w ∈ q_atX own ic cls ix rx names, w.before args s' = true := fun w hw => vx_ot_at hW0 hvm.symm (hgood w (List.mem_cons_of_mem _ (List.mem_cons_of_mem _ hw))) (hat w hw)
  have hk' : (Cond.classLink own ik cls).before args s' = true := vx_ot_at hW0 hvm.symm (hgood _ List.mem_cons_self) hk
  have hini' : (Cond.initialized cls).before args s' = true := vx_ot_at hW0 hvm.symm (hgood _ (List.mem_cons_of_mem _ List.mem_cons_self)) hini
  have hU' : vx_Zq Bundle.tN "UNASSIGNED_STACK" Bundle.steD A s' s'.heap := by rw [hhp]; exact vx_Zq.moved hW0.alike (hU.kept hS.2.1)
  have hN' : vx_Zq Bundle.tN "SUPPRESSED_SENTINEL" Bundle.listD A s' s'.heap := by rw [hhp]; exact vx_Zq.moved hW0.alike (hN.kept hS.2.1)
  have h : ∀ w ∈ Bundle.ownAtomsX own ic cls ix rx names, w.before args s' = true := vx_own hat' (vx_isRefq hU'.1) (vx_isRefq hN'.1) hU'.2.word hN'.2.word
  have hown' : s'.vm.findClass own = some m.cls := by rw [hvm]; exact hown
  have hins : (Cond.instantiable cls 6).before args s' = true := h _ (by simp [Bundle.ownAtomsX])
  obtain ⟨vm₁, cX, kX, hfX, hkX, -, -, X₁, st1⟩ := Y.newCold hexec (own := own) (C := cls) (index := ik) (n := 6) hown' hk' hins hini'
    (g := F0 m pc ls rest) rfl (by rw [hb]; exact d0) (Nat.le_refl _) (Nat.le_refl _)
  generalize hT1 : (T.setVm vm₁).pushCell { cls := cX, slots := kX.instanceTypes.map defaultValue, vm := .none } = T1 at X₁ st1
  have hcat : (Value.ref T.heap.size).category = 1 := rfl
  have hcellA : T1.heap[T.heap.size]? = some (freshCell cX kX) := by rw [← hT1]; exact State.heap_pushCell_size _ _
  have d3' : decode c.code (pc + 3) = .ok (.dup, 1) := by rw [hb]; exact d3
  have d4' : decode c.code (pc + 4) = .ok (.ldc_w is, 3) := by rw [hb]; exact d4
  have hstr' : vk_R own is text sa s' := vk_R.warm hW0 hstr
  obtain ⟨U, hsteps, hrun, hend, hW, hsame, ce, hce, hO1, hO2⟩ := q_ctorX X₁ hexec htr (own := own) (cls := cls) (names := names) (ic := ic) x0 x1 x2 x5 hown' hcls hnames h hfX hkX hcellA (by rw [hhp, hT]; exact Nat.le_refl _) (sa := sa) (pc := pc + 7) (rest := rest) hsize
    (by rw [hb]; exact d7) (by rw [hb]; exact d10) hout hRframes hRlocals hlocks
  obtain ⟨f1, f2⟩ := vx_frame hsame
  rw [hhp] at f1 f2
  have hWs : s.WarmedH U.vm := State.WarmedH.trans hW0 hW
  have hcl : s.vm.findClass cls = some ce.cls := by
    have h9 := hO1
    rw [hvm] at h9
    exact h9
  have hall : s.sameButNew ({ U with vm := s.vm } : State) locs mc ms := by
    subst hA
    obtain ⟨e1, e2⟩ := hsame
    rw [State.setFrames_setFrames] at e1
    have h2 : (T.setVm s.vm).sameButNew ({ U with vm := s.vm } : State) [] (0 + 1) (0 + 6) := ⟨e1, e2⟩
    have h3 := X.same.trans h2
    rw [List.append_nil] at h3
    exact h3.mono hc hs
  refine ⟨U, ?_, .threw T.heap.size, hrun, hend, Or.inr ⟨T.heap.size, rfl, cls, ce, locs, hx U hWs.alike f1 (fun q hq => f2 q hq (fun z hz => nomatch hz)), hce, hO2, hcl, hWs, hall, hf⟩⟩
  refine st1 _ ?_
  show Steps p.tables e below (T1.setTop { method := m, pc := pc + 3, locals := ls, stack := .ref T.heap.size :: rest, locked := none }) _
  jvm_step X₁.here [X₁.here.top, hexec, d3', Value.category]
  exact X₁.ldcStringW hexec (own := own) (text := text) (index := is) (a := sa) hown' hstr'.1 hstr'.2
    (g := { method := m, pc := pc + 4, locals := ls, stack := .ref T.heap.size :: .ref T.heap.size :: rest, locked := none }) rfl d4' _ hsteps

def q_xe : List Cond := [.initialized Bundle.tN, .superclass Bundle.tN "java/lang/Object", .instanceMethod Bundle.tFill, .codeSync Bundle.tFill prog_25_method_18_code 1 (some (.object Bundle.tN)), .instanceMethod Bundle.tFill0, .native Bundle.tFill0, .instanceMethod Bundle.tInit0, .code Bundle.tInit0 prog_25_method_1_code 1 none, .instanceMethod Bundle.oInit, .code Bundle.oInit ⟨#[0xb1]⟩ 1 none, .methodLink Bundle.tN 1 Bundle.oInit, .methodLink Bundle.tN 27 Bundle.tFill, .methodLink Bundle.tN 202 Bundle.tFill0, .fieldLink Bundle.tN 7 Bundle.tN "cause" "Ljava/lang/Throwable;", .lays Bundle.tN Bundle.tN "cause" "Ljava/lang/Throwable;", .fieldLink Bundle.tN 17 Bundle.tN "stackTrace" Bundle.steD, .lays Bundle.tN Bundle.tN "stackTrace" Bundle.steD, .fieldLink Bundle.tN 24 Bundle.tN "suppressedExceptions" Bundle.listD, .lays Bundle.tN Bundle.tN "suppressedExceptions" Bundle.listD, .fieldLink Bundle.tN 13 Bundle.tN "UNASSIGNED_STACK" Bundle.steD, .fieldLink Bundle.tN 20 Bundle.tN "SUPPRESSED_SENTINEL" Bundle.listD, .lays Bundle.tN Bundle.tN "detailMessage" "Ljava/lang/String;", .instanceMethod (Bundle.initS Bundle.tN), .code (Bundle.initS Bundle.tN) prog_25_method_2_code 2 none, .fieldLink Bundle.tN 31 Bundle.tN "detailMessage" "Ljava/lang/String;", .lays Bundle.tN Bundle.tN "detailMessage" "Ljava/lang/String;", .instanceMethod (Bundle.initS "java/util/NoSuchElementException"), .code (Bundle.initS "java/util/NoSuchElementException") prog_28_method_4_code 2 none, .methodLink "java/util/NoSuchElementException" 13 (Bundle.initS "java/lang/RuntimeException"), .instanceMethod (Bundle.initS "java/lang/RuntimeException"), .declares (Bundle.initS "java/lang/RuntimeException"), .instanceMethod (Bundle.initS "java/lang/RuntimeException"), .code (Bundle.initS "java/lang/RuntimeException") Bundle.six 2 none, .methodLink "java/lang/RuntimeException" 7 (Bundle.initS "java/lang/Exception"), .instanceMethod (Bundle.initS "java/lang/Exception"), .declares (Bundle.initS "java/lang/Exception"), .instanceMethod (Bundle.initS "java/lang/Exception"), .code (Bundle.initS "java/lang/Exception") Bundle.six 2 none, .methodLink "java/lang/Exception" 7 (Bundle.initS Bundle.tN), .instanceMethod (Bundle.initS Bundle.tN), .declares (Bundle.initS Bundle.tN), .methodLink RX10 314 (Bundle.initS "java/util/NoSuchElementException"), .instantiable "java/util/NoSuchElementException" 6, .castable "java/util/NoSuchElementException" "java/util/NoSuchElementException", .selects "java/util/NoSuchElementException" Bundle.tFill0 Bundle.tFill0, .selects "java/util/NoSuchElementException" Bundle.tFill Bundle.tFill, .lays "java/util/NoSuchElementException" Bundle.tN "cause" "Ljava/lang/Throwable;", .lays "java/util/NoSuchElementException" Bundle.tN "stackTrace" Bundle.steD, .lays "java/util/NoSuchElementException" Bundle.tN "suppressedExceptions" Bundle.listD, .lays "java/util/NoSuchElementException" Bundle.tN "detailMessage" "Ljava/lang/String;", .fieldLink Bundle.tN 198 Bundle.tN "backtrace" "Ljava/lang/Object;", .lays Bundle.tN Bundle.tN "backtrace" "Ljava/lang/Object;", .lays "java/util/NoSuchElementException" Bundle.tN "backtrace" "Ljava/lang/Object;"]
set_option maxRecDepth 100000 in
theorem q_xl_eq : q_xl = q_xe := by rfl
def q_isD (w : Cond) : Bool := match w with
  | .declares _ => true
  | .castable .. => true
  | _ => false
def q_DW : List Cond := tables_1.filter q_isD
theorem q_dw_warm {w : Cond} (h : w ∈ q_DW) {s U : State} (hW : s.WarmedH U.vm) (hZ : va_Nw w s) : va_Nw w U := by
  have h1 := (List.mem_filter.mp h).2
  cases w <;> first | exact va_Nw.warmD hW hZ | exact va_tabs rfl (rfl : (s.setVm U.vm).vm = U.vm) (by rw [Cond.castable_setVm hW.alike]; exact hZ) | (exact absurd h1 (by simp [q_isD]))
theorem q_dw_tab {w : Cond} (h : w ∈ q_DW) : w.onTables = true := by
  have h1 := (List.mem_filter.mp h).2
  cases w <;> first | rfl | (exact absurd h1 (by simp [q_isD]))
/-- what a throw needs: words, and two statics of Throwable -/
def q_EX (E : qV) (U : State) (H : Heap) : Prop := (∀ w ∈ q_DW, va_Nw w U) ∧ vx_Zq Bundle.tN "UNASSIGNED_STACK" Bundle.steD (q_A E) U H ∧ vx_Zq Bundle.tN "SUPPRESSED_SENTINEL" Bundle.listD (q_A E) U H
theorem q_EX.warm {E : qV} {s U : State} {H : Heap} (hW : s.WarmedH U.vm) (h : q_EX E s H) : q_EX E U H := ⟨fun w hw => q_dw_warm hw hW (h.1 w hw), vx_Zq.moved hW.alike h.2.1, vx_Zq.moved hW.alike h.2.2⟩
theorem q_EX.kept {E : qV} {U : State} {H H1 : Heap} (h : q_EX E U H) (hq : ∀ a : Nat, a < H.size → ¬ q_A E a → H1[a]? = H[a]?) : q_EX E U H1 := ⟨h.1, h.2.1.kept hq, h.2.2.kept hq⟩
theorem q_EX.same {E : qV} {u U : State} {H : Heap} (hv : U.vm = u.vm) (h : q_EX E u H) : q_EX E U H := by
  have hA : u.vm.Alike U.vm := by rw [hv]; exact Vm.Alike.refl _
  exact ⟨fun w hw => va_Nw.same (q_dw_tab hw) hv.symm (h.1 w hw), vx_Zq.moved hA h.2.1, vx_Zq.moved hA h.2.2⟩
set_option maxRecDepth 100000 in
theorem q_xhat {s : State} {args : Array Value} (hts : ∀ w ∈ q_GW, w.before args s = true) (hD : ∀ w ∈ q_DW, va_Nw w s) : ∀ w ∈ q_xl, w.before args s = true := by
  rw [q_xl_eq]
  unfold q_xe
  refine List.forall_mem_cons.mpr ⟨hts _ (q_g1 (i := 20) rfl rfl), ?_⟩
  refine List.forall_mem_cons.mpr ⟨hts _ (q_g5 (i := 226) rfl rfl), ?_⟩
  refine List.forall_mem_cons.mpr ⟨hts _ (q_g5 (i := 235) rfl rfl), ?_⟩
  refine List.forall_mem_cons.mpr ⟨hts _ (q_g5 (i := 237) rfl rfl), ?_⟩
  refine List.forall_mem_cons.mpr ⟨hts _ (q_g6 (i := 0) rfl rfl), ?_⟩
  refine List.forall_mem_cons.mpr ⟨hts _ (q_g6 (i := 2) rfl rfl), ?_⟩
  refine List.forall_mem_cons.mpr ⟨hts _ (q_g5 (i := 227) rfl rfl), ?_⟩
  refine List.forall_mem_cons.mpr ⟨hts _ (q_g5 (i := 228) rfl rfl), ?_⟩
  refine List.forall_mem_cons.mpr ⟨hts _ (q_g1 (i := 30) rfl rfl), ?_⟩
  refine List.forall_mem_cons.mpr ⟨hts _ (q_g1 (i := 31) rfl rfl), ?_⟩
  refine List.forall_mem_cons.mpr ⟨hts _ (q_g5 (i := 229) rfl rfl), ?_⟩
  refine List.forall_mem_cons.mpr ⟨hts _ (q_g5 (i := 234) rfl rfl), ?_⟩
  refine List.forall_mem_cons.mpr ⟨hts _ (q_g5 (i := 238) rfl rfl), ?_⟩
  refine List.forall_mem_cons.mpr ⟨hts _ (q_g6 (i := 18) rfl rfl), ?_⟩
  refine List.forall_mem_cons.mpr ⟨hts _ (q_g5 (i := 216) rfl rfl), ?_⟩
  refine List.forall_mem_cons.mpr ⟨hts _ (q_g6 (i := 19) rfl rfl), ?_⟩
  refine List.forall_mem_cons.mpr ⟨hts _ (q_g5 (i := 218) rfl rfl), ?_⟩
  refine List.forall_mem_cons.mpr ⟨hts _ (q_g6 (i := 20) rfl rfl), ?_⟩
  refine List.forall_mem_cons.mpr ⟨hts _ (q_g5 (i := 220) rfl rfl), ?_⟩
  refine List.forall_mem_cons.mpr ⟨hts _ (q_g5 (i := 230) rfl rfl), ?_⟩
  refine List.forall_mem_cons.mpr ⟨hts _ (q_g5 (i := 232) rfl rfl), ?_⟩
  refine List.forall_mem_cons.mpr ⟨hts _ (q_g5 (i := 222) rfl rfl), ?_⟩
  refine List.forall_mem_cons.mpr ⟨hts _ (q_g6 (i := 14) rfl rfl), ?_⟩
  refine List.forall_mem_cons.mpr ⟨hts _ (q_g6 (i := 15) rfl rfl), ?_⟩
  refine List.forall_mem_cons.mpr ⟨hts _ (q_g6 (i := 17) rfl rfl), ?_⟩
  refine List.forall_mem_cons.mpr ⟨hts _ (q_g5 (i := 222) rfl rfl), ?_⟩
  refine List.forall_mem_cons.mpr ⟨hts _ (q_g6 (i := 5) rfl rfl), ?_⟩
  refine List.forall_mem_cons.mpr ⟨hts _ (q_g6 (i := 6) rfl rfl), ?_⟩
  refine List.forall_mem_cons.mpr ⟨hts _ (q_g6 (i := 7) rfl rfl), ?_⟩
  refine List.forall_mem_cons.mpr ⟨hts _ (q_g6 (i := 8) rfl rfl), ?_⟩
  refine List.forall_mem_cons.mpr ⟨va_Nw.use rfl (hD _ (List.mem_filter.mpr ⟨q_t5 (i := 208) rfl, rfl⟩)), ?_⟩
  refine List.forall_mem_cons.mpr ⟨hts _ (q_g6 (i := 8) rfl rfl), ?_⟩
  refine List.forall_mem_cons.mpr ⟨hts _ (q_g6 (i := 9) rfl rfl), ?_⟩
  refine List.forall_mem_cons.mpr ⟨hts _ (q_g6 (i := 10) rfl rfl), ?_⟩
  refine List.forall_mem_cons.mpr ⟨hts _ (q_g6 (i := 11) rfl rfl), ?_⟩
  refine List.forall_mem_cons.mpr ⟨va_Nw.use rfl (hD _ (List.mem_filter.mpr ⟨q_t5 (i := 210) rfl, rfl⟩)), ?_⟩
  refine List.forall_mem_cons.mpr ⟨hts _ (q_g6 (i := 11) rfl rfl), ?_⟩
  refine List.forall_mem_cons.mpr ⟨hts _ (q_g6 (i := 12) rfl rfl), ?_⟩
  refine List.forall_mem_cons.mpr ⟨hts _ (q_g6 (i := 13) rfl rfl), ?_⟩
  refine List.forall_mem_cons.mpr ⟨hts _ (q_g6 (i := 14) rfl rfl), ?_⟩
  refine List.forall_mem_cons.mpr ⟨va_Nw.use rfl (hD _ (List.mem_filter.mpr ⟨q_t5 (i := 212) rfl, rfl⟩)), ?_⟩
  refine List.forall_mem_cons.mpr ⟨hts _ (q_g6 (i := 4) rfl rfl), ?_⟩
  refine List.forall_mem_cons.mpr ⟨hts _ (q_g5 (i := 205) rfl rfl), ?_⟩
  refine List.forall_mem_cons.mpr ⟨va_Nw.use rfl (hD _ (List.mem_filter.mpr ⟨q_t5 (i := 206) rfl, rfl⟩)), ?_⟩
  refine List.forall_mem_cons.mpr ⟨hts _ (q_g5 (i := 213) rfl rfl), ?_⟩
  refine List.forall_mem_cons.mpr ⟨hts _ (q_g5 (i := 214) rfl rfl), ?_⟩
  refine List.forall_mem_cons.mpr ⟨hts _ (q_g5 (i := 215) rfl rfl), ?_⟩
  refine List.forall_mem_cons.mpr ⟨hts _ (q_g5 (i := 217) rfl rfl), ?_⟩
  refine List.forall_mem_cons.mpr ⟨hts _ (q_g5 (i := 219) rfl rfl), ?_⟩
  refine List.forall_mem_cons.mpr ⟨hts _ (q_g5 (i := 221) rfl rfl), ?_⟩
  refine List.forall_mem_cons.mpr ⟨hts _ (q_g5 (i := 225) rfl rfl), ?_⟩
  refine List.forall_mem_cons.mpr ⟨hts _ (q_g5 (i := 224) rfl rfl), ?_⟩
  refine List.forall_mem_cons.mpr ⟨hts _ (q_g5 (i := 223) rfl rfl), ?_⟩
  exact fun w h => absurd h List.not_mem_nil
theorem q_xgood : ∀ w ∈ Cond.classLink RX10 310 "java/util/NoSuchElementException" :: Cond.initialized "java/util/NoSuchElementException" :: q_xl, vx_ot w = true := List.all_eq_true.mp (by decide +kernel)
def q_QL (res : Option Int32) : Array Value → State → Outcome → State → Prop := fun _ st o t => ∃ x, res = some x ∧ o = .returned (some (.int x)) ∧ t.heap = st.heap
def q_XL (res : Option Int32) : String → State → State → Prop := fun E st t => res = none ∧ E = "java/util/NoSuchElementException" ∧ st.heap.size ≤ t.heap.size ∧ ∀ q : Nat, q < st.heap.size → t.heap[q]? = st.heap[q]?
def q_PcL (E : qV) (av : List Value) (g : qS) : Array Value → State → Prop := fun a U => a = av.toArray ∧ q_EV E U U.heap ∧ q_hw E g U.heap ∧ q_EX E U U.heap
theorem q_blindL {E : qV} {av : List Value} {g : qS} : FrameBlind (q_PcL E av g) := fun _ U _ _ h => ⟨h.1, q_EV.same (u := U) rfl h.2.1, h.2.2.1, q_EX.same (u := U) rfl h.2.2.2⟩
section QLD
variable {l : Launch} {E : qV} {p : Program} {e : Env} {R : Room} {s : State} {m : MethodId} {args : Array Value} {below : List Frame} {meth : Method} {c : Code} {H : Heap} {locs : List Loc} {cells slots : Nat} {Q : State → Prop} {cc : ByteArray} {own : String} {nL : Nat} {rt : Option FieldType} {pc : Nat} {ls : Array Slot} {rest st : List Value} {g : qS}
theorem q_iretL (C : q_C E p s m args meth c cc own nL (some .int)) (hd : decode cc pc = .ok (.ireturn, 1)) {x : Int32} {res : Option Int32} (hf : some (some x) = some res) : W p l e R s m args below meth c s.heap [] 0 0 (vx_MQ below (q_QL res) (q_XL res) args s 1 6 (fun _ => False)) (F0 m pc ls [.int x]) := by
  cases hf
  refine W.widen (k := 1) (n := 6) (Nat.zero_le _) (Nat.zero_le _) ?_
  exact vx_ret (W.iret C.1 C.2.1 C.2.2.2.2.2.2.1 (fun t ht _ => ⟨x, rfl, rfl, ht⟩) (fun q h => by cases h) hd C.2.2.2.2.2.1)
theorem q_throwL (C : q_C E p s m args meth c cc RX10 nL rt) (hlx : l.stackTraces = false) (hX : q_EX E s s.heap) (hT : ∀ x ∈ c.exceptionTable.toList, False) {lv : List (Nat × Value)} (hl : lv_has ls nL lv) (hR : (Nat.ble 6 R.frames && Nat.ble 90 R.locals && Nat.ble 1 R.cells && Nat.ble 6 R.slots) = true) (d0 : decode cc pc = .ok (.new 310, 3)) (d3 : decode cc (pc + 3) = .ok (.dup, 1)) (d4 : decode cc (pc + 4) = .ok (.ldc_w 312, 3)) (d7 : decode cc (pc + 7) = .ok (.invokespecial 314, 3)) (d10 : decode cc (pc + 10) = .ok (.athrow, 1)) {res : Option Int32} (hf : some none = some res) : W p l e R s m args below meth c s.heap [] 0 0 (vx_MQ below (q_QL res) (q_XL res) args s 1 6 (fun _ => False)) (F0 m pc ls []) := by
  cases hf
  simp only [Bool.and_eq_true] at hR
  obtain ⟨⟨⟨h1, h2⟩, h3⟩, h4⟩ := hR
  have h1 := Nat.le_of_ble_eq_true h1
  have h2 := Nat.le_of_ble_eq_true h2
  have h3 := Nat.le_of_ble_eq_true h3
  have h4 := Nat.le_of_ble_eq_true h4
  have hts := C.2.2.2.2.1
  exact q_throwX (own := RX10) (cls := "java/util/NoSuchElementException") (text := "no such thing is with the college") (names := q_xn) (ik := 310) (is := 312) (ic := 314) (sa := q_sa E 28) (A := q_A E) (ix := 13) (rx := prog_28_method_4_code) C.1 C.2.1 hlx (by decide +kernel) (by decide +kernel) (by decide +kernel) (by decide +kernel) C.2.2.2.1 (by decide) (by decide) (hts _ (q_g5 (i := 204) rfl rfl)) (hts _ (q_g1 (i := 23) rfl rfl)) (C.2.2.2.2.2.2.2.2.2.2.1 28 _ rfl) (q_xhat hts hX.1) q_xgood hX.2.1 hX.2.2 va_S.rf (hl.1.trans C.2.2.1.symm) d0 d3 d4 d7 d10 (fun x hx => (hT x hx).elim) (show 2 + 3 < R.frames by omega) (show 0 + (13 * (2 + 1) + 43) ≤ R.locals by omega) (by omega) (by omega) C.2.2.2.2.2.1 (fun t _ hz hk => ⟨rfl, rfl, hz, hk⟩) (fun z h => by cases h) (by omega) (by omega)
theorem q_callL {a : Array Value} {res : Option Int32} (hj : q_J E s g H locs) (hr : vx_Run p l e R s m args below meth c H locs cells slots 1 6 (F0 m pc ls st) rest (q_QL res a) (q_XL res) (fun _ => False))
    (kk : ∀ x, res = some x → W p l e R s m args below meth c H locs (cells + 1) (slots + 6) Q (F0 m (pc + 3) ls (.int x :: rest)))
    (kx : ∀ (H1 : Heap) (q9 : Nat) (ce : Cell), res = none → q_J E s g H1 locs → H1[q9]? = some ce → ce.vm = .none → s.vm.findClass "java/util/NoSuchElementException" = some ce.cls → vx_W p l e R s m args below meth c H1 locs (cells + 1) (slots + 6) Q (F0 m pc ls rest) q9) : W p l e R s m args below meth c H locs cells slots Q (F0 m pc ls st) := by
  intro T hT X
  rcases hr T hT X with ⟨v, st₀, t, T', L, h0, X', hL, e1, e2, ⟨x, hx, hv, hh⟩, sp⟩ | ⟨q, st₀, t, T', L, E9, ce, h0, X', hL, e1, e2, ⟨hx, rfl, hz, hk⟩, hce, hcv, hcl, sp⟩
  · cases hv
    obtain ⟨t2, a1, b1⟩ := kk x hx T' (by rw [e1, hh, h0]) (Stand.forget X' (fun q h => (hL q h).elim))
    exact ⟨t2, sp t2 a1, b1⟩
  · rw [h0] at hz hk
    obtain ⟨hw0, hS1, hS2, hS3⟩ := hj
    obtain ⟨t2, a1, b1⟩ := kx T'.heap q ce hx ⟨fun r x hr => ⟨(hw0 r x hr).1, (hw0 r x hr).2.kept (by rw [e1]; exact hk _ (hw0 r x hr).2.lt)⟩, by rw [e1]; omega, fun q h1 h2 => by rw [e1, hk q (Nat.lt_of_lt_of_le h1 hS1)]; exact hS2 q h1 h2, hS3⟩ (by rw [e1]; exact hce) hcv hcl T' rfl (Stand.forget X' (fun q h => (hL q h).elim))
    exact ⟨t2, sp.trans a1, b1⟩
end QLD
theorem q_ofL {l : Launch} {E : qV} {y : MethodName} {b : ByteArray} {n F L mc ms : Nat} {rt : Option FieldType} {av : List Value} {g : qS} {Qc : Array Value → State → Outcome → State → Prop} {XC : String → State → State → Prop} {free : Addr → Prop} (hy : plainName y.cls = true) (hen : Nat.ble (lg_sl av).length n = true) (body : ∀ (p : Program) (e : Env) (s : State) (m : MethodId) (args : Array Value) (below : List Frame) (meth : Method) (c : Code) (ls : Array Slot), q_C E p s m args meth c b y.cls n rt → q_hw E g s.heap → q_EX E s s.heap → (∀ x ∈ c.exceptionTable.toList, False) → lv_has ls n (lv_args 0 av) → W p l e (q_rmA F L mc ms) s m args below meth c s.heap [] 0 0 (vx_MQ below Qc XC args s mc ms free) (F0 m 0 ls [])) : vx_Met l y (Cond.code y b n rt :: q_GW) (q_rmA F L mc ms) (q_PcL E av g) Qc XC mc ms free := by
  refine vx_ofW (cc := b) (maxL := n) (ret := rt) hy rfl ?_
  intro p e s m args below meth c s₁ B hml hT hv
  obtain ⟨rfl, hEV, hw, hX⟩ := hv
  have hts := atoms_spec (ws := Cond.code y b n rt :: q_GW) B.pre
  have hl := lv_entry av (n := n) (Nat.le_of_ble_eq_true hen)
  rw [lg_entry_eq]
  generalize (lg_sl av ++ List.replicate (n - (lg_sl av).length) Slot.unset).toArray = ls at hl ⊢
  exact body p e s m _ below meth c ls ⟨B.exec, B.bytes, hml, findClass_of_methodNamed B.named, fun w hw => hts w (List.mem_cons_of_mem _ hw), B.notSynchronized, B.returns, hEV⟩ hw hX hT hl
def L_X10_led_4  (g : qS) : Nat → Nat → Int32 → Int32 → Option (Option Int32)
  | 0, _, _, _ => none
  | n + 1, x0, x2, x3 => (g_R g x0 9 8).bind fun v1 => (f_X3_count g v1 2).bind fun v2 => if v2 ≤ x3 then (some none) else ((g_R g x0 9 1).bind fun v3 => (f_X7_holder g v3 x3).bind fun v4 => if 0 ≤ v4 then (L_X10_led_4 g n x0 x2 (x3 + 1)) else (if x2 = 0 then (some (some x3)) else (L_X10_led_4 g n x0 (x2 + (-1)) (x3 + 1))))
set_option maxHeartbeats 4000000 in
set_option maxRecDepth 100000 in
theorem w_L_X10_led_4 {l : Launch} {E : qV} {p : Program} {e : Env} {s : State} {m : MethodId} {args : Array Value} {below : List Frame} {meth : Method} {c : Code}  {g : qS} {res : (Option Int32)} (C : q_C E p s m args meth c cX10_led RX10 4 (some .int)) (hlx : l.stackTraces = false) (hX : q_EX E s s.heap) (hT : ∀ x ∈ c.exceptionTable.toList, False)  : ∀ {n : Nat} {x0 : Nat} {x2 : Int32} {x3 : Int32} {ls : Array Slot}, q_J E s g s.heap [] → lv_has ls 4 [(0, .ref (q_ad E x0)), (2, .int x2), (3, .int x3)] → L_X10_led_4 g n x0 x2 x3 = some res → W p l e (q_rmA 8 200 1 6) s m args below meth c s.heap [] 0 0 (vx_MQ below (q_QL res) (q_XL res) args s 1 6 (fun _ => False)) (F0 m 4 ls []) := by
  have hx := C.1
  have hb := C.2.1
  intro n
  induction n with
  | zero =>
    intro x0 x2 x3 ls hj hl hf
    cases hf
  | succ n ih_ =>
    intro x0 x2 x3 ls hj hl hf
    have ih : ∀ (x0 : Nat) (x2 : Int32) (x3 : Int32) (ls : Array Slot), q_J E s g s.heap [] → lv_has ls 4 [(0, .ref (q_ad E x0)), (2, .int x2), (3, .int x3)] → L_X10_led_4 g n x0 x2 x3 = some res → W p l e (q_rmA 8 200 1 6) s m args below meth c s.heap [] 0 0 (vx_MQ below (q_QL res) (q_XL res) args s 1 6 (fun _ => False)) (F0 m 4 ls []) := fun x0 x2 x3 ls hj hl hf => ih_ hj hl hf
    unfold L_X10_led_4 at hf
    refine lv_iload_n hx hb dX10_led_4 rfl (lv_at hl 2 rfl) ?_
    refine lv_aload_n hx hb dX10_led_5 rfl (lv_at hl 0 rfl) ?_
    refine q_getR C hj lk_X10_65 dX10_led_6 hf (fun v1 hf => ?_)
    refine lv_iconst (v := 2) hx hb dX10_led_9 qi_2 ?_
    refine q_cVRI C hj cw_X10_99 (As := [.int 2]) (rest := [.int x3]) hf (fun v9 h9 => c_X3_count l E h9) rfl hl rfl rfl rfl dX10_led_10 ⟨Nat.zero_le _, Nat.zero_le _⟩ (fun v2 hf => ?_)
    refine q_icge C (tgt := 42) dX10_led_13 (by decide) hf (fun hf => ?_) (fun hf => ?_)
    · exact q_throwL C hlx hX hT hl rfl dX10_led_42 dX10_led_45 dX10_led_46 dX10_led_49 dX10_led_52 hf
    · refine lv_aload_n hx hb dX10_led_16 rfl (lv_at hl 0 rfl) ?_
      refine q_getR C hj lk_X10_19 dX10_led_17 hf (fun v3 hf => ?_)
      refine lv_iload_n hx hb dX10_led_20 rfl (lv_at hl 2 rfl) ?_
      refine q_cVRI C hj cw_X10_125 (As := [.int x3]) (rest := []) hf (fun v9 h9 => c_X7_holder l E h9) rfl hl rfl rfl rfl dX10_led_21 ⟨Nat.zero_le _, Nat.zero_le _⟩ (fun v4 hf => ?_)
      refine q_ifge C (tgt := 36) dX10_led_24 (by decide) hf (fun hf => ?_) (fun hf => ?_)
      · refine lv_iinc (v := x3 + 1) (lv' := [(3, .int (x3 + 1)), (0, .ref (q_ad E x0)), (2, .int x2)]) hx hb dX10_led_36 hl (k := 2) rfl (by rw [qi_1]) (by decide) rfl (fun ls hl => ?_)
        refine lv_goto (tgt := 4) hx hb dX10_led_39 (by decide) ?_
        exact ih _ _ _  ls hj (lv_sub hl [1, 2, 0] rfl) hf
      · refine lv_iload_n hx hb dX10_led_27 rfl (lv_at hl 1 rfl) ?_
        refine q_ifne C (tgt := 33) dX10_led_28 (by decide) hf (fun hf => ?_) (fun hf => ?_)
        · refine lv_iinc (v := x2 + (-1)) (lv' := [(2, .int (x2 + (-1))), (0, .ref (q_ad E x0)), (3, .int x3)]) hx hb dX10_led_33 hl (k := 1) rfl (by rw [qi_m1]) (by decide) rfl (fun ls hl => ?_)
          refine lv_iinc (v := x3 + 1) (lv' := [(3, .int (x3 + 1)), (2, .int (x2 + (-1))), (0, .ref (q_ad E x0))]) hx hb dX10_led_36 hl (k := 2) rfl (by rw [qi_1]) (by decide) rfl (fun ls hl => ?_)
          refine lv_goto (tgt := 4) hx hb dX10_led_39 (by decide) ?_
          exact ih _ _ _  ls hj (lv_sub hl [2, 1, 0] rfl) hf
        · refine lv_iload_n hx hb dX10_led_31 rfl (lv_at hl 2 rfl) ?_
          exact q_iretL C dX10_led_32 hf
def f_X10_led (g : qS) (a0 : Nat) (a1 : Int32) : Option (Option Int32) := (g_C g a0 9).bind fun _ => L_X10_led_4 g 1000000000 a0 a1 0
set_option maxHeartbeats 4000000 in
set_option maxRecDepth 100000 in
theorem c_X10_led (l : Launch) (hlx : l.stackTraces = false) (E : qV) {g : qS} {a0 : Nat} {a1 : Int32} {res : Option Int32} (hf : f_X10_led g a0 a1 = some res) : vx_Met l yX10_led (Cond.code yX10_led cX10_led 4 (some .int) :: q_GW) (q_rmA 8 200 1 6) (q_PcL E [.ref (q_ad E a0), .int a1] g) (q_QL res) (q_XL res) 1 6 (fun _ => False) ∧ ∃ fs, g a0 = some (.inr (9, fs)) := by
  unfold f_X10_led at hf
  obtain ⟨u9, hu9, hf⟩ := q_ob hf
  refine ⟨q_ofL (by decide) rfl ?_, g_C_sp hu9⟩
  intro p e s m args below meth c ls C hw hX hT hl
  have hj : q_J E s g s.heap [] := ⟨hw, va_S.rf⟩
  have hx := C.1
  have hb := C.2.1
  have C : q_C E p s m args meth c cX10_led RX10 4 (some .int) := C
  have hl : lv_has ls 4 [(0, .ref (q_ad E a0)), (1, .int a1)] := hl
  refine lv_iload_n hx hb dX10_led_0 rfl (lv_at hl 1 rfl) ?_
  refine lv_istore_n (lv' := [(2, .int a1), (0, .ref (q_ad E a0)), (1, .int a1)]) hx hb dX10_led_1 rfl hl (by decide) rfl (fun ls hl => ?_)
  refine lv_iconst (v := 0) hx hb dX10_led_2 qi_0 ?_
  refine lv_istore_n (lv' := [(3, .int 0), (2, .int a1), (0, .ref (q_ad E a0)), (1, .int a1)]) hx hb dX10_led_3 rfl hl (by decide) rfl (fun ls hl => ?_)
  refine w_L_X10_led_4 C hlx hX hT  hj (lv_sub hl [2, 1, 0] rfl) hf
def f_L_led (g : qS) (a0 : Nat) (a1 : Int32) (a2 : Nat) : Option (Int32 × qS) := (f_X10_led g a0 a1).bind fun r => match r with
  | some x => (s_L g a2 0 x.toInt64).bind fun g1 => some (0, g1)
  | none => some (1, g)
theorem cw_L_7 : q_cw RL 7 9 yX10_led cX10_led 4 (some .int) 1 := ⟨q_g5 (i := 200) rfl rfl, q_g5 (i := 201) rfl rfl, q_g5 (i := 202) rfl rfl, q_g1 (i := 1) rfl rfl, q_g5 (i := 203) rfl rfl, ⟨by decide +kernel, by decide +kernel⟩, by decide +kernel, _, _, rfl⟩
set_option maxHeartbeats 4000000 in
set_option maxRecDepth 100000 in
theorem c_L_led (l : Launch) (hlx : l.stackTraces = false) (E : qV) {g : qS} {a0 : Nat} {a1 : Int32} {a2 : Nat} {res : Int32 × qS} (hf : f_L_led g a0 a1 a2 = some res) : Met l yL_led (Cond.codeWith yL_led cL_led 4 (some .int) [(0, 9, 12, 13)] :: q_GW) (q_rmA 9 230 1 6) (q_PcL E [.ref (q_ad E a0), .int a1, .ref (q_ad E a2)] g) (q_QC E (some (.int res.1)) res.2) 1 6 (q_A E) := by
  unfold f_L_led at hf
  obtain ⟨r, hr, hf⟩ := q_ob hf
  obtain ⟨hM, fs, hg⟩ := c_X10_led l hlx E hr
  refine va_MetW (cc := cL_led) (maxL := 4) (ret := (some .int)) (hh := [(0, 9, 12, 13)]) (by decide) rfl ?_
  intro p e s m args below meth c s₁ B hml hv
  obtain ⟨rfl, hEV, hw, hX⟩ := hv
  have hts0 := atoms_spec (ws := Cond.codeWith yL_led cL_led 4 (some .int) [(0, 9, 12, 13)] :: q_GW) B.pre
  have htb := vx_table (x := yL_led) B (hts0 _ List.mem_cons_self)
  have hl := lv_entry [.ref (q_ad E a0), .int a1, .ref (q_ad E a2)] (n := 4) (Nat.le_of_ble_eq_true rfl)
  rw [lg_entry_eq]
  generalize (lg_sl [.ref (q_ad E a0), .int a1, .ref (q_ad E a2)] ++ List.replicate (4 - (lg_sl [.ref (q_ad E a0), .int a1, .ref (q_ad E a2)]).length) Slot.unset).toArray = ls at hl ⊢
  have hl : lv_has ls 4 [(0, .ref (q_ad E a0)), (1, .int a1), (2, .ref (q_ad E a2))] := hl
  have hts : ∀ w ∈ q_GW, w.before _ s = true := fun w hw => hts0 w (List.mem_cons_of_mem _ hw)
  generalize ([.ref (q_ad E a0), .int a1, .ref (q_ad E a2)] : List Value).toArray = args9 at *
  have C : q_C E p s m args9 meth c cL_led RL 4 (some .int) := ⟨B.exec, B.bytes, hml, findClass_of_methodNamed B.named, hts, B.notSynchronized, B.returns, hEV⟩
  have hj : q_J E s g s.heap [] := ⟨hw, va_S.rf⟩
  have hx := C.1
  have hb := C.2.1
  show W p l e (q_rmA 9 230 1 6) s m args9 below meth c s.heap [] 0 0 _ (F0 m 0 ls [])
  refine lv_aload_n hx hb dL_led_0 rfl (lv_at hl 2 rfl) ?_
  refine lv_iconst (v := 0) hx hb dL_led_1 qi_0 ?_
  refine lv_aload_n hx hb dL_led_2 rfl (lv_at hl 0 rfl) ?_
  refine lv_iload_n hx hb dL_led_3 rfl (lv_at hl 1 rfl) ?_
  obtain ⟨h1, h2, h3, h4, h5, h6, h7, T9, N9, h8⟩ := cw_L_7
  refine q_callL (rest := [.int 0, .ref (q_ad E a2)]) hj (vx_runV (cc := cL_led) (nL := 4) (Ts := q_GW) (C := yX10_led.cls) (As := [.int a1]) ⟨C.1, C.2.1, C.2.2.1, C.2.2.2.1, hts⟩ hM ⟨q_cbA C h1 h4 h5 h6 h7 rfl, hts _ h2, hts _ h3⟩ ⟨q_blindL, q_recv C hj h8 hg, fun U hU hW => ⟨rfl, by rw [hU]; exact hEV.warm hW, by rw [hU]; exact hw, by rw [hU]; exact hX.warm hW⟩⟩ rfl rfl hl.1 rfl (lv_room (Nat.le_of_ble_eq_true rfl)) dL_led_4 ⟨Nat.le_refl _, Nat.le_refl _⟩) (fun x hx9 => ?_) (fun H1 q9 ce hn hj hce hcv hcl => ?_)
  · subst hx9
    refine lv_i2l hx hb dL_led_7 rfl ?_
    refine q_astL C hj dL_led_8 hf (fun g1 H locs hj hf => ?_)
    refine lv_goto (tgt := 15) hx hb dL_led_9 (by decide) ?_
    refine lv_iconst (v := 0) hx hb dL_led_15 qi_0 ?_
    exact q_iretC C hj dL_led_16 hf
  · subst hn
    refine vx_catch (own := RL) (name := "java/util/NoSuchElementException") (E := "java/util/NoSuchElementException") C.2.2.2.1 [] ⟨0, 9, 12, 13⟩ [] htb (fun z h => by cases h) (by decide) (by decide) (hts _ (q_g5 (i := 199) rfl rfl)) (va_Nw.use rfl (hX.1 _ (List.mem_filter.mpr ⟨q_t5 (i := 206) rfl, rfl⟩))) hce hcv hcl ?_
    refine lv_astore_n (lv' := [(3, .ref q9), (0, .ref (q_ad E a0)), (1, .int a1), (2, .ref (q_ad E a2))]) hx hb dL_led_12 rfl hl (by decide) rfl (fun ls hl => ?_)
    refine lv_iconst (v := 1) hx hb dL_led_13 qi_1 ?_
    exact q_iretC C hj dL_led_14 hf
