-- A thrown object of a class whose constructor hands its text on by any entry of its pool (launches without stack traces):
-- its constructor runs to its end, and athrow leaves the method. Own rows; what they name is the library's.
/-- a field that a class lays: its type there, and by whom it is declared -/
def q_xF (s : State) (cX : ClassId) (kX : Class) (f : Field) : Prop := kX.instanceTypes[f.slot]? = some f.type ∧ ∃ d, Jmm.declares? s.vm f.slot (cX + 1) cX = some d ∧ d.2.name = f.name
section QXC
variable {l : Launch} {e : Env} {s : State} {args : Array Value} {cX : ClassId} {kX : Class}
theorem q_xapart {f g : Field} (hf : q_xF s cX kX f) (hg : q_xF s cX kX g) (hne : f.name ≠ g.name) : f.slot ≠ g.slot := by
  rcases hf with ⟨_, d, h1, h2⟩
  rcases hg with ⟨_, d', h3, h4⟩
  exact Cond.laysApart h1 h3 h2 h4 hne
theorem q_xnull {f : Field} {n : String} (hf : q_xF s cX kX f) (ht : f.type = .object n) : (freshCell cX kX).slots[f.slot]? = some .null := by
  have h := fresh_default (c := cX) hf.1
  rw [ht] at h
  exact h
theorem q_xsel {X : String} {y : MethodName} {mm : MethodId} (hA : l.admits e) (hX : s.vm.findClass X = some cX) (hm : s.methodNamed? y = some mm) (hy : y.cls ≠ "java/lang/invoke/MethodHandle" ∧ y.cls ≠ "java/lang/invoke/VarHandle") (hw : (Cond.selects X y y).before args s = true) : selectMethod e.platform s.vm cX mm = .method mm := by
  rcases Cond.selects_spec hw with ⟨c1, m1, m2, h1, h2, h3, h4, _⟩
  have e1 : c1 = cX := by rw [hX] at h1; exact (Option.some.inj h1).symm
  have e2 : m1 = mm := by rw [State.methodFound?_of_named hm hy] at h2; exact (Option.some.inj h2).symm
  have e3 : m2 = mm := by rw [hm] at h3; exact (Option.some.inj h3).symm
  rw [e1, e2, e3] at h4
  exact (Launch.admits_selectMethod hA s.vm cX mm).trans h4
/-- the road beside the native: what the constructor has written so far lies beside the field 'backtrace' -/
theorem q_xskip {T : ThrowableC} {B : BackC} {a : Addr} {u0 sen : RefV} {t : ThreadId} {n : String} (hB : B.Links T e.platform s) (hf : q_xF s cX kX B.fBack) (ht : B.fBack.type = .object n) (hC : q_xF s cX kX T.fCause) (hS : q_xF s cX kX T.fStack) (hP : q_xF s cX kX T.fSupp) (nC : T.fCause.name ≠ B.fBack.name) (nS : T.fStack.name ≠ B.fBack.name) (nP : T.fSupp.name ≠ B.fBack.name) : SkipFacts T e.platform s (fun u => u) u0 ((preparedCellV T.toThrowableT (freshCell cX kX) a u0 sen).withEntry t) := by
  refine ⟨B, hB, ?_, fun _ _ => rfl⟩
  show ((((freshCell cX kX).slots.setIfInBounds T.fCause.slot (.ref a)).setIfInBounds T.fStack.slot u0.v).setIfInBounds T.fSupp.slot sen.v)[B.fBack.slot]? = some .null
  rw [Array.getElem?_setIfInBounds_ne (q_xapart hP hf nP), Array.getElem?_setIfInBounds_ne (q_xapart hS hf nS), Array.getElem?_setIfInBounds_ne (q_xapart hC hf nC)]
  exact q_xnull hf ht
end QXC
set_option maxHeartbeats 4000000 in
theorem q_ctorX {p : Program} {l : Launch} {e : Env} {R : Room} {s : State} {m : MethodId} {args : Array Value} {below : List Frame} {meth : Method} {c : Code} {W : State} {cells slots : Nat} (X : Stand p l e R s m args below meth c W [] cells slots) (hexec : p.tables.exec = Jvm.exec) (htr : e.platform.stackTraces = false)
    {own cls : String} {names : List String} {ic ix : Nat} {rx : ByteArray} (x0 : decode rx 0 = .ok (.aload_n 0, 1)) (x1 : decode rx 1 = .ok (.aload_n 1, 1)) (x2 : decode rx 2 = .ok (.invokespecial ix, 3)) (x5 : decode rx 5 = .ok (.return_, 1))
    (hown : s.vm.findClass own = some m.cls) (hcls : Bundle.fit cls = true) (hnames : ∀ n ∈ names, Bundle.fit n = true) (hw : ∀ w ∈ Bundle.ownAtomsX own ic cls ix rx names, w.before args s = true)
    {q : Addr} {cX : ClassId} {kX : Class} (hX : s.vm.findClass cls = some cX) (hkX : s.vm.classes[cX]? = some kX) (hq : W.heap[q]? = some (freshCell cX kX)) (hnew : s.heap.size ≤ q)
    {sa pc : Nat} {ls : Array Slot} {rest : List Value} (hls : ls.size = c.maxLocals) (dI : decode c.code pc = .ok (.invokespecial ic, 3)) (dT : decode c.code (pc + 3) = .ok (.athrow, 1)) (hno : ∀ x ∈ c.exceptionTable.toList, covers x (pc + 3) = false)
    (hF : names.length + 3 < R.frames) (hL : (rest.map fun v => v.category).sum + (13 * (names.length + 1) + 43) ≤ R.locals) (hlocks : meth.locks = false) :
    ∃ U : State, Steps p.tables e below (W.setTop (F0 m pc ls (.ref sa :: .ref q :: .ref q :: rest))) U ∧ U.status = .running ∧ Ended U below (.threw q) ∧ s.WarmedH U.vm ∧ s.sameButNew ({ U with vm := s.vm } : State) [] cells slots ∧ ∃ ce, U.heap[q]? = some ce ∧ s.vm.findClass cls = some ce.cls ∧ ce.vm = .none := by
  have pM : e.platform.magicAccessors = ({} : Platform).magicAccessors := by rw [X.admits.platform]
  have pO : e.platform.frameOwnsMonitors = true := by rw [X.admits.platform]
  have pN : e.platform.finalization = false := by rw [X.admits.platform]
  -- the words, by the lists that they come from
  have wT : ∀ w ∈ Bundle.throwableAtoms, w.before args s = true := fun w z => hw w (List.mem_append_left _ (List.mem_append_left _ (List.mem_append_left _ z)))
  have wS : ∀ w ∈ Bundle.throwableSAtoms, w.before args s = true := fun w z => hw w (List.mem_append_left _ (List.mem_append_left _ (List.mem_append_right _ z)))
  have wC : ∀ w ∈ Bundle.chainSAtomsX cls ix rx names, w.before args s = true := fun w z => hw w (List.mem_append_left _ (List.mem_append_right _ z))
  have wI : (Cond.instanceMethod (Bundle.initS cls)).before args s = true := wC _ (by cases names <;> simp [Bundle.chainSAtomsX, Bundle.passSAtoms])
  have wB : (Cond.code (Bundle.initS cls) rx 2 none).before args s = true := wC _ (by cases names <;> simp [Bundle.chainSAtomsX, Bundle.passSAtoms])
  -- Throwable, its constructor, and the constructors on the way to it
  rcases ThrowableC.of_atoms pO pN pM wT with ⟨T, _, LT, _, tie⟩
  rcases Init0T.ofS_atoms pM LT tie wS with ⟨Z, M, LZ, LM, hZ⟩
  rcases Bundle.chainSX pM hZ x0 x1 x2 x5 names cls hcls hnames wC with ⟨P, Ps, nPs, LP, LPs, hP, sup, onw⟩
  have ord : kX.kind = .ordinary := by
    rcases Cond.instantiable_spec (hw (.instantiable cls 6) (by simp [Bundle.ownAtomsX])) with ⟨c1, k1, h1, h2, h3, _⟩
    rw [hX] at h1
    rw [← Option.some.inj h1, hkX] at h2
    rw [Option.some.inj h2]
    exact h3
  have sel0 := q_xsel X.admits hX tie.fill0 (by decide) (hw (.selects cls Bundle.tFill0 Bundle.tFill0) (by simp [Bundle.ownAtomsX]))
  have selF := q_xsel X.admits hX tie.fill (by decide) (hw (.selects cls Bundle.tFill Bundle.tFill) (by simp [Bundle.ownAtomsX]))
  -- Throwable's fields in an object of the class
  have laid : ∀ {nm d : String} {c1 i1 : Nat} {k1 : Class} {f : Field}, s.fieldFound? Bundle.tN nm d = some (c1, k1, i1, f) → (Cond.lays cls Bundle.tN nm d).before args s = true → q_xF s cX kX f := fun h1 h2 => Cond.laysAt hX hkX h1 h2
  rcases tie.msg with ⟨iM, foundM⟩
  have fC := laid tie.cause (hw _ (by simp [Bundle.ownAtomsX]))
  have fS := laid tie.stack (hw _ (by simp [Bundle.ownAtomsX]))
  have fP := laid tie.supp (hw _ (by simp [Bundle.ownAtomsX]))
  have fM := laid foundM (hw _ (by simp [Bundle.ownAtomsX]))
  rcases Cond.ownField (t := .object "java/lang/Object") tie.found LT.cls (by decide +kernel) (hw (.fieldLink Bundle.tN 198 Bundle.tN "backtrace" "Ljava/lang/Object;") (by simp [Bundle.ownAtomsX])) (hw (.lays Bundle.tN Bundle.tN "backtrace" "Ljava/lang/Object;") (by simp [Bundle.ownAtomsX])) e.platform pM with ⟨ci, bi, fb, b1, b2, b3, b4, _, nB, tB, foundB⟩
  have fB := laid foundB (hw _ (by simp [Bundle.ownAtomsX]))
  -- Throwable's statics, which nothing has written
  rcases tie.statics with ⟨z, hz, stz⟩
  rcases Cond.staticRefV tie.unassigned LT.unassignedStatic LT.statics hz stz (hw (.isRef (.static Bundle.tN "UNASSIGNED_STACK" Bundle.steD)) (by simp [Bundle.ownAtomsX])) with ⟨u0, hu0⟩
  rcases Cond.staticRefV tie.sentinel LT.sentinelStatic LT.statics hz stz (hw (.isRef (.static Bundle.tN "SUPPRESSED_SENTINEL" Bundle.listD)) (by simp [Bundle.ownAtomsX])) with ⟨u1, hu1⟩
  rcases X.same.2.2.2.2.2 T.aS z hz with ⟨z1, hz1, ez, _, kept⟩
  have known : z1.vm ≠ .unknown := by
    intro hu
    have hv : z1.vm = z.vm := by
      rw [ez]
    rw [← hv, hu] at stz
    cases stz
  have away : T.aS ≠ q := by
    intro hh
    have h1 := (Array.getElem?_eq_some_iff.mp hz).1
    rw [hh] at h1
    exact absurd h1 (Nat.not_lt.mpr hnew)
  -- in, through the constructors, and out by athrow
  rcases Steps.initColdS (below := below) X.here hexec X.warmed pM hown rfl rfl (Bundle.fit_spec hcls).2 (hw (.methodLink own ic (Bundle.initS cls)) (by simp [Bundle.ownAtomsX])) wI wB (f := F0 m pc ls (.ref sa :: .ref q :: .ref q :: rest)) rfl rfl dI with ⟨mm, _, _, _, vm1, n1, _, _, _, _, _, _, _, W1, run1⟩
  have em : mm = P.m := Option.some.inj (n1.symm.trans hP)
  rcases (X.noted W1).ctorMessageOffV hexec (g := F0 m pc ls (.ref q :: rest)) rfl hls T LT Z LZ M LM (P :: Ps) (List.forall_mem_cons.mpr ⟨LP, LPs⟩) ⟨sup, onw⟩ (u0 := u0) (sen := u1) (self := q) (msg := .ref sa) rfl (cell := freshCell cX kX) (cellS := z1) hq (fun _ => nofun) nofun rfl rfl sel0 selF hz1 away known ((kept _ List.not_mem_nil).trans hu0) ((kept _ List.not_mem_nil).trans hu1)
    (Takes.of_laid hkX ord fC.1 (by rw [tie.causeType]; rfl)) (Takes.of_laid hkX ord fS.1 (by rw [tie.stackType]; exact fits_refV_array _ u0)) (Takes.of_laid hkX ord fP.1 (by rw [tie.suppType]; exact fits_refV_object _ u1)) (Takes.of_laid hkX ord fM.1 (by rw [tie.msgType]; rfl)) tie.objLocals
    (q_xskip (B := ⟨ci, bi, fb⟩) ⟨b1, b2, b3, b4⟩ fB tB fC fS fP (by rw [tie.causeName, nB]; decide) (by rw [tie.stackName, nB]; decide) (by rw [tie.suppName, nB]; decide)) htr [] dI (by rw [List.length_cons, nPs]; omega) (by rw [List.length_cons, nPs]; show 2 * 0 + (1 + (rest.map fun v => v.category).sum) + _ ≤ _; omega) with ⟨vm2, X2, run2⟩
  rcases X2.athrowLeaves hexec (g := F0 m (pc + 3) ls (.ref q :: rest)) rfl rfl rfl hno (a := q) (rest := rest) rfl dT hlocks with ⟨run3, st3, end3, W3, s1, s2, s3, s4, s5, s6⟩
  have hlt : q < ((W.setVm vm1).setVm vm2).heap.size := (Array.getElem?_eq_some_iff.mp hq).1
  refine ⟨_, run1 _ (fun acts => ?_), st3, end3, W3, ⟨s1, s2, s3, s4, s5, fun y cy hy => ?_⟩, _, heapAt_setCell_self (s := (W.setVm vm1).setVm vm2) _ hlt, hX, rfl⟩
  · rw [em, doInvoke_state]
    exact run2 _ run3
  · rcases s6 y cy hy with ⟨c1, h1, h2, h3, h4⟩
    refine ⟨c1, h1, h2, h3, fun i _ => h4 i (fun hm => ?_)⟩
    have hy2 : y < s.heap.size := (Array.getElem?_eq_some_iff.mp hy).1
    have hyq : y = q := by
      simp only [List.nil_append, List.mem_cons, Loc.mk.injEq, List.not_mem_nil, or_false] at hm
      rcases hm with h | h | h | h | h <;> exact h.1
    exact absurd hy2 (by rw [hyq]; exact Nat.not_lt.mpr hnew)
