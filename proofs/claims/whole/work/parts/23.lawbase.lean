/-! THE CLAIM OUT OF ONE WALK OF THE LAW'S BODY. Your part is whole_start (and what it stands on); all else here is the same for every law, but numbers. -/
def R_law : String := "SecondPaperLaw"
def lw_P (b : Addr) (xs : List Int32) (args : Array Value) (s : State) : Prop := args = #[.ref b] ∧ s.IntsAt b xs ∧ xs.length ≤ 3072 ∧ (Jvm.Cond.and given_1 narrow_1).before args s = true
def lw_Q (_ : Array Value) (s : State) (o : Outcome) (t : State) : Prop := o = .returned (some (.int 1)) ∧ Framed s o t [] 601024 7293034
def lw_Z (below : List Frame) (a : Array Value) (s : State) : State → Prop := fun t => ∃ o, t.status = .running ∧ Ended t below o ∧ lw_Q a s o t
/-- the law's own end, with 1 on the stack, nothing written that was there before, its room as the claim has it -/
theorem lw_ret {p : Program} {l : Launch} {e : Env} {s : State} {m : MethodId} {below : List Frame} {meth : Method} {c : Code} {b : Nat} (hx : p.tables.exec = Jvm.exec) (hb : c.code = code) (hr : meth.sig.returnType = ret) (hlocks : meth.locks = false) {pc : Nat} {H : Heap} {ls : Array Slot} (hdg : decode code pc = .ok (.ireturn, 1)) : W p l e room_1 s m #[Value.ref b] below meth c H [] 601024 7293034 (lw_Z below #[Value.ref b] s) (F0 m pc ls [.int 1]) := by
  intro T hT X
  obtain ⟨fs, hret, hrun, hended, hW, hframe⟩ := X.leave (v := some (.int 1)) (hlocks := hlocks) (fun h => by rw [hr] at h; cases h)
  have hmeth' : T.vm.method? m = some meth := X.method'
  refine ⟨T.setFrames fs, ?_, .returned (some (.int 1)), hrun, hended, rfl, ⟨_, rfl⟩, hW, hframe⟩
  jvm_step X.here [X.here.top, hx, hb, hdg, hmeth', hr, ret, narrow_b1]
  (try refine ⟨rfl, ?_⟩); (try refine ⟨rfl, ?_⟩)
  first | (intro acts; rw [hret _ acts rfl rfl rfl]) | rw [hret _ _ rfl rfl rfl]
  exact Steps.refl _
/-- what holds at the law's entry: the machine, the code, the tables' words (any of lw_tbl by 'hts w (by decide +kernel)'), the script of L ints xs at the cell b, what the Statement gives of the start (any of its parts by flat_of_before) -/
def lw_At (p : Program) (s : State) (m : MethodId) (meth : Method) (c : Code) (b L : Nat) (xs : Nat → Int32) : Prop :=
  p.tables.exec = Jvm.exec ∧ c.code = code ∧ meth.sig.returnType = ret ∧ c.maxLocals = 7 ∧ s.vm.findClass R_law = some m.cls ∧ (∀ w ∈ lw_tbl, w.before #[Value.ref b] s = true) ∧ va_X b L xs s s.heap ∧ b < s.heap.size ∧ meth.locks = false ∧ (Jvm.Cond.and given_1 narrow_1).before #[Value.ref b] s = true

/-! ===== the law's world: roles 0 .. n - 1 lie behind the start's heap ===== -/
abbrev q_E0 (D : va_G) (cy : Nat → ClassId) (sa sv : Nat → Nat) (s : State) : qV := (D, cy, (fun r => r), (fun r => s.heap.size ≤ r), sa, sv)
abbrev q_En (D : va_G) (cy : Nat → ClassId) (sa sv : Nat → Nat) (ad : Nat → Nat) (n : Nat) : qV := (D, cy, ad, (fun r => r < n), sa, sv)
def q_WF (s : State) (ad : Nat → Nat) (n : Nat) : Prop := (∀ r q : Nat, r < n → q < n → ad r = ad q → r = q) ∧ ∀ r : Nat, r < n → s.heap.size ≤ ad r
/-- the store's roles are those below n, and its references too -/
def q_dom (g : qS) (n : Nat) : Prop := (∀ r x, g r = some x → r < n) ∧ (∀ r, r < n → ∃ x, g r = some x) ∧ ∀ r ci fs, g r = some (.inr (ci, fs)) → ∀ q, Value.ref q ∈ fs → q < n
theorem q_EV_of {D : va_G} {cy : Nat → ClassId} {sa sv ad : Nat → Nat} {n : Nat} {s : State} (h : q_EV (q_E0 D cy sa sv s) s s.heap) (hw : q_WF s ad n) : q_EV (q_En D cy sa sv ad n) s s.heap := by
  have hsub : ∀ q, q_A (q_En D cy sa sv ad n) q → q_A (q_E0 D cy sa sv s) q := fun q ⟨r, h1, h2⟩ => ⟨q, by rw [← h2]; exact hw.2 r h1, rfl⟩
  exact ⟨h.1, fun a b h1 h2 h3 => hw.1 a b h1 h2 h3, h.2.2.1, h.2.2.2.1, fun i hi => ⟨(h.2.2.2.2.1 i hi).1.narrow hsub, (h.2.2.2.2.1 i hi).2.1.narrow hsub, (h.2.2.2.2.1 i hi).2.2.1.narrow hsub, (h.2.2.2.2.1 i hi).2.2.2.narrow hsub⟩, h.2.2.2.2.2.1.narrow hsub, h.2.2.2.2.2.2.narrow hsub⟩
theorem q_EX_of {D : va_G} {cy : Nat → ClassId} {sa sv ad : Nat → Nat} {n : Nat} {s : State} (h : q_EX (q_E0 D cy sa sv s) s s.heap) (hw : q_WF s ad n) : q_EX (q_En D cy sa sv ad n) s s.heap := by
  have hsub : ∀ q, q_A (q_En D cy sa sv ad n) q → q_A (q_E0 D cy sa sv s) q := fun q ⟨r, h1, h2⟩ => ⟨q, by rw [← h2]; exact hw.2 r h1, rfl⟩
  exact ⟨h.1, h.2.1.narrow hsub, h.2.2.narrow hsub⟩
theorem q_ce_eq {D : va_G} {cy : Nat → ClassId} {sa sv ad ad2 : Nat → Nat} {n n1 n2 : Nat} {g : qS} (hd : q_dom g n) (heq : ∀ r, r < n → ad r = ad2 r) {r : Nat} {x : qE} (hr : g r = some x) : q_ce (q_En D cy sa sv ad n1) x = q_ce (q_En D cy sa sv ad2 n2) x := by
  cases x with
  | inl a => rfl
  | inr o =>
    obtain ⟨ci, fs⟩ := o
    have h := hd.2.2 r ci fs hr
    show (Sum.inr (ci, fs.map _) : va_E) = Sum.inr (ci, fs.map _)
    congr 2
    apply List.map_congr_left
    intro v hv
    cases v with
    | ref q => exact congrArg Value.ref (heq q (h q hv))
    | _ => rfl
theorem q_hw_move {D : va_G} {cy : Nat → ClassId} {sa sv ad ad2 : Nat → Nat} {n n1 n2 : Nat} {g : qS} {H : Heap} (h : q_hw (q_En D cy sa sv ad n1) g H) (hd : q_dom g n) (hn : n ≤ n2) (heq : ∀ r, r < n → ad r = ad2 r) : q_hw (q_En D cy sa sv ad2 n2) g H := by
  intro r x hr
  have hlt := hd.1 r x hr
  refine ⟨Nat.lt_of_lt_of_le hlt hn, ?_⟩
  have h1 := (h r x hr).2
  rw [q_ce_eq (n2 := n2) (ad2 := ad2) hd heq hr] at h1
  show va_at D vwCl (ad2 r, _) H
  rw [← heq r hlt]
  exact h1
theorem q_hw_lt {E : qV} {g : qS} {H : Heap} (h : q_hw E g H) {r : Nat} {x : qE} (hr : g r = some x) : q_ad E r < H.size := (h r x hr).2.lt
/-- an arena of k roles at the heap's end -/
def q_adx (ad : Nat → Nat) (n sz : Nat) : Nat → Nat := fun r => if r < n then ad r else sz + (r - n)
theorem q_adx_lt {ad : Nat → Nat} {n sz r : Nat} (h : r < n) : ad r = q_adx ad n sz r := (if_pos h).symm
theorem q_WF_ext {D : va_G} {cy : Nat → ClassId} {sa sv : Nat → Nat} {s : State} {ad : Nat → Nat} {n k : Nat} {g : qS} {H : Heap} (hw : q_WF s ad n) (h : q_hw (q_En D cy sa sv ad n) g H) (hd : q_dom g n) (hH : s.heap.size ≤ H.size) : q_WF s (q_adx ad n H.size) (n + k) := by
  have hlt : ∀ r, r < n → ad r < H.size := fun r hr => by
    obtain ⟨x, hx⟩ := hd.2.1 r hr
    exact q_hw_lt h hx
  refine ⟨fun r q hr hq e => ?_, fun r hr => ?_⟩
  · unfold q_adx at e
    by_cases h1 : r < n <;> by_cases h2 : q < n
    · rw [if_pos h1, if_pos h2] at e
      exact hw.1 r q h1 h2 e
    · rw [if_pos h1, if_neg h2] at e
      have := hlt r h1
      omega
    · rw [if_neg h1, if_pos h2] at e
      have := hlt q h2
      omega
    · rw [if_neg h1, if_neg h2] at e
      omega
  · unfold q_adx
    by_cases h1 : r < n
    · rw [if_pos h1]; exact hw.2 r h1
    · rw [if_neg h1]; omega
theorem q_ar_ext {D : va_G} {cy : Nat → ClassId} {sa sv ad : Nat → Nat} {n k sz : Nat} : q_ar (q_En D cy sa sv (q_adx ad n sz) (n + k)) n k sz := fun i hi => ⟨by show n + i < n + k; omega, by show (if n + i < n then _ else _) = _; rw [if_neg (by omega)]; omega⟩
/-- what stands all through the law -/
def q_LC (l : Launch) (p : Program) (s : State) (m : MethodId) (meth : Method) (c : Code) (b L : Nat) (xs : Nat → Int32) (D : va_G) (cy : Nat → ClassId) (sa sv : Nat → Nat) : Prop := lw_At p s m meth c b L xs ∧ q_EV (q_E0 D cy sa sv s) s s.heap ∧ q_EX (q_E0 D cy sa sv s) s s.heap ∧ l.stackTraces = false
/-- what holds at the loop's head -/
def q_LI (Inv : qS → Nat → Prop) (s : State) (D : va_G) (cy : Nat → ClassId) (sa sv ad : Nat → Nat) (n : Nat) (g : qS) (H : Heap) : Prop := q_WF s ad n ∧ q_hw (q_En D cy sa sv ad n) g H ∧ va_S (fun q => s.heap.size ≤ q) s.heap H [] ∧ Inv g n ∧ q_dom g n ∧ 88 ≤ n
def q_sx (xs : Nat → Int32) (k : Nat) (j : Int32) : Int32 := xs (nI (6 * k) + j).toNatClampNeg
def q_bz (x : Int32) : Int32 := if x = 0 then 0 else 1
theorem q_ix {k L j : Nat} (h : 6 * k + 6 ≤ L) (hL : L ≤ 3072) (hj : j < 6) : vp_in (nI (6 * k) + nI j) L := by
  rw [nI_add]
  exact vp_in_nI (by omega) (by omega)
abbrev q_ck (k : Nat) : Nat := 100 + 25 * k
abbrev q_sk (k : Nat) : Nat := 13000 + 269 * k
section QLW
variable {l : Launch} {p : Program} {e : Env} {s : State} {m : MethodId} {below : List Frame} {meth : Method} {c : Code} {b L : Nat} {xs : Nat → Int32} {D : va_G} {cy : Nat → ClassId} {sa sv ad : Nat → Nat} {n : Nat} {g : qS} {H : Heap} {locs : List Loc} {cells slots : Nat} {Q : State → Prop} {pc : Nat} {ls : Array Slot} {rest : List Value}
theorem q_LC.C (h : q_LC l p s m meth c b L xs D cy sa sv) (hw : q_WF s ad n) : q_C (q_En D cy sa sv ad n) p s m #[Value.ref b] meth c cL_law RL 7 ret := ⟨h.1.1, h.1.2.1, h.1.2.2.2.1, h.1.2.2.2.2.1, fun w hw => h.1.2.2.2.2.2.1 w (List.mem_filter.mp hw).1, h.1.2.2.2.2.2.2.2.2.1, h.1.2.2.1, q_EV_of h.2.1 hw⟩
theorem q_LC.J (hw : q_WF s ad n) (h : q_hw (q_En D cy sa sv ad n) g H) (hS : va_S (fun q => s.heap.size ≤ q) s.heap H []) : q_J (q_En D cy sa sv ad n) s g H [] := ⟨h, hS.1, fun q h1 _ => hS.2.1 q h1 (Nat.not_le.mpr h1), fun q hq => by cases hq⟩
theorem q_LC.S (hw : q_WF s ad n) (hj : q_J (q_En D cy sa sv ad n) s g H locs) : va_S (fun q => s.heap.size ≤ q) s.heap H [] := ⟨hj.2.1, fun q h1 _ => hj.2.2.1 q h1 (fun ⟨r, h3, h4⟩ => absurd h1 (Nat.not_lt.mpr (h4 ▸ hw.2 r h3))), fun q hq => by cases hq⟩
theorem q_LC.forget (hw : q_WF s ad n) (hj : q_J (q_En D cy sa sv ad n) s g H locs) {f : JFrame} {R : Room} {args : Array Value} (kk : W p l e R s m args below meth c H [] cells slots Q f) : W p l e R s m args below meth c H locs cells slots Q f := va_forget (fun q hq => by obtain ⟨r, h1, h2⟩ := hj.2.2.2 q hq; rw [← h2]; exact hw.2 r h1) kk
/-- a place of the script, put on the stack: aload_0; iload 4; iconst j; iadd; iaload -/
theorem q_sarg (h : q_LC l p s m meth c b L xs D cy sa sv) (hw : q_WF s ad n) (hj : q_J (q_En D cy sa sv ad n) s g H locs) {k j : Nat} {jj : Int} {jv : Int32} (hk6 : 6 * k + 6 ≤ L) (hL : L ≤ 3072) (hj6 : j < 6) (hjv : jv = nI j) (hji : Int32.ofInt jj = jv) {lv : List (Nat × Value)} (hl : lv_has ls 7 lv) {i0 i4 : Nat} (h0 : lv[i0]? = some (0, .ref b)) (h4 : lv[i4]? = some (4, .int (nI (6 * k))))
    (d0 : decode cL_law pc = .ok (.aload_n 0, 1)) (d1 : decode cL_law (pc + 1) = .ok (.iload 4, 2)) (d3 : decode cL_law (pc + 3) = .ok (.iconst jj, 1)) (d4 : decode cL_law (pc + 4) = .ok (.iadd, 1)) (d5 : decode cL_law (pc + 5) = .ok (.iaload, 1))
    (kk : W p l e room_1 s m #[Value.ref b] below meth c H locs cells slots Q (F0 m (pc + 6) ls (.int (q_sx xs k jv) :: rest))) : W p l e room_1 s m #[Value.ref b] below meth c H locs cells slots Q (F0 m pc ls rest) := by
  have hx := h.1.1
  have hb := h.1.2.1
  refine lv_aload_n hx hb d0 rfl (lv_at hl i0 h0) ?_
  refine lv_iload hx hb d1 (lv_at hl i4 h4) ?_
  refine lv_iconst (v := jv) hx hb d3 hji ?_
  refine lv_iadd hx hb d4 ?_
  have hbl := h.1.2.2.2.2.2.2.2.1
  refine va_sld (A := q_A (q_En D cy sa sv ad n)) (H0 := s.heap) (i := nI (6 * k) + jv) hx hb h.1.2.2.2.2.2.2.1 hbl (fun ⟨r, h3, h4⟩ => absurd hbl (Nat.not_lt.mpr (h4 ▸ hw.2 r h3))) hj.2 (by rw [hjv]; exact q_ix hk6 hL hj6) d5 kk
/-- .. as a boolean: ifeq; iconst_1; goto; iconst_0 -/
theorem q_sboo (h : q_LC l p s m meth c b L xs D cy sa sv) {x : Int32} {o1 o2 : Int} (d0 : decode cL_law pc = .ok (.ifCond .eq o1, 3)) (e0 : (pc : Int) + o1 = ((pc + 7 : Nat) : Int)) (d3 : decode cL_law (pc + 3) = .ok (.iconst 1, 1)) (d4 : decode cL_law (pc + 4) = .ok (.goto o2, 3)) (e4 : ((pc + 4 : Nat) : Int) + o2 = ((pc + 8 : Nat) : Int)) (d7 : decode cL_law (pc + 7) = .ok (.iconst 0, 1))
    (kk : W p l e room_1 s m #[Value.ref b] below meth c H locs cells slots Q (F0 m (pc + 8) ls (.int (q_bz x) :: rest))) : W p l e room_1 s m #[Value.ref b] below meth c H locs cells slots Q (F0 m pc ls (.int x :: rest)) := by
  have hx := h.1.1
  have hb := h.1.2.1
  refine lv_if_eq hx hb d0 e0 (fun z => ?_) (fun z => ?_)
  · refine lv_iconst (v := 0) hx hb d7 qi_0 ?_
    rw [show q_bz x = 0 from if_pos z] at kk
    exact kk
  · refine lv_iconst (v := 1) hx hb d3 qi_1 ?_
    refine lv_goto hx hb d4 e4 ?_
    rw [show q_bz x = 1 from if_neg z] at kk
    exact kk
theorem q_rc {k : Nat} (h : 6 * k + 6 ≤ L) (hL : L ≤ 3072) : q_ck k ≤ room_1.cells ∧ q_sk k ≤ room_1.slots := ⟨by show 100 + 25 * k ≤ 601024; omega, by show 13000 + 269 * k ≤ 7293034; omega⟩
theorem q_lz (x : Int64) : lg_cmp x x = 0 := (q_lc1 x x).mpr rfl
end QLW
