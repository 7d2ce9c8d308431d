/-! ===== the pure store: cells by roles; the machine's heap holds it at addresses that the roles have ===== -/
abbrev qE : Type := (Nat × vp_A) ⊕ (Nat × List Value)
abbrev qS : Type := Nat → Option qE
/-- class tables, array classes by kind (0 byte, 1 int, 2 long, 3 boolean), addresses of roles, the roles in use, the strings' addresses, their arrays' -/
abbrev qV : Type := va_G × (Nat → ClassId) × (Nat → Nat) × (Nat → Prop) × (Nat → Nat) × (Nat → Nat)
abbrev q_ad (E : qV) : Nat → Nat := E.2.2.1
abbrev q_Dm (E : qV) : Nat → Prop := E.2.2.2.1
abbrev q_sa (E : qV) : Nat → Nat := E.2.2.2.2.1
abbrev q_sv (E : qV) : Nat → Nat := E.2.2.2.2.2
def q_cv (E : qV) (v : Value) : Value := match v with
  | .ref r => .ref (q_ad E r)
  | v => v
def q_ce (E : qV) (e : qE) : va_E := match e with
  | .inl a => .inl (E.2.1 a.1, a.2)
  | .inr o => .inr (o.1, o.2.map (q_cv E))
def q_A (E : qV) : Nat → Prop := fun a => ∃ r : Nat, q_Dm E r ∧ q_ad E r = a
def q_hw (E : qV) (g : qS) (H : Heap) : Prop := ∀ (r : Nat) (e : qE), g r = some e → q_Dm E r ∧ va_at E.1 vwCl (q_ad E r, q_ce E e) H
def q_inj (E : qV) : Prop := ∀ a b : Nat, q_Dm E a → q_Dm E b → q_ad E a = q_ad E b → a = b
abbrev q_tys (E : qV) : List (ClassId × FieldType) := [(E.2.1 0, .byte), (E.2.1 1, .int), (E.2.1 2, .long), (E.2.1 3, .boolean)]
def q_isN (w : Cond) : Bool := match w with
  | .fieldLinkNest .. => true
  | .methodLinkNest .. => true
  | _ => false
def q_NW : List Cond := tables_1.filter q_isN
def q_GW : List Cond := lw_tbl.filter goodWord
theorem q_gw {w : Cond} (h : w ∈ lw_tbl) (g : goodWord w = true) : w ∈ q_GW := List.mem_filter.mpr ⟨h, g⟩
theorem q_gt {i : Nat} {w : Cond} (h : tables_1[i]? = some w) (g : goodWord w = true) : w ∈ q_GW := q_gw (List.mem_append_right _ (List.mem_of_getElem? h)) g
theorem q_gs {i : Nat} {w : Cond} (h : (k2_sels lw_privs)[i]? = some w) (g : goodWord w = true) : w ∈ q_GW := q_gw (List.mem_append_left _ (List.mem_of_getElem? h)) g
theorem q_nt {i : Nat} {w : Cond} (h : tables_1[i]? = some w) (g : q_isN w = true) : w ∈ q_NW := List.mem_filter.mpr ⟨List.mem_of_getElem? h, g⟩
theorem q_nw_tab {w : Cond} (h : w ∈ q_NW) : w.onTables = true := by
  have h1 := (List.mem_filter.mp h).2
  cases w <;> first | rfl | (exact absurd h1 (by simp [q_isN]))
theorem q_nw_warm {w : Cond} (h : w ∈ q_NW) {s U : State} (hW : s.WarmedH U.vm) (hZ : va_Nw w s) : va_Nw w U := by
  have h1 := (List.mem_filter.mp h).2
  cases w <;> first | exact va_Nw.warmF hW hZ | exact va_Nw.warmM hW hZ | (exact absurd h1 (by simp [q_isN]))
/-- String constants: the class that names it, its entry, its text -/
def q_SR : List (String × Nat × String) := [("SecondPaper$Reader", 141, "college"), ("SecondPaper$Reader", 143, "thing"), ("SecondPaper$Reader", 145, "person"), ("SecondPaper$Reader", 147, "tram"), ("SecondPaper$Reader", 149, "giver"), ("SecondPaper$Reader", 151, "rides"), ("SecondPaper$Reader", 153, "takes"), ("SecondPaper$Reader", 155, "gives"), ("SecondPaper$Reader", 157, "found"), ("SecondPaper$Reader", 159, "exam"), ("SecondPaper$Reader", 210, "days"), ("SecondPaper$Reader", 223, "limit"), ("SecondPaper$Reader", 228, "dead"), ("SecondPaper$Reader", 230, "egg"), ("SecondPaper$Reader", 232, "live"), ("SecondPaper$Reader", 234, ""), ("SecondPaper$Reader", 243, "weighs"), ("SecondPaper$Reader", 245, "plain"), ("SecondPaper$Reader", 247, "bishop"), ("SecondPaper$Reader", 249, "tailor"), ("SecondPaper$Reader", 251, "guard"), ("SecondPaper$Reader", 256, "room"), ("SecondPaper$Reader", 258, "wakes"), ("SecondPaper$Reader", 260, "crowd"), ("SecondPaper$Reader", 265, "worth"), ("SecondPaper$Reader", 267, "skill"), ("SecondPaper$Reader", 287, "caught"), ("SecondPaper$Reader", 289, "free"), ("SecondPaper", 312, "no such thing is with the college"), ("SecondPaperModel", 142, "college"), ("SecondPaperModel", 242, "days"), ("SecondPaperModel", 247, "limit"), ("SecondPaperModel", 144, "thing"), ("SecondPaperModel", 146, "person"), ("SecondPaperModel", 148, "tram"), ("SecondPaperModel", 150, "giver"), ("SecondPaperModel", 152, "rides"), ("SecondPaperModel", 154, "takes"), ("SecondPaperModel", 156, "gives"), ("SecondPaperModel", 158, "found"), ("SecondPaperModel", 160, "exam"), ("SecondPaperModel", 262, "dead"), ("SecondPaperModel", 264, "egg"), ("SecondPaperModel", 266, "live"), ("SecondPaperModel", 268, "weighs"), ("SecondPaperModel", 278, "plain"), ("SecondPaperModel", 280, "bishop"), ("SecondPaperModel", 282, "tailor"), ("SecondPaperModel", 284, "guard"), ("SecondPaperModel", 286, "room"), ("SecondPaperModel", 288, "wakes"), ("SecondPaperModel", 300, "crowd"), ("SecondPaperModel", 302, "worth"), ("SecondPaperModel", 308, "skill"), ("SecondPaperModel", 342, "caught"), ("SecondPaperModel", 344, "free")]
def q_bytes (i : Nat) : List Int32 := (q_SR.getD i ("", 0, "")).2.2.toList.map (fun ch => Int32.ofNat ch.toNat)
def q_str (E : qV) (U : State) (H : Heap) : Prop :=
  (∀ (i : Nat) (x : String × Nat × String), q_SR[i]? = some x → vk_R x.1 x.2.1 x.2.2 (q_sa E i) U) ∧
  (∀ i : Nat, i < 56 → va_O "java/lang/String" (q_sa E i) (q_A E) U H ∧ va_OF "java/lang/String" "coder" "B" (.int 0) (q_sa E i) (q_A E) U H ∧ va_OF "java/lang/String" "value" "[B" (.ref (q_sv E i)) (q_sa E i) (q_A E) U H ∧ va_T .byte (q_sv E i) (q_bytes i).length (fun j => .int ((q_bytes i).getD j 0)) (q_A E) U H) ∧
  va_Z "java/lang/String" "COMPACT_STRINGS" "Z" (.int 1) (q_A E) U H ∧ va_Zq "jdk/internal/util/Preconditions" "SIOOBE_FORMATTER" "Ljava/util/function/BiFunction;" (q_A E) U H
def q_EV (E : qV) (U : State) (H : Heap) : Prop := va_K E.1 vwCl (q_tys E) U ∧ q_inj E ∧ (∀ w ∈ q_NW, va_Nw w U) ∧ q_str E U H
theorem q_str.warm {E : qV} {s U : State} {H : Heap} (hW : s.WarmedH U.vm) (h : q_str E s H) : q_str E U H :=
  ⟨fun i x hx => vk_R.warm hW (h.1 i x hx), fun i hi => ⟨va_O.moved hW.alike (h.2.1 i hi).1, va_OF.moved hW.alike (h.2.1 i hi).2.1, va_OF.moved hW.alike (h.2.1 i hi).2.2.1, va_T.moved hW.alike (h.2.1 i hi).2.2.2⟩, va_Z.moved hW.alike h.2.2.1, va_Zq.moved hW.alike h.2.2.2⟩
theorem q_str.kept {E : qV} {U : State} {H H1 : Heap} (h : q_str E U H) (hq : ∀ a : Nat, a < H.size → ¬ q_A E a → H1[a]? = H[a]?) : q_str E U H1 :=
  ⟨h.1, fun i hi => ⟨(h.2.1 i hi).1.kept hq, (h.2.1 i hi).2.1.kept hq, (h.2.1 i hi).2.2.1.kept hq, (h.2.1 i hi).2.2.2.kept hq⟩, h.2.2.1.kept hq, h.2.2.2.kept hq⟩
theorem q_EV.warm {E : qV} {s U : State} {H : Heap} (hW : s.WarmedH U.vm) (h : q_EV E s H) : q_EV E U H := ⟨va_K.moved hW.alike h.1, h.2.1, fun w hw => q_nw_warm hw hW (h.2.2.1 w hw), h.2.2.2.warm hW⟩
theorem q_EV.kept {E : qV} {U : State} {H H1 : Heap} (h : q_EV E U H) (hq : ∀ a : Nat, a < H.size → ¬ q_A E a → H1[a]? = H[a]?) : q_EV E U H1 := ⟨h.1, h.2.1, h.2.2.1, h.2.2.2.kept hq⟩
theorem q_nw_same {w : Cond} (h : w ∈ q_NW) {u U : State} (hv : u.vm = U.vm) (hZ : va_Nw w u) : va_Nw w U := va_Nw.same (q_nw_tab h) hv hZ
/-- the same tables: another state of the same machine -/
theorem q_EV.same {E : qV} {u U : State} {H : Heap} (hv : U.vm = u.vm) (h : q_EV E u H) : q_EV E U H := by
  have hA : u.vm.Alike U.vm := by rw [hv]; exact Vm.Alike.refl _
  exact ⟨va_K.moved hA h.1, h.2.1, fun w hw => q_nw_same hw hv.symm (h.2.2.1 w hw), fun i x hx => vk_R.same hv (h.2.2.2.1 i x hx), fun i hi => ⟨va_O.moved hA (h.2.2.2.2.1 i hi).1, va_OF.moved hA (h.2.2.2.2.1 i hi).2.1, va_OF.moved hA (h.2.2.2.2.1 i hi).2.2.1, va_T.moved hA (h.2.2.2.2.1 i hi).2.2.2⟩, va_Z.moved hA h.2.2.2.2.2.1, va_Zq.moved hA h.2.2.2.2.2.2⟩
/-- what stands all through a method's body -/
def q_C (E : qV) (p : Program) (s : State) (m : MethodId) (args : Array Value) (meth : Method) (c : Code) (cc : ByteArray) (own : String) (nL : Nat) (rt : Option FieldType) : Prop :=
  p.tables.exec = Jvm.exec ∧ c.code = cc ∧ c.maxLocals = nL ∧ s.vm.findClass own = some m.cls ∧ (∀ w ∈ q_GW, w.before args s = true) ∧ meth.locks = false ∧ meth.sig.returnType = rt ∧ q_EV E s s.heap
/-- what moves: the store, and what was written -/
def q_J (E : qV) (s : State) (g : qS) (H : Heap) (locs : List Loc) : Prop := q_hw E g H ∧ va_S (q_A E) s.heap H locs
/-! reading and writing the store -/
def g_I (g : qS) (r ci j : Nat) : Option Int32 := match g r with
  | some (.inr (c, fs)) => if c = ci then (match fs[j]? with | some (.int v) => some v | _ => none) else none
  | _ => none
def g_L (g : qS) (r ci j : Nat) : Option Int64 := match g r with
  | some (.inr (c, fs)) => if c = ci then (match fs[j]? with | some (.long v) => some v | _ => none) else none
  | _ => none
def g_R (g : qS) (r ci j : Nat) : Option Nat := match g r with
  | some (.inr (c, fs)) => if c = ci then (match fs[j]? with | some (.ref v) => some v | _ => none) else none
  | _ => none
def g_Q (g : qS) (r ci j : Nat) : Option (Option Nat) := match g r with
  | some (.inr (c, fs)) => if c = ci then (match fs[j]? with | some (.ref v) => some (some v) | some .null => some none | _ => none) else none
  | _ => none
/-- is it an object of that class? -/
def g_C (g : qS) (r ci : Nat) : Option Unit := match g r with
  | some (.inr (c, _)) => if c = ci then some () else none
  | _ => none
def p_V (g : qS) (r ci j : Nat) (v : Value) : Option qS := match g r with
  | some (.inr (c, fs)) => if c = ci then (if j < fs.length then some (va_up g r (some (.inr (c, fs.set j v)))) else none) else none
  | _ => none
def p_I (g : qS) (r ci j : Nat) (v : Int32) : Option qS := p_V g r ci j (.int v)
def p_L (g : qS) (r ci j : Nat) (v : Int64) : Option qS := p_V g r ci j (.long v)
def p_R (g : qS) (r ci j : Nat) (v : Nat) : Option qS := p_V g r ci j (.ref v)
def p_Z (g : qS) (r ci j : Nat) (v : Int32) : Option qS := if v = 0 ∨ v = 1 then p_V g r ci j (.int v) else none
def q_fn (a : vp_A) : Option (Nat → Int32) := match a.2 with
  | .inl f => some f
  | _ => none
def q_fnL (a : vp_A) : Option (Nat → Int64) := match a.2 with
  | .inr (.inl f) => some f
  | _ => none
/-- a place of an array of kind k that holds ints -/
def a_K (k : Nat) (g : qS) (r : Nat) (i : Int32) : Option Int32 := match g r with
  | some (.inl (k', n, .inl f)) => if k' = k then (if i < 0 ∨ n ≤ i.toNatClampNeg then none else some (f i.toNatClampNeg)) else none
  | _ => none
abbrev a_B : qS → Nat → Int32 → Option Int32 := a_K 0
abbrev a_I : qS → Nat → Int32 → Option Int32 := a_K 1
abbrev a_Z : qS → Nat → Int32 → Option Int32 := a_K 3
def a_L (g : qS) (r : Nat) (i : Int32) : Option Int64 := match g r with
  | some (.inl (k', n, .inr (.inl f))) => if k' = 2 then (if i < 0 ∨ n ≤ i.toNatClampNeg then none else some (f i.toNatClampNeg)) else none
  | _ => none
def s_K (k : Nat) (g : qS) (r : Nat) (i x : Int32) : Option qS := match g r with
  | some (.inl (k', n, .inl f)) => if k' = k then (if i < 0 ∨ n ≤ i.toNatClampNeg then none else some (va_up g r (some (.inl (k', n, .inl (upd f i.toNatClampNeg x)))))) else none
  | _ => none
def s_I (g : qS) (r : Nat) (i x : Int32) : Option qS := s_K 1 g r i x
def s_B (g : qS) (r : Nat) (i x : Int32) : Option qS := s_K 0 g r i (vp_nar .byte x)
def s_Z (g : qS) (r : Nat) (i x : Int32) : Option qS := s_K 3 g r i (vp_nar .boolean x)
def s_L (g : qS) (r : Nat) (i : Int32) (x : Int64) : Option qS := match g r with
  | some (.inl (k', n, .inr (.inl f))) => if k' = 2 then (if i < 0 ∨ n ≤ i.toNatClampNeg then none else some (va_up g r (some (.inl (k', n, .inr (.inl (vp_updL f i.toNatClampNeg x))))))) else none
  | _ => none
def a_n (g : qS) (r : Nat) : Option Int32 := match g r with
  | some (.inl (k', n, _)) => if k' < 4 then some (Int32.ofNat n) else none
  | _ => none
theorem q_ob {α β : Type} {x : Option α} {f : α → Option β} {r : β} (h : x.bind f = some r) : ∃ a, x = some a ∧ f a = some r := by
  cases x with
  | none => cases h
  | some a => exact ⟨a, rfl, h⟩
theorem g_I_sp {g : qS} {r ci j : Nat} {v : Int32} (h : g_I g r ci j = some v) : ∃ fs, g r = some (.inr (ci, fs)) ∧ fs[j]? = some (.int v) := by
  unfold g_I at h
  split at h
  · rename_i c fs hg
    split at h
    · rename_i hc
      subst hc
      split at h
      · rename_i v' hv
        cases h
        exact ⟨fs, hg, hv⟩
      · cases h
    · cases h
  · cases h
theorem g_L_sp {g : qS} {r ci j : Nat} {v : Int64} (h : g_L g r ci j = some v) : ∃ fs, g r = some (.inr (ci, fs)) ∧ fs[j]? = some (.long v) := by
  unfold g_L at h
  split at h
  · rename_i c fs hg
    split at h
    · rename_i hc
      subst hc
      split at h
      · rename_i v' hv
        cases h
        exact ⟨fs, hg, hv⟩
      · cases h
    · cases h
  · cases h
theorem g_R_sp {g : qS} {r ci j : Nat} {v : Nat} (h : g_R g r ci j = some v) : ∃ fs, g r = some (.inr (ci, fs)) ∧ fs[j]? = some (.ref v) := by
  unfold g_R at h
  split at h
  · rename_i c fs hg
    split at h
    · rename_i hc
      subst hc
      split at h
      · rename_i v' hv
        cases h
        exact ⟨fs, hg, hv⟩
      · cases h
    · cases h
  · cases h
theorem g_Q_sp {g : qS} {r ci j : Nat} {v : Option Nat} (h : g_Q g r ci j = some v) : ∃ fs, g r = some (.inr (ci, fs)) ∧ fs[j]? = some (va_rf v) := by
  unfold g_Q at h
  split at h
  · rename_i c fs hg
    split at h
    · rename_i hc
      subst hc
      split at h
      · rename_i v' hv
        cases h
        exact ⟨fs, hg, hv⟩
      · rename_i hv
        cases h
        exact ⟨fs, hg, hv⟩
      · cases h
    · cases h
  · cases h
theorem g_C_sp {g : qS} {r ci : Nat} {u : Unit} (h : g_C g r ci = some u) : ∃ fs, g r = some (.inr (ci, fs)) := by
  unfold g_C at h
  split at h
  · rename_i c fs hg
    split at h
    · rename_i hc
      subst hc
      exact ⟨fs, hg⟩
    · cases h
  · cases h
theorem p_V_sp {g g' : qS} {r ci j : Nat} {v : Value} (h : p_V g r ci j v = some g') : ∃ fs, g r = some (.inr (ci, fs)) ∧ j < fs.length ∧ g' = va_up g r (some (.inr (ci, fs.set j v))) := by
  unfold p_V at h
  split at h
  · rename_i c fs hg
    split at h
    · rename_i hc
      subst hc
      split at h
      · rename_i hl
        cases h
        exact ⟨fs, hg, hl, rfl⟩
      · cases h
    · cases h
  · cases h
theorem a_K_sp {k : Nat} {g : qS} {r : Nat} {i v : Int32} (h : a_K k g r i = some v) : ∃ n f, g r = some (.inl (k, n, .inl f)) ∧ vp_in i n ∧ v = f i.toNatClampNeg := by
  unfold a_K at h
  split at h
  · rename_i k' n f hg
    split at h
    · rename_i hc
      subst hc
      split at h
      · cases h
      · rename_i hn
        cases h
        exact ⟨n, f, hg, hn, rfl⟩
    · cases h
  · cases h
theorem a_L_sp {g : qS} {r : Nat} {i : Int32} {v : Int64} (h : a_L g r i = some v) : ∃ n f, g r = some (.inl (2, n, .inr (.inl f))) ∧ vp_in i n ∧ v = f i.toNatClampNeg := by
  unfold a_L at h
  split at h
  · rename_i k' n f hg
    split at h
    · rename_i hc
      subst hc
      split at h
      · cases h
      · rename_i hn
        cases h
        exact ⟨n, f, hg, hn, rfl⟩
    · cases h
  · cases h
theorem s_K_sp {k : Nat} {g g' : qS} {r : Nat} {i x : Int32} (h : s_K k g r i x = some g') : ∃ n f, g r = some (.inl (k, n, .inl f)) ∧ vp_in i n ∧ g' = va_up g r (some (.inl (k, n, .inl (upd f i.toNatClampNeg x)))) := by
  unfold s_K at h
  split at h
  · rename_i k' n f hg
    split at h
    · rename_i hc
      subst hc
      split at h
      · cases h
      · rename_i hn
        cases h
        exact ⟨n, f, hg, hn, rfl⟩
    · cases h
  · cases h
theorem s_L_sp {g g' : qS} {r : Nat} {i : Int32} {x : Int64} (h : s_L g r i x = some g') : ∃ n f, g r = some (.inl (2, n, .inr (.inl f))) ∧ vp_in i n ∧ g' = va_up g r (some (.inl (2, n, .inr (.inl (vp_updL f i.toNatClampNeg x))))) := by
  unfold s_L at h
  split at h
  · rename_i k' n f hg
    split at h
    · rename_i hc
      subst hc
      split at h
      · cases h
      · rename_i hn
        cases h
        exact ⟨n, f, hg, hn, rfl⟩
    · cases h
  · cases h
theorem a_n_sp {g : qS} {r : Nat} {v : Int32} (h : a_n g r = some v) : ∃ k a, g r = some (.inl (k, a)) ∧ k < 4 ∧ v = Int32.ofNat a.1 := by
  unfold a_n at h
  split at h
  · rename_i k n a hg
    split at h
    · rename_i hk
      cases h
      exact ⟨k, (n, a), hg, hk, rfl⟩
    · cases h
  · cases h
theorem q_ty {E : qV} {k : Nat} (h : k < 4) : ∃ ty, (q_tys E)[k]? = some (E.2.1 k, ty) := by
  match k, h with
  | 0, _ => exact ⟨_, rfl⟩
  | 1, _ => exact ⟨_, rfl⟩
  | 2, _ => exact ⟨_, rfl⟩
  | 3, _ => exact ⟨_, rfl⟩
/-- the store with one cell changed, held by a heap with that cell changed -/
theorem q_hw.set {E : qV} {g : qS} {H H1 : Heap} {r : Nat} {e0 e : qE} (hi : q_inj E) (h : q_hw E g H) (hr : g r = some e0) (he : va_at E.1 vwCl (q_ad E r, q_ce E e) H1) (oq : ∀ q : Nat, q ≠ q_ad E r → H1[q]? = H[q]?) : q_hw E (va_up g r (some e)) H1 := by
  intro r' e' h'
  by_cases hrr : r' = r
  · subst hrr
    rw [va_up_self] at h'
    cases h'
    exact ⟨(h r' e0 hr).1, he⟩
  · rw [va_up_ne _ _ hrr] at h'
    obtain ⟨h1, h2⟩ := h r' e' h'
    exact ⟨h1, h2.kept (oq _ (fun z => hrr (hi _ _ h1 (h r e0 hr).1 z)))⟩
