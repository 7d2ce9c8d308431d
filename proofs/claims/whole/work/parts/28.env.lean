abbrev q_CN : Cond := Jvm.Cond.and given_1 narrow_1
abbrev q_tS (i : Nat) : Term := Term.string (q_SR.getD i ("", 0, "")).1 (q_SR.getD i ("", 0, "")).2.1
abbrev q_tV (i : Nat) : Term := .field (q_tS i) "java/lang/String" "value" "[B"
def q_scOf (i : Nat) : List Cond := Cond.exactly (q_tS i) "java/lang/String" :: Cond.eq (.field (q_tS i) "java/lang/String" "coder" "B") (.int 0) :: Cond.arrayOf (q_tV i) .byte :: Cond.eq (.length (q_tV i)) (.int (Int32.ofNat (q_bytes i).length)) :: (List.range (q_bytes i).length).map (fun j => Cond.eq (.elem (q_tV i) (.int (Int32.ofNat j))) (.int ((q_bytes i).getD j 0)))
theorem q_scin {l : List Cond} {a n i : Nat} (h : (l.drop a).take n = q_scOf i) : ∀ w ∈ q_scOf i, w ∈ l := fun w hw => List.mem_of_mem_drop (List.mem_of_mem_take (h ▸ hw))
set_option maxRecDepth 100000 in
set_option maxHeartbeats 4000000 in
theorem q_scall : ∀ i : Nat, i < 56 → ∀ w ∈ q_scOf i, w ∈ flatC q_CN := by
  intro i hi
  match i, hi with
  | 0, _ => exact q_scin (a := 23) (n := 11) (by decide +kernel)
  | 1, _ => exact q_scin (a := 34) (n := 9) (by decide +kernel)
  | 2, _ => exact q_scin (a := 43) (n := 10) (by decide +kernel)
  | 3, _ => exact q_scin (a := 53) (n := 8) (by decide +kernel)
  | 4, _ => exact q_scin (a := 61) (n := 9) (by decide +kernel)
  | 5, _ => exact q_scin (a := 70) (n := 9) (by decide +kernel)
  | 6, _ => exact q_scin (a := 79) (n := 9) (by decide +kernel)
  | 7, _ => exact q_scin (a := 88) (n := 9) (by decide +kernel)
  | 8, _ => exact q_scin (a := 97) (n := 9) (by decide +kernel)
  | 9, _ => exact q_scin (a := 106) (n := 8) (by decide +kernel)
  | 10, _ => exact q_scin (a := 114) (n := 8) (by decide +kernel)
  | 11, _ => exact q_scin (a := 122) (n := 9) (by decide +kernel)
  | 12, _ => exact q_scin (a := 131) (n := 8) (by decide +kernel)
  | 13, _ => exact q_scin (a := 139) (n := 7) (by decide +kernel)
  | 14, _ => exact q_scin (a := 146) (n := 8) (by decide +kernel)
  | 15, _ => exact q_scin (a := 154) (n := 4) (by decide +kernel)
  | 16, _ => exact q_scin (a := 158) (n := 10) (by decide +kernel)
  | 17, _ => exact q_scin (a := 168) (n := 9) (by decide +kernel)
  | 18, _ => exact q_scin (a := 177) (n := 10) (by decide +kernel)
  | 19, _ => exact q_scin (a := 187) (n := 10) (by decide +kernel)
  | 20, _ => exact q_scin (a := 197) (n := 9) (by decide +kernel)
  | 21, _ => exact q_scin (a := 206) (n := 8) (by decide +kernel)
  | 22, _ => exact q_scin (a := 214) (n := 9) (by decide +kernel)
  | 23, _ => exact q_scin (a := 223) (n := 9) (by decide +kernel)
  | 24, _ => exact q_scin (a := 232) (n := 9) (by decide +kernel)
  | 25, _ => exact q_scin (a := 241) (n := 9) (by decide +kernel)
  | 26, _ => exact q_scin (a := 250) (n := 10) (by decide +kernel)
  | 27, _ => exact q_scin (a := 260) (n := 8) (by decide +kernel)
  | 28, _ => exact q_scin (a := 268) (n := 37) (by decide +kernel)
  | 29, _ => exact q_scin (a := 305) (n := 11) (by decide +kernel)
  | 30, _ => exact q_scin (a := 317) (n := 8) (by decide +kernel)
  | 31, _ => exact q_scin (a := 326) (n := 9) (by decide +kernel)
  | 32, _ => exact q_scin (a := 336) (n := 9) (by decide +kernel)
  | 33, _ => exact q_scin (a := 346) (n := 10) (by decide +kernel)
  | 34, _ => exact q_scin (a := 357) (n := 8) (by decide +kernel)
  | 35, _ => exact q_scin (a := 366) (n := 9) (by decide +kernel)
  | 36, _ => exact q_scin (a := 376) (n := 9) (by decide +kernel)
  | 37, _ => exact q_scin (a := 386) (n := 9) (by decide +kernel)
  | 38, _ => exact q_scin (a := 396) (n := 9) (by decide +kernel)
  | 39, _ => exact q_scin (a := 406) (n := 9) (by decide +kernel)
  | 40, _ => exact q_scin (a := 416) (n := 8) (by decide +kernel)
  | 41, _ => exact q_scin (a := 425) (n := 8) (by decide +kernel)
  | 42, _ => exact q_scin (a := 434) (n := 7) (by decide +kernel)
  | 43, _ => exact q_scin (a := 442) (n := 8) (by decide +kernel)
  | 44, _ => exact q_scin (a := 451) (n := 10) (by decide +kernel)
  | 45, _ => exact q_scin (a := 462) (n := 9) (by decide +kernel)
  | 46, _ => exact q_scin (a := 472) (n := 10) (by decide +kernel)
  | 47, _ => exact q_scin (a := 483) (n := 10) (by decide +kernel)
  | 48, _ => exact q_scin (a := 494) (n := 9) (by decide +kernel)
  | 49, _ => exact q_scin (a := 504) (n := 8) (by decide +kernel)
  | 50, _ => exact q_scin (a := 513) (n := 9) (by decide +kernel)
  | 51, _ => exact q_scin (a := 523) (n := 9) (by decide +kernel)
  | 52, _ => exact q_scin (a := 533) (n := 9) (by decide +kernel)
  | 53, _ => exact q_scin (a := 543) (n := 9) (by decide +kernel)
  | 54, _ => exact q_scin (a := 553) (n := 10) (by decide +kernel)
  | 55, _ => exact q_scin (a := 564) (n := 8) (by decide +kernel)
  | i + 56, hi => exact absurd hi (by omega)
theorem q_srefs {args : Array Value} {s : State} (hts : ∀ w ∈ tables_1, w.before args s = true) : ∀ (i : Nat) (x : String × Nat × String), q_SR[i]? = some x → (Cond.stringRef x.1 x.2.1 x.2.2).before args s = true := by
  intro i x hx
  match i, hx with
  | 0, hx => cases hx; exact hts _ (q_t2 (i := 141) rfl)
  | 1, hx => cases hx; exact hts _ (q_t2 (i := 142) rfl)
  | 2, hx => cases hx; exact hts _ (q_t2 (i := 143) rfl)
  | 3, hx => cases hx; exact hts _ (q_t2 (i := 144) rfl)
  | 4, hx => cases hx; exact hts _ (q_t2 (i := 145) rfl)
  | 5, hx => cases hx; exact hts _ (q_t2 (i := 146) rfl)
  | 6, hx => cases hx; exact hts _ (q_t2 (i := 147) rfl)
  | 7, hx => cases hx; exact hts _ (q_t2 (i := 148) rfl)
  | 8, hx => cases hx; exact hts _ (q_t2 (i := 149) rfl)
  | 9, hx => cases hx; exact hts _ (q_t2 (i := 150) rfl)
  | 10, hx => cases hx; exact hts _ (q_t2 (i := 219) rfl)
  | 11, hx => cases hx; exact hts _ (q_t2 (i := 233) rfl)
  | 12, hx => cases hx; exact hts _ (q_t3 (i := 14) rfl)
  | 13, hx => cases hx; exact hts _ (q_t3 (i := 15) rfl)
  | 14, hx => cases hx; exact hts _ (q_t3 (i := 16) rfl)
  | 15, hx => cases hx; exact hts _ (q_t3 (i := 17) rfl)
  | 16, hx => cases hx; exact hts _ (q_t3 (i := 22) rfl)
  | 17, hx => cases hx; exact hts _ (q_t3 (i := 37) rfl)
  | 18, hx => cases hx; exact hts _ (q_t3 (i := 38) rfl)
  | 19, hx => cases hx; exact hts _ (q_t3 (i := 39) rfl)
  | 20, hx => cases hx; exact hts _ (q_t3 (i := 40) rfl)
  | 21, hx => cases hx; exact hts _ (q_t3 (i := 41) rfl)
  | 22, hx => cases hx; exact hts _ (q_t3 (i := 42) rfl)
  | 23, hx => cases hx; exact hts _ (q_t3 (i := 47) rfl)
  | 24, hx => cases hx; exact hts _ (q_t3 (i := 48) rfl)
  | 25, hx => cases hx; exact hts _ (q_t3 (i := 53) rfl)
  | 26, hx => cases hx; exact hts _ (q_t3 (i := 80) rfl)
  | 27, hx => cases hx; exact hts _ (q_t3 (i := 81) rfl)
  | 28, hx => cases hx; exact hts _ (q_t6 (i := 3) rfl)
  | 29, hx => cases hx; exact hts _ (q_t7 (i := 69) rfl)
  | 30, hx => cases hx; exact hts _ (q_t7 (i := 87) rfl)
  | 31, hx => cases hx; exact hts _ (q_t7 (i := 107) rfl)
  | 32, hx => cases hx; exact hts _ (q_t7 (i := 108) rfl)
  | 33, hx => cases hx; exact hts _ (q_t7 (i := 125) rfl)
  | 34, hx => cases hx; exact hts _ (q_t7 (i := 126) rfl)
  | 35, hx => cases hx; exact hts _ (q_t7 (i := 127) rfl)
  | 36, hx => cases hx; exact hts _ (q_t7 (i := 128) rfl)
  | 37, hx => cases hx; exact hts _ (q_t7 (i := 129) rfl)
  | 38, hx => cases hx; exact hts _ (q_t7 (i := 130) rfl)
  | 39, hx => cases hx; exact hts _ (q_t7 (i := 131) rfl)
  | 40, hx => cases hx; exact hts _ (q_t7 (i := 132) rfl)
  | 41, hx => cases hx; exact hts _ (q_t7 (i := 137) rfl)
  | 42, hx => cases hx; exact hts _ (q_t7 (i := 138) rfl)
  | 43, hx => cases hx; exact hts _ (q_t7 (i := 139) rfl)
  | 44, hx => cases hx; exact hts _ (q_t7 (i := 140) rfl)
  | 45, hx => cases hx; exact hts _ (q_t7 (i := 149) rfl)
  | 46, hx => cases hx; exact hts _ (q_t7 (i := 150) rfl)
  | 47, hx => cases hx; exact hts _ (q_t7 (i := 151) rfl)
  | 48, hx => cases hx; exact hts _ (q_t7 (i := 152) rfl)
  | 49, hx => cases hx; exact hts _ (q_t7 (i := 153) rfl)
  | 50, hx => cases hx; exact hts _ (q_t7 (i := 154) rfl)
  | 51, hx => cases hx; exact hts _ (q_t7 (i := 159) rfl)
  | 52, hx => cases hx; exact hts _ (q_t7 (i := 160) rfl)
  | 53, hx => cases hx; exact hts _ (q_t7 (i := 165) rfl)
  | 54, hx => cases hx; exact hts _ (q_t7 (i := 190) rfl)
  | 55, hx => cases hx; exact hts _ (q_t7 (i := 191) rfl)
  | i + 56, hx => cases hx
theorem q_cls {args : Array Value} {s : State} (hg : ∀ w ∈ q_GW, w.before args s = true) : ∀ c : Nat, ∃ d : ClassId × (Nat → Nat), ∀ q : vw_C, vwCl[c]? = some q → u_Kn s q.1 q.2.1 q.2.2 d.1 d.2 := by
  intro c
  match c with
  | 0 => obtain ⟨cC, iS, h⟩ := u_known hg q_ciX0.2.1 (hg _ (q_g1 (i := 238) rfl rfl)); exact ⟨(cC, iS), fun q hq => by cases hq; exact h⟩
  | 1 => obtain ⟨cC, iS, h⟩ := u_known hg q_ciX2.2.1 (hg _ (q_g2 (i := 37) rfl rfl)); exact ⟨(cC, iS), fun q hq => by cases hq; exact h⟩
  | 2 => obtain ⟨cC, iS, h⟩ := u_known hg q_ciX3.2.1 (hg _ (q_g1 (i := 39) rfl rfl)); exact ⟨(cC, iS), fun q hq => by cases hq; exact h⟩
  | 3 => obtain ⟨cC, iS, h⟩ := u_known hg q_ciX4.2.1 (hg _ (q_g1 (i := 194) rfl rfl)); exact ⟨(cC, iS), fun q hq => by cases hq; exact h⟩
  | 4 => obtain ⟨cC, iS, h⟩ := u_known hg q_ciX5.2.1 (hg _ (q_g1 (i := 218) rfl rfl)); exact ⟨(cC, iS), fun q hq => by cases hq; exact h⟩
  | 5 => obtain ⟨cC, iS, h⟩ := u_known hg q_ciX6.2.1 (hg _ (q_g1 (i := 33) rfl rfl)); exact ⟨(cC, iS), fun q hq => by cases hq; exact h⟩
  | 6 => obtain ⟨cC, iS, h⟩ := u_known hg q_ciX7.2.1 (hg _ (q_g1 (i := 170) rfl rfl)); exact ⟨(cC, iS), fun q hq => by cases hq; exact h⟩
  | 7 => obtain ⟨cC, iS, h⟩ := u_known hg q_ciX8.2.1 (hg _ (q_g1 (i := 45) rfl rfl)); exact ⟨(cC, iS), fun q hq => by cases hq; exact h⟩
  | 8 => obtain ⟨cC, iS, h⟩ := u_known hg q_ciX9.2.1 (hg _ (q_g2 (i := 16) rfl rfl)); exact ⟨(cC, iS), fun q hq => by cases hq; exact h⟩
  | 9 => obtain ⟨cC, iS, h⟩ := u_known hg q_ciX10.2.1 (hg _ (q_g1 (i := 25) rfl rfl)); exact ⟨(cC, iS), fun q hq => by cases hq; exact h⟩
  | 10 => obtain ⟨cC, iS, h⟩ := u_known hg q_ciX11.2.1 (hg _ (q_g6 (i := 149) rfl rfl)); exact ⟨(cC, iS), fun q hq => by cases hq; exact h⟩
  | 11 => obtain ⟨cC, iS, h⟩ := u_known hg q_ciX12.2.1 (hg _ (q_g6 (i := 30) rfl rfl)); exact ⟨(cC, iS), fun q hq => by cases hq; exact h⟩
  | c + 12 => exact ⟨((0 : Nat), fun _ => 0), fun q hq => by cases hq⟩
theorem q_arrc {args : Array Value} {s : State} {ty : FieldType} (hr : ∀ (cA : ClassId), s.vm.findClass ("[" ++ ty.toString) = some cA → va_RA s cA ty) (harr : (Cond.arrayClass ty).before args s = true) : ∃ cA : ClassId, ArrOfT s cA ty ∧ va_RA s cA ty := by
  obtain ⟨cA, kA, comp, hfind, hk, hkind⟩ := Cond.arrayClass_spec harr
  exact ⟨cA, fun n z => ⟨fun k h => (by cases h), kA, hk, comp, hkind⟩, hr cA hfind⟩
theorem q_strs {args : Array Value} {s : State} {A : Nat → Prop} (hc : q_CN.before args s = true) (hA : ∀ a : Nat, a < s.heap.size → ¬ A a) : ∃ q : Nat → Nat × Nat, ∀ i : Nat, i < 56 → (q_tS i).eval args s none [] s = some (.ref (q i).1) ∧ va_O "java/lang/String" (q i).1 A s s.heap ∧ va_OF "java/lang/String" "coder" "B" (.int 0) (q i).1 A s s.heap ∧ va_OF "java/lang/String" "value" "[B" (.ref (q i).2) (q i).1 A s s.heap ∧ va_T .byte (q i).2 (q_bytes i).length (fun j => .int ((q_bytes i).getD j 0)) A s s.heap := by
  have hs := flat_of_before _ hc
  refine Classical.axiomOfChoice (r := fun (i : Nat) (q : Nat × Nat) => i < 56 → (q_tS i).eval args s none [] s = some (.ref q.1) ∧ va_O "java/lang/String" q.1 A s s.heap ∧ va_OF "java/lang/String" "coder" "B" (.int 0) q.1 A s s.heap ∧ va_OF "java/lang/String" "value" "[B" (.ref q.2) q.1 A s s.heap ∧ va_T .byte q.2 (q_bytes i).length (fun j => .int ((q_bytes i).getD j 0)) A s s.heap) ?_
  intro i
  by_cases hi : i < 56
  · have hm := q_scall i hi
    have hex := hs _ (hm _ List.mem_cons_self)
    have hco := hs _ (hm _ (List.mem_cons_of_mem _ List.mem_cons_self))
    have har := hs _ (hm _ (List.mem_cons_of_mem _ (List.mem_cons_of_mem _ List.mem_cons_self)))
    have hle := hs _ (hm _ (List.mem_cons_of_mem _ (List.mem_cons_of_mem _ (List.mem_cons_of_mem _ List.mem_cons_self))))
    have hel : ∀ j : Nat, j < (q_bytes i).length → (Cond.eq (.elem (q_tV i) (.int (Int32.ofNat j))) (.int ((q_bytes i).getD j 0))).before args s = true := fun j hj => hs _ (hm _ (List.mem_cons_of_mem _ (List.mem_cons_of_mem _ (List.mem_cons_of_mem _ (List.mem_cons_of_mem _ (List.mem_map.mpr ⟨j, List.mem_range.mpr hj, rfl⟩))))))
    have hN : (q_bytes i).length < 2 ^ 31 := Nat.lt_trans (q_blen i hi) (by decide)
    obtain ⟨a, c, cA, kA, q1, q2, q3, q4, q5, q6, -⟩ := Cond.exactly_spec (args := args) (first := s) (o := none) (s := s) (idx := []) (t := q_tS i) (cls := "java/lang/String") hex
    obtain ⟨t, ht, hT⟩ := va_Tof (f := fun j => .int ((q_bytes i).getD j 0)) (A := A) hN har (va_eqt hle) (fun j hj => va_eqt (hel j hj)) hA
    exact ⟨(a, t), fun _ => ⟨q1, ⟨cA, q3, q5, by rw [q6]; exact q2, hA a (Array.getElem?_eq_some_iff.mp q3).1⟩, vk_OFof q1 (va_eqt hco) hA, vk_OFof q1 ht hA, hT⟩⟩
  · exact ⟨(0, 0), fun h => absurd h hi⟩
theorem q_SRat : ∀ i : Nat, i < 56 → ∃ x, q_SR[i]? = some x ∧ q_tS i = Term.string x.1 x.2.1 := by
  intro i hi
  have h : i < q_SR.length := hi
  refine ⟨q_SR[i], List.getElem?_eq_getElem h, ?_⟩
  show Term.string (q_SR.getD i ("", 0, "")).1 (q_SR.getD i ("", 0, "")).2.1 = _
  rw [List.getD_eq_getElem?_getD, List.getElem?_eq_getElem h]
  rfl
theorem q_env {args : Array Value} {s : State} (hts : ∀ w ∈ lw_tbl, w.before args s = true) (hc : q_CN.before args s = true) : ∃ (D : va_G) (cy : Nat → ClassId) (sa sv : Nat → Nat), q_EV (q_E0 D cy sa sv s) s s.heap ∧ q_EX (q_E0 D cy sa sv s) s s.heap := by
  have hs := flat_of_before _ hc
  have ht1 : ∀ w ∈ tables_1, w.before args s = true := fun w hw => hts w (List.mem_append_right _ hw)
  have hg : ∀ w ∈ q_GW, w.before args s = true := fun w hw => hts w (List.mem_filter.mp hw).1
  obtain ⟨d, hd⟩ := Classical.axiomOfChoice (q_cls hg)
  obtain ⟨c0, h01, h02⟩ := q_arrc (ty := .byte) (fun cA h => h) (ht1 _ (q_t1 (i := 66) rfl))
  obtain ⟨c1, h11, h12⟩ := q_arrc (ty := .int) (fun cA h => h) (ht1 _ (q_t1 (i := 67) rfl))
  obtain ⟨c2, h21, h22⟩ := q_arrc (ty := .long) (fun cA h => h) (ht1 _ (q_t1 (i := 168) rfl))
  obtain ⟨c3, h31, h32⟩ := q_arrc (ty := .boolean) (fun cA h => h) (ht1 _ (q_t7 (i := 45) rfl))
  have hA0 : ∀ (D : va_G) (cy : Nat → ClassId) (sa sv : Nat → Nat) (a : Nat), a < s.heap.size → ¬ q_A (q_E0 D cy sa sv s) a := fun D cy sa sv a ha ⟨r, h1, h2⟩ => absurd ha (Nat.not_lt.mpr (h2 ▸ h1))
  obtain ⟨q, hq⟩ := q_strs (A := fun a => ∃ r : Nat, s.heap.size ≤ r ∧ r = a) hc (fun a ha ⟨r, h1, h2⟩ => absurd ha (Nat.not_lt.mpr (h2 ▸ h1)))
  refine ⟨(fun c => (d c).1, fun c => (d c).2), fun k => match k with | 0 => c0 | 1 => c1 | 2 => c2 | _ => c3, fun i => (q i).1, fun i => (q i).2, ⟨⟨fun c qq hqq => hd c qq hqq, fun k qq hqq => ?_⟩, fun a b _ _ h => h, fun w hw => va_Nw.of (q_nw_tab hw) (ht1 w (List.mem_filter.mp hw).1), ⟨fun i x hx => ?_, fun i hi => (hq i hi).2, ?_, ?_⟩⟩, ⟨fun w hw => va_Nw.of (q_dw_tab hw) (ht1 w (List.mem_filter.mp hw).1), ?_, ?_⟩⟩
  · match k, hqq with
    | 0, hqq => cases hqq; exact ⟨h01, h02⟩
    | 1, hqq => cases hqq; exact ⟨h11, h12⟩
    | 2, hqq => cases hqq; exact ⟨h21, h22⟩
    | 3, hqq => cases hqq; exact ⟨h31, h32⟩
    | k + 4, hqq => cases hqq
  · have hi : i < 56 := (List.getElem?_eq_some_iff.mp hx).1
    obtain ⟨x', h1, h2⟩ := q_SRat i hi
    cases hx.symm.trans h1
    refine vk_R.of (q_srefs ht1 i x hx) ?_
    rw [← h2]
    exact (hq i hi).1
  · exact va_Zof (ht1 _ (q_t2 (i := 163) rfl)) (ht1 _ (q_t1 (i := 13) rfl)) (va_eqt (hs (Cond.eq (Term.static "java/lang/String" "COMPACT_STRINGS" "Z") (.int 1)) (List.mem_of_getElem? (i := 4) (by decide +kernel)))) (hA0 _ _ _ _)
  · exact va_Zqof (ht1 _ (q_t2 (i := 180) rfl)) (ht1 _ (q_t1 (i := 15) rfl)) (hs (Cond.isRef (Term.static "jdk/internal/util/Preconditions" "SIOOBE_FORMATTER" "Ljava/util/function/BiFunction;")) (List.mem_of_getElem? (i := 5) (by decide +kernel))) (hA0 _ _ _ _)
  · exact vx_Zqof (ht1 _ (q_t5 (i := 231) rfl)) (ht1 _ (q_t1 (i := 20) rfl)) (hs (Cond.isRef (Term.static "java/lang/Throwable" "UNASSIGNED_STACK" "[Ljava/lang/StackTraceElement;")) (List.mem_of_getElem? (i := 9) (by decide +kernel))) (hA0 _ _ _ _)
  · exact vx_Zqof (ht1 _ (q_t5 (i := 233) rfl)) (ht1 _ (q_t1 (i := 20) rfl)) (hs (Cond.isRef (Term.static "java/lang/Throwable" "SUPPRESSED_SENTINEL" "Ljava/util/List;")) (List.mem_of_getElem? (i := 10) (by decide +kernel))) (hA0 _ _ _ _)
