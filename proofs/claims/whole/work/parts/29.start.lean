theorem nw_L_8 : q_nw RL 8 9 9 [.null, .null, .null, .null, .null, .null, .null, .int 0, .null] := ⟨RX10, TX10, tyX10, q_ciX10, by decide +kernel, fun _ => rfl, q_g1 (i := 24) rfl rfl, q_g1 (i := 25) rfl rfl, q_g1 (i := 1) rfl rfl⟩
theorem nw_L_16 : q_nw RL 16 11 32 [.int 0, .int 0, .int 0, .null, .null, .null, .int 0, .int 0, .int 0, .int 0, .int 0, .int 0, .int 0, .int 0, .long 0, .null, .null, .null, .null, .int 0, .int 0, .null, .null, .null, .int 0, .null, .int 0, .long 0, .long 0, .null, .null, .int 0] := ⟨RX12, TX12, tyX12, q_ciX12, by decide +kernel, fun _ => rfl, q_g6 (i := 29) rfl rfl, q_g6 (i := 30) rfl rfl, q_g1 (i := 12) rfl rfl⟩
theorem cn_L_15 : q_cn RL 15 yX10_init cX10_init 1 0 := ⟨q_g1 (i := 26) rfl rfl, q_g1 (i := 27) rfl rfl, q_g1 (i := 1) rfl rfl, q_g1 (i := 28) rfl rfl, ⟨by decide +kernel, by decide +kernel⟩, by decide +kernel, rfl⟩
theorem cn_L_18 : q_cn RL 18 yX12_init cX12_init 1 0 := ⟨q_g6 (i := 31) rfl rfl, q_g6 (i := 32) rfl rfl, q_g1 (i := 12) rfl rfl, q_g6 (i := 33) rfl rfl, ⟨by decide +kernel, by decide +kernel⟩, by decide +kernel, rfl⟩
/-- the two objects and the law's long[1], as the law makes them -/
def f_start : Option qS := (n_O (fun _ => none) (0 + 0) 9 [.null, .null, .null, .null, .null, .null, .null, .int 0, .null]).bind fun g1 => (f_X10_init g1 (0 + 1) 0).bind fun g2 => (n_O g2 (0 + 75) 11 [.int 0, .int 0, .int 0, .null, .null, .null, .int 0, .int 0, .int 0, .int 0, .int 0, .int 0, .int 0, .int 0, .long 0, .null, .null, .null, .null, .int 0, .int 0, .null, .null, .null, .int 0, .null, .int 0, .long 0, .long 0, .null, .null, .int 0]).bind fun g3 => (f_X12_init g3 (0 + 76) 75).bind fun g4 => (n_L 1 g4 (0 + 87) 1).bind fun g5 => some g5
set_option maxHeartbeats 4000000 in
set_option maxRecDepth 100000 in
theorem whole_start_of {Inv : qS → Nat → Prop} (hP : q_PA Inv) (h0 : ∃ g5, f_start = some g5 ∧ Inv g5 88) {p : Program} {e : Env} {s : State} {m : MethodId} {below : List Frame} {meth : Method} {c : Code} (l : Launch) (hlx : l.stackTraces = false) {b L : Nat} {xs : Nat → Int32} (hL : L ≤ 3072) (C0 : lw_At p s m meth c b L xs) : W p l e room_1 s m #[Value.ref b] below meth c s.heap [] 0 0 (lw_Z below #[Value.ref b] s) (entryFrame m ([Value.ref b] : List Value).toArray 7) := by
  obtain ⟨g5, hf, hi⟩ := h0
  obtain ⟨D, cy, sa, sv, hEV, hEX⟩ := q_env C0.2.2.2.2.2.1 C0.2.2.2.2.2.2.2.2.2
  have h : q_LC l p s m meth c b L xs D cy sa sv := ⟨C0, hEV, hEX, hlx⟩
  have hw : q_WF s (fun r => s.heap.size + r) 88 := ⟨fun r q _ _ e => Nat.add_left_cancel e, fun r _ => Nat.le_add_right _ _⟩
  have har : q_ar (q_En D cy sa sv (fun r => s.heap.size + r) 88) 0 88 s.heap.size := fun i hi => ⟨by show 0 + i < 88; omega, by show s.heap.size + (0 + i) = s.heap.size + i; omega⟩
  have hj : q_J (q_En D cy sa sv (fun r => s.heap.size + r) 88) s (fun _ => none) s.heap [] := ⟨fun r x hr => (by cases hr), va_S.rf⟩
  have C := h.C hw
  have hx := C.1
  have hb := C.2.1
  have hz : s.heap.size = s.heap.size + 0 := rfl
  have hl := lv_entry [Value.ref b] (n := 7) (Nat.le_of_ble_eq_true rfl)
  rw [lg_entry_eq]
  generalize (lg_sl [Value.ref b] ++ List.replicate (7 - (lg_sl [Value.ref b]).length) Slot.unset).toArray = ls at hl ⊢
  have hl : lv_has ls 7 [(0, .ref b)] := hl
  show W p l e room_1 s m #[Value.ref b] below meth c s.heap [] 0 0 _ (F0 m 0 ls [])
  unfold f_start at hf
  refine q_newO (k := 0) C hj hz har rfl nw_L_8 rfl rfl dL_law_0 hf (fun g1 H hj hz hf => ?_)
  refine lv_dup hx hb dL_law_3 rfl ?_
  refine q_cI (k := 1) C hj hz har rfl cn_L_15 (r := 0) (As := []) (rest := [.ref (s.heap.size + 0)]) hf (fun g9 h9 => c_X10_init l _ h9) rfl hl rfl rfl rfl dL_law_4 rfl rfl (fun g2 H locs hj hz hf => ?_)
  refine lv_astore_n (lv' := [(1, .ref (s.heap.size + 0)), (0, .ref b)]) hx hb dL_law_7 rfl hl (by decide) rfl (fun ls hl => ?_)
  refine q_newO (k := 75) C hj hz har rfl nw_L_16 rfl rfl dL_law_8 hf (fun g3 H hj hz hf => ?_)
  refine lv_dup hx hb dL_law_11 rfl ?_
  refine q_cI (k := 76) C hj hz har rfl cn_L_18 (r := 75) (As := []) (rest := [.ref (s.heap.size + 75)]) hf (fun g9 h9 => c_X12_init l _ h9) rfl hl rfl rfl rfl dL_law_12 rfl rfl (fun g4 H locs hj hz hf => ?_)
  refine lv_astore_n (lv' := [(2, .ref (s.heap.size + 75)), (1, .ref (s.heap.size + 0)), (0, .ref b)]) hx hb dL_law_15 rfl hl (by decide) rfl (fun ls hl => ?_)
  refine lv_iconst (v := 1) hx hb dL_law_16 qi_1 ?_
  refine q_newJ (k := 87) C hj hz har rfl rfl rfl rfl dL_law_17 hf (fun g5 H hj hz hf => ?_)
  cases hf
  refine lv_astore_n (lv' := [(3, .ref (s.heap.size + 87)), (2, .ref (s.heap.size + 75)), (1, .ref (s.heap.size + 0)), (0, .ref b)]) hx hb dL_law_19 rfl hl (by decide) rfl (fun ls hl => ?_)
  refine lv_iconst (v := 0) hx hb dL_law_20 qi_0 ?_
  refine lv_istore (lv' := [(4, .int 0), (3, .ref (s.heap.size + 87)), (2, .ref (s.heap.size + 75)), (1, .ref (s.heap.size + 0)), (0, .ref b)]) hx hb dL_law_21 hl (by decide) rfl (fun ls hl => ?_)
  refine q_LC.forget hw hj ?_
  refine W.widen (k := q_ck 0) (n := q_sk 0) (Nat.le_of_ble_eq_true rfl) (Nat.le_of_ble_eq_true rfl) ?_
  exact law_loop h hP hL (L + 1) 0 (fun r => s.heap.size + r) 88 _ H ls (by omega) (by omega) ⟨hw, hj.1, q_LC.S hw hj, hi, (hP.1 _ _ hi).1, Nat.le_refl _⟩ (lv_sub hl [4, 3, 2, 1, 0] rfl)
