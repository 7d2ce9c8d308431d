def f_X12_thrown (g : qS) (a0 : Nat) : Option Int32 := (g_C g a0 11).bind fun _ => (g_I g a0 11 0).bind fun v1 => some v1
set_option maxHeartbeats 4000000 in
set_option maxRecDepth 100000 in
theorem c_X12_thrown (l : Launch) (E : qV) {g : qS} {a0 : Nat} {res : Int32} (hf : f_X12_thrown g a0 = some res) : q_MR l yX12_thrown cX12_thrown 1 (some .int) 0 0 E [.ref (q_ad E a0)] g (some (.int res)) ∧ ∃ fs, g a0 = some (.inr (11, fs)) := by
  unfold f_X12_thrown at hf
  obtain ⟨u9, hu9, hf⟩ := q_ob hf
  refine ⟨q_ofR (by decide) rfl ?_, g_C_sp hu9⟩
  intro p e s m args below meth c ls C hw hl
  have hj : q_J E s g s.heap [] := ⟨hw, va_S.rf⟩
  have hx := C.1
  have hb := C.2.1
  have C : q_C E p s m args meth c cX12_thrown RX12 1 (some .int) := C
  have hl : lv_has ls 1 [(0, .ref (q_ad E a0))] := hl
  refine lv_aload_n hx hb dX12_thrown_0 rfl (lv_at hl 0 rfl) ?_
  refine q_getI C hj lk_X12_48 dX12_thrown_1 hf (fun v1 hf => ?_)
  exact q_iretR C dX12_thrown_4 hf
def f_X12_refused (g : qS) (a0 : Nat) (a1 : Int32) : Option (Int32 × qS) := (g_C g a0 11).bind fun _ => (p_I g a0 11 1 a1).bind fun g1 => (p_I g1 a0 11 2 (-1)).bind fun g2 => some (-1, g2)
set_option maxHeartbeats 4000000 in
set_option maxRecDepth 100000 in
theorem c_X12_refused (l : Launch) (E : qV) {g : qS} {a0 : Nat} {a1 : Int32} {res : (Int32 × qS)} (hf : f_X12_refused g a0 a1 = some res) : q_MW l yX12_refused cX12_refused 2 (some .int) 0 0 E [.ref (q_ad E a0), .int a1] g (some (.int res.1)) res.2 ∧ ∃ fs, g a0 = some (.inr (11, fs)) := by
  unfold f_X12_refused at hf
  obtain ⟨u9, hu9, hf⟩ := q_ob hf
  refine ⟨q_ofW (by decide) rfl ?_, g_C_sp hu9⟩
  intro p e s m args below meth c ls C hj hl
  have hx := C.1
  have hb := C.2.1
  have C : q_C E p s m args meth c cX12_refused RX12 2 (some .int) := C
  have hl : lv_has ls 2 [(0, .ref (q_ad E a0)), (1, .int a1)] := hl
  refine lv_aload_n hx hb dX12_refused_0 rfl (lv_at hl 0 rfl) ?_
  refine lv_iload_n hx hb dX12_refused_1 rfl (lv_at hl 1 rfl) ?_
  refine q_putI C hj fp_X12_51 dX12_refused_2 hf (fun g1 H locs hj hf => ?_)
  refine lv_aload_n hx hb dX12_refused_5 rfl (lv_at hl 0 rfl) ?_
  refine lv_iconst (v := -1) hx hb dX12_refused_6 qi_m1 ?_
  refine q_putI C hj fp_X12_9 dX12_refused_7 hf (fun g2 H locs hj hf => ?_)
  refine lv_iconst (v := -1) hx hb dX12_refused_10 qi_m1 ?_
  exact q_iretW C hj dX12_refused_11 hf
def f_X12_denied (g : qS) (a0 : Nat) (a1 : Int32) : Option (Int32 × qS) := (g_C g a0 11).bind fun _ => q_b2 (f_X12_refused g a0 a1) fun v2 g1 => some (0, g1)
set_option maxHeartbeats 4000000 in
set_option maxRecDepth 100000 in
theorem c_X12_denied (l : Launch) (E : qV) {g : qS} {a0 : Nat} {a1 : Int32} {res : (Int32 × qS)} (hf : f_X12_denied g a0 a1 = some res) : q_MW l yX12_denied cX12_denied 2 (some .boolean) 1 21 E [.ref (q_ad E a0), .int a1] g (some (.int res.1)) res.2 ∧ ∃ fs, g a0 = some (.inr (11, fs)) := by
  unfold f_X12_denied at hf
  obtain ⟨u9, hu9, hf⟩ := q_ob hf
  refine ⟨q_ofW (by decide) rfl ?_, g_C_sp hu9⟩
  intro p e s m args below meth c ls C hj hl
  have hx := C.1
  have hb := C.2.1
  have C : q_C E p s m args meth c cX12_denied RX12 2 (some .boolean) := C
  have hl : lv_has ls 2 [(0, .ref (q_ad E a0)), (1, .int a1)] := hl
  refine lv_aload_n hx hb dX12_denied_0 rfl (lv_at hl 0 rfl) ?_
  refine lv_iload_n hx hb dX12_denied_1 rfl (lv_at hl 1 rfl) ?_
  refine q_cVWI C hj cw_X12_54 (As := [.int a1]) (rest := []) hf (fun v9 g9 h9 => c_X12_refused l E h9) rfl hl rfl rfl rfl dX12_denied_2 ⟨Nat.zero_le _, Nat.zero_le _⟩ (fun v2 g1 H locs hj hf => ?_)
  refine lv_pop hx hb dX12_denied_5 rfl ?_
  refine lv_iconst (v := 0) hx hb dX12_denied_6 qi_0 ?_
  exact q_z0retW C hj dX12_denied_7 hf
def f_X12_good (g : qS) (a0 : Nat) (a1 : Int32) : Option (Int32 × qS) := (g_C g a0 11).bind fun _ => (p_I g a0 11 1 0).bind fun g1 => (p_I g1 a0 11 2 (-1)).bind fun g2 => some (a1, g2)
set_option maxHeartbeats 4000000 in
set_option maxRecDepth 100000 in
theorem c_X12_good (l : Launch) (E : qV) {g : qS} {a0 : Nat} {a1 : Int32} {res : (Int32 × qS)} (hf : f_X12_good g a0 a1 = some res) : q_MW l yX12_good cX12_good 2 (some .int) 0 0 E [.ref (q_ad E a0), .int a1] g (some (.int res.1)) res.2 ∧ ∃ fs, g a0 = some (.inr (11, fs)) := by
  unfold f_X12_good at hf
  obtain ⟨u9, hu9, hf⟩ := q_ob hf
  refine ⟨q_ofW (by decide) rfl ?_, g_C_sp hu9⟩
  intro p e s m args below meth c ls C hj hl
  have hx := C.1
  have hb := C.2.1
  have C : q_C E p s m args meth c cX12_good RX12 2 (some .int) := C
  have hl : lv_has ls 2 [(0, .ref (q_ad E a0)), (1, .int a1)] := hl
  refine lv_aload_n hx hb dX12_good_0 rfl (lv_at hl 0 rfl) ?_
  refine lv_iconst (v := 0) hx hb dX12_good_1 qi_0 ?_
  refine q_putI C hj fp_X12_51 dX12_good_2 hf (fun g1 H locs hj hf => ?_)
  refine lv_aload_n hx hb dX12_good_5 rfl (lv_at hl 0 rfl) ?_
  refine lv_iconst (v := -1) hx hb dX12_good_6 qi_m1 ?_
  refine q_putI C hj fp_X12_9 dX12_good_7 hf (fun g2 H locs hj hf => ?_)
  refine lv_iload_n hx hb dX12_good_10 rfl (lv_at hl 1 rfl) ?_
  exact q_iretW C hj dX12_good_11 hf
def f_X12_granted (g : qS) (a0 : Nat) : Option (Int32 × qS) := (g_C g a0 11).bind fun _ => q_b2 (f_X12_good g a0 0) fun v2 g1 => some (1, g1)
set_option maxHeartbeats 4000000 in
set_option maxRecDepth 100000 in
theorem c_X12_granted (l : Launch) (E : qV) {g : qS} {a0 : Nat} {res : (Int32 × qS)} (hf : f_X12_granted g a0 = some res) : q_MW l yX12_granted cX12_granted 1 (some .boolean) 1 21 E [.ref (q_ad E a0)] g (some (.int res.1)) res.2 ∧ ∃ fs, g a0 = some (.inr (11, fs)) := by
  unfold f_X12_granted at hf
  obtain ⟨u9, hu9, hf⟩ := q_ob hf
  refine ⟨q_ofW (by decide) rfl ?_, g_C_sp hu9⟩
  intro p e s m args below meth c ls C hj hl
  have hx := C.1
  have hb := C.2.1
  have C : q_C E p s m args meth c cX12_granted RX12 1 (some .boolean) := C
  have hl : lv_has ls 1 [(0, .ref (q_ad E a0))] := hl
  refine lv_aload_n hx hb dX12_granted_0 rfl (lv_at hl 0 rfl) ?_
  refine lv_iconst (v := 0) hx hb dX12_granted_1 qi_0 ?_
  refine q_cVWI C hj cw_X12_58 (As := [.int 0]) (rest := []) hf (fun v9 g9 h9 => c_X12_good l E h9) rfl hl rfl rfl rfl dX12_granted_2 ⟨Nat.zero_le _, Nat.zero_le _⟩ (fun v2 g1 H locs hj hf => ?_)
  refine lv_pop hx hb dX12_granted_5 rfl ?_
  refine lv_iconst (v := 1) hx hb dX12_granted_6 qi_1 ?_
  exact q_z1retW C hj dX12_granted_7 hf
def f_X12_in (g : qS) (a0 : Int32) (a1 : Int32) (a2 : Int32) : Option Int32 := if a0 < a1 then (some 0) else (if a2 < a0 then (some 0) else (some 1))
set_option maxHeartbeats 4000000 in
set_option maxRecDepth 100000 in
theorem c_X12_in (l : Launch) (E : qV) {g : qS} {a0 : Int32} {a1 : Int32} {a2 : Int32} {res : Int32} (hf : f_X12_in g a0 a1 a2 = some res) : q_MR l yX12_in cX12_in 3 (some .boolean) 0 0 E [.int a0, .int a1, .int a2] g (some (.int res)) := by
  unfold f_X12_in at hf
  refine q_ofR (by decide) rfl ?_
  intro p e s m args below meth c ls C hw hl
  have hj : q_J E s g s.heap [] := ⟨hw, va_S.rf⟩
  have hx := C.1
  have hb := C.2.1
  have C : q_C E p s m args meth c cX12_in RX12 3 (some .boolean) := C
  have hl : lv_has ls 3 [(0, .int a0), (1, .int a1), (2, .int a2)] := hl
  refine lv_iload_n hx hb dX12_in_0 rfl (lv_at hl 0 rfl) ?_
  refine lv_iload_n hx hb dX12_in_1 rfl (lv_at hl 1 rfl) ?_
  refine q_iclt C (tgt := 14) dX12_in_2 (by decide) hf (fun hf => ?_) (fun hf => ?_)
  · refine lv_iconst (v := 0) hx hb dX12_in_14 qi_0 ?_
    exact q_z0retR C dX12_in_15 hf
  · refine lv_iload_n hx hb dX12_in_5 rfl (lv_at hl 0 rfl) ?_
    refine lv_iload_n hx hb dX12_in_6 rfl (lv_at hl 2 rfl) ?_
    refine q_icgt C (tgt := 14) dX12_in_7 (by decide) hf (fun hf => ?_) (fun hf => ?_)
    · refine lv_iconst (v := 0) hx hb dX12_in_14 qi_0 ?_
      exact q_z0retR C dX12_in_15 hf
    · refine lv_iconst (v := 1) hx hb dX12_in_10 qi_1 ?_
      refine lv_goto (tgt := 15) hx hb dX12_in_11 (by decide) ?_
      exact q_z1retR C dX12_in_15 hf
def L_X12_common_6  (g : qS) : Nat → Int64 → Int64 → Option Int64
  | 0, _, _ => none
  | n + 1, x4, x6 => if x6 = 0 then (some x4) else (if (x6 : Int64) = 0 then none else (L_X12_common_6 g n x6 (x4 - x4 / x6 * x6)))
set_option maxHeartbeats 4000000 in
set_option maxRecDepth 100000 in
theorem w_L_X12_common_6 {l : Launch} {E : qV} {p : Program} {e : Env} {s : State} {m : MethodId} {args : Array Value} {below : List Frame} {meth : Method} {c : Code}  {g : qS} {res : Int64} (C : q_C E p s m args meth c cX12_common RX12 10 (some .long))  : ∀ {n : Nat} {x4 : Int64} {x6 : Int64} {ls : Array Slot}, q_J E s g s.heap [] → lv_has ls 10 [(4, .long x4), (6, .long x6)] → L_X12_common_6 g n x4 x6 = some res → W p l e (q_rm 0 0) s m args below meth c s.heap [] 0 0 (q_ZR below (some (.long res)) args s) (F0 m 6 ls []) := by
  have hx := C.1
  have hb := C.2.1
  intro n
  induction n with
  | zero =>
    intro x4 x6 ls hj hl hf
    cases hf
  | succ n ih_ =>
    intro x4 x6 ls hj hl hf
    have ih : ∀ (x4 : Int64) (x6 : Int64) (ls : Array Slot), q_J E s g s.heap [] → lv_has ls 10 [(4, .long x4), (6, .long x6)] → L_X12_common_6 g n x4 x6 = some res → W p l e (q_rm 0 0) s m args below meth c s.heap [] 0 0 (q_ZR below (some (.long res)) args s) (F0 m 6 ls []) := fun x4 x6 ls hj hl hf => ih_ hj hl hf
    unfold L_X12_common_6 at hf
    refine lv_lload hx hb dX12_common_6 (lv_at hl 1 rfl) ?_
    refine lv_lconst (v := 0) hx hb dX12_common_8 (by decide) ?_
    refine q_lceq C (tgt := 31) dX12_common_9 dX12_common_10 (by decide) hf (fun hf => ?_) (fun hf => ?_)
    · refine lv_lload hx hb dX12_common_31 (lv_at hl 0 rfl) ?_
      exact q_lretR C dX12_common_33 hf
    · refine lv_lload hx hb dX12_common_13 (lv_at hl 0 rfl) ?_
      refine lv_lload hx hb dX12_common_15 (lv_at hl 1 rfl) ?_
      refine q_lrem C dX12_common_17 hf (fun hf => ?_)
      refine lv_lstore (lv' := [(8, .long (x4 - x4 / x6 * x6)), (4, .long x4), (6, .long x6)]) hx hb dX12_common_18 hl (by decide) rfl (fun ls hl => ?_)
      refine lv_lload hx hb dX12_common_20 (lv_at hl 2 rfl) ?_
      refine lv_lstore (lv' := [(4, .long x6), (8, .long (x4 - x4 / x6 * x6)), (6, .long x6)]) hx hb dX12_common_22 hl (by decide) rfl (fun ls hl => ?_)
      refine lv_lload hx hb dX12_common_24 (lv_at hl 1 rfl) ?_
      refine lv_lstore (lv' := [(6, .long (x4 - x4 / x6 * x6)), (4, .long x6), (8, .long (x4 - x4 / x6 * x6))]) hx hb dX12_common_26 hl (by decide) rfl (fun ls hl => ?_)
      refine lv_goto (tgt := 6) hx hb dX12_common_28 (by decide) ?_
      exact ih _ _  ls hj (lv_sub hl [1, 0] rfl) hf
def f_X12_common (g : qS) (a0 : Int64) (a1 : Int64) : Option Int64 := L_X12_common_6 g 1000000000 a0 a1
set_option maxHeartbeats 4000000 in
set_option maxRecDepth 100000 in
theorem c_X12_common (l : Launch) (E : qV) {g : qS} {a0 : Int64} {a1 : Int64} {res : Int64} (hf : f_X12_common g a0 a1 = some res) : q_MR l yX12_common cX12_common 10 (some .long) 0 0 E [.long a0, .long a1] g (some (.long res)) := by
  unfold f_X12_common at hf
  refine q_ofR (by decide) rfl ?_
  intro p e s m args below meth c ls C hw hl
  have hj : q_J E s g s.heap [] := ⟨hw, va_S.rf⟩
  have hx := C.1
  have hb := C.2.1
  have C : q_C E p s m args meth c cX12_common RX12 10 (some .long) := C
  have hl : lv_has ls 10 [(0, .long a0), (2, .long a1)] := hl
  refine lv_lload_n hx hb dX12_common_0 rfl (lv_at hl 0 rfl) ?_
  refine lv_lstore (lv' := [(4, .long a0), (0, .long a0), (2, .long a1)]) hx hb dX12_common_1 hl (by decide) rfl (fun ls hl => ?_)
  refine lv_lload_n hx hb dX12_common_3 rfl (lv_at hl 2 rfl) ?_
  refine lv_lstore (lv' := [(6, .long a1), (4, .long a0), (0, .long a0), (2, .long a1)]) hx hb dX12_common_4 hl (by decide) rfl (fun ls hl => ?_)
  refine w_L_X12_common_6 C  hj (lv_sub hl [1, 0] rfl) hf
def f_X12_fraction (g : qS) (a0 : Nat) (a1 : Int64) (a2 : Int64) (a3 : Int32) : Option (Int64 × qS) := (g_C g a0 11).bind fun _ => q_b2 (f_X12_good g a0 0) fun v2 g1 => if a3 = 0 then ((f_X12_common g1 a1 a2).bind fun v3 => if (v3 : Int64) = 0 then none else (some (a1 / v3, g1))) else ((f_X12_common g1 a1 a2).bind fun v4 => if (v4 : Int64) = 0 then none else (some (a2 / v4, g1)))
set_option maxHeartbeats 4000000 in
set_option maxRecDepth 100000 in
theorem c_X12_fraction (l : Launch) (E : qV) {g : qS} {a0 : Nat} {a1 : Int64} {a2 : Int64} {a3 : Int32} {res : (Int64 × qS)} (hf : f_X12_fraction g a0 a1 a2 a3 = some res) : q_MW l yX12_fraction cX12_fraction 6 (some .long) 1 29 E [.ref (q_ad E a0), .long a1, .long a2, .int a3] g (some (.long res.1)) res.2 ∧ ∃ fs, g a0 = some (.inr (11, fs)) := by
  unfold f_X12_fraction at hf
  obtain ⟨u9, hu9, hf⟩ := q_ob hf
  refine ⟨q_ofW (by decide) rfl ?_, g_C_sp hu9⟩
  intro p e s m args below meth c ls C hj hl
  have hx := C.1
  have hb := C.2.1
  have C : q_C E p s m args meth c cX12_fraction RX12 6 (some .long) := C
  have hl : lv_has ls 6 [(0, .ref (q_ad E a0)), (1, .long a1), (3, .long a2), (5, .int a3)] := hl
  refine lv_aload_n hx hb dX12_fraction_0 rfl (lv_at hl 0 rfl) ?_
  refine lv_iconst (v := 0) hx hb dX12_fraction_1 qi_0 ?_
  refine q_cVWI C hj cw_X12_58 (As := [.int 0]) (rest := []) hf (fun v9 g9 h9 => c_X12_good l E h9) rfl hl rfl rfl rfl dX12_fraction_2 ⟨Nat.zero_le _, Nat.zero_le _⟩ (fun v2 g1 H locs hj hf => ?_)
  refine lv_pop hx hb dX12_fraction_5 rfl ?_
  refine lv_iload hx hb dX12_fraction_6 (lv_at hl 3 rfl) ?_
  refine q_ifeq C (tgt := 15) dX12_fraction_8 (by decide) hf (fun hf => ?_) (fun hf => ?_)
  · refine lv_lload_n hx hb dX12_fraction_15 rfl (lv_at hl 1 rfl) ?_
    refine lv_lload_n hx hb dX12_fraction_16 rfl (lv_at hl 1 rfl) ?_
    refine lv_lload_n hx hb dX12_fraction_17 rfl (lv_at hl 2 rfl) ?_
    refine q_cSRL C hj cw_X12_61 (As := [.long a1, .long a2]) (rest := [.long a1]) hf (fun v9 h9 => c_X12_common l E h9) rfl hl rfl rfl rfl dX12_fraction_18 ⟨Nat.zero_le _, Nat.zero_le _⟩ (fun v3 hf => ?_)
    refine q_ldiv C dX12_fraction_21 hf (fun hf => ?_)
    exact q_lretW C hj dX12_fraction_22 hf
  · refine lv_lload_n hx hb dX12_fraction_11 rfl (lv_at hl 2 rfl) ?_
    refine lv_goto (tgt := 16) hx hb dX12_fraction_12 (by decide) ?_
    refine lv_lload_n hx hb dX12_fraction_16 rfl (lv_at hl 1 rfl) ?_
    refine lv_lload_n hx hb dX12_fraction_17 rfl (lv_at hl 2 rfl) ?_
    refine q_cSRL C hj cw_X12_61 (As := [.long a1, .long a2]) (rest := [.long a2]) hf (fun v9 h9 => c_X12_common l E h9) rfl hl rfl rfl rfl dX12_fraction_18 ⟨Nat.zero_le _, Nat.zero_le _⟩ (fun v4 hf => ?_)
    refine q_ldiv C dX12_fraction_21 hf (fun hf => ?_)
    exact q_lretW C hj dX12_fraction_22 hf
def f_X12_byteAt (g : qS) (a0 : Nat) (a1 : Int32) : Option Int32 := (g_C g a0 11).bind fun _ => (g_I g a0 11 7).bind fun v1 => if v1 ≤ a1 then (some (-1)) else ((g_R g a0 11 5).bind fun v2 => (a_B g v2 a1).bind fun v3 => some (v3 &&& 255))
set_option maxHeartbeats 4000000 in
set_option maxRecDepth 100000 in
theorem c_X12_byteAt (l : Launch) (E : qV) {g : qS} {a0 : Nat} {a1 : Int32} {res : Int32} (hf : f_X12_byteAt g a0 a1 = some res) : q_MR l yX12_byteAt cX12_byteAt 2 (some .int) 0 0 E [.ref (q_ad E a0), .int a1] g (some (.int res)) ∧ ∃ fs, g a0 = some (.inr (11, fs)) := by
  unfold f_X12_byteAt at hf
  obtain ⟨u9, hu9, hf⟩ := q_ob hf
  refine ⟨q_ofR (by decide) rfl ?_, g_C_sp hu9⟩
  intro p e s m args below meth c ls C hw hl
  have hj : q_J E s g s.heap [] := ⟨hw, va_S.rf⟩
  have hx := C.1
  have hb := C.2.1
  have C : q_C E p s m args meth c cX12_byteAt RX12 2 (some .int) := C
  have hl : lv_has ls 2 [(0, .ref (q_ad E a0)), (1, .int a1)] := hl
  refine lv_iload_n hx hb dX12_byteAt_0 rfl (lv_at hl 1 rfl) ?_
  refine lv_aload_n hx hb dX12_byteAt_1 rfl (lv_at hl 0 rfl) ?_
  refine q_getI C hj lk_X12_65 dX12_byteAt_2 hf (fun v1 hf => ?_)
  refine q_icge C (tgt := 21) dX12_byteAt_5 (by decide) hf (fun hf => ?_) (fun hf => ?_)
  · refine lv_iconst (v := -1) hx hb dX12_byteAt_21 qi_m1 ?_
    exact q_iretR C dX12_byteAt_22 hf
  · refine lv_aload_n hx hb dX12_byteAt_8 rfl (lv_at hl 0 rfl) ?_
    refine q_getR C hj lk_X12_13 dX12_byteAt_9 hf (fun v2 hf => ?_)
    refine lv_iload_n hx hb dX12_byteAt_12 rfl (lv_at hl 1 rfl) ?_
    refine q_aldB C hj dX12_byteAt_13 hf (fun v3 hf => ?_)
    refine lv_sipush (v := 255) hx hb dX12_byteAt_14 (by decide) ?_
    refine lv_iand hx hb dX12_byteAt_17 ?_
    refine lv_goto (tgt := 22) hx hb dX12_byteAt_18 (by decide) ?_
    exact q_iretR C dX12_byteAt_22 hf
def f_X12_isLetter (g : qS) (a0 : Int32) : Option Int32 := if a0 < 97 then (some 0) else (if 122 < a0 then (some 0) else (some 1))
set_option maxHeartbeats 4000000 in
set_option maxRecDepth 100000 in
theorem c_X12_isLetter (l : Launch) (E : qV) {g : qS} {a0 : Int32} {res : Int32} (hf : f_X12_isLetter g a0 = some res) : q_MR l yX12_isLetter cX12_isLetter 1 (some .boolean) 0 0 E [.int a0] g (some (.int res)) := by
  unfold f_X12_isLetter at hf
  refine q_ofR (by decide) rfl ?_
  intro p e s m args below meth c ls C hw hl
  have hj : q_J E s g s.heap [] := ⟨hw, va_S.rf⟩
  have hx := C.1
  have hb := C.2.1
  have C : q_C E p s m args meth c cX12_isLetter RX12 1 (some .boolean) := C
  have hl : lv_has ls 1 [(0, .int a0)] := hl
  refine lv_iload_n hx hb dX12_isLetter_0 rfl (lv_at hl 0 rfl) ?_
  refine lv_bipush (v := 97) hx hb dX12_isLetter_1 (by decide) ?_
  refine q_iclt C (tgt := 16) dX12_isLetter_3 (by decide) hf (fun hf => ?_) (fun hf => ?_)
  · refine lv_iconst (v := 0) hx hb dX12_isLetter_16 qi_0 ?_
    exact q_z0retR C dX12_isLetter_17 hf
  · refine lv_iload_n hx hb dX12_isLetter_6 rfl (lv_at hl 0 rfl) ?_
    refine lv_bipush (v := 122) hx hb dX12_isLetter_7 (by decide) ?_
    refine q_icgt C (tgt := 16) dX12_isLetter_9 (by decide) hf (fun hf => ?_) (fun hf => ?_)
    · refine lv_iconst (v := 0) hx hb dX12_isLetter_16 qi_0 ?_
      exact q_z0retR C dX12_isLetter_17 hf
    · refine lv_iconst (v := 1) hx hb dX12_isLetter_12 qi_1 ?_
      refine lv_goto (tgt := 17) hx hb dX12_isLetter_13 (by decide) ?_
      exact q_z1retR C dX12_isLetter_17 hf
def f_X12_isDigit (g : qS) (a0 : Int32) : Option Int32 := if a0 < 48 then (some 0) else (if 57 < a0 then (some 0) else (some 1))
set_option maxHeartbeats 4000000 in
set_option maxRecDepth 100000 in
theorem c_X12_isDigit (l : Launch) (E : qV) {g : qS} {a0 : Int32} {res : Int32} (hf : f_X12_isDigit g a0 = some res) : q_MR l yX12_isDigit cX12_isDigit 1 (some .boolean) 0 0 E [.int a0] g (some (.int res)) := by
  unfold f_X12_isDigit at hf
  refine q_ofR (by decide) rfl ?_
  intro p e s m args below meth c ls C hw hl
  have hj : q_J E s g s.heap [] := ⟨hw, va_S.rf⟩
  have hx := C.1
  have hb := C.2.1
  have C : q_C E p s m args meth c cX12_isDigit RX12 1 (some .boolean) := C
  have hl : lv_has ls 1 [(0, .int a0)] := hl
  refine lv_iload_n hx hb dX12_isDigit_0 rfl (lv_at hl 0 rfl) ?_
  refine lv_bipush (v := 48) hx hb dX12_isDigit_1 (by decide) ?_
  refine q_iclt C (tgt := 16) dX12_isDigit_3 (by decide) hf (fun hf => ?_) (fun hf => ?_)
  · refine lv_iconst (v := 0) hx hb dX12_isDigit_16 qi_0 ?_
    exact q_z0retR C dX12_isDigit_17 hf
  · refine lv_iload_n hx hb dX12_isDigit_6 rfl (lv_at hl 0 rfl) ?_
    refine lv_bipush (v := 57) hx hb dX12_isDigit_7 (by decide) ?_
    refine q_icgt C (tgt := 16) dX12_isDigit_9 (by decide) hf (fun hf => ?_) (fun hf => ?_)
    · refine lv_iconst (v := 0) hx hb dX12_isDigit_16 qi_0 ?_
      exact q_z0retR C dX12_isDigit_17 hf
    · refine lv_iconst (v := 1) hx hb dX12_isDigit_12 qi_1 ?_
      refine lv_goto (tgt := 17) hx hb dX12_isDigit_13 (by decide) ?_
      exact q_z1retR C dX12_isDigit_17 hf
def L_X12_packed_4  (g : qS) : Nat → Nat → Int64 → Int32 → Option Int64
  | 0, _, _, _ => none
  | n + 1, x0, x1, x3 => (q_slen x0).bind fun v1 => if v1 ≤ x3 then (some x1) else ((q_sch x0 x3).bind fun v2 => L_X12_packed_4 g n x0 ((32 * x1) + (((v2 - 97) + 1).toInt64)) (x3 + 1))
set_option maxHeartbeats 4000000 in
set_option maxRecDepth 100000 in
theorem w_L_X12_packed_4 {l : Launch} {E : qV} {p : Program} {e : Env} {s : State} {m : MethodId} {args : Array Value} {below : List Frame} {meth : Method} {c : Code}  {g : qS} {res : Int64} (C : q_C E p s m args meth c cX12_packed RX12 4 (some .long))  : ∀ {n : Nat} {x0 : Nat} {x1 : Int64} {x3 : Int32} {ls : Array Slot}, q_J E s g s.heap [] → lv_has ls 4 [(0, .ref (q_sa E x0)), (1, .long x1), (3, .int x3)] → L_X12_packed_4 g n x0 x1 x3 = some res → W p l e (q_rm 4 120) s m args below meth c s.heap [] 0 0 (q_ZR below (some (.long res)) args s) (F0 m 4 ls []) := by
  have hx := C.1
  have hb := C.2.1
  intro n
  induction n with
  | zero =>
    intro x0 x1 x3 ls hj hl hf
    cases hf
  | succ n ih_ =>
    intro x0 x1 x3 ls hj hl hf
    have ih : ∀ (x0 : Nat) (x1 : Int64) (x3 : Int32) (ls : Array Slot), q_J E s g s.heap [] → lv_has ls 4 [(0, .ref (q_sa E x0)), (1, .long x1), (3, .int x3)] → L_X12_packed_4 g n x0 x1 x3 = some res → W p l e (q_rm 4 120) s m args below meth c s.heap [] 0 0 (q_ZR below (some (.long res)) args s) (F0 m 4 ls []) := fun x0 x1 x3 ls hj hl hf => ih_ hj hl hf
    unfold L_X12_packed_4 at hf
    refine lv_iload_n hx hb dX12_packed_4 rfl (lv_at hl 2 rfl) ?_
    refine lv_aload_n hx hb dX12_packed_5 rfl (lv_at hl 0 rfl) ?_
    refine q_slenW C hj (cw_X12_68) hf hl rfl rfl dX12_packed_6 (fun v1 hf => ?_)
    refine q_icge C (tgt := 36) dX12_packed_9 (by decide) hf (fun hf => ?_) (fun hf => ?_)
    · refine lv_lload_n hx hb dX12_packed_36 rfl (lv_at hl 1 rfl) ?_
      exact q_lretR C dX12_packed_37 hf
    · refine lv_ldc2 (v := 32) hx hb C.2.2.2.1 (C.2.2.2.2.1 _ kc_X12_74) dX12_packed_12 ?_
      refine lv_lload_n hx hb dX12_packed_15 rfl (lv_at hl 1 rfl) ?_
      refine lv_lmul hx hb dX12_packed_16 ?_
      refine lv_aload_n hx hb dX12_packed_17 rfl (lv_at hl 0 rfl) ?_
      refine lv_iload_n hx hb dX12_packed_18 rfl (lv_at hl 2 rfl) ?_
      refine q_schW C hj (cw_X12_76) hf hl rfl rfl dX12_packed_19 (fun v2 hf => ?_)
      refine lv_bipush (v := 97) hx hb dX12_packed_22 (by decide) ?_
      refine lv_isub hx hb dX12_packed_24 ?_
      refine lv_iconst (v := 1) hx hb dX12_packed_25 qi_1 ?_
      refine lv_iadd hx hb dX12_packed_26 ?_
      refine lv_i2l hx hb dX12_packed_27 rfl ?_
      refine lv_ladd hx hb dX12_packed_28 ?_
      refine lv_lstore_n (lv' := [(1, .long ((32 * x1) + (((v2 - 97) + 1).toInt64))), (0, .ref (q_sa E x0)), (3, .int x3)]) hx hb dX12_packed_29 rfl hl (by decide) rfl (fun ls hl => ?_)
      refine lv_iinc (v := x3 + 1) (lv' := [(3, .int (x3 + 1)), (1, .long ((32 * x1) + (((v2 - 97) + 1).toInt64))), (0, .ref (q_sa E x0))]) hx hb dX12_packed_30 hl (k := 2) rfl (by rw [qi_1]) (by decide) rfl (fun ls hl => ?_)
      refine lv_goto (tgt := 4) hx hb dX12_packed_33 (by decide) ?_
      exact ih _ _ _  ls hj (lv_sub hl [2, 1, 0] rfl) hf
def f_X12_packed (g : qS) (a0 : Nat) : Option Int64 := L_X12_packed_4 g 1000000000 a0 0 0
set_option maxHeartbeats 4000000 in
set_option maxRecDepth 100000 in
theorem c_X12_packed (l : Launch) (E : qV) {g : qS} {a0 : Nat} {res : Int64} (hf : f_X12_packed g a0 = some res) : q_MR l yX12_packed cX12_packed 4 (some .long) 4 120 E [.ref (q_sa E a0)] g (some (.long res)) := by
  unfold f_X12_packed at hf
  refine q_ofR (by decide) rfl ?_
  intro p e s m args below meth c ls C hw hl
  have hj : q_J E s g s.heap [] := ⟨hw, va_S.rf⟩
  have hx := C.1
  have hb := C.2.1
  have C : q_C E p s m args meth c cX12_packed RX12 4 (some .long) := C
  have hl : lv_has ls 4 [(0, .ref (q_sa E a0))] := hl
  refine lv_lconst (v := 0) hx hb dX12_packed_0 (by decide) ?_
  refine lv_lstore_n (lv' := [(1, .long 0), (0, .ref (q_sa E a0))]) hx hb dX12_packed_1 rfl hl (by decide) rfl (fun ls hl => ?_)
  refine lv_iconst (v := 0) hx hb dX12_packed_2 qi_0 ?_
  refine lv_istore_n (lv' := [(3, .int 0), (1, .long 0), (0, .ref (q_sa E a0))]) hx hb dX12_packed_3 rfl hl (by decide) rfl (fun ls hl => ?_)
  refine w_L_X12_packed_4 C  hj (lv_sub hl [2, 1, 0] rfl) hf
def L_X12_goesOn_9 (k35 : Nat → qS → Option qS) : Nat → Nat → qS → Option qS
  | 0, _, _ => none
  | n + 1, x0, g => (g_I g x0 11 8).bind fun v1 => (f_X12_byteAt g x0 v1).bind fun v2 => if v2 = 32 then ((g_I g x0 11 8).bind fun v3 => (p_I g x0 11 8 (v3 + 1)).bind fun g4 => L_X12_goesOn_9 k35 n x0 g4) else (k35 x0 g)
set_option maxHeartbeats 4000000 in
set_option maxRecDepth 100000 in
theorem w_L_X12_goesOn_9 {l : Launch} {E : qV} {p : Program} {e : Env} {s : State} {m : MethodId} {args : Array Value} {below : List Frame} {meth : Method} {c : Code} {k35 : Nat → qS → Option qS} {res : qS} (C : q_C E p s m args meth c cX12_goesOn RX12 3 none) (hk35 : ∀ (x0 : Nat) (g : qS) (H : Heap) (locs : List Loc) (ls : Array Slot), q_J E s g H locs → lv_has ls 3 [(0, .ref (q_ad E x0))] → k35 x0 g = some res → W p l e (q_rm 1 21) s m args below meth c H locs 0 0 (q_ZW E below none res args s) (F0 m 35 ls [])) : ∀ {n : Nat} {x0 : Nat} {g : qS} {H : Heap} {locs : List Loc} {ls : Array Slot}, q_J E s g H locs → lv_has ls 3 [(0, .ref (q_ad E x0))] → L_X12_goesOn_9 k35 n x0 g = some res → W p l e (q_rm 1 21) s m args below meth c H locs 0 0 (q_ZW E below none res args s) (F0 m 9 ls []) := by
  have hx := C.1
  have hb := C.2.1
  intro n
  induction n with
  | zero =>
    intro x0 g H locs ls hj hl hf
    cases hf
  | succ n ih_ =>
    intro x0 g H locs ls hj hl hf
    have ih : ∀ (x0 : Nat) (g : qS) (H : Heap) (locs : List Loc) (ls : Array Slot), q_J E s g H locs → lv_has ls 3 [(0, .ref (q_ad E x0))] → L_X12_goesOn_9 k35 n x0 g = some res → W p l e (q_rm 1 21) s m args below meth c H locs 0 0 (q_ZW E below none res args s) (F0 m 9 ls []) := fun x0 g H locs ls hj hl hf => ih_ hj hl hf
    unfold L_X12_goesOn_9 at hf
    refine lv_aload_n hx hb dX12_goesOn_9 rfl (lv_at hl 0 rfl) ?_
    refine lv_aload_n hx hb dX12_goesOn_10 rfl (lv_at hl 0 rfl) ?_
    refine q_getI C hj lk_X12_83 dX12_goesOn_11 hf (fun v1 hf => ?_)
    refine q_cVRI C hj cw_X12_86 (As := [.int v1]) (rest := []) hf (fun v9 h9 => c_X12_byteAt l E h9) rfl hl rfl rfl rfl dX12_goesOn_14 ⟨Nat.zero_le _, Nat.zero_le _⟩ (fun v2 hf => ?_)
    refine lv_bipush (v := 32) hx hb dX12_goesOn_17 (by decide) ?_
    refine q_icne C (tgt := 35) dX12_goesOn_19 (by decide) hf (fun hf => ?_) (fun hf => ?_)
    · exact hk35 _ _ _ _ ls hj (lv_sub hl [0] rfl) hf
    · refine lv_aload_n hx hb dX12_goesOn_22 rfl (lv_at hl 0 rfl) ?_
      refine lv_dup hx hb dX12_goesOn_23 rfl ?_
      refine q_getI C hj lk_X12_83 dX12_goesOn_24 hf (fun v3 hf => ?_)
      refine lv_iconst (v := 1) hx hb dX12_goesOn_27 qi_1 ?_
      refine lv_iadd hx hb dX12_goesOn_28 ?_
      refine q_putI C hj fp_X12_83 dX12_goesOn_29 hf (fun g4 H locs hj hf => ?_)
      refine lv_goto (tgt := 9) hx hb dX12_goesOn_32 (by decide) ?_
      exact ih _ _ _ _ ls hj (lv_sub hl [0] rfl) hf
def L_X12_goesOn_173  : Nat → Nat → Int32 → qS → Option qS
  | 0, _, _, _ => none
  | n + 1, x0, x2, g => (g_I g x0 11 8).bind fun v1 => (f_X12_byteAt g x0 v1).bind fun v2 => (f_X12_isDigit g v2).bind fun v3 => if v3 = 0 then (if 3 < x2 then (some g) else ((p_I g x0 11 9 3).bind fun g4 => some g4)) else (if 3 ≤ x2 then ((g_I g x0 11 8).bind fun v5 => (p_I g x0 11 8 (v5 + 1)).bind fun g6 => L_X12_goesOn_173 n x0 (x2 + 1) g6) else ((g_I g x0 11 11).bind fun v7 => (g_I g x0 11 8).bind fun v8 => (f_X12_byteAt g x0 v8).bind fun v9 => (p_I g x0 11 11 (((10 * v7) + v9) - 48)).bind fun g10 => (g_I g10 x0 11 8).bind fun v11 => (p_I g10 x0 11 8 (v11 + 1)).bind fun g12 => L_X12_goesOn_173 n x0 (x2 + 1) g12))
set_option maxHeartbeats 4000000 in
set_option maxRecDepth 100000 in
theorem w_L_X12_goesOn_173 {l : Launch} {E : qV} {p : Program} {e : Env} {s : State} {m : MethodId} {args : Array Value} {below : List Frame} {meth : Method} {c : Code}  {res : qS} (C : q_C E p s m args meth c cX12_goesOn RX12 3 none)  : ∀ {n : Nat} {x0 : Nat} {x2 : Int32} {g : qS} {H : Heap} {locs : List Loc} {ls : Array Slot}, q_J E s g H locs → lv_has ls 3 [(0, .ref (q_ad E x0)), (2, .int x2)] → L_X12_goesOn_173 n x0 x2 g = some res → W p l e (q_rm 1 21) s m args below meth c H locs 0 0 (q_ZW E below none res args s) (F0 m 173 ls []) := by
  have hx := C.1
  have hb := C.2.1
  intro n
  induction n with
  | zero =>
    intro x0 x2 g H locs ls hj hl hf
    cases hf
  | succ n ih_ =>
    intro x0 x2 g H locs ls hj hl hf
    have ih : ∀ (x0 : Nat) (x2 : Int32) (g : qS) (H : Heap) (locs : List Loc) (ls : Array Slot), q_J E s g H locs → lv_has ls 3 [(0, .ref (q_ad E x0)), (2, .int x2)] → L_X12_goesOn_173 n x0 x2 g = some res → W p l e (q_rm 1 21) s m args below meth c H locs 0 0 (q_ZW E below none res args s) (F0 m 173 ls []) := fun x0 x2 g H locs ls hj hl hf => ih_ hj hl hf
    unfold L_X12_goesOn_173 at hf
    refine lv_aload_n hx hb dX12_goesOn_173 rfl (lv_at hl 0 rfl) ?_
    refine lv_aload_n hx hb dX12_goesOn_174 rfl (lv_at hl 0 rfl) ?_
    refine q_getI C hj lk_X12_83 dX12_goesOn_175 hf (fun v1 hf => ?_)
    refine q_cVRI C hj cw_X12_86 (As := [.int v1]) (rest := []) hf (fun v9 h9 => c_X12_byteAt l E h9) rfl hl rfl rfl rfl dX12_goesOn_178 ⟨Nat.zero_le _, Nat.zero_le _⟩ (fun v2 hf => ?_)
    refine q_cSRI C hj cw_X12_100 (As := [.int v2]) (rest := []) hf (fun v9 h9 => c_X12_isDigit l E h9) rfl hl rfl rfl rfl dX12_goesOn_181 ⟨Nat.zero_le _, Nat.zero_le _⟩ (fun v3 hf => ?_)
    refine q_ifeq C (tgt := 231) dX12_goesOn_184 (by decide) hf (fun hf => ?_) (fun hf => ?_)
    · refine lv_iload_n hx hb dX12_goesOn_231 rfl (lv_at hl 1 rfl) ?_
      refine lv_iconst (v := 3) hx hb dX12_goesOn_232 qi_3 ?_
      refine q_icgt C (tgt := 265) dX12_goesOn_233 (by decide) hf (fun hf => ?_) (fun hf => ?_)
      · exact q_vretW C hj dX12_goesOn_265 hf
      · refine lv_aload_n hx hb dX12_goesOn_236 rfl (lv_at hl 0 rfl) ?_
        refine lv_iconst (v := 3) hx hb dX12_goesOn_237 qi_3 ?_
        refine q_putI C hj fp_X12_80 dX12_goesOn_238 hf (fun g4 H locs hj hf => ?_)
        refine lv_goto (tgt := 265) hx hb dX12_goesOn_241 (by decide) ?_
        exact q_vretW C hj dX12_goesOn_265 hf
    · refine lv_iload_n hx hb dX12_goesOn_187 rfl (lv_at hl 1 rfl) ?_
      refine lv_iconst (v := 3) hx hb dX12_goesOn_188 qi_3 ?_
      refine q_icge C (tgt := 215) dX12_goesOn_189 (by decide) hf (fun hf => ?_) (fun hf => ?_)
      · refine lv_iinc (v := x2 + 1) (lv' := [(2, .int (x2 + 1)), (0, .ref (q_ad E x0))]) hx hb dX12_goesOn_215 hl (k := 1) rfl (by rw [qi_1]) (by decide) rfl (fun ls hl => ?_)
        refine lv_aload_n hx hb dX12_goesOn_218 rfl (lv_at hl 1 rfl) ?_
        refine lv_dup hx hb dX12_goesOn_219 rfl ?_
        refine q_getI C hj lk_X12_83 dX12_goesOn_220 hf (fun v5 hf => ?_)
        refine lv_iconst (v := 1) hx hb dX12_goesOn_223 qi_1 ?_
        refine lv_iadd hx hb dX12_goesOn_224 ?_
        refine q_putI C hj fp_X12_83 dX12_goesOn_225 hf (fun g6 H locs hj hf => ?_)
        refine lv_goto (tgt := 173) hx hb dX12_goesOn_228 (by decide) ?_
        exact ih _ _ _ _ _ ls hj (lv_sub hl [1, 0] rfl) hf
      · refine lv_aload_n hx hb dX12_goesOn_192 rfl (lv_at hl 0 rfl) ?_
        refine lv_bipush (v := 10) hx hb dX12_goesOn_193 (by decide) ?_
        refine lv_aload_n hx hb dX12_goesOn_195 rfl (lv_at hl 0 rfl) ?_
        refine q_getI C hj lk_X12_103 dX12_goesOn_196 hf (fun v7 hf => ?_)
        refine lv_imul hx hb dX12_goesOn_199 ?_
        refine lv_aload_n hx hb dX12_goesOn_200 rfl (lv_at hl 0 rfl) ?_
        refine lv_aload_n hx hb dX12_goesOn_201 rfl (lv_at hl 0 rfl) ?_
        refine q_getI C hj lk_X12_83 dX12_goesOn_202 hf (fun v8 hf => ?_)
        refine q_cVRI C hj cw_X12_86 (As := [.int v8]) (rest := [.int (10 * v7), .ref (q_ad E x0)]) hf (fun v9 h9 => c_X12_byteAt l E h9) rfl hl rfl rfl rfl dX12_goesOn_205 ⟨Nat.zero_le _, Nat.zero_le _⟩ (fun v9 hf => ?_)
        refine lv_iadd hx hb dX12_goesOn_208 ?_
        refine lv_bipush (v := 48) hx hb dX12_goesOn_209 (by decide) ?_
        refine lv_isub hx hb dX12_goesOn_211 ?_
        refine q_putI C hj fp_X12_103 dX12_goesOn_212 hf (fun g10 H locs hj hf => ?_)
        refine lv_iinc (v := x2 + 1) (lv' := [(2, .int (x2 + 1)), (0, .ref (q_ad E x0))]) hx hb dX12_goesOn_215 hl (k := 1) rfl (by rw [qi_1]) (by decide) rfl (fun ls hl => ?_)
        refine lv_aload_n hx hb dX12_goesOn_218 rfl (lv_at hl 1 rfl) ?_
        refine lv_dup hx hb dX12_goesOn_219 rfl ?_
        refine q_getI C hj lk_X12_83 dX12_goesOn_220 hf (fun v11 hf => ?_)
        refine lv_iconst (v := 1) hx hb dX12_goesOn_223 qi_1 ?_
        refine lv_iadd hx hb dX12_goesOn_224 ?_
        refine q_putI C hj fp_X12_83 dX12_goesOn_225 hf (fun g12 H locs hj hf => ?_)
        refine lv_goto (tgt := 173) hx hb dX12_goesOn_228 (by decide) ?_
        exact ih _ _ _ _ _ ls hj (lv_sub hl [1, 0] rfl) hf
def L_X12_goesOn_84  : Nat → Nat → Int32 → qS → Option qS
  | 0, _, _, _ => none
  | n + 1, x0, x2, g => (g_I g x0 11 8).bind fun v1 => (f_X12_byteAt g x0 v1).bind fun v2 => (f_X12_isLetter g v2).bind fun v3 => if v3 = 0 then (if 8 < x2 then (some g) else ((p_I g x0 11 9 2).bind fun g4 => some g4)) else (if 8 ≤ x2 then ((g_I g x0 11 8).bind fun v5 => (p_I g x0 11 8 (v5 + 1)).bind fun g6 => L_X12_goesOn_84 n x0 (x2 + 1) g6) else ((g_L g x0 11 14).bind fun v7 => (g_I g x0 11 8).bind fun v8 => (f_X12_byteAt g x0 v8).bind fun v9 => (p_L g x0 11 14 ((32 * v7) + (((v9 - 97) + 1).toInt64))).bind fun g10 => (g_I g10 x0 11 8).bind fun v11 => (p_I g10 x0 11 8 (v11 + 1)).bind fun g12 => L_X12_goesOn_84 n x0 (x2 + 1) g12))
set_option maxHeartbeats 4000000 in
set_option maxRecDepth 100000 in
theorem w_L_X12_goesOn_84 {l : Launch} {E : qV} {p : Program} {e : Env} {s : State} {m : MethodId} {args : Array Value} {below : List Frame} {meth : Method} {c : Code}  {res : qS} (C : q_C E p s m args meth c cX12_goesOn RX12 3 none)  : ∀ {n : Nat} {x0 : Nat} {x2 : Int32} {g : qS} {H : Heap} {locs : List Loc} {ls : Array Slot}, q_J E s g H locs → lv_has ls 3 [(0, .ref (q_ad E x0)), (2, .int x2)] → L_X12_goesOn_84 n x0 x2 g = some res → W p l e (q_rm 1 21) s m args below meth c H locs 0 0 (q_ZW E below none res args s) (F0 m 84 ls []) := by
  have hx := C.1
  have hb := C.2.1
  intro n
  induction n with
  | zero =>
    intro x0 x2 g H locs ls hj hl hf
    cases hf
  | succ n ih_ =>
    intro x0 x2 g H locs ls hj hl hf
    have ih : ∀ (x0 : Nat) (x2 : Int32) (g : qS) (H : Heap) (locs : List Loc) (ls : Array Slot), q_J E s g H locs → lv_has ls 3 [(0, .ref (q_ad E x0)), (2, .int x2)] → L_X12_goesOn_84 n x0 x2 g = some res → W p l e (q_rm 1 21) s m args below meth c H locs 0 0 (q_ZW E below none res args s) (F0 m 84 ls []) := fun x0 x2 g H locs ls hj hl hf => ih_ hj hl hf
    unfold L_X12_goesOn_84 at hf
    refine lv_aload_n hx hb dX12_goesOn_84 rfl (lv_at hl 0 rfl) ?_
    refine lv_aload_n hx hb dX12_goesOn_85 rfl (lv_at hl 0 rfl) ?_
    refine q_getI C hj lk_X12_83 dX12_goesOn_86 hf (fun v1 hf => ?_)
    refine q_cVRI C hj cw_X12_86 (As := [.int v1]) (rest := []) hf (fun v9 h9 => c_X12_byteAt l E h9) rfl hl rfl rfl rfl dX12_goesOn_89 ⟨Nat.zero_le _, Nat.zero_le _⟩ (fun v2 hf => ?_)
    refine q_cSRI C hj cw_X12_92 (As := [.int v2]) (rest := []) hf (fun v9 h9 => c_X12_isLetter l E h9) rfl hl rfl rfl rfl dX12_goesOn_92 ⟨Nat.zero_le _, Nat.zero_le _⟩ (fun v3 hf => ?_)
    refine q_ifeq C (tgt := 147) dX12_goesOn_95 (by decide) hf (fun hf => ?_) (fun hf => ?_)
    · refine lv_iload_n hx hb dX12_goesOn_147 rfl (lv_at hl 1 rfl) ?_
      refine lv_bipush (v := 8) hx hb dX12_goesOn_148 (by decide) ?_
      refine q_icgt C (tgt := 265) dX12_goesOn_150 (by decide) hf (fun hf => ?_) (fun hf => ?_)
      · exact q_vretW C hj dX12_goesOn_265 hf
      · refine lv_aload_n hx hb dX12_goesOn_153 rfl (lv_at hl 0 rfl) ?_
        refine lv_iconst (v := 2) hx hb dX12_goesOn_154 qi_2 ?_
        refine q_putI C hj fp_X12_80 dX12_goesOn_155 hf (fun g4 H locs hj hf => ?_)
        refine lv_goto (tgt := 265) hx hb dX12_goesOn_158 (by decide) ?_
        exact q_vretW C hj dX12_goesOn_265 hf
    · refine lv_iload_n hx hb dX12_goesOn_98 rfl (lv_at hl 1 rfl) ?_
      refine lv_bipush (v := 8) hx hb dX12_goesOn_99 (by decide) ?_
      refine q_icge C (tgt := 131) dX12_goesOn_101 (by decide) hf (fun hf => ?_) (fun hf => ?_)
      · refine lv_iinc (v := x2 + 1) (lv' := [(2, .int (x2 + 1)), (0, .ref (q_ad E x0))]) hx hb dX12_goesOn_131 hl (k := 1) rfl (by rw [qi_1]) (by decide) rfl (fun ls hl => ?_)
        refine lv_aload_n hx hb dX12_goesOn_134 rfl (lv_at hl 1 rfl) ?_
        refine lv_dup hx hb dX12_goesOn_135 rfl ?_
        refine q_getI C hj lk_X12_83 dX12_goesOn_136 hf (fun v5 hf => ?_)
        refine lv_iconst (v := 1) hx hb dX12_goesOn_139 qi_1 ?_
        refine lv_iadd hx hb dX12_goesOn_140 ?_
        refine q_putI C hj fp_X12_83 dX12_goesOn_141 hf (fun g6 H locs hj hf => ?_)
        refine lv_goto (tgt := 84) hx hb dX12_goesOn_144 (by decide) ?_
        exact ih _ _ _ _ _ ls hj (lv_sub hl [1, 0] rfl) hf
      · refine lv_aload_n hx hb dX12_goesOn_104 rfl (lv_at hl 0 rfl) ?_
        refine lv_ldc2 (v := 32) hx hb C.2.2.2.1 (C.2.2.2.2.1 _ kc_X12_74) dX12_goesOn_105 ?_
        refine lv_aload_n hx hb dX12_goesOn_108 rfl (lv_at hl 0 rfl) ?_
        refine q_getL C hj lk_X12_96 dX12_goesOn_109 hf (fun v7 hf => ?_)
        refine lv_lmul hx hb dX12_goesOn_112 ?_
        refine lv_aload_n hx hb dX12_goesOn_113 rfl (lv_at hl 0 rfl) ?_
        refine lv_aload_n hx hb dX12_goesOn_114 rfl (lv_at hl 0 rfl) ?_
        refine q_getI C hj lk_X12_83 dX12_goesOn_115 hf (fun v8 hf => ?_)
        refine q_cVRI C hj cw_X12_86 (As := [.int v8]) (rest := [.long (32 * v7), .ref (q_ad E x0)]) hf (fun v9 h9 => c_X12_byteAt l E h9) rfl hl rfl rfl rfl dX12_goesOn_118 ⟨Nat.zero_le _, Nat.zero_le _⟩ (fun v9 hf => ?_)
        refine lv_bipush (v := 97) hx hb dX12_goesOn_121 (by decide) ?_
        refine lv_isub hx hb dX12_goesOn_123 ?_
        refine lv_iconst (v := 1) hx hb dX12_goesOn_124 qi_1 ?_
        refine lv_iadd hx hb dX12_goesOn_125 ?_
        refine lv_i2l hx hb dX12_goesOn_126 rfl ?_
        refine lv_ladd hx hb dX12_goesOn_127 ?_
        refine q_putL C hj fp_X12_96 dX12_goesOn_128 hf (fun g10 H locs hj hf => ?_)
        refine lv_iinc (v := x2 + 1) (lv' := [(2, .int (x2 + 1)), (0, .ref (q_ad E x0))]) hx hb dX12_goesOn_131 hl (k := 1) rfl (by rw [qi_1]) (by decide) rfl (fun ls hl => ?_)
        refine lv_aload_n hx hb dX12_goesOn_134 rfl (lv_at hl 1 rfl) ?_
        refine lv_dup hx hb dX12_goesOn_135 rfl ?_
        refine q_getI C hj lk_X12_83 dX12_goesOn_136 hf (fun v11 hf => ?_)
        refine lv_iconst (v := 1) hx hb dX12_goesOn_139 qi_1 ?_
        refine lv_iadd hx hb dX12_goesOn_140 ?_
        refine q_putI C hj fp_X12_83 dX12_goesOn_141 hf (fun g12 H locs hj hf => ?_)
        refine lv_goto (tgt := 84) hx hb dX12_goesOn_144 (by decide) ?_
        exact ih _ _ _ _ _ ls hj (lv_sub hl [1, 0] rfl) hf
def f_X12_goesOn (g : qS) (a0 : Nat) : Option qS := (g_C g a0 11).bind fun _ => (g_I g a0 11 9).bind fun v1 => if v1 = 5 then (some g) else (L_X12_goesOn_9 (fun y2 g3 => (g_I g3 y2 11 8).bind fun v4 => (p_I g3 y2 11 10 v4).bind fun g5 => (p_I g5 y2 11 9 0).bind fun g6 => (g_I g6 y2 11 8).bind fun v7 => (f_X12_byteAt g6 y2 v7).bind fun v8 => if v8 = (-1) then ((p_I g6 y2 11 9 1).bind fun g16 => some g16) else ((f_X12_isLetter g6 v8).bind fun v9 => if v9 = 0 then ((f_X12_isDigit g6 v8).bind fun v10 => if v10 = 0 then (if v8 = 59 then ((p_I g6 y2 11 9 4).bind fun g11 => (g_I g11 y2 11 8).bind fun v12 => (p_I g11 y2 11 8 (v12 + 1)).bind fun g13 => some g13) else (some g6)) else ((p_I g6 y2 11 11 0).bind fun g14 => L_X12_goesOn_173 1000000000 y2 0 g14)) else ((p_L g6 y2 11 14 0).bind fun g15 => L_X12_goesOn_84 1000000000 y2 0 g15))) 1000000000 a0 g)
set_option maxHeartbeats 4000000 in
set_option maxRecDepth 100000 in
theorem c_X12_goesOn (l : Launch) (E : qV) {g : qS} {a0 : Nat} {res : qS} (hf : f_X12_goesOn g a0 = some res) : q_MW l yX12_goesOn cX12_goesOn 3 none 1 21 E [.ref (q_ad E a0)] g none res ∧ ∃ fs, g a0 = some (.inr (11, fs)) := by
  unfold f_X12_goesOn at hf
  obtain ⟨u9, hu9, hf⟩ := q_ob hf
  refine ⟨q_ofW (by decide) rfl ?_, g_C_sp hu9⟩
  intro p e s m args below meth c ls C hj hl
  have hx := C.1
  have hb := C.2.1
  have C : q_C E p s m args meth c cX12_goesOn RX12 3 none := C
  have hl : lv_has ls 3 [(0, .ref (q_ad E a0))] := hl
  refine lv_aload_n hx hb dX12_goesOn_0 rfl (lv_at hl 0 rfl) ?_
  refine q_getI C hj lk_X12_80 dX12_goesOn_1 hf (fun v1 hf => ?_)
  refine lv_iconst (v := 5) hx hb dX12_goesOn_4 qi_5 ?_
  refine q_icne C (tgt := 9) dX12_goesOn_5 (by decide) hf (fun hf => ?_) (fun hf => ?_)
  · refine w_L_X12_goesOn_9 C (fun y2 g3 H locs ls hj hl hf => ?_) hj (lv_sub hl [0] rfl) hf
    · refine lv_aload_n hx hb dX12_goesOn_35 rfl (lv_at hl 0 rfl) ?_
      refine lv_aload_n hx hb dX12_goesOn_36 rfl (lv_at hl 0 rfl) ?_
      refine q_getI C hj lk_X12_83 dX12_goesOn_37 hf (fun v4 hf => ?_)
      refine q_putI C hj fp_X12_89 dX12_goesOn_40 hf (fun g5 H locs hj hf => ?_)
      refine lv_aload_n hx hb dX12_goesOn_43 rfl (lv_at hl 0 rfl) ?_
      refine lv_iconst (v := 0) hx hb dX12_goesOn_44 qi_0 ?_
      refine q_putI C hj fp_X12_80 dX12_goesOn_45 hf (fun g6 H locs hj hf => ?_)
      refine lv_aload_n hx hb dX12_goesOn_48 rfl (lv_at hl 0 rfl) ?_
      refine lv_aload_n hx hb dX12_goesOn_49 rfl (lv_at hl 0 rfl) ?_
      refine q_getI C hj lk_X12_83 dX12_goesOn_50 hf (fun v7 hf => ?_)
      refine q_cVRI C hj cw_X12_86 (As := [.int v7]) (rest := []) hf (fun v9 h9 => c_X12_byteAt l E h9) rfl hl rfl rfl rfl dX12_goesOn_53 ⟨Nat.zero_le _, Nat.zero_le _⟩ (fun v8 hf => ?_)
      refine lv_istore_n (lv' := [(1, .int v8), (0, .ref (q_ad E y2))]) hx hb dX12_goesOn_56 rfl hl (by decide) rfl (fun ls hl => ?_)
      refine lv_iconst (v := 0) hx hb dX12_goesOn_57 qi_0 ?_
      refine lv_istore_n (lv' := [(2, .int 0), (1, .int v8), (0, .ref (q_ad E y2))]) hx hb dX12_goesOn_58 rfl hl (by decide) rfl (fun ls hl => ?_)
      refine lv_iload_n hx hb dX12_goesOn_59 rfl (lv_at hl 1 rfl) ?_
      refine lv_iconst (v := -1) hx hb dX12_goesOn_60 qi_m1 ?_
      refine q_icne C (tgt := 72) dX12_goesOn_61 (by decide) hf (fun hf => ?_) (fun hf => ?_)
      · refine lv_iload_n hx hb dX12_goesOn_72 rfl (lv_at hl 1 rfl) ?_
        refine q_cSRI C hj cw_X12_92 (As := [.int v8]) (rest := []) hf (fun v9 h9 => c_X12_isLetter l E h9) rfl hl rfl rfl rfl dX12_goesOn_73 ⟨Nat.zero_le _, Nat.zero_le _⟩ (fun v9 hf => ?_)
        refine q_ifeq C (tgt := 161) dX12_goesOn_76 (by decide) hf (fun hf => ?_) (fun hf => ?_)
        · refine lv_iload_n hx hb dX12_goesOn_161 rfl (lv_at hl 1 rfl) ?_
          refine q_cSRI C hj cw_X12_100 (As := [.int v8]) (rest := []) hf (fun v9 h9 => c_X12_isDigit l E h9) rfl hl rfl rfl rfl dX12_goesOn_162 ⟨Nat.zero_le _, Nat.zero_le _⟩ (fun v10 hf => ?_)
          refine q_ifeq C (tgt := 244) dX12_goesOn_165 (by decide) hf (fun hf => ?_) (fun hf => ?_)
          · refine lv_iload_n hx hb dX12_goesOn_244 rfl (lv_at hl 1 rfl) ?_
            refine lv_bipush (v := 59) hx hb dX12_goesOn_245 (by decide) ?_
            refine q_icne C (tgt := 265) dX12_goesOn_247 (by decide) hf (fun hf => ?_) (fun hf => ?_)
            · exact q_vretW C hj dX12_goesOn_265 hf
            · refine lv_aload_n hx hb dX12_goesOn_250 rfl (lv_at hl 2 rfl) ?_
              refine lv_iconst (v := 4) hx hb dX12_goesOn_251 qi_4 ?_
              refine q_putI C hj fp_X12_80 dX12_goesOn_252 hf (fun g11 H locs hj hf => ?_)
              refine lv_aload_n hx hb dX12_goesOn_255 rfl (lv_at hl 2 rfl) ?_
              refine lv_dup hx hb dX12_goesOn_256 rfl ?_
              refine q_getI C hj lk_X12_83 dX12_goesOn_257 hf (fun v12 hf => ?_)
              refine lv_iconst (v := 1) hx hb dX12_goesOn_260 qi_1 ?_
              refine lv_iadd hx hb dX12_goesOn_261 ?_
              refine q_putI C hj fp_X12_83 dX12_goesOn_262 hf (fun g13 H locs hj hf => ?_)
              exact q_vretW C hj dX12_goesOn_265 hf
          · refine lv_aload_n hx hb dX12_goesOn_168 rfl (lv_at hl 2 rfl) ?_
            refine lv_iconst (v := 0) hx hb dX12_goesOn_169 qi_0 ?_
            refine q_putI C hj fp_X12_103 dX12_goesOn_170 hf (fun g14 H locs hj hf => ?_)
            refine w_L_X12_goesOn_173 C  hj (lv_sub hl [2, 0] rfl) hf
        · refine lv_aload_n hx hb dX12_goesOn_79 rfl (lv_at hl 2 rfl) ?_
          refine lv_lconst (v := 0) hx hb dX12_goesOn_80 (by decide) ?_
          refine q_putL C hj fp_X12_96 dX12_goesOn_81 hf (fun g15 H locs hj hf => ?_)
          refine w_L_X12_goesOn_84 C  hj (lv_sub hl [2, 0] rfl) hf
      · refine lv_aload_n hx hb dX12_goesOn_64 rfl (lv_at hl 2 rfl) ?_
        refine lv_iconst (v := 1) hx hb dX12_goesOn_65 qi_1 ?_
        refine q_putI C hj fp_X12_80 dX12_goesOn_66 hf (fun g16 H locs hj hf => ?_)
        refine lv_goto (tgt := 265) hx hb dX12_goesOn_69 (by decide) ?_
        exact q_vretW C hj dX12_goesOn_265 hf
  · exact q_vretW C hj dX12_goesOn_8 hf
def f_X12_flaw (g : qS) (a0 : Nat) (a1 : Int32) : Option qS := (g_C g a0 11).bind fun _ => (g_I g a0 11 9).bind fun v1 => if v1 = 5 then (some g) else ((p_I g a0 11 12 a1).bind fun g2 => (g_I g2 a0 11 10).bind fun v3 => (p_I g2 a0 11 13 v3).bind fun g4 => (p_I g4 a0 11 9 5).bind fun g5 => some g5)
set_option maxHeartbeats 4000000 in
set_option maxRecDepth 100000 in
theorem c_X12_flaw (l : Launch) (E : qV) {g : qS} {a0 : Nat} {a1 : Int32} {res : qS} (hf : f_X12_flaw g a0 a1 = some res) : q_MW l yX12_flaw cX12_flaw 2 none 0 0 E [.ref (q_ad E a0), .int a1] g none res ∧ ∃ fs, g a0 = some (.inr (11, fs)) := by
  unfold f_X12_flaw at hf
  obtain ⟨u9, hu9, hf⟩ := q_ob hf
  refine ⟨q_ofW (by decide) rfl ?_, g_C_sp hu9⟩
  intro p e s m args below meth c ls C hj hl
  have hx := C.1
  have hb := C.2.1
  have C : q_C E p s m args meth c cX12_flaw RX12 2 none := C
  have hl : lv_has ls 2 [(0, .ref (q_ad E a0)), (1, .int a1)] := hl
  refine lv_aload_n hx hb dX12_flaw_0 rfl (lv_at hl 0 rfl) ?_
  refine q_getI C hj lk_X12_80 dX12_flaw_1 hf (fun v1 hf => ?_)
  refine lv_iconst (v := 5) hx hb dX12_flaw_4 qi_5 ?_
  refine q_icne C (tgt := 9) dX12_flaw_5 (by decide) hf (fun hf => ?_) (fun hf => ?_)
  · refine lv_aload_n hx hb dX12_flaw_9 rfl (lv_at hl 0 rfl) ?_
    refine lv_iload_n hx hb dX12_flaw_10 rfl (lv_at hl 1 rfl) ?_
    refine q_putI C hj fp_X12_106 dX12_flaw_11 hf (fun g2 H locs hj hf => ?_)
    refine lv_aload_n hx hb dX12_flaw_14 rfl (lv_at hl 0 rfl) ?_
    refine lv_aload_n hx hb dX12_flaw_15 rfl (lv_at hl 0 rfl) ?_
    refine q_getI C hj lk_X12_89 dX12_flaw_16 hf (fun v3 hf => ?_)
    refine q_putI C hj fp_X12_109 dX12_flaw_19 hf (fun g4 H locs hj hf => ?_)
    refine lv_aload_n hx hb dX12_flaw_22 rfl (lv_at hl 0 rfl) ?_
    refine lv_iconst (v := 5) hx hb dX12_flaw_23 qi_5 ?_
    refine q_putI C hj fp_X12_80 dX12_flaw_24 hf (fun g5 H locs hj hf => ?_)
    exact q_vretW C hj dX12_flaw_27 hf
  · exact q_vretW C hj dX12_flaw_8 hf
def f_X12_isWord (g : qS) (a0 : Nat) (a1 : Nat) : Option Int32 := (g_C g a0 11).bind fun _ => (g_I g a0 11 9).bind fun v1 => if v1 = 2 then ((g_L g a0 11 14).bind fun v2 => (f_X12_packed g a1).bind fun v3 => if v2 = v3 then (some 1) else (some 0)) else (some 0)
set_option maxHeartbeats 4000000 in
set_option maxRecDepth 100000 in
theorem c_X12_isWord (l : Launch) (E : qV) {g : qS} {a0 : Nat} {a1 : Nat} {res : Int32} (hf : f_X12_isWord g a0 a1 = some res) : q_MR l yX12_isWord cX12_isWord 2 (some .boolean) 5 143 E [.ref (q_ad E a0), .ref (q_sa E a1)] g (some (.int res)) ∧ ∃ fs, g a0 = some (.inr (11, fs)) := by
  unfold f_X12_isWord at hf
  obtain ⟨u9, hu9, hf⟩ := q_ob hf
  refine ⟨q_ofR (by decide) rfl ?_, g_C_sp hu9⟩
  intro p e s m args below meth c ls C hw hl
  have hj : q_J E s g s.heap [] := ⟨hw, va_S.rf⟩
  have hx := C.1
  have hb := C.2.1
  have C : q_C E p s m args meth c cX12_isWord RX12 2 (some .boolean) := C
  have hl : lv_has ls 2 [(0, .ref (q_ad E a0)), (1, .ref (q_sa E a1))] := hl
  refine lv_aload_n hx hb dX12_isWord_0 rfl (lv_at hl 0 rfl) ?_
  refine q_getI C hj lk_X12_80 dX12_isWord_1 hf (fun v1 hf => ?_)
  refine lv_iconst (v := 2) hx hb dX12_isWord_4 qi_2 ?_
  refine q_icne C (tgt := 24) dX12_isWord_5 (by decide) hf (fun hf => ?_) (fun hf => ?_)
  · refine lv_iconst (v := 0) hx hb dX12_isWord_24 qi_0 ?_
    exact q_z0retR C dX12_isWord_25 hf
  · refine lv_aload_n hx hb dX12_isWord_8 rfl (lv_at hl 0 rfl) ?_
    refine q_getL C hj lk_X12_96 dX12_isWord_9 hf (fun v2 hf => ?_)
    refine lv_aload_n hx hb dX12_isWord_12 rfl (lv_at hl 1 rfl) ?_
    refine q_cSRL C hj cw_X12_112 (As := [.ref (q_sa E a1)]) (rest := [.long v2]) hf (fun v9 h9 => c_X12_packed l E h9) rfl hl rfl rfl rfl dX12_isWord_13 ⟨Nat.zero_le _, Nat.zero_le _⟩ (fun v3 hf => ?_)
    refine q_lcne C (tgt := 24) dX12_isWord_16 dX12_isWord_17 (by decide) hf (fun hf => ?_) (fun hf => ?_)
    · refine lv_iconst (v := 0) hx hb dX12_isWord_24 qi_0 ?_
      exact q_z0retR C dX12_isWord_25 hf
    · refine lv_iconst (v := 1) hx hb dX12_isWord_20 qi_1 ?_
      refine lv_goto (tgt := 25) hx hb dX12_isWord_21 (by decide) ?_
      exact q_z1retR C dX12_isWord_25 hf
def f_X12_eatsSemicolon (g : qS) (a0 : Nat) : Option (Int32 × qS) := (g_C g a0 11).bind fun _ => (g_I g a0 11 9).bind fun v1 => if v1 = 4 then (if (1 : Int32) = 0 then (some (1, g)) else ((f_X12_goesOn g a0).bind fun g3 => some (1, g3))) else (if (0 : Int32) = 0 then (some (0, g)) else ((f_X12_goesOn g a0).bind fun g2 => some (0, g2)))
set_option maxHeartbeats 4000000 in
set_option maxRecDepth 100000 in
theorem c_X12_eatsSemicolon (l : Launch) (E : qV) {g : qS} {a0 : Nat} {res : (Int32 × qS)} (hf : f_X12_eatsSemicolon g a0 = some res) : q_MW l yX12_eatsSemicolon cX12_eatsSemicolon 2 (some .boolean) 2 43 E [.ref (q_ad E a0)] g (some (.int res.1)) res.2 ∧ ∃ fs, g a0 = some (.inr (11, fs)) := by
  unfold f_X12_eatsSemicolon at hf
  obtain ⟨u9, hu9, hf⟩ := q_ob hf
  refine ⟨q_ofW (by decide) rfl ?_, g_C_sp hu9⟩
  intro p e s m args below meth c ls C hj hl
  have hx := C.1
  have hb := C.2.1
  have C : q_C E p s m args meth c cX12_eatsSemicolon RX12 2 (some .boolean) := C
  have hl : lv_has ls 2 [(0, .ref (q_ad E a0))] := hl
  refine lv_aload_n hx hb dX12_eatsSemicolon_0 rfl (lv_at hl 0 rfl) ?_
  refine q_getI C hj lk_X12_80 dX12_eatsSemicolon_1 hf (fun v1 hf => ?_)
  refine lv_iconst (v := 4) hx hb dX12_eatsSemicolon_4 qi_4 ?_
  refine q_icne C (tgt := 12) dX12_eatsSemicolon_5 (by decide) hf (fun hf => ?_) (fun hf => ?_)
  · refine lv_iconst (v := 0) hx hb dX12_eatsSemicolon_12 qi_0 ?_
    refine lv_istore_n (lv' := [(1, .int 0), (0, .ref (q_ad E a0))]) hx hb dX12_eatsSemicolon_13 rfl hl (by decide) rfl (fun ls hl => ?_)
    refine lv_iload_n hx hb dX12_eatsSemicolon_14 rfl (lv_at hl 0 rfl) ?_
    refine q_ifeq C (tgt := 22) dX12_eatsSemicolon_15 (by decide) hf (fun hf => ?_) (fun hf => ?_)
    · refine lv_iload_n hx hb dX12_eatsSemicolon_22 rfl (lv_at hl 0 rfl) ?_
      exact q_z0retW C hj dX12_eatsSemicolon_23 hf
    · refine lv_aload_n hx hb dX12_eatsSemicolon_18 rfl (lv_at hl 1 rfl) ?_
      refine q_cVWV C hj cw_X12_116 (As := []) (rest := []) hf (fun g9 h9 => c_X12_goesOn l E h9) rfl hl rfl rfl rfl dX12_eatsSemicolon_19 ⟨Nat.zero_le _, Nat.zero_le _⟩ (fun g2 H locs hj hf => ?_)
      refine lv_iload_n hx hb dX12_eatsSemicolon_22 rfl (lv_at hl 0 rfl) ?_
      exact q_z0retW C hj dX12_eatsSemicolon_23 hf
  · refine lv_iconst (v := 1) hx hb dX12_eatsSemicolon_8 qi_1 ?_
    refine lv_goto (tgt := 13) hx hb dX12_eatsSemicolon_9 (by decide) ?_
    refine lv_istore_n (lv' := [(1, .int 1), (0, .ref (q_ad E a0))]) hx hb dX12_eatsSemicolon_13 rfl hl (by decide) rfl (fun ls hl => ?_)
    refine lv_iload_n hx hb dX12_eatsSemicolon_14 rfl (lv_at hl 0 rfl) ?_
    refine q_ifeq C (tgt := 22) dX12_eatsSemicolon_15 (by decide) hf (fun hf => ?_) (fun hf => ?_)
    · refine lv_iload_n hx hb dX12_eatsSemicolon_22 rfl (lv_at hl 0 rfl) ?_
      exact q_z1retW C hj dX12_eatsSemicolon_23 hf
    · refine lv_aload_n hx hb dX12_eatsSemicolon_18 rfl (lv_at hl 1 rfl) ?_
      refine q_cVWV C hj cw_X12_116 (As := []) (rest := []) hf (fun g9 h9 => c_X12_goesOn l E h9) rfl hl rfl rfl rfl dX12_eatsSemicolon_19 ⟨Nat.zero_le _, Nat.zero_le _⟩ (fun g3 H locs hj hf => ?_)
      refine lv_iload_n hx hb dX12_eatsSemicolon_22 rfl (lv_at hl 0 rfl) ?_
      exact q_z1retW C hj dX12_eatsSemicolon_23 hf
def f_X12_needs (g : qS) (a0 : Nat) (a1 : Nat) : Option qS := (g_C g a0 11).bind fun _ => (f_X12_isWord g a0 a1).bind fun v1 => if v1 = 0 then ((f_X12_flaw g a0 1).bind fun g3 => (f_X12_goesOn g3 a0).bind fun g4 => some g4) else ((f_X12_goesOn g a0).bind fun g2 => some g2)
set_option maxHeartbeats 4000000 in
set_option maxRecDepth 100000 in
theorem c_X12_needs (l : Launch) (E : qV) {g : qS} {a0 : Nat} {a1 : Nat} {res : qS} (hf : f_X12_needs g a0 a1 = some res) : q_MW l yX12_needs cX12_needs 2 none 6 164 E [.ref (q_ad E a0), .ref (q_sa E a1)] g none res ∧ ∃ fs, g a0 = some (.inr (11, fs)) := by
  unfold f_X12_needs at hf
  obtain ⟨u9, hu9, hf⟩ := q_ob hf
  refine ⟨q_ofW (by decide) rfl ?_, g_C_sp hu9⟩
  intro p e s m args below meth c ls C hj hl
  have hx := C.1
  have hb := C.2.1
  have C : q_C E p s m args meth c cX12_needs RX12 2 none := C
  have hl : lv_has ls 2 [(0, .ref (q_ad E a0)), (1, .ref (q_sa E a1))] := hl
  refine lv_aload_n hx hb dX12_needs_0 rfl (lv_at hl 0 rfl) ?_
  refine lv_aload_n hx hb dX12_needs_1 rfl (lv_at hl 1 rfl) ?_
  refine q_cVRI C hj cw_X12_119 (As := [.ref (q_sa E a1)]) (rest := []) hf (fun v9 h9 => c_X12_isWord l E h9) rfl hl rfl rfl rfl dX12_needs_2 ⟨Nat.zero_le _, Nat.zero_le _⟩ (fun v1 hf => ?_)
  refine q_ifne C (tgt := 13) dX12_needs_5 (by decide) hf (fun hf => ?_) (fun hf => ?_)
  · refine lv_aload_n hx hb dX12_needs_13 rfl (lv_at hl 0 rfl) ?_
    refine q_cVWV C hj cw_X12_116 (As := []) (rest := []) hf (fun g9 h9 => c_X12_goesOn l E h9) rfl hl rfl rfl rfl dX12_needs_14 ⟨Nat.zero_le _, Nat.zero_le _⟩ (fun g2 H locs hj hf => ?_)
    exact q_vretW C hj dX12_needs_17 hf
  · refine lv_aload_n hx hb dX12_needs_8 rfl (lv_at hl 0 rfl) ?_
    refine lv_iconst (v := 1) hx hb dX12_needs_9 qi_1 ?_
    refine q_cVWV C hj cw_X12_123 (As := [.int 1]) (rest := []) hf (fun g9 h9 => c_X12_flaw l E h9) rfl hl rfl rfl rfl dX12_needs_10 ⟨Nat.zero_le _, Nat.zero_le _⟩ (fun g3 H locs hj hf => ?_)
    refine lv_aload_n hx hb dX12_needs_13 rfl (lv_at hl 0 rfl) ?_
    refine q_cVWV C hj cw_X12_116 (As := []) (rest := []) hf (fun g9 h9 => c_X12_goesOn l E h9) rfl hl rfl rfl rfl dX12_needs_14 ⟨Nat.zero_le _, Nat.zero_le _⟩ (fun g4 H locs hj hf => ?_)
    exact q_vretW C hj dX12_needs_17 hf
def f_X12_bounded (g : qS) (a0 : Nat) (a1 : Int32) (a2 : Int32) : Option (Int32 × qS) := (g_C g a0 11).bind fun _ => (g_I g a0 11 9).bind fun v1 => if v1 = 3 then ((g_I g a0 11 11).bind fun v2 => (f_X12_in g v2 a1 a2).bind fun v3 => if v3 = 0 then ((f_X12_flaw g a0 4).bind fun g6 => (g_I g6 a0 11 9).bind fun v7 => if v7 = 5 then (some (a1, g6)) else ((g_I g6 a0 11 11).bind fun v8 => some (v8, g6))) else ((g_I g a0 11 9).bind fun v4 => if v4 = 5 then (some (a1, g)) else ((g_I g a0 11 11).bind fun v5 => some (v5, g)))) else ((f_X12_flaw g a0 1).bind fun g9 => (g_I g9 a0 11 9).bind fun v10 => if v10 = 5 then (some (a1, g9)) else ((g_I g9 a0 11 11).bind fun v11 => some (v11, g9)))
set_option maxHeartbeats 4000000 in
set_option maxRecDepth 100000 in
theorem c_X12_bounded (l : Launch) (E : qV) {g : qS} {a0 : Nat} {a1 : Int32} {a2 : Int32} {res : (Int32 × qS)} (hf : f_X12_bounded g a0 a1 a2 = some res) : q_MW l yX12_bounded cX12_bounded 3 (some .int) 1 22 E [.ref (q_ad E a0), .int a1, .int a2] g (some (.int res.1)) res.2 ∧ ∃ fs, g a0 = some (.inr (11, fs)) := by
  unfold f_X12_bounded at hf
  obtain ⟨u9, hu9, hf⟩ := q_ob hf
  refine ⟨q_ofW (by decide) rfl ?_, g_C_sp hu9⟩
  intro p e s m args below meth c ls C hj hl
  have hx := C.1
  have hb := C.2.1
  have C : q_C E p s m args meth c cX12_bounded RX12 3 (some .int) := C
  have hl : lv_has ls 3 [(0, .ref (q_ad E a0)), (1, .int a1), (2, .int a2)] := hl
  refine lv_aload_n hx hb dX12_bounded_0 rfl (lv_at hl 0 rfl) ?_
  refine q_getI C hj lk_X12_80 dX12_bounded_1 hf (fun v1 hf => ?_)
  refine lv_iconst (v := 3) hx hb dX12_bounded_4 qi_3 ?_
  refine q_iceq C (tgt := 16) dX12_bounded_5 (by decide) hf (fun hf => ?_) (fun hf => ?_)
  · refine lv_aload_n hx hb dX12_bounded_16 rfl (lv_at hl 0 rfl) ?_
    refine q_getI C hj lk_X12_103 dX12_bounded_17 hf (fun v2 hf => ?_)
    refine lv_iload_n hx hb dX12_bounded_20 rfl (lv_at hl 1 rfl) ?_
    refine lv_iload_n hx hb dX12_bounded_21 rfl (lv_at hl 2 rfl) ?_
    refine q_cSRI C hj cw_X12_127 (As := [.int v2, .int a1, .int a2]) (rest := []) hf (fun v9 h9 => c_X12_in l E h9) rfl hl rfl rfl rfl dX12_bounded_22 ⟨Nat.zero_le _, Nat.zero_le _⟩ (fun v3 hf => ?_)
    refine q_ifne C (tgt := 33) dX12_bounded_25 (by decide) hf (fun hf => ?_) (fun hf => ?_)
    · refine lv_aload_n hx hb dX12_bounded_33 rfl (lv_at hl 0 rfl) ?_
      refine q_getI C hj lk_X12_80 dX12_bounded_34 hf (fun v4 hf => ?_)
      refine lv_iconst (v := 5) hx hb dX12_bounded_37 qi_5 ?_
      refine q_icne C (tgt := 45) dX12_bounded_38 (by decide) hf (fun hf => ?_) (fun hf => ?_)
      · refine lv_aload_n hx hb dX12_bounded_45 rfl (lv_at hl 0 rfl) ?_
        refine q_getI C hj lk_X12_103 dX12_bounded_46 hf (fun v5 hf => ?_)
        exact q_iretW C hj dX12_bounded_49 hf
      · refine lv_iload_n hx hb dX12_bounded_41 rfl (lv_at hl 1 rfl) ?_
        refine lv_goto (tgt := 49) hx hb dX12_bounded_42 (by decide) ?_
        exact q_iretW C hj dX12_bounded_49 hf
    · refine lv_aload_n hx hb dX12_bounded_28 rfl (lv_at hl 0 rfl) ?_
      refine lv_iconst (v := 4) hx hb dX12_bounded_29 qi_4 ?_
      refine q_cVWV C hj cw_X12_123 (As := [.int 4]) (rest := []) hf (fun g9 h9 => c_X12_flaw l E h9) rfl hl rfl rfl rfl dX12_bounded_30 ⟨Nat.zero_le _, Nat.zero_le _⟩ (fun g6 H locs hj hf => ?_)
      refine lv_aload_n hx hb dX12_bounded_33 rfl (lv_at hl 0 rfl) ?_
      refine q_getI C hj lk_X12_80 dX12_bounded_34 hf (fun v7 hf => ?_)
      refine lv_iconst (v := 5) hx hb dX12_bounded_37 qi_5 ?_
      refine q_icne C (tgt := 45) dX12_bounded_38 (by decide) hf (fun hf => ?_) (fun hf => ?_)
      · refine lv_aload_n hx hb dX12_bounded_45 rfl (lv_at hl 0 rfl) ?_
        refine q_getI C hj lk_X12_103 dX12_bounded_46 hf (fun v8 hf => ?_)
        exact q_iretW C hj dX12_bounded_49 hf
      · refine lv_iload_n hx hb dX12_bounded_41 rfl (lv_at hl 1 rfl) ?_
        refine lv_goto (tgt := 49) hx hb dX12_bounded_42 (by decide) ?_
        exact q_iretW C hj dX12_bounded_49 hf
  · refine lv_aload_n hx hb dX12_bounded_8 rfl (lv_at hl 0 rfl) ?_
    refine lv_iconst (v := 1) hx hb dX12_bounded_9 qi_1 ?_
    refine q_cVWV C hj cw_X12_123 (As := [.int 1]) (rest := []) hf (fun g9 h9 => c_X12_flaw l E h9) rfl hl rfl rfl rfl dX12_bounded_10 ⟨Nat.zero_le _, Nat.zero_le _⟩ (fun g9 H locs hj hf => ?_)
    refine lv_goto (tgt := 33) hx hb dX12_bounded_13 (by decide) ?_
    refine lv_aload_n hx hb dX12_bounded_33 rfl (lv_at hl 0 rfl) ?_
    refine q_getI C hj lk_X12_80 dX12_bounded_34 hf (fun v10 hf => ?_)
    refine lv_iconst (v := 5) hx hb dX12_bounded_37 qi_5 ?_
    refine q_icne C (tgt := 45) dX12_bounded_38 (by decide) hf (fun hf => ?_) (fun hf => ?_)
    · refine lv_aload_n hx hb dX12_bounded_45 rfl (lv_at hl 0 rfl) ?_
      refine q_getI C hj lk_X12_103 dX12_bounded_46 hf (fun v11 hf => ?_)
      exact q_iretW C hj dX12_bounded_49 hf
    · refine lv_iload_n hx hb dX12_bounded_41 rfl (lv_at hl 1 rfl) ?_
      refine lv_goto (tgt := 49) hx hb dX12_bounded_42 (by decide) ?_
      exact q_iretW C hj dX12_bounded_49 hf
def f_X12_readWhole (g : qS) (a0 : Nat) (a1 : Int32) (a2 : Int32) : Option (Int32 × qS) := (g_C g a0 11).bind fun _ => q_b2 (f_X12_bounded g a0 a1 a2) fun v2 g1 => (f_X12_goesOn g1 a0).bind fun g3 => some (v2, g3)
set_option maxHeartbeats 4000000 in
set_option maxRecDepth 100000 in
theorem c_X12_readWhole (l : Launch) (E : qV) {g : qS} {a0 : Nat} {a1 : Int32} {a2 : Int32} {res : (Int32 × qS)} (hf : f_X12_readWhole g a0 a1 a2 = some res) : q_MW l yX12_readWhole cX12_readWhole 4 (some .int) 2 44 E [.ref (q_ad E a0), .int a1, .int a2] g (some (.int res.1)) res.2 ∧ ∃ fs, g a0 = some (.inr (11, fs)) := by
  unfold f_X12_readWhole at hf
  obtain ⟨u9, hu9, hf⟩ := q_ob hf
  refine ⟨q_ofW (by decide) rfl ?_, g_C_sp hu9⟩
  intro p e s m args below meth c ls C hj hl
  have hx := C.1
  have hb := C.2.1
  have C : q_C E p s m args meth c cX12_readWhole RX12 4 (some .int) := C
  have hl : lv_has ls 4 [(0, .ref (q_ad E a0)), (1, .int a1), (2, .int a2)] := hl
  refine lv_aload_n hx hb dX12_readWhole_0 rfl (lv_at hl 0 rfl) ?_
  refine lv_iload_n hx hb dX12_readWhole_1 rfl (lv_at hl 1 rfl) ?_
  refine lv_iload_n hx hb dX12_readWhole_2 rfl (lv_at hl 2 rfl) ?_
  refine q_cVWI C hj cw_X12_131 (As := [.int a1, .int a2]) (rest := []) hf (fun v9 g9 h9 => c_X12_bounded l E h9) rfl hl rfl rfl rfl dX12_readWhole_3 ⟨Nat.zero_le _, Nat.zero_le _⟩ (fun v2 g1 H locs hj hf => ?_)
  refine lv_istore_n (lv' := [(3, .int v2), (0, .ref (q_ad E a0)), (1, .int a1), (2, .int a2)]) hx hb dX12_readWhole_6 rfl hl (by decide) rfl (fun ls hl => ?_)
  refine lv_aload_n hx hb dX12_readWhole_7 rfl (lv_at hl 1 rfl) ?_
  refine q_cVWV C hj cw_X12_116 (As := []) (rest := []) hf (fun g9 h9 => c_X12_goesOn l E h9) rfl hl rfl rfl rfl dX12_readWhole_8 ⟨Nat.zero_le _, Nat.zero_le _⟩ (fun g3 H locs hj hf => ?_)
  refine lv_iload_n hx hb dX12_readWhole_11 rfl (lv_at hl 0 rfl) ?_
  exact q_iretW C hj dX12_readWhole_12 hf
def f_X12_readPart (g : qS) (a0 : Nat) (a1 : Nat) (a2 : Int32) (a3 : Int32) : Option (Int32 × qS) := (g_C g a0 11).bind fun _ => (f_X12_needs g a0 a1).bind fun g1 => q_b2 (f_X12_readWhole g1 a0 a2 a3) fun v3 g2 => some (v3, g2)
set_option maxHeartbeats 4000000 in
set_option maxRecDepth 100000 in
theorem c_X12_readPart (l : Launch) (E : qV) {g : qS} {a0 : Nat} {a1 : Nat} {a2 : Int32} {a3 : Int32} {res : (Int32 × qS)} (hf : f_X12_readPart g a0 a1 a2 a3 = some res) : q_MW l yX12_readPart cX12_readPart 4 (some .int) 7 185 E [.ref (q_ad E a0), .ref (q_sa E a1), .int a2, .int a3] g (some (.int res.1)) res.2 ∧ ∃ fs, g a0 = some (.inr (11, fs)) := by
  unfold f_X12_readPart at hf
  obtain ⟨u9, hu9, hf⟩ := q_ob hf
  refine ⟨q_ofW (by decide) rfl ?_, g_C_sp hu9⟩
  intro p e s m args below meth c ls C hj hl
  have hx := C.1
  have hb := C.2.1
  have C : q_C E p s m args meth c cX12_readPart RX12 4 (some .int) := C
  have hl : lv_has ls 4 [(0, .ref (q_ad E a0)), (1, .ref (q_sa E a1)), (2, .int a2), (3, .int a3)] := hl
  refine lv_aload_n hx hb dX12_readPart_0 rfl (lv_at hl 0 rfl) ?_
  refine lv_aload_n hx hb dX12_readPart_1 rfl (lv_at hl 1 rfl) ?_
  refine q_cVWV C hj cw_X12_135 (As := [.ref (q_sa E a1)]) (rest := []) hf (fun g9 h9 => c_X12_needs l E h9) rfl hl rfl rfl rfl dX12_readPart_2 ⟨Nat.zero_le _, Nat.zero_le _⟩ (fun g1 H locs hj hf => ?_)
  refine lv_aload_n hx hb dX12_readPart_5 rfl (lv_at hl 0 rfl) ?_
  refine lv_iload_n hx hb dX12_readPart_6 rfl (lv_at hl 2 rfl) ?_
  refine lv_iload_n hx hb dX12_readPart_7 rfl (lv_at hl 3 rfl) ?_
  refine q_cVWI C hj cw_X12_139 (As := [.int a2, .int a3]) (rest := []) hf (fun v9 g9 h9 => c_X12_readWhole l E h9) rfl hl rfl rfl rfl dX12_readPart_8 ⟨Nat.zero_le _, Nat.zero_le _⟩ (fun v3 g2 H locs hj hf => ?_)
  exact q_iretW C hj dX12_readPart_11 hf
def f_X12_isName (g : qS) (a0 : Nat) : Option Int32 := (g_C g a0 11).bind fun _ => (g_I g a0 11 9).bind fun v1 => if v1 = 2 then ((f_X12_isWord g a0 29).bind fun v2 => if v2 = 0 then ((f_X12_isWord g a0 32).bind fun v3 => if v3 = 0 then ((f_X12_isWord g a0 33).bind fun v4 => if v4 = 0 then ((f_X12_isWord g a0 34).bind fun v5 => if v5 = 0 then ((f_X12_isWord g a0 35).bind fun v6 => if v6 = 0 then ((f_X12_isWord g a0 36).bind fun v7 => if v7 = 0 then ((f_X12_isWord g a0 37).bind fun v8 => if v8 = 0 then ((f_X12_isWord g a0 38).bind fun v9 => if v9 = 0 then ((f_X12_isWord g a0 39).bind fun v10 => if v10 = 0 then ((f_X12_isWord g a0 40).bind fun v11 => if v11 = 0 then (some 1) else (some 0)) else (some 0)) else (some 0)) else (some 0)) else (some 0)) else (some 0)) else (some 0)) else (some 0)) else (some 0)) else (some 0)) else (some 0)
set_option maxHeartbeats 4000000 in
set_option maxRecDepth 100000 in
theorem c_X12_isName (l : Launch) (E : qV) {g : qS} {a0 : Nat} {res : Int32} (hf : f_X12_isName g a0 = some res) : q_MR l yX12_isName cX12_isName 1 (some .boolean) 6 164 E [.ref (q_ad E a0)] g (some (.int res)) ∧ ∃ fs, g a0 = some (.inr (11, fs)) := by
  unfold f_X12_isName at hf
  obtain ⟨u9, hu9, hf⟩ := q_ob hf
  refine ⟨q_ofR (by decide) rfl ?_, g_C_sp hu9⟩
  intro p e s m args below meth c ls C hw hl
  have hj : q_J E s g s.heap [] := ⟨hw, va_S.rf⟩
  have hx := C.1
  have hb := C.2.1
  have C : q_C E p s m args meth c cX12_isName RX12 1 (some .boolean) := C
  have hl : lv_has ls 1 [(0, .ref (q_ad E a0))] := hl
  refine lv_aload_n hx hb dX12_isName_0 rfl (lv_at hl 0 rfl) ?_
  refine q_getI C hj lk_X12_80 dX12_isName_1 hf (fun v1 hf => ?_)
  refine lv_iconst (v := 2) hx hb dX12_isName_4 qi_2 ?_
  refine q_icne C (tgt := 53) dX12_isName_5 (by decide) hf (fun hf => ?_) (fun hf => ?_)
  · refine lv_iconst (v := 0) hx hb dX12_isName_53 qi_0 ?_
    exact q_z0retR C dX12_isName_54 hf
  · refine lv_aload_n hx hb dX12_isName_8 rfl (lv_at hl 0 rfl) ?_
    refine q_ldcS C (i := 29) rfl dX12_isName_9 ?_
    refine q_cVRI C hj cw_X12_119 (As := [.ref (q_sa E 29)]) (rest := []) hf (fun v9 h9 => c_X12_isWord l E h9) rfl hl rfl rfl rfl dX12_isName_11 ⟨Nat.zero_le _, Nat.zero_le _⟩ (fun v2 hf => ?_)
    refine q_ifne C (tgt := 53) dX12_isName_14 (by decide) hf (fun hf => ?_) (fun hf => ?_)
    · refine lv_iconst (v := 0) hx hb dX12_isName_53 qi_0 ?_
      exact q_z0retR C dX12_isName_54 hf
    · refine lv_aload_n hx hb dX12_isName_17 rfl (lv_at hl 0 rfl) ?_
      refine q_ldcS C (i := 32) rfl dX12_isName_18 ?_
      refine q_cVRI C hj cw_X12_119 (As := [.ref (q_sa E 32)]) (rest := []) hf (fun v9 h9 => c_X12_isWord l E h9) rfl hl rfl rfl rfl dX12_isName_20 ⟨Nat.zero_le _, Nat.zero_le _⟩ (fun v3 hf => ?_)
      refine q_ifne C (tgt := 53) dX12_isName_23 (by decide) hf (fun hf => ?_) (fun hf => ?_)
      · refine lv_iconst (v := 0) hx hb dX12_isName_53 qi_0 ?_
        exact q_z0retR C dX12_isName_54 hf
      · refine lv_aload_n hx hb dX12_isName_26 rfl (lv_at hl 0 rfl) ?_
        refine q_ldcS C (i := 33) rfl dX12_isName_27 ?_
        refine q_cVRI C hj cw_X12_119 (As := [.ref (q_sa E 33)]) (rest := []) hf (fun v9 h9 => c_X12_isWord l E h9) rfl hl rfl rfl rfl dX12_isName_29 ⟨Nat.zero_le _, Nat.zero_le _⟩ (fun v4 hf => ?_)
        refine q_ifne C (tgt := 53) dX12_isName_32 (by decide) hf (fun hf => ?_) (fun hf => ?_)
        · refine lv_iconst (v := 0) hx hb dX12_isName_53 qi_0 ?_
          exact q_z0retR C dX12_isName_54 hf
        · refine lv_aload_n hx hb dX12_isName_35 rfl (lv_at hl 0 rfl) ?_
          refine q_ldcS C (i := 34) rfl dX12_isName_36 ?_
          refine q_cVRI C hj cw_X12_119 (As := [.ref (q_sa E 34)]) (rest := []) hf (fun v9 h9 => c_X12_isWord l E h9) rfl hl rfl rfl rfl dX12_isName_38 ⟨Nat.zero_le _, Nat.zero_le _⟩ (fun v5 hf => ?_)
          refine q_ifne C (tgt := 53) dX12_isName_41 (by decide) hf (fun hf => ?_) (fun hf => ?_)
          · refine lv_iconst (v := 0) hx hb dX12_isName_53 qi_0 ?_
            exact q_z0retR C dX12_isName_54 hf
          · refine lv_aload_n hx hb dX12_isName_44 rfl (lv_at hl 0 rfl) ?_
            refine q_ldcS C (i := 35) rfl dX12_isName_45 ?_
            refine q_cVRI C hj cw_X12_119 (As := [.ref (q_sa E 35)]) (rest := []) hf (fun v9 h9 => c_X12_isWord l E h9) rfl hl rfl rfl rfl dX12_isName_47 ⟨Nat.zero_le _, Nat.zero_le _⟩ (fun v6 hf => ?_)
            refine q_ifeq C (tgt := 55) dX12_isName_50 (by decide) hf (fun hf => ?_) (fun hf => ?_)
            · refine lv_aload_n hx hb dX12_isName_55 rfl (lv_at hl 0 rfl) ?_
              refine q_ldcS C (i := 36) rfl dX12_isName_56 ?_
              refine q_cVRI C hj cw_X12_119 (As := [.ref (q_sa E 36)]) (rest := []) hf (fun v9 h9 => c_X12_isWord l E h9) rfl hl rfl rfl rfl dX12_isName_58 ⟨Nat.zero_le _, Nat.zero_le _⟩ (fun v7 hf => ?_)
              refine q_ifne C (tgt := 104) dX12_isName_61 (by decide) hf (fun hf => ?_) (fun hf => ?_)
              · refine lv_iconst (v := 0) hx hb dX12_isName_104 qi_0 ?_
                exact q_z0retR C dX12_isName_105 hf
              · refine lv_aload_n hx hb dX12_isName_64 rfl (lv_at hl 0 rfl) ?_
                refine q_ldcS C (i := 37) rfl dX12_isName_65 ?_
                refine q_cVRI C hj cw_X12_119 (As := [.ref (q_sa E 37)]) (rest := []) hf (fun v9 h9 => c_X12_isWord l E h9) rfl hl rfl rfl rfl dX12_isName_67 ⟨Nat.zero_le _, Nat.zero_le _⟩ (fun v8 hf => ?_)
                refine q_ifne C (tgt := 104) dX12_isName_70 (by decide) hf (fun hf => ?_) (fun hf => ?_)
                · refine lv_iconst (v := 0) hx hb dX12_isName_104 qi_0 ?_
                  exact q_z0retR C dX12_isName_105 hf
                · refine lv_aload_n hx hb dX12_isName_73 rfl (lv_at hl 0 rfl) ?_
                  refine q_ldcS C (i := 38) rfl dX12_isName_74 ?_
                  refine q_cVRI C hj cw_X12_119 (As := [.ref (q_sa E 38)]) (rest := []) hf (fun v9 h9 => c_X12_isWord l E h9) rfl hl rfl rfl rfl dX12_isName_76 ⟨Nat.zero_le _, Nat.zero_le _⟩ (fun v9 hf => ?_)
                  refine q_ifne C (tgt := 104) dX12_isName_79 (by decide) hf (fun hf => ?_) (fun hf => ?_)
                  · refine lv_iconst (v := 0) hx hb dX12_isName_104 qi_0 ?_
                    exact q_z0retR C dX12_isName_105 hf
                  · refine lv_aload_n hx hb dX12_isName_82 rfl (lv_at hl 0 rfl) ?_
                    refine q_ldcS C (i := 39) rfl dX12_isName_83 ?_
                    refine q_cVRI C hj cw_X12_119 (As := [.ref (q_sa E 39)]) (rest := []) hf (fun v9 h9 => c_X12_isWord l E h9) rfl hl rfl rfl rfl dX12_isName_85 ⟨Nat.zero_le _, Nat.zero_le _⟩ (fun v10 hf => ?_)
                    refine q_ifne C (tgt := 104) dX12_isName_88 (by decide) hf (fun hf => ?_) (fun hf => ?_)
                    · refine lv_iconst (v := 0) hx hb dX12_isName_104 qi_0 ?_
                      exact q_z0retR C dX12_isName_105 hf
                    · refine lv_aload_n hx hb dX12_isName_91 rfl (lv_at hl 0 rfl) ?_
                      refine q_ldcS C (i := 40) rfl dX12_isName_92 ?_
                      refine q_cVRI C hj cw_X12_119 (As := [.ref (q_sa E 40)]) (rest := []) hf (fun v9 h9 => c_X12_isWord l E h9) rfl hl rfl rfl rfl dX12_isName_94 ⟨Nat.zero_le _, Nat.zero_le _⟩ (fun v11 hf => ?_)
                      refine q_ifne C (tgt := 104) dX12_isName_97 (by decide) hf (fun hf => ?_) (fun hf => ?_)
                      · refine lv_iconst (v := 0) hx hb dX12_isName_104 qi_0 ?_
                        exact q_z0retR C dX12_isName_105 hf
                      · refine lv_iconst (v := 1) hx hb dX12_isName_100 qi_1 ?_
                        refine lv_goto (tgt := 105) hx hb dX12_isName_101 (by decide) ?_
                        exact q_z1retR C dX12_isName_105 hf
            · refine lv_iconst (v := 0) hx hb dX12_isName_53 qi_0 ?_
              exact q_z0retR C dX12_isName_54 hf
def J_X12_begins_10  (x0 : Nat) (g : qS) : Option qS := (g_R g x0 11 4).bind fun v1 => (g_I g v1 10 0).bind fun v2 => if v2 = 0 then ((f_X12_flaw g x0 6).bind fun g4 => (f_X12_goesOn g4 x0).bind fun g5 => some g5) else ((f_X12_goesOn g x0).bind fun g3 => some g3)
set_option maxHeartbeats 4000000 in
set_option maxRecDepth 100000 in
theorem w_J_X12_begins_10 {l : Launch} {E : qV} {p : Program} {e : Env} {s : State} {m : MethodId} {args : Array Value} {below : List Frame} {meth : Method} {c : Code}  {res : qS} (C : q_C E p s m args meth c cX12_begins RX12 3 none)  : ∀ {x0 : Nat} {g : qS} {H : Heap} {locs : List Loc} {ls : Array Slot}, q_J E s g H locs → lv_has ls 3 [(0, .ref (q_ad E x0))] → J_X12_begins_10 x0 g = some res → W p l e (q_rm 2 43) s m args below meth c H locs 0 0 (q_ZW E below none res args s) (F0 m 10 ls []) := by
  have hx := C.1
  have hb := C.2.1
  intro x0 g H locs ls hj hl hf
  unfold J_X12_begins_10 at hf
  refine lv_aload_n hx hb dX12_begins_10 rfl (lv_at hl 0 rfl) ?_
  refine q_getR C hj lk_X12_162 dX12_begins_11 hf (fun v1 hf => ?_)
  refine q_getI C hj lk_X12_166 dX12_begins_14 hf (fun v2 hf => ?_)
  refine q_ifne C (tgt := 26) dX12_begins_17 (by decide) hf (fun hf => ?_) (fun hf => ?_)
  · refine lv_aload_n hx hb dX12_begins_26 rfl (lv_at hl 0 rfl) ?_
    refine q_cVWV C hj cw_X12_116 (As := []) (rest := []) hf (fun g9 h9 => c_X12_goesOn l E h9) rfl hl rfl rfl rfl dX12_begins_27 ⟨Nat.zero_le _, Nat.zero_le _⟩ (fun g3 H locs hj hf => ?_)
    exact q_vretW C hj dX12_begins_30 hf
  · refine lv_aload_n hx hb dX12_begins_20 rfl (lv_at hl 0 rfl) ?_
    refine lv_bipush (v := 6) hx hb dX12_begins_21 (by decide) ?_
    refine q_cVWV C hj cw_X12_123 (As := [.int 6]) (rest := []) hf (fun g9 h9 => c_X12_flaw l E h9) rfl hl rfl rfl rfl dX12_begins_23 ⟨Nat.zero_le _, Nat.zero_le _⟩ (fun g4 H locs hj hf => ?_)
    refine lv_aload_n hx hb dX12_begins_26 rfl (lv_at hl 0 rfl) ?_
    refine q_cVWV C hj cw_X12_116 (As := []) (rest := []) hf (fun g9 h9 => c_X12_goesOn l E h9) rfl hl rfl rfl rfl dX12_begins_27 ⟨Nat.zero_le _, Nat.zero_le _⟩ (fun g5 H locs hj hf => ?_)
    exact q_vretW C hj dX12_begins_30 hf
def f_X12_begins (g : qS) (a0 : Nat) (a1 : Int32) (a2 : Int32) : Option qS := (g_C g a0 11).bind fun _ => if a1 = a2 then ((f_X12_flaw g a0 5).bind fun g1 => J_X12_begins_10 a0 g1) else (J_X12_begins_10 a0 g)
set_option maxHeartbeats 4000000 in
set_option maxRecDepth 100000 in
theorem c_X12_begins (l : Launch) (E : qV) {g : qS} {a0 : Nat} {a1 : Int32} {a2 : Int32} {res : qS} (hf : f_X12_begins g a0 a1 a2 = some res) : q_MW l yX12_begins cX12_begins 3 none 2 43 E [.ref (q_ad E a0), .int a1, .int a2] g none res ∧ ∃ fs, g a0 = some (.inr (11, fs)) := by
  unfold f_X12_begins at hf
  obtain ⟨u9, hu9, hf⟩ := q_ob hf
  refine ⟨q_ofW (by decide) rfl ?_, g_C_sp hu9⟩
  intro p e s m args below meth c ls C hj hl
  have hx := C.1
  have hb := C.2.1
  have C : q_C E p s m args meth c cX12_begins RX12 3 none := C
  have hl : lv_has ls 3 [(0, .ref (q_ad E a0)), (1, .int a1), (2, .int a2)] := hl
  refine lv_iload_n hx hb dX12_begins_0 rfl (lv_at hl 1 rfl) ?_
  refine lv_iload_n hx hb dX12_begins_1 rfl (lv_at hl 2 rfl) ?_
  refine q_icne C (tgt := 10) dX12_begins_2 (by decide) hf (fun hf => ?_) (fun hf => ?_)
  · refine w_J_X12_begins_10 C  hj (lv_sub hl [0] rfl) hf
  · refine lv_aload_n hx hb dX12_begins_5 rfl (lv_at hl 0 rfl) ?_
    refine lv_iconst (v := 5) hx hb dX12_begins_6 qi_5 ?_
    refine q_cVWV C hj cw_X12_123 (As := [.int 5]) (rest := []) hf (fun g9 h9 => c_X12_flaw l E h9) rfl hl rfl rfl rfl dX12_begins_7 ⟨Nat.zero_le _, Nat.zero_le _⟩ (fun g1 H locs hj hf => ?_)
    refine w_J_X12_begins_10 C  hj (lv_sub hl [0] rfl) hf
def L_X11_find_2  (g : qS) : Nat → Nat → Int64 → Int32 → Option Int32
  | 0, _, _, _ => none
  | n + 1, x0, x1, x3 => (g_I g x0 10 10).bind fun v1 => if v1 ≤ x3 then (some (-1)) else ((g_R g x0 10 32).bind fun v2 => (a_L g v2 x3).bind fun v3 => if v3 = x1 then (some x3) else (L_X11_find_2 g n x0 x1 (x3 + 1)))
set_option maxHeartbeats 4000000 in
set_option maxRecDepth 100000 in
theorem w_L_X11_find_2 {l : Launch} {E : qV} {p : Program} {e : Env} {s : State} {m : MethodId} {args : Array Value} {below : List Frame} {meth : Method} {c : Code}  {g : qS} {res : Int32} (C : q_C E p s m args meth c cX11_find RX11 4 (some .int))  : ∀ {n : Nat} {x0 : Nat} {x1 : Int64} {x3 : Int32} {ls : Array Slot}, q_J E s g s.heap [] → lv_has ls 4 [(0, .ref (q_ad E x0)), (1, .long x1), (3, .int x3)] → L_X11_find_2 g n x0 x1 x3 = some res → W p l e (q_rm 0 0) s m args below meth c s.heap [] 0 0 (q_ZR below (some (.int res)) args s) (F0 m 2 ls []) := by
  have hx := C.1
  have hb := C.2.1
  intro n
  induction n with
  | zero =>
    intro x0 x1 x3 ls hj hl hf
    cases hf
  | succ n ih_ =>
    intro x0 x1 x3 ls hj hl hf
    have ih : ∀ (x0 : Nat) (x1 : Int64) (x3 : Int32) (ls : Array Slot), q_J E s g s.heap [] → lv_has ls 4 [(0, .ref (q_ad E x0)), (1, .long x1), (3, .int x3)] → L_X11_find_2 g n x0 x1 x3 = some res → W p l e (q_rm 0 0) s m args below meth c s.heap [] 0 0 (q_ZR below (some (.int res)) args s) (F0 m 2 ls []) := fun x0 x1 x3 ls hj hl hf => ih_ hj hl hf
    unfold L_X11_find_2 at hf
    refine lv_iload_n hx hb dX11_find_2 rfl (lv_at hl 2 rfl) ?_
    refine lv_aload_n hx hb dX11_find_3 rfl (lv_at hl 0 rfl) ?_
    refine q_getI C hj lk_X11_86 dX11_find_4 hf (fun v1 hf => ?_)
    refine q_icge C (tgt := 29) dX11_find_7 (by decide) hf (fun hf => ?_) (fun hf => ?_)
    · refine lv_iconst (v := -1) hx hb dX11_find_29 qi_m1 ?_
      exact q_iretR C dX11_find_30 hf
    · refine lv_aload_n hx hb dX11_find_10 rfl (lv_at hl 0 rfl) ?_
      refine q_getR C hj lk_X11_76 dX11_find_11 hf (fun v2 hf => ?_)
      refine lv_iload_n hx hb dX11_find_14 rfl (lv_at hl 2 rfl) ?_
      refine q_aldL C hj dX11_find_15 hf (fun v3 hf => ?_)
      refine lv_lload_n hx hb dX11_find_16 rfl (lv_at hl 1 rfl) ?_
      refine q_lcne C (tgt := 23) dX11_find_17 dX11_find_18 (by decide) hf (fun hf => ?_) (fun hf => ?_)
      · refine lv_iinc (v := x3 + 1) (lv' := [(3, .int (x3 + 1)), (0, .ref (q_ad E x0)), (1, .long x1)]) hx hb dX11_find_23 hl (k := 2) rfl (by rw [qi_1]) (by decide) rfl (fun ls hl => ?_)
        refine lv_goto (tgt := 2) hx hb dX11_find_26 (by decide) ?_
        exact ih _ _ _  ls hj (lv_sub hl [1, 2, 0] rfl) hf
      · refine lv_iload_n hx hb dX11_find_21 rfl (lv_at hl 2 rfl) ?_
        exact q_iretR C dX11_find_22 hf
def f_X11_find (g : qS) (a0 : Nat) (a1 : Int64) : Option Int32 := (g_C g a0 10).bind fun _ => L_X11_find_2 g 1000000000 a0 a1 0
set_option maxHeartbeats 4000000 in
set_option maxRecDepth 100000 in
theorem c_X11_find (l : Launch) (E : qV) {g : qS} {a0 : Nat} {a1 : Int64} {res : Int32} (hf : f_X11_find g a0 a1 = some res) : q_MR l yX11_find cX11_find 4 (some .int) 0 0 E [.ref (q_ad E a0), .long a1] g (some (.int res)) ∧ ∃ fs, g a0 = some (.inr (10, fs)) := by
  unfold f_X11_find at hf
  obtain ⟨u9, hu9, hf⟩ := q_ob hf
  refine ⟨q_ofR (by decide) rfl ?_, g_C_sp hu9⟩
  intro p e s m args below meth c ls C hw hl
  have hj : q_J E s g s.heap [] := ⟨hw, va_S.rf⟩
  have hx := C.1
  have hb := C.2.1
  have C : q_C E p s m args meth c cX11_find RX11 4 (some .int) := C
  have hl : lv_has ls 4 [(0, .ref (q_ad E a0)), (1, .long a1)] := hl
  refine lv_iconst (v := 0) hx hb dX11_find_0 qi_0 ?_
  refine lv_istore_n (lv' := [(3, .int 0), (0, .ref (q_ad E a0)), (1, .long a1)]) hx hb dX11_find_1 rfl hl (by decide) rfl (fun ls hl => ?_)
  refine w_L_X11_find_2 C  hj (lv_sub hl [1, 2, 0] rfl) hf
def J_X12_readFresh_12  (x0 : Nat) (g : qS) : Option (Int64 × qS) := (g_R g x0 11 4).bind fun v1 => (g_L g x0 11 14).bind fun v2 => (f_X11_find g v1 v2).bind fun v3 => if v3 = (-1) then ((g_L g x0 11 14).bind fun v4 => (f_X12_goesOn g x0).bind fun g5 => some (v4, g5)) else ((f_X12_flaw g x0 3).bind fun g6 => (g_L g6 x0 11 14).bind fun v7 => (f_X12_goesOn g6 x0).bind fun g8 => some (v7, g8))
set_option maxHeartbeats 4000000 in
set_option maxRecDepth 100000 in
theorem w_J_X12_readFresh_12 {l : Launch} {E : qV} {p : Program} {e : Env} {s : State} {m : MethodId} {args : Array Value} {below : List Frame} {meth : Method} {c : Code}  {res : (Int64 × qS)} (C : q_C E p s m args meth c cX12_readFresh RX12 3 (some .long))  : ∀ {x0 : Nat} {g : qS} {H : Heap} {locs : List Loc} {ls : Array Slot}, q_J E s g H locs → lv_has ls 3 [(0, .ref (q_ad E x0))] → J_X12_readFresh_12 x0 g = some res → W p l e (q_rm 7 184) s m args below meth c H locs 0 0 (q_ZW E below (some (.long res.1)) res.2 args s) (F0 m 12 ls []) := by
  have hx := C.1
  have hb := C.2.1
  intro x0 g H locs ls hj hl hf
  unfold J_X12_readFresh_12 at hf
  refine lv_aload_n hx hb dX12_readFresh_12 rfl (lv_at hl 0 rfl) ?_
  refine q_getR C hj lk_X12_162 dX12_readFresh_13 hf (fun v1 hf => ?_)
  refine lv_aload_n hx hb dX12_readFresh_16 rfl (lv_at hl 0 rfl) ?_
  refine q_getL C hj lk_X12_96 dX12_readFresh_17 hf (fun v2 hf => ?_)
  refine q_cVRI C hj cw_X12_175 (As := [.long v2]) (rest := []) hf (fun v9 h9 => c_X11_find l E h9) rfl hl rfl rfl rfl dX12_readFresh_20 ⟨Nat.zero_le _, Nat.zero_le _⟩ (fun v3 hf => ?_)
  refine lv_iconst (v := -1) hx hb dX12_readFresh_23 qi_m1 ?_
  refine q_iceq C (tgt := 32) dX12_readFresh_24 (by decide) hf (fun hf => ?_) (fun hf => ?_)
  · refine lv_aload_n hx hb dX12_readFresh_32 rfl (lv_at hl 0 rfl) ?_
    refine q_getL C hj lk_X12_96 dX12_readFresh_33 hf (fun v4 hf => ?_)
    refine lv_lstore_n (lv' := [(1, .long v4), (0, .ref (q_ad E x0))]) hx hb dX12_readFresh_36 rfl hl (by decide) rfl (fun ls hl => ?_)
    refine lv_aload_n hx hb dX12_readFresh_37 rfl (lv_at hl 1 rfl) ?_
    refine q_cVWV C hj cw_X12_116 (As := []) (rest := []) hf (fun g9 h9 => c_X12_goesOn l E h9) rfl hl rfl rfl rfl dX12_readFresh_38 ⟨Nat.zero_le _, Nat.zero_le _⟩ (fun g5 H locs hj hf => ?_)
    refine lv_lload_n hx hb dX12_readFresh_41 rfl (lv_at hl 0 rfl) ?_
    exact q_lretW C hj dX12_readFresh_42 hf
  · refine lv_aload_n hx hb dX12_readFresh_27 rfl (lv_at hl 0 rfl) ?_
    refine lv_iconst (v := 3) hx hb dX12_readFresh_28 qi_3 ?_
    refine q_cVWV C hj cw_X12_123 (As := [.int 3]) (rest := []) hf (fun g9 h9 => c_X12_flaw l E h9) rfl hl rfl rfl rfl dX12_readFresh_29 ⟨Nat.zero_le _, Nat.zero_le _⟩ (fun g6 H locs hj hf => ?_)
    refine lv_aload_n hx hb dX12_readFresh_32 rfl (lv_at hl 0 rfl) ?_
    refine q_getL C hj lk_X12_96 dX12_readFresh_33 hf (fun v7 hf => ?_)
    refine lv_lstore_n (lv' := [(1, .long v7), (0, .ref (q_ad E x0))]) hx hb dX12_readFresh_36 rfl hl (by decide) rfl (fun ls hl => ?_)
    refine lv_aload_n hx hb dX12_readFresh_37 rfl (lv_at hl 1 rfl) ?_
    refine q_cVWV C hj cw_X12_116 (As := []) (rest := []) hf (fun g9 h9 => c_X12_goesOn l E h9) rfl hl rfl rfl rfl dX12_readFresh_38 ⟨Nat.zero_le _, Nat.zero_le _⟩ (fun g8 H locs hj hf => ?_)
    refine lv_lload_n hx hb dX12_readFresh_41 rfl (lv_at hl 0 rfl) ?_
    exact q_lretW C hj dX12_readFresh_42 hf
def f_X12_readFresh (g : qS) (a0 : Nat) : Option (Int64 × qS) := (g_C g a0 11).bind fun _ => (f_X12_isName g a0).bind fun v1 => if v1 = 0 then ((f_X12_flaw g a0 1).bind fun g2 => J_X12_readFresh_12 a0 g2) else (J_X12_readFresh_12 a0 g)
set_option maxHeartbeats 4000000 in
set_option maxRecDepth 100000 in
theorem c_X12_readFresh (l : Launch) (E : qV) {g : qS} {a0 : Nat} {res : (Int64 × qS)} (hf : f_X12_readFresh g a0 = some res) : q_MW l yX12_readFresh cX12_readFresh 3 (some .long) 7 184 E [.ref (q_ad E a0)] g (some (.long res.1)) res.2 ∧ ∃ fs, g a0 = some (.inr (11, fs)) := by
  unfold f_X12_readFresh at hf
  obtain ⟨u9, hu9, hf⟩ := q_ob hf
  refine ⟨q_ofW (by decide) rfl ?_, g_C_sp hu9⟩
  intro p e s m args below meth c ls C hj hl
  have hx := C.1
  have hb := C.2.1
  have C : q_C E p s m args meth c cX12_readFresh RX12 3 (some .long) := C
  have hl : lv_has ls 3 [(0, .ref (q_ad E a0))] := hl
  refine lv_aload_n hx hb dX12_readFresh_0 rfl (lv_at hl 0 rfl) ?_
  refine q_cVRI C hj cw_X12_171 (As := []) (rest := []) hf (fun v9 h9 => c_X12_isName l E h9) rfl hl rfl rfl rfl dX12_readFresh_1 ⟨Nat.zero_le _, Nat.zero_le _⟩ (fun v1 hf => ?_)
  refine q_ifne C (tgt := 12) dX12_readFresh_4 (by decide) hf (fun hf => ?_) (fun hf => ?_)
  · refine w_J_X12_readFresh_12 C  hj (lv_sub hl [0] rfl) hf
  · refine lv_aload_n hx hb dX12_readFresh_7 rfl (lv_at hl 0 rfl) ?_
    refine lv_iconst (v := 1) hx hb dX12_readFresh_8 qi_1 ?_
    refine q_cVWV C hj cw_X12_123 (As := [.int 1]) (rest := []) hf (fun g9 h9 => c_X12_flaw l E h9) rfl hl rfl rfl rfl dX12_readFresh_9 ⟨Nat.zero_le _, Nat.zero_le _⟩ (fun g2 H locs hj hf => ?_)
    refine w_J_X12_readFresh_12 C  hj (lv_sub hl [0] rfl) hf
def f_X12_names (g : qS) (a0 : Nat) (a1 : Int64) (a2 : Int32) (a3 : Int32) : Option qS := (g_C g a0 11).bind fun _ => (g_R g a0 11 4).bind fun v1 => (g_R g v1 10 32).bind fun v2 => (g_R g a0 11 4).bind fun v3 => (g_I g v3 10 10).bind fun v4 => (s_L g v2 v4 a1).bind fun g5 => (g_R g5 a0 11 4).bind fun v6 => (g_R g5 v6 10 33).bind fun v7 => (g_R g5 a0 11 4).bind fun v8 => (g_I g5 v8 10 10).bind fun v9 => (s_I g5 v7 v9 a2).bind fun g10 => (g_R g10 a0 11 4).bind fun v11 => (g_R g10 v11 10 34).bind fun v12 => (g_R g10 a0 11 4).bind fun v13 => (g_I g10 v13 10 10).bind fun v14 => (s_I g10 v12 v14 a3).bind fun g15 => (g_R g15 a0 11 4).bind fun v16 => (g_I g15 v16 10 10).bind fun v17 => (p_I g15 v16 10 10 (v17 + 1)).bind fun g18 => some g18
set_option maxHeartbeats 4000000 in
set_option maxRecDepth 100000 in
theorem c_X12_names (l : Launch) (E : qV) {g : qS} {a0 : Nat} {a1 : Int64} {a2 : Int32} {a3 : Int32} {res : qS} (hf : f_X12_names g a0 a1 a2 a3 = some res) : q_MW l yX12_names cX12_names 5 none 0 0 E [.ref (q_ad E a0), .long a1, .int a2, .int a3] g none res ∧ ∃ fs, g a0 = some (.inr (11, fs)) := by
  unfold f_X12_names at hf
  obtain ⟨u9, hu9, hf⟩ := q_ob hf
  refine ⟨q_ofW (by decide) rfl ?_, g_C_sp hu9⟩
  intro p e s m args below meth c ls C hj hl
  have hx := C.1
  have hb := C.2.1
  have C : q_C E p s m args meth c cX12_names RX12 5 none := C
  have hl : lv_has ls 5 [(0, .ref (q_ad E a0)), (1, .long a1), (3, .int a2), (4, .int a3)] := hl
  refine lv_aload_n hx hb dX12_names_0 rfl (lv_at hl 0 rfl) ?_
  refine q_getR C hj lk_X12_162 dX12_names_1 hf (fun v1 hf => ?_)
  refine q_getR C hj lk_X12_179 dX12_names_4 hf (fun v2 hf => ?_)
  refine lv_aload_n hx hb dX12_names_7 rfl (lv_at hl 0 rfl) ?_
  refine q_getR C hj lk_X12_162 dX12_names_8 hf (fun v3 hf => ?_)
  refine q_getI C hj lk_X12_183 dX12_names_11 hf (fun v4 hf => ?_)
  refine lv_lload_n hx hb dX12_names_14 rfl (lv_at hl 1 rfl) ?_
  refine q_astL C hj dX12_names_15 hf (fun g5 H locs hj hf => ?_)
  refine lv_aload_n hx hb dX12_names_16 rfl (lv_at hl 0 rfl) ?_
  refine q_getR C hj lk_X12_162 dX12_names_17 hf (fun v6 hf => ?_)
  refine q_getR C hj lk_X12_186 dX12_names_20 hf (fun v7 hf => ?_)
  refine lv_aload_n hx hb dX12_names_23 rfl (lv_at hl 0 rfl) ?_
  refine q_getR C hj lk_X12_162 dX12_names_24 hf (fun v8 hf => ?_)
  refine q_getI C hj lk_X12_183 dX12_names_27 hf (fun v9 hf => ?_)
  refine lv_iload_n hx hb dX12_names_30 rfl (lv_at hl 2 rfl) ?_
  refine q_astI C hj dX12_names_31 hf (fun g10 H locs hj hf => ?_)
  refine lv_aload_n hx hb dX12_names_32 rfl (lv_at hl 0 rfl) ?_
  refine q_getR C hj lk_X12_162 dX12_names_33 hf (fun v11 hf => ?_)
  refine q_getR C hj lk_X12_189 dX12_names_36 hf (fun v12 hf => ?_)
  refine lv_aload_n hx hb dX12_names_39 rfl (lv_at hl 0 rfl) ?_
  refine q_getR C hj lk_X12_162 dX12_names_40 hf (fun v13 hf => ?_)
  refine q_getI C hj lk_X12_183 dX12_names_43 hf (fun v14 hf => ?_)
  refine lv_iload hx hb dX12_names_46 (lv_at hl 3 rfl) ?_
  refine q_astI C hj dX12_names_48 hf (fun g15 H locs hj hf => ?_)
  refine lv_aload_n hx hb dX12_names_49 rfl (lv_at hl 0 rfl) ?_
  refine q_getR C hj lk_X12_162 dX12_names_50 hf (fun v16 hf => ?_)
  refine lv_dup hx hb dX12_names_53 rfl ?_
  refine q_getI C hj lk_X12_183 dX12_names_54 hf (fun v17 hf => ?_)
  refine lv_iconst (v := 1) hx hb dX12_names_57 qi_1 ?_
  refine lv_iadd hx hb dX12_names_58 ?_
  refine q_putI C hj fp_X12_183 dX12_names_59 hf (fun g18 H locs hj hf => ?_)
  exact q_vretW C hj dX12_names_62 hf
def J_X12_knownOne_47  (x0 : Nat) (x2 : Int32) (g : qS) : Option (Int32 × qS) := (g_I g x0 11 9).bind fun v1 => if v1 = 5 then (some (0, g)) else ((g_R g x0 11 4).bind fun v2 => (g_R g v2 10 34).bind fun v3 => (a_I g v3 x2).bind fun v4 => some (v4, g))
set_option maxHeartbeats 4000000 in
set_option maxRecDepth 100000 in
theorem w_J_X12_knownOne_47 {l : Launch} {E : qV} {p : Program} {e : Env} {s : State} {m : MethodId} {args : Array Value} {below : List Frame} {meth : Method} {c : Code}  {res : (Int32 × qS)} (C : q_C E p s m args meth c cX12_knownOne RX12 3 (some .int))  : ∀ {x0 : Nat} {x2 : Int32} {g : qS} {H : Heap} {locs : List Loc} {ls : Array Slot}, q_J E s g H locs → lv_has ls 3 [(0, .ref (q_ad E x0)), (2, .int x2)] → J_X12_knownOne_47 x0 x2 g = some res → W p l e (q_rm 7 184) s m args below meth c H locs 0 0 (q_ZW E below (some (.int res.1)) res.2 args s) (F0 m 47 ls []) := by
  have hx := C.1
  have hb := C.2.1
  intro x0 x2 g H locs ls hj hl hf
  unfold J_X12_knownOne_47 at hf
  refine lv_aload_n hx hb dX12_knownOne_47 rfl (lv_at hl 0 rfl) ?_
  refine q_getI C hj lk_X12_80 dX12_knownOne_48 hf (fun v1 hf => ?_)
  refine lv_iconst (v := 5) hx hb dX12_knownOne_51 qi_5 ?_
  refine q_icne C (tgt := 59) dX12_knownOne_52 (by decide) hf (fun hf => ?_) (fun hf => ?_)
  · refine lv_aload_n hx hb dX12_knownOne_59 rfl (lv_at hl 0 rfl) ?_
    refine q_getR C hj lk_X12_162 dX12_knownOne_60 hf (fun v2 hf => ?_)
    refine q_getR C hj lk_X12_189 dX12_knownOne_63 hf (fun v3 hf => ?_)
    refine lv_iload_n hx hb dX12_knownOne_66 rfl (lv_at hl 1 rfl) ?_
    refine q_aldI C hj dX12_knownOne_67 hf (fun v4 hf => ?_)
    exact q_iretW C hj dX12_knownOne_68 hf
  · refine lv_iconst (v := 0) hx hb dX12_knownOne_55 qi_0 ?_
    refine lv_goto (tgt := 68) hx hb dX12_knownOne_56 (by decide) ?_
    exact q_iretW C hj dX12_knownOne_68 hf
def J_X12_knownOne_42  (x0 : Nat) (x2 : Int32) (g : qS) : Option (Int32 × qS) := (f_X12_flaw g x0 2).bind fun g1 => J_X12_knownOne_47 x0 x2 g1
set_option maxHeartbeats 4000000 in
set_option maxRecDepth 100000 in
theorem w_J_X12_knownOne_42 {l : Launch} {E : qV} {p : Program} {e : Env} {s : State} {m : MethodId} {args : Array Value} {below : List Frame} {meth : Method} {c : Code}  {res : (Int32 × qS)} (C : q_C E p s m args meth c cX12_knownOne RX12 3 (some .int))  : ∀ {x0 : Nat} {x2 : Int32} {g : qS} {H : Heap} {locs : List Loc} {ls : Array Slot}, q_J E s g H locs → lv_has ls 3 [(0, .ref (q_ad E x0)), (2, .int x2)] → J_X12_knownOne_42 x0 x2 g = some res → W p l e (q_rm 7 184) s m args below meth c H locs 0 0 (q_ZW E below (some (.int res.1)) res.2 args s) (F0 m 42 ls []) := by
  have hx := C.1
  have hb := C.2.1
  intro x0 x2 g H locs ls hj hl hf
  unfold J_X12_knownOne_42 at hf
  refine lv_aload_n hx hb dX12_knownOne_42 rfl (lv_at hl 0 rfl) ?_
  refine lv_iconst (v := 2) hx hb dX12_knownOne_43 qi_2 ?_
  refine q_cVWV C hj cw_X12_123 (As := [.int 2]) (rest := []) hf (fun g9 h9 => c_X12_flaw l E h9) rfl hl rfl rfl rfl dX12_knownOne_44 ⟨Nat.zero_le _, Nat.zero_le _⟩ (fun g1 H locs hj hf => ?_)
  refine w_J_X12_knownOne_47 C  hj (lv_sub hl [0, 1] rfl) hf
def J_X12_knownOne_12  (x0 : Nat) (x1 : Int32) (g : qS) : Option (Int32 × qS) := (g_R g x0 11 4).bind fun v1 => (g_L g x0 11 14).bind fun v2 => (f_X11_find g v1 v2).bind fun v3 => if v3 = (-1) then (J_X12_knownOne_42 x0 v3 g) else ((g_R g x0 11 4).bind fun v4 => (g_R g v4 10 33).bind fun v5 => (a_I g v5 v3).bind fun v6 => if v6 = x1 then (J_X12_knownOne_47 x0 v3 g) else (J_X12_knownOne_42 x0 v3 g))
set_option maxHeartbeats 4000000 in
set_option maxRecDepth 100000 in
theorem w_J_X12_knownOne_12 {l : Launch} {E : qV} {p : Program} {e : Env} {s : State} {m : MethodId} {args : Array Value} {below : List Frame} {meth : Method} {c : Code}  {res : (Int32 × qS)} (C : q_C E p s m args meth c cX12_knownOne RX12 3 (some .int))  : ∀ {x0 : Nat} {x1 : Int32} {g : qS} {H : Heap} {locs : List Loc} {ls : Array Slot}, q_J E s g H locs → lv_has ls 3 [(0, .ref (q_ad E x0)), (1, .int x1)] → J_X12_knownOne_12 x0 x1 g = some res → W p l e (q_rm 7 184) s m args below meth c H locs 0 0 (q_ZW E below (some (.int res.1)) res.2 args s) (F0 m 12 ls []) := by
  have hx := C.1
  have hb := C.2.1
  intro x0 x1 g H locs ls hj hl hf
  unfold J_X12_knownOne_12 at hf
  refine lv_aload_n hx hb dX12_knownOne_12 rfl (lv_at hl 0 rfl) ?_
  refine q_getR C hj lk_X12_162 dX12_knownOne_13 hf (fun v1 hf => ?_)
  refine lv_aload_n hx hb dX12_knownOne_16 rfl (lv_at hl 0 rfl) ?_
  refine q_getL C hj lk_X12_96 dX12_knownOne_17 hf (fun v2 hf => ?_)
  refine q_cVRI C hj cw_X12_175 (As := [.long v2]) (rest := []) hf (fun v9 h9 => c_X11_find l E h9) rfl hl rfl rfl rfl dX12_knownOne_20 ⟨Nat.zero_le _, Nat.zero_le _⟩ (fun v3 hf => ?_)
  refine lv_istore_n (lv' := [(2, .int v3), (0, .ref (q_ad E x0)), (1, .int x1)]) hx hb dX12_knownOne_23 rfl hl (by decide) rfl (fun ls hl => ?_)
  refine lv_iload_n hx hb dX12_knownOne_24 rfl (lv_at hl 0 rfl) ?_
  refine lv_iconst (v := -1) hx hb dX12_knownOne_25 qi_m1 ?_
  refine q_iceq C (tgt := 42) dX12_knownOne_26 (by decide) hf (fun hf => ?_) (fun hf => ?_)
  · refine w_J_X12_knownOne_42 C  hj (lv_sub hl [1, 0] rfl) hf
  · refine lv_aload_n hx hb dX12_knownOne_29 rfl (lv_at hl 1 rfl) ?_
    refine q_getR C hj lk_X12_162 dX12_knownOne_30 hf (fun v4 hf => ?_)
    refine q_getR C hj lk_X12_186 dX12_knownOne_33 hf (fun v5 hf => ?_)
    refine lv_iload_n hx hb dX12_knownOne_36 rfl (lv_at hl 0 rfl) ?_
    refine q_aldI C hj dX12_knownOne_37 hf (fun v6 hf => ?_)
    refine lv_iload_n hx hb dX12_knownOne_38 rfl (lv_at hl 2 rfl) ?_
    refine q_iceq C (tgt := 47) dX12_knownOne_39 (by decide) hf (fun hf => ?_) (fun hf => ?_)
    · refine w_J_X12_knownOne_47 C  hj (lv_sub hl [1, 0] rfl) hf
    · refine w_J_X12_knownOne_42 C  hj (lv_sub hl [1, 0] rfl) hf
def f_X12_knownOne (g : qS) (a0 : Nat) (a1 : Int32) : Option (Int32 × qS) := (g_C g a0 11).bind fun _ => (f_X12_isName g a0).bind fun v1 => if v1 = 0 then ((f_X12_flaw g a0 1).bind fun g2 => J_X12_knownOne_12 a0 a1 g2) else (J_X12_knownOne_12 a0 a1 g)
set_option maxHeartbeats 4000000 in
set_option maxRecDepth 100000 in
theorem c_X12_knownOne (l : Launch) (E : qV) {g : qS} {a0 : Nat} {a1 : Int32} {res : (Int32 × qS)} (hf : f_X12_knownOne g a0 a1 = some res) : q_MW l yX12_knownOne cX12_knownOne 3 (some .int) 7 184 E [.ref (q_ad E a0), .int a1] g (some (.int res.1)) res.2 ∧ ∃ fs, g a0 = some (.inr (11, fs)) := by
  unfold f_X12_knownOne at hf
  obtain ⟨u9, hu9, hf⟩ := q_ob hf
  refine ⟨q_ofW (by decide) rfl ?_, g_C_sp hu9⟩
  intro p e s m args below meth c ls C hj hl
  have hx := C.1
  have hb := C.2.1
  have C : q_C E p s m args meth c cX12_knownOne RX12 3 (some .int) := C
  have hl : lv_has ls 3 [(0, .ref (q_ad E a0)), (1, .int a1)] := hl
  refine lv_aload_n hx hb dX12_knownOne_0 rfl (lv_at hl 0 rfl) ?_
  refine q_cVRI C hj cw_X12_171 (As := []) (rest := []) hf (fun v9 h9 => c_X12_isName l E h9) rfl hl rfl rfl rfl dX12_knownOne_1 ⟨Nat.zero_le _, Nat.zero_le _⟩ (fun v1 hf => ?_)
  refine q_ifne C (tgt := 12) dX12_knownOne_4 (by decide) hf (fun hf => ?_) (fun hf => ?_)
  · refine w_J_X12_knownOne_12 C  hj (lv_sub hl [0, 1] rfl) hf
  · refine lv_aload_n hx hb dX12_knownOne_7 rfl (lv_at hl 0 rfl) ?_
    refine lv_iconst (v := 1) hx hb dX12_knownOne_8 qi_1 ?_
    refine q_cVWV C hj cw_X12_123 (As := [.int 1]) (rest := []) hf (fun g9 h9 => c_X12_flaw l E h9) rfl hl rfl rfl rfl dX12_knownOne_9 ⟨Nat.zero_le _, Nat.zero_le _⟩ (fun g2 H locs hj hf => ?_)
    refine w_J_X12_knownOne_12 C  hj (lv_sub hl [0, 1] rfl) hf
def f_X12_readKnown (g : qS) (a0 : Nat) (a1 : Int32) : Option (Int32 × qS) := (g_C g a0 11).bind fun _ => q_b2 (f_X12_knownOne g a0 a1) fun v2 g1 => (f_X12_goesOn g1 a0).bind fun g3 => some (v2, g3)
set_option maxHeartbeats 4000000 in
set_option maxRecDepth 100000 in
theorem c_X12_readKnown (l : Launch) (E : qV) {g : qS} {a0 : Nat} {a1 : Int32} {res : (Int32 × qS)} (hf : f_X12_readKnown g a0 a1 = some res) : q_MW l yX12_readKnown cX12_readKnown 3 (some .int) 8 206 E [.ref (q_ad E a0), .int a1] g (some (.int res.1)) res.2 ∧ ∃ fs, g a0 = some (.inr (11, fs)) := by
  unfold f_X12_readKnown at hf
  obtain ⟨u9, hu9, hf⟩ := q_ob hf
  refine ⟨q_ofW (by decide) rfl ?_, g_C_sp hu9⟩
  intro p e s m args below meth c ls C hj hl
  have hx := C.1
  have hb := C.2.1
  have C : q_C E p s m args meth c cX12_readKnown RX12 3 (some .int) := C
  have hl : lv_has ls 3 [(0, .ref (q_ad E a0)), (1, .int a1)] := hl
  refine lv_aload_n hx hb dX12_readKnown_0 rfl (lv_at hl 0 rfl) ?_
  refine lv_iload_n hx hb dX12_readKnown_1 rfl (lv_at hl 1 rfl) ?_
  refine q_cVWI C hj cw_X12_192 (As := [.int a1]) (rest := []) hf (fun v9 g9 h9 => c_X12_knownOne l E h9) rfl hl rfl rfl rfl dX12_readKnown_2 ⟨Nat.zero_le _, Nat.zero_le _⟩ (fun v2 g1 H locs hj hf => ?_)
  refine lv_istore_n (lv' := [(2, .int v2), (0, .ref (q_ad E a0)), (1, .int a1)]) hx hb dX12_readKnown_5 rfl hl (by decide) rfl (fun ls hl => ?_)
  refine lv_aload_n hx hb dX12_readKnown_6 rfl (lv_at hl 1 rfl) ?_
  refine q_cVWV C hj cw_X12_116 (As := []) (rest := []) hf (fun g9 h9 => c_X12_goesOn l E h9) rfl hl rfl rfl rfl dX12_readKnown_7 ⟨Nat.zero_le _, Nat.zero_le _⟩ (fun g3 H locs hj hf => ?_)
  refine lv_iload_n hx hb dX12_readKnown_10 rfl (lv_at hl 0 rfl) ?_
  exact q_iretW C hj dX12_readKnown_11 hf
def L_X12_readCollege_66 (k89 : Nat → qS → Option qS) : Nat → Nat → Int32 → qS → Option qS
  | 0, _, _, _ => none
  | n + 1, x0, x3, g => if 35 ≤ x3 then (k89 x0 g) else ((g_R g x0 11 4).bind fun v1 => (g_R g v1 10 18).bind fun v2 => (s_I g v2 x3 (-2)).bind fun g3 => L_X12_readCollege_66 k89 n x0 (x3 + 1) g3)
set_option maxHeartbeats 4000000 in
set_option maxRecDepth 100000 in
theorem w_L_X12_readCollege_66 {l : Launch} {E : qV} {p : Program} {e : Env} {s : State} {m : MethodId} {args : Array Value} {below : List Frame} {meth : Method} {c : Code} {k89 : Nat → qS → Option qS} {res : qS} (C : q_C E p s m args meth c cX12_readCollege RX12 4 none) (hk89 : ∀ (x0 : Nat) (g : qS) (H : Heap) (locs : List Loc) (ls : Array Slot), q_J E s g H locs → lv_has ls 4 [(0, .ref (q_ad E x0))] → k89 x0 g = some res → W p l e (q_rm 8 208) s m args below meth c H locs 0 0 (q_ZW E below none res args s) (F0 m 89 ls [])) : ∀ {n : Nat} {x0 : Nat} {x3 : Int32} {g : qS} {H : Heap} {locs : List Loc} {ls : Array Slot}, q_J E s g H locs → lv_has ls 4 [(0, .ref (q_ad E x0)), (3, .int x3)] → L_X12_readCollege_66 k89 n x0 x3 g = some res → W p l e (q_rm 8 208) s m args below meth c H locs 0 0 (q_ZW E below none res args s) (F0 m 66 ls []) := by
  have hx := C.1
  have hb := C.2.1
  intro n
  induction n with
  | zero =>
    intro x0 x3 g H locs ls hj hl hf
    cases hf
  | succ n ih_ =>
    intro x0 x3 g H locs ls hj hl hf
    have ih : ∀ (x0 : Nat) (x3 : Int32) (g : qS) (H : Heap) (locs : List Loc) (ls : Array Slot), q_J E s g H locs → lv_has ls 4 [(0, .ref (q_ad E x0)), (3, .int x3)] → L_X12_readCollege_66 k89 n x0 x3 g = some res → W p l e (q_rm 8 208) s m args below meth c H locs 0 0 (q_ZW E below none res args s) (F0 m 66 ls []) := fun x0 x3 g H locs ls hj hl hf => ih_ hj hl hf
    unfold L_X12_readCollege_66 at hf
    refine lv_iload_n hx hb dX12_readCollege_66 rfl (lv_at hl 1 rfl) ?_
    refine lv_bipush (v := 35) hx hb dX12_readCollege_67 (by decide) ?_
    refine q_icge C (tgt := 89) dX12_readCollege_69 (by decide) hf (fun hf => ?_) (fun hf => ?_)
    · exact hk89 _ _ _ _ ls hj (lv_sub hl [0] rfl) hf
    · refine lv_aload_n hx hb dX12_readCollege_72 rfl (lv_at hl 0 rfl) ?_
      refine q_getR C hj lk_X12_162 dX12_readCollege_73 hf (fun v1 hf => ?_)
      refine q_getR C hj lk_X12_225 dX12_readCollege_76 hf (fun v2 hf => ?_)
      refine lv_iload_n hx hb dX12_readCollege_79 rfl (lv_at hl 1 rfl) ?_
      refine lv_bipush (v := -2) hx hb dX12_readCollege_80 (by decide) ?_
      refine q_astI C hj dX12_readCollege_82 hf (fun g3 H locs hj hf => ?_)
      refine lv_iinc (v := x3 + 1) (lv' := [(3, .int (x3 + 1)), (0, .ref (q_ad E x0))]) hx hb dX12_readCollege_83 hl (k := 1) rfl (by rw [qi_1]) (by decide) rfl (fun ls hl => ?_)
      refine lv_goto (tgt := 66) hx hb dX12_readCollege_86 (by decide) ?_
      exact ih _ _ _ _ _ ls hj (lv_sub hl [1, 0] rfl) hf
def L_X12_readCollege_91 (k114 : Nat → qS → Option qS) : Nat → Nat → Int32 → qS → Option qS
  | 0, _, _, _ => none
  | n + 1, x0, x3, g => if 21 ≤ x3 then (k114 x0 g) else ((g_R g x0 11 4).bind fun v1 => (g_R g v1 10 22).bind fun v2 => (s_I g v2 x3 (-2)).bind fun g3 => L_X12_readCollege_91 k114 n x0 (x3 + 1) g3)
set_option maxHeartbeats 4000000 in
set_option maxRecDepth 100000 in
theorem w_L_X12_readCollege_91 {l : Launch} {E : qV} {p : Program} {e : Env} {s : State} {m : MethodId} {args : Array Value} {below : List Frame} {meth : Method} {c : Code} {k114 : Nat → qS → Option qS} {res : qS} (C : q_C E p s m args meth c cX12_readCollege RX12 4 none) (hk114 : ∀ (x0 : Nat) (g : qS) (H : Heap) (locs : List Loc) (ls : Array Slot), q_J E s g H locs → lv_has ls 4 [(0, .ref (q_ad E x0))] → k114 x0 g = some res → W p l e (q_rm 8 208) s m args below meth c H locs 0 0 (q_ZW E below none res args s) (F0 m 114 ls [])) : ∀ {n : Nat} {x0 : Nat} {x3 : Int32} {g : qS} {H : Heap} {locs : List Loc} {ls : Array Slot}, q_J E s g H locs → lv_has ls 4 [(0, .ref (q_ad E x0)), (3, .int x3)] → L_X12_readCollege_91 k114 n x0 x3 g = some res → W p l e (q_rm 8 208) s m args below meth c H locs 0 0 (q_ZW E below none res args s) (F0 m 91 ls []) := by
  have hx := C.1
  have hb := C.2.1
  intro n
  induction n with
  | zero =>
    intro x0 x3 g H locs ls hj hl hf
    cases hf
  | succ n ih_ =>
    intro x0 x3 g H locs ls hj hl hf
    have ih : ∀ (x0 : Nat) (x3 : Int32) (g : qS) (H : Heap) (locs : List Loc) (ls : Array Slot), q_J E s g H locs → lv_has ls 4 [(0, .ref (q_ad E x0)), (3, .int x3)] → L_X12_readCollege_91 k114 n x0 x3 g = some res → W p l e (q_rm 8 208) s m args below meth c H locs 0 0 (q_ZW E below none res args s) (F0 m 91 ls []) := fun x0 x3 g H locs ls hj hl hf => ih_ hj hl hf
    unfold L_X12_readCollege_91 at hf
    refine lv_iload_n hx hb dX12_readCollege_91 rfl (lv_at hl 1 rfl) ?_
    refine lv_bipush (v := 21) hx hb dX12_readCollege_92 (by decide) ?_
    refine q_icge C (tgt := 114) dX12_readCollege_94 (by decide) hf (fun hf => ?_) (fun hf => ?_)
    · exact hk114 _ _ _ _ ls hj (lv_sub hl [0] rfl) hf
    · refine lv_aload_n hx hb dX12_readCollege_97 rfl (lv_at hl 0 rfl) ?_
      refine q_getR C hj lk_X12_162 dX12_readCollege_98 hf (fun v1 hf => ?_)
      refine q_getR C hj lk_X12_231 dX12_readCollege_101 hf (fun v2 hf => ?_)
      refine lv_iload_n hx hb dX12_readCollege_104 rfl (lv_at hl 1 rfl) ?_
      refine lv_bipush (v := -2) hx hb dX12_readCollege_105 (by decide) ?_
      refine q_astI C hj dX12_readCollege_107 hf (fun g3 H locs hj hf => ?_)
      refine lv_iinc (v := x3 + 1) (lv' := [(3, .int (x3 + 1)), (0, .ref (q_ad E x0))]) hx hb dX12_readCollege_108 hl (k := 1) rfl (by rw [qi_1]) (by decide) rfl (fun ls hl => ?_)
      refine lv_goto (tgt := 91) hx hb dX12_readCollege_111 (by decide) ?_
      exact ih _ _ _ _ _ ls hj (lv_sub hl [1, 0] rfl) hf
def L_X12_readCollege_116  : Nat → Nat → Int32 → qS → Option qS
  | 0, _, _, _ => none
  | n + 1, x0, x3, g => if 4 ≤ x3 then (some g) else ((g_R g x0 11 4).bind fun v1 => (g_R g v1 10 13).bind fun v2 => (s_I g v2 x3 (-2)).bind fun g3 => L_X12_readCollege_116 n x0 (x3 + 1) g3)
set_option maxHeartbeats 4000000 in
set_option maxRecDepth 100000 in
theorem w_L_X12_readCollege_116 {l : Launch} {E : qV} {p : Program} {e : Env} {s : State} {m : MethodId} {args : Array Value} {below : List Frame} {meth : Method} {c : Code}  {res : qS} (C : q_C E p s m args meth c cX12_readCollege RX12 4 none)  : ∀ {n : Nat} {x0 : Nat} {x3 : Int32} {g : qS} {H : Heap} {locs : List Loc} {ls : Array Slot}, q_J E s g H locs → lv_has ls 4 [(0, .ref (q_ad E x0)), (3, .int x3)] → L_X12_readCollege_116 n x0 x3 g = some res → W p l e (q_rm 8 208) s m args below meth c H locs 0 0 (q_ZW E below none res args s) (F0 m 116 ls []) := by
  have hx := C.1
  have hb := C.2.1
  intro n
  induction n with
  | zero =>
    intro x0 x3 g H locs ls hj hl hf
    cases hf
  | succ n ih_ =>
    intro x0 x3 g H locs ls hj hl hf
    have ih : ∀ (x0 : Nat) (x3 : Int32) (g : qS) (H : Heap) (locs : List Loc) (ls : Array Slot), q_J E s g H locs → lv_has ls 4 [(0, .ref (q_ad E x0)), (3, .int x3)] → L_X12_readCollege_116 n x0 x3 g = some res → W p l e (q_rm 8 208) s m args below meth c H locs 0 0 (q_ZW E below none res args s) (F0 m 116 ls []) := fun x0 x3 g H locs ls hj hl hf => ih_ hj hl hf
    unfold L_X12_readCollege_116 at hf
    refine lv_iload_n hx hb dX12_readCollege_116 rfl (lv_at hl 1 rfl) ?_
    refine lv_iconst (v := 4) hx hb dX12_readCollege_117 qi_4 ?_
    refine q_icge C (tgt := 138) dX12_readCollege_118 (by decide) hf (fun hf => ?_) (fun hf => ?_)
    · exact q_vretW C hj dX12_readCollege_138 hf
    · refine lv_aload_n hx hb dX12_readCollege_121 rfl (lv_at hl 0 rfl) ?_
      refine q_getR C hj lk_X12_162 dX12_readCollege_122 hf (fun v1 hf => ?_)
      refine q_getR C hj lk_X12_251 dX12_readCollege_125 hf (fun v2 hf => ?_)
      refine lv_iload_n hx hb dX12_readCollege_128 rfl (lv_at hl 1 rfl) ?_
      refine lv_bipush (v := -2) hx hb dX12_readCollege_129 (by decide) ?_
      refine q_astI C hj dX12_readCollege_131 hf (fun g3 H locs hj hf => ?_)
      refine lv_iinc (v := x3 + 1) (lv' := [(3, .int (x3 + 1)), (0, .ref (q_ad E x0))]) hx hb dX12_readCollege_132 hl (k := 1) rfl (by rw [qi_1]) (by decide) rfl (fun ls hl => ?_)
      refine lv_goto (tgt := 116) hx hb dX12_readCollege_135 (by decide) ?_
      exact ih _ _ _ _ _ ls hj (lv_sub hl [1, 0] rfl) hf
def J_X12_readCollege_15  (x0 : Nat) (g : qS) : Option qS := (f_X12_goesOn g x0).bind fun g1 => q_b2 (f_X12_readPart g1 x0 30 2 7) fun v3 g2 => q_b2 (f_X12_readPart g2 x0 31 0 100) fun v5 g4 => (g_I g4 x0 11 9).bind fun v6 => if v6 = 5 then (some g4) else ((g_R g4 x0 11 4).bind fun v7 => (p_I g4 v7 10 0 v3).bind fun g8 => (g_R g8 x0 11 4).bind fun v9 => (p_I g8 v9 10 1 v5).bind fun g10 => L_X12_readCollege_66 (fun y11 g12 => L_X12_readCollege_91 (fun y13 g14 => L_X12_readCollege_116 1000000000 y13 0 g14) 1000000000 y11 0 g12) 1000000000 x0 0 g10)
set_option maxHeartbeats 4000000 in
set_option maxRecDepth 100000 in
theorem w_J_X12_readCollege_15 {l : Launch} {E : qV} {p : Program} {e : Env} {s : State} {m : MethodId} {args : Array Value} {below : List Frame} {meth : Method} {c : Code}  {res : qS} (C : q_C E p s m args meth c cX12_readCollege RX12 4 none)  : ∀ {x0 : Nat} {g : qS} {H : Heap} {locs : List Loc} {ls : Array Slot}, q_J E s g H locs → lv_has ls 4 [(0, .ref (q_ad E x0))] → J_X12_readCollege_15 x0 g = some res → W p l e (q_rm 8 208) s m args below meth c H locs 0 0 (q_ZW E below none res args s) (F0 m 15 ls []) := by
  have hx := C.1
  have hb := C.2.1
  intro x0 g H locs ls hj hl hf
  unfold J_X12_readCollege_15 at hf
  refine lv_aload_n hx hb dX12_readCollege_15 rfl (lv_at hl 0 rfl) ?_
  refine q_cVWV C hj cw_X12_116 (As := []) (rest := []) hf (fun g9 h9 => c_X12_goesOn l E h9) rfl hl rfl rfl rfl dX12_readCollege_16 ⟨Nat.zero_le _, Nat.zero_le _⟩ (fun g1 H locs hj hf => ?_)
  refine lv_aload_n hx hb dX12_readCollege_19 rfl (lv_at hl 0 rfl) ?_
  refine q_ldcS C (i := 30) rfl dX12_readCollege_20 ?_
  refine lv_iconst (v := 2) hx hb dX12_readCollege_22 qi_2 ?_
  refine lv_bipush (v := 7) hx hb dX12_readCollege_23 (by decide) ?_
  refine q_cVWI C hj cw_X12_243 (As := [.ref (q_sa E 30), .int 2, .int 7]) (rest := []) hf (fun v9 g9 h9 => c_X12_readPart l E h9) rfl hl rfl rfl rfl dX12_readCollege_25 ⟨Nat.zero_le _, Nat.zero_le _⟩ (fun v3 g2 H locs hj hf => ?_)
  refine lv_istore_n (lv' := [(1, .int v3), (0, .ref (q_ad E x0))]) hx hb dX12_readCollege_28 rfl hl (by decide) rfl (fun ls hl => ?_)
  refine lv_aload_n hx hb dX12_readCollege_29 rfl (lv_at hl 1 rfl) ?_
  refine q_ldcS C (i := 31) rfl dX12_readCollege_30 ?_
  refine lv_iconst (v := 0) hx hb dX12_readCollege_32 qi_0 ?_
  refine lv_bipush (v := 100) hx hb dX12_readCollege_33 (by decide) ?_
  refine q_cVWI C hj cw_X12_243 (As := [.ref (q_sa E 31), .int 0, .int 100]) (rest := []) hf (fun v9 g9 h9 => c_X12_readPart l E h9) rfl hl rfl rfl rfl dX12_readCollege_35 ⟨Nat.zero_le _, Nat.zero_le _⟩ (fun v5 g4 H locs hj hf => ?_)
  refine lv_istore_n (lv' := [(2, .int v5), (1, .int v3), (0, .ref (q_ad E x0))]) hx hb dX12_readCollege_38 rfl hl (by decide) rfl (fun ls hl => ?_)
  refine lv_aload_n hx hb dX12_readCollege_39 rfl (lv_at hl 2 rfl) ?_
  refine q_getI C hj lk_X12_80 dX12_readCollege_40 hf (fun v6 hf => ?_)
  refine lv_iconst (v := 5) hx hb dX12_readCollege_43 qi_5 ?_
  refine q_icne C (tgt := 48) dX12_readCollege_44 (by decide) hf (fun hf => ?_) (fun hf => ?_)
  · refine lv_aload_n hx hb dX12_readCollege_48 rfl (lv_at hl 2 rfl) ?_
    refine q_getR C hj lk_X12_162 dX12_readCollege_49 hf (fun v7 hf => ?_)
    refine lv_iload_n hx hb dX12_readCollege_52 rfl (lv_at hl 1 rfl) ?_
    refine q_putI C hj fp_X12_166 dX12_readCollege_53 hf (fun g8 H locs hj hf => ?_)
    refine lv_aload_n hx hb dX12_readCollege_56 rfl (lv_at hl 2 rfl) ?_
    refine q_getR C hj lk_X12_162 dX12_readCollege_57 hf (fun v9 hf => ?_)
    refine lv_iload_n hx hb dX12_readCollege_60 rfl (lv_at hl 0 rfl) ?_
    refine q_putI C hj fp_X12_249 dX12_readCollege_61 hf (fun g10 H locs hj hf => ?_)
    refine lv_iconst (v := 0) hx hb dX12_readCollege_64 qi_0 ?_
    refine lv_istore_n (lv' := [(3, .int 0), (2, .int v5), (1, .int v3), (0, .ref (q_ad E x0))]) hx hb dX12_readCollege_65 rfl hl (by decide) rfl (fun ls hl => ?_)
    refine w_L_X12_readCollege_66 C (fun y11 g12 H locs ls hj hl hf => ?_) hj (lv_sub hl [3, 0] rfl) hf
    · refine lv_iconst (v := 0) hx hb dX12_readCollege_89 qi_0 ?_
      refine lv_istore_n (lv' := [(3, .int 0), (0, .ref (q_ad E y11))]) hx hb dX12_readCollege_90 rfl hl (by decide) rfl (fun ls hl => ?_)
      refine w_L_X12_readCollege_91 C (fun y13 g14 H locs ls hj hl hf => ?_) hj (lv_sub hl [1, 0] rfl) hf
      · refine lv_iconst (v := 0) hx hb dX12_readCollege_114 qi_0 ?_
        refine lv_istore_n (lv' := [(3, .int 0), (0, .ref (q_ad E y13))]) hx hb dX12_readCollege_115 rfl hl (by decide) rfl (fun ls hl => ?_)
        refine w_L_X12_readCollege_116 C  hj (lv_sub hl [1, 0] rfl) hf
  · exact q_vretW C hj dX12_readCollege_47 hf
def f_X12_readCollege (g : qS) (a0 : Nat) : Option qS := (g_C g a0 11).bind fun _ => (g_R g a0 11 4).bind fun v1 => (g_I g v1 10 0).bind fun v2 => if v2 ≤ 0 then (J_X12_readCollege_15 a0 g) else ((f_X12_flaw g a0 3).bind fun g3 => J_X12_readCollege_15 a0 g3)
set_option maxHeartbeats 4000000 in
set_option maxRecDepth 100000 in
theorem c_X12_readCollege (l : Launch) (E : qV) {g : qS} {a0 : Nat} {res : qS} (hf : f_X12_readCollege g a0 = some res) : q_MW l yX12_readCollege cX12_readCollege 4 none 8 208 E [.ref (q_ad E a0)] g none res ∧ ∃ fs, g a0 = some (.inr (11, fs)) := by
  unfold f_X12_readCollege at hf
  obtain ⟨u9, hu9, hf⟩ := q_ob hf
  refine ⟨q_ofW (by decide) rfl ?_, g_C_sp hu9⟩
  intro p e s m args below meth c ls C hj hl
  have hx := C.1
  have hb := C.2.1
  have C : q_C E p s m args meth c cX12_readCollege RX12 4 none := C
  have hl : lv_has ls 4 [(0, .ref (q_ad E a0))] := hl
  refine lv_aload_n hx hb dX12_readCollege_0 rfl (lv_at hl 0 rfl) ?_
  refine q_getR C hj lk_X12_162 dX12_readCollege_1 hf (fun v1 hf => ?_)
  refine q_getI C hj lk_X12_166 dX12_readCollege_4 hf (fun v2 hf => ?_)
  refine q_ifle C (tgt := 15) dX12_readCollege_7 (by decide) hf (fun hf => ?_) (fun hf => ?_)
  · refine w_J_X12_readCollege_15 C  hj (lv_sub hl [0] rfl) hf
  · refine lv_aload_n hx hb dX12_readCollege_10 rfl (lv_at hl 0 rfl) ?_
    refine lv_iconst (v := 3) hx hb dX12_readCollege_11 qi_3 ?_
    refine q_cVWV C hj cw_X12_123 (As := [.int 3]) (rest := []) hf (fun g9 h9 => c_X12_flaw l E h9) rfl hl rfl rfl rfl dX12_readCollege_12 ⟨Nat.zero_le _, Nat.zero_le _⟩ (fun g3 H locs hj hf => ?_)
    refine w_J_X12_readCollege_15 C  hj (lv_sub hl [0] rfl) hf
def J_X12_readThing_71  (x0 : Nat) (x1 : Int64) (x3 : Int32) (g : qS) : Option qS := (f_X12_goesOn g x0).bind fun g1 => q_b2 (f_X12_readPart g1 x0 44 0 50) fun v3 g2 => (g_I g2 x0 11 9).bind fun v4 => if v4 = 5 then (some g2) else ((g_R g2 x0 11 4).bind fun v5 => (g_I g2 v5 10 2).bind fun v6 => (f_X12_names g2 x0 x1 0 v6).bind fun g7 => (g_R g7 x0 11 4).bind fun v8 => (g_R g7 v8 10 11).bind fun v9 => (g_R g7 x0 11 4).bind fun v10 => (g_I g7 v10 10 2).bind fun v11 => (s_I g7 v9 v11 x3).bind fun g12 => (g_R g12 x0 11 4).bind fun v13 => (g_R g12 v13 10 12).bind fun v14 => (g_R g12 x0 11 4).bind fun v15 => (g_I g12 v15 10 2).bind fun v16 => (s_I g12 v14 v16 v3).bind fun g17 => (g_R g17 x0 11 4).bind fun v18 => (g_I g17 v18 10 2).bind fun v19 => (p_I g17 v18 10 2 (v19 + 1)).bind fun g20 => some g20)
set_option maxHeartbeats 4000000 in
set_option maxRecDepth 100000 in
theorem w_J_X12_readThing_71 {l : Launch} {E : qV} {p : Program} {e : Env} {s : State} {m : MethodId} {args : Array Value} {below : List Frame} {meth : Method} {c : Code}  {res : qS} (C : q_C E p s m args meth c cX12_readThing RX12 5 none)  : ∀ {x0 : Nat} {x1 : Int64} {x3 : Int32} {g : qS} {H : Heap} {locs : List Loc} {ls : Array Slot}, q_J E s g H locs → lv_has ls 5 [(0, .ref (q_ad E x0)), (1, .long x1), (3, .int x3)] → J_X12_readThing_71 x0 x1 x3 g = some res → W p l e (q_rm 8 208) s m args below meth c H locs 0 0 (q_ZW E below none res args s) (F0 m 71 ls []) := by
  have hx := C.1
  have hb := C.2.1
  intro x0 x1 x3 g H locs ls hj hl hf
  unfold J_X12_readThing_71 at hf
  refine lv_aload_n hx hb dX12_readThing_71 rfl (lv_at hl 0 rfl) ?_
  refine q_cVWV C hj cw_X12_116 (As := []) (rest := []) hf (fun g9 h9 => c_X12_goesOn l E h9) rfl hl rfl rfl rfl dX12_readThing_72 ⟨Nat.zero_le _, Nat.zero_le _⟩ (fun g1 H locs hj hf => ?_)
  refine lv_aload_n hx hb dX12_readThing_75 rfl (lv_at hl 0 rfl) ?_
  refine q_ldcwS C (i := 44) rfl dX12_readThing_76 ?_
  refine lv_iconst (v := 0) hx hb dX12_readThing_79 qi_0 ?_
  refine lv_bipush (v := 50) hx hb dX12_readThing_80 (by decide) ?_
  refine q_cVWI C hj cw_X12_243 (As := [.ref (q_sa E 44), .int 0, .int 50]) (rest := []) hf (fun v9 g9 h9 => c_X12_readPart l E h9) rfl hl rfl rfl rfl dX12_readThing_82 ⟨Nat.zero_le _, Nat.zero_le _⟩ (fun v3 g2 H locs hj hf => ?_)
  refine lv_istore (lv' := [(4, .int v3), (0, .ref (q_ad E x0)), (1, .long x1), (3, .int x3)]) hx hb dX12_readThing_85 hl (by decide) rfl (fun ls hl => ?_)
  refine lv_aload_n hx hb dX12_readThing_87 rfl (lv_at hl 1 rfl) ?_
  refine q_getI C hj lk_X12_80 dX12_readThing_88 hf (fun v4 hf => ?_)
  refine lv_iconst (v := 5) hx hb dX12_readThing_91 qi_5 ?_
  refine q_icne C (tgt := 96) dX12_readThing_92 (by decide) hf (fun hf => ?_) (fun hf => ?_)
  · refine lv_aload_n hx hb dX12_readThing_96 rfl (lv_at hl 1 rfl) ?_
    refine lv_lload_n hx hb dX12_readThing_97 rfl (lv_at hl 2 rfl) ?_
    refine lv_iconst (v := 0) hx hb dX12_readThing_98 qi_0 ?_
    refine lv_aload_n hx hb dX12_readThing_99 rfl (lv_at hl 1 rfl) ?_
    refine q_getR C hj lk_X12_162 dX12_readThing_100 hf (fun v5 hf => ?_)
    refine q_getI C hj lk_X12_201 dX12_readThing_103 hf (fun v6 hf => ?_)
    refine q_cVWV C hj cw_X12_270 (As := [.long x1, .int 0, .int v6]) (rest := []) hf (fun g9 h9 => c_X12_names l E h9) rfl hl rfl rfl rfl dX12_readThing_106 ⟨Nat.zero_le _, Nat.zero_le _⟩ (fun g7 H locs hj hf => ?_)
    refine lv_aload_n hx hb dX12_readThing_109 rfl (lv_at hl 1 rfl) ?_
    refine q_getR C hj lk_X12_162 dX12_readThing_110 hf (fun v8 hf => ?_)
    refine q_getR C hj lk_X12_273 dX12_readThing_113 hf (fun v9 hf => ?_)
    refine lv_aload_n hx hb dX12_readThing_116 rfl (lv_at hl 1 rfl) ?_
    refine q_getR C hj lk_X12_162 dX12_readThing_117 hf (fun v10 hf => ?_)
    refine q_getI C hj lk_X12_201 dX12_readThing_120 hf (fun v11 hf => ?_)
    refine lv_iload_n hx hb dX12_readThing_123 rfl (lv_at hl 3 rfl) ?_
    refine q_astI C hj dX12_readThing_124 hf (fun g12 H locs hj hf => ?_)
    refine lv_aload_n hx hb dX12_readThing_125 rfl (lv_at hl 1 rfl) ?_
    refine q_getR C hj lk_X12_162 dX12_readThing_126 hf (fun v13 hf => ?_)
    refine q_getR C hj lk_X12_276 dX12_readThing_129 hf (fun v14 hf => ?_)
    refine lv_aload_n hx hb dX12_readThing_132 rfl (lv_at hl 1 rfl) ?_
    refine q_getR C hj lk_X12_162 dX12_readThing_133 hf (fun v15 hf => ?_)
    refine q_getI C hj lk_X12_201 dX12_readThing_136 hf (fun v16 hf => ?_)
    refine lv_iload hx hb dX12_readThing_139 (lv_at hl 0 rfl) ?_
    refine q_astI C hj dX12_readThing_141 hf (fun g17 H locs hj hf => ?_)
    refine lv_aload_n hx hb dX12_readThing_142 rfl (lv_at hl 1 rfl) ?_
    refine q_getR C hj lk_X12_162 dX12_readThing_143 hf (fun v18 hf => ?_)
    refine lv_dup hx hb dX12_readThing_146 rfl ?_
    refine q_getI C hj lk_X12_201 dX12_readThing_147 hf (fun v19 hf => ?_)
    refine lv_iconst (v := 1) hx hb dX12_readThing_150 qi_1 ?_
    refine lv_iadd hx hb dX12_readThing_151 ?_
    refine q_putI C hj fp_X12_201 dX12_readThing_152 hf (fun g20 H locs hj hf => ?_)
    exact q_vretW C hj dX12_readThing_155 hf
  · exact q_vretW C hj dX12_readThing_95 hf
def J_X12_readThing_60  (x0 : Nat) (x1 : Int64) (t0 : Int32) (g : qS) : Option qS := if t0 = (-1) then ((f_X12_flaw g x0 1).bind fun g1 => J_X12_readThing_71 x0 x1 t0 g1) else (J_X12_readThing_71 x0 x1 t0 g)
set_option maxHeartbeats 4000000 in
set_option maxRecDepth 100000 in
theorem w_J_X12_readThing_60 {l : Launch} {E : qV} {p : Program} {e : Env} {s : State} {m : MethodId} {args : Array Value} {below : List Frame} {meth : Method} {c : Code}  {res : qS} (C : q_C E p s m args meth c cX12_readThing RX12 5 none)  : ∀ {x0 : Nat} {x1 : Int64} {t0 : Int32} {g : qS} {H : Heap} {locs : List Loc} {ls : Array Slot}, q_J E s g H locs → lv_has ls 5 [(0, .ref (q_ad E x0)), (1, .long x1)] → J_X12_readThing_60 x0 x1 t0 g = some res → W p l e (q_rm 8 208) s m args below meth c H locs 0 0 (q_ZW E below none res args s) (F0 m 60 ls [.int t0]) := by
  have hx := C.1
  have hb := C.2.1
  intro x0 x1 t0 g H locs ls hj hl hf
  unfold J_X12_readThing_60 at hf
  refine lv_istore_n (lv' := [(3, .int t0), (0, .ref (q_ad E x0)), (1, .long x1)]) hx hb dX12_readThing_60 rfl hl (by decide) rfl (fun ls hl => ?_)
  refine lv_iload_n hx hb dX12_readThing_61 rfl (lv_at hl 0 rfl) ?_
  refine lv_iconst (v := -1) hx hb dX12_readThing_62 qi_m1 ?_
  refine q_icne C (tgt := 71) dX12_readThing_63 (by decide) hf (fun hf => ?_) (fun hf => ?_)
  · refine w_J_X12_readThing_71 C  hj (lv_sub hl [1, 2, 0] rfl) hf
  · refine lv_aload_n hx hb dX12_readThing_66 rfl (lv_at hl 1 rfl) ?_
    refine lv_iconst (v := 1) hx hb dX12_readThing_67 qi_1 ?_
    refine q_cVWV C hj cw_X12_123 (As := [.int 1]) (rest := []) hf (fun g9 h9 => c_X12_flaw l E h9) rfl hl rfl rfl rfl dX12_readThing_68 ⟨Nat.zero_le _, Nat.zero_le _⟩ (fun g1 H locs hj hf => ?_)
    refine w_J_X12_readThing_71 C  hj (lv_sub hl [1, 2, 0] rfl) hf
def f_X12_readThing (g : qS) (a0 : Nat) : Option qS := (g_C g a0 11).bind fun _ => (g_R g a0 11 4).bind fun v1 => (g_I g v1 10 2).bind fun v2 => (f_X12_begins g a0 v2 4).bind fun g3 => q_b2 (f_X12_readFresh g3 a0) fun v5 g4 => (f_X12_isWord g4 a0 41).bind fun v6 => if v6 = 0 then ((f_X12_isWord g4 a0 42).bind fun v7 => if v7 = 0 then ((f_X12_isWord g4 a0 43).bind fun v8 => if v8 = 0 then (J_X12_readThing_60 a0 v5 (-1) g4) else (J_X12_readThing_60 a0 v5 2 g4)) else (J_X12_readThing_60 a0 v5 1 g4)) else (J_X12_readThing_60 a0 v5 0 g4)
set_option maxHeartbeats 4000000 in
set_option maxRecDepth 100000 in
theorem c_X12_readThing (l : Launch) (E : qV) {g : qS} {a0 : Nat} {res : qS} (hf : f_X12_readThing g a0 = some res) : q_MW l yX12_readThing cX12_readThing 5 none 8 208 E [.ref (q_ad E a0)] g none res ∧ ∃ fs, g a0 = some (.inr (11, fs)) := by
  unfold f_X12_readThing at hf
  obtain ⟨u9, hu9, hf⟩ := q_ob hf
  refine ⟨q_ofW (by decide) rfl ?_, g_C_sp hu9⟩
  intro p e s m args below meth c ls C hj hl
  have hx := C.1
  have hb := C.2.1
  have C : q_C E p s m args meth c cX12_readThing RX12 5 none := C
  have hl : lv_has ls 5 [(0, .ref (q_ad E a0))] := hl
  refine lv_aload_n hx hb dX12_readThing_0 rfl (lv_at hl 0 rfl) ?_
  refine lv_aload_n hx hb dX12_readThing_1 rfl (lv_at hl 0 rfl) ?_
  refine q_getR C hj lk_X12_162 dX12_readThing_2 hf (fun v1 hf => ?_)
  refine q_getI C hj lk_X12_201 dX12_readThing_5 hf (fun v2 hf => ?_)
  refine lv_iconst (v := 4) hx hb dX12_readThing_8 qi_4 ?_
  refine q_cVWV C hj cw_X12_254 (As := [.int v2, .int 4]) (rest := []) hf (fun g9 h9 => c_X12_begins l E h9) rfl hl rfl rfl rfl dX12_readThing_9 ⟨Nat.zero_le _, Nat.zero_le _⟩ (fun g3 H locs hj hf => ?_)
  refine lv_aload_n hx hb dX12_readThing_12 rfl (lv_at hl 0 rfl) ?_
  refine q_cVWL C hj cw_X12_258 (As := []) (rest := []) hf (fun v9 g9 h9 => c_X12_readFresh l E h9) rfl hl rfl rfl rfl dX12_readThing_13 ⟨Nat.zero_le _, Nat.zero_le _⟩ (fun v5 g4 H locs hj hf => ?_)
  refine lv_lstore_n (lv' := [(1, .long v5), (0, .ref (q_ad E a0))]) hx hb dX12_readThing_16 rfl hl (by decide) rfl (fun ls hl => ?_)
  refine lv_aload_n hx hb dX12_readThing_17 rfl (lv_at hl 1 rfl) ?_
  refine q_ldcwS C (i := 41) rfl dX12_readThing_18 ?_
  refine q_cVRI C hj cw_X12_119 (As := [.ref (q_sa E 41)]) (rest := []) hf (fun v9 h9 => c_X12_isWord l E h9) rfl hl rfl rfl rfl dX12_readThing_21 ⟨Nat.zero_le _, Nat.zero_le _⟩ (fun v6 hf => ?_)
  refine q_ifeq C (tgt := 31) dX12_readThing_24 (by decide) hf (fun hf => ?_) (fun hf => ?_)
  · refine lv_aload_n hx hb dX12_readThing_31 rfl (lv_at hl 1 rfl) ?_
    refine q_ldcwS C (i := 42) rfl dX12_readThing_32 ?_
    refine q_cVRI C hj cw_X12_119 (As := [.ref (q_sa E 42)]) (rest := []) hf (fun v9 h9 => c_X12_isWord l E h9) rfl hl rfl rfl rfl dX12_readThing_35 ⟨Nat.zero_le _, Nat.zero_le _⟩ (fun v7 hf => ?_)
    refine q_ifeq C (tgt := 45) dX12_readThing_38 (by decide) hf (fun hf => ?_) (fun hf => ?_)
    · refine lv_aload_n hx hb dX12_readThing_45 rfl (lv_at hl 1 rfl) ?_
      refine q_ldcwS C (i := 43) rfl dX12_readThing_46 ?_
      refine q_cVRI C hj cw_X12_119 (As := [.ref (q_sa E 43)]) (rest := []) hf (fun v9 h9 => c_X12_isWord l E h9) rfl hl rfl rfl rfl dX12_readThing_49 ⟨Nat.zero_le _, Nat.zero_le _⟩ (fun v8 hf => ?_)
      refine q_ifeq C (tgt := 59) dX12_readThing_52 (by decide) hf (fun hf => ?_) (fun hf => ?_)
      · refine lv_iconst (v := -1) hx hb dX12_readThing_59 qi_m1 ?_
        refine w_J_X12_readThing_60 C  hj (lv_sub hl [1, 0] rfl) hf
      · refine lv_iconst (v := 2) hx hb dX12_readThing_55 qi_2 ?_
        refine lv_goto (tgt := 60) hx hb dX12_readThing_56 (by decide) ?_
        refine w_J_X12_readThing_60 C  hj (lv_sub hl [1, 0] rfl) hf
    · refine lv_iconst (v := 1) hx hb dX12_readThing_41 qi_1 ?_
      refine lv_goto (tgt := 60) hx hb dX12_readThing_42 (by decide) ?_
      refine w_J_X12_readThing_60 C  hj (lv_sub hl [1, 0] rfl) hf
  · refine lv_iconst (v := 0) hx hb dX12_readThing_27 qi_0 ?_
    refine lv_goto (tgt := 60) hx hb dX12_readThing_28 (by decide) ?_
    refine w_J_X12_readThing_60 C  hj (lv_sub hl [1, 0] rfl) hf
