def L_X7_begin_10  : Nat → Nat → Int32 → qS → Option qS
  | 0, _, _, _ => none
  | n + 1, x0, x1, g => if 4 ≤ x1 then (some g) else ((g_R g x0 6 0).bind fun v1 => (f_X8_set g v1 0 (0 + x1) (-2)).bind fun g2 => L_X7_begin_10 n x0 (x1 + 1) g2)
set_option maxHeartbeats 4000000 in
set_option maxRecDepth 100000 in
theorem w_L_X7_begin_10 {l : Launch} {E : qV} {p : Program} {e : Env} {s : State} {m : MethodId} {args : Array Value} {below : List Frame} {meth : Method} {c : Code}  {res : qS} (C : q_C E p s m args meth c cX7_begin RX7 2 none)  : ∀ {n : Nat} {x0 : Nat} {x1 : Int32} {g : qS} {H : Heap} {locs : List Loc} {ls : Array Slot}, q_J E s g H locs → lv_has ls 2 [(0, .ref (q_ad E x0)), (1, .int x1)] → L_X7_begin_10 n x0 x1 g = some res → W p l e (q_rm 1 24) s m args below meth c H locs 0 0 (q_ZW E below none res args s) (F0 m 10 ls []) := by
  have hx := C.1
  have hb := C.2.1
  intro n
  induction n with
  | zero =>
    intro x0 x1 g H locs ls hj hl hf
    cases hf
  | succ n ih_ =>
    intro x0 x1 g H locs ls hj hl hf
    have ih : ∀ (x0 : Nat) (x1 : Int32) (g : qS) (H : Heap) (locs : List Loc) (ls : Array Slot), q_J E s g H locs → lv_has ls 2 [(0, .ref (q_ad E x0)), (1, .int x1)] → L_X7_begin_10 n x0 x1 g = some res → W p l e (q_rm 1 24) s m args below meth c H locs 0 0 (q_ZW E below none res args s) (F0 m 10 ls []) := fun x0 x1 g H locs ls hj hl hf => ih_ hj hl hf
    unfold L_X7_begin_10 at hf
    refine lv_iload_n hx hb dX7_begin_10 rfl (lv_at hl 1 rfl) ?_
    refine lv_iconst (v := 4) hx hb dX7_begin_11 qi_4 ?_
    refine q_icge C (tgt := 34) dX7_begin_12 (by decide) hf (fun hf => ?_) (fun hf => ?_)
    · exact q_vretW C hj dX7_begin_34 hf
    · refine lv_aload_n hx hb dX7_begin_15 rfl (lv_at hl 0 rfl) ?_
      refine q_getR C hj lk_X7_16 dX7_begin_16 hf (fun v1 hf => ?_)
      refine lv_iconst (v := 0) hx hb dX7_begin_19 qi_0 ?_
      refine lv_iconst (v := 0) hx hb dX7_begin_20 qi_0 ?_
      refine lv_iload_n hx hb dX7_begin_21 rfl (lv_at hl 1 rfl) ?_
      refine lv_iadd hx hb dX7_begin_22 ?_
      refine lv_bipush (v := -2) hx hb dX7_begin_23 (by decide) ?_
      refine q_cVWV C hj cw_X7_27 (As := [.int 0, .int (0 + x1), .int (-2)]) (rest := []) hf (fun g9 h9 => c_X8_set l E h9) rfl hl rfl rfl rfl dX7_begin_25 ⟨Nat.zero_le _, Nat.zero_le _⟩ (fun g2 H locs hj hf => ?_)
      refine lv_iinc (v := x1 + 1) (lv' := [(1, .int (x1 + 1)), (0, .ref (q_ad E x0))]) hx hb dX7_begin_28 hl (k := 1) rfl (by rw [qi_1]) (by decide) rfl (fun ls hl => ?_)
      refine lv_goto (tgt := 10) hx hb dX7_begin_31 (by decide) ?_
      exact ih _ _ _ _ _ ls hj (lv_sub hl [1, 0] rfl) hf
def f_X7_begin (g : qS) (a0 : Nat) : Option qS := (g_C g a0 6).bind fun _ => (g_R g a0 6 0).bind fun v1 => (f_X8_fill g v1 0).bind fun g2 => L_X7_begin_10 1000000000 a0 0 g2
set_option maxHeartbeats 4000000 in
set_option maxRecDepth 100000 in
theorem c_X7_begin (l : Launch) (E : qV) {g : qS} {a0 : Nat} {res : qS} (hf : f_X7_begin g a0 = some res) : q_MW l yX7_begin cX7_begin 2 none 1 24 E [.ref (q_ad E a0)] g none res ∧ ∃ fs, g a0 = some (.inr (6, fs)) := by
  unfold f_X7_begin at hf
  obtain ⟨u9, hu9, hf⟩ := q_ob hf
  refine ⟨q_ofW (by decide) rfl ?_, g_C_sp hu9⟩
  intro p e s m args below meth c ls C hj hl
  have hx := C.1
  have hb := C.2.1
  have C : q_C E p s m args meth c cX7_begin RX7 2 none := C
  have hl : lv_has ls 2 [(0, .ref (q_ad E a0))] := hl
  refine lv_aload_n hx hb dX7_begin_0 rfl (lv_at hl 0 rfl) ?_
  refine q_getR C hj lk_X7_16 dX7_begin_1 hf (fun v1 hf => ?_)
  refine lv_iconst (v := 0) hx hb dX7_begin_4 qi_0 ?_
  refine q_cVWV C hj cw_X7_23 (As := [.int 0]) (rest := []) hf (fun g9 h9 => c_X8_fill l E h9) rfl hl rfl rfl rfl dX7_begin_5 ⟨Nat.zero_le _, Nat.zero_le _⟩ (fun g2 H locs hj hf => ?_)
  refine lv_iconst (v := 0) hx hb dX7_begin_8 qi_0 ?_
  refine lv_istore_n (lv' := [(1, .int 0), (0, .ref (q_ad E a0))]) hx hb dX7_begin_9 rfl hl (by decide) rfl (fun ls hl => ?_)
  refine w_L_X7_begin_10 C  hj (lv_sub hl [1, 0] rfl) hf
def f_X4_forgetAll (g : qS) (a0 : Nat) : Option qS := (g_C g a0 3).bind fun _ => (p_I g a0 3 3 0).bind fun g1 => (p_I g1 a0 3 4 0).bind fun g2 => some g2
set_option maxHeartbeats 4000000 in
set_option maxRecDepth 100000 in
theorem c_X4_forgetAll (l : Launch) (E : qV) {g : qS} {a0 : Nat} {res : qS} (hf : f_X4_forgetAll g a0 = some res) : q_MW l yX4_forgetAll cX4_forgetAll 1 none 0 0 E [.ref (q_ad E a0)] g none res ∧ ∃ fs, g a0 = some (.inr (3, fs)) := by
  unfold f_X4_forgetAll at hf
  obtain ⟨u9, hu9, hf⟩ := q_ob hf
  refine ⟨q_ofW (by decide) rfl ?_, g_C_sp hu9⟩
  intro p e s m args below meth c ls C hj hl
  have hx := C.1
  have hb := C.2.1
  have C : q_C E p s m args meth c cX4_forgetAll RX4 1 none := C
  have hl : lv_has ls 1 [(0, .ref (q_ad E a0))] := hl
  refine lv_aload_n hx hb dX4_forgetAll_0 rfl (lv_at hl 0 rfl) ?_
  refine lv_iconst (v := 0) hx hb dX4_forgetAll_1 qi_0 ?_
  refine q_putI C hj fp_X4_29 dX4_forgetAll_2 hf (fun g1 H locs hj hf => ?_)
  refine lv_aload_n hx hb dX4_forgetAll_5 rfl (lv_at hl 0 rfl) ?_
  refine lv_iconst (v := 0) hx hb dX4_forgetAll_6 qi_0 ?_
  refine q_putI C hj fp_X4_32 dX4_forgetAll_7 hf (fun g2 H locs hj hf => ?_)
  exact q_vretW C hj dX4_forgetAll_10 hf
def f_X7_holder (g : qS) (a0 : Nat) (a1 : Int32) : Option Int32 := (g_C g a0 6).bind fun _ => (g_R g a0 6 0).bind fun v1 => (f_X8_get g v1 0 (0 + a1)).bind fun v2 => some v2
set_option maxHeartbeats 4000000 in
set_option maxRecDepth 100000 in
theorem c_X7_holder (l : Launch) (E : qV) {g : qS} {a0 : Nat} {a1 : Int32} {res : Int32} (hf : f_X7_holder g a0 a1 = some res) : q_MR l yX7_holder cX7_holder 2 (some .int) 1 23 E [.ref (q_ad E a0), .int a1] g (some (.int res)) ∧ ∃ fs, g a0 = some (.inr (6, fs)) := by
  unfold f_X7_holder at hf
  obtain ⟨u9, hu9, hf⟩ := q_ob hf
  refine ⟨q_ofR (by decide) rfl ?_, g_C_sp hu9⟩
  intro p e s m args below meth c ls C hw hl
  have hj : q_J E s g s.heap [] := ⟨hw, va_S.rf⟩
  have hx := C.1
  have hb := C.2.1
  have C : q_C E p s m args meth c cX7_holder RX7 2 (some .int) := C
  have hl : lv_has ls 2 [(0, .ref (q_ad E a0)), (1, .int a1)] := hl
  refine lv_aload_n hx hb dX7_holder_0 rfl (lv_at hl 0 rfl) ?_
  refine q_getR C hj lk_X7_16 dX7_holder_1 hf (fun v1 hf => ?_)
  refine lv_iconst (v := 0) hx hb dX7_holder_4 qi_0 ?_
  refine lv_iconst (v := 0) hx hb dX7_holder_5 qi_0 ?_
  refine lv_iload_n hx hb dX7_holder_6 rfl (lv_at hl 1 rfl) ?_
  refine lv_iadd hx hb dX7_holder_7 ?_
  refine q_cVRI C hj cw_X7_35 (As := [.int 0, .int (0 + a1)]) (rest := []) hf (fun v9 h9 => c_X8_get l E h9) rfl hl rfl rfl rfl dX7_holder_8 ⟨Nat.zero_le _, Nat.zero_le _⟩ (fun v2 hf => ?_)
  exact q_iretR C dX7_holder_11 hf
def f_X7_roomOf (g : qS) (a0 : Nat) (a1 : Nat) (a2 : Int32) : Option Int32 := (g_C g a0 6).bind fun _ => (f_X3_roomTold g a1 a2).bind fun v1 => (g_R g a0 6 0).bind fun v2 => (f_X8_get g v2 0 (4 + a2)).bind fun v3 => some (v1 - v3)
set_option maxHeartbeats 4000000 in
set_option maxRecDepth 100000 in
theorem c_X7_roomOf (l : Launch) (E : qV) {g : qS} {a0 : Nat} {a1 : Nat} {a2 : Int32} {res : Int32} (hf : f_X7_roomOf g a0 a1 a2 = some res) : q_MR l yX7_roomOf cX7_roomOf 3 (some .int) 2 45 E [.ref (q_ad E a0), .ref (q_ad E a1), .int a2] g (some (.int res)) ∧ ∃ fs, g a0 = some (.inr (6, fs)) := by
  unfold f_X7_roomOf at hf
  obtain ⟨u9, hu9, hf⟩ := q_ob hf
  refine ⟨q_ofR (by decide) rfl ?_, g_C_sp hu9⟩
  intro p e s m args below meth c ls C hw hl
  have hj : q_J E s g s.heap [] := ⟨hw, va_S.rf⟩
  have hx := C.1
  have hb := C.2.1
  have C : q_C E p s m args meth c cX7_roomOf RX7 3 (some .int) := C
  have hl : lv_has ls 3 [(0, .ref (q_ad E a0)), (1, .ref (q_ad E a1)), (2, .int a2)] := hl
  refine lv_aload_n hx hb dX7_roomOf_0 rfl (lv_at hl 1 rfl) ?_
  refine lv_iload_n hx hb dX7_roomOf_1 rfl (lv_at hl 2 rfl) ?_
  refine q_cVRI C hj cw_X7_39 (As := [.int a2]) (rest := []) hf (fun v9 h9 => c_X3_roomTold l E h9) rfl hl rfl rfl rfl dX7_roomOf_2 ⟨Nat.zero_le _, Nat.zero_le _⟩ (fun v1 hf => ?_)
  refine lv_aload_n hx hb dX7_roomOf_5 rfl (lv_at hl 0 rfl) ?_
  refine q_getR C hj lk_X7_16 dX7_roomOf_6 hf (fun v2 hf => ?_)
  refine lv_iconst (v := 0) hx hb dX7_roomOf_9 qi_0 ?_
  refine lv_iconst (v := 4) hx hb dX7_roomOf_10 qi_4 ?_
  refine lv_iload_n hx hb dX7_roomOf_11 rfl (lv_at hl 2 rfl) ?_
  refine lv_iadd hx hb dX7_roomOf_12 ?_
  refine q_cVRI C hj cw_X7_35 (As := [.int 0, .int (4 + a2)]) (rest := [.int v1]) hf (fun v9 h9 => c_X8_get l E h9) rfl hl rfl rfl rfl dX7_roomOf_13 ⟨Nat.zero_le _, Nat.zero_le _⟩ (fun v3 hf => ?_)
  refine lv_isub hx hb dX7_roomOf_16 ?_
  exact q_iretR C dX7_roomOf_17 hf
def L_X7_thingsOf_4  (g : qS) : Nat → Nat → Int32 → Int32 → Int32 → Option Int32
  | 0, _, _, _, _ => none
  | n + 1, x0, x1, x2, x3 => if 4 ≤ x3 then (some x2) else ((g_R g x0 6 0).bind fun v1 => (f_X8_get g v1 0 (0 + x3)).bind fun v2 => if v2 = x1 then (L_X7_thingsOf_4 g n x0 x1 (x2 ||| (1 <<< (x3 &&& 31))) (x3 + 1)) else (L_X7_thingsOf_4 g n x0 x1 x2 (x3 + 1)))
set_option maxHeartbeats 4000000 in
set_option maxRecDepth 100000 in
theorem w_L_X7_thingsOf_4 {l : Launch} {E : qV} {p : Program} {e : Env} {s : State} {m : MethodId} {args : Array Value} {below : List Frame} {meth : Method} {c : Code}  {g : qS} {res : Int32} (C : q_C E p s m args meth c cX7_thingsOf RX7 4 (some .int))  : ∀ {n : Nat} {x0 : Nat} {x1 : Int32} {x2 : Int32} {x3 : Int32} {ls : Array Slot}, q_J E s g s.heap [] → lv_has ls 4 [(0, .ref (q_ad E x0)), (1, .int x1), (2, .int x2), (3, .int x3)] → L_X7_thingsOf_4 g n x0 x1 x2 x3 = some res → W p l e (q_rm 1 23) s m args below meth c s.heap [] 0 0 (q_ZR below (some (.int res)) args s) (F0 m 4 ls []) := by
  have hx := C.1
  have hb := C.2.1
  intro n
  induction n with
  | zero =>
    intro x0 x1 x2 x3 ls hj hl hf
    cases hf
  | succ n ih_ =>
    intro x0 x1 x2 x3 ls hj hl hf
    have ih : ∀ (x0 : Nat) (x1 : Int32) (x2 : Int32) (x3 : Int32) (ls : Array Slot), q_J E s g s.heap [] → lv_has ls 4 [(0, .ref (q_ad E x0)), (1, .int x1), (2, .int x2), (3, .int x3)] → L_X7_thingsOf_4 g n x0 x1 x2 x3 = some res → W p l e (q_rm 1 23) s m args below meth c s.heap [] 0 0 (q_ZR below (some (.int res)) args s) (F0 m 4 ls []) := fun x0 x1 x2 x3 ls hj hl hf => ih_ hj hl hf
    unfold L_X7_thingsOf_4 at hf
    refine lv_iload_n hx hb dX7_thingsOf_4 rfl (lv_at hl 3 rfl) ?_
    refine lv_iconst (v := 4) hx hb dX7_thingsOf_5 qi_4 ?_
    refine q_icge C (tgt := 36) dX7_thingsOf_6 (by decide) hf (fun hf => ?_) (fun hf => ?_)
    · refine lv_iload_n hx hb dX7_thingsOf_36 rfl (lv_at hl 2 rfl) ?_
      exact q_iretR C dX7_thingsOf_37 hf
    · refine lv_aload_n hx hb dX7_thingsOf_9 rfl (lv_at hl 0 rfl) ?_
      refine q_getR C hj lk_X7_16 dX7_thingsOf_10 hf (fun v1 hf => ?_)
      refine lv_iconst (v := 0) hx hb dX7_thingsOf_13 qi_0 ?_
      refine lv_iconst (v := 0) hx hb dX7_thingsOf_14 qi_0 ?_
      refine lv_iload_n hx hb dX7_thingsOf_15 rfl (lv_at hl 3 rfl) ?_
      refine lv_iadd hx hb dX7_thingsOf_16 ?_
      refine q_cVRI C hj cw_X7_35 (As := [.int 0, .int (0 + x3)]) (rest := []) hf (fun v9 h9 => c_X8_get l E h9) rfl hl rfl rfl rfl dX7_thingsOf_17 ⟨Nat.zero_le _, Nat.zero_le _⟩ (fun v2 hf => ?_)
      refine lv_iload_n hx hb dX7_thingsOf_20 rfl (lv_at hl 1 rfl) ?_
      refine q_icne C (tgt := 30) dX7_thingsOf_21 (by decide) hf (fun hf => ?_) (fun hf => ?_)
      · refine lv_iinc (v := x3 + 1) (lv' := [(3, .int (x3 + 1)), (0, .ref (q_ad E x0)), (1, .int x1), (2, .int x2)]) hx hb dX7_thingsOf_30 hl (k := 3) rfl (by rw [qi_1]) (by decide) rfl (fun ls hl => ?_)
        refine lv_goto (tgt := 4) hx hb dX7_thingsOf_33 (by decide) ?_
        exact ih _ _ _ _  ls hj (lv_sub hl [1, 2, 3, 0] rfl) hf
      · refine lv_iload_n hx hb dX7_thingsOf_24 rfl (lv_at hl 2 rfl) ?_
        refine lv_iconst (v := 1) hx hb dX7_thingsOf_25 qi_1 ?_
        refine lv_iload_n hx hb dX7_thingsOf_26 rfl (lv_at hl 3 rfl) ?_
        refine lv_ishl hx hb dX7_thingsOf_27 ?_
        refine lv_ior hx hb dX7_thingsOf_28 ?_
        refine lv_istore_n (lv' := [(2, .int (x2 ||| (1 <<< (x3 &&& 31)))), (0, .ref (q_ad E x0)), (1, .int x1), (3, .int x3)]) hx hb dX7_thingsOf_29 rfl hl (by decide) rfl (fun ls hl => ?_)
        refine lv_iinc (v := x3 + 1) (lv' := [(3, .int (x3 + 1)), (2, .int (x2 ||| (1 <<< (x3 &&& 31)))), (0, .ref (q_ad E x0)), (1, .int x1)]) hx hb dX7_thingsOf_30 hl (k := 3) rfl (by rw [qi_1]) (by decide) rfl (fun ls hl => ?_)
        refine lv_goto (tgt := 4) hx hb dX7_thingsOf_33 (by decide) ?_
        exact ih _ _ _ _  ls hj (lv_sub hl [2, 3, 1, 0] rfl) hf
def f_X7_thingsOf (g : qS) (a0 : Nat) (a1 : Int32) : Option Int32 := (g_C g a0 6).bind fun _ => L_X7_thingsOf_4 g 1000000000 a0 a1 0 0
set_option maxHeartbeats 4000000 in
set_option maxRecDepth 100000 in
theorem c_X7_thingsOf (l : Launch) (E : qV) {g : qS} {a0 : Nat} {a1 : Int32} {res : Int32} (hf : f_X7_thingsOf g a0 a1 = some res) : q_MR l yX7_thingsOf cX7_thingsOf 4 (some .int) 1 23 E [.ref (q_ad E a0), .int a1] g (some (.int res)) ∧ ∃ fs, g a0 = some (.inr (6, fs)) := by
  unfold f_X7_thingsOf at hf
  obtain ⟨u9, hu9, hf⟩ := q_ob hf
  refine ⟨q_ofR (by decide) rfl ?_, g_C_sp hu9⟩
  intro p e s m args below meth c ls C hw hl
  have hj : q_J E s g s.heap [] := ⟨hw, va_S.rf⟩
  have hx := C.1
  have hb := C.2.1
  have C : q_C E p s m args meth c cX7_thingsOf RX7 4 (some .int) := C
  have hl : lv_has ls 4 [(0, .ref (q_ad E a0)), (1, .int a1)] := hl
  refine lv_iconst (v := 0) hx hb dX7_thingsOf_0 qi_0 ?_
  refine lv_istore_n (lv' := [(2, .int 0), (0, .ref (q_ad E a0)), (1, .int a1)]) hx hb dX7_thingsOf_1 rfl hl (by decide) rfl (fun ls hl => ?_)
  refine lv_iconst (v := 0) hx hb dX7_thingsOf_2 qi_0 ?_
  refine lv_istore_n (lv' := [(3, .int 0), (2, .int 0), (0, .ref (q_ad E a0)), (1, .int a1)]) hx hb dX7_thingsOf_3 rfl hl (by decide) rfl (fun ls hl => ?_)
  refine w_L_X7_thingsOf_4 C  hj (lv_sub hl [2, 3, 1, 0] rfl) hf
def f_X7_scoreOf (g : qS) (a0 : Nat) (a1 : Int32) : Option Int32 := (g_C g a0 6).bind fun _ => (g_R g a0 6 0).bind fun v1 => (f_X8_get g v1 0 (9 + a1)).bind fun v2 => some v2
set_option maxHeartbeats 4000000 in
set_option maxRecDepth 100000 in
theorem c_X7_scoreOf (l : Launch) (E : qV) {g : qS} {a0 : Nat} {a1 : Int32} {res : Int32} (hf : f_X7_scoreOf g a0 a1 = some res) : q_MR l yX7_scoreOf cX7_scoreOf 2 (some .int) 1 23 E [.ref (q_ad E a0), .int a1] g (some (.int res)) ∧ ∃ fs, g a0 = some (.inr (6, fs)) := by
  unfold f_X7_scoreOf at hf
  obtain ⟨u9, hu9, hf⟩ := q_ob hf
  refine ⟨q_ofR (by decide) rfl ?_, g_C_sp hu9⟩
  intro p e s m args below meth c ls C hw hl
  have hj : q_J E s g s.heap [] := ⟨hw, va_S.rf⟩
  have hx := C.1
  have hb := C.2.1
  have C : q_C E p s m args meth c cX7_scoreOf RX7 2 (some .int) := C
  have hl : lv_has ls 2 [(0, .ref (q_ad E a0)), (1, .int a1)] := hl
  refine lv_aload_n hx hb dX7_scoreOf_0 rfl (lv_at hl 0 rfl) ?_
  refine q_getR C hj lk_X7_16 dX7_scoreOf_1 hf (fun v1 hf => ?_)
  refine lv_iconst (v := 0) hx hb dX7_scoreOf_4 qi_0 ?_
  refine lv_bipush (v := 9) hx hb dX7_scoreOf_5 (by decide) ?_
  refine lv_iload_n hx hb dX7_scoreOf_7 rfl (lv_at hl 1 rfl) ?_
  refine lv_iadd hx hb dX7_scoreOf_8 ?_
  refine q_cVRI C hj cw_X7_35 (As := [.int 0, .int (9 + a1)]) (rest := []) hf (fun v9 h9 => c_X8_get l E h9) rfl hl rfl rfl rfl dX7_scoreOf_9 ⟨Nat.zero_le _, Nat.zero_le _⟩ (fun v2 hf => ?_)
  exact q_iretR C dX7_scoreOf_12 hf
def f_X7_timesCaught (g : qS) (a0 : Nat) (a1 : Int32) : Option Int32 := (g_C g a0 6).bind fun _ => (g_R g a0 6 0).bind fun v1 => (f_X8_get g v1 0 (12 + a1)).bind fun v2 => some v2
set_option maxHeartbeats 4000000 in
set_option maxRecDepth 100000 in
theorem c_X7_timesCaught (l : Launch) (E : qV) {g : qS} {a0 : Nat} {a1 : Int32} {res : Int32} (hf : f_X7_timesCaught g a0 a1 = some res) : q_MR l yX7_timesCaught cX7_timesCaught 2 (some .int) 1 23 E [.ref (q_ad E a0), .int a1] g (some (.int res)) ∧ ∃ fs, g a0 = some (.inr (6, fs)) := by
  unfold f_X7_timesCaught at hf
  obtain ⟨u9, hu9, hf⟩ := q_ob hf
  refine ⟨q_ofR (by decide) rfl ?_, g_C_sp hu9⟩
  intro p e s m args below meth c ls C hw hl
  have hj : q_J E s g s.heap [] := ⟨hw, va_S.rf⟩
  have hx := C.1
  have hb := C.2.1
  have C : q_C E p s m args meth c cX7_timesCaught RX7 2 (some .int) := C
  have hl : lv_has ls 2 [(0, .ref (q_ad E a0)), (1, .int a1)] := hl
  refine lv_aload_n hx hb dX7_timesCaught_0 rfl (lv_at hl 0 rfl) ?_
  refine q_getR C hj lk_X7_16 dX7_timesCaught_1 hf (fun v1 hf => ?_)
  refine lv_iconst (v := 0) hx hb dX7_timesCaught_4 qi_0 ?_
  refine lv_bipush (v := 12) hx hb dX7_timesCaught_5 (by decide) ?_
  refine lv_iload_n hx hb dX7_timesCaught_7 rfl (lv_at hl 1 rfl) ?_
  refine lv_iadd hx hb dX7_timesCaught_8 ?_
  refine q_cVRI C hj cw_X7_35 (As := [.int 0, .int (12 + a1)]) (rest := []) hf (fun v9 h9 => c_X8_get l E h9) rfl hl rfl rfl rfl dX7_timesCaught_9 ⟨Nat.zero_le _, Nat.zero_le _⟩ (fun v2 hf => ?_)
  exact q_iretR C dX7_timesCaught_12 hf
def f_X7_howManyOf (g : qS) (a0 : Nat) (a1 : Int32) : Option Int32 := (g_C g a0 6).bind fun _ => (f_X7_thingsOf g a0 a1).bind fun v1 => (f_J6_bitCount_0f7a4 g v1).bind fun v2 => some v2
set_option maxHeartbeats 4000000 in
set_option maxRecDepth 100000 in
theorem c_X7_howManyOf (l : Launch) (E : qV) {g : qS} {a0 : Nat} {a1 : Int32} {res : Int32} (hf : f_X7_howManyOf g a0 a1 = some res) : q_MR l yX7_howManyOf cX7_howManyOf 2 (some .int) 2 46 E [.ref (q_ad E a0), .int a1] g (some (.int res)) ∧ ∃ fs, g a0 = some (.inr (6, fs)) := by
  unfold f_X7_howManyOf at hf
  obtain ⟨u9, hu9, hf⟩ := q_ob hf
  refine ⟨q_ofR (by decide) rfl ?_, g_C_sp hu9⟩
  intro p e s m args below meth c ls C hw hl
  have hj : q_J E s g s.heap [] := ⟨hw, va_S.rf⟩
  have hx := C.1
  have hb := C.2.1
  have C : q_C E p s m args meth c cX7_howManyOf RX7 2 (some .int) := C
  have hl : lv_has ls 2 [(0, .ref (q_ad E a0)), (1, .int a1)] := hl
  refine lv_aload_n hx hb dX7_howManyOf_0 rfl (lv_at hl 0 rfl) ?_
  refine lv_iload_n hx hb dX7_howManyOf_1 rfl (lv_at hl 1 rfl) ?_
  refine q_cVRI C hj cw_X7_45 (As := [.int a1]) (rest := []) hf (fun v9 h9 => c_X7_thingsOf l E h9) rfl hl rfl rfl rfl dX7_howManyOf_2 ⟨Nat.zero_le _, Nat.zero_le _⟩ (fun v1 hf => ?_)
  refine q_cSRI C hj cw_X7_48 (As := [.int v1]) (rest := []) hf (fun v9 h9 => c_J6_bitCount_0f7a4 l E h9) rfl hl rfl rfl rfl dX7_howManyOf_5 ⟨Nat.zero_le _, Nat.zero_le _⟩ (fun v2 hf => ?_)
  exact q_iretR C dX7_howManyOf_8 hf
def f_X7_today (g : qS) (a0 : Nat) : Option Int32 := (g_C g a0 6).bind fun _ => (g_R g a0 6 0).bind fun v1 => (f_X8_get g v1 0 15).bind fun v2 => some v2
set_option maxHeartbeats 4000000 in
set_option maxRecDepth 100000 in
theorem c_X7_today (l : Launch) (E : qV) {g : qS} {a0 : Nat} {res : Int32} (hf : f_X7_today g a0 = some res) : q_MR l yX7_today cX7_today 1 (some .int) 1 23 E [.ref (q_ad E a0)] g (some (.int res)) ∧ ∃ fs, g a0 = some (.inr (6, fs)) := by
  unfold f_X7_today at hf
  obtain ⟨u9, hu9, hf⟩ := q_ob hf
  refine ⟨q_ofR (by decide) rfl ?_, g_C_sp hu9⟩
  intro p e s m args below meth c ls C hw hl
  have hj : q_J E s g s.heap [] := ⟨hw, va_S.rf⟩
  have hx := C.1
  have hb := C.2.1
  have C : q_C E p s m args meth c cX7_today RX7 1 (some .int) := C
  have hl : lv_has ls 1 [(0, .ref (q_ad E a0))] := hl
  refine lv_aload_n hx hb dX7_today_0 rfl (lv_at hl 0 rfl) ?_
  refine q_getR C hj lk_X7_16 dX7_today_1 hf (fun v1 hf => ?_)
  refine lv_iconst (v := 0) hx hb dX7_today_4 qi_0 ?_
  refine lv_bipush (v := 15) hx hb dX7_today_5 (by decide) ?_
  refine q_cVRI C hj cw_X7_35 (As := [.int 0, .int 15]) (rest := []) hf (fun v9 h9 => c_X8_get l E h9) rfl hl rfl rfl rfl dX7_today_7 ⟨Nat.zero_le _, Nat.zero_le _⟩ (fun v2 hf => ?_)
  exact q_iretR C dX7_today_10 hf
def f_X7_hindrance (g : qS) (a0 : Nat) (a1 : Nat) (a2 : Int32) (a3 : Int32) (a4 : Int32) (a5 : Int32) : Option Int32 := (g_C g a0 6).bind fun _ => (f_X3_sharedTram g a1 a3 a5 a2).bind fun v1 => if 0 ≤ v1 then ((f_X7_holder g a0 a4).bind fun v2 => if v2 < 0 then ((f_X7_howManyOf g a0 a5).bind fun v3 => (f_X7_roomOf g a0 a1 a5).bind fun v4 => if v3 < v4 then (some 0) else (some 4)) else (some 3)) else (some 2)
set_option maxHeartbeats 4000000 in
set_option maxRecDepth 100000 in
theorem c_X7_hindrance (l : Launch) (E : qV) {g : qS} {a0 : Nat} {a1 : Nat} {a2 : Int32} {a3 : Int32} {a4 : Int32} {a5 : Int32} {res : Int32} (hf : f_X7_hindrance g a0 a1 a2 a3 a4 a5 = some res) : q_MR l yX7_hindrance cX7_hindrance 6 (some .int) 3 67 E [.ref (q_ad E a0), .ref (q_ad E a1), .int a2, .int a3, .int a4, .int a5] g (some (.int res)) ∧ ∃ fs, g a0 = some (.inr (6, fs)) := by
  unfold f_X7_hindrance at hf
  obtain ⟨u9, hu9, hf⟩ := q_ob hf
  refine ⟨q_ofR (by decide) rfl ?_, g_C_sp hu9⟩
  intro p e s m args below meth c ls C hw hl
  have hj : q_J E s g s.heap [] := ⟨hw, va_S.rf⟩
  have hx := C.1
  have hb := C.2.1
  have C : q_C E p s m args meth c cX7_hindrance RX7 6 (some .int) := C
  have hl : lv_has ls 6 [(0, .ref (q_ad E a0)), (1, .ref (q_ad E a1)), (2, .int a2), (3, .int a3), (4, .int a4), (5, .int a5)] := hl
  refine lv_aload_n hx hb dX7_hindrance_0 rfl (lv_at hl 1 rfl) ?_
  refine lv_iload_n hx hb dX7_hindrance_1 rfl (lv_at hl 3 rfl) ?_
  refine lv_iload hx hb dX7_hindrance_2 (lv_at hl 5 rfl) ?_
  refine lv_iload_n hx hb dX7_hindrance_4 rfl (lv_at hl 2 rfl) ?_
  refine q_cVRI C hj cw_X7_53 (As := [.int a3, .int a5, .int a2]) (rest := []) hf (fun v9 h9 => c_X3_sharedTram l E h9) rfl hl rfl rfl rfl dX7_hindrance_5 ⟨Nat.zero_le _, Nat.zero_le _⟩ (fun v1 hf => ?_)
  refine q_ifge C (tgt := 13) dX7_hindrance_8 (by decide) hf (fun hf => ?_) (fun hf => ?_)
  · refine lv_aload_n hx hb dX7_hindrance_13 rfl (lv_at hl 0 rfl) ?_
    refine lv_iload hx hb dX7_hindrance_14 (lv_at hl 4 rfl) ?_
    refine q_cVRI C hj cw_X7_57 (As := [.int a4]) (rest := []) hf (fun v9 h9 => c_X7_holder l E h9) rfl hl rfl rfl rfl dX7_hindrance_16 ⟨Nat.zero_le _, Nat.zero_le _⟩ (fun v2 hf => ?_)
    refine q_iflt C (tgt := 24) dX7_hindrance_19 (by decide) hf (fun hf => ?_) (fun hf => ?_)
    · refine lv_aload_n hx hb dX7_hindrance_24 rfl (lv_at hl 0 rfl) ?_
      refine lv_iload hx hb dX7_hindrance_25 (lv_at hl 5 rfl) ?_
      refine q_cVRI C hj cw_X7_60 (As := [.int a5]) (rest := []) hf (fun v9 h9 => c_X7_howManyOf l E h9) rfl hl rfl rfl rfl dX7_hindrance_27 ⟨Nat.zero_le _, Nat.zero_le _⟩ (fun v3 hf => ?_)
      refine lv_aload_n hx hb dX7_hindrance_30 rfl (lv_at hl 0 rfl) ?_
      refine lv_aload_n hx hb dX7_hindrance_31 rfl (lv_at hl 1 rfl) ?_
      refine lv_iload hx hb dX7_hindrance_32 (lv_at hl 5 rfl) ?_
      refine q_cVRI C hj cw_X7_63 (As := [.ref (q_ad E a1), .int a5]) (rest := [.int v3]) hf (fun v9 h9 => c_X7_roomOf l E h9) rfl hl rfl rfl rfl dX7_hindrance_34 ⟨Nat.zero_le _, Nat.zero_le _⟩ (fun v4 hf => ?_)
      refine q_iclt C (tgt := 44) dX7_hindrance_37 (by decide) hf (fun hf => ?_) (fun hf => ?_)
      · refine lv_iconst (v := 0) hx hb dX7_hindrance_44 qi_0 ?_
        exact q_iretR C dX7_hindrance_45 hf
      · refine lv_iconst (v := 4) hx hb dX7_hindrance_40 qi_4 ?_
        refine lv_goto (tgt := 45) hx hb dX7_hindrance_41 (by decide) ?_
        exact q_iretR C dX7_hindrance_45 hf
    · refine lv_iconst (v := 3) hx hb dX7_hindrance_22 qi_3 ?_
      exact q_iretR C dX7_hindrance_23 hf
  · refine lv_iconst (v := 2) hx hb dX7_hindrance_11 qi_2 ?_
    exact q_iretR C dX7_hindrance_12 hf
def f_X7_nearOn (g : qS) (a0 : Nat) (a1 : Nat) (a2 : Int32) (a3 : Int32) (a4 : Int32) (a5 : Int32) : Option Int32 := (g_C g a0 6).bind fun _ => (f_X3_sharedTram g a1 a3 a5 a2).bind fun v1 => (f_X7_howManyOf g a0 a5).bind fun v2 => (f_X3_nearness g a1 a3 a4 a5 v1 v2).bind fun v3 => some v3
set_option maxHeartbeats 4000000 in
set_option maxRecDepth 100000 in
theorem c_X7_nearOn (l : Launch) (E : qV) {g : qS} {a0 : Nat} {a1 : Nat} {a2 : Int32} {a3 : Int32} {a4 : Int32} {a5 : Int32} {res : Int32} (hf : f_X7_nearOn g a0 a1 a2 a3 a4 a5 = some res) : q_MR l yX7_nearOn cX7_nearOn 6 (some .int) 3 67 E [.ref (q_ad E a0), .ref (q_ad E a1), .int a2, .int a3, .int a4, .int a5] g (some (.int res)) ∧ ∃ fs, g a0 = some (.inr (6, fs)) := by
  unfold f_X7_nearOn at hf
  obtain ⟨u9, hu9, hf⟩ := q_ob hf
  refine ⟨q_ofR (by decide) rfl ?_, g_C_sp hu9⟩
  intro p e s m args below meth c ls C hw hl
  have hj : q_J E s g s.heap [] := ⟨hw, va_S.rf⟩
  have hx := C.1
  have hb := C.2.1
  have C : q_C E p s m args meth c cX7_nearOn RX7 6 (some .int) := C
  have hl : lv_has ls 6 [(0, .ref (q_ad E a0)), (1, .ref (q_ad E a1)), (2, .int a2), (3, .int a3), (4, .int a4), (5, .int a5)] := hl
  refine lv_aload_n hx hb dX7_nearOn_0 rfl (lv_at hl 1 rfl) ?_
  refine lv_iload_n hx hb dX7_nearOn_1 rfl (lv_at hl 3 rfl) ?_
  refine lv_iload hx hb dX7_nearOn_2 (lv_at hl 4 rfl) ?_
  refine lv_iload hx hb dX7_nearOn_4 (lv_at hl 5 rfl) ?_
  refine lv_aload_n hx hb dX7_nearOn_6 rfl (lv_at hl 1 rfl) ?_
  refine lv_iload_n hx hb dX7_nearOn_7 rfl (lv_at hl 3 rfl) ?_
  refine lv_iload hx hb dX7_nearOn_8 (lv_at hl 5 rfl) ?_
  refine lv_iload_n hx hb dX7_nearOn_10 rfl (lv_at hl 2 rfl) ?_
  refine q_cVRI C hj cw_X7_53 (As := [.int a3, .int a5, .int a2]) (rest := [.int a5, .int a4, .int a3, .ref (q_ad E a1)]) hf (fun v9 h9 => c_X3_sharedTram l E h9) rfl hl rfl rfl rfl dX7_nearOn_11 ⟨Nat.zero_le _, Nat.zero_le _⟩ (fun v1 hf => ?_)
  refine lv_aload_n hx hb dX7_nearOn_14 rfl (lv_at hl 0 rfl) ?_
  refine lv_iload hx hb dX7_nearOn_15 (lv_at hl 5 rfl) ?_
  refine q_cVRI C hj cw_X7_60 (As := [.int a5]) (rest := [.int v1, .int a5, .int a4, .int a3, .ref (q_ad E a1)]) hf (fun v9 h9 => c_X7_howManyOf l E h9) rfl hl rfl rfl rfl dX7_nearOn_17 ⟨Nat.zero_le _, Nat.zero_le _⟩ (fun v2 hf => ?_)
  refine q_cVRI C hj cw_X7_67 (As := [.int a3, .int a4, .int a5, .int v1, .int v2]) (rest := []) hf (fun v9 h9 => c_X3_nearness l E h9) rfl hl rfl rfl rfl dX7_nearOn_20 ⟨Nat.zero_le _, Nat.zero_le _⟩ (fun v3 hf => ?_)
  exact q_iretR C dX7_nearOn_23 hf
def f_X7_outcome (g : qS) (a0 : Nat) (a1 : Nat) (a2 : Int32) (a3 : Int32) (a4 : Int32) (a5 : Int32) : Option Int32 := (g_C g a0 6).bind fun _ => (f_X7_hindrance g a0 a1 a2 a3 a4 a5).bind fun v1 => if v1 = 0 then ((f_X7_nearOn g a0 a1 a2 a3 a4 a5).bind fun v2 => (f_X3_isNoticed g a1 v2).bind fun v3 => if v3 = 0 then (some 0) else (some 1)) else (some v1)
set_option maxHeartbeats 4000000 in
set_option maxRecDepth 100000 in
theorem c_X7_outcome (l : Launch) (E : qV) {g : qS} {a0 : Nat} {a1 : Nat} {a2 : Int32} {a3 : Int32} {a4 : Int32} {a5 : Int32} {res : Int32} (hf : f_X7_outcome g a0 a1 a2 a3 a4 a5 = some res) : q_MR l yX7_outcome cX7_outcome 7 (some .int) 4 92 E [.ref (q_ad E a0), .ref (q_ad E a1), .int a2, .int a3, .int a4, .int a5] g (some (.int res)) ∧ ∃ fs, g a0 = some (.inr (6, fs)) := by
  unfold f_X7_outcome at hf
  obtain ⟨u9, hu9, hf⟩ := q_ob hf
  refine ⟨q_ofR (by decide) rfl ?_, g_C_sp hu9⟩
  intro p e s m args below meth c ls C hw hl
  have hj : q_J E s g s.heap [] := ⟨hw, va_S.rf⟩
  have hx := C.1
  have hb := C.2.1
  have C : q_C E p s m args meth c cX7_outcome RX7 7 (some .int) := C
  have hl : lv_has ls 7 [(0, .ref (q_ad E a0)), (1, .ref (q_ad E a1)), (2, .int a2), (3, .int a3), (4, .int a4), (5, .int a5)] := hl
  refine lv_aload_n hx hb dX7_outcome_0 rfl (lv_at hl 0 rfl) ?_
  refine lv_aload_n hx hb dX7_outcome_1 rfl (lv_at hl 1 rfl) ?_
  refine lv_iload_n hx hb dX7_outcome_2 rfl (lv_at hl 2 rfl) ?_
  refine lv_iload_n hx hb dX7_outcome_3 rfl (lv_at hl 3 rfl) ?_
  refine lv_iload hx hb dX7_outcome_4 (lv_at hl 4 rfl) ?_
  refine lv_iload hx hb dX7_outcome_6 (lv_at hl 5 rfl) ?_
  refine q_cVRI C hj cw_X7_71 (As := [.ref (q_ad E a1), .int a2, .int a3, .int a4, .int a5]) (rest := []) hf (fun v9 h9 => c_X7_hindrance l E h9) rfl hl rfl rfl rfl dX7_outcome_8 ⟨Nat.zero_le _, Nat.zero_le _⟩ (fun v1 hf => ?_)
  refine lv_istore (lv' := [(6, .int v1), (0, .ref (q_ad E a0)), (1, .ref (q_ad E a1)), (2, .int a2), (3, .int a3), (4, .int a4), (5, .int a5)]) hx hb dX7_outcome_11 hl (by decide) rfl (fun ls hl => ?_)
  refine lv_iload hx hb dX7_outcome_13 (lv_at hl 0 rfl) ?_
  refine q_ifeq C (tgt := 21) dX7_outcome_15 (by decide) hf (fun hf => ?_) (fun hf => ?_)
  · refine lv_aload_n hx hb dX7_outcome_21 rfl (lv_at hl 2 rfl) ?_
    refine lv_aload_n hx hb dX7_outcome_22 rfl (lv_at hl 1 rfl) ?_
    refine lv_aload_n hx hb dX7_outcome_23 rfl (lv_at hl 2 rfl) ?_
    refine lv_iload_n hx hb dX7_outcome_24 rfl (lv_at hl 3 rfl) ?_
    refine lv_iload_n hx hb dX7_outcome_25 rfl (lv_at hl 4 rfl) ?_
    refine lv_iload hx hb dX7_outcome_26 (lv_at hl 5 rfl) ?_
    refine lv_iload hx hb dX7_outcome_28 (lv_at hl 6 rfl) ?_
    refine q_cVRI C hj cw_X7_75 (As := [.ref (q_ad E a1), .int a2, .int a3, .int a4, .int a5]) (rest := [.ref (q_ad E a1)]) hf (fun v9 h9 => c_X7_nearOn l E h9) rfl hl rfl rfl rfl dX7_outcome_30 ⟨Nat.zero_le _, Nat.zero_le _⟩ (fun v2 hf => ?_)
    refine q_cVRI C hj cw_X7_78 (As := [.int v2]) (rest := []) hf (fun v9 h9 => c_X3_isNoticed l E h9) rfl hl rfl rfl rfl dX7_outcome_33 ⟨Nat.zero_le _, Nat.zero_le _⟩ (fun v3 hf => ?_)
    refine q_ifeq C (tgt := 43) dX7_outcome_36 (by decide) hf (fun hf => ?_) (fun hf => ?_)
    · refine lv_iconst (v := 0) hx hb dX7_outcome_43 qi_0 ?_
      exact q_iretR C dX7_outcome_44 hf
    · refine lv_iconst (v := 1) hx hb dX7_outcome_39 qi_1 ?_
      refine lv_goto (tgt := 44) hx hb dX7_outcome_40 (by decide) ?_
      exact q_iretR C dX7_outcome_44 hf
  · refine lv_iload hx hb dX7_outcome_18 (lv_at hl 0 rfl) ?_
    exact q_iretR C dX7_outcome_20 hf
def f_X5_isCaught (g : qS) (a0 : Nat) (a1 : Nat) (a2 : Int32) : Option (Int32 × qS) := (g_C g a0 4).bind fun _ => (g_I g a0 4 2).bind fun v1 => if v1 = (-1) then ((f_X3_isNoticed g a1 a2).bind fun v5 => q_zr v5 (v5, g)) else ((g_I g a0 4 2).bind fun v2 => if (65537 : Int32) = 0 then none else ((p_I g a0 4 2 (((75 * v2) + 74) - ((75 * v2) + 74) / 65537 * 65537)).bind fun g3 => (g_I g3 a0 4 2).bind fun v4 => if (100 : Int32) = 0 then none else (if a2 ≤ (v4 - v4 / 100 * 100) then (some (0, g3)) else (some (1, g3)))))
set_option maxHeartbeats 4000000 in
set_option maxRecDepth 100000 in
theorem c_X5_isCaught (l : Launch) (E : qV) {g : qS} {a0 : Nat} {a1 : Nat} {a2 : Int32} {res : (Int32 × qS)} (hf : f_X5_isCaught g a0 a1 a2 = some res) : q_MW l yX5_isCaught cX5_isCaught 3 (some .boolean) 2 44 E [.ref (q_ad E a0), .ref (q_ad E a1), .int a2] g (some (.int res.1)) res.2 ∧ ∃ fs, g a0 = some (.inr (4, fs)) := by
  unfold f_X5_isCaught at hf
  obtain ⟨u9, hu9, hf⟩ := q_ob hf
  refine ⟨q_ofW (by decide) rfl ?_, g_C_sp hu9⟩
  intro p e s m args below meth c ls C hj hl
  have hx := C.1
  have hb := C.2.1
  have C : q_C E p s m args meth c cX5_isCaught RX5 3 (some .boolean) := C
  have hl : lv_has ls 3 [(0, .ref (q_ad E a0)), (1, .ref (q_ad E a1)), (2, .int a2)] := hl
  refine lv_aload_n hx hb dX5_isCaught_0 rfl (lv_at hl 0 rfl) ?_
  refine q_getI C hj lk_X5_27 dX5_isCaught_1 hf (fun v1 hf => ?_)
  refine lv_iconst (v := -1) hx hb dX5_isCaught_4 qi_m1 ?_
  refine q_icne C (tgt := 14) dX5_isCaught_5 (by decide) hf (fun hf => ?_) (fun hf => ?_)
  · refine lv_aload_n hx hb dX5_isCaught_14 rfl (lv_at hl 0 rfl) ?_
    refine lv_bipush (v := 75) hx hb dX5_isCaught_15 (by decide) ?_
    refine lv_aload_n hx hb dX5_isCaught_17 rfl (lv_at hl 0 rfl) ?_
    refine q_getI C hj lk_X5_27 dX5_isCaught_18 hf (fun v2 hf => ?_)
    refine lv_imul hx hb dX5_isCaught_21 ?_
    refine lv_bipush (v := 74) hx hb dX5_isCaught_22 (by decide) ?_
    refine lv_iadd hx hb dX5_isCaught_24 ?_
    refine lv_ldc (v := 65537) hx hb C.2.2.2.1 (C.2.2.2.2.1 _ kc_X5_90) dX5_isCaught_25 ?_
    refine q_irem C dX5_isCaught_27 hf (fun hf => ?_)
    refine q_putI C hj fp_X5_27 dX5_isCaught_28 hf (fun g3 H locs hj hf => ?_)
    refine lv_aload_n hx hb dX5_isCaught_31 rfl (lv_at hl 0 rfl) ?_
    refine q_getI C hj lk_X5_27 dX5_isCaught_32 hf (fun v4 hf => ?_)
    refine lv_bipush (v := 100) hx hb dX5_isCaught_35 (by decide) ?_
    refine q_irem C dX5_isCaught_37 hf (fun hf => ?_)
    refine lv_iload_n hx hb dX5_isCaught_38 rfl (lv_at hl 2 rfl) ?_
    refine q_icge C (tgt := 46) dX5_isCaught_39 (by decide) hf (fun hf => ?_) (fun hf => ?_)
    · refine lv_iconst (v := 0) hx hb dX5_isCaught_46 qi_0 ?_
      exact q_z0retW C hj dX5_isCaught_47 hf
    · refine lv_iconst (v := 1) hx hb dX5_isCaught_42 qi_1 ?_
      refine lv_goto (tgt := 47) hx hb dX5_isCaught_43 (by decide) ?_
      exact q_z1retW C hj dX5_isCaught_47 hf
  · refine lv_aload_n hx hb dX5_isCaught_8 rfl (lv_at hl 1 rfl) ?_
    refine lv_iload_n hx hb dX5_isCaught_9 rfl (lv_at hl 2 rfl) ?_
    refine q_cVRI C hj cw_X5_86 (As := [.int a2]) (rest := []) hf (fun v9 h9 => c_X3_isNoticed l E h9) rfl hl rfl rfl rfl dX5_isCaught_10 ⟨Nat.zero_le _, Nat.zero_le _⟩ (fun v5 hf => ?_)
    exact q_zretW C hj dX5_isCaught_13 hf
def f_X7_settle (g : qS) (a0 : Nat) (a1 : Nat) (a2 : Int32) (a3 : Int32) (a4 : Int32) (a5 : Int32) : Option qS := (g_C g a0 6).bind fun _ => if a5 = 0 then ((g_R g a0 6 0).bind fun v5 => (f_X8_set g v5 0 (0 + a3) a4).bind fun g6 => (g_R g6 a0 6 0).bind fun v7 => (f_X3_honourOf g6 a1 a3).bind fun v8 => (f_X8_add g6 v7 0 (9 + a2) v8).bind fun g9 => some g9) else (if a5 = 1 then ((g_R g a0 6 0).bind fun v1 => (f_X8_set g v1 0 (9 + a2) 0).bind fun g2 => (g_R g2 a0 6 0).bind fun v3 => (f_X8_add g2 v3 0 (12 + a2) 1).bind fun g4 => some g4) else (some g))
set_option maxHeartbeats 4000000 in
set_option maxRecDepth 100000 in
theorem c_X7_settle (l : Launch) (E : qV) {g : qS} {a0 : Nat} {a1 : Nat} {a2 : Int32} {a3 : Int32} {a4 : Int32} {a5 : Int32} {res : qS} (hf : f_X7_settle g a0 a1 a2 a3 a4 a5 = some res) : q_MW l yX7_settle cX7_settle 6 none 2 47 E [.ref (q_ad E a0), .ref (q_ad E a1), .int a2, .int a3, .int a4, .int a5] g none res ∧ ∃ fs, g a0 = some (.inr (6, fs)) := by
  unfold f_X7_settle at hf
  obtain ⟨u9, hu9, hf⟩ := q_ob hf
  refine ⟨q_ofW (by decide) rfl ?_, g_C_sp hu9⟩
  intro p e s m args below meth c ls C hj hl
  have hx := C.1
  have hb := C.2.1
  have C : q_C E p s m args meth c cX7_settle RX7 6 none := C
  have hl : lv_has ls 6 [(0, .ref (q_ad E a0)), (1, .ref (q_ad E a1)), (2, .int a2), (3, .int a3), (4, .int a4), (5, .int a5)] := hl
  refine lv_iload hx hb dX7_settle_0 (lv_at hl 5 rfl) ?_
  refine q_ifne C (tgt := 38) dX7_settle_2 (by decide) hf (fun hf => ?_) (fun hf => ?_)
  · refine lv_iload hx hb dX7_settle_38 (lv_at hl 5 rfl) ?_
    refine lv_iconst (v := 1) hx hb dX7_settle_40 qi_1 ?_
    refine q_icne C (tgt := 70) dX7_settle_41 (by decide) hf (fun hf => ?_) (fun hf => ?_)
    · exact q_vretW C hj dX7_settle_70 hf
    · refine lv_aload_n hx hb dX7_settle_44 rfl (lv_at hl 0 rfl) ?_
      refine q_getR C hj lk_X7_16 dX7_settle_45 hf (fun v1 hf => ?_)
      refine lv_iconst (v := 0) hx hb dX7_settle_48 qi_0 ?_
      refine lv_bipush (v := 9) hx hb dX7_settle_49 (by decide) ?_
      refine lv_iload_n hx hb dX7_settle_51 rfl (lv_at hl 2 rfl) ?_
      refine lv_iadd hx hb dX7_settle_52 ?_
      refine lv_iconst (v := 0) hx hb dX7_settle_53 qi_0 ?_
      refine q_cVWV C hj cw_X7_27 (As := [.int 0, .int (9 + a2), .int 0]) (rest := []) hf (fun g9 h9 => c_X8_set l E h9) rfl hl rfl rfl rfl dX7_settle_54 ⟨Nat.zero_le _, Nat.zero_le _⟩ (fun g2 H locs hj hf => ?_)
      refine lv_aload_n hx hb dX7_settle_57 rfl (lv_at hl 0 rfl) ?_
      refine q_getR C hj lk_X7_16 dX7_settle_58 hf (fun v3 hf => ?_)
      refine lv_iconst (v := 0) hx hb dX7_settle_61 qi_0 ?_
      refine lv_bipush (v := 12) hx hb dX7_settle_62 (by decide) ?_
      refine lv_iload_n hx hb dX7_settle_64 rfl (lv_at hl 2 rfl) ?_
      refine lv_iadd hx hb dX7_settle_65 ?_
      refine lv_iconst (v := 1) hx hb dX7_settle_66 qi_1 ?_
      refine q_cVWV C hj cw_X7_85 (As := [.int 0, .int (12 + a2), .int 1]) (rest := []) hf (fun g9 h9 => c_X8_add l E h9) rfl hl rfl rfl rfl dX7_settle_67 ⟨Nat.zero_le _, Nat.zero_le _⟩ (fun g4 H locs hj hf => ?_)
      exact q_vretW C hj dX7_settle_70 hf
  · refine lv_aload_n hx hb dX7_settle_5 rfl (lv_at hl 0 rfl) ?_
    refine q_getR C hj lk_X7_16 dX7_settle_6 hf (fun v5 hf => ?_)
    refine lv_iconst (v := 0) hx hb dX7_settle_9 qi_0 ?_
    refine lv_iconst (v := 0) hx hb dX7_settle_10 qi_0 ?_
    refine lv_iload_n hx hb dX7_settle_11 rfl (lv_at hl 3 rfl) ?_
    refine lv_iadd hx hb dX7_settle_12 ?_
    refine lv_iload hx hb dX7_settle_13 (lv_at hl 4 rfl) ?_
    refine q_cVWV C hj cw_X7_27 (As := [.int 0, .int (0 + a3), .int a4]) (rest := []) hf (fun g9 h9 => c_X8_set l E h9) rfl hl rfl rfl rfl dX7_settle_15 ⟨Nat.zero_le _, Nat.zero_le _⟩ (fun g6 H locs hj hf => ?_)
    refine lv_aload_n hx hb dX7_settle_18 rfl (lv_at hl 0 rfl) ?_
    refine q_getR C hj lk_X7_16 dX7_settle_19 hf (fun v7 hf => ?_)
    refine lv_iconst (v := 0) hx hb dX7_settle_22 qi_0 ?_
    refine lv_bipush (v := 9) hx hb dX7_settle_23 (by decide) ?_
    refine lv_iload_n hx hb dX7_settle_25 rfl (lv_at hl 2 rfl) ?_
    refine lv_iadd hx hb dX7_settle_26 ?_
    refine lv_aload_n hx hb dX7_settle_27 rfl (lv_at hl 1 rfl) ?_
    refine lv_iload_n hx hb dX7_settle_28 rfl (lv_at hl 3 rfl) ?_
    refine q_cVRI C hj cw_X7_82 (As := [.int a3]) (rest := [.int (9 + a2), .int 0, .ref (q_ad E v7)]) hf (fun v9 h9 => c_X3_honourOf l E h9) rfl hl rfl rfl rfl dX7_settle_29 ⟨Nat.zero_le _, Nat.zero_le _⟩ (fun v8 hf => ?_)
    refine q_cVWV C hj cw_X7_85 (As := [.int 0, .int (9 + a2), .int v8]) (rest := []) hf (fun g9 h9 => c_X8_add l E h9) rfl hl rfl rfl rfl dX7_settle_32 ⟨Nat.zero_le _, Nat.zero_le _⟩ (fun g9 H locs hj hf => ?_)
    refine lv_goto (tgt := 70) hx hb dX7_settle_35 (by decide) ?_
    exact q_vretW C hj dX7_settle_70 hf
def J_X5_runGift_81  (x0 : Nat) (x1 : Nat) (x2 : Int32) (x4 : Int32) (x5 : Int32) (x6 : Int32) (x7 : Int32) (g : qS) : Option qS := (g_R g x0 4 1).bind fun v1 => (f_X8_set g v1 0 x2 x7).bind fun g2 => (g_R g2 x0 4 0).bind fun v3 => (f_X7_settle g2 v3 x1 x4 x5 x6 x7).bind fun g4 => some g4
set_option maxHeartbeats 4000000 in
set_option maxRecDepth 100000 in
theorem w_J_X5_runGift_81 {l : Launch} {E : qV} {p : Program} {e : Env} {s : State} {m : MethodId} {args : Array Value} {below : List Frame} {meth : Method} {c : Code}  {res : qS} (C : q_C E p s m args meth c cX5_runGift RX5 8 none)  : ∀ {x0 : Nat} {x1 : Nat} {x2 : Int32} {x4 : Int32} {x5 : Int32} {x6 : Int32} {x7 : Int32} {g : qS} {H : Heap} {locs : List Loc} {ls : Array Slot}, q_J E s g H locs → lv_has ls 8 [(0, .ref (q_ad E x0)), (1, .ref (q_ad E x1)), (2, .int x2), (4, .int x4), (5, .int x5), (6, .int x6), (7, .int x7)] → J_X5_runGift_81 x0 x1 x2 x4 x5 x6 x7 g = some res → W p l e (q_rm 4 92) s m args below meth c H locs 0 0 (q_ZW E below none res args s) (F0 m 81 ls []) := by
  have hx := C.1
  have hb := C.2.1
  intro x0 x1 x2 x4 x5 x6 x7 g H locs ls hj hl hf
  unfold J_X5_runGift_81 at hf
  refine lv_aload_n hx hb dX5_runGift_81 rfl (lv_at hl 0 rfl) ?_
  refine q_getR C hj lk_X5_23 dX5_runGift_82 hf (fun v1 hf => ?_)
  refine lv_iconst (v := 0) hx hb dX5_runGift_85 qi_0 ?_
  refine lv_iload_n hx hb dX5_runGift_86 rfl (lv_at hl 2 rfl) ?_
  refine lv_iload hx hb dX5_runGift_87 (lv_at hl 6 rfl) ?_
  refine q_cVWV C hj cw_X5_78 (As := [.int 0, .int x2, .int x7]) (rest := []) hf (fun g9 h9 => c_X8_set l E h9) rfl hl rfl rfl rfl dX5_runGift_89 ⟨Nat.zero_le _, Nat.zero_le _⟩ (fun g2 H locs hj hf => ?_)
  refine lv_aload_n hx hb dX5_runGift_92 rfl (lv_at hl 0 rfl) ?_
  refine q_getR C hj lk_X5_12 dX5_runGift_93 hf (fun v3 hf => ?_)
  refine lv_aload_n hx hb dX5_runGift_96 rfl (lv_at hl 1 rfl) ?_
  refine lv_iload hx hb dX5_runGift_97 (lv_at hl 3 rfl) ?_
  refine lv_iload hx hb dX5_runGift_99 (lv_at hl 4 rfl) ?_
  refine lv_iload hx hb dX5_runGift_101 (lv_at hl 5 rfl) ?_
  refine lv_iload hx hb dX5_runGift_103 (lv_at hl 6 rfl) ?_
  refine q_cVWV C hj cw_X5_82 (As := [.ref (q_ad E x1), .int x4, .int x5, .int x6, .int x7]) (rest := []) hf (fun g9 h9 => c_X7_settle l E h9) rfl hl rfl rfl rfl dX5_runGift_105 ⟨Nat.zero_le _, Nat.zero_le _⟩ (fun g4 H locs hj hf => ?_)
  exact q_vretW C hj dX5_runGift_108 hf
def f_X5_runGift (g : qS) (a0 : Nat) (a1 : Nat) (a2 : Int32) (a3 : Int32) : Option qS := (g_C g a0 4).bind fun _ => (g_R g a1 2 4).bind fun v1 => (f_X8_get g v1 a2 0).bind fun v2 => (g_R g a1 2 4).bind fun v3 => (f_X8_get g v3 a2 1).bind fun v4 => (g_R g a1 2 4).bind fun v5 => (f_X8_get g v5 a2 2).bind fun v6 => (g_R g a0 4 0).bind fun v7 => (f_X7_hindrance g v7 a1 a3 v2 v4 v6).bind fun v8 => if v8 = 0 then ((g_R g a0 4 0).bind fun v9 => (f_X7_nearOn g v9 a1 a3 v2 v4 v6).bind fun v10 => q_b2 (f_X5_isCaught g a0 a1 v10) fun v12 g11 => if v12 = 0 then (J_X5_runGift_81 a0 a1 a2 v2 v4 v6 v8 g11) else (J_X5_runGift_81 a0 a1 a2 v2 v4 v6 1 g11)) else (J_X5_runGift_81 a0 a1 a2 v2 v4 v6 v8 g)
set_option maxHeartbeats 4000000 in
set_option maxRecDepth 100000 in
theorem c_X5_runGift (l : Launch) (E : qV) {g : qS} {a0 : Nat} {a1 : Nat} {a2 : Int32} {a3 : Int32} {res : qS} (hf : f_X5_runGift g a0 a1 a2 a3 = some res) : q_MW l yX5_runGift cX5_runGift 8 none 4 92 E [.ref (q_ad E a0), .ref (q_ad E a1), .int a2, .int a3] g none res ∧ ∃ fs, g a0 = some (.inr (4, fs)) := by
  unfold f_X5_runGift at hf
  obtain ⟨u9, hu9, hf⟩ := q_ob hf
  refine ⟨q_ofW (by decide) rfl ?_, g_C_sp hu9⟩
  intro p e s m args below meth c ls C hj hl
  have hx := C.1
  have hb := C.2.1
  have C : q_C E p s m args meth c cX5_runGift RX5 8 none := C
  have hl : lv_has ls 8 [(0, .ref (q_ad E a0)), (1, .ref (q_ad E a1)), (2, .int a2), (3, .int a3)] := hl
  refine lv_aload_n hx hb dX5_runGift_0 rfl (lv_at hl 1 rfl) ?_
  refine q_getR C hj lk_X5_60 dX5_runGift_1 hf (fun v1 hf => ?_)
  refine lv_iload_n hx hb dX5_runGift_4 rfl (lv_at hl 2 rfl) ?_
  refine lv_iconst (v := 0) hx hb dX5_runGift_5 qi_0 ?_
  refine q_cVRI C hj cw_X5_41 (As := [.int a2, .int 0]) (rest := []) hf (fun v9 h9 => c_X8_get l E h9) rfl hl rfl rfl rfl dX5_runGift_6 ⟨Nat.zero_le _, Nat.zero_le _⟩ (fun v2 hf => ?_)
  refine lv_istore (lv' := [(4, .int v2), (0, .ref (q_ad E a0)), (1, .ref (q_ad E a1)), (2, .int a2), (3, .int a3)]) hx hb dX5_runGift_9 hl (by decide) rfl (fun ls hl => ?_)
  refine lv_aload_n hx hb dX5_runGift_11 rfl (lv_at hl 2 rfl) ?_
  refine q_getR C hj lk_X5_60 dX5_runGift_12 hf (fun v3 hf => ?_)
  refine lv_iload_n hx hb dX5_runGift_15 rfl (lv_at hl 3 rfl) ?_
  refine lv_iconst (v := 1) hx hb dX5_runGift_16 qi_1 ?_
  refine q_cVRI C hj cw_X5_41 (As := [.int a2, .int 1]) (rest := []) hf (fun v9 h9 => c_X8_get l E h9) rfl hl rfl rfl rfl dX5_runGift_17 ⟨Nat.zero_le _, Nat.zero_le _⟩ (fun v4 hf => ?_)
  refine lv_istore (lv' := [(5, .int v4), (4, .int v2), (0, .ref (q_ad E a0)), (1, .ref (q_ad E a1)), (2, .int a2), (3, .int a3)]) hx hb dX5_runGift_20 hl (by decide) rfl (fun ls hl => ?_)
  refine lv_aload_n hx hb dX5_runGift_22 rfl (lv_at hl 3 rfl) ?_
  refine q_getR C hj lk_X5_60 dX5_runGift_23 hf (fun v5 hf => ?_)
  refine lv_iload_n hx hb dX5_runGift_26 rfl (lv_at hl 4 rfl) ?_
  refine lv_iconst (v := 2) hx hb dX5_runGift_27 qi_2 ?_
  refine q_cVRI C hj cw_X5_41 (As := [.int a2, .int 2]) (rest := []) hf (fun v9 h9 => c_X8_get l E h9) rfl hl rfl rfl rfl dX5_runGift_28 ⟨Nat.zero_le _, Nat.zero_le _⟩ (fun v6 hf => ?_)
  refine lv_istore (lv' := [(6, .int v6), (5, .int v4), (4, .int v2), (0, .ref (q_ad E a0)), (1, .ref (q_ad E a1)), (2, .int a2), (3, .int a3)]) hx hb dX5_runGift_31 hl (by decide) rfl (fun ls hl => ?_)
  refine lv_aload_n hx hb dX5_runGift_33 rfl (lv_at hl 3 rfl) ?_
  refine q_getR C hj lk_X5_12 dX5_runGift_34 hf (fun v7 hf => ?_)
  refine lv_aload_n hx hb dX5_runGift_37 rfl (lv_at hl 4 rfl) ?_
  refine lv_iload_n hx hb dX5_runGift_38 rfl (lv_at hl 6 rfl) ?_
  refine lv_iload hx hb dX5_runGift_39 (lv_at hl 2 rfl) ?_
  refine lv_iload hx hb dX5_runGift_41 (lv_at hl 1 rfl) ?_
  refine lv_iload hx hb dX5_runGift_43 (lv_at hl 0 rfl) ?_
  refine q_cVRI C hj cw_X5_67 (As := [.ref (q_ad E a1), .int a3, .int v2, .int v4, .int v6]) (rest := []) hf (fun v9 h9 => c_X7_hindrance l E h9) rfl hl rfl rfl rfl dX5_runGift_45 ⟨Nat.zero_le _, Nat.zero_le _⟩ (fun v8 hf => ?_)
  refine lv_istore (lv' := [(7, .int v8), (6, .int v6), (5, .int v4), (4, .int v2), (0, .ref (q_ad E a0)), (1, .ref (q_ad E a1)), (2, .int a2), (3, .int a3)]) hx hb dX5_runGift_48 hl (by decide) rfl (fun ls hl => ?_)
  refine lv_iload hx hb dX5_runGift_50 (lv_at hl 0 rfl) ?_
  refine q_ifne C (tgt := 81) dX5_runGift_52 (by decide) hf (fun hf => ?_) (fun hf => ?_)
  · refine w_J_X5_runGift_81 C  hj (lv_sub hl [4, 5, 6, 3, 2, 1, 0] rfl) hf
  · refine lv_aload_n hx hb dX5_runGift_55 rfl (lv_at hl 4 rfl) ?_
    refine lv_aload_n hx hb dX5_runGift_56 rfl (lv_at hl 5 rfl) ?_
    refine lv_aload_n hx hb dX5_runGift_57 rfl (lv_at hl 4 rfl) ?_
    refine q_getR C hj lk_X5_12 dX5_runGift_58 hf (fun v9 hf => ?_)
    refine lv_aload_n hx hb dX5_runGift_61 rfl (lv_at hl 5 rfl) ?_
    refine lv_iload_n hx hb dX5_runGift_62 rfl (lv_at hl 7 rfl) ?_
    refine lv_iload hx hb dX5_runGift_63 (lv_at hl 3 rfl) ?_
    refine lv_iload hx hb dX5_runGift_65 (lv_at hl 2 rfl) ?_
    refine lv_iload hx hb dX5_runGift_67 (lv_at hl 1 rfl) ?_
    refine q_cVRI C hj cw_X5_71 (As := [.ref (q_ad E a1), .int a3, .int v2, .int v4, .int v6]) (rest := [.ref (q_ad E a1), .ref (q_ad E a0)]) hf (fun v9 h9 => c_X7_nearOn l E h9) rfl hl rfl rfl rfl dX5_runGift_69 ⟨Nat.zero_le _, Nat.zero_le _⟩ (fun v10 hf => ?_)
    refine q_cVWI C hj cw_X5_74 (As := [.ref (q_ad E a1), .int v10]) (rest := []) hf (fun v9 g9 h9 => c_X5_isCaught l E h9) rfl hl rfl rfl rfl dX5_runGift_72 ⟨Nat.zero_le _, Nat.zero_le _⟩ (fun v12 g11 H locs hj hf => ?_)
    refine q_ifeq C (tgt := 81) dX5_runGift_75 (by decide) hf (fun hf => ?_) (fun hf => ?_)
    · refine w_J_X5_runGift_81 C  hj (lv_sub hl [4, 5, 6, 3, 2, 1, 0] rfl) hf
    · refine lv_iconst (v := 1) hx hb dX5_runGift_78 qi_1 ?_
      refine lv_istore (lv' := [(7, .int 1), (6, .int v6), (5, .int v4), (4, .int v2), (0, .ref (q_ad E a0)), (1, .ref (q_ad E a1)), (2, .int a2), (3, .int a3)]) hx hb dX5_runGift_79 hl (by decide) rfl (fun ls hl => ?_)
      refine w_J_X5_runGift_81 C  hj (lv_sub hl [4, 5, 6, 3, 2, 1, 0] rfl) hf
def L_X5_runGifts_23 (k62 : Nat → Nat → Int32 → Int32 → qS → Option qS) : Nat → Nat → Nat → Int32 → Int32 → Int32 → qS → Option qS
  | 0, _, _, _, _, _, _ => none
  | n + 1, x0, x1, x2, x3, x4, g => (f_X3_count g x1 7).bind fun v1 => if v1 ≤ x4 then (k62 x0 x1 x2 x3 g) else ((g_R g x1 2 4).bind fun v2 => (f_X8_get g v2 x4 3).bind fun v3 => if v3 = x3 then ((f_X5_runGift g x0 x1 x4 x3).bind fun g4 => L_X5_runGifts_23 k62 n x0 x1 x2 x3 (x4 + 1) g4) else (L_X5_runGifts_23 k62 n x0 x1 x2 x3 (x4 + 1) g))
set_option maxHeartbeats 4000000 in
set_option maxRecDepth 100000 in
theorem w_L_X5_runGifts_23 {l : Launch} {E : qV} {p : Program} {e : Env} {s : State} {m : MethodId} {args : Array Value} {below : List Frame} {meth : Method} {c : Code} {k62 : Nat → Nat → Int32 → Int32 → qS → Option qS} {res : qS} (C : q_C E p s m args meth c cX5_runGifts RX5 5 none) (hk62 : ∀ (x0 : Nat) (x1 : Nat) (x2 : Int32) (x3 : Int32) (g : qS) (H : Heap) (locs : List Loc) (ls : Array Slot), q_J E s g H locs → lv_has ls 5 [(0, .ref (q_ad E x0)), (1, .ref (q_ad E x1)), (2, .int x2), (3, .int x3)] → k62 x0 x1 x2 x3 g = some res → W p l e (q_rm 5 119) s m args below meth c H locs 0 0 (q_ZW E below none res args s) (F0 m 62 ls [])) : ∀ {n : Nat} {x0 : Nat} {x1 : Nat} {x2 : Int32} {x3 : Int32} {x4 : Int32} {g : qS} {H : Heap} {locs : List Loc} {ls : Array Slot}, q_J E s g H locs → lv_has ls 5 [(0, .ref (q_ad E x0)), (1, .ref (q_ad E x1)), (2, .int x2), (3, .int x3), (4, .int x4)] → L_X5_runGifts_23 k62 n x0 x1 x2 x3 x4 g = some res → W p l e (q_rm 5 119) s m args below meth c H locs 0 0 (q_ZW E below none res args s) (F0 m 23 ls []) := by
  have hx := C.1
  have hb := C.2.1
  intro n
  induction n with
  | zero =>
    intro x0 x1 x2 x3 x4 g H locs ls hj hl hf
    cases hf
  | succ n ih_ =>
    intro x0 x1 x2 x3 x4 g H locs ls hj hl hf
    have ih : ∀ (x0 : Nat) (x1 : Nat) (x2 : Int32) (x3 : Int32) (x4 : Int32) (g : qS) (H : Heap) (locs : List Loc) (ls : Array Slot), q_J E s g H locs → lv_has ls 5 [(0, .ref (q_ad E x0)), (1, .ref (q_ad E x1)), (2, .int x2), (3, .int x3), (4, .int x4)] → L_X5_runGifts_23 k62 n x0 x1 x2 x3 x4 g = some res → W p l e (q_rm 5 119) s m args below meth c H locs 0 0 (q_ZW E below none res args s) (F0 m 23 ls []) := fun x0 x1 x2 x3 x4 g H locs ls hj hl hf => ih_ hj hl hf
    unfold L_X5_runGifts_23 at hf
    refine lv_iload hx hb dX5_runGifts_23 (lv_at hl 4 rfl) ?_
    refine lv_aload_n hx hb dX5_runGifts_25 rfl (lv_at hl 1 rfl) ?_
    refine lv_bipush (v := 7) hx hb dX5_runGifts_26 (by decide) ?_
    refine q_cVRI C hj cw_X5_31 (As := [.int 7]) (rest := [.int x4]) hf (fun v9 h9 => c_X3_count l E h9) rfl hl rfl rfl rfl dX5_runGifts_28 ⟨Nat.zero_le _, Nat.zero_le _⟩ (fun v1 hf => ?_)
    refine q_icge C (tgt := 62) dX5_runGifts_31 (by decide) hf (fun hf => ?_) (fun hf => ?_)
    · exact hk62 _ _ _ _ _ _ _ ls hj (lv_sub hl [0, 1, 2, 3] rfl) hf
    · refine lv_aload_n hx hb dX5_runGifts_34 rfl (lv_at hl 1 rfl) ?_
      refine q_getR C hj lk_X5_60 dX5_runGifts_35 hf (fun v2 hf => ?_)
      refine lv_iload hx hb dX5_runGifts_38 (lv_at hl 4 rfl) ?_
      refine lv_iconst (v := 3) hx hb dX5_runGifts_40 qi_3 ?_
      refine q_cVRI C hj cw_X5_41 (As := [.int x4, .int 3]) (rest := []) hf (fun v9 h9 => c_X8_get l E h9) rfl hl rfl rfl rfl dX5_runGifts_41 ⟨Nat.zero_le _, Nat.zero_le _⟩ (fun v3 hf => ?_)
      refine lv_iload_n hx hb dX5_runGifts_44 rfl (lv_at hl 3 rfl) ?_
      refine q_icne C (tgt := 56) dX5_runGifts_45 (by decide) hf (fun hf => ?_) (fun hf => ?_)
      · refine lv_iinc (v := x4 + 1) (lv' := [(4, .int (x4 + 1)), (0, .ref (q_ad E x0)), (1, .ref (q_ad E x1)), (2, .int x2), (3, .int x3)]) hx hb dX5_runGifts_56 hl (k := 4) rfl (by rw [qi_1]) (by decide) rfl (fun ls hl => ?_)
        refine lv_goto (tgt := 23) hx hb dX5_runGifts_59 (by decide) ?_
        exact ih _ _ _ _ _ _ _ _ ls hj (lv_sub hl [1, 2, 3, 4, 0] rfl) hf
      · refine lv_aload_n hx hb dX5_runGifts_48 rfl (lv_at hl 0 rfl) ?_
        refine lv_aload_n hx hb dX5_runGifts_49 rfl (lv_at hl 1 rfl) ?_
        refine lv_iload hx hb dX5_runGifts_50 (lv_at hl 4 rfl) ?_
        refine lv_iload_n hx hb dX5_runGifts_52 rfl (lv_at hl 3 rfl) ?_
        refine q_cVWV C hj cw_X5_63 (As := [.ref (q_ad E x1), .int x4, .int x3]) (rest := []) hf (fun g9 h9 => c_X5_runGift l E h9) rfl hl rfl rfl rfl dX5_runGifts_53 ⟨Nat.zero_le _, Nat.zero_le _⟩ (fun g4 H locs hj hf => ?_)
        refine lv_iinc (v := x4 + 1) (lv' := [(4, .int (x4 + 1)), (0, .ref (q_ad E x0)), (1, .ref (q_ad E x1)), (2, .int x2), (3, .int x3)]) hx hb dX5_runGifts_56 hl (k := 4) rfl (by rw [qi_1]) (by decide) rfl (fun ls hl => ?_)
        refine lv_goto (tgt := 23) hx hb dX5_runGifts_59 (by decide) ?_
        exact ih _ _ _ _ _ _ _ _ ls hj (lv_sub hl [1, 2, 3, 4, 0] rfl) hf
def L_X5_runGifts_9  : Nat → Nat → Nat → Int32 → Int32 → qS → Option qS
  | 0, _, _, _, _, _ => none
  | n + 1, x0, x1, x2, x3, g => if x2 < x3 then (some g) else (if 7 ≤ x3 then (some g) else (L_X5_runGifts_23 (fun y1 y2 y3 y4 g5 => L_X5_runGifts_9 n y1 y2 y3 (y4 + 1) g5) 1000000000 x0 x1 x2 x3 0 g))
set_option maxHeartbeats 4000000 in
set_option maxRecDepth 100000 in
theorem w_L_X5_runGifts_9 {l : Launch} {E : qV} {p : Program} {e : Env} {s : State} {m : MethodId} {args : Array Value} {below : List Frame} {meth : Method} {c : Code}  {res : qS} (C : q_C E p s m args meth c cX5_runGifts RX5 5 none)  : ∀ {n : Nat} {x0 : Nat} {x1 : Nat} {x2 : Int32} {x3 : Int32} {g : qS} {H : Heap} {locs : List Loc} {ls : Array Slot}, q_J E s g H locs → lv_has ls 5 [(0, .ref (q_ad E x0)), (1, .ref (q_ad E x1)), (2, .int x2), (3, .int x3)] → L_X5_runGifts_9 n x0 x1 x2 x3 g = some res → W p l e (q_rm 5 119) s m args below meth c H locs 0 0 (q_ZW E below none res args s) (F0 m 9 ls []) := by
  have hx := C.1
  have hb := C.2.1
  intro n
  induction n with
  | zero =>
    intro x0 x1 x2 x3 g H locs ls hj hl hf
    cases hf
  | succ n ih_ =>
    intro x0 x1 x2 x3 g H locs ls hj hl hf
    have ih : ∀ (x0 : Nat) (x1 : Nat) (x2 : Int32) (x3 : Int32) (g : qS) (H : Heap) (locs : List Loc) (ls : Array Slot), q_J E s g H locs → lv_has ls 5 [(0, .ref (q_ad E x0)), (1, .ref (q_ad E x1)), (2, .int x2), (3, .int x3)] → L_X5_runGifts_9 n x0 x1 x2 x3 g = some res → W p l e (q_rm 5 119) s m args below meth c H locs 0 0 (q_ZW E below none res args s) (F0 m 9 ls []) := fun x0 x1 x2 x3 g H locs ls hj hl hf => ih_ hj hl hf
    unfold L_X5_runGifts_9 at hf
    refine lv_iload_n hx hb dX5_runGifts_9 rfl (lv_at hl 3 rfl) ?_
    refine lv_iload_n hx hb dX5_runGifts_10 rfl (lv_at hl 2 rfl) ?_
    refine q_icgt C (tgt := 68) dX5_runGifts_11 (by decide) hf (fun hf => ?_) (fun hf => ?_)
    · exact q_vretW C hj dX5_runGifts_68 hf
    · refine lv_iload_n hx hb dX5_runGifts_14 rfl (lv_at hl 3 rfl) ?_
      refine lv_bipush (v := 7) hx hb dX5_runGifts_15 (by decide) ?_
      refine q_icge C (tgt := 68) dX5_runGifts_17 (by decide) hf (fun hf => ?_) (fun hf => ?_)
      · exact q_vretW C hj dX5_runGifts_68 hf
      · refine lv_iconst (v := 0) hx hb dX5_runGifts_20 qi_0 ?_
        refine lv_istore (lv' := [(4, .int 0), (0, .ref (q_ad E x0)), (1, .ref (q_ad E x1)), (2, .int x2), (3, .int x3)]) hx hb dX5_runGifts_21 hl (by decide) rfl (fun ls hl => ?_)
        refine w_L_X5_runGifts_23 C (fun y1 y2 y3 y4 g5 H locs ls hj hl hf => ?_) hj (lv_sub hl [1, 2, 3, 4, 0] rfl) hf
        · refine lv_iinc (v := y4 + 1) (lv' := [(3, .int (y4 + 1)), (0, .ref (q_ad E y1)), (1, .ref (q_ad E y2)), (2, .int y3)]) hx hb dX5_runGifts_62 hl (k := 3) rfl (by rw [qi_1]) (by decide) rfl (fun ls hl => ?_)
          refine lv_goto (tgt := 9) hx hb dX5_runGifts_65 (by decide) ?_
          exact ih _ _ _ _ _ _ _ ls hj (lv_sub hl [1, 2, 3, 0] rfl) hf
def f_X5_runGifts (g : qS) (a0 : Nat) (a1 : Nat) (a2 : Int32) : Option qS := (g_C g a0 4).bind fun _ => (g_R g a0 4 0).bind fun v1 => (f_X7_begin g v1).bind fun g2 => L_X5_runGifts_9 1000000000 a0 a1 a2 0 g2
set_option maxHeartbeats 4000000 in
set_option maxRecDepth 100000 in
theorem c_X5_runGifts (l : Launch) (E : qV) {g : qS} {a0 : Nat} {a1 : Nat} {a2 : Int32} {res : qS} (hf : f_X5_runGifts g a0 a1 a2 = some res) : q_MW l yX5_runGifts cX5_runGifts 5 none 5 119 E [.ref (q_ad E a0), .ref (q_ad E a1), .int a2] g none res ∧ ∃ fs, g a0 = some (.inr (4, fs)) := by
  unfold f_X5_runGifts at hf
  obtain ⟨u9, hu9, hf⟩ := q_ob hf
  refine ⟨q_ofW (by decide) rfl ?_, g_C_sp hu9⟩
  intro p e s m args below meth c ls C hj hl
  have hx := C.1
  have hb := C.2.1
  have C : q_C E p s m args meth c cX5_runGifts RX5 5 none := C
  have hl : lv_has ls 5 [(0, .ref (q_ad E a0)), (1, .ref (q_ad E a1)), (2, .int a2)] := hl
  refine lv_aload_n hx hb dX5_runGifts_0 rfl (lv_at hl 0 rfl) ?_
  refine q_getR C hj lk_X5_12 dX5_runGifts_1 hf (fun v1 hf => ?_)
  refine q_cVWV C hj cw_X5_57 (As := []) (rest := []) hf (fun g9 h9 => c_X7_begin l E h9) rfl hl rfl rfl rfl dX5_runGifts_4 ⟨Nat.zero_le _, Nat.zero_le _⟩ (fun g2 H locs hj hf => ?_)
  refine lv_iconst (v := 0) hx hb dX5_runGifts_7 qi_0 ?_
  refine lv_istore_n (lv' := [(3, .int 0), (0, .ref (q_ad E a0)), (1, .ref (q_ad E a1)), (2, .int a2)]) hx hb dX5_runGifts_8 rfl hl (by decide) rfl (fun ls hl => ?_)
  refine w_L_X5_runGifts_9 C  hj (lv_sub hl [1, 2, 3, 0] rfl) hf
def f_X5_runAll (g : qS) (a0 : Nat) (a1 : Nat) : Option qS := (g_C g a0 4).bind fun _ => (p_I g a0 4 2 (-1)).bind fun g1 => (f_X3_count g1 a1 0).bind fun v2 => (f_X5_runGifts g1 a0 a1 (v2 - 1)).bind fun g3 => some g3
set_option maxHeartbeats 4000000 in
set_option maxRecDepth 100000 in
theorem c_X5_runAll (l : Launch) (E : qV) {g : qS} {a0 : Nat} {a1 : Nat} {res : qS} (hf : f_X5_runAll g a0 a1 = some res) : q_MW l yX5_runAll cX5_runAll 2 none 6 143 E [.ref (q_ad E a0), .ref (q_ad E a1)] g none res ∧ ∃ fs, g a0 = some (.inr (4, fs)) := by
  unfold f_X5_runAll at hf
  obtain ⟨u9, hu9, hf⟩ := q_ob hf
  refine ⟨q_ofW (by decide) rfl ?_, g_C_sp hu9⟩
  intro p e s m args below meth c ls C hj hl
  have hx := C.1
  have hb := C.2.1
  have C : q_C E p s m args meth c cX5_runAll RX5 2 none := C
  have hl : lv_has ls 2 [(0, .ref (q_ad E a0)), (1, .ref (q_ad E a1))] := hl
  refine lv_aload_n hx hb dX5_runAll_0 rfl (lv_at hl 0 rfl) ?_
  refine lv_iconst (v := -1) hx hb dX5_runAll_1 qi_m1 ?_
  refine q_putI C hj fp_X5_27 dX5_runAll_2 hf (fun g1 H locs hj hf => ?_)
  refine lv_aload_n hx hb dX5_runAll_5 rfl (lv_at hl 0 rfl) ?_
  refine lv_aload_n hx hb dX5_runAll_6 rfl (lv_at hl 1 rfl) ?_
  refine lv_aload_n hx hb dX5_runAll_7 rfl (lv_at hl 1 rfl) ?_
  refine lv_iconst (v := 0) hx hb dX5_runAll_8 qi_0 ?_
  refine q_cVRI C hj cw_X5_31 (As := [.int 0]) (rest := [.ref (q_ad E a1), .ref (q_ad E a0)]) hf (fun v9 h9 => c_X3_count l E h9) rfl hl rfl rfl rfl dX5_runAll_9 ⟨Nat.zero_le _, Nat.zero_le _⟩ (fun v2 hf => ?_)
  refine lv_iconst (v := 1) hx hb dX5_runAll_12 qi_1 ?_
  refine lv_isub hx hb dX5_runAll_13 ?_
  refine q_cVWV C hj cw_X5_37 (As := [.ref (q_ad E a1), .int (v2 - 1)]) (rest := []) hf (fun g9 h9 => c_X5_runGifts l E h9) rfl hl rfl rfl rfl dX5_runAll_14 ⟨Nat.zero_le _, Nat.zero_le _⟩ (fun g3 H locs hj hf => ?_)
  exact q_vretW C hj dX5_runAll_17 hf
def f_X5_outcomeOf (g : qS) (a0 : Nat) (a1 : Int32) : Option Int32 := (g_C g a0 4).bind fun _ => (g_R g a0 4 1).bind fun v1 => (f_X8_get g v1 0 a1).bind fun v2 => some v2
set_option maxHeartbeats 4000000 in
set_option maxRecDepth 100000 in
theorem c_X5_outcomeOf (l : Launch) (E : qV) {g : qS} {a0 : Nat} {a1 : Int32} {res : Int32} (hf : f_X5_outcomeOf g a0 a1 = some res) : q_MR l yX5_outcomeOf cX5_outcomeOf 2 (some .int) 1 23 E [.ref (q_ad E a0), .int a1] g (some (.int res)) ∧ ∃ fs, g a0 = some (.inr (4, fs)) := by
  unfold f_X5_outcomeOf at hf
  obtain ⟨u9, hu9, hf⟩ := q_ob hf
  refine ⟨q_ofR (by decide) rfl ?_, g_C_sp hu9⟩
  intro p e s m args below meth c ls C hw hl
  have hj : q_J E s g s.heap [] := ⟨hw, va_S.rf⟩
  have hx := C.1
  have hb := C.2.1
  have C : q_C E p s m args meth c cX5_outcomeOf RX5 2 (some .int) := C
  have hl : lv_has ls 2 [(0, .ref (q_ad E a0)), (1, .int a1)] := hl
  refine lv_aload_n hx hb dX5_outcomeOf_0 rfl (lv_at hl 0 rfl) ?_
  refine q_getR C hj lk_X5_23 dX5_outcomeOf_1 hf (fun v1 hf => ?_)
  refine lv_iconst (v := 0) hx hb dX5_outcomeOf_4 qi_0 ?_
  refine lv_iload_n hx hb dX5_outcomeOf_5 rfl (lv_at hl 1 rfl) ?_
  refine q_cVRI C hj cw_X5_41 (As := [.int 0, .int a1]) (rest := []) hf (fun v9 h9 => c_X8_get l E h9) rfl hl rfl rfl rfl dX5_outcomeOf_6 ⟨Nat.zero_le _, Nat.zero_le _⟩ (fun v2 hf => ?_)
  exact q_iretR C dX5_outcomeOf_9 hf
def f_X5_runThrough (g : qS) (a0 : Nat) (a1 : Nat) (a2 : Int32) : Option qS := (g_C g a0 4).bind fun _ => (p_I g a0 4 2 (-1)).bind fun g1 => (f_X5_runGifts g1 a0 a1 a2).bind fun g2 => some g2
set_option maxHeartbeats 4000000 in
set_option maxRecDepth 100000 in
theorem c_X5_runThrough (l : Launch) (E : qV) {g : qS} {a0 : Nat} {a1 : Nat} {a2 : Int32} {res : qS} (hf : f_X5_runThrough g a0 a1 a2 = some res) : q_MW l yX5_runThrough cX5_runThrough 3 none 6 143 E [.ref (q_ad E a0), .ref (q_ad E a1), .int a2] g none res ∧ ∃ fs, g a0 = some (.inr (4, fs)) := by
  unfold f_X5_runThrough at hf
  obtain ⟨u9, hu9, hf⟩ := q_ob hf
  refine ⟨q_ofW (by decide) rfl ?_, g_C_sp hu9⟩
  intro p e s m args below meth c ls C hj hl
  have hx := C.1
  have hb := C.2.1
  have C : q_C E p s m args meth c cX5_runThrough RX5 3 none := C
  have hl : lv_has ls 3 [(0, .ref (q_ad E a0)), (1, .ref (q_ad E a1)), (2, .int a2)] := hl
  refine lv_aload_n hx hb dX5_runThrough_0 rfl (lv_at hl 0 rfl) ?_
  refine lv_iconst (v := -1) hx hb dX5_runThrough_1 qi_m1 ?_
  refine q_putI C hj fp_X5_27 dX5_runThrough_2 hf (fun g1 H locs hj hf => ?_)
  refine lv_aload_n hx hb dX5_runThrough_5 rfl (lv_at hl 0 rfl) ?_
  refine lv_aload_n hx hb dX5_runThrough_6 rfl (lv_at hl 1 rfl) ?_
  refine lv_iload_n hx hb dX5_runThrough_7 rfl (lv_at hl 2 rfl) ?_
  refine q_cVWV C hj cw_X5_37 (As := [.ref (q_ad E a1), .int a2]) (rest := []) hf (fun g9 h9 => c_X5_runGifts l E h9) rfl hl rfl rfl rfl dX5_runThrough_8 ⟨Nat.zero_le _, Nat.zero_le _⟩ (fun g2 H locs hj hf => ?_)
  exact q_vretW C hj dX5_runThrough_11 hf
def f_X5_thingsOf (g : qS) (a0 : Nat) (a1 : Int32) : Option Int32 := (g_C g a0 4).bind fun _ => (g_R g a0 4 0).bind fun v1 => (f_X7_thingsOf g v1 a1).bind fun v2 => some v2
set_option maxHeartbeats 4000000 in
set_option maxRecDepth 100000 in
theorem c_X5_thingsOf (l : Launch) (E : qV) {g : qS} {a0 : Nat} {a1 : Int32} {res : Int32} (hf : f_X5_thingsOf g a0 a1 = some res) : q_MR l yX5_thingsOf cX5_thingsOf 2 (some .int) 2 46 E [.ref (q_ad E a0), .int a1] g (some (.int res)) ∧ ∃ fs, g a0 = some (.inr (4, fs)) := by
  unfold f_X5_thingsOf at hf
  obtain ⟨u9, hu9, hf⟩ := q_ob hf
  refine ⟨q_ofR (by decide) rfl ?_, g_C_sp hu9⟩
  intro p e s m args below meth c ls C hw hl
  have hj : q_J E s g s.heap [] := ⟨hw, va_S.rf⟩
  have hx := C.1
  have hb := C.2.1
  have C : q_C E p s m args meth c cX5_thingsOf RX5 2 (some .int) := C
  have hl : lv_has ls 2 [(0, .ref (q_ad E a0)), (1, .int a1)] := hl
  refine lv_aload_n hx hb dX5_thingsOf_0 rfl (lv_at hl 0 rfl) ?_
  refine q_getR C hj lk_X5_12 dX5_thingsOf_1 hf (fun v1 hf => ?_)
  refine lv_iload_n hx hb dX5_thingsOf_4 rfl (lv_at hl 1 rfl) ?_
  refine q_cVRI C hj cw_X5_45 (As := [.int a1]) (rest := []) hf (fun v9 h9 => c_X7_thingsOf l E h9) rfl hl rfl rfl rfl dX5_thingsOf_5 ⟨Nat.zero_le _, Nat.zero_le _⟩ (fun v2 hf => ?_)
  exact q_iretR C dX5_thingsOf_8 hf
def f_X5_scoreOf (g : qS) (a0 : Nat) (a1 : Int32) : Option Int32 := (g_C g a0 4).bind fun _ => (g_R g a0 4 0).bind fun v1 => (f_X7_scoreOf g v1 a1).bind fun v2 => some v2
set_option maxHeartbeats 4000000 in
set_option maxRecDepth 100000 in
theorem c_X5_scoreOf (l : Launch) (E : qV) {g : qS} {a0 : Nat} {a1 : Int32} {res : Int32} (hf : f_X5_scoreOf g a0 a1 = some res) : q_MR l yX5_scoreOf cX5_scoreOf 2 (some .int) 2 44 E [.ref (q_ad E a0), .int a1] g (some (.int res)) ∧ ∃ fs, g a0 = some (.inr (4, fs)) := by
  unfold f_X5_scoreOf at hf
  obtain ⟨u9, hu9, hf⟩ := q_ob hf
  refine ⟨q_ofR (by decide) rfl ?_, g_C_sp hu9⟩
  intro p e s m args below meth c ls C hw hl
  have hj : q_J E s g s.heap [] := ⟨hw, va_S.rf⟩
  have hx := C.1
  have hb := C.2.1
  have C : q_C E p s m args meth c cX5_scoreOf RX5 2 (some .int) := C
  have hl : lv_has ls 2 [(0, .ref (q_ad E a0)), (1, .int a1)] := hl
  refine lv_aload_n hx hb dX5_scoreOf_0 rfl (lv_at hl 0 rfl) ?_
  refine q_getR C hj lk_X5_12 dX5_scoreOf_1 hf (fun v1 hf => ?_)
  refine lv_iload_n hx hb dX5_scoreOf_4 rfl (lv_at hl 1 rfl) ?_
  refine q_cVRI C hj cw_X5_51 (As := [.int a1]) (rest := []) hf (fun v9 h9 => c_X7_scoreOf l E h9) rfl hl rfl rfl rfl dX5_scoreOf_5 ⟨Nat.zero_le _, Nat.zero_le _⟩ (fun v2 hf => ?_)
  exact q_iretR C dX5_scoreOf_8 hf
def f_X5_holder (g : qS) (a0 : Nat) (a1 : Int32) : Option Int32 := (g_C g a0 4).bind fun _ => (g_R g a0 4 0).bind fun v1 => (f_X7_holder g v1 a1).bind fun v2 => some v2
set_option maxHeartbeats 4000000 in
set_option maxRecDepth 100000 in
theorem c_X5_holder (l : Launch) (E : qV) {g : qS} {a0 : Nat} {a1 : Int32} {res : Int32} (hf : f_X5_holder g a0 a1 = some res) : q_MR l yX5_holder cX5_holder 2 (some .int) 2 44 E [.ref (q_ad E a0), .int a1] g (some (.int res)) ∧ ∃ fs, g a0 = some (.inr (4, fs)) := by
  unfold f_X5_holder at hf
  obtain ⟨u9, hu9, hf⟩ := q_ob hf
  refine ⟨q_ofR (by decide) rfl ?_, g_C_sp hu9⟩
  intro p e s m args below meth c ls C hw hl
  have hj : q_J E s g s.heap [] := ⟨hw, va_S.rf⟩
  have hx := C.1
  have hb := C.2.1
  have C : q_C E p s m args meth c cX5_holder RX5 2 (some .int) := C
  have hl : lv_has ls 2 [(0, .ref (q_ad E a0)), (1, .int a1)] := hl
  refine lv_aload_n hx hb dX5_holder_0 rfl (lv_at hl 0 rfl) ?_
  refine q_getR C hj lk_X5_12 dX5_holder_1 hf (fun v1 hf => ?_)
  refine lv_iload_n hx hb dX5_holder_4 rfl (lv_at hl 1 rfl) ?_
  refine q_cVRI C hj cw_X5_48 (As := [.int a1]) (rest := []) hf (fun v9 h9 => c_X7_holder l E h9) rfl hl rfl rfl rfl dX5_holder_5 ⟨Nat.zero_le _, Nat.zero_le _⟩ (fun v2 hf => ?_)
  exact q_iretR C dX5_holder_8 hf
def f_X5_runByDraws (g : qS) (a0 : Nat) (a1 : Nat) (a2 : Int32) : Option (Int32 × qS) := (g_C g a0 4).bind fun _ => (p_I g a0 4 2 a2).bind fun g1 => (f_X3_count g1 a1 0).bind fun v2 => (f_X5_runGifts g1 a0 a1 (v2 - 1)).bind fun g3 => (g_I g3 a0 4 2).bind fun v4 => some (v4, g3)
set_option maxHeartbeats 4000000 in
set_option maxRecDepth 100000 in
theorem c_X5_runByDraws (l : Launch) (E : qV) {g : qS} {a0 : Nat} {a1 : Nat} {a2 : Int32} {res : (Int32 × qS)} (hf : f_X5_runByDraws g a0 a1 a2 = some res) : q_MW l yX5_runByDraws cX5_runByDraws 3 (some .int) 6 143 E [.ref (q_ad E a0), .ref (q_ad E a1), .int a2] g (some (.int res.1)) res.2 ∧ ∃ fs, g a0 = some (.inr (4, fs)) := by
  unfold f_X5_runByDraws at hf
  obtain ⟨u9, hu9, hf⟩ := q_ob hf
  refine ⟨q_ofW (by decide) rfl ?_, g_C_sp hu9⟩
  intro p e s m args below meth c ls C hj hl
  have hx := C.1
  have hb := C.2.1
  have C : q_C E p s m args meth c cX5_runByDraws RX5 3 (some .int) := C
  have hl : lv_has ls 3 [(0, .ref (q_ad E a0)), (1, .ref (q_ad E a1)), (2, .int a2)] := hl
  refine lv_aload_n hx hb dX5_runByDraws_0 rfl (lv_at hl 0 rfl) ?_
  refine lv_iload_n hx hb dX5_runByDraws_1 rfl (lv_at hl 2 rfl) ?_
  refine q_putI C hj fp_X5_27 dX5_runByDraws_2 hf (fun g1 H locs hj hf => ?_)
  refine lv_aload_n hx hb dX5_runByDraws_5 rfl (lv_at hl 0 rfl) ?_
  refine lv_aload_n hx hb dX5_runByDraws_6 rfl (lv_at hl 1 rfl) ?_
  refine lv_aload_n hx hb dX5_runByDraws_7 rfl (lv_at hl 1 rfl) ?_
  refine lv_iconst (v := 0) hx hb dX5_runByDraws_8 qi_0 ?_
  refine q_cVRI C hj cw_X5_31 (As := [.int 0]) (rest := [.ref (q_ad E a1), .ref (q_ad E a0)]) hf (fun v9 h9 => c_X3_count l E h9) rfl hl rfl rfl rfl dX5_runByDraws_9 ⟨Nat.zero_le _, Nat.zero_le _⟩ (fun v2 hf => ?_)
  refine lv_iconst (v := 1) hx hb dX5_runByDraws_12 qi_1 ?_
  refine lv_isub hx hb dX5_runByDraws_13 ?_
  refine q_cVWV C hj cw_X5_37 (As := [.ref (q_ad E a1), .int (v2 - 1)]) (rest := []) hf (fun g9 h9 => c_X5_runGifts l E h9) rfl hl rfl rfl rfl dX5_runByDraws_14 ⟨Nat.zero_le _, Nat.zero_le _⟩ (fun g3 H locs hj hf => ?_)
  refine lv_aload_n hx hb dX5_runByDraws_17 rfl (lv_at hl 0 rfl) ?_
  refine q_getI C hj lk_X5_27 dX5_runByDraws_18 hf (fun v4 hf => ?_)
  exact q_iretW C hj dX5_runByDraws_21 hf
def f_X5_timesCaught (g : qS) (a0 : Nat) (a1 : Int32) : Option Int32 := (g_C g a0 4).bind fun _ => (g_R g a0 4 0).bind fun v1 => (f_X7_timesCaught g v1 a1).bind fun v2 => some v2
set_option maxHeartbeats 4000000 in
set_option maxRecDepth 100000 in
theorem c_X5_timesCaught (l : Launch) (E : qV) {g : qS} {a0 : Nat} {a1 : Int32} {res : Int32} (hf : f_X5_timesCaught g a0 a1 = some res) : q_MR l yX5_timesCaught cX5_timesCaught 2 (some .int) 2 44 E [.ref (q_ad E a0), .int a1] g (some (.int res)) ∧ ∃ fs, g a0 = some (.inr (4, fs)) := by
  unfold f_X5_timesCaught at hf
  obtain ⟨u9, hu9, hf⟩ := q_ob hf
  refine ⟨q_ofR (by decide) rfl ?_, g_C_sp hu9⟩
  intro p e s m args below meth c ls C hw hl
  have hj : q_J E s g s.heap [] := ⟨hw, va_S.rf⟩
  have hx := C.1
  have hb := C.2.1
  have C : q_C E p s m args meth c cX5_timesCaught RX5 2 (some .int) := C
  have hl : lv_has ls 2 [(0, .ref (q_ad E a0)), (1, .int a1)] := hl
  refine lv_aload_n hx hb dX5_timesCaught_0 rfl (lv_at hl 0 rfl) ?_
  refine q_getR C hj lk_X5_12 dX5_timesCaught_1 hf (fun v1 hf => ?_)
  refine lv_iload_n hx hb dX5_timesCaught_4 rfl (lv_at hl 1 rfl) ?_
  refine q_cVRI C hj cw_X5_54 (As := [.int a1]) (rest := []) hf (fun v9 h9 => c_X7_timesCaught l E h9) rfl hl rfl rfl rfl dX5_timesCaught_5 ⟨Nat.zero_le _, Nat.zero_le _⟩ (fun v2 hf => ?_)
  exact q_iretR C dX5_timesCaught_8 hf
def f_X7_saveTo (g : qS) (a0 : Nat) (a1 : Nat) (a2 : Int32) : Option qS := (g_C g a0 6).bind fun _ => (g_R g a0 6 0).bind fun v1 => (f_X8_copyRow g a1 a2 v1 0).bind fun g2 => some g2
set_option maxHeartbeats 4000000 in
set_option maxRecDepth 100000 in
theorem c_X7_saveTo (l : Launch) (E : qV) {g : qS} {a0 : Nat} {a1 : Nat} {a2 : Int32} {res : qS} (hf : f_X7_saveTo g a0 a1 a2 = some res) : q_MW l yX7_saveTo cX7_saveTo 3 none 2 48 E [.ref (q_ad E a0), .ref (q_ad E a1), .int a2] g none res ∧ ∃ fs, g a0 = some (.inr (6, fs)) := by
  unfold f_X7_saveTo at hf
  obtain ⟨u9, hu9, hf⟩ := q_ob hf
  refine ⟨q_ofW (by decide) rfl ?_, g_C_sp hu9⟩
  intro p e s m args below meth c ls C hj hl
  have hx := C.1
  have hb := C.2.1
  have C : q_C E p s m args meth c cX7_saveTo RX7 3 none := C
  have hl : lv_has ls 3 [(0, .ref (q_ad E a0)), (1, .ref (q_ad E a1)), (2, .int a2)] := hl
  refine lv_aload_n hx hb dX7_saveTo_0 rfl (lv_at hl 1 rfl) ?_
  refine lv_iload_n hx hb dX7_saveTo_1 rfl (lv_at hl 2 rfl) ?_
  refine lv_aload_n hx hb dX7_saveTo_2 rfl (lv_at hl 0 rfl) ?_
  refine q_getR C hj lk_X7_16 dX7_saveTo_3 hf (fun v1 hf => ?_)
  refine lv_iconst (v := 0) hx hb dX7_saveTo_6 qi_0 ?_
  refine q_cVWV C hj cw_X7_31 (As := [.int a2, .ref (q_ad E v1), .int 0]) (rest := []) hf (fun g9 h9 => c_X8_copyRow l E h9) rfl hl rfl rfl rfl dX7_saveTo_7 ⟨Nat.zero_le _, Nat.zero_le _⟩ (fun g2 H locs hj hf => ?_)
  exact q_vretW C hj dX7_saveTo_10 hf
def f_X4_keep (g : qS) (a0 : Nat) (a1 : Nat) : Option qS := (g_C g a0 3).bind fun _ => (g_R g a0 3 0).bind fun v1 => (g_I g a0 3 2).bind fun v2 => (f_X7_saveTo g a1 v1 v2).bind fun g3 => (g_I g3 a0 3 2).bind fun v4 => if (16 : Int32) = 0 then none else ((p_I g3 a0 3 2 ((v4 + 1) - (v4 + 1) / 16 * 16)).bind fun g5 => (g_I g5 a0 3 3).bind fun v6 => (p_I g5 a0 3 3 (q_mn 16 (v6 + 1))).bind fun g7 => some g7)
set_option maxHeartbeats 4000000 in
set_option maxRecDepth 100000 in
theorem c_X4_keep (l : Launch) (E : qV) {g : qS} {a0 : Nat} {a1 : Nat} {res : qS} (hf : f_X4_keep g a0 a1 = some res) : q_MW l yX4_keep cX4_keep 2 none 3 70 E [.ref (q_ad E a0), .ref (q_ad E a1)] g none res ∧ ∃ fs, g a0 = some (.inr (3, fs)) := by
  unfold f_X4_keep at hf
  obtain ⟨u9, hu9, hf⟩ := q_ob hf
  refine ⟨q_ofW (by decide) rfl ?_, g_C_sp hu9⟩
  intro p e s m args below meth c ls C hj hl
  have hx := C.1
  have hb := C.2.1
  have C : q_C E p s m args meth c cX4_keep RX4 2 none := C
  have hl : lv_has ls 2 [(0, .ref (q_ad E a0)), (1, .ref (q_ad E a1))] := hl
  refine lv_aload_n hx hb dX4_keep_0 rfl (lv_at hl 1 rfl) ?_
  refine lv_aload_n hx hb dX4_keep_1 rfl (lv_at hl 0 rfl) ?_
  refine q_getR C hj lk_X4_18 dX4_keep_2 hf (fun v1 hf => ?_)
  refine lv_aload_n hx hb dX4_keep_5 rfl (lv_at hl 0 rfl) ?_
  refine q_getI C hj lk_X4_25 dX4_keep_6 hf (fun v2 hf => ?_)
  refine q_cVWV C hj cw_X4_35 (As := [.ref (q_ad E v1), .int v2]) (rest := []) hf (fun g9 h9 => c_X7_saveTo l E h9) rfl hl rfl rfl rfl dX4_keep_9 ⟨Nat.zero_le _, Nat.zero_le _⟩ (fun g3 H locs hj hf => ?_)
  refine lv_aload_n hx hb dX4_keep_12 rfl (lv_at hl 0 rfl) ?_
  refine lv_aload_n hx hb dX4_keep_13 rfl (lv_at hl 0 rfl) ?_
  refine q_getI C hj lk_X4_25 dX4_keep_14 hf (fun v4 hf => ?_)
  refine lv_iconst (v := 1) hx hb dX4_keep_17 qi_1 ?_
  refine lv_iadd hx hb dX4_keep_18 ?_
  refine lv_bipush (v := 16) hx hb dX4_keep_19 (by decide) ?_
  refine q_irem C dX4_keep_21 hf (fun hf => ?_)
  refine q_putI C hj fp_X4_25 dX4_keep_22 hf (fun g5 H locs hj hf => ?_)
  refine lv_aload_n hx hb dX4_keep_25 rfl (lv_at hl 0 rfl) ?_
  refine lv_bipush (v := 16) hx hb dX4_keep_26 (by decide) ?_
  refine lv_aload_n hx hb dX4_keep_28 rfl (lv_at hl 0 rfl) ?_
  refine q_getI C hj lk_X4_29 dX4_keep_29 hf (fun v6 hf => ?_)
  refine lv_iconst (v := 1) hx hb dX4_keep_32 qi_1 ?_
  refine lv_iadd hx hb dX4_keep_33 ?_
  refine q_min C (q_ml_X4_39) rfl hl dX4_keep_34 ?_
  refine q_putI C hj fp_X4_29 dX4_keep_37 hf (fun g7 H locs hj hf => ?_)
  exact q_vretW C hj dX4_keep_40 hf
def f_X7_goOn (g : qS) (a0 : Nat) (a1 : Int32) : Option qS := (g_C g a0 6).bind fun _ => (f_X7_today g a0).bind fun v1 => (g_R g a0 6 0).bind fun v2 => if a1 ≤ (v1 + 1) then ((f_X8_set g v2 0 15 0).bind fun g3 => some g3) else ((f_X8_set g v2 0 15 (v1 + 1)).bind fun g4 => some g4)
set_option maxHeartbeats 4000000 in
set_option maxRecDepth 100000 in
theorem c_X7_goOn (l : Launch) (E : qV) {g : qS} {a0 : Nat} {a1 : Int32} {res : qS} (hf : f_X7_goOn g a0 a1 = some res) : q_MW l yX7_goOn cX7_goOn 3 none 2 43 E [.ref (q_ad E a0), .int a1] g none res ∧ ∃ fs, g a0 = some (.inr (6, fs)) := by
  unfold f_X7_goOn at hf
  obtain ⟨u9, hu9, hf⟩ := q_ob hf
  refine ⟨q_ofW (by decide) rfl ?_, g_C_sp hu9⟩
  intro p e s m args below meth c ls C hj hl
  have hx := C.1
  have hb := C.2.1
  have C : q_C E p s m args meth c cX7_goOn RX7 3 none := C
  have hl : lv_has ls 3 [(0, .ref (q_ad E a0)), (1, .int a1)] := hl
  refine lv_aload_n hx hb dX7_goOn_0 rfl (lv_at hl 0 rfl) ?_
  refine q_cVRI C hj cw_X7_88 (As := []) (rest := []) hf (fun v9 h9 => c_X7_today l E h9) rfl hl rfl rfl rfl dX7_goOn_1 ⟨Nat.zero_le _, Nat.zero_le _⟩ (fun v1 hf => ?_)
  refine lv_iconst (v := 1) hx hb dX7_goOn_4 qi_1 ?_
  refine lv_iadd hx hb dX7_goOn_5 ?_
  refine lv_istore_n (lv' := [(2, .int (v1 + 1)), (0, .ref (q_ad E a0)), (1, .int a1)]) hx hb dX7_goOn_6 rfl hl (by decide) rfl (fun ls hl => ?_)
  refine lv_aload_n hx hb dX7_goOn_7 rfl (lv_at hl 1 rfl) ?_
  refine q_getR C hj lk_X7_16 dX7_goOn_8 hf (fun v2 hf => ?_)
  refine lv_iconst (v := 0) hx hb dX7_goOn_11 qi_0 ?_
  refine lv_bipush (v := 15) hx hb dX7_goOn_12 (by decide) ?_
  refine lv_iload_n hx hb dX7_goOn_14 rfl (lv_at hl 0 rfl) ?_
  refine lv_iload_n hx hb dX7_goOn_15 rfl (lv_at hl 2 rfl) ?_
  refine q_icge C (tgt := 23) dX7_goOn_16 (by decide) hf (fun hf => ?_) (fun hf => ?_)
  · refine lv_iconst (v := 0) hx hb dX7_goOn_23 qi_0 ?_
    refine q_cVWV C hj cw_X7_27 (As := [.int 0, .int 15, .int 0]) (rest := []) hf (fun g9 h9 => c_X8_set l E h9) rfl hl rfl rfl rfl dX7_goOn_24 ⟨Nat.zero_le _, Nat.zero_le _⟩ (fun g3 H locs hj hf => ?_)
    exact q_vretW C hj dX7_goOn_27 hf
  · refine lv_iload_n hx hb dX7_goOn_19 rfl (lv_at hl 0 rfl) ?_
    refine lv_goto (tgt := 24) hx hb dX7_goOn_20 (by decide) ?_
    refine q_cVWV C hj cw_X7_27 (As := [.int 0, .int 15, .int (v1 + 1)]) (rest := []) hf (fun g9 h9 => c_X8_set l E h9) rfl hl rfl rfl rfl dX7_goOn_24 ⟨Nat.zero_le _, Nat.zero_le _⟩ (fun g4 H locs hj hf => ?_)
    exact q_vretW C hj dX7_goOn_27 hf
def f_X7_sewUp (g : qS) (a0 : Nat) (a1 : Int32) : Option qS := (g_C g a0 6).bind fun _ => (g_R g a0 6 0).bind fun v1 => (f_X8_add g v1 0 (4 + a1) 1).bind fun g2 => some g2
set_option maxHeartbeats 4000000 in
set_option maxRecDepth 100000 in
theorem c_X7_sewUp (l : Launch) (E : qV) {g : qS} {a0 : Nat} {a1 : Int32} {res : qS} (hf : f_X7_sewUp g a0 a1 = some res) : q_MW l yX7_sewUp cX7_sewUp 2 none 2 47 E [.ref (q_ad E a0), .int a1] g none res ∧ ∃ fs, g a0 = some (.inr (6, fs)) := by
  unfold f_X7_sewUp at hf
  obtain ⟨u9, hu9, hf⟩ := q_ob hf
  refine ⟨q_ofW (by decide) rfl ?_, g_C_sp hu9⟩
  intro p e s m args below meth c ls C hj hl
  have hx := C.1
  have hb := C.2.1
  have C : q_C E p s m args meth c cX7_sewUp RX7 2 none := C
  have hl : lv_has ls 2 [(0, .ref (q_ad E a0)), (1, .int a1)] := hl
  refine lv_aload_n hx hb dX7_sewUp_0 rfl (lv_at hl 0 rfl) ?_
  refine q_getR C hj lk_X7_16 dX7_sewUp_1 hf (fun v1 hf => ?_)
  refine lv_iconst (v := 0) hx hb dX7_sewUp_4 qi_0 ?_
  refine lv_iconst (v := 4) hx hb dX7_sewUp_5 qi_4 ?_
  refine lv_iload_n hx hb dX7_sewUp_6 rfl (lv_at hl 1 rfl) ?_
  refine lv_iadd hx hb dX7_sewUp_7 ?_
  refine lv_iconst (v := 1) hx hb dX7_sewUp_8 qi_1 ?_
  refine q_cVWV C hj cw_X7_85 (As := [.int 0, .int (4 + a1), .int 1]) (rest := []) hf (fun g9 h9 => c_X8_add l E h9) rfl hl rfl rfl rfl dX7_sewUp_9 ⟨Nat.zero_le _, Nat.zero_le _⟩ (fun g2 H locs hj hf => ?_)
  exact q_vretW C hj dX7_sewUp_12 hf
def f_X7_loadFrom (g : qS) (a0 : Nat) (a1 : Nat) (a2 : Int32) : Option qS := (g_C g a0 6).bind fun _ => (g_R g a0 6 0).bind fun v1 => (f_X8_copyRow g v1 0 a1 a2).bind fun g2 => some g2
set_option maxHeartbeats 4000000 in
set_option maxRecDepth 100000 in
theorem c_X7_loadFrom (l : Launch) (E : qV) {g : qS} {a0 : Nat} {a1 : Nat} {a2 : Int32} {res : qS} (hf : f_X7_loadFrom g a0 a1 a2 = some res) : q_MW l yX7_loadFrom cX7_loadFrom 3 none 2 48 E [.ref (q_ad E a0), .ref (q_ad E a1), .int a2] g none res ∧ ∃ fs, g a0 = some (.inr (6, fs)) := by
  unfold f_X7_loadFrom at hf
  obtain ⟨u9, hu9, hf⟩ := q_ob hf
  refine ⟨q_ofW (by decide) rfl ?_, g_C_sp hu9⟩
  intro p e s m args below meth c ls C hj hl
  have hx := C.1
  have hb := C.2.1
  have C : q_C E p s m args meth c cX7_loadFrom RX7 3 none := C
  have hl : lv_has ls 3 [(0, .ref (q_ad E a0)), (1, .ref (q_ad E a1)), (2, .int a2)] := hl
  refine lv_aload_n hx hb dX7_loadFrom_0 rfl (lv_at hl 0 rfl) ?_
  refine q_getR C hj lk_X7_16 dX7_loadFrom_1 hf (fun v1 hf => ?_)
  refine lv_iconst (v := 0) hx hb dX7_loadFrom_4 qi_0 ?_
  refine lv_aload_n hx hb dX7_loadFrom_5 rfl (lv_at hl 1 rfl) ?_
  refine lv_iload_n hx hb dX7_loadFrom_6 rfl (lv_at hl 2 rfl) ?_
  refine q_cVWV C hj cw_X7_31 (As := [.int 0, .ref (q_ad E a1), .int a2]) (rest := []) hf (fun g9 h9 => c_X8_copyRow l E h9) rfl hl rfl rfl rfl dX7_loadFrom_7 ⟨Nat.zero_le _, Nat.zero_le _⟩ (fun g2 H locs hj hf => ?_)
  exact q_vretW C hj dX7_loadFrom_10 hf
def f_X4_takeBack (g : qS) (a0 : Nat) (a1 : Nat) : Option (Int32 × qS) := (g_C g a0 3).bind fun _ => (g_I g a0 3 3).bind fun v1 => if v1 = 0 then (some (0, g)) else ((g_I g a0 3 2).bind fun v2 => if (16 : Int32) = 0 then none else ((p_I g a0 3 2 (((v2 + 16) - 1) - ((v2 + 16) - 1) / 16 * 16)).bind fun g3 => (g_I g3 a0 3 3).bind fun v4 => (p_I g3 a0 3 3 (v4 - 1)).bind fun g5 => (g_R g5 a0 3 0).bind fun v6 => (g_I g5 a0 3 2).bind fun v7 => (f_X7_loadFrom g5 a1 v6 v7).bind fun g8 => some (1, g8)))
set_option maxHeartbeats 4000000 in
set_option maxRecDepth 100000 in
theorem c_X4_takeBack (l : Launch) (E : qV) {g : qS} {a0 : Nat} {a1 : Nat} {res : (Int32 × qS)} (hf : f_X4_takeBack g a0 a1 = some res) : q_MW l yX4_takeBack cX4_takeBack 2 (some .boolean) 3 70 E [.ref (q_ad E a0), .ref (q_ad E a1)] g (some (.int res.1)) res.2 ∧ ∃ fs, g a0 = some (.inr (3, fs)) := by
  unfold f_X4_takeBack at hf
  obtain ⟨u9, hu9, hf⟩ := q_ob hf
  refine ⟨q_ofW (by decide) rfl ?_, g_C_sp hu9⟩
  intro p e s m args below meth c ls C hj hl
  have hx := C.1
  have hb := C.2.1
  have C : q_C E p s m args meth c cX4_takeBack RX4 2 (some .boolean) := C
  have hl : lv_has ls 2 [(0, .ref (q_ad E a0)), (1, .ref (q_ad E a1))] := hl
  refine lv_aload_n hx hb dX4_takeBack_0 rfl (lv_at hl 0 rfl) ?_
  refine q_getI C hj lk_X4_29 dX4_takeBack_1 hf (fun v1 hf => ?_)
  refine q_ifne C (tgt := 9) dX4_takeBack_4 (by decide) hf (fun hf => ?_) (fun hf => ?_)
  · refine lv_aload_n hx hb dX4_takeBack_9 rfl (lv_at hl 0 rfl) ?_
    refine lv_aload_n hx hb dX4_takeBack_10 rfl (lv_at hl 0 rfl) ?_
    refine q_getI C hj lk_X4_25 dX4_takeBack_11 hf (fun v2 hf => ?_)
    refine lv_bipush (v := 16) hx hb dX4_takeBack_14 (by decide) ?_
    refine lv_iadd hx hb dX4_takeBack_16 ?_
    refine lv_iconst (v := 1) hx hb dX4_takeBack_17 qi_1 ?_
    refine lv_isub hx hb dX4_takeBack_18 ?_
    refine lv_bipush (v := 16) hx hb dX4_takeBack_19 (by decide) ?_
    refine q_irem C dX4_takeBack_21 hf (fun hf => ?_)
    refine q_putI C hj fp_X4_25 dX4_takeBack_22 hf (fun g3 H locs hj hf => ?_)
    refine lv_aload_n hx hb dX4_takeBack_25 rfl (lv_at hl 0 rfl) ?_
    refine lv_dup hx hb dX4_takeBack_26 rfl ?_
    refine q_getI C hj lk_X4_29 dX4_takeBack_27 hf (fun v4 hf => ?_)
    refine lv_iconst (v := 1) hx hb dX4_takeBack_30 qi_1 ?_
    refine lv_isub hx hb dX4_takeBack_31 ?_
    refine q_putI C hj fp_X4_29 dX4_takeBack_32 hf (fun g5 H locs hj hf => ?_)
    refine lv_aload_n hx hb dX4_takeBack_35 rfl (lv_at hl 1 rfl) ?_
    refine lv_aload_n hx hb dX4_takeBack_36 rfl (lv_at hl 0 rfl) ?_
    refine q_getR C hj lk_X4_18 dX4_takeBack_37 hf (fun v6 hf => ?_)
    refine lv_aload_n hx hb dX4_takeBack_40 rfl (lv_at hl 0 rfl) ?_
    refine q_getI C hj lk_X4_25 dX4_takeBack_41 hf (fun v7 hf => ?_)
    refine q_cVWV C hj cw_X4_45 (As := [.ref (q_ad E v6), .int v7]) (rest := []) hf (fun g9 h9 => c_X7_loadFrom l E h9) rfl hl rfl rfl rfl dX4_takeBack_44 ⟨Nat.zero_le _, Nat.zero_le _⟩ (fun g8 H locs hj hf => ?_)
    refine lv_iconst (v := 1) hx hb dX4_takeBack_47 qi_1 ?_
    exact q_z1retW C hj dX4_takeBack_48 hf
  · refine lv_iconst (v := 0) hx hb dX4_takeBack_7 qi_0 ?_
    exact q_z0retW C hj dX4_takeBack_8 hf
def f_X4_setMark (g : qS) (a0 : Nat) (a1 : Nat) : Option (Int32 × qS) := (g_C g a0 3).bind fun _ => (g_I g a0 3 4).bind fun v1 => if v1 < 3 then ((g_R g a0 3 1).bind fun v2 => (g_I g a0 3 4).bind fun v3 => (f_X7_saveTo g a1 v2 v3).bind fun g4 => (g_I g4 a0 3 4).bind fun v5 => (p_I g4 a0 3 4 (v5 + 1)).bind fun g6 => (g_I g6 a0 3 4).bind fun v7 => some (v7 - 1, g6)) else (some (-1, g))
set_option maxHeartbeats 4000000 in
set_option maxRecDepth 100000 in
theorem c_X4_setMark (l : Launch) (E : qV) {g : qS} {a0 : Nat} {a1 : Nat} {res : (Int32 × qS)} (hf : f_X4_setMark g a0 a1 = some res) : q_MW l yX4_setMark cX4_setMark 2 (some .int) 3 70 E [.ref (q_ad E a0), .ref (q_ad E a1)] g (some (.int res.1)) res.2 ∧ ∃ fs, g a0 = some (.inr (3, fs)) := by
  unfold f_X4_setMark at hf
  obtain ⟨u9, hu9, hf⟩ := q_ob hf
  refine ⟨q_ofW (by decide) rfl ?_, g_C_sp hu9⟩
  intro p e s m args below meth c ls C hj hl
  have hx := C.1
  have hb := C.2.1
  have C : q_C E p s m args meth c cX4_setMark RX4 2 (some .int) := C
  have hl : lv_has ls 2 [(0, .ref (q_ad E a0)), (1, .ref (q_ad E a1))] := hl
  refine lv_aload_n hx hb dX4_setMark_0 rfl (lv_at hl 0 rfl) ?_
  refine q_getI C hj lk_X4_32 dX4_setMark_1 hf (fun v1 hf => ?_)
  refine lv_iconst (v := 3) hx hb dX4_setMark_4 qi_3 ?_
  refine q_iclt C (tgt := 10) dX4_setMark_5 (by decide) hf (fun hf => ?_) (fun hf => ?_)
  · refine lv_aload_n hx hb dX4_setMark_10 rfl (lv_at hl 1 rfl) ?_
    refine lv_aload_n hx hb dX4_setMark_11 rfl (lv_at hl 0 rfl) ?_
    refine q_getR C hj lk_X4_22 dX4_setMark_12 hf (fun v2 hf => ?_)
    refine lv_aload_n hx hb dX4_setMark_15 rfl (lv_at hl 0 rfl) ?_
    refine q_getI C hj lk_X4_32 dX4_setMark_16 hf (fun v3 hf => ?_)
    refine q_cVWV C hj cw_X4_35 (As := [.ref (q_ad E v2), .int v3]) (rest := []) hf (fun g9 h9 => c_X7_saveTo l E h9) rfl hl rfl rfl rfl dX4_setMark_19 ⟨Nat.zero_le _, Nat.zero_le _⟩ (fun g4 H locs hj hf => ?_)
    refine lv_aload_n hx hb dX4_setMark_22 rfl (lv_at hl 0 rfl) ?_
    refine lv_dup hx hb dX4_setMark_23 rfl ?_
    refine q_getI C hj lk_X4_32 dX4_setMark_24 hf (fun v5 hf => ?_)
    refine lv_iconst (v := 1) hx hb dX4_setMark_27 qi_1 ?_
    refine lv_iadd hx hb dX4_setMark_28 ?_
    refine q_putI C hj fp_X4_32 dX4_setMark_29 hf (fun g6 H locs hj hf => ?_)
    refine lv_aload_n hx hb dX4_setMark_32 rfl (lv_at hl 0 rfl) ?_
    refine q_getI C hj lk_X4_32 dX4_setMark_33 hf (fun v7 hf => ?_)
    refine lv_iconst (v := 1) hx hb dX4_setMark_36 qi_1 ?_
    refine lv_isub hx hb dX4_setMark_37 ?_
    exact q_iretW C hj dX4_setMark_38 hf
  · refine lv_iconst (v := -1) hx hb dX4_setMark_8 qi_m1 ?_
    exact q_iretW C hj dX4_setMark_9 hf
def f_X4_goBack (g : qS) (a0 : Nat) (a1 : Int32) (a2 : Nat) : Option (Int32 × qS) := (g_C g a0 3).bind fun _ => if a1 < 0 then (some (0, g)) else ((g_I g a0 3 4).bind fun v1 => if a1 < v1 then ((g_R g a0 3 1).bind fun v2 => (f_X7_loadFrom g a2 v2 a1).bind fun g3 => (p_I g3 a0 3 3 0).bind fun g4 => some (1, g4)) else (some (0, g)))
set_option maxHeartbeats 4000000 in
set_option maxRecDepth 100000 in
theorem c_X4_goBack (l : Launch) (E : qV) {g : qS} {a0 : Nat} {a1 : Int32} {a2 : Nat} {res : (Int32 × qS)} (hf : f_X4_goBack g a0 a1 a2 = some res) : q_MW l yX4_goBack cX4_goBack 3 (some .boolean) 3 70 E [.ref (q_ad E a0), .int a1, .ref (q_ad E a2)] g (some (.int res.1)) res.2 ∧ ∃ fs, g a0 = some (.inr (3, fs)) := by
  unfold f_X4_goBack at hf
  obtain ⟨u9, hu9, hf⟩ := q_ob hf
  refine ⟨q_ofW (by decide) rfl ?_, g_C_sp hu9⟩
  intro p e s m args below meth c ls C hj hl
  have hx := C.1
  have hb := C.2.1
  have C : q_C E p s m args meth c cX4_goBack RX4 3 (some .boolean) := C
  have hl : lv_has ls 3 [(0, .ref (q_ad E a0)), (1, .int a1), (2, .ref (q_ad E a2))] := hl
  refine lv_iload_n hx hb dX4_goBack_0 rfl (lv_at hl 1 rfl) ?_
  refine q_iflt C (tgt := 12) dX4_goBack_1 (by decide) hf (fun hf => ?_) (fun hf => ?_)
  · refine lv_iconst (v := 0) hx hb dX4_goBack_12 qi_0 ?_
    exact q_z0retW C hj dX4_goBack_13 hf
  · refine lv_iload_n hx hb dX4_goBack_4 rfl (lv_at hl 1 rfl) ?_
    refine lv_aload_n hx hb dX4_goBack_5 rfl (lv_at hl 0 rfl) ?_
    refine q_getI C hj lk_X4_32 dX4_goBack_6 hf (fun v1 hf => ?_)
    refine q_iclt C (tgt := 14) dX4_goBack_9 (by decide) hf (fun hf => ?_) (fun hf => ?_)
    · refine lv_aload_n hx hb dX4_goBack_14 rfl (lv_at hl 2 rfl) ?_
      refine lv_aload_n hx hb dX4_goBack_15 rfl (lv_at hl 0 rfl) ?_
      refine q_getR C hj lk_X4_22 dX4_goBack_16 hf (fun v2 hf => ?_)
      refine lv_iload_n hx hb dX4_goBack_19 rfl (lv_at hl 1 rfl) ?_
      refine q_cVWV C hj cw_X4_45 (As := [.ref (q_ad E v2), .int a1]) (rest := []) hf (fun g9 h9 => c_X7_loadFrom l E h9) rfl hl rfl rfl rfl dX4_goBack_20 ⟨Nat.zero_le _, Nat.zero_le _⟩ (fun g3 H locs hj hf => ?_)
      refine lv_aload_n hx hb dX4_goBack_23 rfl (lv_at hl 0 rfl) ?_
      refine lv_iconst (v := 0) hx hb dX4_goBack_24 qi_0 ?_
      refine q_putI C hj fp_X4_29 dX4_goBack_25 hf (fun g4 H locs hj hf => ?_)
      refine lv_iconst (v := 1) hx hb dX4_goBack_28 qi_1 ?_
      exact q_z1retW C hj dX4_goBack_29 hf
    · refine lv_iconst (v := 0) hx hb dX4_goBack_12 qi_0 ?_
      exact q_z0retW C hj dX4_goBack_13 hf
def f_X4_actCount (g : qS) (a0 : Nat) : Option Int32 := (g_C g a0 3).bind fun _ => (g_I g a0 3 3).bind fun v1 => some v1
set_option maxHeartbeats 4000000 in
set_option maxRecDepth 100000 in
theorem c_X4_actCount (l : Launch) (E : qV) {g : qS} {a0 : Nat} {res : Int32} (hf : f_X4_actCount g a0 = some res) : q_MR l yX4_actCount cX4_actCount 1 (some .int) 0 0 E [.ref (q_ad E a0)] g (some (.int res)) ∧ ∃ fs, g a0 = some (.inr (3, fs)) := by
  unfold f_X4_actCount at hf
  obtain ⟨u9, hu9, hf⟩ := q_ob hf
  refine ⟨q_ofR (by decide) rfl ?_, g_C_sp hu9⟩
  intro p e s m args below meth c ls C hw hl
  have hj : q_J E s g s.heap [] := ⟨hw, va_S.rf⟩
  have hx := C.1
  have hb := C.2.1
  have C : q_C E p s m args meth c cX4_actCount RX4 1 (some .int) := C
  have hl : lv_has ls 1 [(0, .ref (q_ad E a0))] := hl
  refine lv_aload_n hx hb dX4_actCount_0 rfl (lv_at hl 0 rfl) ?_
  refine q_getI C hj lk_X4_29 dX4_actCount_1 hf (fun v1 hf => ?_)
  exact q_iretR C dX4_actCount_4 hf
def f_X4_markCount (g : qS) (a0 : Nat) : Option Int32 := (g_C g a0 3).bind fun _ => (g_I g a0 3 4).bind fun v1 => some v1
set_option maxHeartbeats 4000000 in
set_option maxRecDepth 100000 in
theorem c_X4_markCount (l : Launch) (E : qV) {g : qS} {a0 : Nat} {res : Int32} (hf : f_X4_markCount g a0 = some res) : q_MR l yX4_markCount cX4_markCount 1 (some .int) 0 0 E [.ref (q_ad E a0)] g (some (.int res)) ∧ ∃ fs, g a0 = some (.inr (3, fs)) := by
  unfold f_X4_markCount at hf
  obtain ⟨u9, hu9, hf⟩ := q_ob hf
  refine ⟨q_ofR (by decide) rfl ?_, g_C_sp hu9⟩
  intro p e s m args below meth c ls C hw hl
  have hj : q_J E s g s.heap [] := ⟨hw, va_S.rf⟩
  have hx := C.1
  have hb := C.2.1
  have C : q_C E p s m args meth c cX4_markCount RX4 1 (some .int) := C
  have hl : lv_has ls 1 [(0, .ref (q_ad E a0))] := hl
  refine lv_aload_n hx hb dX4_markCount_0 rfl (lv_at hl 0 rfl) ?_
  refine q_getI C hj lk_X4_32 dX4_markCount_1 hf (fun v1 hf => ?_)
  exact q_iretR C dX4_markCount_4 hf
