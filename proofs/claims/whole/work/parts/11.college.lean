def f_X3_clear (g : qS) (a0 : Nat) : Option qS := (g_C g a0 2).bind fun _ => (g_R g a0 2 9).bind fun v1 => (f_X8_fill g v1 0).bind fun g2 => (g_R g2 a0 2 7).bind fun v3 => (f_X8_fill g2 v3 (-2)).bind fun g4 => (g_R g4 a0 2 8).bind fun v5 => (f_X8_fill g4 v5 (-2)).bind fun g6 => some g6
set_option maxHeartbeats 4000000 in
set_option maxRecDepth 100000 in
theorem c_X3_clear (l : Launch) (E : qV) {g : qS} {a0 : Nat} {res : qS} (hf : f_X3_clear g a0 = some res) : q_MW l yX3_clear cX3_clear 1 none 1 22 E [.ref (q_ad E a0)] g none res ∧ ∃ fs, g a0 = some (.inr (2, fs)) := by
  unfold f_X3_clear at hf
  obtain ⟨u9, hu9, hf⟩ := q_ob hf
  refine ⟨q_ofW (by decide) rfl ?_, g_C_sp hu9⟩
  intro p e s m args below meth c ls C hj hl
  have hx := C.1
  have hb := C.2.1
  have C : q_C E p s m args meth c cX3_clear RX3 1 none := C
  have hl : lv_has ls 1 [(0, .ref (q_ad E a0))] := hl
  refine lv_aload_n hx hb dX3_clear_0 rfl (lv_at hl 0 rfl) ?_
  refine q_getR C hj lk_X3_44 dX3_clear_1 hf (fun v1 hf => ?_)
  refine lv_iconst (v := 0) hx hb dX3_clear_4 qi_0 ?_
  refine q_cVWV C hj cw_X3_47 (As := [.int 0]) (rest := []) hf (fun g9 h9 => c_X8_fill l E h9) rfl hl rfl rfl rfl dX3_clear_5 ⟨Nat.zero_le _, Nat.zero_le _⟩ (fun g2 H locs hj hf => ?_)
  refine lv_aload_n hx hb dX3_clear_8 rfl (lv_at hl 0 rfl) ?_
  refine q_getR C hj lk_X3_38 dX3_clear_9 hf (fun v3 hf => ?_)
  refine lv_bipush (v := -2) hx hb dX3_clear_12 (by decide) ?_
  refine q_cVWV C hj cw_X3_47 (As := [.int (-2)]) (rest := []) hf (fun g9 h9 => c_X8_fill l E h9) rfl hl rfl rfl rfl dX3_clear_14 ⟨Nat.zero_le _, Nat.zero_le _⟩ (fun g4 H locs hj hf => ?_)
  refine lv_aload_n hx hb dX3_clear_17 rfl (lv_at hl 0 rfl) ?_
  refine q_getR C hj lk_X3_41 dX3_clear_18 hf (fun v5 hf => ?_)
  refine lv_bipush (v := -2) hx hb dX3_clear_21 (by decide) ?_
  refine q_cVWV C hj cw_X3_47 (As := [.int (-2)]) (rest := []) hf (fun g9 h9 => c_X8_fill l E h9) rfl hl rfl rfl rfl dX3_clear_23 ⟨Nat.zero_le _, Nat.zero_le _⟩ (fun g6 H locs hj hf => ?_)
  exact q_vretW C hj dX3_clear_26 hf
def f_X3_count (g : qS) (a0 : Nat) (a1 : Int32) : Option Int32 := (g_C g a0 2).bind fun _ => (g_R g a0 2 9).bind fun v1 => (f_X8_get g v1 0 a1).bind fun v2 => some v2
set_option maxHeartbeats 4000000 in
set_option maxRecDepth 100000 in
theorem c_X3_count (l : Launch) (E : qV) {g : qS} {a0 : Nat} {a1 : Int32} {res : Int32} (hf : f_X3_count g a0 a1 = some res) : q_MR l yX3_count cX3_count 2 (some .int) 1 23 E [.ref (q_ad E a0), .int a1] g (some (.int res)) ∧ ∃ fs, g a0 = some (.inr (2, fs)) := by
  unfold f_X3_count at hf
  obtain ⟨u9, hu9, hf⟩ := q_ob hf
  refine ⟨q_ofR (by decide) rfl ?_, g_C_sp hu9⟩
  intro p e s m args below meth c ls C hw hl
  have hj : q_J E s g s.heap [] := ⟨hw, va_S.rf⟩
  have hx := C.1
  have hb := C.2.1
  have C : q_C E p s m args meth c cX3_count RX3 2 (some .int) := C
  have hl : lv_has ls 2 [(0, .ref (q_ad E a0)), (1, .int a1)] := hl
  refine lv_aload_n hx hb dX3_count_0 rfl (lv_at hl 0 rfl) ?_
  refine q_getR C hj lk_X3_44 dX3_count_1 hf (fun v1 hf => ?_)
  refine lv_iconst (v := 0) hx hb dX3_count_4 qi_0 ?_
  refine lv_iload_n hx hb dX3_count_5 rfl (lv_at hl 1 rfl) ?_
  refine q_cVRI C hj cw_X3_51 (As := [.int 0, .int a1]) (rest := []) hf (fun v9 h9 => c_X8_get l E h9) rfl hl rfl rfl rfl dX3_count_6 ⟨Nat.zero_le _, Nat.zero_le _⟩ (fun v2 hf => ?_)
  exact q_iretR C dX3_count_9 hf
def L_X3_isFound_2  (g : qS) : Nat → Nat → Int32 → Int32 → Option Int32
  | 0, _, _, _ => none
  | n + 1, x0, x1, x2 => (f_X3_count g x0 8).bind fun v1 => if v1 ≤ x2 then (some 0) else ((g_R g x0 2 5).bind fun v2 => (f_X8_get g v2 x2 0).bind fun v3 => if v3 = x1 then (some 1) else (L_X3_isFound_2 g n x0 x1 (x2 + 1)))
set_option maxHeartbeats 4000000 in
set_option maxRecDepth 100000 in
theorem w_L_X3_isFound_2 {l : Launch} {E : qV} {p : Program} {e : Env} {s : State} {m : MethodId} {args : Array Value} {below : List Frame} {meth : Method} {c : Code}  {g : qS} {res : Int32} (C : q_C E p s m args meth c cX3_isFound RX3 3 (some .boolean))  : ∀ {n : Nat} {x0 : Nat} {x1 : Int32} {x2 : Int32} {ls : Array Slot}, q_J E s g s.heap [] → lv_has ls 3 [(0, .ref (q_ad E x0)), (1, .int x1), (2, .int x2)] → L_X3_isFound_2 g n x0 x1 x2 = some res → W p l e (q_rm 2 44) s m args below meth c s.heap [] 0 0 (q_ZR below (some (.int res)) args s) (F0 m 2 ls []) := by
  have hx := C.1
  have hb := C.2.1
  intro n
  induction n with
  | zero =>
    intro x0 x1 x2 ls hj hl hf
    cases hf
  | succ n ih_ =>
    intro x0 x1 x2 ls hj hl hf
    have ih : ∀ (x0 : Nat) (x1 : Int32) (x2 : Int32) (ls : Array Slot), q_J E s g s.heap [] → lv_has ls 3 [(0, .ref (q_ad E x0)), (1, .int x1), (2, .int x2)] → L_X3_isFound_2 g n x0 x1 x2 = some res → W p l e (q_rm 2 44) s m args below meth c s.heap [] 0 0 (q_ZR below (some (.int res)) args s) (F0 m 2 ls []) := fun x0 x1 x2 ls hj hl hf => ih_ hj hl hf
    unfold L_X3_isFound_2 at hf
    refine lv_iload_n hx hb dX3_isFound_2 rfl (lv_at hl 2 rfl) ?_
    refine lv_aload_n hx hb dX3_isFound_3 rfl (lv_at hl 0 rfl) ?_
    refine lv_bipush (v := 8) hx hb dX3_isFound_4 (by decide) ?_
    refine q_cVRI C hj cw_X3_55 (As := [.int 8]) (rest := [.int x2]) hf (fun v9 h9 => c_X3_count l E h9) rfl hl rfl rfl rfl dX3_isFound_6 ⟨Nat.zero_le _, Nat.zero_le _⟩ (fun v1 hf => ?_)
    refine q_icge C (tgt := 33) dX3_isFound_9 (by decide) hf (fun hf => ?_) (fun hf => ?_)
    · refine lv_iconst (v := 0) hx hb dX3_isFound_33 qi_0 ?_
      exact q_z0retR C dX3_isFound_34 hf
    · refine lv_aload_n hx hb dX3_isFound_12 rfl (lv_at hl 0 rfl) ?_
      refine q_getR C hj lk_X3_32 dX3_isFound_13 hf (fun v2 hf => ?_)
      refine lv_iload_n hx hb dX3_isFound_16 rfl (lv_at hl 2 rfl) ?_
      refine lv_iconst (v := 0) hx hb dX3_isFound_17 qi_0 ?_
      refine q_cVRI C hj cw_X3_51 (As := [.int x2, .int 0]) (rest := []) hf (fun v9 h9 => c_X8_get l E h9) rfl hl rfl rfl rfl dX3_isFound_18 ⟨Nat.zero_le _, Nat.zero_le _⟩ (fun v3 hf => ?_)
      refine lv_iload_n hx hb dX3_isFound_21 rfl (lv_at hl 1 rfl) ?_
      refine q_icne C (tgt := 27) dX3_isFound_22 (by decide) hf (fun hf => ?_) (fun hf => ?_)
      · refine lv_iinc (v := x2 + 1) (lv' := [(2, .int (x2 + 1)), (0, .ref (q_ad E x0)), (1, .int x1)]) hx hb dX3_isFound_27 hl (k := 2) rfl (by rw [qi_1]) (by decide) rfl (fun ls hl => ?_)
        refine lv_goto (tgt := 2) hx hb dX3_isFound_30 (by decide) ?_
        exact ih _ _ _  ls hj (lv_sub hl [1, 2, 0] rfl) hf
      · refine lv_iconst (v := 1) hx hb dX3_isFound_25 qi_1 ?_
        exact q_z1retR C dX3_isFound_26 hf
def f_X3_isFound (g : qS) (a0 : Nat) (a1 : Int32) : Option Int32 := (g_C g a0 2).bind fun _ => L_X3_isFound_2 g 1000000000 a0 a1 0
set_option maxHeartbeats 4000000 in
set_option maxRecDepth 100000 in
theorem c_X3_isFound (l : Launch) (E : qV) {g : qS} {a0 : Nat} {a1 : Int32} {res : Int32} (hf : f_X3_isFound g a0 a1 = some res) : q_MR l yX3_isFound cX3_isFound 3 (some .boolean) 2 44 E [.ref (q_ad E a0), .int a1] g (some (.int res)) ∧ ∃ fs, g a0 = some (.inr (2, fs)) := by
  unfold f_X3_isFound at hf
  obtain ⟨u9, hu9, hf⟩ := q_ob hf
  refine ⟨q_ofR (by decide) rfl ?_, g_C_sp hu9⟩
  intro p e s m args below meth c ls C hw hl
  have hj : q_J E s g s.heap [] := ⟨hw, va_S.rf⟩
  have hx := C.1
  have hb := C.2.1
  have C : q_C E p s m args meth c cX3_isFound RX3 3 (some .boolean) := C
  have hl : lv_has ls 3 [(0, .ref (q_ad E a0)), (1, .int a1)] := hl
  refine lv_iconst (v := 0) hx hb dX3_isFound_0 qi_0 ?_
  refine lv_istore_n (lv' := [(2, .int 0), (0, .ref (q_ad E a0)), (1, .int a1)]) hx hb dX3_isFound_1 rfl hl (by decide) rfl (fun ls hl => ?_)
  refine w_L_X3_isFound_2 C  hj (lv_sub hl [1, 2, 0] rfl) hf
def f_X3_has (g : qS) (a0 : Nat) (a1 : Int32) (a2 : Int32) : Option Int32 := (g_C g a0 2).bind fun _ => if a2 < 0 then (some 0) else ((f_X3_count g a0 a1).bind fun v1 => if v1 ≤ a2 then (some 0) else (some 1))
set_option maxHeartbeats 4000000 in
set_option maxRecDepth 100000 in
theorem c_X3_has (l : Launch) (E : qV) {g : qS} {a0 : Nat} {a1 : Int32} {a2 : Int32} {res : Int32} (hf : f_X3_has g a0 a1 a2 = some res) : q_MR l yX3_has cX3_has 3 (some .boolean) 2 44 E [.ref (q_ad E a0), .int a1, .int a2] g (some (.int res)) ∧ ∃ fs, g a0 = some (.inr (2, fs)) := by
  unfold f_X3_has at hf
  obtain ⟨u9, hu9, hf⟩ := q_ob hf
  refine ⟨q_ofR (by decide) rfl ?_, g_C_sp hu9⟩
  intro p e s m args below meth c ls C hw hl
  have hj : q_J E s g s.heap [] := ⟨hw, va_S.rf⟩
  have hx := C.1
  have hb := C.2.1
  have C : q_C E p s m args meth c cX3_has RX3 3 (some .boolean) := C
  have hl : lv_has ls 3 [(0, .ref (q_ad E a0)), (1, .int a1), (2, .int a2)] := hl
  refine lv_iload_n hx hb dX3_has_0 rfl (lv_at hl 2 rfl) ?_
  refine q_iflt C (tgt := 17) dX3_has_1 (by decide) hf (fun hf => ?_) (fun hf => ?_)
  · refine lv_iconst (v := 0) hx hb dX3_has_17 qi_0 ?_
    exact q_z0retR C dX3_has_18 hf
  · refine lv_iload_n hx hb dX3_has_4 rfl (lv_at hl 2 rfl) ?_
    refine lv_aload_n hx hb dX3_has_5 rfl (lv_at hl 0 rfl) ?_
    refine lv_iload_n hx hb dX3_has_6 rfl (lv_at hl 1 rfl) ?_
    refine q_cVRI C hj cw_X3_55 (As := [.int a1]) (rest := [.int a2]) hf (fun v9 h9 => c_X3_count l E h9) rfl hl rfl rfl rfl dX3_has_7 ⟨Nat.zero_le _, Nat.zero_le _⟩ (fun v1 hf => ?_)
    refine q_icge C (tgt := 17) dX3_has_10 (by decide) hf (fun hf => ?_) (fun hf => ?_)
    · refine lv_iconst (v := 0) hx hb dX3_has_17 qi_0 ?_
      exact q_z0retR C dX3_has_18 hf
    · refine lv_iconst (v := 1) hx hb dX3_has_13 qi_1 ?_
      refine lv_goto (tgt := 18) hx hb dX3_has_14 (by decide) ?_
      exact q_z1retR C dX3_has_18 hf
def f_X3_roomTold (g : qS) (a0 : Nat) (a1 : Int32) : Option Int32 := (g_C g a0 2).bind fun _ => (g_R g a0 2 1).bind fun v1 => (f_X8_get g v1 a1 1).bind fun v2 => (g_R g a0 2 1).bind fun v3 => (f_X8_get g v3 a1 0).bind fun v4 => if v4 = 2 then (if (2 : Int32) = 0 then none else (some (v2 / 2))) else (some v2)
set_option maxHeartbeats 4000000 in
set_option maxRecDepth 100000 in
theorem c_X3_roomTold (l : Launch) (E : qV) {g : qS} {a0 : Nat} {a1 : Int32} {res : Int32} (hf : f_X3_roomTold g a0 a1 = some res) : q_MR l yX3_roomTold cX3_roomTold 3 (some .int) 1 23 E [.ref (q_ad E a0), .int a1] g (some (.int res)) ∧ ∃ fs, g a0 = some (.inr (2, fs)) := by
  unfold f_X3_roomTold at hf
  obtain ⟨u9, hu9, hf⟩ := q_ob hf
  refine ⟨q_ofR (by decide) rfl ?_, g_C_sp hu9⟩
  intro p e s m args below meth c ls C hw hl
  have hj : q_J E s g s.heap [] := ⟨hw, va_S.rf⟩
  have hx := C.1
  have hb := C.2.1
  have C : q_C E p s m args meth c cX3_roomTold RX3 3 (some .int) := C
  have hl : lv_has ls 3 [(0, .ref (q_ad E a0)), (1, .int a1)] := hl
  refine lv_aload_n hx hb dX3_roomTold_0 rfl (lv_at hl 0 rfl) ?_
  refine q_getR C hj lk_X3_20 dX3_roomTold_1 hf (fun v1 hf => ?_)
  refine lv_iload_n hx hb dX3_roomTold_4 rfl (lv_at hl 1 rfl) ?_
  refine lv_iconst (v := 1) hx hb dX3_roomTold_5 qi_1 ?_
  refine q_cVRI C hj cw_X3_51 (As := [.int a1, .int 1]) (rest := []) hf (fun v9 h9 => c_X8_get l E h9) rfl hl rfl rfl rfl dX3_roomTold_6 ⟨Nat.zero_le _, Nat.zero_le _⟩ (fun v2 hf => ?_)
  refine lv_istore_n (lv' := [(2, .int v2), (0, .ref (q_ad E a0)), (1, .int a1)]) hx hb dX3_roomTold_9 rfl hl (by decide) rfl (fun ls hl => ?_)
  refine lv_aload_n hx hb dX3_roomTold_10 rfl (lv_at hl 1 rfl) ?_
  refine q_getR C hj lk_X3_20 dX3_roomTold_11 hf (fun v3 hf => ?_)
  refine lv_iload_n hx hb dX3_roomTold_14 rfl (lv_at hl 2 rfl) ?_
  refine lv_iconst (v := 0) hx hb dX3_roomTold_15 qi_0 ?_
  refine q_cVRI C hj cw_X3_51 (As := [.int a1, .int 0]) (rest := []) hf (fun v9 h9 => c_X8_get l E h9) rfl hl rfl rfl rfl dX3_roomTold_16 ⟨Nat.zero_le _, Nat.zero_le _⟩ (fun v4 hf => ?_)
  refine lv_iconst (v := 2) hx hb dX3_roomTold_19 qi_2 ?_
  refine q_icne C (tgt := 29) dX3_roomTold_20 (by decide) hf (fun hf => ?_) (fun hf => ?_)
  · refine lv_iload_n hx hb dX3_roomTold_29 rfl (lv_at hl 0 rfl) ?_
    exact q_iretR C dX3_roomTold_30 hf
  · refine lv_iload_n hx hb dX3_roomTold_23 rfl (lv_at hl 0 rfl) ?_
    refine lv_iconst (v := 2) hx hb dX3_roomTold_24 qi_2 ?_
    refine q_idiv C dX3_roomTold_25 hf (fun hf => ?_)
    refine lv_goto (tgt := 30) hx hb dX3_roomTold_26 (by decide) ?_
    exact q_iretR C dX3_roomTold_30 hf
def J_X3_nearness_103  (g : qS) (x7 : Int32) (x8 : Int32) : Option Int32 := if x7 = 3 then (some (q_mn 100 ((q_mx 0 x8) * 2))) else (some (q_mn 100 (q_mx 0 x8)))
set_option maxHeartbeats 4000000 in
set_option maxRecDepth 100000 in
theorem w_J_X3_nearness_103 {l : Launch} {E : qV} {p : Program} {e : Env} {s : State} {m : MethodId} {args : Array Value} {below : List Frame} {meth : Method} {c : Code}  {g : qS} {res : Int32} (C : q_C E p s m args meth c cX3_nearness RX3 9 (some .int))  : ∀ {x7 : Int32} {x8 : Int32} {ls : Array Slot}, q_J E s g s.heap [] → lv_has ls 9 [(7, .int x7), (8, .int x8)] → J_X3_nearness_103 g x7 x8 = some res → W p l e (q_rm 1 24) s m args below meth c s.heap [] 0 0 (q_ZR below (some (.int res)) args s) (F0 m 103 ls []) := by
  have hx := C.1
  have hb := C.2.1
  intro x7 x8 ls hj hl hf
  unfold J_X3_nearness_103 at hf
  refine lv_iconst (v := 0) hx hb dX3_nearness_103 qi_0 ?_
  refine lv_iload hx hb dX3_nearness_104 (lv_at hl 1 rfl) ?_
  refine q_max C (q_ml_X3_63) rfl hl dX3_nearness_106 ?_
  refine lv_istore (lv' := [(8, .int (q_mx 0 x8)), (7, .int x7)]) hx hb dX3_nearness_109 hl (by decide) rfl (fun ls hl => ?_)
  refine lv_iload hx hb dX3_nearness_111 (lv_at hl 1 rfl) ?_
  refine lv_iconst (v := 3) hx hb dX3_nearness_113 qi_3 ?_
  refine q_icne C (tgt := 123) dX3_nearness_114 (by decide) hf (fun hf => ?_) (fun hf => ?_)
  · refine lv_bipush (v := 100) hx hb dX3_nearness_123 (by decide) ?_
    refine lv_iload hx hb dX3_nearness_125 (lv_at hl 0 rfl) ?_
    refine q_min C (q_ml_X3_68) rfl hl dX3_nearness_127 ?_
    exact q_iretR C dX3_nearness_130 hf
  · refine lv_iload hx hb dX3_nearness_117 (lv_at hl 0 rfl) ?_
    refine lv_iconst (v := 2) hx hb dX3_nearness_119 qi_2 ?_
    refine lv_imul hx hb dX3_nearness_120 ?_
    refine lv_istore (lv' := [(8, .int ((q_mx 0 x8) * 2)), (7, .int x7)]) hx hb dX3_nearness_121 hl (by decide) rfl (fun ls hl => ?_)
    refine lv_bipush (v := 100) hx hb dX3_nearness_123 (by decide) ?_
    refine lv_iload hx hb dX3_nearness_125 (lv_at hl 0 rfl) ?_
    refine q_min C (q_ml_X3_68) rfl hl dX3_nearness_127 ?_
    exact q_iretR C dX3_nearness_130 hf
def J_X3_nearness_94  (g : qS) (x7 : Int32) (x8 : Int32) : Option Int32 := if x7 = 1 then (J_X3_nearness_103 g x7 (x8 + (-20))) else (J_X3_nearness_103 g x7 x8)
set_option maxHeartbeats 4000000 in
set_option maxRecDepth 100000 in
theorem w_J_X3_nearness_94 {l : Launch} {E : qV} {p : Program} {e : Env} {s : State} {m : MethodId} {args : Array Value} {below : List Frame} {meth : Method} {c : Code}  {g : qS} {res : Int32} (C : q_C E p s m args meth c cX3_nearness RX3 9 (some .int))  : ∀ {x7 : Int32} {x8 : Int32} {ls : Array Slot}, q_J E s g s.heap [] → lv_has ls 9 [(7, .int x7), (8, .int x8)] → J_X3_nearness_94 g x7 x8 = some res → W p l e (q_rm 1 24) s m args below meth c s.heap [] 0 0 (q_ZR below (some (.int res)) args s) (F0 m 94 ls []) := by
  have hx := C.1
  have hb := C.2.1
  intro x7 x8 ls hj hl hf
  unfold J_X3_nearness_94 at hf
  refine lv_iload hx hb dX3_nearness_94 (lv_at hl 0 rfl) ?_
  refine lv_iconst (v := 1) hx hb dX3_nearness_96 qi_1 ?_
  refine q_icne C (tgt := 103) dX3_nearness_97 (by decide) hf (fun hf => ?_) (fun hf => ?_)
  · refine w_J_X3_nearness_103 C  hj (lv_sub hl [0, 1] rfl) hf
  · refine lv_iinc (v := x8 + (-20)) (lv' := [(8, .int (x8 + (-20))), (7, .int x7)]) hx hb dX3_nearness_100 hl (k := 1) rfl (by rw [qi_m20]) (by decide) rfl (fun ls hl => ?_)
    refine w_J_X3_nearness_103 C  hj (lv_sub hl [1, 0] rfl) hf
def f_X3_nearness (g : qS) (a0 : Nat) (a1 : Int32) (a2 : Int32) (a3 : Int32) (a4 : Int32) (a5 : Int32) : Option Int32 := (g_C g a0 2).bind fun _ => (g_R g a0 2 0).bind fun v1 => (f_X8_get g v1 a2 0).bind fun v2 => (g_R g a0 2 1).bind fun v3 => (f_X8_get g v3 a3 0).bind fun v4 => (g_R g a0 2 1).bind fun v5 => (f_X8_get g v5 a3 2).bind fun v6 => (g_R g a0 2 0).bind fun v7 => (f_X8_get g v7 a2 1).bind fun v8 => (g_R g a0 2 2).bind fun v9 => (f_X8_get g v9 a4 0).bind fun v10 => (g_R g a0 2 3).bind fun v11 => (f_X8_get g v11 a1 0).bind fun v12 => if v2 = 1 then (J_X3_nearness_94 g v4 ((((v6 + v8) + (5 * a5)) - (v10 + v12)) + 3)) else (if v2 = 2 then (J_X3_nearness_94 g v4 ((((v6 + v8) + (5 * a5)) - (v10 + v12)) + 10)) else (J_X3_nearness_94 g v4 (((v6 + v8) + (5 * a5)) - (v10 + v12))))
set_option maxHeartbeats 4000000 in
set_option maxRecDepth 100000 in
theorem c_X3_nearness (l : Launch) (E : qV) {g : qS} {a0 : Nat} {a1 : Int32} {a2 : Int32} {a3 : Int32} {a4 : Int32} {a5 : Int32} {res : Int32} (hf : f_X3_nearness g a0 a1 a2 a3 a4 a5 = some res) : q_MR l yX3_nearness cX3_nearness 9 (some .int) 1 24 E [.ref (q_ad E a0), .int a1, .int a2, .int a3, .int a4, .int a5] g (some (.int res)) ∧ ∃ fs, g a0 = some (.inr (2, fs)) := by
  unfold f_X3_nearness at hf
  obtain ⟨u9, hu9, hf⟩ := q_ob hf
  refine ⟨q_ofR (by decide) rfl ?_, g_C_sp hu9⟩
  intro p e s m args below meth c ls C hw hl
  have hj : q_J E s g s.heap [] := ⟨hw, va_S.rf⟩
  have hx := C.1
  have hb := C.2.1
  have C : q_C E p s m args meth c cX3_nearness RX3 9 (some .int) := C
  have hl : lv_has ls 9 [(0, .ref (q_ad E a0)), (1, .int a1), (2, .int a2), (3, .int a3), (4, .int a4), (5, .int a5)] := hl
  refine lv_aload_n hx hb dX3_nearness_0 rfl (lv_at hl 0 rfl) ?_
  refine q_getR C hj lk_X3_14 dX3_nearness_1 hf (fun v1 hf => ?_)
  refine lv_iload_n hx hb dX3_nearness_4 rfl (lv_at hl 2 rfl) ?_
  refine lv_iconst (v := 0) hx hb dX3_nearness_5 qi_0 ?_
  refine q_cVRI C hj cw_X3_51 (As := [.int a2, .int 0]) (rest := []) hf (fun v9 h9 => c_X8_get l E h9) rfl hl rfl rfl rfl dX3_nearness_6 ⟨Nat.zero_le _, Nat.zero_le _⟩ (fun v2 hf => ?_)
  refine lv_istore (lv' := [(6, .int v2), (0, .ref (q_ad E a0)), (1, .int a1), (2, .int a2), (3, .int a3), (4, .int a4), (5, .int a5)]) hx hb dX3_nearness_9 hl (by decide) rfl (fun ls hl => ?_)
  refine lv_aload_n hx hb dX3_nearness_11 rfl (lv_at hl 1 rfl) ?_
  refine q_getR C hj lk_X3_20 dX3_nearness_12 hf (fun v3 hf => ?_)
  refine lv_iload_n hx hb dX3_nearness_15 rfl (lv_at hl 4 rfl) ?_
  refine lv_iconst (v := 0) hx hb dX3_nearness_16 qi_0 ?_
  refine q_cVRI C hj cw_X3_51 (As := [.int a3, .int 0]) (rest := []) hf (fun v9 h9 => c_X8_get l E h9) rfl hl rfl rfl rfl dX3_nearness_17 ⟨Nat.zero_le _, Nat.zero_le _⟩ (fun v4 hf => ?_)
  refine lv_istore (lv' := [(7, .int v4), (6, .int v2), (0, .ref (q_ad E a0)), (1, .int a1), (2, .int a2), (3, .int a3), (4, .int a4), (5, .int a5)]) hx hb dX3_nearness_20 hl (by decide) rfl (fun ls hl => ?_)
  refine lv_aload_n hx hb dX3_nearness_22 rfl (lv_at hl 2 rfl) ?_
  refine q_getR C hj lk_X3_20 dX3_nearness_23 hf (fun v5 hf => ?_)
  refine lv_iload_n hx hb dX3_nearness_26 rfl (lv_at hl 5 rfl) ?_
  refine lv_iconst (v := 2) hx hb dX3_nearness_27 qi_2 ?_
  refine q_cVRI C hj cw_X3_51 (As := [.int a3, .int 2]) (rest := []) hf (fun v9 h9 => c_X8_get l E h9) rfl hl rfl rfl rfl dX3_nearness_28 ⟨Nat.zero_le _, Nat.zero_le _⟩ (fun v6 hf => ?_)
  refine lv_aload_n hx hb dX3_nearness_31 rfl (lv_at hl 2 rfl) ?_
  refine q_getR C hj lk_X3_14 dX3_nearness_32 hf (fun v7 hf => ?_)
  refine lv_iload_n hx hb dX3_nearness_35 rfl (lv_at hl 4 rfl) ?_
  refine lv_iconst (v := 1) hx hb dX3_nearness_36 qi_1 ?_
  refine q_cVRI C hj cw_X3_51 (As := [.int a2, .int 1]) (rest := [.int v6]) hf (fun v9 h9 => c_X8_get l E h9) rfl hl rfl rfl rfl dX3_nearness_37 ⟨Nat.zero_le _, Nat.zero_le _⟩ (fun v8 hf => ?_)
  refine lv_iadd hx hb dX3_nearness_40 ?_
  refine lv_iconst (v := 5) hx hb dX3_nearness_41 qi_5 ?_
  refine lv_iload hx hb dX3_nearness_42 (lv_at hl 7 rfl) ?_
  refine lv_imul hx hb dX3_nearness_44 ?_
  refine lv_iadd hx hb dX3_nearness_45 ?_
  refine lv_istore (lv' := [(8, .int ((v6 + v8) + (5 * a5))), (7, .int v4), (6, .int v2), (0, .ref (q_ad E a0)), (1, .int a1), (2, .int a2), (3, .int a3), (4, .int a4), (5, .int a5)]) hx hb dX3_nearness_46 hl (by decide) rfl (fun ls hl => ?_)
  refine lv_iload hx hb dX3_nearness_48 (lv_at hl 0 rfl) ?_
  refine lv_aload_n hx hb dX3_nearness_50 rfl (lv_at hl 3 rfl) ?_
  refine q_getR C hj lk_X3_23 dX3_nearness_51 hf (fun v9 hf => ?_)
  refine lv_iload hx hb dX3_nearness_54 (lv_at hl 7 rfl) ?_
  refine lv_iconst (v := 0) hx hb dX3_nearness_56 qi_0 ?_
  refine q_cVRI C hj cw_X3_51 (As := [.int a4, .int 0]) (rest := [.int ((v6 + v8) + (5 * a5))]) hf (fun v9 h9 => c_X8_get l E h9) rfl hl rfl rfl rfl dX3_nearness_57 ⟨Nat.zero_le _, Nat.zero_le _⟩ (fun v10 hf => ?_)
  refine lv_aload_n hx hb dX3_nearness_60 rfl (lv_at hl 3 rfl) ?_
  refine q_getR C hj lk_X3_26 dX3_nearness_61 hf (fun v11 hf => ?_)
  refine lv_iload_n hx hb dX3_nearness_64 rfl (lv_at hl 4 rfl) ?_
  refine lv_iconst (v := 0) hx hb dX3_nearness_65 qi_0 ?_
  refine q_cVRI C hj cw_X3_51 (As := [.int a1, .int 0]) (rest := [.int v10, .int ((v6 + v8) + (5 * a5))]) hf (fun v9 h9 => c_X8_get l E h9) rfl hl rfl rfl rfl dX3_nearness_66 ⟨Nat.zero_le _, Nat.zero_le _⟩ (fun v12 hf => ?_)
  refine lv_iadd hx hb dX3_nearness_69 ?_
  refine lv_isub hx hb dX3_nearness_70 ?_
  refine lv_istore (lv' := [(8, .int (((v6 + v8) + (5 * a5)) - (v10 + v12))), (7, .int v4), (6, .int v2), (0, .ref (q_ad E a0)), (1, .int a1), (2, .int a2), (3, .int a3), (4, .int a4), (5, .int a5)]) hx hb dX3_nearness_71 hl (by decide) rfl (fun ls hl => ?_)
  refine lv_iload hx hb dX3_nearness_73 (lv_at hl 2 rfl) ?_
  refine lv_iconst (v := 1) hx hb dX3_nearness_75 qi_1 ?_
  refine q_icne C (tgt := 85) dX3_nearness_76 (by decide) hf (fun hf => ?_) (fun hf => ?_)
  · refine lv_iload hx hb dX3_nearness_85 (lv_at hl 2 rfl) ?_
    refine lv_iconst (v := 2) hx hb dX3_nearness_87 qi_2 ?_
    refine q_icne C (tgt := 94) dX3_nearness_88 (by decide) hf (fun hf => ?_) (fun hf => ?_)
    · refine w_J_X3_nearness_94 C  hj (lv_sub hl [1, 0] rfl) hf
    · refine lv_iinc (v := (((v6 + v8) + (5 * a5)) - (v10 + v12)) + 10) (lv' := [(8, .int ((((v6 + v8) + (5 * a5)) - (v10 + v12)) + 10)), (7, .int v4), (6, .int v2), (0, .ref (q_ad E a0)), (1, .int a1), (2, .int a2), (3, .int a3), (4, .int a4), (5, .int a5)]) hx hb dX3_nearness_91 hl (k := 0) rfl (by rw [qi_10]) (by decide) rfl (fun ls hl => ?_)
      refine w_J_X3_nearness_94 C  hj (lv_sub hl [1, 0] rfl) hf
  · refine lv_iinc (v := (((v6 + v8) + (5 * a5)) - (v10 + v12)) + 3) (lv' := [(8, .int ((((v6 + v8) + (5 * a5)) - (v10 + v12)) + 3)), (7, .int v4), (6, .int v2), (0, .ref (q_ad E a0)), (1, .int a1), (2, .int a2), (3, .int a3), (4, .int a4), (5, .int a5)]) hx hb dX3_nearness_79 hl (k := 0) rfl (by rw [qi_3]) (by decide) rfl (fun ls hl => ?_)
    refine lv_goto (tgt := 94) hx hb dX3_nearness_82 (by decide) ?_
    refine w_J_X3_nearness_94 C  hj (lv_sub hl [1, 0] rfl) hf
def f_X3_sharedTram (g : qS) (a0 : Nat) (a1 : Int32) (a2 : Int32) (a3 : Int32) : Option Int32 := (g_C g a0 2).bind fun _ => (g_R g a0 2 8).bind fun v1 => (f_X8_get g v1 a1 a3).bind fun v2 => if v2 < 0 then (some (-2)) else ((g_R g a0 2 7).bind fun v3 => (f_X8_get g v3 a2 a3).bind fun v4 => if v2 = v4 then (some v2) else (some (-2)))
set_option maxHeartbeats 4000000 in
set_option maxRecDepth 100000 in
theorem c_X3_sharedTram (l : Launch) (E : qV) {g : qS} {a0 : Nat} {a1 : Int32} {a2 : Int32} {a3 : Int32} {res : Int32} (hf : f_X3_sharedTram g a0 a1 a2 a3 = some res) : q_MR l yX3_sharedTram cX3_sharedTram 5 (some .int) 1 23 E [.ref (q_ad E a0), .int a1, .int a2, .int a3] g (some (.int res)) ∧ ∃ fs, g a0 = some (.inr (2, fs)) := by
  unfold f_X3_sharedTram at hf
  obtain ⟨u9, hu9, hf⟩ := q_ob hf
  refine ⟨q_ofR (by decide) rfl ?_, g_C_sp hu9⟩
  intro p e s m args below meth c ls C hw hl
  have hj : q_J E s g s.heap [] := ⟨hw, va_S.rf⟩
  have hx := C.1
  have hb := C.2.1
  have C : q_C E p s m args meth c cX3_sharedTram RX3 5 (some .int) := C
  have hl : lv_has ls 5 [(0, .ref (q_ad E a0)), (1, .int a1), (2, .int a2), (3, .int a3)] := hl
  refine lv_aload_n hx hb dX3_sharedTram_0 rfl (lv_at hl 0 rfl) ?_
  refine q_getR C hj lk_X3_41 dX3_sharedTram_1 hf (fun v1 hf => ?_)
  refine lv_iload_n hx hb dX3_sharedTram_4 rfl (lv_at hl 1 rfl) ?_
  refine lv_iload_n hx hb dX3_sharedTram_5 rfl (lv_at hl 3 rfl) ?_
  refine q_cVRI C hj cw_X3_51 (As := [.int a1, .int a3]) (rest := []) hf (fun v9 h9 => c_X8_get l E h9) rfl hl rfl rfl rfl dX3_sharedTram_6 ⟨Nat.zero_le _, Nat.zero_le _⟩ (fun v2 hf => ?_)
  refine lv_istore (lv' := [(4, .int v2), (0, .ref (q_ad E a0)), (1, .int a1), (2, .int a2), (3, .int a3)]) hx hb dX3_sharedTram_9 hl (by decide) rfl (fun ls hl => ?_)
  refine lv_iload hx hb dX3_sharedTram_11 (lv_at hl 0 rfl) ?_
  refine q_iflt C (tgt := 35) dX3_sharedTram_13 (by decide) hf (fun hf => ?_) (fun hf => ?_)
  · refine lv_bipush (v := -2) hx hb dX3_sharedTram_35 (by decide) ?_
    exact q_iretR C dX3_sharedTram_37 hf
  · refine lv_iload hx hb dX3_sharedTram_16 (lv_at hl 0 rfl) ?_
    refine lv_aload_n hx hb dX3_sharedTram_18 rfl (lv_at hl 1 rfl) ?_
    refine q_getR C hj lk_X3_38 dX3_sharedTram_19 hf (fun v3 hf => ?_)
    refine lv_iload_n hx hb dX3_sharedTram_22 rfl (lv_at hl 3 rfl) ?_
    refine lv_iload_n hx hb dX3_sharedTram_23 rfl (lv_at hl 4 rfl) ?_
    refine q_cVRI C hj cw_X3_51 (As := [.int a2, .int a3]) (rest := [.int v2]) hf (fun v9 h9 => c_X8_get l E h9) rfl hl rfl rfl rfl dX3_sharedTram_24 ⟨Nat.zero_le _, Nat.zero_le _⟩ (fun v4 hf => ?_)
    refine q_icne C (tgt := 35) dX3_sharedTram_27 (by decide) hf (fun hf => ?_) (fun hf => ?_)
    · refine lv_bipush (v := -2) hx hb dX3_sharedTram_35 (by decide) ?_
      exact q_iretR C dX3_sharedTram_37 hf
    · refine lv_iload hx hb dX3_sharedTram_30 (lv_at hl 0 rfl) ?_
      refine lv_goto (tgt := 37) hx hb dX3_sharedTram_32 (by decide) ?_
      exact q_iretR C dX3_sharedTram_37 hf
def f_X3_isNoticed (g : qS) (a0 : Nat) (a1 : Int32) : Option Int32 := (g_C g a0 2).bind fun _ => (g_R g a0 2 9).bind fun v1 => (f_X8_get g v1 0 1).bind fun v2 => if a1 ≤ v2 then (some 0) else (some 1)
set_option maxHeartbeats 4000000 in
set_option maxRecDepth 100000 in
theorem c_X3_isNoticed (l : Launch) (E : qV) {g : qS} {a0 : Nat} {a1 : Int32} {res : Int32} (hf : f_X3_isNoticed g a0 a1 = some res) : q_MR l yX3_isNoticed cX3_isNoticed 2 (some .boolean) 1 23 E [.ref (q_ad E a0), .int a1] g (some (.int res)) ∧ ∃ fs, g a0 = some (.inr (2, fs)) := by
  unfold f_X3_isNoticed at hf
  obtain ⟨u9, hu9, hf⟩ := q_ob hf
  refine ⟨q_ofR (by decide) rfl ?_, g_C_sp hu9⟩
  intro p e s m args below meth c ls C hw hl
  have hj : q_J E s g s.heap [] := ⟨hw, va_S.rf⟩
  have hx := C.1
  have hb := C.2.1
  have C : q_C E p s m args meth c cX3_isNoticed RX3 2 (some .boolean) := C
  have hl : lv_has ls 2 [(0, .ref (q_ad E a0)), (1, .int a1)] := hl
  refine lv_iload_n hx hb dX3_isNoticed_0 rfl (lv_at hl 1 rfl) ?_
  refine lv_aload_n hx hb dX3_isNoticed_1 rfl (lv_at hl 0 rfl) ?_
  refine q_getR C hj lk_X3_44 dX3_isNoticed_2 hf (fun v1 hf => ?_)
  refine lv_iconst (v := 0) hx hb dX3_isNoticed_5 qi_0 ?_
  refine lv_iconst (v := 1) hx hb dX3_isNoticed_6 qi_1 ?_
  refine q_cVRI C hj cw_X3_51 (As := [.int 0, .int 1]) (rest := [.int a1]) hf (fun v9 h9 => c_X8_get l E h9) rfl hl rfl rfl rfl dX3_isNoticed_7 ⟨Nat.zero_le _, Nat.zero_le _⟩ (fun v2 hf => ?_)
  refine q_icle C (tgt := 17) dX3_isNoticed_10 (by decide) hf (fun hf => ?_) (fun hf => ?_)
  · refine lv_iconst (v := 0) hx hb dX3_isNoticed_17 qi_0 ?_
    exact q_z0retR C dX3_isNoticed_18 hf
  · refine lv_iconst (v := 1) hx hb dX3_isNoticed_13 qi_1 ?_
    refine lv_goto (tgt := 18) hx hb dX3_isNoticed_14 (by decide) ?_
    exact q_z1retR C dX3_isNoticed_18 hf
def J_X3_safestGift_98 (k34 : Nat → Int32 → Int32 → Int32 → Int32 → Int32 → Int32 → Option Int32) (g : qS) (x0 : Nat) (x1 : Int32) (x4 : Int32) (x5 : Int32) (x6 : Int32) (x8 : Int32) : Option Int32 := k34 x0 x1 (((100 * x4) + (10 * x5)) + x6) x8 x4 x5 (x6 + 1)
set_option maxHeartbeats 4000000 in
set_option maxRecDepth 100000 in
theorem w_J_X3_safestGift_98 {l : Launch} {E : qV} {p : Program} {e : Env} {s : State} {m : MethodId} {args : Array Value} {below : List Frame} {meth : Method} {c : Code} {k34 : Nat → Int32 → Int32 → Int32 → Int32 → Int32 → Int32 → Option Int32} {g : qS} {res : Int32} (C : q_C E p s m args meth c cX3_safestGift RX3 9 (some .int)) (hk34 : ∀ (x0 : Nat) (x1 : Int32) (x2 : Int32) (x3 : Int32) (x4 : Int32) (x5 : Int32) (x6 : Int32) (ls : Array Slot), q_J E s g s.heap [] → lv_has ls 9 [(0, .ref (q_ad E x0)), (1, .int x1), (2, .int x2), (3, .int x3), (4, .int x4), (5, .int x5), (6, .int x6)] → k34 x0 x1 x2 x3 x4 x5 x6 = some res → W p l e (q_rm 2 52) s m args below meth c s.heap [] 0 0 (q_ZR below (some (.int res)) args s) (F0 m 34 ls [])) : ∀ {x0 : Nat} {x1 : Int32} {x4 : Int32} {x5 : Int32} {x6 : Int32} {x8 : Int32} {ls : Array Slot}, q_J E s g s.heap [] → lv_has ls 9 [(0, .ref (q_ad E x0)), (1, .int x1), (4, .int x4), (5, .int x5), (6, .int x6), (8, .int x8)] → J_X3_safestGift_98 k34 g x0 x1 x4 x5 x6 x8 = some res → W p l e (q_rm 2 52) s m args below meth c s.heap [] 0 0 (q_ZR below (some (.int res)) args s) (F0 m 98 ls []) := by
  have hx := C.1
  have hb := C.2.1
  intro x0 x1 x4 x5 x6 x8 ls hj hl hf
  unfold J_X3_safestGift_98 at hf
  refine lv_bipush (v := 100) hx hb dX3_safestGift_98 (by decide) ?_
  refine lv_iload hx hb dX3_safestGift_100 (lv_at hl 2 rfl) ?_
  refine lv_imul hx hb dX3_safestGift_102 ?_
  refine lv_bipush (v := 10) hx hb dX3_safestGift_103 (by decide) ?_
  refine lv_iload hx hb dX3_safestGift_105 (lv_at hl 3 rfl) ?_
  refine lv_imul hx hb dX3_safestGift_107 ?_
  refine lv_iadd hx hb dX3_safestGift_108 ?_
  refine lv_iload hx hb dX3_safestGift_109 (lv_at hl 4 rfl) ?_
  refine lv_iadd hx hb dX3_safestGift_111 ?_
  refine lv_istore_n (lv' := [(2, .int (((100 * x4) + (10 * x5)) + x6)), (0, .ref (q_ad E x0)), (1, .int x1), (4, .int x4), (5, .int x5), (6, .int x6), (8, .int x8)]) hx hb dX3_safestGift_112 rfl hl (by decide) rfl (fun ls hl => ?_)
  refine lv_iload hx hb dX3_safestGift_113 (lv_at hl 6 rfl) ?_
  refine lv_istore_n (lv' := [(3, .int x8), (2, .int (((100 * x4) + (10 * x5)) + x6)), (0, .ref (q_ad E x0)), (1, .int x1), (4, .int x4), (5, .int x5), (6, .int x6), (8, .int x8)]) hx hb dX3_safestGift_115 rfl hl (by decide) rfl (fun ls hl => ?_)
  refine lv_iinc (v := x6 + 1) (lv' := [(6, .int (x6 + 1)), (3, .int x8), (2, .int (((100 * x4) + (10 * x5)) + x6)), (0, .ref (q_ad E x0)), (1, .int x1), (4, .int x4), (5, .int x5), (8, .int x8)]) hx hb dX3_safestGift_116 hl (k := 6) rfl (by rw [qi_1]) (by decide) rfl (fun ls hl => ?_)
  refine lv_goto (tgt := 34) hx hb dX3_safestGift_119 (by decide) ?_
  exact hk34 _ _ _ _ _ _ _  ls hj (lv_sub hl [3, 4, 2, 1, 5, 6, 0] rfl) hf
def L_X3_safestGift_34 (k122 : Nat → Int32 → Int32 → Int32 → Int32 → Int32 → Option Int32) (g : qS) : Nat → Nat → Int32 → Int32 → Int32 → Int32 → Int32 → Int32 → Option Int32
  | 0, _, _, _, _, _, _, _ => none
  | n + 1, x0, x1, x2, x3, x4, x5, x6 => (f_X3_count g x0 3).bind fun v1 => if v1 ≤ x6 then (k122 x0 x1 x2 x3 x4 x5) else ((f_X3_sharedTram g x0 x5 x6 x4).bind fun v2 => if v2 < 0 then (L_X3_safestGift_34 k122 g n x0 x1 x2 x3 x4 x5 (x6 + 1)) else ((f_X3_roomTold g x0 x6).bind fun v3 => if 1 ≤ v3 then ((f_X3_nearness g x0 x5 x1 x6 v2 0).bind fun v4 => if x2 < 0 then (J_X3_safestGift_98 (L_X3_safestGift_34 k122 g n) g x0 x1 x4 x5 x6 v4) else (if x3 ≤ v4 then (L_X3_safestGift_34 k122 g n x0 x1 x2 x3 x4 x5 (x6 + 1)) else (J_X3_safestGift_98 (L_X3_safestGift_34 k122 g n) g x0 x1 x4 x5 x6 v4))) else (L_X3_safestGift_34 k122 g n x0 x1 x2 x3 x4 x5 (x6 + 1))))
set_option maxHeartbeats 4000000 in
set_option maxRecDepth 100000 in
theorem w_L_X3_safestGift_34 {l : Launch} {E : qV} {p : Program} {e : Env} {s : State} {m : MethodId} {args : Array Value} {below : List Frame} {meth : Method} {c : Code} {k122 : Nat → Int32 → Int32 → Int32 → Int32 → Int32 → Option Int32} {g : qS} {res : Int32} (C : q_C E p s m args meth c cX3_safestGift RX3 9 (some .int)) (hk122 : ∀ (x0 : Nat) (x1 : Int32) (x2 : Int32) (x3 : Int32) (x4 : Int32) (x5 : Int32) (ls : Array Slot), q_J E s g s.heap [] → lv_has ls 9 [(0, .ref (q_ad E x0)), (1, .int x1), (2, .int x2), (3, .int x3), (4, .int x4), (5, .int x5)] → k122 x0 x1 x2 x3 x4 x5 = some res → W p l e (q_rm 2 52) s m args below meth c s.heap [] 0 0 (q_ZR below (some (.int res)) args s) (F0 m 122 ls [])) : ∀ {n : Nat} {x0 : Nat} {x1 : Int32} {x2 : Int32} {x3 : Int32} {x4 : Int32} {x5 : Int32} {x6 : Int32} {ls : Array Slot}, q_J E s g s.heap [] → lv_has ls 9 [(0, .ref (q_ad E x0)), (1, .int x1), (2, .int x2), (3, .int x3), (4, .int x4), (5, .int x5), (6, .int x6)] → L_X3_safestGift_34 k122 g n x0 x1 x2 x3 x4 x5 x6 = some res → W p l e (q_rm 2 52) s m args below meth c s.heap [] 0 0 (q_ZR below (some (.int res)) args s) (F0 m 34 ls []) := by
  have hx := C.1
  have hb := C.2.1
  intro n
  induction n with
  | zero =>
    intro x0 x1 x2 x3 x4 x5 x6 ls hj hl hf
    cases hf
  | succ n ih_ =>
    intro x0 x1 x2 x3 x4 x5 x6 ls hj hl hf
    have ih : ∀ (x0 : Nat) (x1 : Int32) (x2 : Int32) (x3 : Int32) (x4 : Int32) (x5 : Int32) (x6 : Int32) (ls : Array Slot), q_J E s g s.heap [] → lv_has ls 9 [(0, .ref (q_ad E x0)), (1, .int x1), (2, .int x2), (3, .int x3), (4, .int x4), (5, .int x5), (6, .int x6)] → L_X3_safestGift_34 k122 g n x0 x1 x2 x3 x4 x5 x6 = some res → W p l e (q_rm 2 52) s m args below meth c s.heap [] 0 0 (q_ZR below (some (.int res)) args s) (F0 m 34 ls []) := fun x0 x1 x2 x3 x4 x5 x6 ls hj hl hf => ih_ hj hl hf
    unfold L_X3_safestGift_34 at hf
    refine lv_iload hx hb dX3_safestGift_34 (lv_at hl 6 rfl) ?_
    refine lv_aload_n hx hb dX3_safestGift_36 rfl (lv_at hl 0 rfl) ?_
    refine lv_iconst (v := 3) hx hb dX3_safestGift_37 qi_3 ?_
    refine q_cVRI C hj cw_X3_55 (As := [.int 3]) (rest := [.int x6]) hf (fun v9 h9 => c_X3_count l E h9) rfl hl rfl rfl rfl dX3_safestGift_38 ⟨Nat.zero_le _, Nat.zero_le _⟩ (fun v1 hf => ?_)
    refine q_icge C (tgt := 122) dX3_safestGift_41 (by decide) hf (fun hf => ?_) (fun hf => ?_)
    · exact hk122 _ _ _ _ _ _  ls hj (lv_sub hl [0, 1, 2, 3, 4, 5] rfl) hf
    · refine lv_aload_n hx hb dX3_safestGift_44 rfl (lv_at hl 0 rfl) ?_
      refine lv_iload hx hb dX3_safestGift_45 (lv_at hl 5 rfl) ?_
      refine lv_iload hx hb dX3_safestGift_47 (lv_at hl 6 rfl) ?_
      refine lv_iload hx hb dX3_safestGift_49 (lv_at hl 4 rfl) ?_
      refine q_cVRI C hj cw_X3_71 (As := [.int x5, .int x6, .int x4]) (rest := []) hf (fun v9 h9 => c_X3_sharedTram l E h9) rfl hl rfl rfl rfl dX3_safestGift_51 ⟨Nat.zero_le _, Nat.zero_le _⟩ (fun v2 hf => ?_)
      refine lv_istore (lv' := [(7, .int v2), (0, .ref (q_ad E x0)), (1, .int x1), (2, .int x2), (3, .int x3), (4, .int x4), (5, .int x5), (6, .int x6)]) hx hb dX3_safestGift_54 hl (by decide) rfl (fun ls hl => ?_)
      refine lv_iload hx hb dX3_safestGift_56 (lv_at hl 0 rfl) ?_
      refine q_iflt C (tgt := 116) dX3_safestGift_58 (by decide) hf (fun hf => ?_) (fun hf => ?_)
      · refine lv_iinc (v := x6 + 1) (lv' := [(6, .int (x6 + 1)), (7, .int v2), (0, .ref (q_ad E x0)), (1, .int x1), (2, .int x2), (3, .int x3), (4, .int x4), (5, .int x5)]) hx hb dX3_safestGift_116 hl (k := 7) rfl (by rw [qi_1]) (by decide) rfl (fun ls hl => ?_)
        refine lv_goto (tgt := 34) hx hb dX3_safestGift_119 (by decide) ?_
        exact ih _ _ _ _ _ _ _  ls hj (lv_sub hl [2, 3, 4, 5, 6, 7, 0] rfl) hf
      · refine lv_aload_n hx hb dX3_safestGift_61 rfl (lv_at hl 1 rfl) ?_
        refine lv_iload hx hb dX3_safestGift_62 (lv_at hl 7 rfl) ?_
        refine q_cVRI C hj cw_X3_75 (As := [.int x6]) (rest := []) hf (fun v9 h9 => c_X3_roomTold l E h9) rfl hl rfl rfl rfl dX3_safestGift_64 ⟨Nat.zero_le _, Nat.zero_le _⟩ (fun v3 hf => ?_)
        refine lv_iconst (v := 1) hx hb dX3_safestGift_67 qi_1 ?_
        refine q_icge C (tgt := 74) dX3_safestGift_68 (by decide) hf (fun hf => ?_) (fun hf => ?_)
        · refine lv_aload_n hx hb dX3_safestGift_74 rfl (lv_at hl 1 rfl) ?_
          refine lv_iload hx hb dX3_safestGift_75 (lv_at hl 6 rfl) ?_
          refine lv_iload_n hx hb dX3_safestGift_77 rfl (lv_at hl 2 rfl) ?_
          refine lv_iload hx hb dX3_safestGift_78 (lv_at hl 7 rfl) ?_
          refine lv_iload hx hb dX3_safestGift_80 (lv_at hl 0 rfl) ?_
          refine lv_iconst (v := 0) hx hb dX3_safestGift_82 qi_0 ?_
          refine q_cVRI C hj cw_X3_59 (As := [.int x5, .int x1, .int x6, .int v2, .int 0]) (rest := []) hf (fun v9 h9 => c_X3_nearness l E h9) rfl hl rfl rfl rfl dX3_safestGift_83 ⟨Nat.zero_le _, Nat.zero_le _⟩ (fun v4 hf => ?_)
          refine lv_istore (lv' := [(8, .int v4), (7, .int v2), (0, .ref (q_ad E x0)), (1, .int x1), (2, .int x2), (3, .int x3), (4, .int x4), (5, .int x5), (6, .int x6)]) hx hb dX3_safestGift_86 hl (by decide) rfl (fun ls hl => ?_)
          refine lv_iload_n hx hb dX3_safestGift_88 rfl (lv_at hl 4 rfl) ?_
          refine q_iflt C (tgt := 98) dX3_safestGift_89 (by decide) hf (fun hf => ?_) (fun hf => ?_)
          · refine w_J_X3_safestGift_98 C ih hj (lv_sub hl [2, 3, 6, 7, 8, 0] rfl) hf
          · refine lv_iload hx hb dX3_safestGift_92 (lv_at hl 0 rfl) ?_
            refine lv_iload_n hx hb dX3_safestGift_94 rfl (lv_at hl 5 rfl) ?_
            refine q_icge C (tgt := 116) dX3_safestGift_95 (by decide) hf (fun hf => ?_) (fun hf => ?_)
            · refine lv_iinc (v := x6 + 1) (lv' := [(6, .int (x6 + 1)), (8, .int v4), (7, .int v2), (0, .ref (q_ad E x0)), (1, .int x1), (2, .int x2), (3, .int x3), (4, .int x4), (5, .int x5)]) hx hb dX3_safestGift_116 hl (k := 8) rfl (by rw [qi_1]) (by decide) rfl (fun ls hl => ?_)
              refine lv_goto (tgt := 34) hx hb dX3_safestGift_119 (by decide) ?_
              exact ih _ _ _ _ _ _ _  ls hj (lv_sub hl [3, 4, 5, 6, 7, 8, 0] rfl) hf
            · refine w_J_X3_safestGift_98 C ih hj (lv_sub hl [2, 3, 6, 7, 8, 0] rfl) hf
        · refine lv_goto (tgt := 116) hx hb dX3_safestGift_71 (by decide) ?_
          refine lv_iinc (v := x6 + 1) (lv' := [(6, .int (x6 + 1)), (7, .int v2), (0, .ref (q_ad E x0)), (1, .int x1), (2, .int x2), (3, .int x3), (4, .int x4), (5, .int x5)]) hx hb dX3_safestGift_116 hl (k := 7) rfl (by rw [qi_1]) (by decide) rfl (fun ls hl => ?_)
          refine lv_goto (tgt := 34) hx hb dX3_safestGift_119 (by decide) ?_
          exact ih _ _ _ _ _ _ _  ls hj (lv_sub hl [2, 3, 4, 5, 6, 7, 0] rfl) hf
def L_X3_safestGift_21 (k128 : Nat → Int32 → Int32 → Int32 → Int32 → Option Int32) (g : qS) : Nat → Nat → Int32 → Int32 → Int32 → Int32 → Int32 → Option Int32
  | 0, _, _, _, _, _, _ => none
  | n + 1, x0, x1, x2, x3, x4, x5 => (f_X3_count g x0 5).bind fun v1 => if v1 ≤ x5 then (k128 x0 x1 x2 x3 x4) else (L_X3_safestGift_34 (fun y2 y3 y4 y5 y6 y7 => L_X3_safestGift_21 k128 g n y2 y3 y4 y5 y6 (y7 + 1)) g 1000000000 x0 x1 x2 x3 x4 x5 0)
set_option maxHeartbeats 4000000 in
set_option maxRecDepth 100000 in
theorem w_L_X3_safestGift_21 {l : Launch} {E : qV} {p : Program} {e : Env} {s : State} {m : MethodId} {args : Array Value} {below : List Frame} {meth : Method} {c : Code} {k128 : Nat → Int32 → Int32 → Int32 → Int32 → Option Int32} {g : qS} {res : Int32} (C : q_C E p s m args meth c cX3_safestGift RX3 9 (some .int)) (hk128 : ∀ (x0 : Nat) (x1 : Int32) (x2 : Int32) (x3 : Int32) (x4 : Int32) (ls : Array Slot), q_J E s g s.heap [] → lv_has ls 9 [(0, .ref (q_ad E x0)), (1, .int x1), (2, .int x2), (3, .int x3), (4, .int x4)] → k128 x0 x1 x2 x3 x4 = some res → W p l e (q_rm 2 52) s m args below meth c s.heap [] 0 0 (q_ZR below (some (.int res)) args s) (F0 m 128 ls [])) : ∀ {n : Nat} {x0 : Nat} {x1 : Int32} {x2 : Int32} {x3 : Int32} {x4 : Int32} {x5 : Int32} {ls : Array Slot}, q_J E s g s.heap [] → lv_has ls 9 [(0, .ref (q_ad E x0)), (1, .int x1), (2, .int x2), (3, .int x3), (4, .int x4), (5, .int x5)] → L_X3_safestGift_21 k128 g n x0 x1 x2 x3 x4 x5 = some res → W p l e (q_rm 2 52) s m args below meth c s.heap [] 0 0 (q_ZR below (some (.int res)) args s) (F0 m 21 ls []) := by
  have hx := C.1
  have hb := C.2.1
  intro n
  induction n with
  | zero =>
    intro x0 x1 x2 x3 x4 x5 ls hj hl hf
    cases hf
  | succ n ih_ =>
    intro x0 x1 x2 x3 x4 x5 ls hj hl hf
    have ih : ∀ (x0 : Nat) (x1 : Int32) (x2 : Int32) (x3 : Int32) (x4 : Int32) (x5 : Int32) (ls : Array Slot), q_J E s g s.heap [] → lv_has ls 9 [(0, .ref (q_ad E x0)), (1, .int x1), (2, .int x2), (3, .int x3), (4, .int x4), (5, .int x5)] → L_X3_safestGift_21 k128 g n x0 x1 x2 x3 x4 x5 = some res → W p l e (q_rm 2 52) s m args below meth c s.heap [] 0 0 (q_ZR below (some (.int res)) args s) (F0 m 21 ls []) := fun x0 x1 x2 x3 x4 x5 ls hj hl hf => ih_ hj hl hf
    unfold L_X3_safestGift_21 at hf
    refine lv_iload hx hb dX3_safestGift_21 (lv_at hl 5 rfl) ?_
    refine lv_aload_n hx hb dX3_safestGift_23 rfl (lv_at hl 0 rfl) ?_
    refine lv_iconst (v := 5) hx hb dX3_safestGift_24 qi_5 ?_
    refine q_cVRI C hj cw_X3_55 (As := [.int 5]) (rest := [.int x5]) hf (fun v9 h9 => c_X3_count l E h9) rfl hl rfl rfl rfl dX3_safestGift_25 ⟨Nat.zero_le _, Nat.zero_le _⟩ (fun v1 hf => ?_)
    refine q_icge C (tgt := 128) dX3_safestGift_28 (by decide) hf (fun hf => ?_) (fun hf => ?_)
    · exact hk128 _ _ _ _ _  ls hj (lv_sub hl [0, 1, 2, 3, 4] rfl) hf
    · refine lv_iconst (v := 0) hx hb dX3_safestGift_31 qi_0 ?_
      refine lv_istore (lv' := [(6, .int 0), (0, .ref (q_ad E x0)), (1, .int x1), (2, .int x2), (3, .int x3), (4, .int x4), (5, .int x5)]) hx hb dX3_safestGift_32 hl (by decide) rfl (fun ls hl => ?_)
      refine w_L_X3_safestGift_34 C (fun y2 y3 y4 y5 y6 y7 ls hj hl hf => ?_) hj (lv_sub hl [1, 2, 3, 4, 5, 6, 0] rfl) hf
      · refine lv_iinc (v := y7 + 1) (lv' := [(5, .int (y7 + 1)), (0, .ref (q_ad E y2)), (1, .int y3), (2, .int y4), (3, .int y5), (4, .int y6)]) hx hb dX3_safestGift_122 hl (k := 5) rfl (by rw [qi_1]) (by decide) rfl (fun ls hl => ?_)
        refine lv_goto (tgt := 21) hx hb dX3_safestGift_125 (by decide) ?_
        exact ih _ _ _ _ _ _  ls hj (lv_sub hl [1, 2, 3, 4, 5, 0] rfl) hf
def L_X3_safestGift_8  (g : qS) : Nat → Nat → Int32 → Int32 → Int32 → Int32 → Option Int32
  | 0, _, _, _, _, _ => none
  | n + 1, x0, x1, x2, x3, x4 => (f_X3_count g x0 0).bind fun v1 => if v1 ≤ x4 then (some x2) else (L_X3_safestGift_21 (fun y2 y3 y4 y5 y6 => L_X3_safestGift_8 g n y2 y3 y4 y5 (y6 + 1)) g 1000000000 x0 x1 x2 x3 x4 0)
set_option maxHeartbeats 4000000 in
set_option maxRecDepth 100000 in
theorem w_L_X3_safestGift_8 {l : Launch} {E : qV} {p : Program} {e : Env} {s : State} {m : MethodId} {args : Array Value} {below : List Frame} {meth : Method} {c : Code}  {g : qS} {res : Int32} (C : q_C E p s m args meth c cX3_safestGift RX3 9 (some .int))  : ∀ {n : Nat} {x0 : Nat} {x1 : Int32} {x2 : Int32} {x3 : Int32} {x4 : Int32} {ls : Array Slot}, q_J E s g s.heap [] → lv_has ls 9 [(0, .ref (q_ad E x0)), (1, .int x1), (2, .int x2), (3, .int x3), (4, .int x4)] → L_X3_safestGift_8 g n x0 x1 x2 x3 x4 = some res → W p l e (q_rm 2 52) s m args below meth c s.heap [] 0 0 (q_ZR below (some (.int res)) args s) (F0 m 8 ls []) := by
  have hx := C.1
  have hb := C.2.1
  intro n
  induction n with
  | zero =>
    intro x0 x1 x2 x3 x4 ls hj hl hf
    cases hf
  | succ n ih_ =>
    intro x0 x1 x2 x3 x4 ls hj hl hf
    have ih : ∀ (x0 : Nat) (x1 : Int32) (x2 : Int32) (x3 : Int32) (x4 : Int32) (ls : Array Slot), q_J E s g s.heap [] → lv_has ls 9 [(0, .ref (q_ad E x0)), (1, .int x1), (2, .int x2), (3, .int x3), (4, .int x4)] → L_X3_safestGift_8 g n x0 x1 x2 x3 x4 = some res → W p l e (q_rm 2 52) s m args below meth c s.heap [] 0 0 (q_ZR below (some (.int res)) args s) (F0 m 8 ls []) := fun x0 x1 x2 x3 x4 ls hj hl hf => ih_ hj hl hf
    unfold L_X3_safestGift_8 at hf
    refine lv_iload hx hb dX3_safestGift_8 (lv_at hl 4 rfl) ?_
    refine lv_aload_n hx hb dX3_safestGift_10 rfl (lv_at hl 0 rfl) ?_
    refine lv_iconst (v := 0) hx hb dX3_safestGift_11 qi_0 ?_
    refine q_cVRI C hj cw_X3_55 (As := [.int 0]) (rest := [.int x4]) hf (fun v9 h9 => c_X3_count l E h9) rfl hl rfl rfl rfl dX3_safestGift_12 ⟨Nat.zero_le _, Nat.zero_le _⟩ (fun v1 hf => ?_)
    refine q_icge C (tgt := 134) dX3_safestGift_15 (by decide) hf (fun hf => ?_) (fun hf => ?_)
    · refine lv_iload_n hx hb dX3_safestGift_134 rfl (lv_at hl 2 rfl) ?_
      exact q_iretR C dX3_safestGift_135 hf
    · refine lv_iconst (v := 0) hx hb dX3_safestGift_18 qi_0 ?_
      refine lv_istore (lv' := [(5, .int 0), (0, .ref (q_ad E x0)), (1, .int x1), (2, .int x2), (3, .int x3), (4, .int x4)]) hx hb dX3_safestGift_19 hl (by decide) rfl (fun ls hl => ?_)
      refine w_L_X3_safestGift_21 C (fun y2 y3 y4 y5 y6 ls hj hl hf => ?_) hj (lv_sub hl [1, 2, 3, 4, 5, 0] rfl) hf
      · refine lv_iinc (v := y6 + 1) (lv' := [(4, .int (y6 + 1)), (0, .ref (q_ad E y2)), (1, .int y3), (2, .int y4), (3, .int y5)]) hx hb dX3_safestGift_128 hl (k := 4) rfl (by rw [qi_1]) (by decide) rfl (fun ls hl => ?_)
        refine lv_goto (tgt := 8) hx hb dX3_safestGift_131 (by decide) ?_
        exact ih _ _ _ _ _  ls hj (lv_sub hl [1, 2, 3, 4, 0] rfl) hf
def f_X3_safestGift (g : qS) (a0 : Nat) (a1 : Int32) : Option Int32 := (g_C g a0 2).bind fun _ => L_X3_safestGift_8 g 1000000000 a0 a1 (-2) 0 0
set_option maxHeartbeats 4000000 in
set_option maxRecDepth 100000 in
theorem c_X3_safestGift (l : Launch) (E : qV) {g : qS} {a0 : Nat} {a1 : Int32} {res : Int32} (hf : f_X3_safestGift g a0 a1 = some res) : q_MR l yX3_safestGift cX3_safestGift 9 (some .int) 2 52 E [.ref (q_ad E a0), .int a1] g (some (.int res)) ∧ ∃ fs, g a0 = some (.inr (2, fs)) := by
  unfold f_X3_safestGift at hf
  obtain ⟨u9, hu9, hf⟩ := q_ob hf
  refine ⟨q_ofR (by decide) rfl ?_, g_C_sp hu9⟩
  intro p e s m args below meth c ls C hw hl
  have hj : q_J E s g s.heap [] := ⟨hw, va_S.rf⟩
  have hx := C.1
  have hb := C.2.1
  have C : q_C E p s m args meth c cX3_safestGift RX3 9 (some .int) := C
  have hl : lv_has ls 9 [(0, .ref (q_ad E a0)), (1, .int a1)] := hl
  refine lv_bipush (v := -2) hx hb dX3_safestGift_0 (by decide) ?_
  refine lv_istore_n (lv' := [(2, .int (-2)), (0, .ref (q_ad E a0)), (1, .int a1)]) hx hb dX3_safestGift_2 rfl hl (by decide) rfl (fun ls hl => ?_)
  refine lv_iconst (v := 0) hx hb dX3_safestGift_3 qi_0 ?_
  refine lv_istore_n (lv' := [(3, .int 0), (2, .int (-2)), (0, .ref (q_ad E a0)), (1, .int a1)]) hx hb dX3_safestGift_4 rfl hl (by decide) rfl (fun ls hl => ?_)
  refine lv_iconst (v := 0) hx hb dX3_safestGift_5 qi_0 ?_
  refine lv_istore (lv' := [(4, .int 0), (3, .int 0), (2, .int (-2)), (0, .ref (q_ad E a0)), (1, .int a1)]) hx hb dX3_safestGift_6 hl (by decide) rfl (fun ls hl => ?_)
  refine w_L_X3_safestGift_8 C  hj (lv_sub hl [3, 4, 2, 1, 0] rfl) hf
def f_X3_honourOf (g : qS) (a0 : Nat) (a1 : Int32) : Option Int32 := (g_C g a0 2).bind fun _ => (g_R g a0 2 0).bind fun v1 => (f_X8_get g v1 a1 0).bind fun v2 => if v2 = 2 then (some 4) else (if v2 = 1 then (some 2) else (some 1))
set_option maxHeartbeats 4000000 in
set_option maxRecDepth 100000 in
theorem c_X3_honourOf (l : Launch) (E : qV) {g : qS} {a0 : Nat} {a1 : Int32} {res : Int32} (hf : f_X3_honourOf g a0 a1 = some res) : q_MR l yX3_honourOf cX3_honourOf 3 (some .int) 1 23 E [.ref (q_ad E a0), .int a1] g (some (.int res)) ∧ ∃ fs, g a0 = some (.inr (2, fs)) := by
  unfold f_X3_honourOf at hf
  obtain ⟨u9, hu9, hf⟩ := q_ob hf
  refine ⟨q_ofR (by decide) rfl ?_, g_C_sp hu9⟩
  intro p e s m args below meth c ls C hw hl
  have hj : q_J E s g s.heap [] := ⟨hw, va_S.rf⟩
  have hx := C.1
  have hb := C.2.1
  have C : q_C E p s m args meth c cX3_honourOf RX3 3 (some .int) := C
  have hl : lv_has ls 3 [(0, .ref (q_ad E a0)), (1, .int a1)] := hl
  refine lv_aload_n hx hb dX3_honourOf_0 rfl (lv_at hl 0 rfl) ?_
  refine q_getR C hj lk_X3_14 dX3_honourOf_1 hf (fun v1 hf => ?_)
  refine lv_iload_n hx hb dX3_honourOf_4 rfl (lv_at hl 1 rfl) ?_
  refine lv_iconst (v := 0) hx hb dX3_honourOf_5 qi_0 ?_
  refine q_cVRI C hj cw_X3_51 (As := [.int a1, .int 0]) (rest := []) hf (fun v9 h9 => c_X8_get l E h9) rfl hl rfl rfl rfl dX3_honourOf_6 ⟨Nat.zero_le _, Nat.zero_le _⟩ (fun v2 hf => ?_)
  refine lv_istore_n (lv' := [(2, .int v2), (0, .ref (q_ad E a0)), (1, .int a1)]) hx hb dX3_honourOf_9 rfl hl (by decide) rfl (fun ls hl => ?_)
  refine lv_iload_n hx hb dX3_honourOf_10 rfl (lv_at hl 0 rfl) ?_
  refine lv_iconst (v := 2) hx hb dX3_honourOf_11 qi_2 ?_
  refine q_icne C (tgt := 19) dX3_honourOf_12 (by decide) hf (fun hf => ?_) (fun hf => ?_)
  · refine lv_iload_n hx hb dX3_honourOf_19 rfl (lv_at hl 0 rfl) ?_
    refine lv_iconst (v := 1) hx hb dX3_honourOf_20 qi_1 ?_
    refine q_icne C (tgt := 28) dX3_honourOf_21 (by decide) hf (fun hf => ?_) (fun hf => ?_)
    · refine lv_iconst (v := 1) hx hb dX3_honourOf_28 qi_1 ?_
      exact q_iretR C dX3_honourOf_29 hf
    · refine lv_iconst (v := 2) hx hb dX3_honourOf_24 qi_2 ?_
      refine lv_goto (tgt := 29) hx hb dX3_honourOf_25 (by decide) ?_
      exact q_iretR C dX3_honourOf_29 hf
  · refine lv_iconst (v := 4) hx hb dX3_honourOf_15 qi_4 ?_
    refine lv_goto (tgt := 29) hx hb dX3_honourOf_16 (by decide) ?_
    exact q_iretR C dX3_honourOf_29 hf
def f_X3_canGive (g : qS) (a0 : Nat) (a1 : Int32) (a2 : Int32) (a3 : Int32) (a4 : Int32) (a5 : Int32) : Option Int32 := (g_C g a0 2).bind fun _ => (f_X3_sharedTram g a0 a2 a4 a1).bind fun v1 => if v1 < 0 then (some 0) else ((f_X3_roomTold g a0 a4).bind fun v2 => if v2 ≤ a5 then (some 0) else ((f_X3_nearness g a0 a2 a3 a4 v1 a5).bind fun v3 => (f_X3_isNoticed g a0 v3).bind fun v4 => if v4 = 0 then (some 1) else (some 0)))
set_option maxHeartbeats 4000000 in
set_option maxRecDepth 100000 in
theorem c_X3_canGive (l : Launch) (E : qV) {g : qS} {a0 : Nat} {a1 : Int32} {a2 : Int32} {a3 : Int32} {a4 : Int32} {a5 : Int32} {res : Int32} (hf : f_X3_canGive g a0 a1 a2 a3 a4 a5 = some res) : q_MR l yX3_canGive cX3_canGive 7 (some .boolean) 2 52 E [.ref (q_ad E a0), .int a1, .int a2, .int a3, .int a4, .int a5] g (some (.int res)) ∧ ∃ fs, g a0 = some (.inr (2, fs)) := by
  unfold f_X3_canGive at hf
  obtain ⟨u9, hu9, hf⟩ := q_ob hf
  refine ⟨q_ofR (by decide) rfl ?_, g_C_sp hu9⟩
  intro p e s m args below meth c ls C hw hl
  have hj : q_J E s g s.heap [] := ⟨hw, va_S.rf⟩
  have hx := C.1
  have hb := C.2.1
  have C : q_C E p s m args meth c cX3_canGive RX3 7 (some .boolean) := C
  have hl : lv_has ls 7 [(0, .ref (q_ad E a0)), (1, .int a1), (2, .int a2), (3, .int a3), (4, .int a4), (5, .int a5)] := hl
  refine lv_aload_n hx hb dX3_canGive_0 rfl (lv_at hl 0 rfl) ?_
  refine lv_iload_n hx hb dX3_canGive_1 rfl (lv_at hl 2 rfl) ?_
  refine lv_iload hx hb dX3_canGive_2 (lv_at hl 4 rfl) ?_
  refine lv_iload_n hx hb dX3_canGive_4 rfl (lv_at hl 1 rfl) ?_
  refine q_cVRI C hj cw_X3_71 (As := [.int a2, .int a4, .int a1]) (rest := []) hf (fun v9 h9 => c_X3_sharedTram l E h9) rfl hl rfl rfl rfl dX3_canGive_5 ⟨Nat.zero_le _, Nat.zero_le _⟩ (fun v1 hf => ?_)
  refine lv_istore (lv' := [(6, .int v1), (0, .ref (q_ad E a0)), (1, .int a1), (2, .int a2), (3, .int a3), (4, .int a4), (5, .int a5)]) hx hb dX3_canGive_8 hl (by decide) rfl (fun ls hl => ?_)
  refine lv_iload hx hb dX3_canGive_10 (lv_at hl 0 rfl) ?_
  refine q_iflt C (tgt := 49) dX3_canGive_12 (by decide) hf (fun hf => ?_) (fun hf => ?_)
  · refine lv_iconst (v := 0) hx hb dX3_canGive_49 qi_0 ?_
    exact q_z0retR C dX3_canGive_50 hf
  · refine lv_iload hx hb dX3_canGive_15 (lv_at hl 6 rfl) ?_
    refine lv_aload_n hx hb dX3_canGive_17 rfl (lv_at hl 1 rfl) ?_
    refine lv_iload hx hb dX3_canGive_18 (lv_at hl 5 rfl) ?_
    refine q_cVRI C hj cw_X3_75 (As := [.int a4]) (rest := [.int a5]) hf (fun v9 h9 => c_X3_roomTold l E h9) rfl hl rfl rfl rfl dX3_canGive_20 ⟨Nat.zero_le _, Nat.zero_le _⟩ (fun v2 hf => ?_)
    refine q_icge C (tgt := 49) dX3_canGive_23 (by decide) hf (fun hf => ?_) (fun hf => ?_)
    · refine lv_iconst (v := 0) hx hb dX3_canGive_49 qi_0 ?_
      exact q_z0retR C dX3_canGive_50 hf
    · refine lv_aload_n hx hb dX3_canGive_26 rfl (lv_at hl 1 rfl) ?_
      refine lv_aload_n hx hb dX3_canGive_27 rfl (lv_at hl 1 rfl) ?_
      refine lv_iload_n hx hb dX3_canGive_28 rfl (lv_at hl 3 rfl) ?_
      refine lv_iload_n hx hb dX3_canGive_29 rfl (lv_at hl 4 rfl) ?_
      refine lv_iload hx hb dX3_canGive_30 (lv_at hl 5 rfl) ?_
      refine lv_iload hx hb dX3_canGive_32 (lv_at hl 0 rfl) ?_
      refine lv_iload hx hb dX3_canGive_34 (lv_at hl 6 rfl) ?_
      refine q_cVRI C hj cw_X3_59 (As := [.int a2, .int a3, .int a4, .int v1, .int a5]) (rest := [.ref (q_ad E a0)]) hf (fun v9 h9 => c_X3_nearness l E h9) rfl hl rfl rfl rfl dX3_canGive_36 ⟨Nat.zero_le _, Nat.zero_le _⟩ (fun v3 hf => ?_)
      refine q_cVRI C hj cw_X3_78 (As := [.int v3]) (rest := []) hf (fun v9 h9 => c_X3_isNoticed l E h9) rfl hl rfl rfl rfl dX3_canGive_39 ⟨Nat.zero_le _, Nat.zero_le _⟩ (fun v4 hf => ?_)
      refine q_ifne C (tgt := 49) dX3_canGive_42 (by decide) hf (fun hf => ?_) (fun hf => ?_)
      · refine lv_iconst (v := 0) hx hb dX3_canGive_49 qi_0 ?_
        exact q_z0retR C dX3_canGive_50 hf
      · refine lv_iconst (v := 1) hx hb dX3_canGive_45 qi_1 ?_
        refine lv_goto (tgt := 50) hx hb dX3_canGive_46 (by decide) ?_
        exact q_z1retR C dX3_canGive_50 hf
def L_X3_canEverGive_25 (k56 : Nat → Int32 → Int32 → Int32 → Option Int32) (g : qS) : Nat → Nat → Int32 → Int32 → Int32 → Int32 → Option Int32
  | 0, _, _, _, _, _ => none
  | n + 1, x0, x1, x2, x3, x4 => (f_X3_count g x0 3).bind fun v1 => if v1 ≤ x4 then (k56 x0 x1 x2 x3) else ((f_X3_canGive g x0 x2 x3 x1 x4 0).bind fun v2 => if v2 = 0 then (L_X3_canEverGive_25 k56 g n x0 x1 x2 x3 (x4 + 1)) else (some 1))
set_option maxHeartbeats 4000000 in
set_option maxRecDepth 100000 in
theorem w_L_X3_canEverGive_25 {l : Launch} {E : qV} {p : Program} {e : Env} {s : State} {m : MethodId} {args : Array Value} {below : List Frame} {meth : Method} {c : Code} {k56 : Nat → Int32 → Int32 → Int32 → Option Int32} {g : qS} {res : Int32} (C : q_C E p s m args meth c cX3_canEverGive RX3 5 (some .boolean)) (hk56 : ∀ (x0 : Nat) (x1 : Int32) (x2 : Int32) (x3 : Int32) (ls : Array Slot), q_J E s g s.heap [] → lv_has ls 5 [(0, .ref (q_ad E x0)), (1, .int x1), (2, .int x2), (3, .int x3)] → k56 x0 x1 x2 x3 = some res → W p l e (q_rm 3 78) s m args below meth c s.heap [] 0 0 (q_ZR below (some (.int res)) args s) (F0 m 56 ls [])) : ∀ {n : Nat} {x0 : Nat} {x1 : Int32} {x2 : Int32} {x3 : Int32} {x4 : Int32} {ls : Array Slot}, q_J E s g s.heap [] → lv_has ls 5 [(0, .ref (q_ad E x0)), (1, .int x1), (2, .int x2), (3, .int x3), (4, .int x4)] → L_X3_canEverGive_25 k56 g n x0 x1 x2 x3 x4 = some res → W p l e (q_rm 3 78) s m args below meth c s.heap [] 0 0 (q_ZR below (some (.int res)) args s) (F0 m 25 ls []) := by
  have hx := C.1
  have hb := C.2.1
  intro n
  induction n with
  | zero =>
    intro x0 x1 x2 x3 x4 ls hj hl hf
    cases hf
  | succ n ih_ =>
    intro x0 x1 x2 x3 x4 ls hj hl hf
    have ih : ∀ (x0 : Nat) (x1 : Int32) (x2 : Int32) (x3 : Int32) (x4 : Int32) (ls : Array Slot), q_J E s g s.heap [] → lv_has ls 5 [(0, .ref (q_ad E x0)), (1, .int x1), (2, .int x2), (3, .int x3), (4, .int x4)] → L_X3_canEverGive_25 k56 g n x0 x1 x2 x3 x4 = some res → W p l e (q_rm 3 78) s m args below meth c s.heap [] 0 0 (q_ZR below (some (.int res)) args s) (F0 m 25 ls []) := fun x0 x1 x2 x3 x4 ls hj hl hf => ih_ hj hl hf
    unfold L_X3_canEverGive_25 at hf
    refine lv_iload hx hb dX3_canEverGive_25 (lv_at hl 4 rfl) ?_
    refine lv_aload_n hx hb dX3_canEverGive_27 rfl (lv_at hl 0 rfl) ?_
    refine lv_iconst (v := 3) hx hb dX3_canEverGive_28 qi_3 ?_
    refine q_cVRI C hj cw_X3_55 (As := [.int 3]) (rest := [.int x4]) hf (fun v9 h9 => c_X3_count l E h9) rfl hl rfl rfl rfl dX3_canEverGive_29 ⟨Nat.zero_le _, Nat.zero_le _⟩ (fun v1 hf => ?_)
    refine q_icge C (tgt := 56) dX3_canEverGive_32 (by decide) hf (fun hf => ?_) (fun hf => ?_)
    · exact hk56 _ _ _ _  ls hj (lv_sub hl [0, 1, 2, 3] rfl) hf
    · refine lv_aload_n hx hb dX3_canEverGive_35 rfl (lv_at hl 0 rfl) ?_
      refine lv_iload_n hx hb dX3_canEverGive_36 rfl (lv_at hl 2 rfl) ?_
      refine lv_iload_n hx hb dX3_canEverGive_37 rfl (lv_at hl 3 rfl) ?_
      refine lv_iload_n hx hb dX3_canEverGive_38 rfl (lv_at hl 1 rfl) ?_
      refine lv_iload hx hb dX3_canEverGive_39 (lv_at hl 4 rfl) ?_
      refine lv_iconst (v := 0) hx hb dX3_canEverGive_41 qi_0 ?_
      refine q_cVRI C hj cw_X3_85 (As := [.int x2, .int x3, .int x1, .int x4, .int 0]) (rest := []) hf (fun v9 h9 => c_X3_canGive l E h9) rfl hl rfl rfl rfl dX3_canEverGive_42 ⟨Nat.zero_le _, Nat.zero_le _⟩ (fun v2 hf => ?_)
      refine q_ifeq C (tgt := 50) dX3_canEverGive_45 (by decide) hf (fun hf => ?_) (fun hf => ?_)
      · refine lv_iinc (v := x4 + 1) (lv' := [(4, .int (x4 + 1)), (0, .ref (q_ad E x0)), (1, .int x1), (2, .int x2), (3, .int x3)]) hx hb dX3_canEverGive_50 hl (k := 4) rfl (by rw [qi_1]) (by decide) rfl (fun ls hl => ?_)
        refine lv_goto (tgt := 25) hx hb dX3_canEverGive_53 (by decide) ?_
        exact ih _ _ _ _ _  ls hj (lv_sub hl [1, 2, 3, 4, 0] rfl) hf
      · refine lv_iconst (v := 1) hx hb dX3_canEverGive_48 qi_1 ?_
        exact q_z1retR C dX3_canEverGive_49 hf
def L_X3_canEverGive_13 (k62 : Nat → Int32 → Int32 → Option Int32) (g : qS) : Nat → Nat → Int32 → Int32 → Int32 → Option Int32
  | 0, _, _, _, _ => none
  | n + 1, x0, x1, x2, x3 => (f_X3_count g x0 5).bind fun v1 => if v1 ≤ x3 then (k62 x0 x1 x2) else (L_X3_canEverGive_25 (fun y2 y3 y4 y5 => L_X3_canEverGive_13 k62 g n y2 y3 y4 (y5 + 1)) g 1000000000 x0 x1 x2 x3 0)
set_option maxHeartbeats 4000000 in
set_option maxRecDepth 100000 in
theorem w_L_X3_canEverGive_13 {l : Launch} {E : qV} {p : Program} {e : Env} {s : State} {m : MethodId} {args : Array Value} {below : List Frame} {meth : Method} {c : Code} {k62 : Nat → Int32 → Int32 → Option Int32} {g : qS} {res : Int32} (C : q_C E p s m args meth c cX3_canEverGive RX3 5 (some .boolean)) (hk62 : ∀ (x0 : Nat) (x1 : Int32) (x2 : Int32) (ls : Array Slot), q_J E s g s.heap [] → lv_has ls 5 [(0, .ref (q_ad E x0)), (1, .int x1), (2, .int x2)] → k62 x0 x1 x2 = some res → W p l e (q_rm 3 78) s m args below meth c s.heap [] 0 0 (q_ZR below (some (.int res)) args s) (F0 m 62 ls [])) : ∀ {n : Nat} {x0 : Nat} {x1 : Int32} {x2 : Int32} {x3 : Int32} {ls : Array Slot}, q_J E s g s.heap [] → lv_has ls 5 [(0, .ref (q_ad E x0)), (1, .int x1), (2, .int x2), (3, .int x3)] → L_X3_canEverGive_13 k62 g n x0 x1 x2 x3 = some res → W p l e (q_rm 3 78) s m args below meth c s.heap [] 0 0 (q_ZR below (some (.int res)) args s) (F0 m 13 ls []) := by
  have hx := C.1
  have hb := C.2.1
  intro n
  induction n with
  | zero =>
    intro x0 x1 x2 x3 ls hj hl hf
    cases hf
  | succ n ih_ =>
    intro x0 x1 x2 x3 ls hj hl hf
    have ih : ∀ (x0 : Nat) (x1 : Int32) (x2 : Int32) (x3 : Int32) (ls : Array Slot), q_J E s g s.heap [] → lv_has ls 5 [(0, .ref (q_ad E x0)), (1, .int x1), (2, .int x2), (3, .int x3)] → L_X3_canEverGive_13 k62 g n x0 x1 x2 x3 = some res → W p l e (q_rm 3 78) s m args below meth c s.heap [] 0 0 (q_ZR below (some (.int res)) args s) (F0 m 13 ls []) := fun x0 x1 x2 x3 ls hj hl hf => ih_ hj hl hf
    unfold L_X3_canEverGive_13 at hf
    refine lv_iload_n hx hb dX3_canEverGive_13 rfl (lv_at hl 3 rfl) ?_
    refine lv_aload_n hx hb dX3_canEverGive_14 rfl (lv_at hl 0 rfl) ?_
    refine lv_iconst (v := 5) hx hb dX3_canEverGive_15 qi_5 ?_
    refine q_cVRI C hj cw_X3_55 (As := [.int 5]) (rest := [.int x3]) hf (fun v9 h9 => c_X3_count l E h9) rfl hl rfl rfl rfl dX3_canEverGive_16 ⟨Nat.zero_le _, Nat.zero_le _⟩ (fun v1 hf => ?_)
    refine q_icge C (tgt := 62) dX3_canEverGive_19 (by decide) hf (fun hf => ?_) (fun hf => ?_)
    · exact hk62 _ _ _  ls hj (lv_sub hl [0, 1, 2] rfl) hf
    · refine lv_iconst (v := 0) hx hb dX3_canEverGive_22 qi_0 ?_
      refine lv_istore (lv' := [(4, .int 0), (0, .ref (q_ad E x0)), (1, .int x1), (2, .int x2), (3, .int x3)]) hx hb dX3_canEverGive_23 hl (by decide) rfl (fun ls hl => ?_)
      refine w_L_X3_canEverGive_25 C (fun y2 y3 y4 y5 ls hj hl hf => ?_) hj (lv_sub hl [1, 2, 3, 4, 0] rfl) hf
      · refine lv_iinc (v := y5 + 1) (lv' := [(3, .int (y5 + 1)), (0, .ref (q_ad E y2)), (1, .int y3), (2, .int y4)]) hx hb dX3_canEverGive_56 hl (k := 3) rfl (by rw [qi_1]) (by decide) rfl (fun ls hl => ?_)
        refine lv_goto (tgt := 13) hx hb dX3_canEverGive_59 (by decide) ?_
        exact ih _ _ _ _  ls hj (lv_sub hl [1, 2, 3, 0] rfl) hf
def L_X3_canEverGive_2  (g : qS) : Nat → Nat → Int32 → Int32 → Option Int32
  | 0, _, _, _ => none
  | n + 1, x0, x1, x2 => (f_X3_count g x0 0).bind fun v1 => if v1 ≤ x2 then (some 0) else (L_X3_canEverGive_13 (fun y2 y3 y4 => L_X3_canEverGive_2 g n y2 y3 (y4 + 1)) g 1000000000 x0 x1 x2 0)
set_option maxHeartbeats 4000000 in
set_option maxRecDepth 100000 in
theorem w_L_X3_canEverGive_2 {l : Launch} {E : qV} {p : Program} {e : Env} {s : State} {m : MethodId} {args : Array Value} {below : List Frame} {meth : Method} {c : Code}  {g : qS} {res : Int32} (C : q_C E p s m args meth c cX3_canEverGive RX3 5 (some .boolean))  : ∀ {n : Nat} {x0 : Nat} {x1 : Int32} {x2 : Int32} {ls : Array Slot}, q_J E s g s.heap [] → lv_has ls 5 [(0, .ref (q_ad E x0)), (1, .int x1), (2, .int x2)] → L_X3_canEverGive_2 g n x0 x1 x2 = some res → W p l e (q_rm 3 78) s m args below meth c s.heap [] 0 0 (q_ZR below (some (.int res)) args s) (F0 m 2 ls []) := by
  have hx := C.1
  have hb := C.2.1
  intro n
  induction n with
  | zero =>
    intro x0 x1 x2 ls hj hl hf
    cases hf
  | succ n ih_ =>
    intro x0 x1 x2 ls hj hl hf
    have ih : ∀ (x0 : Nat) (x1 : Int32) (x2 : Int32) (ls : Array Slot), q_J E s g s.heap [] → lv_has ls 5 [(0, .ref (q_ad E x0)), (1, .int x1), (2, .int x2)] → L_X3_canEverGive_2 g n x0 x1 x2 = some res → W p l e (q_rm 3 78) s m args below meth c s.heap [] 0 0 (q_ZR below (some (.int res)) args s) (F0 m 2 ls []) := fun x0 x1 x2 ls hj hl hf => ih_ hj hl hf
    unfold L_X3_canEverGive_2 at hf
    refine lv_iload_n hx hb dX3_canEverGive_2 rfl (lv_at hl 2 rfl) ?_
    refine lv_aload_n hx hb dX3_canEverGive_3 rfl (lv_at hl 0 rfl) ?_
    refine lv_iconst (v := 0) hx hb dX3_canEverGive_4 qi_0 ?_
    refine q_cVRI C hj cw_X3_55 (As := [.int 0]) (rest := [.int x2]) hf (fun v9 h9 => c_X3_count l E h9) rfl hl rfl rfl rfl dX3_canEverGive_5 ⟨Nat.zero_le _, Nat.zero_le _⟩ (fun v1 hf => ?_)
    refine q_icge C (tgt := 68) dX3_canEverGive_8 (by decide) hf (fun hf => ?_) (fun hf => ?_)
    · refine lv_iconst (v := 0) hx hb dX3_canEverGive_68 qi_0 ?_
      exact q_z0retR C dX3_canEverGive_69 hf
    · refine lv_iconst (v := 0) hx hb dX3_canEverGive_11 qi_0 ?_
      refine lv_istore_n (lv' := [(3, .int 0), (0, .ref (q_ad E x0)), (1, .int x1), (2, .int x2)]) hx hb dX3_canEverGive_12 rfl hl (by decide) rfl (fun ls hl => ?_)
      refine w_L_X3_canEverGive_13 C (fun y2 y3 y4 ls hj hl hf => ?_) hj (lv_sub hl [1, 2, 3, 0] rfl) hf
      · refine lv_iinc (v := y4 + 1) (lv' := [(2, .int (y4 + 1)), (0, .ref (q_ad E y2)), (1, .int y3)]) hx hb dX3_canEverGive_62 hl (k := 2) rfl (by rw [qi_1]) (by decide) rfl (fun ls hl => ?_)
        refine lv_goto (tgt := 2) hx hb dX3_canEverGive_65 (by decide) ?_
        exact ih _ _ _  ls hj (lv_sub hl [1, 2, 0] rfl) hf
def f_X3_canEverGive (g : qS) (a0 : Nat) (a1 : Int32) : Option Int32 := (g_C g a0 2).bind fun _ => L_X3_canEverGive_2 g 1000000000 a0 a1 0
set_option maxHeartbeats 4000000 in
set_option maxRecDepth 100000 in
theorem c_X3_canEverGive (l : Launch) (E : qV) {g : qS} {a0 : Nat} {a1 : Int32} {res : Int32} (hf : f_X3_canEverGive g a0 a1 = some res) : q_MR l yX3_canEverGive cX3_canEverGive 5 (some .boolean) 3 78 E [.ref (q_ad E a0), .int a1] g (some (.int res)) ∧ ∃ fs, g a0 = some (.inr (2, fs)) := by
  unfold f_X3_canEverGive at hf
  obtain ⟨u9, hu9, hf⟩ := q_ob hf
  refine ⟨q_ofR (by decide) rfl ?_, g_C_sp hu9⟩
  intro p e s m args below meth c ls C hw hl
  have hj : q_J E s g s.heap [] := ⟨hw, va_S.rf⟩
  have hx := C.1
  have hb := C.2.1
  have C : q_C E p s m args meth c cX3_canEverGive RX3 5 (some .boolean) := C
  have hl : lv_has ls 5 [(0, .ref (q_ad E a0)), (1, .int a1)] := hl
  refine lv_iconst (v := 0) hx hb dX3_canEverGive_0 qi_0 ?_
  refine lv_istore_n (lv' := [(2, .int 0), (0, .ref (q_ad E a0)), (1, .int a1)]) hx hb dX3_canEverGive_1 rfl hl (by decide) rfl (fun ls hl => ?_)
  refine w_L_X3_canEverGive_2 C  hj (lv_sub hl [1, 2, 0] rfl) hf
def L_X3_neverGiven_4  (g : qS) : Nat → Nat → Int32 → Int32 → Option Int32
  | 0, _, _, _ => none
  | n + 1, x0, x1, x2 => (f_X3_count g x0 2).bind fun v1 => if v1 ≤ x2 then (some x1) else ((f_X3_canEverGive g x0 x2).bind fun v2 => if v2 = 0 then (L_X3_neverGiven_4 g n x0 (x1 ||| (1 <<< (x2 &&& 31))) (x2 + 1)) else (L_X3_neverGiven_4 g n x0 x1 (x2 + 1)))
set_option maxHeartbeats 4000000 in
set_option maxRecDepth 100000 in
theorem w_L_X3_neverGiven_4 {l : Launch} {E : qV} {p : Program} {e : Env} {s : State} {m : MethodId} {args : Array Value} {below : List Frame} {meth : Method} {c : Code}  {g : qS} {res : Int32} (C : q_C E p s m args meth c cX3_neverGiven RX3 3 (some .int))  : ∀ {n : Nat} {x0 : Nat} {x1 : Int32} {x2 : Int32} {ls : Array Slot}, q_J E s g s.heap [] → lv_has ls 3 [(0, .ref (q_ad E x0)), (1, .int x1), (2, .int x2)] → L_X3_neverGiven_4 g n x0 x1 x2 = some res → W p l e (q_rm 4 102) s m args below meth c s.heap [] 0 0 (q_ZR below (some (.int res)) args s) (F0 m 4 ls []) := by
  have hx := C.1
  have hb := C.2.1
  intro n
  induction n with
  | zero =>
    intro x0 x1 x2 ls hj hl hf
    cases hf
  | succ n ih_ =>
    intro x0 x1 x2 ls hj hl hf
    have ih : ∀ (x0 : Nat) (x1 : Int32) (x2 : Int32) (ls : Array Slot), q_J E s g s.heap [] → lv_has ls 3 [(0, .ref (q_ad E x0)), (1, .int x1), (2, .int x2)] → L_X3_neverGiven_4 g n x0 x1 x2 = some res → W p l e (q_rm 4 102) s m args below meth c s.heap [] 0 0 (q_ZR below (some (.int res)) args s) (F0 m 4 ls []) := fun x0 x1 x2 ls hj hl hf => ih_ hj hl hf
    unfold L_X3_neverGiven_4 at hf
    refine lv_iload_n hx hb dX3_neverGiven_4 rfl (lv_at hl 2 rfl) ?_
    refine lv_aload_n hx hb dX3_neverGiven_5 rfl (lv_at hl 0 rfl) ?_
    refine lv_iconst (v := 2) hx hb dX3_neverGiven_6 qi_2 ?_
    refine q_cVRI C hj cw_X3_55 (As := [.int 2]) (rest := [.int x2]) hf (fun v9 h9 => c_X3_count l E h9) rfl hl rfl rfl rfl dX3_neverGiven_7 ⟨Nat.zero_le _, Nat.zero_le _⟩ (fun v1 hf => ?_)
    refine q_icge C (tgt := 33) dX3_neverGiven_10 (by decide) hf (fun hf => ?_) (fun hf => ?_)
    · refine lv_iload_n hx hb dX3_neverGiven_33 rfl (lv_at hl 1 rfl) ?_
      exact q_iretR C dX3_neverGiven_34 hf
    · refine lv_aload_n hx hb dX3_neverGiven_13 rfl (lv_at hl 0 rfl) ?_
      refine lv_iload_n hx hb dX3_neverGiven_14 rfl (lv_at hl 2 rfl) ?_
      refine q_cVRI C hj cw_X3_82 (As := [.int x2]) (rest := []) hf (fun v9 h9 => c_X3_canEverGive l E h9) rfl hl rfl rfl rfl dX3_neverGiven_15 ⟨Nat.zero_le _, Nat.zero_le _⟩ (fun v2 hf => ?_)
      refine q_ifne C (tgt := 27) dX3_neverGiven_18 (by decide) hf (fun hf => ?_) (fun hf => ?_)
      · refine lv_iinc (v := x2 + 1) (lv' := [(2, .int (x2 + 1)), (0, .ref (q_ad E x0)), (1, .int x1)]) hx hb dX3_neverGiven_27 hl (k := 2) rfl (by rw [qi_1]) (by decide) rfl (fun ls hl => ?_)
        refine lv_goto (tgt := 4) hx hb dX3_neverGiven_30 (by decide) ?_
        exact ih _ _ _  ls hj (lv_sub hl [1, 2, 0] rfl) hf
      · refine lv_iload_n hx hb dX3_neverGiven_21 rfl (lv_at hl 1 rfl) ?_
        refine lv_iconst (v := 1) hx hb dX3_neverGiven_22 qi_1 ?_
        refine lv_iload_n hx hb dX3_neverGiven_23 rfl (lv_at hl 2 rfl) ?_
        refine lv_ishl hx hb dX3_neverGiven_24 ?_
        refine lv_ior hx hb dX3_neverGiven_25 ?_
        refine lv_istore_n (lv' := [(1, .int (x1 ||| (1 <<< (x2 &&& 31)))), (0, .ref (q_ad E x0)), (2, .int x2)]) hx hb dX3_neverGiven_26 rfl hl (by decide) rfl (fun ls hl => ?_)
        refine lv_iinc (v := x2 + 1) (lv' := [(2, .int (x2 + 1)), (1, .int (x1 ||| (1 <<< (x2 &&& 31)))), (0, .ref (q_ad E x0))]) hx hb dX3_neverGiven_27 hl (k := 2) rfl (by rw [qi_1]) (by decide) rfl (fun ls hl => ?_)
        refine lv_goto (tgt := 4) hx hb dX3_neverGiven_30 (by decide) ?_
        exact ih _ _ _  ls hj (lv_sub hl [2, 1, 0] rfl) hf
def f_X3_neverGiven (g : qS) (a0 : Nat) : Option Int32 := (g_C g a0 2).bind fun _ => L_X3_neverGiven_4 g 1000000000 a0 0 0
set_option maxHeartbeats 4000000 in
set_option maxRecDepth 100000 in
theorem c_X3_neverGiven (l : Launch) (E : qV) {g : qS} {a0 : Nat} {res : Int32} (hf : f_X3_neverGiven g a0 = some res) : q_MR l yX3_neverGiven cX3_neverGiven 3 (some .int) 4 102 E [.ref (q_ad E a0)] g (some (.int res)) ∧ ∃ fs, g a0 = some (.inr (2, fs)) := by
  unfold f_X3_neverGiven at hf
  obtain ⟨u9, hu9, hf⟩ := q_ob hf
  refine ⟨q_ofR (by decide) rfl ?_, g_C_sp hu9⟩
  intro p e s m args below meth c ls C hw hl
  have hj : q_J E s g s.heap [] := ⟨hw, va_S.rf⟩
  have hx := C.1
  have hb := C.2.1
  have C : q_C E p s m args meth c cX3_neverGiven RX3 3 (some .int) := C
  have hl : lv_has ls 3 [(0, .ref (q_ad E a0))] := hl
  refine lv_iconst (v := 0) hx hb dX3_neverGiven_0 qi_0 ?_
  refine lv_istore_n (lv' := [(1, .int 0), (0, .ref (q_ad E a0))]) hx hb dX3_neverGiven_1 rfl hl (by decide) rfl (fun ls hl => ?_)
  refine lv_iconst (v := 0) hx hb dX3_neverGiven_2 qi_0 ?_
  refine lv_istore_n (lv' := [(2, .int 0), (1, .int 0), (0, .ref (q_ad E a0))]) hx hb dX3_neverGiven_3 rfl hl (by decide) rfl (fun ls hl => ?_)
  refine w_L_X3_neverGiven_4 C  hj (lv_sub hl [2, 1, 0] rfl) hf
def L_X3_anybodyTogether_13 (k40 : Nat → Int32 → Int32 → Option Int32) (g : qS) : Nat → Nat → Int32 → Int32 → Int32 → Option Int32
  | 0, _, _, _, _ => none
  | n + 1, x0, x1, x2, x3 => (f_X3_count g x0 3).bind fun v1 => if v1 ≤ x3 then (k40 x0 x1 x2) else ((f_X3_sharedTram g x0 x2 x3 x1).bind fun v2 => if v2 < 0 then (L_X3_anybodyTogether_13 k40 g n x0 x1 x2 (x3 + 1)) else (some 1))
set_option maxHeartbeats 4000000 in
set_option maxRecDepth 100000 in
theorem w_L_X3_anybodyTogether_13 {l : Launch} {E : qV} {p : Program} {e : Env} {s : State} {m : MethodId} {args : Array Value} {below : List Frame} {meth : Method} {c : Code} {k40 : Nat → Int32 → Int32 → Option Int32} {g : qS} {res : Int32} (C : q_C E p s m args meth c cX3_anybodyTogether RX3 4 (some .boolean)) (hk40 : ∀ (x0 : Nat) (x1 : Int32) (x2 : Int32) (ls : Array Slot), q_J E s g s.heap [] → lv_has ls 4 [(0, .ref (q_ad E x0)), (1, .int x1), (2, .int x2)] → k40 x0 x1 x2 = some res → W p l e (q_rm 2 47) s m args below meth c s.heap [] 0 0 (q_ZR below (some (.int res)) args s) (F0 m 40 ls [])) : ∀ {n : Nat} {x0 : Nat} {x1 : Int32} {x2 : Int32} {x3 : Int32} {ls : Array Slot}, q_J E s g s.heap [] → lv_has ls 4 [(0, .ref (q_ad E x0)), (1, .int x1), (2, .int x2), (3, .int x3)] → L_X3_anybodyTogether_13 k40 g n x0 x1 x2 x3 = some res → W p l e (q_rm 2 47) s m args below meth c s.heap [] 0 0 (q_ZR below (some (.int res)) args s) (F0 m 13 ls []) := by
  have hx := C.1
  have hb := C.2.1
  intro n
  induction n with
  | zero =>
    intro x0 x1 x2 x3 ls hj hl hf
    cases hf
  | succ n ih_ =>
    intro x0 x1 x2 x3 ls hj hl hf
    have ih : ∀ (x0 : Nat) (x1 : Int32) (x2 : Int32) (x3 : Int32) (ls : Array Slot), q_J E s g s.heap [] → lv_has ls 4 [(0, .ref (q_ad E x0)), (1, .int x1), (2, .int x2), (3, .int x3)] → L_X3_anybodyTogether_13 k40 g n x0 x1 x2 x3 = some res → W p l e (q_rm 2 47) s m args below meth c s.heap [] 0 0 (q_ZR below (some (.int res)) args s) (F0 m 13 ls []) := fun x0 x1 x2 x3 ls hj hl hf => ih_ hj hl hf
    unfold L_X3_anybodyTogether_13 at hf
    refine lv_iload_n hx hb dX3_anybodyTogether_13 rfl (lv_at hl 3 rfl) ?_
    refine lv_aload_n hx hb dX3_anybodyTogether_14 rfl (lv_at hl 0 rfl) ?_
    refine lv_iconst (v := 3) hx hb dX3_anybodyTogether_15 qi_3 ?_
    refine q_cVRI C hj cw_X3_55 (As := [.int 3]) (rest := [.int x3]) hf (fun v9 h9 => c_X3_count l E h9) rfl hl rfl rfl rfl dX3_anybodyTogether_16 ⟨Nat.zero_le _, Nat.zero_le _⟩ (fun v1 hf => ?_)
    refine q_icge C (tgt := 40) dX3_anybodyTogether_19 (by decide) hf (fun hf => ?_) (fun hf => ?_)
    · exact hk40 _ _ _  ls hj (lv_sub hl [0, 1, 2] rfl) hf
    · refine lv_aload_n hx hb dX3_anybodyTogether_22 rfl (lv_at hl 0 rfl) ?_
      refine lv_iload_n hx hb dX3_anybodyTogether_23 rfl (lv_at hl 2 rfl) ?_
      refine lv_iload_n hx hb dX3_anybodyTogether_24 rfl (lv_at hl 3 rfl) ?_
      refine lv_iload_n hx hb dX3_anybodyTogether_25 rfl (lv_at hl 1 rfl) ?_
      refine q_cVRI C hj cw_X3_71 (As := [.int x2, .int x3, .int x1]) (rest := []) hf (fun v9 h9 => c_X3_sharedTram l E h9) rfl hl rfl rfl rfl dX3_anybodyTogether_26 ⟨Nat.zero_le _, Nat.zero_le _⟩ (fun v2 hf => ?_)
      refine q_iflt C (tgt := 34) dX3_anybodyTogether_29 (by decide) hf (fun hf => ?_) (fun hf => ?_)
      · refine lv_iinc (v := x3 + 1) (lv' := [(3, .int (x3 + 1)), (0, .ref (q_ad E x0)), (1, .int x1), (2, .int x2)]) hx hb dX3_anybodyTogether_34 hl (k := 3) rfl (by rw [qi_1]) (by decide) rfl (fun ls hl => ?_)
        refine lv_goto (tgt := 13) hx hb dX3_anybodyTogether_37 (by decide) ?_
        exact ih _ _ _ _  ls hj (lv_sub hl [1, 2, 3, 0] rfl) hf
      · refine lv_iconst (v := 1) hx hb dX3_anybodyTogether_32 qi_1 ?_
        exact q_z1retR C dX3_anybodyTogether_33 hf
def L_X3_anybodyTogether_2  (g : qS) : Nat → Nat → Int32 → Int32 → Option Int32
  | 0, _, _, _ => none
  | n + 1, x0, x1, x2 => (f_X3_count g x0 5).bind fun v1 => if v1 ≤ x2 then (some 0) else (L_X3_anybodyTogether_13 (fun y2 y3 y4 => L_X3_anybodyTogether_2 g n y2 y3 (y4 + 1)) g 1000000000 x0 x1 x2 0)
set_option maxHeartbeats 4000000 in
set_option maxRecDepth 100000 in
theorem w_L_X3_anybodyTogether_2 {l : Launch} {E : qV} {p : Program} {e : Env} {s : State} {m : MethodId} {args : Array Value} {below : List Frame} {meth : Method} {c : Code}  {g : qS} {res : Int32} (C : q_C E p s m args meth c cX3_anybodyTogether RX3 4 (some .boolean))  : ∀ {n : Nat} {x0 : Nat} {x1 : Int32} {x2 : Int32} {ls : Array Slot}, q_J E s g s.heap [] → lv_has ls 4 [(0, .ref (q_ad E x0)), (1, .int x1), (2, .int x2)] → L_X3_anybodyTogether_2 g n x0 x1 x2 = some res → W p l e (q_rm 2 47) s m args below meth c s.heap [] 0 0 (q_ZR below (some (.int res)) args s) (F0 m 2 ls []) := by
  have hx := C.1
  have hb := C.2.1
  intro n
  induction n with
  | zero =>
    intro x0 x1 x2 ls hj hl hf
    cases hf
  | succ n ih_ =>
    intro x0 x1 x2 ls hj hl hf
    have ih : ∀ (x0 : Nat) (x1 : Int32) (x2 : Int32) (ls : Array Slot), q_J E s g s.heap [] → lv_has ls 4 [(0, .ref (q_ad E x0)), (1, .int x1), (2, .int x2)] → L_X3_anybodyTogether_2 g n x0 x1 x2 = some res → W p l e (q_rm 2 47) s m args below meth c s.heap [] 0 0 (q_ZR below (some (.int res)) args s) (F0 m 2 ls []) := fun x0 x1 x2 ls hj hl hf => ih_ hj hl hf
    unfold L_X3_anybodyTogether_2 at hf
    refine lv_iload_n hx hb dX3_anybodyTogether_2 rfl (lv_at hl 2 rfl) ?_
    refine lv_aload_n hx hb dX3_anybodyTogether_3 rfl (lv_at hl 0 rfl) ?_
    refine lv_iconst (v := 5) hx hb dX3_anybodyTogether_4 qi_5 ?_
    refine q_cVRI C hj cw_X3_55 (As := [.int 5]) (rest := [.int x2]) hf (fun v9 h9 => c_X3_count l E h9) rfl hl rfl rfl rfl dX3_anybodyTogether_5 ⟨Nat.zero_le _, Nat.zero_le _⟩ (fun v1 hf => ?_)
    refine q_icge C (tgt := 46) dX3_anybodyTogether_8 (by decide) hf (fun hf => ?_) (fun hf => ?_)
    · refine lv_iconst (v := 0) hx hb dX3_anybodyTogether_46 qi_0 ?_
      exact q_z0retR C dX3_anybodyTogether_47 hf
    · refine lv_iconst (v := 0) hx hb dX3_anybodyTogether_11 qi_0 ?_
      refine lv_istore_n (lv' := [(3, .int 0), (0, .ref (q_ad E x0)), (1, .int x1), (2, .int x2)]) hx hb dX3_anybodyTogether_12 rfl hl (by decide) rfl (fun ls hl => ?_)
      refine w_L_X3_anybodyTogether_13 C (fun y2 y3 y4 ls hj hl hf => ?_) hj (lv_sub hl [1, 2, 3, 0] rfl) hf
      · refine lv_iinc (v := y4 + 1) (lv' := [(2, .int (y4 + 1)), (0, .ref (q_ad E y2)), (1, .int y3)]) hx hb dX3_anybodyTogether_40 hl (k := 2) rfl (by rw [qi_1]) (by decide) rfl (fun ls hl => ?_)
        refine lv_goto (tgt := 2) hx hb dX3_anybodyTogether_43 (by decide) ?_
        exact ih _ _ _  ls hj (lv_sub hl [1, 2, 0] rfl) hf
def f_X3_anybodyTogether (g : qS) (a0 : Nat) (a1 : Int32) : Option Int32 := (g_C g a0 2).bind fun _ => L_X3_anybodyTogether_2 g 1000000000 a0 a1 0
set_option maxHeartbeats 4000000 in
set_option maxRecDepth 100000 in
theorem c_X3_anybodyTogether (l : Launch) (E : qV) {g : qS} {a0 : Nat} {a1 : Int32} {res : Int32} (hf : f_X3_anybodyTogether g a0 a1 = some res) : q_MR l yX3_anybodyTogether cX3_anybodyTogether 4 (some .boolean) 2 47 E [.ref (q_ad E a0), .int a1] g (some (.int res)) ∧ ∃ fs, g a0 = some (.inr (2, fs)) := by
  unfold f_X3_anybodyTogether at hf
  obtain ⟨u9, hu9, hf⟩ := q_ob hf
  refine ⟨q_ofR (by decide) rfl ?_, g_C_sp hu9⟩
  intro p e s m args below meth c ls C hw hl
  have hj : q_J E s g s.heap [] := ⟨hw, va_S.rf⟩
  have hx := C.1
  have hb := C.2.1
  have C : q_C E p s m args meth c cX3_anybodyTogether RX3 4 (some .boolean) := C
  have hl : lv_has ls 4 [(0, .ref (q_ad E a0)), (1, .int a1)] := hl
  refine lv_iconst (v := 0) hx hb dX3_anybodyTogether_0 qi_0 ?_
  refine lv_istore_n (lv' := [(2, .int 0), (0, .ref (q_ad E a0)), (1, .int a1)]) hx hb dX3_anybodyTogether_1 rfl hl (by decide) rfl (fun ls hl => ?_)
  refine w_L_X3_anybodyTogether_2 C  hj (lv_sub hl [1, 2, 0] rfl) hf
def f_X3_examNearness (g : qS) (a0 : Nat) (a1 : Int32) : Option Int32 := (g_C g a0 2).bind fun _ => (g_R g a0 2 6).bind fun v1 => (f_X8_get g v1 a1 0).bind fun v2 => (g_R g a0 2 6).bind fun v3 => (f_X8_get g v3 a1 1).bind fun v4 => (g_R g a0 2 6).bind fun v5 => (f_X8_get g v5 a1 2).bind fun v6 => (g_R g a0 2 6).bind fun v7 => (f_X8_get g v7 a1 3).bind fun v8 => (f_X3_nearness g a0 v2 v4 v6 v8 0).bind fun v9 => some v9
set_option maxHeartbeats 4000000 in
set_option maxRecDepth 100000 in
theorem c_X3_examNearness (l : Launch) (E : qV) {g : qS} {a0 : Nat} {a1 : Int32} {res : Int32} (hf : f_X3_examNearness g a0 a1 = some res) : q_MR l yX3_examNearness cX3_examNearness 2 (some .int) 2 52 E [.ref (q_ad E a0), .int a1] g (some (.int res)) ∧ ∃ fs, g a0 = some (.inr (2, fs)) := by
  unfold f_X3_examNearness at hf
  obtain ⟨u9, hu9, hf⟩ := q_ob hf
  refine ⟨q_ofR (by decide) rfl ?_, g_C_sp hu9⟩
  intro p e s m args below meth c ls C hw hl
  have hj : q_J E s g s.heap [] := ⟨hw, va_S.rf⟩
  have hx := C.1
  have hb := C.2.1
  have C : q_C E p s m args meth c cX3_examNearness RX3 2 (some .int) := C
  have hl : lv_has ls 2 [(0, .ref (q_ad E a0)), (1, .int a1)] := hl
  refine lv_aload_n hx hb dX3_examNearness_0 rfl (lv_at hl 0 rfl) ?_
  refine lv_aload_n hx hb dX3_examNearness_1 rfl (lv_at hl 0 rfl) ?_
  refine q_getR C hj lk_X3_35 dX3_examNearness_2 hf (fun v1 hf => ?_)
  refine lv_iload_n hx hb dX3_examNearness_5 rfl (lv_at hl 1 rfl) ?_
  refine lv_iconst (v := 0) hx hb dX3_examNearness_6 qi_0 ?_
  refine q_cVRI C hj cw_X3_51 (As := [.int a1, .int 0]) (rest := [.ref (q_ad E a0)]) hf (fun v9 h9 => c_X8_get l E h9) rfl hl rfl rfl rfl dX3_examNearness_7 ⟨Nat.zero_le _, Nat.zero_le _⟩ (fun v2 hf => ?_)
  refine lv_aload_n hx hb dX3_examNearness_10 rfl (lv_at hl 0 rfl) ?_
  refine q_getR C hj lk_X3_35 dX3_examNearness_11 hf (fun v3 hf => ?_)
  refine lv_iload_n hx hb dX3_examNearness_14 rfl (lv_at hl 1 rfl) ?_
  refine lv_iconst (v := 1) hx hb dX3_examNearness_15 qi_1 ?_
  refine q_cVRI C hj cw_X3_51 (As := [.int a1, .int 1]) (rest := [.int v2, .ref (q_ad E a0)]) hf (fun v9 h9 => c_X8_get l E h9) rfl hl rfl rfl rfl dX3_examNearness_16 ⟨Nat.zero_le _, Nat.zero_le _⟩ (fun v4 hf => ?_)
  refine lv_aload_n hx hb dX3_examNearness_19 rfl (lv_at hl 0 rfl) ?_
  refine q_getR C hj lk_X3_35 dX3_examNearness_20 hf (fun v5 hf => ?_)
  refine lv_iload_n hx hb dX3_examNearness_23 rfl (lv_at hl 1 rfl) ?_
  refine lv_iconst (v := 2) hx hb dX3_examNearness_24 qi_2 ?_
  refine q_cVRI C hj cw_X3_51 (As := [.int a1, .int 2]) (rest := [.int v4, .int v2, .ref (q_ad E a0)]) hf (fun v9 h9 => c_X8_get l E h9) rfl hl rfl rfl rfl dX3_examNearness_25 ⟨Nat.zero_le _, Nat.zero_le _⟩ (fun v6 hf => ?_)
  refine lv_aload_n hx hb dX3_examNearness_28 rfl (lv_at hl 0 rfl) ?_
  refine q_getR C hj lk_X3_35 dX3_examNearness_29 hf (fun v7 hf => ?_)
  refine lv_iload_n hx hb dX3_examNearness_32 rfl (lv_at hl 1 rfl) ?_
  refine lv_iconst (v := 3) hx hb dX3_examNearness_33 qi_3 ?_
  refine q_cVRI C hj cw_X3_51 (As := [.int a1, .int 3]) (rest := [.int v6, .int v4, .int v2, .ref (q_ad E a0)]) hf (fun v9 h9 => c_X8_get l E h9) rfl hl rfl rfl rfl dX3_examNearness_34 ⟨Nat.zero_le _, Nat.zero_le _⟩ (fun v8 hf => ?_)
  refine lv_iconst (v := 0) hx hb dX3_examNearness_37 qi_0 ?_
  refine q_cVRI C hj cw_X3_59 (As := [.int v2, .int v4, .int v6, .int v8, .int 0]) (rest := []) hf (fun v9 h9 => c_X3_nearness l E h9) rfl hl rfl rfl rfl dX3_examNearness_38 ⟨Nat.zero_le _, Nat.zero_le _⟩ (fun v9 hf => ?_)
  exact q_iretR C dX3_examNearness_41 hf
def f_X3_examCaught (g : qS) (a0 : Nat) (a1 : Int32) : Option Int32 := (g_C g a0 2).bind fun _ => (g_R g a0 2 6).bind fun v1 => (f_X8_get g v1 a1 4).bind fun v2 => if v2 = 0 then (some 1) else (some 0)
set_option maxHeartbeats 4000000 in
set_option maxRecDepth 100000 in
theorem c_X3_examCaught (l : Launch) (E : qV) {g : qS} {a0 : Nat} {a1 : Int32} {res : Int32} (hf : f_X3_examCaught g a0 a1 = some res) : q_MR l yX3_examCaught cX3_examCaught 2 (some .boolean) 1 23 E [.ref (q_ad E a0), .int a1] g (some (.int res)) ∧ ∃ fs, g a0 = some (.inr (2, fs)) := by
  unfold f_X3_examCaught at hf
  obtain ⟨u9, hu9, hf⟩ := q_ob hf
  refine ⟨q_ofR (by decide) rfl ?_, g_C_sp hu9⟩
  intro p e s m args below meth c ls C hw hl
  have hj : q_J E s g s.heap [] := ⟨hw, va_S.rf⟩
  have hx := C.1
  have hb := C.2.1
  have C : q_C E p s m args meth c cX3_examCaught RX3 2 (some .boolean) := C
  have hl : lv_has ls 2 [(0, .ref (q_ad E a0)), (1, .int a1)] := hl
  refine lv_aload_n hx hb dX3_examCaught_0 rfl (lv_at hl 0 rfl) ?_
  refine q_getR C hj lk_X3_35 dX3_examCaught_1 hf (fun v1 hf => ?_)
  refine lv_iload_n hx hb dX3_examCaught_4 rfl (lv_at hl 1 rfl) ?_
  refine lv_iconst (v := 4) hx hb dX3_examCaught_5 qi_4 ?_
  refine q_cVRI C hj cw_X3_51 (As := [.int a1, .int 4]) (rest := []) hf (fun v9 h9 => c_X8_get l E h9) rfl hl rfl rfl rfl dX3_examCaught_6 ⟨Nat.zero_le _, Nat.zero_le _⟩ (fun v2 hf => ?_)
  refine q_ifne C (tgt := 16) dX3_examCaught_9 (by decide) hf (fun hf => ?_) (fun hf => ?_)
  · refine lv_iconst (v := 0) hx hb dX3_examCaught_16 qi_0 ?_
    exact q_z0retR C dX3_examCaught_17 hf
  · refine lv_iconst (v := 1) hx hb dX3_examCaught_12 qi_1 ?_
    refine lv_goto (tgt := 17) hx hb dX3_examCaught_13 (by decide) ?_
    exact q_z1retR C dX3_examCaught_17 hf
