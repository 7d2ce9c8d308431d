def f_X10_never (g : qS) (a0 : Nat) : Option (Int32 × qS) := (g_C g a0 9).bind fun _ => (f_X10_noCollege g a0).bind fun v1 => if v1 = 0 then ((g_R g a0 9 8).bind fun v2 => (f_X3_neverGiven g v2).bind fun v3 => q_b2 (f_X10_fine g a0 v3) fun v5 g4 => some (v5, g4)) else (q_b2 (f_X10_refused g a0 1) fun v7 g6 => some (v7, g6))
set_option maxHeartbeats 4000000 in
set_option maxRecDepth 100000 in
theorem c_X10_never (l : Launch) (E : qV) {g : qS} {a0 : Nat} {res : (Int32 × qS)} (hf : f_X10_never g a0 = some res) : q_MW l yX10_never cX10_never 1 (some .int) 5 124 E [.ref (q_ad E a0)] g (some (.int res.1)) res.2 ∧ ∃ fs, g a0 = some (.inr (9, fs)) := by
  unfold f_X10_never at hf
  obtain ⟨u9, hu9, hf⟩ := q_ob hf
  refine ⟨q_ofW (by decide) rfl ?_, g_C_sp hu9⟩
  intro p e s m args below meth c ls C hj hl
  have hx := C.1
  have hb := C.2.1
  have C : q_C E p s m args meth c cX10_never RX10 1 (some .int) := C
  have hl : lv_has ls 1 [(0, .ref (q_ad E a0))] := hl
  refine lv_aload_n hx hb dX10_never_0 rfl (lv_at hl 0 rfl) ?_
  refine q_cVRI C hj cw_X10_196 (As := []) (rest := []) hf (fun v9 h9 => c_X10_noCollege l E h9) rfl hl rfl rfl rfl dX10_never_1 ⟨Nat.zero_le _, Nat.zero_le _⟩ (fun v1 hf => ?_)
  refine q_ifeq C (tgt := 15) dX10_never_4 (by decide) hf (fun hf => ?_) (fun hf => ?_)
  · refine lv_aload_n hx hb dX10_never_15 rfl (lv_at hl 0 rfl) ?_
    refine lv_aload_n hx hb dX10_never_16 rfl (lv_at hl 0 rfl) ?_
    refine q_getR C hj lk_X10_65 dX10_never_17 hf (fun v2 hf => ?_)
    refine q_cVRI C hj cw_X10_213 (As := []) (rest := [.ref (q_ad E a0)]) hf (fun v9 h9 => c_X3_neverGiven l E h9) rfl hl rfl rfl rfl dX10_never_20 ⟨Nat.zero_le _, Nat.zero_le _⟩ (fun v3 hf => ?_)
    refine q_cVWI C hj cw_X10_102 (As := [.int v3]) (rest := []) hf (fun v9 g9 h9 => c_X10_fine l E h9) rfl hl rfl rfl rfl dX10_never_23 ⟨Nat.zero_le _, Nat.zero_le _⟩ (fun v5 g4 H locs hj hf => ?_)
    exact q_iretW C hj dX10_never_26 hf
  · refine lv_aload_n hx hb dX10_never_7 rfl (lv_at hl 0 rfl) ?_
    refine lv_iconst (v := 1) hx hb dX10_never_8 qi_1 ?_
    refine q_cVWI C hj cw_X10_77 (As := [.int 1]) (rest := []) hf (fun v9 g9 h9 => c_X10_refused l E h9) rfl hl rfl rfl rfl dX10_never_9 ⟨Nat.zero_le _, Nat.zero_le _⟩ (fun v7 g6 H locs hj hf => ?_)
    refine lv_goto (tgt := 26) hx hb dX10_never_12 (by decide) ?_
    exact q_iretW C hj dX10_never_26 hf
def f_X10_fits (g : qS) (a0 : Nat) : Option (Int32 × qS) := (g_C g a0 9).bind fun _ => (f_X10_noCollege g a0).bind fun v1 => if v1 = 0 then ((g_R g a0 9 8).bind fun v2 => (f_X3_count g v2 8).bind fun v3 => if v3 = 0 then (q_b2 (f_X10_refused g a0 6) fun v12 g11 => some (v12, g11)) else ((g_R g a0 9 5).bind fun v4 => (g_R g a0 9 8).bind fun v5 => (f_X9_find g v4 v5).bind fun g6 => (g_R g6 a0 9 5).bind fun v7 => (f_X9_rowCount g6 v7).bind fun v8 => q_b2 (f_X10_fine g6 a0 v8) fun v10 g9 => some (v10, g9))) else (q_b2 (f_X10_refused g a0 1) fun v14 g13 => some (v14, g13))
set_option maxHeartbeats 4000000 in
set_option maxRecDepth 100000 in
theorem c_X10_fits (l : Launch) (E : qV) {g : qS} {a0 : Nat} {res : (Int32 × qS)} (hf : f_X10_fits g a0 = some res) : q_MW l yX10_fits cX10_fits 1 (some .int) 11 295 E [.ref (q_ad E a0)] g (some (.int res.1)) res.2 ∧ ∃ fs, g a0 = some (.inr (9, fs)) := by
  unfold f_X10_fits at hf
  obtain ⟨u9, hu9, hf⟩ := q_ob hf
  refine ⟨q_ofW (by decide) rfl ?_, g_C_sp hu9⟩
  intro p e s m args below meth c ls C hj hl
  have hx := C.1
  have hb := C.2.1
  have C : q_C E p s m args meth c cX10_fits RX10 1 (some .int) := C
  have hl : lv_has ls 1 [(0, .ref (q_ad E a0))] := hl
  refine lv_aload_n hx hb dX10_fits_0 rfl (lv_at hl 0 rfl) ?_
  refine q_cVRI C hj cw_X10_196 (As := []) (rest := []) hf (fun v9 h9 => c_X10_noCollege l E h9) rfl hl rfl rfl rfl dX10_fits_1 ⟨Nat.zero_le _, Nat.zero_le _⟩ (fun v1 hf => ?_)
  refine q_ifeq C (tgt := 13) dX10_fits_4 (by decide) hf (fun hf => ?_) (fun hf => ?_)
  · refine lv_aload_n hx hb dX10_fits_13 rfl (lv_at hl 0 rfl) ?_
    refine q_getR C hj lk_X10_65 dX10_fits_14 hf (fun v2 hf => ?_)
    refine lv_bipush (v := 8) hx hb dX10_fits_17 (by decide) ?_
    refine q_cVRI C hj cw_X10_99 (As := [.int 8]) (rest := []) hf (fun v9 h9 => c_X3_count l E h9) rfl hl rfl rfl rfl dX10_fits_19 ⟨Nat.zero_le _, Nat.zero_le _⟩ (fun v3 hf => ?_)
    refine q_ifne C (tgt := 32) dX10_fits_22 (by decide) hf (fun hf => ?_) (fun hf => ?_)
    · refine lv_aload_n hx hb dX10_fits_32 rfl (lv_at hl 0 rfl) ?_
      refine q_getR C hj lk_X10_47 dX10_fits_33 hf (fun v4 hf => ?_)
      refine lv_aload_n hx hb dX10_fits_36 rfl (lv_at hl 0 rfl) ?_
      refine q_getR C hj lk_X10_65 dX10_fits_37 hf (fun v5 hf => ?_)
      refine q_cVWV C hj cw_X10_216 (As := [.ref (q_ad E v5)]) (rest := []) hf (fun g9 h9 => c_X9_find l E h9) rfl hl rfl rfl rfl dX10_fits_40 ⟨Nat.zero_le _, Nat.zero_le _⟩ (fun g6 H locs hj hf => ?_)
      refine lv_aload_n hx hb dX10_fits_43 rfl (lv_at hl 0 rfl) ?_
      refine lv_aload_n hx hb dX10_fits_44 rfl (lv_at hl 0 rfl) ?_
      refine q_getR C hj lk_X10_47 dX10_fits_45 hf (fun v7 hf => ?_)
      refine q_cVRI C hj cw_X10_217 (As := []) (rest := [.ref (q_ad E a0)]) hf (fun v9 h9 => c_X9_rowCount l E h9) rfl hl rfl rfl rfl dX10_fits_48 ⟨Nat.zero_le _, Nat.zero_le _⟩ (fun v8 hf => ?_)
      refine q_cVWI C hj cw_X10_102 (As := [.int v8]) (rest := []) hf (fun v9 g9 h9 => c_X10_fine l E h9) rfl hl rfl rfl rfl dX10_fits_51 ⟨Nat.zero_le _, Nat.zero_le _⟩ (fun v10 g9 H locs hj hf => ?_)
      exact q_iretW C hj dX10_fits_54 hf
    · refine lv_aload_n hx hb dX10_fits_25 rfl (lv_at hl 0 rfl) ?_
      refine lv_bipush (v := 6) hx hb dX10_fits_26 (by decide) ?_
      refine q_cVWI C hj cw_X10_77 (As := [.int 6]) (rest := []) hf (fun v9 g9 h9 => c_X10_refused l E h9) rfl hl rfl rfl rfl dX10_fits_28 ⟨Nat.zero_le _, Nat.zero_le _⟩ (fun v12 g11 H locs hj hf => ?_)
      exact q_iretW C hj dX10_fits_31 hf
  · refine lv_aload_n hx hb dX10_fits_7 rfl (lv_at hl 0 rfl) ?_
    refine lv_iconst (v := 1) hx hb dX10_fits_8 qi_1 ?_
    refine q_cVWI C hj cw_X10_77 (As := [.int 1]) (rest := []) hf (fun v9 g9 h9 => c_X10_refused l E h9) rfl hl rfl rfl rfl dX10_fits_9 ⟨Nat.zero_le _, Nat.zero_le _⟩ (fun v14 g13 H locs hj hf => ?_)
    exact q_iretW C hj dX10_fits_12 hf
def f_X10_could (g : qS) (a0 : Nat) (a1 : Int32) : Option (Int32 × qS) := (g_C g a0 9).bind fun _ => (g_R g a0 9 8).bind fun v1 => (f_X3_isFound g v1 a1).bind fun v2 => if v2 = 0 then (q_b2 (f_X10_refused g a0 1) fun v11 g10 => some (v11, g10)) else ((g_R g a0 9 5).bind fun v3 => (g_R g a0 9 8).bind fun v4 => (f_X9_find g v3 v4).bind fun g5 => (g_R g5 a0 9 5).bind fun v6 => (f_X9_giversOf g5 v6 a1).bind fun v7 => q_b2 (f_X10_fine g5 a0 v7) fun v9 g8 => some (v9, g8))
set_option maxHeartbeats 4000000 in
set_option maxRecDepth 100000 in
theorem c_X10_could (l : Launch) (E : qV) {g : qS} {a0 : Nat} {a1 : Int32} {res : (Int32 × qS)} (hf : f_X10_could g a0 a1 = some res) : q_MW l yX10_could cX10_could 2 (some .int) 11 295 E [.ref (q_ad E a0), .int a1] g (some (.int res.1)) res.2 ∧ ∃ fs, g a0 = some (.inr (9, fs)) := by
  unfold f_X10_could at hf
  obtain ⟨u9, hu9, hf⟩ := q_ob hf
  refine ⟨q_ofW (by decide) rfl ?_, g_C_sp hu9⟩
  intro p e s m args below meth c ls C hj hl
  have hx := C.1
  have hb := C.2.1
  have C : q_C E p s m args meth c cX10_could RX10 2 (some .int) := C
  have hl : lv_has ls 2 [(0, .ref (q_ad E a0)), (1, .int a1)] := hl
  refine lv_aload_n hx hb dX10_could_0 rfl (lv_at hl 0 rfl) ?_
  refine q_getR C hj lk_X10_65 dX10_could_1 hf (fun v1 hf => ?_)
  refine lv_iload_n hx hb dX10_could_4 rfl (lv_at hl 1 rfl) ?_
  refine q_cVRI C hj cw_X10_220 (As := [.int a1]) (rest := []) hf (fun v9 h9 => c_X3_isFound l E h9) rfl hl rfl rfl rfl dX10_could_5 ⟨Nat.zero_le _, Nat.zero_le _⟩ (fun v2 hf => ?_)
  refine q_ifne C (tgt := 17) dX10_could_8 (by decide) hf (fun hf => ?_) (fun hf => ?_)
  · refine lv_aload_n hx hb dX10_could_17 rfl (lv_at hl 0 rfl) ?_
    refine q_getR C hj lk_X10_47 dX10_could_18 hf (fun v3 hf => ?_)
    refine lv_aload_n hx hb dX10_could_21 rfl (lv_at hl 0 rfl) ?_
    refine q_getR C hj lk_X10_65 dX10_could_22 hf (fun v4 hf => ?_)
    refine q_cVWV C hj cw_X10_216 (As := [.ref (q_ad E v4)]) (rest := []) hf (fun g9 h9 => c_X9_find l E h9) rfl hl rfl rfl rfl dX10_could_25 ⟨Nat.zero_le _, Nat.zero_le _⟩ (fun g5 H locs hj hf => ?_)
    refine lv_aload_n hx hb dX10_could_28 rfl (lv_at hl 0 rfl) ?_
    refine lv_aload_n hx hb dX10_could_29 rfl (lv_at hl 0 rfl) ?_
    refine q_getR C hj lk_X10_47 dX10_could_30 hf (fun v6 hf => ?_)
    refine lv_iload_n hx hb dX10_could_33 rfl (lv_at hl 1 rfl) ?_
    refine q_cVRI C hj cw_X10_223 (As := [.int a1]) (rest := [.ref (q_ad E a0)]) hf (fun v9 h9 => c_X9_giversOf l E h9) rfl hl rfl rfl rfl dX10_could_34 ⟨Nat.zero_le _, Nat.zero_le _⟩ (fun v7 hf => ?_)
    refine q_cVWI C hj cw_X10_102 (As := [.int v7]) (rest := []) hf (fun v9 g9 h9 => c_X10_fine l E h9) rfl hl rfl rfl rfl dX10_could_37 ⟨Nat.zero_le _, Nat.zero_le _⟩ (fun v9 g8 H locs hj hf => ?_)
    exact q_iretW C hj dX10_could_40 hf
  · refine lv_aload_n hx hb dX10_could_11 rfl (lv_at hl 0 rfl) ?_
    refine lv_iconst (v := 1) hx hb dX10_could_12 qi_1 ?_
    refine q_cVWI C hj cw_X10_77 (As := [.int 1]) (rest := []) hf (fun v9 g9 h9 => c_X10_refused l E h9) rfl hl rfl rfl rfl dX10_could_13 ⟨Nat.zero_le _, Nat.zero_le _⟩ (fun v11 g10 H locs hj hf => ?_)
    exact q_iretW C hj dX10_could_16 hf
def f_X10_surely (g : qS) (a0 : Nat) (a1 : Int32) : Option (Int32 × qS) := (g_C g a0 9).bind fun _ => (g_R g a0 9 8).bind fun v1 => (f_X3_isFound g v1 a1).bind fun v2 => if v2 = 0 then (q_b2 (f_X10_refused g a0 1) fun v11 g10 => some (v11, g10)) else ((g_R g a0 9 5).bind fun v3 => (g_R g a0 9 8).bind fun v4 => (f_X9_find g v3 v4).bind fun g5 => (g_R g5 a0 9 5).bind fun v6 => (f_X9_onlyGiverOf g5 v6 a1).bind fun v7 => q_b2 (f_X10_fine g5 a0 v7) fun v9 g8 => some (v9, g8))
set_option maxHeartbeats 4000000 in
set_option maxRecDepth 100000 in
theorem c_X10_surely (l : Launch) (E : qV) {g : qS} {a0 : Nat} {a1 : Int32} {res : (Int32 × qS)} (hf : f_X10_surely g a0 a1 = some res) : q_MW l yX10_surely cX10_surely 2 (some .int) 11 295 E [.ref (q_ad E a0), .int a1] g (some (.int res.1)) res.2 ∧ ∃ fs, g a0 = some (.inr (9, fs)) := by
  unfold f_X10_surely at hf
  obtain ⟨u9, hu9, hf⟩ := q_ob hf
  refine ⟨q_ofW (by decide) rfl ?_, g_C_sp hu9⟩
  intro p e s m args below meth c ls C hj hl
  have hx := C.1
  have hb := C.2.1
  have C : q_C E p s m args meth c cX10_surely RX10 2 (some .int) := C
  have hl : lv_has ls 2 [(0, .ref (q_ad E a0)), (1, .int a1)] := hl
  refine lv_aload_n hx hb dX10_surely_0 rfl (lv_at hl 0 rfl) ?_
  refine q_getR C hj lk_X10_65 dX10_surely_1 hf (fun v1 hf => ?_)
  refine lv_iload_n hx hb dX10_surely_4 rfl (lv_at hl 1 rfl) ?_
  refine q_cVRI C hj cw_X10_220 (As := [.int a1]) (rest := []) hf (fun v9 h9 => c_X3_isFound l E h9) rfl hl rfl rfl rfl dX10_surely_5 ⟨Nat.zero_le _, Nat.zero_le _⟩ (fun v2 hf => ?_)
  refine q_ifne C (tgt := 17) dX10_surely_8 (by decide) hf (fun hf => ?_) (fun hf => ?_)
  · refine lv_aload_n hx hb dX10_surely_17 rfl (lv_at hl 0 rfl) ?_
    refine q_getR C hj lk_X10_47 dX10_surely_18 hf (fun v3 hf => ?_)
    refine lv_aload_n hx hb dX10_surely_21 rfl (lv_at hl 0 rfl) ?_
    refine q_getR C hj lk_X10_65 dX10_surely_22 hf (fun v4 hf => ?_)
    refine q_cVWV C hj cw_X10_216 (As := [.ref (q_ad E v4)]) (rest := []) hf (fun g9 h9 => c_X9_find l E h9) rfl hl rfl rfl rfl dX10_surely_25 ⟨Nat.zero_le _, Nat.zero_le _⟩ (fun g5 H locs hj hf => ?_)
    refine lv_aload_n hx hb dX10_surely_28 rfl (lv_at hl 0 rfl) ?_
    refine lv_aload_n hx hb dX10_surely_29 rfl (lv_at hl 0 rfl) ?_
    refine q_getR C hj lk_X10_47 dX10_surely_30 hf (fun v6 hf => ?_)
    refine lv_iload_n hx hb dX10_surely_33 rfl (lv_at hl 1 rfl) ?_
    refine q_cVRI C hj cw_X10_226 (As := [.int a1]) (rest := [.ref (q_ad E a0)]) hf (fun v9 h9 => c_X9_onlyGiverOf l E h9) rfl hl rfl rfl rfl dX10_surely_34 ⟨Nat.zero_le _, Nat.zero_le _⟩ (fun v7 hf => ?_)
    refine q_cVWI C hj cw_X10_102 (As := [.int v7]) (rest := []) hf (fun v9 g9 h9 => c_X10_fine l E h9) rfl hl rfl rfl rfl dX10_surely_37 ⟨Nat.zero_le _, Nat.zero_le _⟩ (fun v9 g8 H locs hj hf => ?_)
    exact q_iretW C hj dX10_surely_40 hf
  · refine lv_aload_n hx hb dX10_surely_11 rfl (lv_at hl 0 rfl) ?_
    refine lv_iconst (v := 1) hx hb dX10_surely_12 qi_1 ?_
    refine q_cVWI C hj cw_X10_77 (As := [.int 1]) (rest := []) hf (fun v9 g9 h9 => c_X10_refused l E h9) rfl hl rfl rfl rfl dX10_surely_13 ⟨Nat.zero_le _, Nat.zero_le _⟩ (fun v11 g10 H locs hj hf => ?_)
    exact q_iretW C hj dX10_surely_16 hf
def f_X10_fineLong (g : qS) (a0 : Nat) (a1 : Int64) : Option (Int64 × qS) := (g_C g a0 9).bind fun _ => (p_I g a0 9 7 0).bind fun g1 => some (a1, g1)
set_option maxHeartbeats 4000000 in
set_option maxRecDepth 100000 in
theorem c_X10_fineLong (l : Launch) (E : qV) {g : qS} {a0 : Nat} {a1 : Int64} {res : (Int64 × qS)} (hf : f_X10_fineLong g a0 a1 = some res) : q_MW l yX10_fineLong cX10_fineLong 3 (some .long) 0 0 E [.ref (q_ad E a0), .long a1] g (some (.long res.1)) res.2 ∧ ∃ fs, g a0 = some (.inr (9, fs)) := by
  unfold f_X10_fineLong at hf
  obtain ⟨u9, hu9, hf⟩ := q_ob hf
  refine ⟨q_ofW (by decide) rfl ?_, g_C_sp hu9⟩
  intro p e s m args below meth c ls C hj hl
  have hx := C.1
  have hb := C.2.1
  have C : q_C E p s m args meth c cX10_fineLong RX10 3 (some .long) := C
  have hl : lv_has ls 3 [(0, .ref (q_ad E a0)), (1, .long a1)] := hl
  refine lv_aload_n hx hb dX10_fineLong_0 rfl (lv_at hl 0 rfl) ?_
  refine lv_iconst (v := 0) hx hb dX10_fineLong_1 qi_0 ?_
  refine q_putI C hj fp_X10_58 dX10_fineLong_2 hf (fun g1 H locs hj hf => ?_)
  refine lv_lload_n hx hb dX10_fineLong_5 rfl (lv_at hl 1 rfl) ?_
  exact q_lretW C hj dX10_fineLong_6 hf
def f_X10_value (g : qS) (a0 : Nat) (a1 : Int32) : Option (Int64 × qS) := (g_C g a0 9).bind fun _ => (f_X10_noCollege g a0).bind fun v1 => if v1 = 0 then ((g_R g a0 9 8).bind fun v2 => (f_X3_count g v2 4).bind fun v3 => if v3 = 0 then (q_b2 (f_X10_refused g a0 6) fun v9 g8 => some (v9.toInt64, g8)) else ((g_R g a0 9 8).bind fun v4 => (f_X1_lotValue g v4 a1).bind fun v5 => q_b2 (f_X10_fineLong g a0 v5) fun v7 g6 => some (v7, g6))) else (q_b2 (f_X10_refused g a0 1) fun v11 g10 => some (v11.toInt64, g10))
set_option maxHeartbeats 4000000 in
set_option maxRecDepth 100000 in
theorem c_X10_value (l : Launch) (E : qV) {g : qS} {a0 : Nat} {a1 : Int32} {res : (Int64 × qS)} (hf : f_X10_value g a0 a1 = some res) : q_MW l yX10_value cX10_value 2 (some .long) 7 168 E [.ref (q_ad E a0), .int a1] g (some (.long res.1)) res.2 ∧ ∃ fs, g a0 = some (.inr (9, fs)) := by
  unfold f_X10_value at hf
  obtain ⟨u9, hu9, hf⟩ := q_ob hf
  refine ⟨q_ofW (by decide) rfl ?_, g_C_sp hu9⟩
  intro p e s m args below meth c ls C hj hl
  have hx := C.1
  have hb := C.2.1
  have C : q_C E p s m args meth c cX10_value RX10 2 (some .long) := C
  have hl : lv_has ls 2 [(0, .ref (q_ad E a0)), (1, .int a1)] := hl
  refine lv_aload_n hx hb dX10_value_0 rfl (lv_at hl 0 rfl) ?_
  refine q_cVRI C hj cw_X10_196 (As := []) (rest := []) hf (fun v9 h9 => c_X10_noCollege l E h9) rfl hl rfl rfl rfl dX10_value_1 ⟨Nat.zero_le _, Nat.zero_le _⟩ (fun v1 hf => ?_)
  refine q_ifeq C (tgt := 14) dX10_value_4 (by decide) hf (fun hf => ?_) (fun hf => ?_)
  · refine lv_aload_n hx hb dX10_value_14 rfl (lv_at hl 0 rfl) ?_
    refine q_getR C hj lk_X10_65 dX10_value_15 hf (fun v2 hf => ?_)
    refine lv_iconst (v := 4) hx hb dX10_value_18 qi_4 ?_
    refine q_cVRI C hj cw_X10_99 (As := [.int 4]) (rest := []) hf (fun v9 h9 => c_X3_count l E h9) rfl hl rfl rfl rfl dX10_value_19 ⟨Nat.zero_le _, Nat.zero_le _⟩ (fun v3 hf => ?_)
    refine q_ifne C (tgt := 33) dX10_value_22 (by decide) hf (fun hf => ?_) (fun hf => ?_)
    · refine lv_aload_n hx hb dX10_value_33 rfl (lv_at hl 0 rfl) ?_
      refine lv_aload_n hx hb dX10_value_34 rfl (lv_at hl 0 rfl) ?_
      refine q_getR C hj lk_X10_65 dX10_value_35 hf (fun v4 hf => ?_)
      refine lv_iload_n hx hb dX10_value_38 rfl (lv_at hl 1 rfl) ?_
      refine q_cSRL C hj cw_X10_229 (As := [.ref (q_ad E v4), .int a1]) (rest := [.ref (q_ad E a0)]) hf (fun v9 h9 => c_X1_lotValue l E h9) rfl hl rfl rfl rfl dX10_value_39 ⟨Nat.zero_le _, Nat.zero_le _⟩ (fun v5 hf => ?_)
      refine q_cVWL C hj cw_X10_235 (As := [.long v5]) (rest := []) hf (fun v9 g9 h9 => c_X10_fineLong l E h9) rfl hl rfl rfl rfl dX10_value_42 ⟨Nat.zero_le _, Nat.zero_le _⟩ (fun v7 g6 H locs hj hf => ?_)
      exact q_lretW C hj dX10_value_45 hf
    · refine lv_aload_n hx hb dX10_value_25 rfl (lv_at hl 0 rfl) ?_
      refine lv_bipush (v := 6) hx hb dX10_value_26 (by decide) ?_
      refine q_cVWI C hj cw_X10_77 (As := [.int 6]) (rest := []) hf (fun v9 g9 h9 => c_X10_refused l E h9) rfl hl rfl rfl rfl dX10_value_28 ⟨Nat.zero_le _, Nat.zero_le _⟩ (fun v9 g8 H locs hj hf => ?_)
      refine lv_i2l hx hb dX10_value_31 rfl ?_
      exact q_lretW C hj dX10_value_32 hf
  · refine lv_aload_n hx hb dX10_value_7 rfl (lv_at hl 0 rfl) ?_
    refine lv_iconst (v := 1) hx hb dX10_value_8 qi_1 ?_
    refine q_cVWI C hj cw_X10_77 (As := [.int 1]) (rest := []) hf (fun v9 g9 h9 => c_X10_refused l E h9) rfl hl rfl rfl rfl dX10_value_9 ⟨Nat.zero_le _, Nat.zero_le _⟩ (fun v11 g10 H locs hj hf => ?_)
    refine lv_i2l hx hb dX10_value_12 rfl ?_
    exact q_lretW C hj dX10_value_13 hf
def f_X10_lot (g : qS) (a0 : Nat) (a1 : Int32) (a2 : Int32) : Option (Int64 × qS) := (g_C g a0 9).bind fun _ => (g_R g a0 9 8).bind fun v1 => (f_X3_has g v1 4 a1).bind fun v2 => if v2 = 0 then (q_b2 (f_X10_refused g a0 1) fun v8 g7 => some (v8.toInt64, g7)) else ((g_R g a0 9 8).bind fun v3 => (f_X1_lotOf g v3 a1 a2).bind fun v4 => q_b2 (f_X10_fineLong g a0 v4) fun v6 g5 => some (v6, g5))
set_option maxHeartbeats 4000000 in
set_option maxRecDepth 100000 in
theorem c_X10_lot (l : Launch) (E : qV) {g : qS} {a0 : Nat} {a1 : Int32} {a2 : Int32} {res : (Int64 × qS)} (hf : f_X10_lot g a0 a1 a2 = some res) : q_MW l yX10_lot cX10_lot 3 (some .long) 7 170 E [.ref (q_ad E a0), .int a1, .int a2] g (some (.long res.1)) res.2 ∧ ∃ fs, g a0 = some (.inr (9, fs)) := by
  unfold f_X10_lot at hf
  obtain ⟨u9, hu9, hf⟩ := q_ob hf
  refine ⟨q_ofW (by decide) rfl ?_, g_C_sp hu9⟩
  intro p e s m args below meth c ls C hj hl
  have hx := C.1
  have hb := C.2.1
  have C : q_C E p s m args meth c cX10_lot RX10 3 (some .long) := C
  have hl : lv_has ls 3 [(0, .ref (q_ad E a0)), (1, .int a1), (2, .int a2)] := hl
  refine lv_aload_n hx hb dX10_lot_0 rfl (lv_at hl 0 rfl) ?_
  refine q_getR C hj lk_X10_65 dX10_lot_1 hf (fun v1 hf => ?_)
  refine lv_iconst (v := 4) hx hb dX10_lot_4 qi_4 ?_
  refine lv_iload_n hx hb dX10_lot_5 rfl (lv_at hl 1 rfl) ?_
  refine q_cVRI C hj cw_X10_111 (As := [.int 4, .int a1]) (rest := []) hf (fun v9 h9 => c_X3_has l E h9) rfl hl rfl rfl rfl dX10_lot_6 ⟨Nat.zero_le _, Nat.zero_le _⟩ (fun v2 hf => ?_)
  refine q_ifne C (tgt := 19) dX10_lot_9 (by decide) hf (fun hf => ?_) (fun hf => ?_)
  · refine lv_aload_n hx hb dX10_lot_19 rfl (lv_at hl 0 rfl) ?_
    refine lv_aload_n hx hb dX10_lot_20 rfl (lv_at hl 0 rfl) ?_
    refine q_getR C hj lk_X10_65 dX10_lot_21 hf (fun v3 hf => ?_)
    refine lv_iload_n hx hb dX10_lot_24 rfl (lv_at hl 1 rfl) ?_
    refine lv_iload_n hx hb dX10_lot_25 rfl (lv_at hl 2 rfl) ?_
    refine q_cSRL C hj cw_X10_239 (As := [.ref (q_ad E v3), .int a1, .int a2]) (rest := [.ref (q_ad E a0)]) hf (fun v9 h9 => c_X1_lotOf l E h9) rfl hl rfl rfl rfl dX10_lot_26 ⟨Nat.zero_le _, Nat.zero_le _⟩ (fun v4 hf => ?_)
    refine q_cVWL C hj cw_X10_235 (As := [.long v4]) (rest := []) hf (fun v9 g9 h9 => c_X10_fineLong l E h9) rfl hl rfl rfl rfl dX10_lot_29 ⟨Nat.zero_le _, Nat.zero_le _⟩ (fun v6 g5 H locs hj hf => ?_)
    exact q_lretW C hj dX10_lot_32 hf
  · refine lv_aload_n hx hb dX10_lot_12 rfl (lv_at hl 0 rfl) ?_
    refine lv_iconst (v := 1) hx hb dX10_lot_13 qi_1 ?_
    refine q_cVWI C hj cw_X10_77 (As := [.int 1]) (rest := []) hf (fun v9 g9 h9 => c_X10_refused l E h9) rfl hl rfl rfl rfl dX10_lot_14 ⟨Nat.zero_le _, Nat.zero_le _⟩ (fun v8 g7 H locs hj hf => ?_)
    refine lv_i2l hx hb dX10_lot_17 rfl ?_
    exact q_lretW C hj dX10_lot_18 hf
def f_X10_whyNoChoice (g : qS) (a0 : Nat) (a1 : Int32) : Option Int32 := (g_C g a0 9).bind fun _ => (g_R g a0 9 8).bind fun v1 => (f_X3_count g v1 4).bind fun v2 => if v2 = 0 then (some 6) else ((g_R g a0 9 8).bind fun v3 => (f_X3_has g v3 0 a1).bind fun v4 => if v4 = 0 then (some 2) else (some 0))
set_option maxHeartbeats 4000000 in
set_option maxRecDepth 100000 in
theorem c_X10_whyNoChoice (l : Launch) (E : qV) {g : qS} {a0 : Nat} {a1 : Int32} {res : Int32} (hf : f_X10_whyNoChoice g a0 a1 = some res) : q_MR l yX10_whyNoChoice cX10_whyNoChoice 2 (some .int) 3 66 E [.ref (q_ad E a0), .int a1] g (some (.int res)) ∧ ∃ fs, g a0 = some (.inr (9, fs)) := by
  unfold f_X10_whyNoChoice at hf
  obtain ⟨u9, hu9, hf⟩ := q_ob hf
  refine ⟨q_ofR (by decide) rfl ?_, g_C_sp hu9⟩
  intro p e s m args below meth c ls C hw hl
  have hj : q_J E s g s.heap [] := ⟨hw, va_S.rf⟩
  have hx := C.1
  have hb := C.2.1
  have C : q_C E p s m args meth c cX10_whyNoChoice RX10 2 (some .int) := C
  have hl : lv_has ls 2 [(0, .ref (q_ad E a0)), (1, .int a1)] := hl
  refine lv_aload_n hx hb dX10_whyNoChoice_0 rfl (lv_at hl 0 rfl) ?_
  refine q_getR C hj lk_X10_65 dX10_whyNoChoice_1 hf (fun v1 hf => ?_)
  refine lv_iconst (v := 4) hx hb dX10_whyNoChoice_4 qi_4 ?_
  refine q_cVRI C hj cw_X10_99 (As := [.int 4]) (rest := []) hf (fun v9 h9 => c_X3_count l E h9) rfl hl rfl rfl rfl dX10_whyNoChoice_5 ⟨Nat.zero_le _, Nat.zero_le _⟩ (fun v2 hf => ?_)
  refine q_ifne C (tgt := 14) dX10_whyNoChoice_8 (by decide) hf (fun hf => ?_) (fun hf => ?_)
  · refine lv_aload_n hx hb dX10_whyNoChoice_14 rfl (lv_at hl 0 rfl) ?_
    refine q_getR C hj lk_X10_65 dX10_whyNoChoice_15 hf (fun v3 hf => ?_)
    refine lv_iconst (v := 0) hx hb dX10_whyNoChoice_18 qi_0 ?_
    refine lv_iload_n hx hb dX10_whyNoChoice_19 rfl (lv_at hl 1 rfl) ?_
    refine q_cVRI C hj cw_X10_111 (As := [.int 0, .int a1]) (rest := []) hf (fun v9 h9 => c_X3_has l E h9) rfl hl rfl rfl rfl dX10_whyNoChoice_20 ⟨Nat.zero_le _, Nat.zero_le _⟩ (fun v4 hf => ?_)
    refine q_ifeq C (tgt := 30) dX10_whyNoChoice_23 (by decide) hf (fun hf => ?_) (fun hf => ?_)
    · refine lv_iconst (v := 2) hx hb dX10_whyNoChoice_30 qi_2 ?_
      exact q_iretR C dX10_whyNoChoice_31 hf
    · refine lv_iconst (v := 0) hx hb dX10_whyNoChoice_26 qi_0 ?_
      refine lv_goto (tgt := 31) hx hb dX10_whyNoChoice_27 (by decide) ?_
      exact q_iretR C dX10_whyNoChoice_31 hf
  · refine lv_bipush (v := 6) hx hb dX10_whyNoChoice_11 (by decide) ?_
    exact q_iretR C dX10_whyNoChoice_13 hf
def J_X10_rests_16  (x0 : Nat) (x1 : Int32) (t0 : Int32) (g : qS) : Option (Int32 × qS) := if t0 = 0 then ((g_R g x0 9 6).bind fun v1 => (g_R g x0 9 8).bind fun v2 => (f_X2_find g v1 v2 x1).bind fun g3 => (g_R g3 x0 9 6).bind fun v4 => (f_X2_rowCount g3 v4).bind fun v5 => q_b2 (f_X10_fine g3 x0 v5) fun v7 g6 => some (v7, g6)) else (q_b2 (f_X10_refused g x0 t0) fun v9 g8 => some (v9, g8))
set_option maxHeartbeats 4000000 in
set_option maxRecDepth 100000 in
theorem w_J_X10_rests_16 {l : Launch} {E : qV} {p : Program} {e : Env} {s : State} {m : MethodId} {args : Array Value} {below : List Frame} {meth : Method} {c : Code}  {res : (Int32 × qS)} (C : q_C E p s m args meth c cX10_rests RX10 3 (some .int))  : ∀ {x0 : Nat} {x1 : Int32} {t0 : Int32} {g : qS} {H : Heap} {locs : List Loc} {ls : Array Slot}, q_J E s g H locs → lv_has ls 3 [(0, .ref (q_ad E x0)), (1, .int x1)] → J_X10_rests_16 x0 x1 t0 g = some res → W p l e (q_rm 4 96) s m args below meth c H locs 0 0 (q_ZW E below (some (.int res.1)) res.2 args s) (F0 m 16 ls [.int t0]) := by
  have hx := C.1
  have hb := C.2.1
  intro x0 x1 t0 g H locs ls hj hl hf
  unfold J_X10_rests_16 at hf
  refine lv_istore_n (lv' := [(2, .int t0), (0, .ref (q_ad E x0)), (1, .int x1)]) hx hb dX10_rests_16 rfl hl (by decide) rfl (fun ls hl => ?_)
  refine lv_iload_n hx hb dX10_rests_17 rfl (lv_at hl 0 rfl) ?_
  refine q_ifeq C (tgt := 27) dX10_rests_18 (by decide) hf (fun hf => ?_) (fun hf => ?_)
  · refine lv_aload_n hx hb dX10_rests_27 rfl (lv_at hl 1 rfl) ?_
    refine q_getR C hj lk_X10_54 dX10_rests_28 hf (fun v1 hf => ?_)
    refine lv_aload_n hx hb dX10_rests_31 rfl (lv_at hl 1 rfl) ?_
    refine q_getR C hj lk_X10_65 dX10_rests_32 hf (fun v2 hf => ?_)
    refine lv_iload_n hx hb dX10_rests_35 rfl (lv_at hl 2 rfl) ?_
    refine q_cVWV C hj cw_X10_246 (As := [.ref (q_ad E v2), .int x1]) (rest := []) hf (fun g9 h9 => c_X2_find l E h9) rfl hl rfl rfl rfl dX10_rests_36 ⟨Nat.zero_le _, Nat.zero_le _⟩ (fun g3 H locs hj hf => ?_)
    refine lv_aload_n hx hb dX10_rests_39 rfl (lv_at hl 1 rfl) ?_
    refine lv_aload_n hx hb dX10_rests_40 rfl (lv_at hl 1 rfl) ?_
    refine q_getR C hj lk_X10_54 dX10_rests_41 hf (fun v4 hf => ?_)
    refine q_cVRI C hj cw_X10_248 (As := []) (rest := [.ref (q_ad E x0)]) hf (fun v9 h9 => c_X2_rowCount l E h9) rfl hl rfl rfl rfl dX10_rests_44 ⟨Nat.zero_le _, Nat.zero_le _⟩ (fun v5 hf => ?_)
    refine q_cVWI C hj cw_X10_102 (As := [.int v5]) (rest := []) hf (fun v9 g9 h9 => c_X10_fine l E h9) rfl hl rfl rfl rfl dX10_rests_47 ⟨Nat.zero_le _, Nat.zero_le _⟩ (fun v7 g6 H locs hj hf => ?_)
    exact q_iretW C hj dX10_rests_50 hf
  · refine lv_aload_n hx hb dX10_rests_21 rfl (lv_at hl 1 rfl) ?_
    refine lv_iload_n hx hb dX10_rests_22 rfl (lv_at hl 0 rfl) ?_
    refine q_cVWI C hj cw_X10_77 (As := [.int t0]) (rest := []) hf (fun v9 g9 h9 => c_X10_refused l E h9) rfl hl rfl rfl rfl dX10_rests_23 ⟨Nat.zero_le _, Nat.zero_le _⟩ (fun v9 g8 H locs hj hf => ?_)
    exact q_iretW C hj dX10_rests_26 hf
def f_X10_rests (g : qS) (a0 : Nat) (a1 : Int32) : Option (Int32 × qS) := (g_C g a0 9).bind fun _ => (f_X10_noCollege g a0).bind fun v1 => if v1 = 0 then ((f_X10_whyNoChoice g a0 a1).bind fun v2 => J_X10_rests_16 a0 a1 v2 g) else (J_X10_rests_16 a0 a1 1 g)
set_option maxHeartbeats 4000000 in
set_option maxRecDepth 100000 in
theorem c_X10_rests (l : Launch) (E : qV) {g : qS} {a0 : Nat} {a1 : Int32} {res : (Int32 × qS)} (hf : f_X10_rests g a0 a1 = some res) : q_MW l yX10_rests cX10_rests 3 (some .int) 4 96 E [.ref (q_ad E a0), .int a1] g (some (.int res.1)) res.2 ∧ ∃ fs, g a0 = some (.inr (9, fs)) := by
  unfold f_X10_rests at hf
  obtain ⟨u9, hu9, hf⟩ := q_ob hf
  refine ⟨q_ofW (by decide) rfl ?_, g_C_sp hu9⟩
  intro p e s m args below meth c ls C hj hl
  have hx := C.1
  have hb := C.2.1
  have C : q_C E p s m args meth c cX10_rests RX10 3 (some .int) := C
  have hl : lv_has ls 3 [(0, .ref (q_ad E a0)), (1, .int a1)] := hl
  refine lv_aload_n hx hb dX10_rests_0 rfl (lv_at hl 0 rfl) ?_
  refine q_cVRI C hj cw_X10_196 (As := []) (rest := []) hf (fun v9 h9 => c_X10_noCollege l E h9) rfl hl rfl rfl rfl dX10_rests_1 ⟨Nat.zero_le _, Nat.zero_le _⟩ (fun v1 hf => ?_)
  refine q_ifeq C (tgt := 11) dX10_rests_4 (by decide) hf (fun hf => ?_) (fun hf => ?_)
  · refine lv_aload_n hx hb dX10_rests_11 rfl (lv_at hl 0 rfl) ?_
    refine lv_iload_n hx hb dX10_rests_12 rfl (lv_at hl 1 rfl) ?_
    refine q_cVRI C hj cw_X10_243 (As := [.int a1]) (rest := []) hf (fun v9 h9 => c_X10_whyNoChoice l E h9) rfl hl rfl rfl rfl dX10_rests_13 ⟨Nat.zero_le _, Nat.zero_le _⟩ (fun v2 hf => ?_)
    refine w_J_X10_rests_16 C  hj (lv_sub hl [0, 1] rfl) hf
  · refine lv_iconst (v := 1) hx hb dX10_rests_7 qi_1 ?_
    refine lv_goto (tgt := 16) hx hb dX10_rests_8 (by decide) ?_
    refine w_J_X10_rests_16 C  hj (lv_sub hl [0, 1] rfl) hf
def J_X10_restOf_21  (x0 : Nat) (x1 : Int32) (x2 : Int32) (t0 : Int32) (g : qS) : Option (Int32 × qS) := if t0 = 0 then ((g_R g x0 9 6).bind fun v1 => (g_R g x0 9 8).bind fun v2 => (f_X2_find g v1 v2 x1).bind fun g3 => (g_R g3 x0 9 6).bind fun v4 => (g_R g3 x0 9 8).bind fun v5 => (f_X2_firstTramOf g3 v4 v5 x2).bind fun v6 => q_b2 (f_X10_fine g3 x0 v6) fun v8 g7 => some (v8, g7)) else (q_b2 (f_X10_refused g x0 t0) fun v10 g9 => some (v10, g9))
set_option maxHeartbeats 4000000 in
set_option maxRecDepth 100000 in
theorem w_J_X10_restOf_21 {l : Launch} {E : qV} {p : Program} {e : Env} {s : State} {m : MethodId} {args : Array Value} {below : List Frame} {meth : Method} {c : Code}  {res : (Int32 × qS)} (C : q_C E p s m args meth c cX10_restOf RX10 4 (some .int))  : ∀ {x0 : Nat} {x1 : Int32} {x2 : Int32} {t0 : Int32} {g : qS} {H : Heap} {locs : List Loc} {ls : Array Slot}, q_J E s g H locs → lv_has ls 4 [(0, .ref (q_ad E x0)), (1, .int x1), (2, .int x2)] → J_X10_restOf_21 x0 x1 x2 t0 g = some res → W p l e (q_rm 4 96) s m args below meth c H locs 0 0 (q_ZW E below (some (.int res.1)) res.2 args s) (F0 m 21 ls [.int t0]) := by
  have hx := C.1
  have hb := C.2.1
  intro x0 x1 x2 t0 g H locs ls hj hl hf
  unfold J_X10_restOf_21 at hf
  refine lv_istore_n (lv' := [(3, .int t0), (0, .ref (q_ad E x0)), (1, .int x1), (2, .int x2)]) hx hb dX10_restOf_21 rfl hl (by decide) rfl (fun ls hl => ?_)
  refine lv_iload_n hx hb dX10_restOf_22 rfl (lv_at hl 0 rfl) ?_
  refine q_ifeq C (tgt := 32) dX10_restOf_23 (by decide) hf (fun hf => ?_) (fun hf => ?_)
  · refine lv_aload_n hx hb dX10_restOf_32 rfl (lv_at hl 1 rfl) ?_
    refine q_getR C hj lk_X10_54 dX10_restOf_33 hf (fun v1 hf => ?_)
    refine lv_aload_n hx hb dX10_restOf_36 rfl (lv_at hl 1 rfl) ?_
    refine q_getR C hj lk_X10_65 dX10_restOf_37 hf (fun v2 hf => ?_)
    refine lv_iload_n hx hb dX10_restOf_40 rfl (lv_at hl 2 rfl) ?_
    refine q_cVWV C hj cw_X10_246 (As := [.ref (q_ad E v2), .int x1]) (rest := []) hf (fun g9 h9 => c_X2_find l E h9) rfl hl rfl rfl rfl dX10_restOf_41 ⟨Nat.zero_le _, Nat.zero_le _⟩ (fun g3 H locs hj hf => ?_)
    refine lv_aload_n hx hb dX10_restOf_44 rfl (lv_at hl 1 rfl) ?_
    refine lv_aload_n hx hb dX10_restOf_45 rfl (lv_at hl 1 rfl) ?_
    refine q_getR C hj lk_X10_54 dX10_restOf_46 hf (fun v4 hf => ?_)
    refine lv_aload_n hx hb dX10_restOf_49 rfl (lv_at hl 1 rfl) ?_
    refine q_getR C hj lk_X10_65 dX10_restOf_50 hf (fun v5 hf => ?_)
    refine lv_iload_n hx hb dX10_restOf_53 rfl (lv_at hl 3 rfl) ?_
    refine q_cVRI C hj cw_X10_249 (As := [.ref (q_ad E v5), .int x2]) (rest := [.ref (q_ad E x0)]) hf (fun v9 h9 => c_X2_firstTramOf l E h9) rfl hl rfl rfl rfl dX10_restOf_54 ⟨Nat.zero_le _, Nat.zero_le _⟩ (fun v6 hf => ?_)
    refine q_cVWI C hj cw_X10_102 (As := [.int v6]) (rest := []) hf (fun v9 g9 h9 => c_X10_fine l E h9) rfl hl rfl rfl rfl dX10_restOf_57 ⟨Nat.zero_le _, Nat.zero_le _⟩ (fun v8 g7 H locs hj hf => ?_)
    exact q_iretW C hj dX10_restOf_60 hf
  · refine lv_aload_n hx hb dX10_restOf_26 rfl (lv_at hl 1 rfl) ?_
    refine lv_iload_n hx hb dX10_restOf_27 rfl (lv_at hl 0 rfl) ?_
    refine q_cVWI C hj cw_X10_77 (As := [.int t0]) (rest := []) hf (fun v9 g9 h9 => c_X10_refused l E h9) rfl hl rfl rfl rfl dX10_restOf_28 ⟨Nat.zero_le _, Nat.zero_le _⟩ (fun v10 g9 H locs hj hf => ?_)
    exact q_iretW C hj dX10_restOf_31 hf
def f_X10_restOf (g : qS) (a0 : Nat) (a1 : Int32) (a2 : Int32) : Option (Int32 × qS) := (g_C g a0 9).bind fun _ => (g_R g a0 9 8).bind fun v1 => (f_X3_has g v1 3 a2).bind fun v2 => if v2 = 0 then (J_X10_restOf_21 a0 a1 a2 1 g) else ((f_X10_whyNoChoice g a0 a1).bind fun v3 => J_X10_restOf_21 a0 a1 a2 v3 g)
set_option maxHeartbeats 4000000 in
set_option maxRecDepth 100000 in
theorem c_X10_restOf (l : Launch) (E : qV) {g : qS} {a0 : Nat} {a1 : Int32} {a2 : Int32} {res : (Int32 × qS)} (hf : f_X10_restOf g a0 a1 a2 = some res) : q_MW l yX10_restOf cX10_restOf 4 (some .int) 4 96 E [.ref (q_ad E a0), .int a1, .int a2] g (some (.int res.1)) res.2 ∧ ∃ fs, g a0 = some (.inr (9, fs)) := by
  unfold f_X10_restOf at hf
  obtain ⟨u9, hu9, hf⟩ := q_ob hf
  refine ⟨q_ofW (by decide) rfl ?_, g_C_sp hu9⟩
  intro p e s m args below meth c ls C hj hl
  have hx := C.1
  have hb := C.2.1
  have C : q_C E p s m args meth c cX10_restOf RX10 4 (some .int) := C
  have hl : lv_has ls 4 [(0, .ref (q_ad E a0)), (1, .int a1), (2, .int a2)] := hl
  refine lv_aload_n hx hb dX10_restOf_0 rfl (lv_at hl 0 rfl) ?_
  refine q_getR C hj lk_X10_65 dX10_restOf_1 hf (fun v1 hf => ?_)
  refine lv_iconst (v := 3) hx hb dX10_restOf_4 qi_3 ?_
  refine lv_iload_n hx hb dX10_restOf_5 rfl (lv_at hl 2 rfl) ?_
  refine q_cVRI C hj cw_X10_111 (As := [.int 3, .int a2]) (rest := []) hf (fun v9 h9 => c_X3_has l E h9) rfl hl rfl rfl rfl dX10_restOf_6 ⟨Nat.zero_le _, Nat.zero_le _⟩ (fun v2 hf => ?_)
  refine q_ifne C (tgt := 16) dX10_restOf_9 (by decide) hf (fun hf => ?_) (fun hf => ?_)
  · refine lv_aload_n hx hb dX10_restOf_16 rfl (lv_at hl 0 rfl) ?_
    refine lv_iload_n hx hb dX10_restOf_17 rfl (lv_at hl 1 rfl) ?_
    refine q_cVRI C hj cw_X10_243 (As := [.int a1]) (rest := []) hf (fun v9 h9 => c_X10_whyNoChoice l E h9) rfl hl rfl rfl rfl dX10_restOf_18 ⟨Nat.zero_le _, Nat.zero_le _⟩ (fun v3 hf => ?_)
    refine w_J_X10_restOf_21 C  hj (lv_sub hl [0, 1, 2] rfl) hf
  · refine lv_iconst (v := 1) hx hb dX10_restOf_12 qi_1 ?_
    refine lv_goto (tgt := 21) hx hb dX10_restOf_13 (by decide) ?_
    refine w_J_X10_restOf_21 C  hj (lv_sub hl [0, 1, 2] rfl) hf
def L_X10_limit_21 (k83 : Nat → Int32 → Int32 → Int32 → qS → Option (Int32 × qS)) : Nat → Nat → Int32 → Int32 → Int32 → Int32 → qS → Option (Int32 × qS)
  | 0, _, _, _, _, _, _ => none
  | n + 1, x0, x1, x2, x3, x4, g => (g_R g x0 9 8).bind fun v1 => (f_X3_count g v1 9).bind fun v2 => if v2 ≤ x4 then (k83 x0 x1 x2 x3 g) else ((g_R g x0 9 8).bind fun v3 => (f_X3_examNearness g v3 x4).bind fun v4 => (g_R g x0 9 8).bind fun v5 => (f_X3_examCaught g v5 x4).bind fun v6 => if v6 = 0 then (L_X10_limit_21 k83 n x0 x1 (q_mx x2 v4) x3 (x4 + 1) g) else (L_X10_limit_21 k83 n x0 x1 x2 (q_mn x3 (v4 - 1)) (x4 + 1) g))
set_option maxHeartbeats 4000000 in
set_option maxRecDepth 100000 in
theorem w_L_X10_limit_21 {l : Launch} {E : qV} {p : Program} {e : Env} {s : State} {m : MethodId} {args : Array Value} {below : List Frame} {meth : Method} {c : Code} {k83 : Nat → Int32 → Int32 → Int32 → qS → Option (Int32 × qS)} {res : (Int32 × qS)} (C : q_C E p s m args meth c cX10_limit RX10 6 (some .int)) (hk83 : ∀ (x0 : Nat) (x1 : Int32) (x2 : Int32) (x3 : Int32) (g : qS) (H : Heap) (locs : List Loc) (ls : Array Slot), q_J E s g H locs → lv_has ls 6 [(0, .ref (q_ad E x0)), (1, .int x1), (2, .int x2), (3, .int x3)] → k83 x0 x1 x2 x3 g = some res → W p l e (q_rm 3 73) s m args below meth c H locs 0 0 (q_ZW E below (some (.int res.1)) res.2 args s) (F0 m 83 ls [])) : ∀ {n : Nat} {x0 : Nat} {x1 : Int32} {x2 : Int32} {x3 : Int32} {x4 : Int32} {g : qS} {H : Heap} {locs : List Loc} {ls : Array Slot}, q_J E s g H locs → lv_has ls 6 [(0, .ref (q_ad E x0)), (1, .int x1), (2, .int x2), (3, .int x3), (4, .int x4)] → L_X10_limit_21 k83 n x0 x1 x2 x3 x4 g = some res → W p l e (q_rm 3 73) s m args below meth c H locs 0 0 (q_ZW E below (some (.int res.1)) res.2 args s) (F0 m 21 ls []) := by
  have hx := C.1
  have hb := C.2.1
  intro n
  induction n with
  | zero =>
    intro x0 x1 x2 x3 x4 g H locs ls hj hl hf
    cases hf
  | succ n ih_ =>
    intro x0 x1 x2 x3 x4 g H locs ls hj hl hf
    have ih : ∀ (x0 : Nat) (x1 : Int32) (x2 : Int32) (x3 : Int32) (x4 : Int32) (g : qS) (H : Heap) (locs : List Loc) (ls : Array Slot), q_J E s g H locs → lv_has ls 6 [(0, .ref (q_ad E x0)), (1, .int x1), (2, .int x2), (3, .int x3), (4, .int x4)] → L_X10_limit_21 k83 n x0 x1 x2 x3 x4 g = some res → W p l e (q_rm 3 73) s m args below meth c H locs 0 0 (q_ZW E below (some (.int res.1)) res.2 args s) (F0 m 21 ls []) := fun x0 x1 x2 x3 x4 g H locs ls hj hl hf => ih_ hj hl hf
    unfold L_X10_limit_21 at hf
    refine lv_iload hx hb dX10_limit_21 (lv_at hl 4 rfl) ?_
    refine lv_aload_n hx hb dX10_limit_23 rfl (lv_at hl 0 rfl) ?_
    refine q_getR C hj lk_X10_65 dX10_limit_24 hf (fun v1 hf => ?_)
    refine lv_bipush (v := 9) hx hb dX10_limit_27 (by decide) ?_
    refine q_cVRI C hj cw_X10_99 (As := [.int 9]) (rest := [.int x4]) hf (fun v9 h9 => c_X3_count l E h9) rfl hl rfl rfl rfl dX10_limit_29 ⟨Nat.zero_le _, Nat.zero_le _⟩ (fun v2 hf => ?_)
    refine q_icge C (tgt := 83) dX10_limit_32 (by decide) hf (fun hf => ?_) (fun hf => ?_)
    · exact hk83 _ _ _ _ _ _ _ ls hj (lv_sub hl [0, 1, 2, 3] rfl) hf
    · refine lv_aload_n hx hb dX10_limit_35 rfl (lv_at hl 0 rfl) ?_
      refine q_getR C hj lk_X10_65 dX10_limit_36 hf (fun v3 hf => ?_)
      refine lv_iload hx hb dX10_limit_39 (lv_at hl 4 rfl) ?_
      refine q_cVRI C hj cw_X10_252 (As := [.int x4]) (rest := []) hf (fun v9 h9 => c_X3_examNearness l E h9) rfl hl rfl rfl rfl dX10_limit_41 ⟨Nat.zero_le _, Nat.zero_le _⟩ (fun v4 hf => ?_)
      refine lv_istore (lv' := [(5, .int v4), (0, .ref (q_ad E x0)), (1, .int x1), (2, .int x2), (3, .int x3), (4, .int x4)]) hx hb dX10_limit_44 hl (by decide) rfl (fun ls hl => ?_)
      refine lv_aload_n hx hb dX10_limit_46 rfl (lv_at hl 1 rfl) ?_
      refine q_getR C hj lk_X10_65 dX10_limit_47 hf (fun v5 hf => ?_)
      refine lv_iload hx hb dX10_limit_50 (lv_at hl 5 rfl) ?_
      refine q_cVRI C hj cw_X10_255 (As := [.int x4]) (rest := []) hf (fun v9 h9 => c_X3_examCaught l E h9) rfl hl rfl rfl rfl dX10_limit_52 ⟨Nat.zero_le _, Nat.zero_le _⟩ (fun v6 hf => ?_)
      refine q_ifeq C (tgt := 70) dX10_limit_55 (by decide) hf (fun hf => ?_) (fun hf => ?_)
      · refine lv_iload_n hx hb dX10_limit_70 rfl (lv_at hl 3 rfl) ?_
        refine lv_iload hx hb dX10_limit_71 (lv_at hl 0 rfl) ?_
        refine q_max C (q_ml_X10_175) rfl hl dX10_limit_73 ?_
        refine lv_istore_n (lv' := [(2, .int (q_mx x2 v4)), (5, .int v4), (0, .ref (q_ad E x0)), (1, .int x1), (3, .int x3), (4, .int x4)]) hx hb dX10_limit_76 rfl hl (by decide) rfl (fun ls hl => ?_)
        refine lv_iinc (v := x4 + 1) (lv' := [(4, .int (x4 + 1)), (2, .int (q_mx x2 v4)), (5, .int v4), (0, .ref (q_ad E x0)), (1, .int x1), (3, .int x3)]) hx hb dX10_limit_77 hl (k := 5) rfl (by rw [qi_1]) (by decide) rfl (fun ls hl => ?_)
        refine lv_goto (tgt := 21) hx hb dX10_limit_80 (by decide) ?_
        exact ih _ _ _ _ _ _ _ _ ls hj (lv_sub hl [3, 4, 1, 5, 0] rfl) hf
      · refine lv_iload_n hx hb dX10_limit_58 rfl (lv_at hl 4 rfl) ?_
        refine lv_iload hx hb dX10_limit_59 (lv_at hl 0 rfl) ?_
        refine lv_iconst (v := 1) hx hb dX10_limit_61 qi_1 ?_
        refine lv_isub hx hb dX10_limit_62 ?_
        refine q_min C (q_ml_X10_258) rfl hl dX10_limit_63 ?_
        refine lv_istore_n (lv' := [(3, .int (q_mn x3 (v4 - 1))), (5, .int v4), (0, .ref (q_ad E x0)), (1, .int x1), (2, .int x2), (4, .int x4)]) hx hb dX10_limit_66 rfl hl (by decide) rfl (fun ls hl => ?_)
        refine lv_goto (tgt := 77) hx hb dX10_limit_67 (by decide) ?_
        refine lv_iinc (v := x4 + 1) (lv' := [(4, .int (x4 + 1)), (3, .int (q_mn x3 (v4 - 1))), (5, .int v4), (0, .ref (q_ad E x0)), (1, .int x1), (2, .int x2)]) hx hb dX10_limit_77 hl (k := 5) rfl (by rw [qi_1]) (by decide) rfl (fun ls hl => ?_)
        refine lv_goto (tgt := 21) hx hb dX10_limit_80 (by decide) ?_
        exact ih _ _ _ _ _ _ _ _ ls hj (lv_sub hl [3, 4, 5, 1, 0] rfl) hf
def f_X10_limit (g : qS) (a0 : Nat) (a1 : Int32) : Option (Int32 × qS) := (g_C g a0 9).bind fun _ => (f_X10_noCollege g a0).bind fun v1 => if v1 = 0 then (L_X10_limit_21 (fun y2 y3 y4 y5 g6 => if y4 ≤ y5 then (if y3 = 0 then (q_b2 (f_X10_fine g6 y2 y4) fun v8 g7 => some (v8, g7)) else (q_b2 (f_X10_fine g6 y2 y5) fun v10 g9 => some (v10, g9))) else (q_b2 (f_X10_fine g6 y2 (-2)) fun v12 g11 => some (v12, g11))) 1000000000 a0 a1 0 100 0 g) else (q_b2 (f_X10_refused g a0 1) fun v14 g13 => some (v14, g13))
set_option maxHeartbeats 4000000 in
set_option maxRecDepth 100000 in
theorem c_X10_limit (l : Launch) (E : qV) {g : qS} {a0 : Nat} {a1 : Int32} {res : (Int32 × qS)} (hf : f_X10_limit g a0 a1 = some res) : q_MW l yX10_limit cX10_limit 6 (some .int) 3 73 E [.ref (q_ad E a0), .int a1] g (some (.int res.1)) res.2 ∧ ∃ fs, g a0 = some (.inr (9, fs)) := by
  unfold f_X10_limit at hf
  obtain ⟨u9, hu9, hf⟩ := q_ob hf
  refine ⟨q_ofW (by decide) rfl ?_, g_C_sp hu9⟩
  intro p e s m args below meth c ls C hj hl
  have hx := C.1
  have hb := C.2.1
  have C : q_C E p s m args meth c cX10_limit RX10 6 (some .int) := C
  have hl : lv_has ls 6 [(0, .ref (q_ad E a0)), (1, .int a1)] := hl
  refine lv_aload_n hx hb dX10_limit_0 rfl (lv_at hl 0 rfl) ?_
  refine q_cVRI C hj cw_X10_196 (As := []) (rest := []) hf (fun v9 h9 => c_X10_noCollege l E h9) rfl hl rfl rfl rfl dX10_limit_1 ⟨Nat.zero_le _, Nat.zero_le _⟩ (fun v1 hf => ?_)
  refine q_ifeq C (tgt := 13) dX10_limit_4 (by decide) hf (fun hf => ?_) (fun hf => ?_)
  · refine lv_iconst (v := 0) hx hb dX10_limit_13 qi_0 ?_
    refine lv_istore_n (lv' := [(2, .int 0), (0, .ref (q_ad E a0)), (1, .int a1)]) hx hb dX10_limit_14 rfl hl (by decide) rfl (fun ls hl => ?_)
    refine lv_bipush (v := 100) hx hb dX10_limit_15 (by decide) ?_
    refine lv_istore_n (lv' := [(3, .int 100), (2, .int 0), (0, .ref (q_ad E a0)), (1, .int a1)]) hx hb dX10_limit_17 rfl hl (by decide) rfl (fun ls hl => ?_)
    refine lv_iconst (v := 0) hx hb dX10_limit_18 qi_0 ?_
    refine lv_istore (lv' := [(4, .int 0), (3, .int 100), (2, .int 0), (0, .ref (q_ad E a0)), (1, .int a1)]) hx hb dX10_limit_19 hl (by decide) rfl (fun ls hl => ?_)
    refine w_L_X10_limit_21 C (fun y2 y3 y4 y5 g6 H locs ls hj hl hf => ?_) hj (lv_sub hl [3, 4, 2, 1, 0] rfl) hf
    · refine lv_iload_n hx hb dX10_limit_83 rfl (lv_at hl 2 rfl) ?_
      refine lv_iload_n hx hb dX10_limit_84 rfl (lv_at hl 3 rfl) ?_
      refine q_icle C (tgt := 95) dX10_limit_85 (by decide) hf (fun hf => ?_) (fun hf => ?_)
      · refine lv_aload_n hx hb dX10_limit_95 rfl (lv_at hl 0 rfl) ?_
        refine lv_iload_n hx hb dX10_limit_96 rfl (lv_at hl 1 rfl) ?_
        refine q_ifeq C (tgt := 104) dX10_limit_97 (by decide) hf (fun hf => ?_) (fun hf => ?_)
        · refine lv_iload_n hx hb dX10_limit_104 rfl (lv_at hl 2 rfl) ?_
          refine q_cVWI C hj cw_X10_102 (As := [.int y4]) (rest := []) hf (fun v9 g9 h9 => c_X10_fine l E h9) rfl hl rfl rfl rfl dX10_limit_105 ⟨Nat.zero_le _, Nat.zero_le _⟩ (fun v8 g7 H locs hj hf => ?_)
          exact q_iretW C hj dX10_limit_108 hf
        · refine lv_iload_n hx hb dX10_limit_100 rfl (lv_at hl 3 rfl) ?_
          refine lv_goto (tgt := 105) hx hb dX10_limit_101 (by decide) ?_
          refine q_cVWI C hj cw_X10_102 (As := [.int y5]) (rest := []) hf (fun v9 g9 h9 => c_X10_fine l E h9) rfl hl rfl rfl rfl dX10_limit_105 ⟨Nat.zero_le _, Nat.zero_le _⟩ (fun v10 g9 H locs hj hf => ?_)
          exact q_iretW C hj dX10_limit_108 hf
      · refine lv_aload_n hx hb dX10_limit_88 rfl (lv_at hl 0 rfl) ?_
        refine lv_bipush (v := -2) hx hb dX10_limit_89 (by decide) ?_
        refine q_cVWI C hj cw_X10_102 (As := [.int (-2)]) (rest := []) hf (fun v9 g9 h9 => c_X10_fine l E h9) rfl hl rfl rfl rfl dX10_limit_91 ⟨Nat.zero_le _, Nat.zero_le _⟩ (fun v12 g11 H locs hj hf => ?_)
        exact q_iretW C hj dX10_limit_94 hf
  · refine lv_aload_n hx hb dX10_limit_7 rfl (lv_at hl 0 rfl) ?_
    refine lv_iconst (v := 1) hx hb dX10_limit_8 qi_1 ?_
    refine q_cVWI C hj cw_X10_77 (As := [.int 1]) (rest := []) hf (fun v9 g9 h9 => c_X10_refused l E h9) rfl hl rfl rfl rfl dX10_limit_9 ⟨Nat.zero_le _, Nat.zero_le _⟩ (fun v14 g13 H locs hj hf => ?_)
    exact q_iretW C hj dX10_limit_12 hf
def f_X10_whyNoDare (g : qS) (a0 : Nat) (a1 : Int32) : Option Int32 := (g_C g a0 9).bind fun _ => (f_X10_noCollege g a0).bind fun v1 => if v1 = 0 then (if a1 < 0 then (some 2) else (if a1 ≤ 100 then (some 0) else (some 2))) else (some 1)
set_option maxHeartbeats 4000000 in
set_option maxRecDepth 100000 in
theorem c_X10_whyNoDare (l : Launch) (E : qV) {g : qS} {a0 : Nat} {a1 : Int32} {res : Int32} (hf : f_X10_whyNoDare g a0 a1 = some res) : q_MR l yX10_whyNoDare cX10_whyNoDare 2 (some .int) 3 64 E [.ref (q_ad E a0), .int a1] g (some (.int res)) ∧ ∃ fs, g a0 = some (.inr (9, fs)) := by
  unfold f_X10_whyNoDare at hf
  obtain ⟨u9, hu9, hf⟩ := q_ob hf
  refine ⟨q_ofR (by decide) rfl ?_, g_C_sp hu9⟩
  intro p e s m args below meth c ls C hw hl
  have hj : q_J E s g s.heap [] := ⟨hw, va_S.rf⟩
  have hx := C.1
  have hb := C.2.1
  have C : q_C E p s m args meth c cX10_whyNoDare RX10 2 (some .int) := C
  have hl : lv_has ls 2 [(0, .ref (q_ad E a0)), (1, .int a1)] := hl
  refine lv_aload_n hx hb dX10_whyNoDare_0 rfl (lv_at hl 0 rfl) ?_
  refine q_cVRI C hj cw_X10_196 (As := []) (rest := []) hf (fun v9 h9 => c_X10_noCollege l E h9) rfl hl rfl rfl rfl dX10_whyNoDare_1 ⟨Nat.zero_le _, Nat.zero_le _⟩ (fun v1 hf => ?_)
  refine q_ifeq C (tgt := 9) dX10_whyNoDare_4 (by decide) hf (fun hf => ?_) (fun hf => ?_)
  · refine lv_iload_n hx hb dX10_whyNoDare_9 rfl (lv_at hl 1 rfl) ?_
    refine q_iflt C (tgt := 19) dX10_whyNoDare_10 (by decide) hf (fun hf => ?_) (fun hf => ?_)
    · refine lv_iconst (v := 2) hx hb dX10_whyNoDare_19 qi_2 ?_
      refine lv_goto (tgt := 24) hx hb dX10_whyNoDare_20 (by decide) ?_
      exact q_iretR C dX10_whyNoDare_24 hf
    · refine lv_iload_n hx hb dX10_whyNoDare_13 rfl (lv_at hl 1 rfl) ?_
      refine lv_bipush (v := 100) hx hb dX10_whyNoDare_14 (by decide) ?_
      refine q_icle C (tgt := 23) dX10_whyNoDare_16 (by decide) hf (fun hf => ?_) (fun hf => ?_)
      · refine lv_iconst (v := 0) hx hb dX10_whyNoDare_23 qi_0 ?_
        exact q_iretR C dX10_whyNoDare_24 hf
      · refine lv_iconst (v := 2) hx hb dX10_whyNoDare_19 qi_2 ?_
        refine lv_goto (tgt := 24) hx hb dX10_whyNoDare_20 (by decide) ?_
        exact q_iretR C dX10_whyNoDare_24 hf
  · refine lv_iconst (v := 1) hx hb dX10_whyNoDare_7 qi_1 ?_
    exact q_iretR C dX10_whyNoDare_8 hf
def f_X10_dare (g : qS) (a0 : Nat) (a1 : Int32) : Option (Int32 × qS) := (g_C g a0 9).bind fun _ => (f_X10_whyNoDare g a0 a1).bind fun v1 => if v1 = 0 then ((f_X1_bestSteps g a1).bind fun v2 => q_b2 (f_X10_fine g a0 v2) fun v4 g3 => some (v4, g3)) else (q_b2 (f_X10_refused g a0 v1) fun v6 g5 => some (v6, g5))
set_option maxHeartbeats 4000000 in
set_option maxRecDepth 100000 in
theorem c_X10_dare (l : Launch) (E : qV) {g : qS} {a0 : Nat} {a1 : Int32} {res : (Int32 × qS)} (hf : f_X10_dare g a0 a1 = some res) : q_MW l yX10_dare cX10_dare 3 (some .int) 4 85 E [.ref (q_ad E a0), .int a1] g (some (.int res.1)) res.2 ∧ ∃ fs, g a0 = some (.inr (9, fs)) := by
  unfold f_X10_dare at hf
  obtain ⟨u9, hu9, hf⟩ := q_ob hf
  refine ⟨q_ofW (by decide) rfl ?_, g_C_sp hu9⟩
  intro p e s m args below meth c ls C hj hl
  have hx := C.1
  have hb := C.2.1
  have C : q_C E p s m args meth c cX10_dare RX10 3 (some .int) := C
  have hl : lv_has ls 3 [(0, .ref (q_ad E a0)), (1, .int a1)] := hl
  refine lv_aload_n hx hb dX10_dare_0 rfl (lv_at hl 0 rfl) ?_
  refine lv_iload_n hx hb dX10_dare_1 rfl (lv_at hl 1 rfl) ?_
  refine q_cVRI C hj cw_X10_261 (As := [.int a1]) (rest := []) hf (fun v9 h9 => c_X10_whyNoDare l E h9) rfl hl rfl rfl rfl dX10_dare_2 ⟨Nat.zero_le _, Nat.zero_le _⟩ (fun v1 hf => ?_)
  refine lv_istore_n (lv' := [(2, .int v1), (0, .ref (q_ad E a0)), (1, .int a1)]) hx hb dX10_dare_5 rfl hl (by decide) rfl (fun ls hl => ?_)
  refine lv_iload_n hx hb dX10_dare_6 rfl (lv_at hl 0 rfl) ?_
  refine q_ifeq C (tgt := 18) dX10_dare_7 (by decide) hf (fun hf => ?_) (fun hf => ?_)
  · refine lv_aload_n hx hb dX10_dare_18 rfl (lv_at hl 1 rfl) ?_
    refine lv_iload_n hx hb dX10_dare_19 rfl (lv_at hl 2 rfl) ?_
    refine q_cSRI C hj cw_X10_264 (As := [.int a1]) (rest := [.ref (q_ad E a0)]) hf (fun v9 h9 => c_X1_bestSteps l E h9) rfl hl rfl rfl rfl dX10_dare_20 ⟨Nat.zero_le _, Nat.zero_le _⟩ (fun v2 hf => ?_)
    refine q_cVWI C hj cw_X10_102 (As := [.int v2]) (rest := []) hf (fun v9 g9 h9 => c_X10_fine l E h9) rfl hl rfl rfl rfl dX10_dare_23 ⟨Nat.zero_le _, Nat.zero_le _⟩ (fun v4 g3 H locs hj hf => ?_)
    exact q_iretW C hj dX10_dare_26 hf
  · refine lv_aload_n hx hb dX10_dare_10 rfl (lv_at hl 1 rfl) ?_
    refine lv_iload_n hx hb dX10_dare_11 rfl (lv_at hl 0 rfl) ?_
    refine q_cVWI C hj cw_X10_77 (As := [.int v1]) (rest := []) hf (fun v9 g9 h9 => c_X10_refused l E h9) rfl hl rfl rfl rfl dX10_dare_12 ⟨Nat.zero_le _, Nat.zero_le _⟩ (fun v6 g5 H locs hj hf => ?_)
    refine lv_goto (tgt := 26) hx hb dX10_dare_15 (by decide) ?_
    exact q_iretW C hj dX10_dare_26 hf
def f_X10_honours (g : qS) (a0 : Nat) (a1 : Int32) (a2 : Int32) : Option (Int64 × qS) := (g_C g a0 9).bind fun _ => (f_X10_whyNoDare g a0 a1).bind fun v1 => if v1 = 0 then ((f_X1_bestMean g a1 a2).bind fun v2 => q_b2 (f_X10_fineLong g a0 v2) fun v4 g3 => some (v4, g3)) else (q_b2 (f_X10_refused g a0 v1) fun v6 g5 => some (v6.toInt64, g5))
set_option maxHeartbeats 4000000 in
set_option maxRecDepth 100000 in
theorem c_X10_honours (l : Launch) (E : qV) {g : qS} {a0 : Nat} {a1 : Int32} {a2 : Int32} {res : (Int64 × qS)} (hf : f_X10_honours g a0 a1 a2 = some res) : q_MW l yX10_honours cX10_honours 4 (some .long) 4 90 E [.ref (q_ad E a0), .int a1, .int a2] g (some (.long res.1)) res.2 ∧ ∃ fs, g a0 = some (.inr (9, fs)) := by
  unfold f_X10_honours at hf
  obtain ⟨u9, hu9, hf⟩ := q_ob hf
  refine ⟨q_ofW (by decide) rfl ?_, g_C_sp hu9⟩
  intro p e s m args below meth c ls C hj hl
  have hx := C.1
  have hb := C.2.1
  have C : q_C E p s m args meth c cX10_honours RX10 4 (some .long) := C
  have hl : lv_has ls 4 [(0, .ref (q_ad E a0)), (1, .int a1), (2, .int a2)] := hl
  refine lv_aload_n hx hb dX10_honours_0 rfl (lv_at hl 0 rfl) ?_
  refine lv_iload_n hx hb dX10_honours_1 rfl (lv_at hl 1 rfl) ?_
  refine q_cVRI C hj cw_X10_261 (As := [.int a1]) (rest := []) hf (fun v9 h9 => c_X10_whyNoDare l E h9) rfl hl rfl rfl rfl dX10_honours_2 ⟨Nat.zero_le _, Nat.zero_le _⟩ (fun v1 hf => ?_)
  refine lv_istore_n (lv' := [(3, .int v1), (0, .ref (q_ad E a0)), (1, .int a1), (2, .int a2)]) hx hb dX10_honours_5 rfl hl (by decide) rfl (fun ls hl => ?_)
  refine lv_iload_n hx hb dX10_honours_6 rfl (lv_at hl 0 rfl) ?_
  refine q_ifeq C (tgt := 19) dX10_honours_7 (by decide) hf (fun hf => ?_) (fun hf => ?_)
  · refine lv_aload_n hx hb dX10_honours_19 rfl (lv_at hl 1 rfl) ?_
    refine lv_iload_n hx hb dX10_honours_20 rfl (lv_at hl 2 rfl) ?_
    refine lv_iload_n hx hb dX10_honours_21 rfl (lv_at hl 3 rfl) ?_
    refine q_cSRL C hj cw_X10_267 (As := [.int a1, .int a2]) (rest := [.ref (q_ad E a0)]) hf (fun v9 h9 => c_X1_bestMean l E h9) rfl hl rfl rfl rfl dX10_honours_22 ⟨Nat.zero_le _, Nat.zero_le _⟩ (fun v2 hf => ?_)
    refine q_cVWL C hj cw_X10_235 (As := [.long v2]) (rest := []) hf (fun v9 g9 h9 => c_X10_fineLong l E h9) rfl hl rfl rfl rfl dX10_honours_25 ⟨Nat.zero_le _, Nat.zero_le _⟩ (fun v4 g3 H locs hj hf => ?_)
    exact q_lretW C hj dX10_honours_28 hf
  · refine lv_aload_n hx hb dX10_honours_10 rfl (lv_at hl 1 rfl) ?_
    refine lv_iload_n hx hb dX10_honours_11 rfl (lv_at hl 0 rfl) ?_
    refine q_cVWI C hj cw_X10_77 (As := [.int v1]) (rest := []) hf (fun v9 g9 h9 => c_X10_refused l E h9) rfl hl rfl rfl rfl dX10_honours_12 ⟨Nat.zero_le _, Nat.zero_le _⟩ (fun v6 g5 H locs hj hf => ?_)
    refine lv_i2l hx hb dX10_honours_15 rfl ?_
    refine lv_goto (tgt := 28) hx hb dX10_honours_16 (by decide) ?_
    exact q_lretW C hj dX10_honours_28 hf
def f_X10_isSeed (g : qS) (a0 : Int32) : Option Int32 := if a0 < 0 then (some 0) else (if 65536 < a0 then (some 0) else (some 1))
set_option maxHeartbeats 4000000 in
set_option maxRecDepth 100000 in
theorem c_X10_isSeed (l : Launch) (E : qV) {g : qS} {a0 : Int32} {res : Int32} (hf : f_X10_isSeed g a0 = some res) : q_MR l yX10_isSeed cX10_isSeed 1 (some .boolean) 0 0 E [.int a0] g (some (.int res)) := by
  unfold f_X10_isSeed at hf
  refine q_ofR (by decide) rfl ?_
  intro p e s m args below meth c ls C hw hl
  have hj : q_J E s g s.heap [] := ⟨hw, va_S.rf⟩
  have hx := C.1
  have hb := C.2.1
  have C : q_C E p s m args meth c cX10_isSeed RX10 1 (some .boolean) := C
  have hl : lv_has ls 1 [(0, .int a0)] := hl
  refine lv_iload_n hx hb dX10_isSeed_0 rfl (lv_at hl 0 rfl) ?_
  refine q_iflt C (tgt := 15) dX10_isSeed_1 (by decide) hf (fun hf => ?_) (fun hf => ?_)
  · refine lv_iconst (v := 0) hx hb dX10_isSeed_15 qi_0 ?_
    exact q_z0retR C dX10_isSeed_16 hf
  · refine lv_iload_n hx hb dX10_isSeed_4 rfl (lv_at hl 0 rfl) ?_
    refine lv_ldcw (v := 65536) hx hb C.2.2.2.1 (C.2.2.2.2.1 _ kc_X10_323) dX10_isSeed_5 ?_
    refine q_icgt C (tgt := 15) dX10_isSeed_8 (by decide) hf (fun hf => ?_) (fun hf => ?_)
    · refine lv_iconst (v := 0) hx hb dX10_isSeed_15 qi_0 ?_
      exact q_z0retR C dX10_isSeed_16 hf
    · refine lv_iconst (v := 1) hx hb dX10_isSeed_11 qi_1 ?_
      refine lv_goto (tgt := 16) hx hb dX10_isSeed_12 (by decide) ?_
      exact q_z1retR C dX10_isSeed_16 hf
def L_X10_drawn_43  : Nat → Nat → Int32 → Int32 → qS → Option (Int32 × qS)
  | 0, _, _, _, _ => none
  | n + 1, x0, x2, x3, g => (g_R g x0 9 8).bind fun v1 => (f_X3_count g v1 7).bind fun v2 => if v2 ≤ x3 then (q_b2 (f_X10_fine g x0 x2) fun v4 g3 => some (v4, g3)) else ((g_R g x0 9 3).bind fun v5 => (f_X5_outcomeOf g v5 x3).bind fun v6 => if v6 = 0 then (L_X10_drawn_43 n x0 (x2 + 1) (x3 + 1) g) else (L_X10_drawn_43 n x0 x2 (x3 + 1) g))
set_option maxHeartbeats 4000000 in
set_option maxRecDepth 100000 in
theorem w_L_X10_drawn_43 {l : Launch} {E : qV} {p : Program} {e : Env} {s : State} {m : MethodId} {args : Array Value} {below : List Frame} {meth : Method} {c : Code}  {res : (Int32 × qS)} (C : q_C E p s m args meth c cX10_drawn RX10 4 (some .int))  : ∀ {n : Nat} {x0 : Nat} {x2 : Int32} {x3 : Int32} {g : qS} {H : Heap} {locs : List Loc} {ls : Array Slot}, q_J E s g H locs → lv_has ls 4 [(0, .ref (q_ad E x0)), (2, .int x2), (3, .int x3)] → L_X10_drawn_43 n x0 x2 x3 g = some res → W p l e (q_rm 7 165) s m args below meth c H locs 0 0 (q_ZW E below (some (.int res.1)) res.2 args s) (F0 m 43 ls []) := by
  have hx := C.1
  have hb := C.2.1
  intro n
  induction n with
  | zero =>
    intro x0 x2 x3 g H locs ls hj hl hf
    cases hf
  | succ n ih_ =>
    intro x0 x2 x3 g H locs ls hj hl hf
    have ih : ∀ (x0 : Nat) (x2 : Int32) (x3 : Int32) (g : qS) (H : Heap) (locs : List Loc) (ls : Array Slot), q_J E s g H locs → lv_has ls 4 [(0, .ref (q_ad E x0)), (2, .int x2), (3, .int x3)] → L_X10_drawn_43 n x0 x2 x3 g = some res → W p l e (q_rm 7 165) s m args below meth c H locs 0 0 (q_ZW E below (some (.int res.1)) res.2 args s) (F0 m 43 ls []) := fun x0 x2 x3 g H locs ls hj hl hf => ih_ hj hl hf
    unfold L_X10_drawn_43 at hf
    refine lv_iload_n hx hb dX10_drawn_43 rfl (lv_at hl 2 rfl) ?_
    refine lv_aload_n hx hb dX10_drawn_44 rfl (lv_at hl 0 rfl) ?_
    refine q_getR C hj lk_X10_65 dX10_drawn_45 hf (fun v1 hf => ?_)
    refine lv_bipush (v := 7) hx hb dX10_drawn_48 (by decide) ?_
    refine q_cVRI C hj cw_X10_99 (As := [.int 7]) (rest := [.int x3]) hf (fun v9 h9 => c_X3_count l E h9) rfl hl rfl rfl rfl dX10_drawn_50 ⟨Nat.zero_le _, Nat.zero_le _⟩ (fun v2 hf => ?_)
    refine q_icge C (tgt := 76) dX10_drawn_53 (by decide) hf (fun hf => ?_) (fun hf => ?_)
    · refine lv_aload_n hx hb dX10_drawn_76 rfl (lv_at hl 0 rfl) ?_
      refine lv_iload_n hx hb dX10_drawn_77 rfl (lv_at hl 1 rfl) ?_
      refine q_cVWI C hj cw_X10_102 (As := [.int x2]) (rest := []) hf (fun v9 g9 h9 => c_X10_fine l E h9) rfl hl rfl rfl rfl dX10_drawn_78 ⟨Nat.zero_le _, Nat.zero_le _⟩ (fun v4 g3 H locs hj hf => ?_)
      exact q_iretW C hj dX10_drawn_81 hf
    · refine lv_aload_n hx hb dX10_drawn_56 rfl (lv_at hl 0 rfl) ?_
      refine q_getR C hj lk_X10_33 dX10_drawn_57 hf (fun v5 hf => ?_)
      refine lv_iload_n hx hb dX10_drawn_60 rfl (lv_at hl 2 rfl) ?_
      refine q_cVRI C hj cw_X10_187 (As := [.int x3]) (rest := []) hf (fun v9 h9 => c_X5_outcomeOf l E h9) rfl hl rfl rfl rfl dX10_drawn_61 ⟨Nat.zero_le _, Nat.zero_le _⟩ (fun v6 hf => ?_)
      refine q_ifne C (tgt := 70) dX10_drawn_64 (by decide) hf (fun hf => ?_) (fun hf => ?_)
      · refine lv_iinc (v := x3 + 1) (lv' := [(3, .int (x3 + 1)), (0, .ref (q_ad E x0)), (2, .int x2)]) hx hb dX10_drawn_70 hl (k := 2) rfl (by rw [qi_1]) (by decide) rfl (fun ls hl => ?_)
        refine lv_goto (tgt := 43) hx hb dX10_drawn_73 (by decide) ?_
        exact ih _ _ _ _ _ _ ls hj (lv_sub hl [1, 2, 0] rfl) hf
      · refine lv_iinc (v := x2 + 1) (lv' := [(2, .int (x2 + 1)), (0, .ref (q_ad E x0)), (3, .int x3)]) hx hb dX10_drawn_67 hl (k := 1) rfl (by rw [qi_1]) (by decide) rfl (fun ls hl => ?_)
        refine lv_iinc (v := x3 + 1) (lv' := [(3, .int (x3 + 1)), (2, .int (x2 + 1)), (0, .ref (q_ad E x0))]) hx hb dX10_drawn_70 hl (k := 2) rfl (by rw [qi_1]) (by decide) rfl (fun ls hl => ?_)
        refine lv_goto (tgt := 43) hx hb dX10_drawn_73 (by decide) ?_
        exact ih _ _ _ _ _ _ ls hj (lv_sub hl [2, 1, 0] rfl) hf
def f_X10_drawn (g : qS) (a0 : Nat) (a1 : Int32) : Option (Int32 × qS) := (g_C g a0 9).bind fun _ => (f_X10_noCollege g a0).bind fun v1 => if v1 = 0 then ((f_X10_isSeed g a1).bind fun v2 => if v2 = 0 then (q_b2 (f_X10_refused g a0 2) fun v8 g7 => some (v8, g7)) else ((g_R g a0 9 3).bind fun v3 => (g_R g a0 9 8).bind fun v4 => q_b2 (f_X5_runByDraws g v3 v4 a1) fun v6 g5 => L_X10_drawn_43 1000000000 a0 0 0 g5)) else (q_b2 (f_X10_refused g a0 1) fun v10 g9 => some (v10, g9))
set_option maxHeartbeats 4000000 in
set_option maxRecDepth 100000 in
theorem c_X10_drawn (l : Launch) (E : qV) {g : qS} {a0 : Nat} {a1 : Int32} {res : (Int32 × qS)} (hf : f_X10_drawn g a0 a1 = some res) : q_MW l yX10_drawn cX10_drawn 4 (some .int) 7 165 E [.ref (q_ad E a0), .int a1] g (some (.int res.1)) res.2 ∧ ∃ fs, g a0 = some (.inr (9, fs)) := by
  unfold f_X10_drawn at hf
  obtain ⟨u9, hu9, hf⟩ := q_ob hf
  refine ⟨q_ofW (by decide) rfl ?_, g_C_sp hu9⟩
  intro p e s m args below meth c ls C hj hl
  have hx := C.1
  have hb := C.2.1
  have C : q_C E p s m args meth c cX10_drawn RX10 4 (some .int) := C
  have hl : lv_has ls 4 [(0, .ref (q_ad E a0)), (1, .int a1)] := hl
  refine lv_aload_n hx hb dX10_drawn_0 rfl (lv_at hl 0 rfl) ?_
  refine q_cVRI C hj cw_X10_196 (As := []) (rest := []) hf (fun v9 h9 => c_X10_noCollege l E h9) rfl hl rfl rfl rfl dX10_drawn_1 ⟨Nat.zero_le _, Nat.zero_le _⟩ (fun v1 hf => ?_)
  refine q_ifeq C (tgt := 13) dX10_drawn_4 (by decide) hf (fun hf => ?_) (fun hf => ?_)
  · refine lv_iload_n hx hb dX10_drawn_13 rfl (lv_at hl 1 rfl) ?_
    refine q_cSRI C hj cw_X10_271 (As := [.int a1]) (rest := []) hf (fun v9 h9 => c_X10_isSeed l E h9) rfl hl rfl rfl rfl dX10_drawn_14 ⟨Nat.zero_le _, Nat.zero_le _⟩ (fun v2 hf => ?_)
    refine q_ifne C (tgt := 26) dX10_drawn_17 (by decide) hf (fun hf => ?_) (fun hf => ?_)
    · refine lv_aload_n hx hb dX10_drawn_26 rfl (lv_at hl 0 rfl) ?_
      refine q_getR C hj lk_X10_33 dX10_drawn_27 hf (fun v3 hf => ?_)
      refine lv_aload_n hx hb dX10_drawn_30 rfl (lv_at hl 0 rfl) ?_
      refine q_getR C hj lk_X10_65 dX10_drawn_31 hf (fun v4 hf => ?_)
      refine lv_iload_n hx hb dX10_drawn_34 rfl (lv_at hl 1 rfl) ?_
      refine q_cVWI C hj cw_X10_274 (As := [.ref (q_ad E v4), .int a1]) (rest := []) hf (fun v9 g9 h9 => c_X5_runByDraws l E h9) rfl hl rfl rfl rfl dX10_drawn_35 ⟨Nat.zero_le _, Nat.zero_le _⟩ (fun v6 g5 H locs hj hf => ?_)
      refine lv_pop hx hb dX10_drawn_38 rfl ?_
      refine lv_iconst (v := 0) hx hb dX10_drawn_39 qi_0 ?_
      refine lv_istore_n (lv' := [(2, .int 0), (0, .ref (q_ad E a0)), (1, .int a1)]) hx hb dX10_drawn_40 rfl hl (by decide) rfl (fun ls hl => ?_)
      refine lv_iconst (v := 0) hx hb dX10_drawn_41 qi_0 ?_
      refine lv_istore_n (lv' := [(3, .int 0), (2, .int 0), (0, .ref (q_ad E a0)), (1, .int a1)]) hx hb dX10_drawn_42 rfl hl (by decide) rfl (fun ls hl => ?_)
      refine w_L_X10_drawn_43 C  hj (lv_sub hl [2, 1, 0] rfl) hf
    · refine lv_aload_n hx hb dX10_drawn_20 rfl (lv_at hl 0 rfl) ?_
      refine lv_iconst (v := 2) hx hb dX10_drawn_21 qi_2 ?_
      refine q_cVWI C hj cw_X10_77 (As := [.int 2]) (rest := []) hf (fun v9 g9 h9 => c_X10_refused l E h9) rfl hl rfl rfl rfl dX10_drawn_22 ⟨Nat.zero_le _, Nat.zero_le _⟩ (fun v8 g7 H locs hj hf => ?_)
      exact q_iretW C hj dX10_drawn_25 hf
  · refine lv_aload_n hx hb dX10_drawn_7 rfl (lv_at hl 0 rfl) ?_
    refine lv_iconst (v := 1) hx hb dX10_drawn_8 qi_1 ?_
    refine q_cVWI C hj cw_X10_77 (As := [.int 1]) (rest := []) hf (fun v9 g9 h9 => c_X10_refused l E h9) rfl hl rfl rfl rfl dX10_drawn_9 ⟨Nat.zero_le _, Nat.zero_le _⟩ (fun v10 g9 H locs hj hf => ?_)
    exact q_iretW C hj dX10_drawn_12 hf
def L_X10_caught_51  : Nat → Nat → Int32 → Int32 → Int32 → Int32 → Int32 → qS → Option (Int32 × qS)
  | 0, _, _, _, _, _, _, _ => none
  | n + 1, x0, x1, x3, x4, x5, x6, g => if x3 ≤ x6 then (q_b2 (f_X10_fine g x0 x4) fun v2 g1 => some (v2, g1)) else ((g_R g x0 9 3).bind fun v3 => (g_R g x0 9 8).bind fun v4 => q_b2 (f_X5_runByDraws g v3 v4 x5) fun v6 g5 => (g_R g5 x0 9 3).bind fun v7 => (f_X5_timesCaught g5 v7 x1).bind fun v8 => L_X10_caught_51 n x0 x1 x3 (x4 + v8) v6 (x6 + 1) g5)
set_option maxHeartbeats 4000000 in
set_option maxRecDepth 100000 in
theorem w_L_X10_caught_51 {l : Launch} {E : qV} {p : Program} {e : Env} {s : State} {m : MethodId} {args : Array Value} {below : List Frame} {meth : Method} {c : Code}  {res : (Int32 × qS)} (C : q_C E p s m args meth c cX10_caught RX10 7 (some .int))  : ∀ {n : Nat} {x0 : Nat} {x1 : Int32} {x3 : Int32} {x4 : Int32} {x5 : Int32} {x6 : Int32} {g : qS} {H : Heap} {locs : List Loc} {ls : Array Slot}, q_J E s g H locs → lv_has ls 7 [(0, .ref (q_ad E x0)), (1, .int x1), (3, .int x3), (4, .int x4), (5, .int x5), (6, .int x6)] → L_X10_caught_51 n x0 x1 x3 x4 x5 x6 g = some res → W p l e (q_rm 7 165) s m args below meth c H locs 0 0 (q_ZW E below (some (.int res.1)) res.2 args s) (F0 m 51 ls []) := by
  have hx := C.1
  have hb := C.2.1
  intro n
  induction n with
  | zero =>
    intro x0 x1 x3 x4 x5 x6 g H locs ls hj hl hf
    cases hf
  | succ n ih_ =>
    intro x0 x1 x3 x4 x5 x6 g H locs ls hj hl hf
    have ih : ∀ (x0 : Nat) (x1 : Int32) (x3 : Int32) (x4 : Int32) (x5 : Int32) (x6 : Int32) (g : qS) (H : Heap) (locs : List Loc) (ls : Array Slot), q_J E s g H locs → lv_has ls 7 [(0, .ref (q_ad E x0)), (1, .int x1), (3, .int x3), (4, .int x4), (5, .int x5), (6, .int x6)] → L_X10_caught_51 n x0 x1 x3 x4 x5 x6 g = some res → W p l e (q_rm 7 165) s m args below meth c H locs 0 0 (q_ZW E below (some (.int res.1)) res.2 args s) (F0 m 51 ls []) := fun x0 x1 x3 x4 x5 x6 g H locs ls hj hl hf => ih_ hj hl hf
    unfold L_X10_caught_51 at hf
    refine lv_iload hx hb dX10_caught_51 (lv_at hl 5 rfl) ?_
    refine lv_iload_n hx hb dX10_caught_53 rfl (lv_at hl 2 rfl) ?_
    refine q_icge C (tgt := 91) dX10_caught_54 (by decide) hf (fun hf => ?_) (fun hf => ?_)
    · refine lv_aload_n hx hb dX10_caught_91 rfl (lv_at hl 0 rfl) ?_
      refine lv_iload hx hb dX10_caught_92 (lv_at hl 3 rfl) ?_
      refine q_cVWI C hj cw_X10_102 (As := [.int x4]) (rest := []) hf (fun v9 g9 h9 => c_X10_fine l E h9) rfl hl rfl rfl rfl dX10_caught_94 ⟨Nat.zero_le _, Nat.zero_le _⟩ (fun v2 g1 H locs hj hf => ?_)
      exact q_iretW C hj dX10_caught_97 hf
    · refine lv_aload_n hx hb dX10_caught_57 rfl (lv_at hl 0 rfl) ?_
      refine q_getR C hj lk_X10_33 dX10_caught_58 hf (fun v3 hf => ?_)
      refine lv_aload_n hx hb dX10_caught_61 rfl (lv_at hl 0 rfl) ?_
      refine q_getR C hj lk_X10_65 dX10_caught_62 hf (fun v4 hf => ?_)
      refine lv_iload hx hb dX10_caught_65 (lv_at hl 4 rfl) ?_
      refine q_cVWI C hj cw_X10_274 (As := [.ref (q_ad E v4), .int x5]) (rest := []) hf (fun v9 g9 h9 => c_X5_runByDraws l E h9) rfl hl rfl rfl rfl dX10_caught_67 ⟨Nat.zero_le _, Nat.zero_le _⟩ (fun v6 g5 H locs hj hf => ?_)
      refine lv_istore (lv' := [(5, .int v6), (0, .ref (q_ad E x0)), (1, .int x1), (3, .int x3), (4, .int x4), (6, .int x6)]) hx hb dX10_caught_70 hl (by decide) rfl (fun ls hl => ?_)
      refine lv_iload hx hb dX10_caught_72 (lv_at hl 4 rfl) ?_
      refine lv_aload_n hx hb dX10_caught_74 rfl (lv_at hl 1 rfl) ?_
      refine q_getR C hj lk_X10_33 dX10_caught_75 hf (fun v7 hf => ?_)
      refine lv_iload_n hx hb dX10_caught_78 rfl (lv_at hl 2 rfl) ?_
      refine q_cVRI C hj cw_X10_277 (As := [.int x1]) (rest := [.int x4]) hf (fun v9 h9 => c_X5_timesCaught l E h9) rfl hl rfl rfl rfl dX10_caught_79 ⟨Nat.zero_le _, Nat.zero_le _⟩ (fun v8 hf => ?_)
      refine lv_iadd hx hb dX10_caught_82 ?_
      refine lv_istore (lv' := [(4, .int (x4 + v8)), (5, .int v6), (0, .ref (q_ad E x0)), (1, .int x1), (3, .int x3), (6, .int x6)]) hx hb dX10_caught_83 hl (by decide) rfl (fun ls hl => ?_)
      refine lv_iinc (v := x6 + 1) (lv' := [(6, .int (x6 + 1)), (4, .int (x4 + v8)), (5, .int v6), (0, .ref (q_ad E x0)), (1, .int x1), (3, .int x3)]) hx hb dX10_caught_85 hl (k := 5) rfl (by rw [qi_1]) (by decide) rfl (fun ls hl => ?_)
      refine lv_goto (tgt := 51) hx hb dX10_caught_88 (by decide) ?_
      exact ih _ _ _ _ _ _ _ _ _ ls hj (lv_sub hl [3, 4, 5, 1, 2, 0] rfl) hf
def f_X10_caught (g : qS) (a0 : Nat) (a1 : Int32) (a2 : Int32) (a3 : Int32) : Option (Int32 × qS) := (g_C g a0 9).bind fun _ => (g_R g a0 9 8).bind fun v1 => (f_X3_has g v1 5 a1).bind fun v2 => if v2 = 0 then (q_b2 (f_X10_refused g a0 1) fun v11 g10 => some (v11, g10)) else ((f_X10_isSeed g a2).bind fun v3 => if v3 = 0 then (q_b2 (f_X10_refused g a0 2) fun v5 g4 => some (v5, g4)) else (if a3 < 1 then (q_b2 (f_X10_refused g a0 2) fun v7 g6 => some (v7, g6)) else (if a3 ≤ 50 then (L_X10_caught_51 1000000000 a0 a1 a3 0 a2 0 g) else (q_b2 (f_X10_refused g a0 2) fun v9 g8 => some (v9, g8)))))
set_option maxHeartbeats 4000000 in
set_option maxRecDepth 100000 in
theorem c_X10_caught (l : Launch) (E : qV) {g : qS} {a0 : Nat} {a1 : Int32} {a2 : Int32} {a3 : Int32} {res : (Int32 × qS)} (hf : f_X10_caught g a0 a1 a2 a3 = some res) : q_MW l yX10_caught cX10_caught 7 (some .int) 7 165 E [.ref (q_ad E a0), .int a1, .int a2, .int a3] g (some (.int res.1)) res.2 ∧ ∃ fs, g a0 = some (.inr (9, fs)) := by
  unfold f_X10_caught at hf
  obtain ⟨u9, hu9, hf⟩ := q_ob hf
  refine ⟨q_ofW (by decide) rfl ?_, g_C_sp hu9⟩
  intro p e s m args below meth c ls C hj hl
  have hx := C.1
  have hb := C.2.1
  have C : q_C E p s m args meth c cX10_caught RX10 7 (some .int) := C
  have hl : lv_has ls 7 [(0, .ref (q_ad E a0)), (1, .int a1), (2, .int a2), (3, .int a3)] := hl
  refine lv_aload_n hx hb dX10_caught_0 rfl (lv_at hl 0 rfl) ?_
  refine q_getR C hj lk_X10_65 dX10_caught_1 hf (fun v1 hf => ?_)
  refine lv_iconst (v := 5) hx hb dX10_caught_4 qi_5 ?_
  refine lv_iload_n hx hb dX10_caught_5 rfl (lv_at hl 1 rfl) ?_
  refine q_cVRI C hj cw_X10_111 (As := [.int 5, .int a1]) (rest := []) hf (fun v9 h9 => c_X3_has l E h9) rfl hl rfl rfl rfl dX10_caught_6 ⟨Nat.zero_le _, Nat.zero_le _⟩ (fun v2 hf => ?_)
  refine q_ifne C (tgt := 18) dX10_caught_9 (by decide) hf (fun hf => ?_) (fun hf => ?_)
  · refine lv_iload_n hx hb dX10_caught_18 rfl (lv_at hl 2 rfl) ?_
    refine q_cSRI C hj cw_X10_271 (As := [.int a2]) (rest := []) hf (fun v9 h9 => c_X10_isSeed l E h9) rfl hl rfl rfl rfl dX10_caught_19 ⟨Nat.zero_le _, Nat.zero_le _⟩ (fun v3 hf => ?_)
    refine q_ifeq C (tgt := 36) dX10_caught_22 (by decide) hf (fun hf => ?_) (fun hf => ?_)
    · refine lv_aload_n hx hb dX10_caught_36 rfl (lv_at hl 0 rfl) ?_
      refine lv_iconst (v := 2) hx hb dX10_caught_37 qi_2 ?_
      refine q_cVWI C hj cw_X10_77 (As := [.int 2]) (rest := []) hf (fun v9 g9 h9 => c_X10_refused l E h9) rfl hl rfl rfl rfl dX10_caught_38 ⟨Nat.zero_le _, Nat.zero_le _⟩ (fun v5 g4 H locs hj hf => ?_)
      exact q_iretW C hj dX10_caught_41 hf
    · refine lv_iload_n hx hb dX10_caught_25 rfl (lv_at hl 3 rfl) ?_
      refine lv_iconst (v := 1) hx hb dX10_caught_26 qi_1 ?_
      refine q_iclt C (tgt := 36) dX10_caught_27 (by decide) hf (fun hf => ?_) (fun hf => ?_)
      · refine lv_aload_n hx hb dX10_caught_36 rfl (lv_at hl 0 rfl) ?_
        refine lv_iconst (v := 2) hx hb dX10_caught_37 qi_2 ?_
        refine q_cVWI C hj cw_X10_77 (As := [.int 2]) (rest := []) hf (fun v9 g9 h9 => c_X10_refused l E h9) rfl hl rfl rfl rfl dX10_caught_38 ⟨Nat.zero_le _, Nat.zero_le _⟩ (fun v7 g6 H locs hj hf => ?_)
        exact q_iretW C hj dX10_caught_41 hf
      · refine lv_iload_n hx hb dX10_caught_30 rfl (lv_at hl 3 rfl) ?_
        refine lv_bipush (v := 50) hx hb dX10_caught_31 (by decide) ?_
        refine q_icle C (tgt := 42) dX10_caught_33 (by decide) hf (fun hf => ?_) (fun hf => ?_)
        · refine lv_iconst (v := 0) hx hb dX10_caught_42 qi_0 ?_
          refine lv_istore (lv' := [(4, .int 0), (0, .ref (q_ad E a0)), (1, .int a1), (2, .int a2), (3, .int a3)]) hx hb dX10_caught_43 hl (by decide) rfl (fun ls hl => ?_)
          refine lv_iload_n hx hb dX10_caught_45 rfl (lv_at hl 3 rfl) ?_
          refine lv_istore (lv' := [(5, .int a2), (4, .int 0), (0, .ref (q_ad E a0)), (1, .int a1), (2, .int a2), (3, .int a3)]) hx hb dX10_caught_46 hl (by decide) rfl (fun ls hl => ?_)
          refine lv_iconst (v := 0) hx hb dX10_caught_48 qi_0 ?_
          refine lv_istore (lv' := [(6, .int 0), (5, .int a2), (4, .int 0), (0, .ref (q_ad E a0)), (1, .int a1), (2, .int a2), (3, .int a3)]) hx hb dX10_caught_49 hl (by decide) rfl (fun ls hl => ?_)
          refine w_L_X10_caught_51 C  hj (lv_sub hl [3, 4, 6, 2, 1, 0] rfl) hf
        · refine lv_aload_n hx hb dX10_caught_36 rfl (lv_at hl 0 rfl) ?_
          refine lv_iconst (v := 2) hx hb dX10_caught_37 qi_2 ?_
          refine q_cVWI C hj cw_X10_77 (As := [.int 2]) (rest := []) hf (fun v9 g9 h9 => c_X10_refused l E h9) rfl hl rfl rfl rfl dX10_caught_38 ⟨Nat.zero_le _, Nat.zero_le _⟩ (fun v9 g8 H locs hj hf => ?_)
          exact q_iretW C hj dX10_caught_41 hf
  · refine lv_aload_n hx hb dX10_caught_12 rfl (lv_at hl 0 rfl) ?_
    refine lv_iconst (v := 1) hx hb dX10_caught_13 qi_1 ?_
    refine q_cVWI C hj cw_X10_77 (As := [.int 1]) (rest := []) hf (fun v9 g9 h9 => c_X10_refused l E h9) rfl hl rfl rfl rfl dX10_caught_14 ⟨Nat.zero_le _, Nat.zero_le _⟩ (fun v11 g10 H locs hj hf => ?_)
    exact q_iretW C hj dX10_caught_17 hf
def f_X10_give (g : qS) (a0 : Nat) (a1 : Int32) (a2 : Int32) (a3 : Int32) : Option (Int32 × qS) := (g_C g a0 9).bind fun _ => (f_X10_isGift g a0 a1 a2 a3).bind fun v1 => if v1 = 0 then (q_b2 (f_X10_refused g a0 1) fun v18 g17 => some (v18, g17)) else ((g_R g a0 9 1).bind fun v2 => (g_R g a0 9 8).bind fun v3 => (g_R g a0 9 1).bind fun v4 => (f_X7_today g v4).bind fun v5 => (f_X7_outcome g v2 v3 v5 a1 a2 a3).bind fun v6 => if v6 ≤ 1 then ((g_R g a0 9 2).bind fun v7 => (g_R g a0 9 1).bind fun v8 => (f_X4_keep g v7 v8).bind fun g9 => (g_R g9 a0 9 1).bind fun v10 => (g_R g9 a0 9 8).bind fun v11 => (f_X7_settle g9 v10 v11 a1 a2 a3 v6).bind fun g12 => q_b2 (f_X10_fine g12 a0 v6) fun v14 g13 => some (v14, g13)) else (q_b2 (f_X10_refused g a0 5) fun v16 g15 => some (v16, g15)))
set_option maxHeartbeats 4000000 in
set_option maxRecDepth 100000 in
theorem c_X10_give (l : Launch) (E : qV) {g : qS} {a0 : Nat} {a1 : Int32} {a2 : Int32} {a3 : Int32} {res : (Int32 × qS)} (hf : f_X10_give g a0 a1 a2 a3 = some res) : q_MW l yX10_give cX10_give 5 (some .int) 5 118 E [.ref (q_ad E a0), .int a1, .int a2, .int a3] g (some (.int res.1)) res.2 ∧ ∃ fs, g a0 = some (.inr (9, fs)) := by
  unfold f_X10_give at hf
  obtain ⟨u9, hu9, hf⟩ := q_ob hf
  refine ⟨q_ofW (by decide) rfl ?_, g_C_sp hu9⟩
  intro p e s m args below meth c ls C hj hl
  have hx := C.1
  have hb := C.2.1
  have C : q_C E p s m args meth c cX10_give RX10 5 (some .int) := C
  have hl : lv_has ls 5 [(0, .ref (q_ad E a0)), (1, .int a1), (2, .int a2), (3, .int a3)] := hl
  refine lv_aload_n hx hb dX10_give_0 rfl (lv_at hl 0 rfl) ?_
  refine lv_iload_n hx hb dX10_give_1 rfl (lv_at hl 1 rfl) ?_
  refine lv_iload_n hx hb dX10_give_2 rfl (lv_at hl 2 rfl) ?_
  refine lv_iload_n hx hb dX10_give_3 rfl (lv_at hl 3 rfl) ?_
  refine q_cVRI C hj cw_X10_157 (As := [.int a1, .int a2, .int a3]) (rest := []) hf (fun v9 h9 => c_X10_isGift l E h9) rfl hl rfl rfl rfl dX10_give_4 ⟨Nat.zero_le _, Nat.zero_le _⟩ (fun v1 hf => ?_)
  refine q_ifne C (tgt := 16) dX10_give_7 (by decide) hf (fun hf => ?_) (fun hf => ?_)
  · refine lv_aload_n hx hb dX10_give_16 rfl (lv_at hl 0 rfl) ?_
    refine q_getR C hj lk_X10_19 dX10_give_17 hf (fun v2 hf => ?_)
    refine lv_aload_n hx hb dX10_give_20 rfl (lv_at hl 0 rfl) ?_
    refine q_getR C hj lk_X10_65 dX10_give_21 hf (fun v3 hf => ?_)
    refine lv_aload_n hx hb dX10_give_24 rfl (lv_at hl 0 rfl) ?_
    refine q_getR C hj lk_X10_19 dX10_give_25 hf (fun v4 hf => ?_)
    refine q_cVRI C hj cw_X10_168 (As := []) (rest := [.ref (q_ad E v3), .ref (q_ad E v2)]) hf (fun v9 h9 => c_X7_today l E h9) rfl hl rfl rfl rfl dX10_give_28 ⟨Nat.zero_le _, Nat.zero_le _⟩ (fun v5 hf => ?_)
    refine lv_iload_n hx hb dX10_give_31 rfl (lv_at hl 1 rfl) ?_
    refine lv_iload_n hx hb dX10_give_32 rfl (lv_at hl 2 rfl) ?_
    refine lv_iload_n hx hb dX10_give_33 rfl (lv_at hl 3 rfl) ?_
    refine q_cVRI C hj cw_X10_171 (As := [.ref (q_ad E v3), .int v5, .int a1, .int a2, .int a3]) (rest := []) hf (fun v9 h9 => c_X7_outcome l E h9) rfl hl rfl rfl rfl dX10_give_34 ⟨Nat.zero_le _, Nat.zero_le _⟩ (fun v6 hf => ?_)
    refine lv_istore (lv' := [(4, .int v6), (0, .ref (q_ad E a0)), (1, .int a1), (2, .int a2), (3, .int a3)]) hx hb dX10_give_37 hl (by decide) rfl (fun ls hl => ?_)
    refine lv_iload hx hb dX10_give_39 (lv_at hl 0 rfl) ?_
    refine lv_iconst (v := 1) hx hb dX10_give_41 qi_1 ?_
    refine q_icle C (tgt := 51) dX10_give_42 (by decide) hf (fun hf => ?_) (fun hf => ?_)
    · refine lv_aload_n hx hb dX10_give_51 rfl (lv_at hl 1 rfl) ?_
      refine q_getR C hj lk_X10_26 dX10_give_52 hf (fun v7 hf => ?_)
      refine lv_aload_n hx hb dX10_give_55 rfl (lv_at hl 1 rfl) ?_
      refine q_getR C hj lk_X10_19 dX10_give_56 hf (fun v8 hf => ?_)
      refine q_cVWV C hj cw_X10_278 (As := [.ref (q_ad E v8)]) (rest := []) hf (fun g9 h9 => c_X4_keep l E h9) rfl hl rfl rfl rfl dX10_give_59 ⟨Nat.zero_le _, Nat.zero_le _⟩ (fun g9 H locs hj hf => ?_)
      refine lv_aload_n hx hb dX10_give_62 rfl (lv_at hl 1 rfl) ?_
      refine q_getR C hj lk_X10_19 dX10_give_63 hf (fun v10 hf => ?_)
      refine lv_aload_n hx hb dX10_give_66 rfl (lv_at hl 1 rfl) ?_
      refine q_getR C hj lk_X10_65 dX10_give_67 hf (fun v11 hf => ?_)
      refine lv_iload_n hx hb dX10_give_70 rfl (lv_at hl 2 rfl) ?_
      refine lv_iload_n hx hb dX10_give_71 rfl (lv_at hl 3 rfl) ?_
      refine lv_iload_n hx hb dX10_give_72 rfl (lv_at hl 4 rfl) ?_
      refine lv_iload hx hb dX10_give_73 (lv_at hl 0 rfl) ?_
      refine q_cVWV C hj cw_X10_282 (As := [.ref (q_ad E v11), .int a1, .int a2, .int a3, .int v6]) (rest := []) hf (fun g9 h9 => c_X7_settle l E h9) rfl hl rfl rfl rfl dX10_give_75 ⟨Nat.zero_le _, Nat.zero_le _⟩ (fun g12 H locs hj hf => ?_)
      refine lv_aload_n hx hb dX10_give_78 rfl (lv_at hl 1 rfl) ?_
      refine lv_iload hx hb dX10_give_79 (lv_at hl 0 rfl) ?_
      refine q_cVWI C hj cw_X10_102 (As := [.int v6]) (rest := []) hf (fun v9 g9 h9 => c_X10_fine l E h9) rfl hl rfl rfl rfl dX10_give_81 ⟨Nat.zero_le _, Nat.zero_le _⟩ (fun v14 g13 H locs hj hf => ?_)
      exact q_iretW C hj dX10_give_84 hf
    · refine lv_aload_n hx hb dX10_give_45 rfl (lv_at hl 1 rfl) ?_
      refine lv_iconst (v := 5) hx hb dX10_give_46 qi_5 ?_
      refine q_cVWI C hj cw_X10_77 (As := [.int 5]) (rest := []) hf (fun v9 g9 h9 => c_X10_refused l E h9) rfl hl rfl rfl rfl dX10_give_47 ⟨Nat.zero_le _, Nat.zero_le _⟩ (fun v16 g15 H locs hj hf => ?_)
      exact q_iretW C hj dX10_give_50 hf
  · refine lv_aload_n hx hb dX10_give_10 rfl (lv_at hl 0 rfl) ?_
    refine lv_iconst (v := 1) hx hb dX10_give_11 qi_1 ?_
    refine q_cVWI C hj cw_X10_77 (As := [.int 1]) (rest := []) hf (fun v9 g9 h9 => c_X10_refused l E h9) rfl hl rfl rfl rfl dX10_give_12 ⟨Nat.zero_le _, Nat.zero_le _⟩ (fun v18 g17 H locs hj hf => ?_)
    exact q_iretW C hj dX10_give_15 hf
def f_X10_day (g : qS) (a0 : Nat) : Option (Int32 × qS) := (g_C g a0 9).bind fun _ => (f_X10_noCollege g a0).bind fun v1 => if v1 = 0 then ((g_R g a0 9 2).bind fun v2 => (g_R g a0 9 1).bind fun v3 => (f_X4_keep g v2 v3).bind fun g4 => (g_R g4 a0 9 1).bind fun v5 => (g_R g4 a0 9 8).bind fun v6 => (f_X3_count g4 v6 0).bind fun v7 => (f_X7_goOn g4 v5 v7).bind fun g8 => (g_R g8 a0 9 1).bind fun v9 => (f_X7_today g8 v9).bind fun v10 => q_b2 (f_X10_fine g8 a0 v10) fun v12 g11 => some (v12, g11)) else (q_b2 (f_X10_refused g a0 1) fun v14 g13 => some (v14, g13))
set_option maxHeartbeats 4000000 in
set_option maxRecDepth 100000 in
theorem c_X10_day (l : Launch) (E : qV) {g : qS} {a0 : Nat} {res : (Int32 × qS)} (hf : f_X10_day g a0 = some res) : q_MW l yX10_day cX10_day 1 (some .int) 4 91 E [.ref (q_ad E a0)] g (some (.int res.1)) res.2 ∧ ∃ fs, g a0 = some (.inr (9, fs)) := by
  unfold f_X10_day at hf
  obtain ⟨u9, hu9, hf⟩ := q_ob hf
  refine ⟨q_ofW (by decide) rfl ?_, g_C_sp hu9⟩
  intro p e s m args below meth c ls C hj hl
  have hx := C.1
  have hb := C.2.1
  have C : q_C E p s m args meth c cX10_day RX10 1 (some .int) := C
  have hl : lv_has ls 1 [(0, .ref (q_ad E a0))] := hl
  refine lv_aload_n hx hb dX10_day_0 rfl (lv_at hl 0 rfl) ?_
  refine q_cVRI C hj cw_X10_196 (As := []) (rest := []) hf (fun v9 h9 => c_X10_noCollege l E h9) rfl hl rfl rfl rfl dX10_day_1 ⟨Nat.zero_le _, Nat.zero_le _⟩ (fun v1 hf => ?_)
  refine q_ifeq C (tgt := 13) dX10_day_4 (by decide) hf (fun hf => ?_) (fun hf => ?_)
  · refine lv_aload_n hx hb dX10_day_13 rfl (lv_at hl 0 rfl) ?_
    refine q_getR C hj lk_X10_26 dX10_day_14 hf (fun v2 hf => ?_)
    refine lv_aload_n hx hb dX10_day_17 rfl (lv_at hl 0 rfl) ?_
    refine q_getR C hj lk_X10_19 dX10_day_18 hf (fun v3 hf => ?_)
    refine q_cVWV C hj cw_X10_278 (As := [.ref (q_ad E v3)]) (rest := []) hf (fun g9 h9 => c_X4_keep l E h9) rfl hl rfl rfl rfl dX10_day_21 ⟨Nat.zero_le _, Nat.zero_le _⟩ (fun g4 H locs hj hf => ?_)
    refine lv_aload_n hx hb dX10_day_24 rfl (lv_at hl 0 rfl) ?_
    refine q_getR C hj lk_X10_19 dX10_day_25 hf (fun v5 hf => ?_)
    refine lv_aload_n hx hb dX10_day_28 rfl (lv_at hl 0 rfl) ?_
    refine q_getR C hj lk_X10_65 dX10_day_29 hf (fun v6 hf => ?_)
    refine lv_iconst (v := 0) hx hb dX10_day_32 qi_0 ?_
    refine q_cVRI C hj cw_X10_99 (As := [.int 0]) (rest := [.ref (q_ad E v5)]) hf (fun v9 h9 => c_X3_count l E h9) rfl hl rfl rfl rfl dX10_day_33 ⟨Nat.zero_le _, Nat.zero_le _⟩ (fun v7 hf => ?_)
    refine q_cVWV C hj cw_X10_286 (As := [.int v7]) (rest := []) hf (fun g9 h9 => c_X7_goOn l E h9) rfl hl rfl rfl rfl dX10_day_36 ⟨Nat.zero_le _, Nat.zero_le _⟩ (fun g8 H locs hj hf => ?_)
    refine lv_aload_n hx hb dX10_day_39 rfl (lv_at hl 0 rfl) ?_
    refine lv_aload_n hx hb dX10_day_40 rfl (lv_at hl 0 rfl) ?_
    refine q_getR C hj lk_X10_19 dX10_day_41 hf (fun v9 hf => ?_)
    refine q_cVRI C hj cw_X10_168 (As := []) (rest := [.ref (q_ad E a0)]) hf (fun v9 h9 => c_X7_today l E h9) rfl hl rfl rfl rfl dX10_day_44 ⟨Nat.zero_le _, Nat.zero_le _⟩ (fun v10 hf => ?_)
    refine q_cVWI C hj cw_X10_102 (As := [.int v10]) (rest := []) hf (fun v9 g9 h9 => c_X10_fine l E h9) rfl hl rfl rfl rfl dX10_day_47 ⟨Nat.zero_le _, Nat.zero_le _⟩ (fun v12 g11 H locs hj hf => ?_)
    exact q_iretW C hj dX10_day_50 hf
  · refine lv_aload_n hx hb dX10_day_7 rfl (lv_at hl 0 rfl) ?_
    refine lv_iconst (v := 1) hx hb dX10_day_8 qi_1 ?_
    refine q_cVWI C hj cw_X10_77 (As := [.int 1]) (rest := []) hf (fun v9 g9 h9 => c_X10_refused l E h9) rfl hl rfl rfl rfl dX10_day_9 ⟨Nat.zero_le _, Nat.zero_le _⟩ (fun v14 g13 H locs hj hf => ?_)
    exact q_iretW C hj dX10_day_12 hf
def f_X10_no (g : qS) (a0 : Nat) (a1 : Int32) : Option (Int32 × qS) := (g_C g a0 9).bind fun _ => (p_I g a0 9 7 a1).bind fun g1 => some (0, g1)
set_option maxHeartbeats 4000000 in
set_option maxRecDepth 100000 in
theorem c_X10_no (l : Launch) (E : qV) {g : qS} {a0 : Nat} {a1 : Int32} {res : (Int32 × qS)} (hf : f_X10_no g a0 a1 = some res) : q_MW l yX10_no cX10_no 2 (some .boolean) 0 0 E [.ref (q_ad E a0), .int a1] g (some (.int res.1)) res.2 ∧ ∃ fs, g a0 = some (.inr (9, fs)) := by
  unfold f_X10_no at hf
  obtain ⟨u9, hu9, hf⟩ := q_ob hf
  refine ⟨q_ofW (by decide) rfl ?_, g_C_sp hu9⟩
  intro p e s m args below meth c ls C hj hl
  have hx := C.1
  have hb := C.2.1
  have C : q_C E p s m args meth c cX10_no RX10 2 (some .boolean) := C
  have hl : lv_has ls 2 [(0, .ref (q_ad E a0)), (1, .int a1)] := hl
  refine lv_aload_n hx hb dX10_no_0 rfl (lv_at hl 0 rfl) ?_
  refine lv_iload_n hx hb dX10_no_1 rfl (lv_at hl 1 rfl) ?_
  refine q_putI C hj fp_X10_58 dX10_no_2 hf (fun g1 H locs hj hf => ?_)
  refine lv_iconst (v := 0) hx hb dX10_no_5 qi_0 ?_
  exact q_z0retW C hj dX10_no_6 hf
def f_X10_yes (g : qS) (a0 : Nat) : Option (Int32 × qS) := (g_C g a0 9).bind fun _ => (p_I g a0 9 7 0).bind fun g1 => some (1, g1)
set_option maxHeartbeats 4000000 in
set_option maxRecDepth 100000 in
theorem c_X10_yes (l : Launch) (E : qV) {g : qS} {a0 : Nat} {res : (Int32 × qS)} (hf : f_X10_yes g a0 = some res) : q_MW l yX10_yes cX10_yes 1 (some .boolean) 0 0 E [.ref (q_ad E a0)] g (some (.int res.1)) res.2 ∧ ∃ fs, g a0 = some (.inr (9, fs)) := by
  unfold f_X10_yes at hf
  obtain ⟨u9, hu9, hf⟩ := q_ob hf
  refine ⟨q_ofW (by decide) rfl ?_, g_C_sp hu9⟩
  intro p e s m args below meth c ls C hj hl
  have hx := C.1
  have hb := C.2.1
  have C : q_C E p s m args meth c cX10_yes RX10 1 (some .boolean) := C
  have hl : lv_has ls 1 [(0, .ref (q_ad E a0))] := hl
  refine lv_aload_n hx hb dX10_yes_0 rfl (lv_at hl 0 rfl) ?_
  refine lv_iconst (v := 0) hx hb dX10_yes_1 qi_0 ?_
  refine q_putI C hj fp_X10_58 dX10_yes_2 hf (fun g1 H locs hj hf => ?_)
  refine lv_iconst (v := 1) hx hb dX10_yes_5 qi_1 ?_
  exact q_z1retW C hj dX10_yes_6 hf
def f_X10_sew (g : qS) (a0 : Nat) (a1 : Int32) : Option (Int32 × qS) := (g_C g a0 9).bind fun _ => (g_R g a0 9 8).bind fun v1 => (f_X3_has g v1 3 a1).bind fun v2 => if v2 = 0 then (q_b2 (f_X10_no g a0 1) fun v16 g15 => q_zr v16 (v16, g15)) else ((g_R g a0 9 1).bind fun v3 => (g_R g a0 9 8).bind fun v4 => (f_X7_roomOf g v3 v4 a1).bind fun v5 => if 0 < v5 then ((g_R g a0 9 2).bind fun v6 => (g_R g a0 9 1).bind fun v7 => (f_X4_keep g v6 v7).bind fun g8 => (g_R g8 a0 9 1).bind fun v9 => (f_X7_sewUp g8 v9 a1).bind fun g10 => q_b2 (f_X10_yes g10 a0) fun v12 g11 => q_zr v12 (v12, g11)) else (q_b2 (f_X10_no g a0 5) fun v14 g13 => q_zr v14 (v14, g13)))
set_option maxHeartbeats 4000000 in
set_option maxRecDepth 100000 in
theorem c_X10_sew (l : Launch) (E : qV) {g : qS} {a0 : Nat} {a1 : Int32} {res : (Int32 × qS)} (hf : f_X10_sew g a0 a1 = some res) : q_MW l yX10_sew cX10_sew 2 (some .boolean) 4 91 E [.ref (q_ad E a0), .int a1] g (some (.int res.1)) res.2 ∧ ∃ fs, g a0 = some (.inr (9, fs)) := by
  unfold f_X10_sew at hf
  obtain ⟨u9, hu9, hf⟩ := q_ob hf
  refine ⟨q_ofW (by decide) rfl ?_, g_C_sp hu9⟩
  intro p e s m args below meth c ls C hj hl
  have hx := C.1
  have hb := C.2.1
  have C : q_C E p s m args meth c cX10_sew RX10 2 (some .boolean) := C
  have hl : lv_has ls 2 [(0, .ref (q_ad E a0)), (1, .int a1)] := hl
  refine lv_aload_n hx hb dX10_sew_0 rfl (lv_at hl 0 rfl) ?_
  refine q_getR C hj lk_X10_65 dX10_sew_1 hf (fun v1 hf => ?_)
  refine lv_iconst (v := 3) hx hb dX10_sew_4 qi_3 ?_
  refine lv_iload_n hx hb dX10_sew_5 rfl (lv_at hl 1 rfl) ?_
  refine q_cVRI C hj cw_X10_111 (As := [.int 3, .int a1]) (rest := []) hf (fun v9 h9 => c_X3_has l E h9) rfl hl rfl rfl rfl dX10_sew_6 ⟨Nat.zero_le _, Nat.zero_le _⟩ (fun v2 hf => ?_)
  refine q_ifne C (tgt := 18) dX10_sew_9 (by decide) hf (fun hf => ?_) (fun hf => ?_)
  · refine lv_aload_n hx hb dX10_sew_18 rfl (lv_at hl 0 rfl) ?_
    refine q_getR C hj lk_X10_19 dX10_sew_19 hf (fun v3 hf => ?_)
    refine lv_aload_n hx hb dX10_sew_22 rfl (lv_at hl 0 rfl) ?_
    refine q_getR C hj lk_X10_65 dX10_sew_23 hf (fun v4 hf => ?_)
    refine lv_iload_n hx hb dX10_sew_26 rfl (lv_at hl 1 rfl) ?_
    refine q_cVRI C hj cw_X10_131 (As := [.ref (q_ad E v4), .int a1]) (rest := []) hf (fun v9 h9 => c_X7_roomOf l E h9) rfl hl rfl rfl rfl dX10_sew_27 ⟨Nat.zero_le _, Nat.zero_le _⟩ (fun v5 hf => ?_)
    refine q_ifgt C (tgt := 39) dX10_sew_30 (by decide) hf (fun hf => ?_) (fun hf => ?_)
    · refine lv_aload_n hx hb dX10_sew_39 rfl (lv_at hl 0 rfl) ?_
      refine q_getR C hj lk_X10_26 dX10_sew_40 hf (fun v6 hf => ?_)
      refine lv_aload_n hx hb dX10_sew_43 rfl (lv_at hl 0 rfl) ?_
      refine q_getR C hj lk_X10_19 dX10_sew_44 hf (fun v7 hf => ?_)
      refine q_cVWV C hj cw_X10_278 (As := [.ref (q_ad E v7)]) (rest := []) hf (fun g9 h9 => c_X4_keep l E h9) rfl hl rfl rfl rfl dX10_sew_47 ⟨Nat.zero_le _, Nat.zero_le _⟩ (fun g8 H locs hj hf => ?_)
      refine lv_aload_n hx hb dX10_sew_50 rfl (lv_at hl 0 rfl) ?_
      refine q_getR C hj lk_X10_19 dX10_sew_51 hf (fun v9 hf => ?_)
      refine lv_iload_n hx hb dX10_sew_54 rfl (lv_at hl 1 rfl) ?_
      refine q_cVWV C hj cw_X10_292 (As := [.int a1]) (rest := []) hf (fun g9 h9 => c_X7_sewUp l E h9) rfl hl rfl rfl rfl dX10_sew_55 ⟨Nat.zero_le _, Nat.zero_le _⟩ (fun g10 H locs hj hf => ?_)
      refine lv_aload_n hx hb dX10_sew_58 rfl (lv_at hl 0 rfl) ?_
      refine q_cVWI C hj cw_X10_295 (As := []) (rest := []) hf (fun v9 g9 h9 => c_X10_yes l E h9) rfl hl rfl rfl rfl dX10_sew_59 ⟨Nat.zero_le _, Nat.zero_le _⟩ (fun v12 g11 H locs hj hf => ?_)
      exact q_zretW C hj dX10_sew_62 hf
    · refine lv_aload_n hx hb dX10_sew_33 rfl (lv_at hl 0 rfl) ?_
      refine lv_iconst (v := 5) hx hb dX10_sew_34 qi_5 ?_
      refine q_cVWI C hj cw_X10_289 (As := [.int 5]) (rest := []) hf (fun v9 g9 h9 => c_X10_no l E h9) rfl hl rfl rfl rfl dX10_sew_35 ⟨Nat.zero_le _, Nat.zero_le _⟩ (fun v14 g13 H locs hj hf => ?_)
      exact q_zretW C hj dX10_sew_38 hf
  · refine lv_aload_n hx hb dX10_sew_12 rfl (lv_at hl 0 rfl) ?_
    refine lv_iconst (v := 1) hx hb dX10_sew_13 qi_1 ?_
    refine q_cVWI C hj cw_X10_289 (As := [.int 1]) (rest := []) hf (fun v9 g9 h9 => c_X10_no l E h9) rfl hl rfl rfl rfl dX10_sew_14 ⟨Nat.zero_le _, Nat.zero_le _⟩ (fun v16 g15 H locs hj hf => ?_)
    exact q_zretW C hj dX10_sew_17 hf
def f_X10_undo (g : qS) (a0 : Nat) : Option (Int32 × qS) := (g_C g a0 9).bind fun _ => (g_R g a0 9 2).bind fun v1 => (g_R g a0 9 1).bind fun v2 => q_b2 (f_X4_takeBack g v1 v2) fun v4 g3 => if v4 = 0 then (q_b2 (f_X10_no g3 a0 6) fun v6 g5 => q_zr v6 (v6, g5)) else (q_b2 (f_X10_yes g3 a0) fun v8 g7 => q_zr v8 (v8, g7))
set_option maxHeartbeats 4000000 in
set_option maxRecDepth 100000 in
theorem c_X10_undo (l : Launch) (E : qV) {g : qS} {a0 : Nat} {res : (Int32 × qS)} (hf : f_X10_undo g a0 = some res) : q_MW l yX10_undo cX10_undo 1 (some .boolean) 4 91 E [.ref (q_ad E a0)] g (some (.int res.1)) res.2 ∧ ∃ fs, g a0 = some (.inr (9, fs)) := by
  unfold f_X10_undo at hf
  obtain ⟨u9, hu9, hf⟩ := q_ob hf
  refine ⟨q_ofW (by decide) rfl ?_, g_C_sp hu9⟩
  intro p e s m args below meth c ls C hj hl
  have hx := C.1
  have hb := C.2.1
  have C : q_C E p s m args meth c cX10_undo RX10 1 (some .boolean) := C
  have hl : lv_has ls 1 [(0, .ref (q_ad E a0))] := hl
  refine lv_aload_n hx hb dX10_undo_0 rfl (lv_at hl 0 rfl) ?_
  refine q_getR C hj lk_X10_26 dX10_undo_1 hf (fun v1 hf => ?_)
  refine lv_aload_n hx hb dX10_undo_4 rfl (lv_at hl 0 rfl) ?_
  refine q_getR C hj lk_X10_19 dX10_undo_5 hf (fun v2 hf => ?_)
  refine q_cVWI C hj cw_X10_298 (As := [.ref (q_ad E v2)]) (rest := []) hf (fun v9 g9 h9 => c_X4_takeBack l E h9) rfl hl rfl rfl rfl dX10_undo_8 ⟨Nat.zero_le _, Nat.zero_le _⟩ (fun v4 g3 H locs hj hf => ?_)
  refine q_ifeq C (tgt := 21) dX10_undo_11 (by decide) hf (fun hf => ?_) (fun hf => ?_)
  · refine lv_aload_n hx hb dX10_undo_21 rfl (lv_at hl 0 rfl) ?_
    refine lv_bipush (v := 6) hx hb dX10_undo_22 (by decide) ?_
    refine q_cVWI C hj cw_X10_289 (As := [.int 6]) (rest := []) hf (fun v9 g9 h9 => c_X10_no l E h9) rfl hl rfl rfl rfl dX10_undo_24 ⟨Nat.zero_le _, Nat.zero_le _⟩ (fun v6 g5 H locs hj hf => ?_)
    exact q_zretW C hj dX10_undo_27 hf
  · refine lv_aload_n hx hb dX10_undo_14 rfl (lv_at hl 0 rfl) ?_
    refine q_cVWI C hj cw_X10_295 (As := []) (rest := []) hf (fun v9 g9 h9 => c_X10_yes l E h9) rfl hl rfl rfl rfl dX10_undo_15 ⟨Nat.zero_le _, Nat.zero_le _⟩ (fun v8 g7 H locs hj hf => ?_)
    refine lv_goto (tgt := 27) hx hb dX10_undo_18 (by decide) ?_
    exact q_zretW C hj dX10_undo_27 hf
def f_X10_mark (g : qS) (a0 : Nat) : Option (Int32 × qS) := (g_C g a0 9).bind fun _ => (f_X10_noCollege g a0).bind fun v1 => if v1 = 0 then ((g_R g a0 9 2).bind fun v2 => (g_R g a0 9 1).bind fun v3 => q_b2 (f_X4_setMark g v2 v3) fun v5 g4 => if 0 ≤ v5 then (q_b2 (f_X10_fine g4 a0 v5) fun v7 g6 => some (v7, g6)) else (q_b2 (f_X10_refused g4 a0 3) fun v9 g8 => some (v9, g8))) else (q_b2 (f_X10_refused g a0 1) fun v11 g10 => some (v11, g10))
set_option maxHeartbeats 4000000 in
set_option maxRecDepth 100000 in
theorem c_X10_mark (l : Launch) (E : qV) {g : qS} {a0 : Nat} {res : (Int32 × qS)} (hf : f_X10_mark g a0 = some res) : q_MW l yX10_mark cX10_mark 2 (some .int) 4 91 E [.ref (q_ad E a0)] g (some (.int res.1)) res.2 ∧ ∃ fs, g a0 = some (.inr (9, fs)) := by
  unfold f_X10_mark at hf
  obtain ⟨u9, hu9, hf⟩ := q_ob hf
  refine ⟨q_ofW (by decide) rfl ?_, g_C_sp hu9⟩
  intro p e s m args below meth c ls C hj hl
  have hx := C.1
  have hb := C.2.1
  have C : q_C E p s m args meth c cX10_mark RX10 2 (some .int) := C
  have hl : lv_has ls 2 [(0, .ref (q_ad E a0))] := hl
  refine lv_aload_n hx hb dX10_mark_0 rfl (lv_at hl 0 rfl) ?_
  refine q_cVRI C hj cw_X10_196 (As := []) (rest := []) hf (fun v9 h9 => c_X10_noCollege l E h9) rfl hl rfl rfl rfl dX10_mark_1 ⟨Nat.zero_le _, Nat.zero_le _⟩ (fun v1 hf => ?_)
  refine q_ifeq C (tgt := 13) dX10_mark_4 (by decide) hf (fun hf => ?_) (fun hf => ?_)
  · refine lv_aload_n hx hb dX10_mark_13 rfl (lv_at hl 0 rfl) ?_
    refine q_getR C hj lk_X10_26 dX10_mark_14 hf (fun v2 hf => ?_)
    refine lv_aload_n hx hb dX10_mark_17 rfl (lv_at hl 0 rfl) ?_
    refine q_getR C hj lk_X10_19 dX10_mark_18 hf (fun v3 hf => ?_)
    refine q_cVWI C hj cw_X10_302 (As := [.ref (q_ad E v3)]) (rest := []) hf (fun v9 g9 h9 => c_X4_setMark l E h9) rfl hl rfl rfl rfl dX10_mark_21 ⟨Nat.zero_le _, Nat.zero_le _⟩ (fun v5 g4 H locs hj hf => ?_)
    refine lv_istore_n (lv' := [(1, .int v5), (0, .ref (q_ad E a0))]) hx hb dX10_mark_24 rfl hl (by decide) rfl (fun ls hl => ?_)
    refine lv_iload_n hx hb dX10_mark_25 rfl (lv_at hl 0 rfl) ?_
    refine q_ifge C (tgt := 37) dX10_mark_26 (by decide) hf (fun hf => ?_) (fun hf => ?_)
    · refine lv_aload_n hx hb dX10_mark_37 rfl (lv_at hl 1 rfl) ?_
      refine lv_iload_n hx hb dX10_mark_38 rfl (lv_at hl 0 rfl) ?_
      refine q_cVWI C hj cw_X10_102 (As := [.int v5]) (rest := []) hf (fun v9 g9 h9 => c_X10_fine l E h9) rfl hl rfl rfl rfl dX10_mark_39 ⟨Nat.zero_le _, Nat.zero_le _⟩ (fun v7 g6 H locs hj hf => ?_)
      exact q_iretW C hj dX10_mark_42 hf
    · refine lv_aload_n hx hb dX10_mark_29 rfl (lv_at hl 1 rfl) ?_
      refine lv_iconst (v := 3) hx hb dX10_mark_30 qi_3 ?_
      refine q_cVWI C hj cw_X10_77 (As := [.int 3]) (rest := []) hf (fun v9 g9 h9 => c_X10_refused l E h9) rfl hl rfl rfl rfl dX10_mark_31 ⟨Nat.zero_le _, Nat.zero_le _⟩ (fun v9 g8 H locs hj hf => ?_)
      refine lv_goto (tgt := 42) hx hb dX10_mark_34 (by decide) ?_
      exact q_iretW C hj dX10_mark_42 hf
  · refine lv_aload_n hx hb dX10_mark_7 rfl (lv_at hl 0 rfl) ?_
    refine lv_iconst (v := 1) hx hb dX10_mark_8 qi_1 ?_
    refine q_cVWI C hj cw_X10_77 (As := [.int 1]) (rest := []) hf (fun v9 g9 h9 => c_X10_refused l E h9) rfl hl rfl rfl rfl dX10_mark_9 ⟨Nat.zero_le _, Nat.zero_le _⟩ (fun v11 g10 H locs hj hf => ?_)
    exact q_iretW C hj dX10_mark_12 hf
def f_X10_back (g : qS) (a0 : Nat) (a1 : Int32) : Option (Int32 × qS) := (g_C g a0 9).bind fun _ => (g_R g a0 9 2).bind fun v1 => (g_R g a0 9 1).bind fun v2 => q_b2 (f_X4_goBack g v1 a1 v2) fun v4 g3 => if v4 = 0 then (q_b2 (f_X10_no g3 a0 1) fun v6 g5 => q_zr v6 (v6, g5)) else (q_b2 (f_X10_yes g3 a0) fun v8 g7 => q_zr v8 (v8, g7))
set_option maxHeartbeats 4000000 in
set_option maxRecDepth 100000 in
theorem c_X10_back (l : Launch) (E : qV) {g : qS} {a0 : Nat} {a1 : Int32} {res : (Int32 × qS)} (hf : f_X10_back g a0 a1 = some res) : q_MW l yX10_back cX10_back 2 (some .boolean) 4 92 E [.ref (q_ad E a0), .int a1] g (some (.int res.1)) res.2 ∧ ∃ fs, g a0 = some (.inr (9, fs)) := by
  unfold f_X10_back at hf
  obtain ⟨u9, hu9, hf⟩ := q_ob hf
  refine ⟨q_ofW (by decide) rfl ?_, g_C_sp hu9⟩
  intro p e s m args below meth c ls C hj hl
  have hx := C.1
  have hb := C.2.1
  have C : q_C E p s m args meth c cX10_back RX10 2 (some .boolean) := C
  have hl : lv_has ls 2 [(0, .ref (q_ad E a0)), (1, .int a1)] := hl
  refine lv_aload_n hx hb dX10_back_0 rfl (lv_at hl 0 rfl) ?_
  refine q_getR C hj lk_X10_26 dX10_back_1 hf (fun v1 hf => ?_)
  refine lv_iload_n hx hb dX10_back_4 rfl (lv_at hl 1 rfl) ?_
  refine lv_aload_n hx hb dX10_back_5 rfl (lv_at hl 0 rfl) ?_
  refine q_getR C hj lk_X10_19 dX10_back_6 hf (fun v2 hf => ?_)
  refine q_cVWI C hj cw_X10_306 (As := [.int a1, .ref (q_ad E v2)]) (rest := []) hf (fun v9 g9 h9 => c_X4_goBack l E h9) rfl hl rfl rfl rfl dX10_back_9 ⟨Nat.zero_le _, Nat.zero_le _⟩ (fun v4 g3 H locs hj hf => ?_)
  refine q_ifeq C (tgt := 22) dX10_back_12 (by decide) hf (fun hf => ?_) (fun hf => ?_)
  · refine lv_aload_n hx hb dX10_back_22 rfl (lv_at hl 0 rfl) ?_
    refine lv_iconst (v := 1) hx hb dX10_back_23 qi_1 ?_
    refine q_cVWI C hj cw_X10_289 (As := [.int 1]) (rest := []) hf (fun v9 g9 h9 => c_X10_no l E h9) rfl hl rfl rfl rfl dX10_back_24 ⟨Nat.zero_le _, Nat.zero_le _⟩ (fun v6 g5 H locs hj hf => ?_)
    exact q_zretW C hj dX10_back_27 hf
  · refine lv_aload_n hx hb dX10_back_15 rfl (lv_at hl 0 rfl) ?_
    refine q_cVWI C hj cw_X10_295 (As := []) (rest := []) hf (fun v9 g9 h9 => c_X10_yes l E h9) rfl hl rfl rfl rfl dX10_back_16 ⟨Nat.zero_le _, Nat.zero_le _⟩ (fun v8 g7 H locs hj hf => ?_)
    refine lv_goto (tgt := 27) hx hb dX10_back_19 (by decide) ?_
    exact q_zretW C hj dX10_back_27 hf
def f_X10_size (g : qS) (a0 : Nat) (a1 : Int32) : Option Int32 := (g_C g a0 9).bind fun _ => if a1 = 10 then ((g_R g a0 9 1).bind fun v1 => (f_X7_today g v1).bind fun v2 => some v2) else (if a1 = 11 then ((g_R g a0 9 2).bind fun v3 => (f_X4_actCount g v3).bind fun v4 => some v4) else (if a1 = 12 then ((g_R g a0 9 2).bind fun v5 => (f_X4_markCount g v5).bind fun v6 => some v6) else (if a1 = 13 then ((g_R g a0 9 0).bind fun v7 => (f_X6_tapeLength g v7).bind fun v8 => some v8) else (if a1 < 0 then (some (-1)) else (if 10 ≤ a1 then (some (-1)) else ((g_R g a0 9 8).bind fun v9 => (f_X3_count g v9 a1).bind fun v10 => some v10))))))
set_option maxHeartbeats 4000000 in
set_option maxRecDepth 100000 in
theorem c_X10_size (l : Launch) (E : qV) {g : qS} {a0 : Nat} {a1 : Int32} {res : Int32} (hf : f_X10_size g a0 a1 = some res) : q_MR l yX10_size cX10_size 2 (some .int) 2 44 E [.ref (q_ad E a0), .int a1] g (some (.int res)) ∧ ∃ fs, g a0 = some (.inr (9, fs)) := by
  unfold f_X10_size at hf
  obtain ⟨u9, hu9, hf⟩ := q_ob hf
  refine ⟨q_ofR (by decide) rfl ?_, g_C_sp hu9⟩
  intro p e s m args below meth c ls C hw hl
  have hj : q_J E s g s.heap [] := ⟨hw, va_S.rf⟩
  have hx := C.1
  have hb := C.2.1
  have C : q_C E p s m args meth c cX10_size RX10 2 (some .int) := C
  have hl : lv_has ls 2 [(0, .ref (q_ad E a0)), (1, .int a1)] := hl
  refine lv_iload_n hx hb dX10_size_0 rfl (lv_at hl 1 rfl) ?_
  refine q_it hf (fun c0 hf => ?_) (fun c0 hf => ?_)
  · refine lv_tableIn (tgt := 32) hx hb dX10_size_1 (by rw [c0]; decide) (by rw [c0]; decide) (by rw [c0]; rfl) (by decide) ?_
    refine lv_aload_n hx hb dX10_size_32 rfl (lv_at hl 0 rfl) ?_
    refine q_getR C hj lk_X10_19 dX10_size_33 hf (fun v1 hf => ?_)
    refine q_cVRI C hj cw_X10_168 (As := []) (rest := []) hf (fun v9 h9 => c_X7_today l E h9) rfl hl rfl rfl rfl dX10_size_36 ⟨Nat.zero_le _, Nat.zero_le _⟩ (fun v2 hf => ?_)
    exact q_iretR C dX10_size_39 hf
  · refine q_it hf (fun c1 hf => ?_) (fun c1 hf => ?_)
    · refine lv_tableIn (tgt := 40) hx hb dX10_size_1 (by rw [c1]; decide) (by rw [c1]; decide) (by rw [c1]; rfl) (by decide) ?_
      refine lv_aload_n hx hb dX10_size_40 rfl (lv_at hl 0 rfl) ?_
      refine q_getR C hj lk_X10_26 dX10_size_41 hf (fun v3 hf => ?_)
      refine q_cVRI C hj cw_X10_317 (As := []) (rest := []) hf (fun v9 h9 => c_X4_actCount l E h9) rfl hl rfl rfl rfl dX10_size_44 ⟨Nat.zero_le _, Nat.zero_le _⟩ (fun v4 hf => ?_)
      exact q_iretR C dX10_size_47 hf
    · refine q_it hf (fun c2 hf => ?_) (fun c2 hf => ?_)
      · refine lv_tableIn (tgt := 48) hx hb dX10_size_1 (by rw [c2]; decide) (by rw [c2]; decide) (by rw [c2]; rfl) (by decide) ?_
        refine lv_aload_n hx hb dX10_size_48 rfl (lv_at hl 0 rfl) ?_
        refine q_getR C hj lk_X10_26 dX10_size_49 hf (fun v5 hf => ?_)
        refine q_cVRI C hj cw_X10_320 (As := []) (rest := []) hf (fun v9 h9 => c_X4_markCount l E h9) rfl hl rfl rfl rfl dX10_size_52 ⟨Nat.zero_le _, Nat.zero_le _⟩ (fun v6 hf => ?_)
        exact q_iretR C dX10_size_55 hf
      · refine q_it hf (fun c3 hf => ?_) (fun c3 hf => ?_)
        · refine lv_tableIn (tgt := 56) hx hb dX10_size_1 (by rw [c3]; decide) (by rw [c3]; decide) (by rw [c3]; rfl) (by decide) ?_
          refine lv_aload_n hx hb dX10_size_56 rfl (lv_at hl 0 rfl) ?_
          refine q_getR C hj lk_X10_10 dX10_size_57 hf (fun v7 hf => ?_)
          refine q_cVRI C hj cw_X10_69 (As := []) (rest := []) hf (fun v9 h9 => c_X6_tapeLength l E h9) rfl hl rfl rfl rfl dX10_size_60 ⟨Nat.zero_le _, Nat.zero_le _⟩ (fun v8 hf => ?_)
          exact q_iretR C dX10_size_63 hf
        · refine lv_tableOut (tgt := 64) hx hb dX10_size_1 (by have z0 : a1.toInt ≠ 10 := fun z => c0 (Int32.toInt_inj.mp z); have z1 : a1.toInt ≠ 11 := fun z => c1 (Int32.toInt_inj.mp z); have z2 : a1.toInt ≠ 12 := fun z => c2 (Int32.toInt_inj.mp z); have z3 : a1.toInt ≠ 13 := fun z => c3 (Int32.toInt_inj.mp z); omega) (by decide) ?_
          refine lv_iload_n hx hb dX10_size_64 rfl (lv_at hl 1 rfl) ?_
          refine q_iflt C (tgt := 85) dX10_size_65 (by decide) hf (fun hf => ?_) (fun hf => ?_)
          · refine lv_iconst (v := -1) hx hb dX10_size_85 qi_m1 ?_
            exact q_iretR C dX10_size_86 hf
          · refine lv_iload_n hx hb dX10_size_68 rfl (lv_at hl 1 rfl) ?_
            refine lv_bipush (v := 10) hx hb dX10_size_69 (by decide) ?_
            refine q_icge C (tgt := 85) dX10_size_71 (by decide) hf (fun hf => ?_) (fun hf => ?_)
            · refine lv_iconst (v := -1) hx hb dX10_size_85 qi_m1 ?_
              exact q_iretR C dX10_size_86 hf
            · refine lv_aload_n hx hb dX10_size_74 rfl (lv_at hl 0 rfl) ?_
              refine q_getR C hj lk_X10_65 dX10_size_75 hf (fun v9 hf => ?_)
              refine lv_iload_n hx hb dX10_size_78 rfl (lv_at hl 1 rfl) ?_
              refine q_cVRI C hj cw_X10_99 (As := [.int a1]) (rest := []) hf (fun v9 h9 => c_X3_count l E h9) rfl hl rfl rfl rfl dX10_size_79 ⟨Nat.zero_le _, Nat.zero_le _⟩ (fun v10 hf => ?_)
              refine lv_goto (tgt := 86) hx hb dX10_size_82 (by decide) ?_
              exact q_iretR C dX10_size_86 hf
def f_X10_trouble (g : qS) (a0 : Nat) : Option Int32 := (g_C g a0 9).bind fun _ => (g_I g a0 9 7).bind fun v1 => some v1
set_option maxHeartbeats 4000000 in
set_option maxRecDepth 100000 in
theorem c_X10_trouble (l : Launch) (E : qV) {g : qS} {a0 : Nat} {res : Int32} (hf : f_X10_trouble g a0 = some res) : q_MR l yX10_trouble cX10_trouble 1 (some .int) 0 0 E [.ref (q_ad E a0)] g (some (.int res)) ∧ ∃ fs, g a0 = some (.inr (9, fs)) := by
  unfold f_X10_trouble at hf
  obtain ⟨u9, hu9, hf⟩ := q_ob hf
  refine ⟨q_ofR (by decide) rfl ?_, g_C_sp hu9⟩
  intro p e s m args below meth c ls C hw hl
  have hj : q_J E s g s.heap [] := ⟨hw, va_S.rf⟩
  have hx := C.1
  have hb := C.2.1
  have C : q_C E p s m args meth c cX10_trouble RX10 1 (some .int) := C
  have hl : lv_has ls 1 [(0, .ref (q_ad E a0))] := hl
  refine lv_aload_n hx hb dX10_trouble_0 rfl (lv_at hl 0 rfl) ?_
  refine q_getI C hj lk_X10_58 dX10_trouble_1 hf (fun v1 hf => ?_)
  exact q_iretR C dX10_trouble_4 hf
