def f_X10_feed (g : qS) (a0 : Nat) (a1 : Int32) (a2 : Int32) (a3 : Int32) (a4 : Int32) (a5 : Int32) : Option (Int32 × qS) := (g_C g a0 9).bind fun _ => (g_R g a0 9 0).bind fun v1 => (f_X6_tapeLength g v1).bind fun v2 => if (v2 + 20) ≤ 1000 then ((g_R g a0 9 0).bind fun v3 => (f_X6_append g v3 a1).bind fun g4 => (g_R g4 a0 9 0).bind fun v5 => (f_X6_append g4 v5 a2).bind fun g6 => (g_R g6 a0 9 0).bind fun v7 => (f_X6_append g6 v7 a3).bind fun g8 => (g_R g8 a0 9 0).bind fun v9 => (f_X6_append g8 v9 a4).bind fun g10 => (g_R g10 a0 9 0).bind fun v11 => (f_X6_append g10 v11 a5).bind fun g12 => (g_R g12 a0 9 0).bind fun v13 => (f_X6_tapeLength g12 v13).bind fun v14 => some (v14, g12)) else (some (-1, g))
set_option maxHeartbeats 4000000 in
set_option maxRecDepth 100000 in
theorem c_X10_feed (l : Launch) (E : qV) {g : qS} {a0 : Nat} {a1 : Int32} {a2 : Int32} {a3 : Int32} {a4 : Int32} {a5 : Int32} {res : (Int32 × qS)} (hf : f_X10_feed g a0 a1 a2 a3 a4 a5 = some res) : q_MW l yX10_feed cX10_feed 6 (some .int) 1 22 E [.ref (q_ad E a0), .int a1, .int a2, .int a3, .int a4, .int a5] g (some (.int res.1)) res.2 ∧ ∃ fs, g a0 = some (.inr (9, fs)) := by
  unfold f_X10_feed at hf
  obtain ⟨u9, hu9, hf⟩ := q_ob hf
  refine ⟨q_ofW (by decide) rfl ?_, g_C_sp hu9⟩
  intro p e s m args below meth c ls C hj hl
  have hx := C.1
  have hb := C.2.1
  have C : q_C E p s m args meth c cX10_feed RX10 6 (some .int) := C
  have hl : lv_has ls 6 [(0, .ref (q_ad E a0)), (1, .int a1), (2, .int a2), (3, .int a3), (4, .int a4), (5, .int a5)] := hl
  refine lv_aload_n hx hb dX10_feed_0 rfl (lv_at hl 0 rfl) ?_
  refine q_getR C hj lk_X10_10 dX10_feed_1 hf (fun v1 hf => ?_)
  refine q_cVRI C hj cw_X10_69 (As := []) (rest := []) hf (fun v9 h9 => c_X6_tapeLength l E h9) rfl hl rfl rfl rfl dX10_feed_4 ⟨Nat.zero_le _, Nat.zero_le _⟩ (fun v2 hf => ?_)
  refine lv_bipush (v := 20) hx hb dX10_feed_7 (by decide) ?_
  refine lv_iadd hx hb dX10_feed_9 ?_
  refine lv_sipush (v := 1000) hx hb dX10_feed_10 (by decide) ?_
  refine q_icle C (tgt := 18) dX10_feed_13 (by decide) hf (fun hf => ?_) (fun hf => ?_)
  · refine lv_aload_n hx hb dX10_feed_18 rfl (lv_at hl 0 rfl) ?_
    refine q_getR C hj lk_X10_10 dX10_feed_19 hf (fun v3 hf => ?_)
    refine lv_iload_n hx hb dX10_feed_22 rfl (lv_at hl 1 rfl) ?_
    refine q_cVWV C hj cw_X10_73 (As := [.int a1]) (rest := []) hf (fun g9 h9 => c_X6_append l E h9) rfl hl rfl rfl rfl dX10_feed_23 ⟨Nat.zero_le _, Nat.zero_le _⟩ (fun g4 H locs hj hf => ?_)
    refine lv_aload_n hx hb dX10_feed_26 rfl (lv_at hl 0 rfl) ?_
    refine q_getR C hj lk_X10_10 dX10_feed_27 hf (fun v5 hf => ?_)
    refine lv_iload_n hx hb dX10_feed_30 rfl (lv_at hl 2 rfl) ?_
    refine q_cVWV C hj cw_X10_73 (As := [.int a2]) (rest := []) hf (fun g9 h9 => c_X6_append l E h9) rfl hl rfl rfl rfl dX10_feed_31 ⟨Nat.zero_le _, Nat.zero_le _⟩ (fun g6 H locs hj hf => ?_)
    refine lv_aload_n hx hb dX10_feed_34 rfl (lv_at hl 0 rfl) ?_
    refine q_getR C hj lk_X10_10 dX10_feed_35 hf (fun v7 hf => ?_)
    refine lv_iload_n hx hb dX10_feed_38 rfl (lv_at hl 3 rfl) ?_
    refine q_cVWV C hj cw_X10_73 (As := [.int a3]) (rest := []) hf (fun g9 h9 => c_X6_append l E h9) rfl hl rfl rfl rfl dX10_feed_39 ⟨Nat.zero_le _, Nat.zero_le _⟩ (fun g8 H locs hj hf => ?_)
    refine lv_aload_n hx hb dX10_feed_42 rfl (lv_at hl 0 rfl) ?_
    refine q_getR C hj lk_X10_10 dX10_feed_43 hf (fun v9 hf => ?_)
    refine lv_iload hx hb dX10_feed_46 (lv_at hl 4 rfl) ?_
    refine q_cVWV C hj cw_X10_73 (As := [.int a4]) (rest := []) hf (fun g9 h9 => c_X6_append l E h9) rfl hl rfl rfl rfl dX10_feed_48 ⟨Nat.zero_le _, Nat.zero_le _⟩ (fun g10 H locs hj hf => ?_)
    refine lv_aload_n hx hb dX10_feed_51 rfl (lv_at hl 0 rfl) ?_
    refine q_getR C hj lk_X10_10 dX10_feed_52 hf (fun v11 hf => ?_)
    refine lv_iload hx hb dX10_feed_55 (lv_at hl 5 rfl) ?_
    refine q_cVWV C hj cw_X10_73 (As := [.int a5]) (rest := []) hf (fun g9 h9 => c_X6_append l E h9) rfl hl rfl rfl rfl dX10_feed_57 ⟨Nat.zero_le _, Nat.zero_le _⟩ (fun g12 H locs hj hf => ?_)
    refine lv_aload_n hx hb dX10_feed_60 rfl (lv_at hl 0 rfl) ?_
    refine q_getR C hj lk_X10_10 dX10_feed_61 hf (fun v13 hf => ?_)
    refine q_cVRI C hj cw_X10_69 (As := []) (rest := []) hf (fun v9 h9 => c_X6_tapeLength l E h9) rfl hl rfl rfl rfl dX10_feed_64 ⟨Nat.zero_le _, Nat.zero_le _⟩ (fun v14 hf => ?_)
    exact q_iretW C hj dX10_feed_67 hf
  · refine lv_iconst (v := -1) hx hb dX10_feed_16 qi_m1 ?_
    exact q_iretW C hj dX10_feed_17 hf
def f_X10_refused (g : qS) (a0 : Nat) (a1 : Int32) : Option (Int32 × qS) := (g_C g a0 9).bind fun _ => (p_I g a0 9 7 a1).bind fun g1 => some (-1, g1)
set_option maxHeartbeats 4000000 in
set_option maxRecDepth 100000 in
theorem c_X10_refused (l : Launch) (E : qV) {g : qS} {a0 : Nat} {a1 : Int32} {res : (Int32 × qS)} (hf : f_X10_refused g a0 a1 = some res) : q_MW l yX10_refused cX10_refused 2 (some .int) 0 0 E [.ref (q_ad E a0), .int a1] g (some (.int res.1)) res.2 ∧ ∃ fs, g a0 = some (.inr (9, fs)) := by
  unfold f_X10_refused at hf
  obtain ⟨u9, hu9, hf⟩ := q_ob hf
  refine ⟨q_ofW (by decide) rfl ?_, g_C_sp hu9⟩
  intro p e s m args below meth c ls C hj hl
  have hx := C.1
  have hb := C.2.1
  have C : q_C E p s m args meth c cX10_refused RX10 2 (some .int) := C
  have hl : lv_has ls 2 [(0, .ref (q_ad E a0)), (1, .int a1)] := hl
  refine lv_aload_n hx hb dX10_refused_0 rfl (lv_at hl 0 rfl) ?_
  refine lv_iload_n hx hb dX10_refused_1 rfl (lv_at hl 1 rfl) ?_
  refine q_putI C hj fp_X10_58 dX10_refused_2 hf (fun g1 H locs hj hf => ?_)
  refine lv_iconst (v := -1) hx hb dX10_refused_5 qi_m1 ?_
  exact q_iretW C hj dX10_refused_6 hf
def f_X10_fine (g : qS) (a0 : Nat) (a1 : Int32) : Option (Int32 × qS) := (g_C g a0 9).bind fun _ => (p_I g a0 9 7 0).bind fun g1 => some (a1, g1)
set_option maxHeartbeats 4000000 in
set_option maxRecDepth 100000 in
theorem c_X10_fine (l : Launch) (E : qV) {g : qS} {a0 : Nat} {a1 : Int32} {res : (Int32 × qS)} (hf : f_X10_fine g a0 a1 = some res) : q_MW l yX10_fine cX10_fine 2 (some .int) 0 0 E [.ref (q_ad E a0), .int a1] g (some (.int res.1)) res.2 ∧ ∃ fs, g a0 = some (.inr (9, fs)) := by
  unfold f_X10_fine at hf
  obtain ⟨u9, hu9, hf⟩ := q_ob hf
  refine ⟨q_ofW (by decide) rfl ?_, g_C_sp hu9⟩
  intro p e s m args below meth c ls C hj hl
  have hx := C.1
  have hb := C.2.1
  have C : q_C E p s m args meth c cX10_fine RX10 2 (some .int) := C
  have hl : lv_has ls 2 [(0, .ref (q_ad E a0)), (1, .int a1)] := hl
  refine lv_aload_n hx hb dX10_fine_0 rfl (lv_at hl 0 rfl) ?_
  refine lv_iconst (v := 0) hx hb dX10_fine_1 qi_0 ?_
  refine q_putI C hj fp_X10_58 dX10_fine_2 hf (fun g1 H locs hj hf => ?_)
  refine lv_iload_n hx hb dX10_fine_5 rfl (lv_at hl 1 rfl) ?_
  exact q_iretW C hj dX10_fine_6 hf
def f_X10_college (g : qS) (a0 : Nat) (a1 : Int32) : Option (Int32 × qS) := (g_C g a0 9).bind fun _ => if a1 < 0 then (q_b2 (f_X10_refused g a0 2) fun v2 g1 => some (v2, g1)) else ((g_R g a0 9 0).bind fun v3 => (f_X6_tapeLength g v3).bind fun v4 => if a1 ≤ v4 then ((g_R g a0 9 0).bind fun v5 => q_b2 (f_X6_read g v5 a1) fun v7 g6 => if v7 = 0 then (q_b2 (f_X10_refused g6 a0 4) fun v26 g25 => some (v26, g25)) else ((g_R g6 a0 9 0).bind fun v8 => (g_R g6 a0 9 8).bind fun v9 => q_b2 (f_X6_exchange g6 v8 v9) fun v11 g10 => (p_R g10 a0 9 8 v11).bind fun g12 => (g_R g12 a0 9 1).bind fun v13 => (f_X7_begin g12 v13).bind fun g14 => (g_R g14 a0 9 2).bind fun v15 => (f_X4_forgetAll g14 v15).bind fun g16 => (g_R g16 a0 9 4).bind fun v17 => (f_X0_forget g16 v17).bind fun g18 => (g_R g18 a0 9 5).bind fun v19 => (f_X9_forget g18 v19).bind fun g20 => (g_R g20 a0 9 8).bind fun v21 => (f_X3_count g20 v21 2).bind fun v22 => q_b2 (f_X10_fine g20 a0 v22) fun v24 g23 => some (v24, g23))) else (q_b2 (f_X10_refused g a0 2) fun v28 g27 => some (v28, g27)))
set_option maxHeartbeats 4000000 in
set_option maxRecDepth 100000 in
theorem c_X10_college (l : Launch) (E : qV) {g : qS} {a0 : Nat} {a1 : Int32} {res : (Int32 × qS)} (hf : f_X10_college g a0 a1 = some res) : q_MW l yX10_college cX10_college 2 (some .int) 11 275 E [.ref (q_ad E a0), .int a1] g (some (.int res.1)) res.2 ∧ ∃ fs, g a0 = some (.inr (9, fs)) := by
  unfold f_X10_college at hf
  obtain ⟨u9, hu9, hf⟩ := q_ob hf
  refine ⟨q_ofW (by decide) rfl ?_, g_C_sp hu9⟩
  intro p e s m args below meth c ls C hj hl
  have hx := C.1
  have hb := C.2.1
  have C : q_C E p s m args meth c cX10_college RX10 2 (some .int) := C
  have hl : lv_has ls 2 [(0, .ref (q_ad E a0)), (1, .int a1)] := hl
  refine lv_iload_n hx hb dX10_college_0 rfl (lv_at hl 1 rfl) ?_
  refine q_iflt C (tgt := 15) dX10_college_1 (by decide) hf (fun hf => ?_) (fun hf => ?_)
  · refine lv_aload_n hx hb dX10_college_15 rfl (lv_at hl 0 rfl) ?_
    refine lv_iconst (v := 2) hx hb dX10_college_16 qi_2 ?_
    refine q_cVWI C hj cw_X10_77 (As := [.int 2]) (rest := []) hf (fun v9 g9 h9 => c_X10_refused l E h9) rfl hl rfl rfl rfl dX10_college_17 ⟨Nat.zero_le _, Nat.zero_le _⟩ (fun v2 g1 H locs hj hf => ?_)
    exact q_iretW C hj dX10_college_20 hf
  · refine lv_iload_n hx hb dX10_college_4 rfl (lv_at hl 1 rfl) ?_
    refine lv_aload_n hx hb dX10_college_5 rfl (lv_at hl 0 rfl) ?_
    refine q_getR C hj lk_X10_10 dX10_college_6 hf (fun v3 hf => ?_)
    refine q_cVRI C hj cw_X10_69 (As := []) (rest := [.int a1]) hf (fun v9 h9 => c_X6_tapeLength l E h9) rfl hl rfl rfl rfl dX10_college_9 ⟨Nat.zero_le _, Nat.zero_le _⟩ (fun v4 hf => ?_)
    refine q_icle C (tgt := 21) dX10_college_12 (by decide) hf (fun hf => ?_) (fun hf => ?_)
    · refine lv_aload_n hx hb dX10_college_21 rfl (lv_at hl 0 rfl) ?_
      refine q_getR C hj lk_X10_10 dX10_college_22 hf (fun v5 hf => ?_)
      refine lv_iload_n hx hb dX10_college_25 rfl (lv_at hl 1 rfl) ?_
      refine q_cVWI C hj cw_X10_81 (As := [.int a1]) (rest := []) hf (fun v9 g9 h9 => c_X6_read l E h9) rfl hl rfl rfl rfl dX10_college_26 ⟨Nat.zero_le _, Nat.zero_le _⟩ (fun v7 g6 H locs hj hf => ?_)
      refine q_ifne C (tgt := 38) dX10_college_29 (by decide) hf (fun hf => ?_) (fun hf => ?_)
      · refine lv_aload_n hx hb dX10_college_38 rfl (lv_at hl 0 rfl) ?_
        refine lv_aload_n hx hb dX10_college_39 rfl (lv_at hl 0 rfl) ?_
        refine q_getR C hj lk_X10_10 dX10_college_40 hf (fun v8 hf => ?_)
        refine lv_aload_n hx hb dX10_college_43 rfl (lv_at hl 0 rfl) ?_
        refine q_getR C hj lk_X10_65 dX10_college_44 hf (fun v9 hf => ?_)
        refine q_cVWR C hj cw_X10_85 (As := [.ref (q_ad E v9)]) (rest := [.ref (q_ad E a0)]) hf (fun v9 g9 h9 => c_X6_exchange l E h9) rfl hl rfl rfl rfl dX10_college_47 ⟨Nat.zero_le _, Nat.zero_le _⟩ (fun v11 g10 H locs hj hf => ?_)
        refine q_putR C hj fp_X10_65 dX10_college_50 hf (fun g12 H locs hj hf => ?_)
        refine lv_aload_n hx hb dX10_college_53 rfl (lv_at hl 0 rfl) ?_
        refine q_getR C hj lk_X10_19 dX10_college_54 hf (fun v13 hf => ?_)
        refine q_cVWV C hj cw_X10_89 (As := []) (rest := []) hf (fun g9 h9 => c_X7_begin l E h9) rfl hl rfl rfl rfl dX10_college_57 ⟨Nat.zero_le _, Nat.zero_le _⟩ (fun g14 H locs hj hf => ?_)
        refine lv_aload_n hx hb dX10_college_60 rfl (lv_at hl 0 rfl) ?_
        refine q_getR C hj lk_X10_26 dX10_college_61 hf (fun v15 hf => ?_)
        refine q_cVWV C hj cw_X10_92 (As := []) (rest := []) hf (fun g9 h9 => c_X4_forgetAll l E h9) rfl hl rfl rfl rfl dX10_college_64 ⟨Nat.zero_le _, Nat.zero_le _⟩ (fun g16 H locs hj hf => ?_)
        refine lv_aload_n hx hb dX10_college_67 rfl (lv_at hl 0 rfl) ?_
        refine q_getR C hj lk_X10_40 dX10_college_68 hf (fun v17 hf => ?_)
        refine q_cVWV C hj cw_X10_95 (As := []) (rest := []) hf (fun g9 h9 => c_X0_forget l E h9) rfl hl rfl rfl rfl dX10_college_71 ⟨Nat.zero_le _, Nat.zero_le _⟩ (fun g18 H locs hj hf => ?_)
        refine lv_aload_n hx hb dX10_college_74 rfl (lv_at hl 0 rfl) ?_
        refine q_getR C hj lk_X10_47 dX10_college_75 hf (fun v19 hf => ?_)
        refine q_cVWV C hj cw_X10_98 (As := []) (rest := []) hf (fun g9 h9 => c_X9_forget l E h9) rfl hl rfl rfl rfl dX10_college_78 ⟨Nat.zero_le _, Nat.zero_le _⟩ (fun g20 H locs hj hf => ?_)
        refine lv_aload_n hx hb dX10_college_81 rfl (lv_at hl 0 rfl) ?_
        refine lv_aload_n hx hb dX10_college_82 rfl (lv_at hl 0 rfl) ?_
        refine q_getR C hj lk_X10_65 dX10_college_83 hf (fun v21 hf => ?_)
        refine lv_iconst (v := 2) hx hb dX10_college_86 qi_2 ?_
        refine q_cVRI C hj cw_X10_99 (As := [.int 2]) (rest := [.ref (q_ad E a0)]) hf (fun v9 h9 => c_X3_count l E h9) rfl hl rfl rfl rfl dX10_college_87 ⟨Nat.zero_le _, Nat.zero_le _⟩ (fun v22 hf => ?_)
        refine q_cVWI C hj cw_X10_102 (As := [.int v22]) (rest := []) hf (fun v9 g9 h9 => c_X10_fine l E h9) rfl hl rfl rfl rfl dX10_college_90 ⟨Nat.zero_le _, Nat.zero_le _⟩ (fun v24 g23 H locs hj hf => ?_)
        exact q_iretW C hj dX10_college_93 hf
      · refine lv_aload_n hx hb dX10_college_32 rfl (lv_at hl 0 rfl) ?_
        refine lv_iconst (v := 4) hx hb dX10_college_33 qi_4 ?_
        refine q_cVWI C hj cw_X10_77 (As := [.int 4]) (rest := []) hf (fun v9 g9 h9 => c_X10_refused l E h9) rfl hl rfl rfl rfl dX10_college_34 ⟨Nat.zero_le _, Nat.zero_le _⟩ (fun v26 g25 H locs hj hf => ?_)
        exact q_iretW C hj dX10_college_37 hf
    · refine lv_aload_n hx hb dX10_college_15 rfl (lv_at hl 0 rfl) ?_
      refine lv_iconst (v := 2) hx hb dX10_college_16 qi_2 ?_
      refine q_cVWI C hj cw_X10_77 (As := [.int 2]) (rest := []) hf (fun v9 g9 h9 => c_X10_refused l E h9) rfl hl rfl rfl rfl dX10_college_17 ⟨Nat.zero_le _, Nat.zero_le _⟩ (fun v28 g27 H locs hj hf => ?_)
      exact q_iretW C hj dX10_college_20 hf
def f_X10_fault (g : qS) (a0 : Nat) : Option Int32 := (g_C g a0 9).bind fun _ => (g_R g a0 9 0).bind fun v1 => (f_X6_faultNumber g v1).bind fun v2 => some v2
set_option maxHeartbeats 4000000 in
set_option maxRecDepth 100000 in
theorem c_X10_fault (l : Launch) (E : qV) {g : qS} {a0 : Nat} {res : Int32} (hf : f_X10_fault g a0 = some res) : q_MR l yX10_fault cX10_fault 1 (some .int) 1 20 E [.ref (q_ad E a0)] g (some (.int res)) ∧ ∃ fs, g a0 = some (.inr (9, fs)) := by
  unfold f_X10_fault at hf
  obtain ⟨u9, hu9, hf⟩ := q_ob hf
  refine ⟨q_ofR (by decide) rfl ?_, g_C_sp hu9⟩
  intro p e s m args below meth c ls C hw hl
  have hj : q_J E s g s.heap [] := ⟨hw, va_S.rf⟩
  have hx := C.1
  have hb := C.2.1
  have C : q_C E p s m args meth c cX10_fault RX10 1 (some .int) := C
  have hl : lv_has ls 1 [(0, .ref (q_ad E a0))] := hl
  refine lv_aload_n hx hb dX10_fault_0 rfl (lv_at hl 0 rfl) ?_
  refine q_getR C hj lk_X10_10 dX10_fault_1 hf (fun v1 hf => ?_)
  refine q_cVRI C hj cw_X10_105 (As := []) (rest := []) hf (fun v9 h9 => c_X6_faultNumber l E h9) rfl hl rfl rfl rfl dX10_fault_4 ⟨Nat.zero_le _, Nat.zero_le _⟩ (fun v2 hf => ?_)
  exact q_iretR C dX10_fault_7 hf
def f_X10_where (g : qS) (a0 : Nat) : Option Int32 := (g_C g a0 9).bind fun _ => (g_I g a0 9 7).bind fun v1 => if v1 = 4 then ((g_R g a0 9 0).bind fun v2 => (f_X6_faultPlace g v2).bind fun v3 => some v3) else (some (-1))
set_option maxHeartbeats 4000000 in
set_option maxRecDepth 100000 in
theorem c_X10_where (l : Launch) (E : qV) {g : qS} {a0 : Nat} {res : Int32} (hf : f_X10_where g a0 = some res) : q_MR l yX10_where cX10_where 1 (some .int) 1 20 E [.ref (q_ad E a0)] g (some (.int res)) ∧ ∃ fs, g a0 = some (.inr (9, fs)) := by
  unfold f_X10_where at hf
  obtain ⟨u9, hu9, hf⟩ := q_ob hf
  refine ⟨q_ofR (by decide) rfl ?_, g_C_sp hu9⟩
  intro p e s m args below meth c ls C hw hl
  have hj : q_J E s g s.heap [] := ⟨hw, va_S.rf⟩
  have hx := C.1
  have hb := C.2.1
  have C : q_C E p s m args meth c cX10_where RX10 1 (some .int) := C
  have hl : lv_has ls 1 [(0, .ref (q_ad E a0))] := hl
  refine lv_aload_n hx hb dX10_where_0 rfl (lv_at hl 0 rfl) ?_
  refine q_getI C hj lk_X10_58 dX10_where_1 hf (fun v1 hf => ?_)
  refine lv_iconst (v := 4) hx hb dX10_where_4 qi_4 ?_
  refine q_icne C (tgt := 18) dX10_where_5 (by decide) hf (fun hf => ?_) (fun hf => ?_)
  · refine lv_iconst (v := -1) hx hb dX10_where_18 qi_m1 ?_
    exact q_iretR C dX10_where_19 hf
  · refine lv_aload_n hx hb dX10_where_8 rfl (lv_at hl 0 rfl) ?_
    refine q_getR C hj lk_X10_10 dX10_where_9 hf (fun v2 hf => ?_)
    refine q_cVRI C hj cw_X10_108 (As := []) (rest := []) hf (fun v9 h9 => c_X6_faultPlace l E h9) rfl hl rfl rfl rfl dX10_where_12 ⟨Nat.zero_le _, Nat.zero_le _⟩ (fun v3 hf => ?_)
    refine lv_goto (tgt := 19) hx hb dX10_where_15 (by decide) ?_
    exact q_iretR C dX10_where_19 hf
def f_X10_thing (g : qS) (a0 : Nat) (a1 : Int32) (a2 : Int32) : Option (Int32 × qS) := (g_C g a0 9).bind fun _ => (g_R g a0 9 8).bind fun v1 => (f_X3_has g v1 2 a1).bind fun v2 => if v2 = 0 then (q_b2 (f_X10_refused g a0 1) fun v20 g19 => some (v20, g19)) else (if a2 = 0 then ((g_R g a0 9 8).bind fun v3 => (g_R g v3 2 0).bind fun v4 => (f_X8_get g v4 a1 0).bind fun v5 => q_b2 (f_X10_fine g a0 v5) fun v7 g6 => some (v7, g6)) else (if a2 = 1 then ((g_R g a0 9 8).bind fun v8 => (g_R g v8 2 0).bind fun v9 => (f_X8_get g v9 a1 1).bind fun v10 => q_b2 (f_X10_fine g a0 v10) fun v12 g11 => some (v12, g11)) else (if a2 = 2 then ((g_R g a0 9 1).bind fun v13 => (f_X7_holder g v13 a1).bind fun v14 => q_b2 (f_X10_fine g a0 v14) fun v16 g15 => some (v16, g15)) else (q_b2 (f_X10_refused g a0 1) fun v18 g17 => some (v18, g17)))))
set_option maxHeartbeats 4000000 in
set_option maxRecDepth 100000 in
theorem c_X10_thing (l : Launch) (E : qV) {g : qS} {a0 : Nat} {a1 : Int32} {a2 : Int32} {res : (Int32 × qS)} (hf : f_X10_thing g a0 a1 a2 = some res) : q_MW l yX10_thing cX10_thing 3 (some .int) 3 66 E [.ref (q_ad E a0), .int a1, .int a2] g (some (.int res.1)) res.2 ∧ ∃ fs, g a0 = some (.inr (9, fs)) := by
  unfold f_X10_thing at hf
  obtain ⟨u9, hu9, hf⟩ := q_ob hf
  refine ⟨q_ofW (by decide) rfl ?_, g_C_sp hu9⟩
  intro p e s m args below meth c ls C hj hl
  have hx := C.1
  have hb := C.2.1
  have C : q_C E p s m args meth c cX10_thing RX10 3 (some .int) := C
  have hl : lv_has ls 3 [(0, .ref (q_ad E a0)), (1, .int a1), (2, .int a2)] := hl
  refine lv_aload_n hx hb dX10_thing_0 rfl (lv_at hl 0 rfl) ?_
  refine q_getR C hj lk_X10_65 dX10_thing_1 hf (fun v1 hf => ?_)
  refine lv_iconst (v := 2) hx hb dX10_thing_4 qi_2 ?_
  refine lv_iload_n hx hb dX10_thing_5 rfl (lv_at hl 1 rfl) ?_
  refine q_cVRI C hj cw_X10_111 (As := [.int 2, .int a1]) (rest := []) hf (fun v9 h9 => c_X3_has l E h9) rfl hl rfl rfl rfl dX10_thing_6 ⟨Nat.zero_le _, Nat.zero_le _⟩ (fun v2 hf => ?_)
  refine q_ifne C (tgt := 18) dX10_thing_9 (by decide) hf (fun hf => ?_) (fun hf => ?_)
  · refine lv_iload_n hx hb dX10_thing_18 rfl (lv_at hl 2 rfl) ?_
    refine q_it hf (fun c0 hf => ?_) (fun c0 hf => ?_)
    · refine lv_tableIn (tgt := 44) hx hb dX10_thing_19 (by rw [c0]; decide) (by rw [c0]; decide) (by rw [c0]; rfl) (by decide) ?_
      refine lv_aload_n hx hb dX10_thing_44 rfl (lv_at hl 0 rfl) ?_
      refine lv_aload_n hx hb dX10_thing_45 rfl (lv_at hl 0 rfl) ?_
      refine q_getR C hj lk_X10_65 dX10_thing_46 hf (fun v3 hf => ?_)
      refine q_getR C hj lk_X10_115 dX10_thing_49 hf (fun v4 hf => ?_)
      refine lv_iload_n hx hb dX10_thing_52 rfl (lv_at hl 1 rfl) ?_
      refine lv_iconst (v := 0) hx hb dX10_thing_53 qi_0 ?_
      refine q_cVRI C hj cw_X10_119 (As := [.int a1, .int 0]) (rest := [.ref (q_ad E a0)]) hf (fun v9 h9 => c_X8_get l E h9) rfl hl rfl rfl rfl dX10_thing_54 ⟨Nat.zero_le _, Nat.zero_le _⟩ (fun v5 hf => ?_)
      refine q_cVWI C hj cw_X10_102 (As := [.int v5]) (rest := []) hf (fun v9 g9 h9 => c_X10_fine l E h9) rfl hl rfl rfl rfl dX10_thing_57 ⟨Nat.zero_le _, Nat.zero_le _⟩ (fun v7 g6 H locs hj hf => ?_)
      exact q_iretW C hj dX10_thing_60 hf
    · refine q_it hf (fun c1 hf => ?_) (fun c1 hf => ?_)
      · refine lv_tableIn (tgt := 61) hx hb dX10_thing_19 (by rw [c1]; decide) (by rw [c1]; decide) (by rw [c1]; rfl) (by decide) ?_
        refine lv_aload_n hx hb dX10_thing_61 rfl (lv_at hl 0 rfl) ?_
        refine lv_aload_n hx hb dX10_thing_62 rfl (lv_at hl 0 rfl) ?_
        refine q_getR C hj lk_X10_65 dX10_thing_63 hf (fun v8 hf => ?_)
        refine q_getR C hj lk_X10_115 dX10_thing_66 hf (fun v9 hf => ?_)
        refine lv_iload_n hx hb dX10_thing_69 rfl (lv_at hl 1 rfl) ?_
        refine lv_iconst (v := 1) hx hb dX10_thing_70 qi_1 ?_
        refine q_cVRI C hj cw_X10_119 (As := [.int a1, .int 1]) (rest := [.ref (q_ad E a0)]) hf (fun v9 h9 => c_X8_get l E h9) rfl hl rfl rfl rfl dX10_thing_71 ⟨Nat.zero_le _, Nat.zero_le _⟩ (fun v10 hf => ?_)
        refine q_cVWI C hj cw_X10_102 (As := [.int v10]) (rest := []) hf (fun v9 g9 h9 => c_X10_fine l E h9) rfl hl rfl rfl rfl dX10_thing_74 ⟨Nat.zero_le _, Nat.zero_le _⟩ (fun v12 g11 H locs hj hf => ?_)
        exact q_iretW C hj dX10_thing_77 hf
      · refine q_it hf (fun c2 hf => ?_) (fun c2 hf => ?_)
        · refine lv_tableIn (tgt := 78) hx hb dX10_thing_19 (by rw [c2]; decide) (by rw [c2]; decide) (by rw [c2]; rfl) (by decide) ?_
          refine lv_aload_n hx hb dX10_thing_78 rfl (lv_at hl 0 rfl) ?_
          refine lv_aload_n hx hb dX10_thing_79 rfl (lv_at hl 0 rfl) ?_
          refine q_getR C hj lk_X10_19 dX10_thing_80 hf (fun v13 hf => ?_)
          refine lv_iload_n hx hb dX10_thing_83 rfl (lv_at hl 1 rfl) ?_
          refine q_cVRI C hj cw_X10_125 (As := [.int a1]) (rest := [.ref (q_ad E a0)]) hf (fun v9 h9 => c_X7_holder l E h9) rfl hl rfl rfl rfl dX10_thing_84 ⟨Nat.zero_le _, Nat.zero_le _⟩ (fun v14 hf => ?_)
          refine q_cVWI C hj cw_X10_102 (As := [.int v14]) (rest := []) hf (fun v9 g9 h9 => c_X10_fine l E h9) rfl hl rfl rfl rfl dX10_thing_87 ⟨Nat.zero_le _, Nat.zero_le _⟩ (fun v16 g15 H locs hj hf => ?_)
          exact q_iretW C hj dX10_thing_90 hf
        · refine lv_tableOut (tgt := 91) hx hb dX10_thing_19 (by have z0 : a2.toInt ≠ 0 := fun z => c0 (Int32.toInt_inj.mp z); have z1 : a2.toInt ≠ 1 := fun z => c1 (Int32.toInt_inj.mp z); have z2 : a2.toInt ≠ 2 := fun z => c2 (Int32.toInt_inj.mp z); omega) (by decide) ?_
          refine lv_aload_n hx hb dX10_thing_91 rfl (lv_at hl 0 rfl) ?_
          refine lv_iconst (v := 1) hx hb dX10_thing_92 qi_1 ?_
          refine q_cVWI C hj cw_X10_77 (As := [.int 1]) (rest := []) hf (fun v9 g9 h9 => c_X10_refused l E h9) rfl hl rfl rfl rfl dX10_thing_93 ⟨Nat.zero_le _, Nat.zero_le _⟩ (fun v18 g17 H locs hj hf => ?_)
          exact q_iretW C hj dX10_thing_96 hf
  · refine lv_aload_n hx hb dX10_thing_12 rfl (lv_at hl 0 rfl) ?_
    refine lv_iconst (v := 1) hx hb dX10_thing_13 qi_1 ?_
    refine q_cVWI C hj cw_X10_77 (As := [.int 1]) (rest := []) hf (fun v9 g9 h9 => c_X10_refused l E h9) rfl hl rfl rfl rfl dX10_thing_14 ⟨Nat.zero_le _, Nat.zero_le _⟩ (fun v20 g19 H locs hj hf => ?_)
    exact q_iretW C hj dX10_thing_17 hf
def f_X10_person (g : qS) (a0 : Nat) (a1 : Int32) (a2 : Int32) : Option (Int32 × qS) := (g_C g a0 9).bind fun _ => (g_R g a0 9 8).bind fun v1 => (f_X3_has g v1 3 a1).bind fun v2 => if v2 = 0 then (q_b2 (f_X10_refused g a0 1) fun v25 g24 => some (v25, g24)) else (if a2 = 0 then ((g_R g a0 9 8).bind fun v3 => (g_R g v3 2 1).bind fun v4 => (f_X8_get g v4 a1 0).bind fun v5 => q_b2 (f_X10_fine g a0 v5) fun v7 g6 => some (v7, g6)) else (if a2 = 1 then ((g_R g a0 9 1).bind fun v8 => (g_R g a0 9 8).bind fun v9 => (f_X7_roomOf g v8 v9 a1).bind fun v10 => q_b2 (f_X10_fine g a0 v10) fun v12 g11 => some (v12, g11)) else (if a2 = 2 then ((g_R g a0 9 8).bind fun v13 => (g_R g v13 2 1).bind fun v14 => (f_X8_get g v14 a1 2).bind fun v15 => q_b2 (f_X10_fine g a0 v15) fun v17 g16 => some (v17, g16)) else (if a2 = 3 then ((g_R g a0 9 1).bind fun v18 => (f_X7_thingsOf g v18 a1).bind fun v19 => q_b2 (f_X10_fine g a0 v19) fun v21 g20 => some (v21, g20)) else (q_b2 (f_X10_refused g a0 1) fun v23 g22 => some (v23, g22))))))
set_option maxHeartbeats 4000000 in
set_option maxRecDepth 100000 in
theorem c_X10_person (l : Launch) (E : qV) {g : qS} {a0 : Nat} {a1 : Int32} {a2 : Int32} {res : (Int32 × qS)} (hf : f_X10_person g a0 a1 a2 = some res) : q_MW l yX10_person cX10_person 3 (some .int) 3 67 E [.ref (q_ad E a0), .int a1, .int a2] g (some (.int res.1)) res.2 ∧ ∃ fs, g a0 = some (.inr (9, fs)) := by
  unfold f_X10_person at hf
  obtain ⟨u9, hu9, hf⟩ := q_ob hf
  refine ⟨q_ofW (by decide) rfl ?_, g_C_sp hu9⟩
  intro p e s m args below meth c ls C hj hl
  have hx := C.1
  have hb := C.2.1
  have C : q_C E p s m args meth c cX10_person RX10 3 (some .int) := C
  have hl : lv_has ls 3 [(0, .ref (q_ad E a0)), (1, .int a1), (2, .int a2)] := hl
  refine lv_aload_n hx hb dX10_person_0 rfl (lv_at hl 0 rfl) ?_
  refine q_getR C hj lk_X10_65 dX10_person_1 hf (fun v1 hf => ?_)
  refine lv_iconst (v := 3) hx hb dX10_person_4 qi_3 ?_
  refine lv_iload_n hx hb dX10_person_5 rfl (lv_at hl 1 rfl) ?_
  refine q_cVRI C hj cw_X10_111 (As := [.int 3, .int a1]) (rest := []) hf (fun v9 h9 => c_X3_has l E h9) rfl hl rfl rfl rfl dX10_person_6 ⟨Nat.zero_le _, Nat.zero_le _⟩ (fun v2 hf => ?_)
  refine q_ifne C (tgt := 18) dX10_person_9 (by decide) hf (fun hf => ?_) (fun hf => ?_)
  · refine lv_iload_n hx hb dX10_person_18 rfl (lv_at hl 2 rfl) ?_
    refine q_it hf (fun c0 hf => ?_) (fun c0 hf => ?_)
    · refine lv_tableIn (tgt := 48) hx hb dX10_person_19 (by rw [c0]; decide) (by rw [c0]; decide) (by rw [c0]; rfl) (by decide) ?_
      refine lv_aload_n hx hb dX10_person_48 rfl (lv_at hl 0 rfl) ?_
      refine lv_aload_n hx hb dX10_person_49 rfl (lv_at hl 0 rfl) ?_
      refine q_getR C hj lk_X10_65 dX10_person_50 hf (fun v3 hf => ?_)
      refine q_getR C hj lk_X10_128 dX10_person_53 hf (fun v4 hf => ?_)
      refine lv_iload_n hx hb dX10_person_56 rfl (lv_at hl 1 rfl) ?_
      refine lv_iconst (v := 0) hx hb dX10_person_57 qi_0 ?_
      refine q_cVRI C hj cw_X10_119 (As := [.int a1, .int 0]) (rest := [.ref (q_ad E a0)]) hf (fun v9 h9 => c_X8_get l E h9) rfl hl rfl rfl rfl dX10_person_58 ⟨Nat.zero_le _, Nat.zero_le _⟩ (fun v5 hf => ?_)
      refine q_cVWI C hj cw_X10_102 (As := [.int v5]) (rest := []) hf (fun v9 g9 h9 => c_X10_fine l E h9) rfl hl rfl rfl rfl dX10_person_61 ⟨Nat.zero_le _, Nat.zero_le _⟩ (fun v7 g6 H locs hj hf => ?_)
      exact q_iretW C hj dX10_person_64 hf
    · refine q_it hf (fun c1 hf => ?_) (fun c1 hf => ?_)
      · refine lv_tableIn (tgt := 65) hx hb dX10_person_19 (by rw [c1]; decide) (by rw [c1]; decide) (by rw [c1]; rfl) (by decide) ?_
        refine lv_aload_n hx hb dX10_person_65 rfl (lv_at hl 0 rfl) ?_
        refine lv_aload_n hx hb dX10_person_66 rfl (lv_at hl 0 rfl) ?_
        refine q_getR C hj lk_X10_19 dX10_person_67 hf (fun v8 hf => ?_)
        refine lv_aload_n hx hb dX10_person_70 rfl (lv_at hl 0 rfl) ?_
        refine q_getR C hj lk_X10_65 dX10_person_71 hf (fun v9 hf => ?_)
        refine lv_iload_n hx hb dX10_person_74 rfl (lv_at hl 1 rfl) ?_
        refine q_cVRI C hj cw_X10_131 (As := [.ref (q_ad E v9), .int a1]) (rest := [.ref (q_ad E a0)]) hf (fun v9 h9 => c_X7_roomOf l E h9) rfl hl rfl rfl rfl dX10_person_75 ⟨Nat.zero_le _, Nat.zero_le _⟩ (fun v10 hf => ?_)
        refine q_cVWI C hj cw_X10_102 (As := [.int v10]) (rest := []) hf (fun v9 g9 h9 => c_X10_fine l E h9) rfl hl rfl rfl rfl dX10_person_78 ⟨Nat.zero_le _, Nat.zero_le _⟩ (fun v12 g11 H locs hj hf => ?_)
        exact q_iretW C hj dX10_person_81 hf
      · refine q_it hf (fun c2 hf => ?_) (fun c2 hf => ?_)
        · refine lv_tableIn (tgt := 82) hx hb dX10_person_19 (by rw [c2]; decide) (by rw [c2]; decide) (by rw [c2]; rfl) (by decide) ?_
          refine lv_aload_n hx hb dX10_person_82 rfl (lv_at hl 0 rfl) ?_
          refine lv_aload_n hx hb dX10_person_83 rfl (lv_at hl 0 rfl) ?_
          refine q_getR C hj lk_X10_65 dX10_person_84 hf (fun v13 hf => ?_)
          refine q_getR C hj lk_X10_128 dX10_person_87 hf (fun v14 hf => ?_)
          refine lv_iload_n hx hb dX10_person_90 rfl (lv_at hl 1 rfl) ?_
          refine lv_iconst (v := 2) hx hb dX10_person_91 qi_2 ?_
          refine q_cVRI C hj cw_X10_119 (As := [.int a1, .int 2]) (rest := [.ref (q_ad E a0)]) hf (fun v9 h9 => c_X8_get l E h9) rfl hl rfl rfl rfl dX10_person_92 ⟨Nat.zero_le _, Nat.zero_le _⟩ (fun v15 hf => ?_)
          refine q_cVWI C hj cw_X10_102 (As := [.int v15]) (rest := []) hf (fun v9 g9 h9 => c_X10_fine l E h9) rfl hl rfl rfl rfl dX10_person_95 ⟨Nat.zero_le _, Nat.zero_le _⟩ (fun v17 g16 H locs hj hf => ?_)
          exact q_iretW C hj dX10_person_98 hf
        · refine q_it hf (fun c3 hf => ?_) (fun c3 hf => ?_)
          · refine lv_tableIn (tgt := 99) hx hb dX10_person_19 (by rw [c3]; decide) (by rw [c3]; decide) (by rw [c3]; rfl) (by decide) ?_
            refine lv_aload_n hx hb dX10_person_99 rfl (lv_at hl 0 rfl) ?_
            refine lv_aload_n hx hb dX10_person_100 rfl (lv_at hl 0 rfl) ?_
            refine q_getR C hj lk_X10_19 dX10_person_101 hf (fun v18 hf => ?_)
            refine lv_iload_n hx hb dX10_person_104 rfl (lv_at hl 1 rfl) ?_
            refine q_cVRI C hj cw_X10_135 (As := [.int a1]) (rest := [.ref (q_ad E a0)]) hf (fun v9 h9 => c_X7_thingsOf l E h9) rfl hl rfl rfl rfl dX10_person_105 ⟨Nat.zero_le _, Nat.zero_le _⟩ (fun v19 hf => ?_)
            refine q_cVWI C hj cw_X10_102 (As := [.int v19]) (rest := []) hf (fun v9 g9 h9 => c_X10_fine l E h9) rfl hl rfl rfl rfl dX10_person_108 ⟨Nat.zero_le _, Nat.zero_le _⟩ (fun v21 g20 H locs hj hf => ?_)
            exact q_iretW C hj dX10_person_111 hf
          · refine lv_tableOut (tgt := 112) hx hb dX10_person_19 (by have z0 : a2.toInt ≠ 0 := fun z => c0 (Int32.toInt_inj.mp z); have z1 : a2.toInt ≠ 1 := fun z => c1 (Int32.toInt_inj.mp z); have z2 : a2.toInt ≠ 2 := fun z => c2 (Int32.toInt_inj.mp z); have z3 : a2.toInt ≠ 3 := fun z => c3 (Int32.toInt_inj.mp z); omega) (by decide) ?_
            refine lv_aload_n hx hb dX10_person_112 rfl (lv_at hl 0 rfl) ?_
            refine lv_iconst (v := 1) hx hb dX10_person_113 qi_1 ?_
            refine q_cVWI C hj cw_X10_77 (As := [.int 1]) (rest := []) hf (fun v9 g9 h9 => c_X10_refused l E h9) rfl hl rfl rfl rfl dX10_person_114 ⟨Nat.zero_le _, Nat.zero_le _⟩ (fun v23 g22 H locs hj hf => ?_)
            exact q_iretW C hj dX10_person_117 hf
  · refine lv_aload_n hx hb dX10_person_12 rfl (lv_at hl 0 rfl) ?_
    refine lv_iconst (v := 1) hx hb dX10_person_13 qi_1 ?_
    refine q_cVWI C hj cw_X10_77 (As := [.int 1]) (rest := []) hf (fun v9 g9 h9 => c_X10_refused l E h9) rfl hl rfl rfl rfl dX10_person_14 ⟨Nat.zero_le _, Nat.zero_le _⟩ (fun v25 g24 H locs hj hf => ?_)
    exact q_iretW C hj dX10_person_17 hf
def f_X10_giver (g : qS) (a0 : Nat) (a1 : Int32) (a2 : Int32) : Option (Int32 × qS) := (g_C g a0 9).bind fun _ => (g_R g a0 9 8).bind fun v1 => (f_X3_has g v1 5 a1).bind fun v2 => if v2 = 0 then (q_b2 (f_X10_refused g a0 1) fun v19 g18 => some (v19, g18)) else (if a2 = 0 then ((g_R g a0 9 8).bind fun v3 => (g_R g v3 2 3).bind fun v4 => (f_X8_get g v4 a1 0).bind fun v5 => q_b2 (f_X10_fine g a0 v5) fun v7 g6 => some (v7, g6)) else (if a2 = 1 then ((g_R g a0 9 1).bind fun v8 => (f_X7_scoreOf g v8 a1).bind fun v9 => q_b2 (f_X10_fine g a0 v9) fun v11 g10 => some (v11, g10)) else (if a2 = 2 then ((g_R g a0 9 1).bind fun v12 => (f_X7_timesCaught g v12 a1).bind fun v13 => q_b2 (f_X10_fine g a0 v13) fun v15 g14 => some (v15, g14)) else (q_b2 (f_X10_refused g a0 1) fun v17 g16 => some (v17, g16)))))
set_option maxHeartbeats 4000000 in
set_option maxRecDepth 100000 in
theorem c_X10_giver (l : Launch) (E : qV) {g : qS} {a0 : Nat} {a1 : Int32} {a2 : Int32} {res : (Int32 × qS)} (hf : f_X10_giver g a0 a1 a2 = some res) : q_MW l yX10_giver cX10_giver 3 (some .int) 3 66 E [.ref (q_ad E a0), .int a1, .int a2] g (some (.int res.1)) res.2 ∧ ∃ fs, g a0 = some (.inr (9, fs)) := by
  unfold f_X10_giver at hf
  obtain ⟨u9, hu9, hf⟩ := q_ob hf
  refine ⟨q_ofW (by decide) rfl ?_, g_C_sp hu9⟩
  intro p e s m args below meth c ls C hj hl
  have hx := C.1
  have hb := C.2.1
  have C : q_C E p s m args meth c cX10_giver RX10 3 (some .int) := C
  have hl : lv_has ls 3 [(0, .ref (q_ad E a0)), (1, .int a1), (2, .int a2)] := hl
  refine lv_aload_n hx hb dX10_giver_0 rfl (lv_at hl 0 rfl) ?_
  refine q_getR C hj lk_X10_65 dX10_giver_1 hf (fun v1 hf => ?_)
  refine lv_iconst (v := 5) hx hb dX10_giver_4 qi_5 ?_
  refine lv_iload_n hx hb dX10_giver_5 rfl (lv_at hl 1 rfl) ?_
  refine q_cVRI C hj cw_X10_111 (As := [.int 5, .int a1]) (rest := []) hf (fun v9 h9 => c_X3_has l E h9) rfl hl rfl rfl rfl dX10_giver_6 ⟨Nat.zero_le _, Nat.zero_le _⟩ (fun v2 hf => ?_)
  refine q_ifne C (tgt := 18) dX10_giver_9 (by decide) hf (fun hf => ?_) (fun hf => ?_)
  · refine lv_iload_n hx hb dX10_giver_18 rfl (lv_at hl 2 rfl) ?_
    refine q_it hf (fun c0 hf => ?_) (fun c0 hf => ?_)
    · refine lv_tableIn (tgt := 44) hx hb dX10_giver_19 (by rw [c0]; decide) (by rw [c0]; decide) (by rw [c0]; rfl) (by decide) ?_
      refine lv_aload_n hx hb dX10_giver_44 rfl (lv_at hl 0 rfl) ?_
      refine lv_aload_n hx hb dX10_giver_45 rfl (lv_at hl 0 rfl) ?_
      refine q_getR C hj lk_X10_65 dX10_giver_46 hf (fun v3 hf => ?_)
      refine q_getR C hj lk_X10_138 dX10_giver_49 hf (fun v4 hf => ?_)
      refine lv_iload_n hx hb dX10_giver_52 rfl (lv_at hl 1 rfl) ?_
      refine lv_iconst (v := 0) hx hb dX10_giver_53 qi_0 ?_
      refine q_cVRI C hj cw_X10_119 (As := [.int a1, .int 0]) (rest := [.ref (q_ad E a0)]) hf (fun v9 h9 => c_X8_get l E h9) rfl hl rfl rfl rfl dX10_giver_54 ⟨Nat.zero_le _, Nat.zero_le _⟩ (fun v5 hf => ?_)
      refine q_cVWI C hj cw_X10_102 (As := [.int v5]) (rest := []) hf (fun v9 g9 h9 => c_X10_fine l E h9) rfl hl rfl rfl rfl dX10_giver_57 ⟨Nat.zero_le _, Nat.zero_le _⟩ (fun v7 g6 H locs hj hf => ?_)
      exact q_iretW C hj dX10_giver_60 hf
    · refine q_it hf (fun c1 hf => ?_) (fun c1 hf => ?_)
      · refine lv_tableIn (tgt := 61) hx hb dX10_giver_19 (by rw [c1]; decide) (by rw [c1]; decide) (by rw [c1]; rfl) (by decide) ?_
        refine lv_aload_n hx hb dX10_giver_61 rfl (lv_at hl 0 rfl) ?_
        refine lv_aload_n hx hb dX10_giver_62 rfl (lv_at hl 0 rfl) ?_
        refine q_getR C hj lk_X10_19 dX10_giver_63 hf (fun v8 hf => ?_)
        refine lv_iload_n hx hb dX10_giver_66 rfl (lv_at hl 1 rfl) ?_
        refine q_cVRI C hj cw_X10_141 (As := [.int a1]) (rest := [.ref (q_ad E a0)]) hf (fun v9 h9 => c_X7_scoreOf l E h9) rfl hl rfl rfl rfl dX10_giver_67 ⟨Nat.zero_le _, Nat.zero_le _⟩ (fun v9 hf => ?_)
        refine q_cVWI C hj cw_X10_102 (As := [.int v9]) (rest := []) hf (fun v9 g9 h9 => c_X10_fine l E h9) rfl hl rfl rfl rfl dX10_giver_70 ⟨Nat.zero_le _, Nat.zero_le _⟩ (fun v11 g10 H locs hj hf => ?_)
        exact q_iretW C hj dX10_giver_73 hf
      · refine q_it hf (fun c2 hf => ?_) (fun c2 hf => ?_)
        · refine lv_tableIn (tgt := 74) hx hb dX10_giver_19 (by rw [c2]; decide) (by rw [c2]; decide) (by rw [c2]; rfl) (by decide) ?_
          refine lv_aload_n hx hb dX10_giver_74 rfl (lv_at hl 0 rfl) ?_
          refine lv_aload_n hx hb dX10_giver_75 rfl (lv_at hl 0 rfl) ?_
          refine q_getR C hj lk_X10_19 dX10_giver_76 hf (fun v12 hf => ?_)
          refine lv_iload_n hx hb dX10_giver_79 rfl (lv_at hl 1 rfl) ?_
          refine q_cVRI C hj cw_X10_144 (As := [.int a1]) (rest := [.ref (q_ad E a0)]) hf (fun v9 h9 => c_X7_timesCaught l E h9) rfl hl rfl rfl rfl dX10_giver_80 ⟨Nat.zero_le _, Nat.zero_le _⟩ (fun v13 hf => ?_)
          refine q_cVWI C hj cw_X10_102 (As := [.int v13]) (rest := []) hf (fun v9 g9 h9 => c_X10_fine l E h9) rfl hl rfl rfl rfl dX10_giver_83 ⟨Nat.zero_le _, Nat.zero_le _⟩ (fun v15 g14 H locs hj hf => ?_)
          exact q_iretW C hj dX10_giver_86 hf
        · refine lv_tableOut (tgt := 87) hx hb dX10_giver_19 (by have z0 : a2.toInt ≠ 0 := fun z => c0 (Int32.toInt_inj.mp z); have z1 : a2.toInt ≠ 1 := fun z => c1 (Int32.toInt_inj.mp z); have z2 : a2.toInt ≠ 2 := fun z => c2 (Int32.toInt_inj.mp z); omega) (by decide) ?_
          refine lv_aload_n hx hb dX10_giver_87 rfl (lv_at hl 0 rfl) ?_
          refine lv_iconst (v := 1) hx hb dX10_giver_88 qi_1 ?_
          refine q_cVWI C hj cw_X10_77 (As := [.int 1]) (rest := []) hf (fun v9 g9 h9 => c_X10_refused l E h9) rfl hl rfl rfl rfl dX10_giver_89 ⟨Nat.zero_le _, Nat.zero_le _⟩ (fun v17 g16 H locs hj hf => ?_)
          exact q_iretW C hj dX10_giver_92 hf
  · refine lv_aload_n hx hb dX10_giver_12 rfl (lv_at hl 0 rfl) ?_
    refine lv_iconst (v := 1) hx hb dX10_giver_13 qi_1 ?_
    refine q_cVWI C hj cw_X10_77 (As := [.int 1]) (rest := []) hf (fun v9 g9 h9 => c_X10_refused l E h9) rfl hl rfl rfl rfl dX10_giver_14 ⟨Nat.zero_le _, Nat.zero_le _⟩ (fun v19 g18 H locs hj hf => ?_)
    exact q_iretW C hj dX10_giver_17 hf
def f_X10_whyNot (g : qS) (a0 : Nat) (a1 : Int32) (a2 : Int32) (a3 : Int32) : Option Int32 := (g_C g a0 9).bind fun _ => (g_R g a0 9 8).bind fun v1 => (f_X3_has g v1 a1 a2).bind fun v2 => if v2 = 0 then (some 1) else ((g_R g a0 9 8).bind fun v3 => (f_X3_has g v3 0 a3).bind fun v4 => if v4 = 0 then (some 2) else (some 0))
set_option maxHeartbeats 4000000 in
set_option maxRecDepth 100000 in
theorem c_X10_whyNot (l : Launch) (E : qV) {g : qS} {a0 : Nat} {a1 : Int32} {a2 : Int32} {a3 : Int32} {res : Int32} (hf : f_X10_whyNot g a0 a1 a2 a3 = some res) : q_MR l yX10_whyNot cX10_whyNot 4 (some .int) 3 66 E [.ref (q_ad E a0), .int a1, .int a2, .int a3] g (some (.int res)) ∧ ∃ fs, g a0 = some (.inr (9, fs)) := by
  unfold f_X10_whyNot at hf
  obtain ⟨u9, hu9, hf⟩ := q_ob hf
  refine ⟨q_ofR (by decide) rfl ?_, g_C_sp hu9⟩
  intro p e s m args below meth c ls C hw hl
  have hj : q_J E s g s.heap [] := ⟨hw, va_S.rf⟩
  have hx := C.1
  have hb := C.2.1
  have C : q_C E p s m args meth c cX10_whyNot RX10 4 (some .int) := C
  have hl : lv_has ls 4 [(0, .ref (q_ad E a0)), (1, .int a1), (2, .int a2), (3, .int a3)] := hl
  refine lv_aload_n hx hb dX10_whyNot_0 rfl (lv_at hl 0 rfl) ?_
  refine q_getR C hj lk_X10_65 dX10_whyNot_1 hf (fun v1 hf => ?_)
  refine lv_iload_n hx hb dX10_whyNot_4 rfl (lv_at hl 1 rfl) ?_
  refine lv_iload_n hx hb dX10_whyNot_5 rfl (lv_at hl 2 rfl) ?_
  refine q_cVRI C hj cw_X10_111 (As := [.int a1, .int a2]) (rest := []) hf (fun v9 h9 => c_X3_has l E h9) rfl hl rfl rfl rfl dX10_whyNot_6 ⟨Nat.zero_le _, Nat.zero_le _⟩ (fun v2 hf => ?_)
  refine q_ifne C (tgt := 14) dX10_whyNot_9 (by decide) hf (fun hf => ?_) (fun hf => ?_)
  · refine lv_aload_n hx hb dX10_whyNot_14 rfl (lv_at hl 0 rfl) ?_
    refine q_getR C hj lk_X10_65 dX10_whyNot_15 hf (fun v3 hf => ?_)
    refine lv_iconst (v := 0) hx hb dX10_whyNot_18 qi_0 ?_
    refine lv_iload_n hx hb dX10_whyNot_19 rfl (lv_at hl 3 rfl) ?_
    refine q_cVRI C hj cw_X10_111 (As := [.int 0, .int a3]) (rest := []) hf (fun v9 h9 => c_X3_has l E h9) rfl hl rfl rfl rfl dX10_whyNot_20 ⟨Nat.zero_le _, Nat.zero_le _⟩ (fun v4 hf => ?_)
    refine q_ifeq C (tgt := 30) dX10_whyNot_23 (by decide) hf (fun hf => ?_) (fun hf => ?_)
    · refine lv_iconst (v := 2) hx hb dX10_whyNot_30 qi_2 ?_
      exact q_iretR C dX10_whyNot_31 hf
    · refine lv_iconst (v := 0) hx hb dX10_whyNot_26 qi_0 ?_
      refine lv_goto (tgt := 31) hx hb dX10_whyNot_27 (by decide) ?_
      exact q_iretR C dX10_whyNot_31 hf
  · refine lv_iconst (v := 1) hx hb dX10_whyNot_12 qi_1 ?_
    exact q_iretR C dX10_whyNot_13 hf
def f_X10_rides (g : qS) (a0 : Nat) (a1 : Int32) (a2 : Int32) : Option (Int32 × qS) := (g_C g a0 9).bind fun _ => (f_X10_whyNot g a0 3 a1 a2).bind fun v1 => if v1 = 0 then ((g_R g a0 9 8).bind fun v2 => (g_R g v2 2 7).bind fun v3 => (f_X8_get g v3 a1 a2).bind fun v4 => q_b2 (f_X10_fine g a0 v4) fun v6 g5 => some (v6, g5)) else (q_b2 (f_X10_refused g a0 v1) fun v8 g7 => some (v8, g7))
set_option maxHeartbeats 4000000 in
set_option maxRecDepth 100000 in
theorem c_X10_rides (l : Launch) (E : qV) {g : qS} {a0 : Nat} {a1 : Int32} {a2 : Int32} {res : (Int32 × qS)} (hf : f_X10_rides g a0 a1 a2 = some res) : q_MW l yX10_rides cX10_rides 4 (some .int) 4 89 E [.ref (q_ad E a0), .int a1, .int a2] g (some (.int res.1)) res.2 ∧ ∃ fs, g a0 = some (.inr (9, fs)) := by
  unfold f_X10_rides at hf
  obtain ⟨u9, hu9, hf⟩ := q_ob hf
  refine ⟨q_ofW (by decide) rfl ?_, g_C_sp hu9⟩
  intro p e s m args below meth c ls C hj hl
  have hx := C.1
  have hb := C.2.1
  have C : q_C E p s m args meth c cX10_rides RX10 4 (some .int) := C
  have hl : lv_has ls 4 [(0, .ref (q_ad E a0)), (1, .int a1), (2, .int a2)] := hl
  refine lv_aload_n hx hb dX10_rides_0 rfl (lv_at hl 0 rfl) ?_
  refine lv_iconst (v := 3) hx hb dX10_rides_1 qi_3 ?_
  refine lv_iload_n hx hb dX10_rides_2 rfl (lv_at hl 1 rfl) ?_
  refine lv_iload_n hx hb dX10_rides_3 rfl (lv_at hl 2 rfl) ?_
  refine q_cVRI C hj cw_X10_147 (As := [.int 3, .int a1, .int a2]) (rest := []) hf (fun v9 h9 => c_X10_whyNot l E h9) rfl hl rfl rfl rfl dX10_rides_4 ⟨Nat.zero_le _, Nat.zero_le _⟩ (fun v1 hf => ?_)
  refine lv_istore_n (lv' := [(3, .int v1), (0, .ref (q_ad E a0)), (1, .int a1), (2, .int a2)]) hx hb dX10_rides_7 rfl hl (by decide) rfl (fun ls hl => ?_)
  refine lv_iload_n hx hb dX10_rides_8 rfl (lv_at hl 0 rfl) ?_
  refine q_ifeq C (tgt := 20) dX10_rides_9 (by decide) hf (fun hf => ?_) (fun hf => ?_)
  · refine lv_aload_n hx hb dX10_rides_20 rfl (lv_at hl 1 rfl) ?_
    refine lv_aload_n hx hb dX10_rides_21 rfl (lv_at hl 1 rfl) ?_
    refine q_getR C hj lk_X10_65 dX10_rides_22 hf (fun v2 hf => ?_)
    refine q_getR C hj lk_X10_151 dX10_rides_25 hf (fun v3 hf => ?_)
    refine lv_iload_n hx hb dX10_rides_28 rfl (lv_at hl 2 rfl) ?_
    refine lv_iload_n hx hb dX10_rides_29 rfl (lv_at hl 3 rfl) ?_
    refine q_cVRI C hj cw_X10_119 (As := [.int a1, .int a2]) (rest := [.ref (q_ad E a0)]) hf (fun v9 h9 => c_X8_get l E h9) rfl hl rfl rfl rfl dX10_rides_30 ⟨Nat.zero_le _, Nat.zero_le _⟩ (fun v4 hf => ?_)
    refine q_cVWI C hj cw_X10_102 (As := [.int v4]) (rest := []) hf (fun v9 g9 h9 => c_X10_fine l E h9) rfl hl rfl rfl rfl dX10_rides_33 ⟨Nat.zero_le _, Nat.zero_le _⟩ (fun v6 g5 H locs hj hf => ?_)
    exact q_iretW C hj dX10_rides_36 hf
  · refine lv_aload_n hx hb dX10_rides_12 rfl (lv_at hl 1 rfl) ?_
    refine lv_iload_n hx hb dX10_rides_13 rfl (lv_at hl 0 rfl) ?_
    refine q_cVWI C hj cw_X10_77 (As := [.int v1]) (rest := []) hf (fun v9 g9 h9 => c_X10_refused l E h9) rfl hl rfl rfl rfl dX10_rides_14 ⟨Nat.zero_le _, Nat.zero_le _⟩ (fun v8 g7 H locs hj hf => ?_)
    refine lv_goto (tgt := 36) hx hb dX10_rides_17 (by decide) ?_
    exact q_iretW C hj dX10_rides_36 hf
def f_X10_takes (g : qS) (a0 : Nat) (a1 : Int32) (a2 : Int32) : Option (Int32 × qS) := (g_C g a0 9).bind fun _ => (f_X10_whyNot g a0 5 a1 a2).bind fun v1 => if v1 = 0 then ((g_R g a0 9 8).bind fun v2 => (g_R g v2 2 8).bind fun v3 => (f_X8_get g v3 a1 a2).bind fun v4 => q_b2 (f_X10_fine g a0 v4) fun v6 g5 => some (v6, g5)) else (q_b2 (f_X10_refused g a0 v1) fun v8 g7 => some (v8, g7))
set_option maxHeartbeats 4000000 in
set_option maxRecDepth 100000 in
theorem c_X10_takes (l : Launch) (E : qV) {g : qS} {a0 : Nat} {a1 : Int32} {a2 : Int32} {res : (Int32 × qS)} (hf : f_X10_takes g a0 a1 a2 = some res) : q_MW l yX10_takes cX10_takes 4 (some .int) 4 89 E [.ref (q_ad E a0), .int a1, .int a2] g (some (.int res.1)) res.2 ∧ ∃ fs, g a0 = some (.inr (9, fs)) := by
  unfold f_X10_takes at hf
  obtain ⟨u9, hu9, hf⟩ := q_ob hf
  refine ⟨q_ofW (by decide) rfl ?_, g_C_sp hu9⟩
  intro p e s m args below meth c ls C hj hl
  have hx := C.1
  have hb := C.2.1
  have C : q_C E p s m args meth c cX10_takes RX10 4 (some .int) := C
  have hl : lv_has ls 4 [(0, .ref (q_ad E a0)), (1, .int a1), (2, .int a2)] := hl
  refine lv_aload_n hx hb dX10_takes_0 rfl (lv_at hl 0 rfl) ?_
  refine lv_iconst (v := 5) hx hb dX10_takes_1 qi_5 ?_
  refine lv_iload_n hx hb dX10_takes_2 rfl (lv_at hl 1 rfl) ?_
  refine lv_iload_n hx hb dX10_takes_3 rfl (lv_at hl 2 rfl) ?_
  refine q_cVRI C hj cw_X10_147 (As := [.int 5, .int a1, .int a2]) (rest := []) hf (fun v9 h9 => c_X10_whyNot l E h9) rfl hl rfl rfl rfl dX10_takes_4 ⟨Nat.zero_le _, Nat.zero_le _⟩ (fun v1 hf => ?_)
  refine lv_istore_n (lv' := [(3, .int v1), (0, .ref (q_ad E a0)), (1, .int a1), (2, .int a2)]) hx hb dX10_takes_7 rfl hl (by decide) rfl (fun ls hl => ?_)
  refine lv_iload_n hx hb dX10_takes_8 rfl (lv_at hl 0 rfl) ?_
  refine q_ifeq C (tgt := 20) dX10_takes_9 (by decide) hf (fun hf => ?_) (fun hf => ?_)
  · refine lv_aload_n hx hb dX10_takes_20 rfl (lv_at hl 1 rfl) ?_
    refine lv_aload_n hx hb dX10_takes_21 rfl (lv_at hl 1 rfl) ?_
    refine q_getR C hj lk_X10_65 dX10_takes_22 hf (fun v2 hf => ?_)
    refine q_getR C hj lk_X10_154 dX10_takes_25 hf (fun v3 hf => ?_)
    refine lv_iload_n hx hb dX10_takes_28 rfl (lv_at hl 2 rfl) ?_
    refine lv_iload_n hx hb dX10_takes_29 rfl (lv_at hl 3 rfl) ?_
    refine q_cVRI C hj cw_X10_119 (As := [.int a1, .int a2]) (rest := [.ref (q_ad E a0)]) hf (fun v9 h9 => c_X8_get l E h9) rfl hl rfl rfl rfl dX10_takes_30 ⟨Nat.zero_le _, Nat.zero_le _⟩ (fun v4 hf => ?_)
    refine q_cVWI C hj cw_X10_102 (As := [.int v4]) (rest := []) hf (fun v9 g9 h9 => c_X10_fine l E h9) rfl hl rfl rfl rfl dX10_takes_33 ⟨Nat.zero_le _, Nat.zero_le _⟩ (fun v6 g5 H locs hj hf => ?_)
    exact q_iretW C hj dX10_takes_36 hf
  · refine lv_aload_n hx hb dX10_takes_12 rfl (lv_at hl 1 rfl) ?_
    refine lv_iload_n hx hb dX10_takes_13 rfl (lv_at hl 0 rfl) ?_
    refine q_cVWI C hj cw_X10_77 (As := [.int v1]) (rest := []) hf (fun v9 g9 h9 => c_X10_refused l E h9) rfl hl rfl rfl rfl dX10_takes_14 ⟨Nat.zero_le _, Nat.zero_le _⟩ (fun v8 g7 H locs hj hf => ?_)
    refine lv_goto (tgt := 36) hx hb dX10_takes_17 (by decide) ?_
    exact q_iretW C hj dX10_takes_36 hf
def L_X10_meet_40  : Nat → Nat → Int32 → Int32 → Int32 → Int32 → qS → Option (Int32 × qS)
  | 0, _, _, _, _, _, _ => none
  | n + 1, x0, x1, x2, x3, x4, g => (g_R g x0 9 8).bind fun v1 => (f_X3_count g v1 0).bind fun v2 => if v2 ≤ x4 then (q_b2 (f_X10_fine g x0 x3) fun v4 g3 => some (v4, g3)) else ((g_R g x0 9 8).bind fun v5 => (g_R g v5 2 8).bind fun v6 => (f_X8_get g v6 x1 x4).bind fun v7 => if v7 < 0 then (L_X10_meet_40 n x0 x1 x2 x3 (x4 + 1) g) else ((g_R g x0 9 8).bind fun v8 => (g_R g v8 2 8).bind fun v9 => (f_X8_get g v9 x2 x4).bind fun v10 => if v7 = v10 then (L_X10_meet_40 n x0 x1 x2 (x3 ||| (1 <<< (x4 &&& 31))) (x4 + 1) g) else (L_X10_meet_40 n x0 x1 x2 x3 (x4 + 1) g)))
set_option maxHeartbeats 4000000 in
set_option maxRecDepth 100000 in
theorem w_L_X10_meet_40 {l : Launch} {E : qV} {p : Program} {e : Env} {s : State} {m : MethodId} {args : Array Value} {below : List Frame} {meth : Method} {c : Code}  {res : (Int32 × qS)} (C : q_C E p s m args meth c cX10_meet RX10 6 (some .int))  : ∀ {n : Nat} {x0 : Nat} {x1 : Int32} {x2 : Int32} {x3 : Int32} {x4 : Int32} {g : qS} {H : Heap} {locs : List Loc} {ls : Array Slot}, q_J E s g H locs → lv_has ls 6 [(0, .ref (q_ad E x0)), (1, .int x1), (2, .int x2), (3, .int x3), (4, .int x4)] → L_X10_meet_40 n x0 x1 x2 x3 x4 g = some res → W p l e (q_rm 3 66) s m args below meth c H locs 0 0 (q_ZW E below (some (.int res.1)) res.2 args s) (F0 m 40 ls []) := by
  have hx := C.1
  have hb := C.2.1
  intro n
  induction n with
  | zero =>
    intro x0 x1 x2 x3 x4 g H locs ls hj hl hf
    cases hf
  | succ n ih_ =>
    intro x0 x1 x2 x3 x4 g H locs ls hj hl hf
    have ih : ∀ (x0 : Nat) (x1 : Int32) (x2 : Int32) (x3 : Int32) (x4 : Int32) (g : qS) (H : Heap) (locs : List Loc) (ls : Array Slot), q_J E s g H locs → lv_has ls 6 [(0, .ref (q_ad E x0)), (1, .int x1), (2, .int x2), (3, .int x3), (4, .int x4)] → L_X10_meet_40 n x0 x1 x2 x3 x4 g = some res → W p l e (q_rm 3 66) s m args below meth c H locs 0 0 (q_ZW E below (some (.int res.1)) res.2 args s) (F0 m 40 ls []) := fun x0 x1 x2 x3 x4 g H locs ls hj hl hf => ih_ hj hl hf
    unfold L_X10_meet_40 at hf
    refine lv_iload hx hb dX10_meet_40 (lv_at hl 4 rfl) ?_
    refine lv_aload_n hx hb dX10_meet_42 rfl (lv_at hl 0 rfl) ?_
    refine q_getR C hj lk_X10_65 dX10_meet_43 hf (fun v1 hf => ?_)
    refine lv_iconst (v := 0) hx hb dX10_meet_46 qi_0 ?_
    refine q_cVRI C hj cw_X10_99 (As := [.int 0]) (rest := [.int x4]) hf (fun v9 h9 => c_X3_count l E h9) rfl hl rfl rfl rfl dX10_meet_47 ⟨Nat.zero_le _, Nat.zero_le _⟩ (fun v2 hf => ?_)
    refine q_icge C (tgt := 104) dX10_meet_50 (by decide) hf (fun hf => ?_) (fun hf => ?_)
    · refine lv_aload_n hx hb dX10_meet_104 rfl (lv_at hl 0 rfl) ?_
      refine lv_iload_n hx hb dX10_meet_105 rfl (lv_at hl 3 rfl) ?_
      refine q_cVWI C hj cw_X10_102 (As := [.int x3]) (rest := []) hf (fun v9 g9 h9 => c_X10_fine l E h9) rfl hl rfl rfl rfl dX10_meet_106 ⟨Nat.zero_le _, Nat.zero_le _⟩ (fun v4 g3 H locs hj hf => ?_)
      exact q_iretW C hj dX10_meet_109 hf
    · refine lv_aload_n hx hb dX10_meet_53 rfl (lv_at hl 0 rfl) ?_
      refine q_getR C hj lk_X10_65 dX10_meet_54 hf (fun v5 hf => ?_)
      refine q_getR C hj lk_X10_154 dX10_meet_57 hf (fun v6 hf => ?_)
      refine lv_iload_n hx hb dX10_meet_60 rfl (lv_at hl 1 rfl) ?_
      refine lv_iload hx hb dX10_meet_61 (lv_at hl 4 rfl) ?_
      refine q_cVRI C hj cw_X10_119 (As := [.int x1, .int x4]) (rest := []) hf (fun v9 h9 => c_X8_get l E h9) rfl hl rfl rfl rfl dX10_meet_63 ⟨Nat.zero_le _, Nat.zero_le _⟩ (fun v7 hf => ?_)
      refine lv_istore (lv' := [(5, .int v7), (0, .ref (q_ad E x0)), (1, .int x1), (2, .int x2), (3, .int x3), (4, .int x4)]) hx hb dX10_meet_66 hl (by decide) rfl (fun ls hl => ?_)
      refine lv_iload hx hb dX10_meet_68 (lv_at hl 0 rfl) ?_
      refine q_iflt C (tgt := 98) dX10_meet_70 (by decide) hf (fun hf => ?_) (fun hf => ?_)
      · refine lv_iinc (v := x4 + 1) (lv' := [(4, .int (x4 + 1)), (5, .int v7), (0, .ref (q_ad E x0)), (1, .int x1), (2, .int x2), (3, .int x3)]) hx hb dX10_meet_98 hl (k := 5) rfl (by rw [qi_1]) (by decide) rfl (fun ls hl => ?_)
        refine lv_goto (tgt := 40) hx hb dX10_meet_101 (by decide) ?_
        exact ih _ _ _ _ _ _ _ _ ls hj (lv_sub hl [2, 3, 4, 5, 0] rfl) hf
      · refine lv_iload hx hb dX10_meet_73 (lv_at hl 0 rfl) ?_
        refine lv_aload_n hx hb dX10_meet_75 rfl (lv_at hl 1 rfl) ?_
        refine q_getR C hj lk_X10_65 dX10_meet_76 hf (fun v8 hf => ?_)
        refine q_getR C hj lk_X10_154 dX10_meet_79 hf (fun v9 hf => ?_)
        refine lv_iload_n hx hb dX10_meet_82 rfl (lv_at hl 3 rfl) ?_
        refine lv_iload hx hb dX10_meet_83 (lv_at hl 5 rfl) ?_
        refine q_cVRI C hj cw_X10_119 (As := [.int x2, .int x4]) (rest := [.int v7]) hf (fun v9 h9 => c_X8_get l E h9) rfl hl rfl rfl rfl dX10_meet_85 ⟨Nat.zero_le _, Nat.zero_le _⟩ (fun v10 hf => ?_)
        refine q_icne C (tgt := 98) dX10_meet_88 (by decide) hf (fun hf => ?_) (fun hf => ?_)
        · refine lv_iinc (v := x4 + 1) (lv' := [(4, .int (x4 + 1)), (5, .int v7), (0, .ref (q_ad E x0)), (1, .int x1), (2, .int x2), (3, .int x3)]) hx hb dX10_meet_98 hl (k := 5) rfl (by rw [qi_1]) (by decide) rfl (fun ls hl => ?_)
          refine lv_goto (tgt := 40) hx hb dX10_meet_101 (by decide) ?_
          exact ih _ _ _ _ _ _ _ _ ls hj (lv_sub hl [2, 3, 4, 5, 0] rfl) hf
        · refine lv_iload_n hx hb dX10_meet_91 rfl (lv_at hl 4 rfl) ?_
          refine lv_iconst (v := 1) hx hb dX10_meet_92 qi_1 ?_
          refine lv_iload hx hb dX10_meet_93 (lv_at hl 5 rfl) ?_
          refine lv_ishl hx hb dX10_meet_95 ?_
          refine lv_ior hx hb dX10_meet_96 ?_
          refine lv_istore_n (lv' := [(3, .int (x3 ||| (1 <<< (x4 &&& 31)))), (5, .int v7), (0, .ref (q_ad E x0)), (1, .int x1), (2, .int x2), (4, .int x4)]) hx hb dX10_meet_97 rfl hl (by decide) rfl (fun ls hl => ?_)
          refine lv_iinc (v := x4 + 1) (lv' := [(4, .int (x4 + 1)), (3, .int (x3 ||| (1 <<< (x4 &&& 31)))), (5, .int v7), (0, .ref (q_ad E x0)), (1, .int x1), (2, .int x2)]) hx hb dX10_meet_98 hl (k := 5) rfl (by rw [qi_1]) (by decide) rfl (fun ls hl => ?_)
          refine lv_goto (tgt := 40) hx hb dX10_meet_101 (by decide) ?_
          exact ih _ _ _ _ _ _ _ _ ls hj (lv_sub hl [3, 4, 5, 1, 0] rfl) hf
def f_X10_meet (g : qS) (a0 : Nat) (a1 : Int32) (a2 : Int32) : Option (Int32 × qS) := (g_C g a0 9).bind fun _ => (g_R g a0 9 8).bind fun v1 => (f_X3_has g v1 5 a1).bind fun v2 => if v2 = 0 then (q_b2 (f_X10_refused g a0 1) fun v4 g3 => some (v4, g3)) else ((g_R g a0 9 8).bind fun v5 => (f_X3_has g v5 5 a2).bind fun v6 => if v6 = 0 then (q_b2 (f_X10_refused g a0 1) fun v8 g7 => some (v8, g7)) else (if a1 = a2 then (q_b2 (f_X10_refused g a0 1) fun v10 g9 => some (v10, g9)) else (L_X10_meet_40 1000000000 a0 a1 a2 0 0 g)))
set_option maxHeartbeats 4000000 in
set_option maxRecDepth 100000 in
theorem c_X10_meet (l : Launch) (E : qV) {g : qS} {a0 : Nat} {a1 : Int32} {a2 : Int32} {res : (Int32 × qS)} (hf : f_X10_meet g a0 a1 a2 = some res) : q_MW l yX10_meet cX10_meet 6 (some .int) 3 66 E [.ref (q_ad E a0), .int a1, .int a2] g (some (.int res.1)) res.2 ∧ ∃ fs, g a0 = some (.inr (9, fs)) := by
  unfold f_X10_meet at hf
  obtain ⟨u9, hu9, hf⟩ := q_ob hf
  refine ⟨q_ofW (by decide) rfl ?_, g_C_sp hu9⟩
  intro p e s m args below meth c ls C hj hl
  have hx := C.1
  have hb := C.2.1
  have C : q_C E p s m args meth c cX10_meet RX10 6 (some .int) := C
  have hl : lv_has ls 6 [(0, .ref (q_ad E a0)), (1, .int a1), (2, .int a2)] := hl
  refine lv_aload_n hx hb dX10_meet_0 rfl (lv_at hl 0 rfl) ?_
  refine q_getR C hj lk_X10_65 dX10_meet_1 hf (fun v1 hf => ?_)
  refine lv_iconst (v := 5) hx hb dX10_meet_4 qi_5 ?_
  refine lv_iload_n hx hb dX10_meet_5 rfl (lv_at hl 1 rfl) ?_
  refine q_cVRI C hj cw_X10_111 (As := [.int 5, .int a1]) (rest := []) hf (fun v9 h9 => c_X3_has l E h9) rfl hl rfl rfl rfl dX10_meet_6 ⟨Nat.zero_le _, Nat.zero_le _⟩ (fun v2 hf => ?_)
  refine q_ifeq C (tgt := 29) dX10_meet_9 (by decide) hf (fun hf => ?_) (fun hf => ?_)
  · refine lv_aload_n hx hb dX10_meet_29 rfl (lv_at hl 0 rfl) ?_
    refine lv_iconst (v := 1) hx hb dX10_meet_30 qi_1 ?_
    refine q_cVWI C hj cw_X10_77 (As := [.int 1]) (rest := []) hf (fun v9 g9 h9 => c_X10_refused l E h9) rfl hl rfl rfl rfl dX10_meet_31 ⟨Nat.zero_le _, Nat.zero_le _⟩ (fun v4 g3 H locs hj hf => ?_)
    exact q_iretW C hj dX10_meet_34 hf
  · refine lv_aload_n hx hb dX10_meet_12 rfl (lv_at hl 0 rfl) ?_
    refine q_getR C hj lk_X10_65 dX10_meet_13 hf (fun v5 hf => ?_)
    refine lv_iconst (v := 5) hx hb dX10_meet_16 qi_5 ?_
    refine lv_iload_n hx hb dX10_meet_17 rfl (lv_at hl 2 rfl) ?_
    refine q_cVRI C hj cw_X10_111 (As := [.int 5, .int a2]) (rest := []) hf (fun v9 h9 => c_X3_has l E h9) rfl hl rfl rfl rfl dX10_meet_18 ⟨Nat.zero_le _, Nat.zero_le _⟩ (fun v6 hf => ?_)
    refine q_ifeq C (tgt := 29) dX10_meet_21 (by decide) hf (fun hf => ?_) (fun hf => ?_)
    · refine lv_aload_n hx hb dX10_meet_29 rfl (lv_at hl 0 rfl) ?_
      refine lv_iconst (v := 1) hx hb dX10_meet_30 qi_1 ?_
      refine q_cVWI C hj cw_X10_77 (As := [.int 1]) (rest := []) hf (fun v9 g9 h9 => c_X10_refused l E h9) rfl hl rfl rfl rfl dX10_meet_31 ⟨Nat.zero_le _, Nat.zero_le _⟩ (fun v8 g7 H locs hj hf => ?_)
      exact q_iretW C hj dX10_meet_34 hf
    · refine lv_iload_n hx hb dX10_meet_24 rfl (lv_at hl 1 rfl) ?_
      refine lv_iload_n hx hb dX10_meet_25 rfl (lv_at hl 2 rfl) ?_
      refine q_icne C (tgt := 35) dX10_meet_26 (by decide) hf (fun hf => ?_) (fun hf => ?_)
      · refine lv_iconst (v := 0) hx hb dX10_meet_35 qi_0 ?_
        refine lv_istore_n (lv' := [(3, .int 0), (0, .ref (q_ad E a0)), (1, .int a1), (2, .int a2)]) hx hb dX10_meet_36 rfl hl (by decide) rfl (fun ls hl => ?_)
        refine lv_iconst (v := 0) hx hb dX10_meet_37 qi_0 ?_
        refine lv_istore (lv' := [(4, .int 0), (3, .int 0), (0, .ref (q_ad E a0)), (1, .int a1), (2, .int a2)]) hx hb dX10_meet_38 hl (by decide) rfl (fun ls hl => ?_)
        refine w_L_X10_meet_40 C  hj (lv_sub hl [2, 3, 4, 1, 0] rfl) hf
      · refine lv_aload_n hx hb dX10_meet_29 rfl (lv_at hl 0 rfl) ?_
        refine lv_iconst (v := 1) hx hb dX10_meet_30 qi_1 ?_
        refine q_cVWI C hj cw_X10_77 (As := [.int 1]) (rest := []) hf (fun v9 g9 h9 => c_X10_refused l E h9) rfl hl rfl rfl rfl dX10_meet_31 ⟨Nat.zero_le _, Nat.zero_le _⟩ (fun v10 g9 H locs hj hf => ?_)
        exact q_iretW C hj dX10_meet_34 hf
def f_X10_isGift (g : qS) (a0 : Nat) (a1 : Int32) (a2 : Int32) (a3 : Int32) : Option Int32 := (g_C g a0 9).bind fun _ => (g_R g a0 9 8).bind fun v1 => (f_X3_has g v1 5 a1).bind fun v2 => if v2 = 0 then (some 0) else ((g_R g a0 9 8).bind fun v3 => (f_X3_has g v3 2 a2).bind fun v4 => if v4 = 0 then (some 0) else ((g_R g a0 9 8).bind fun v5 => (f_X3_has g v5 3 a3).bind fun v6 => if v6 = 0 then (some 0) else (some 1)))
set_option maxHeartbeats 4000000 in
set_option maxRecDepth 100000 in
theorem c_X10_isGift (l : Launch) (E : qV) {g : qS} {a0 : Nat} {a1 : Int32} {a2 : Int32} {a3 : Int32} {res : Int32} (hf : f_X10_isGift g a0 a1 a2 a3 = some res) : q_MR l yX10_isGift cX10_isGift 4 (some .boolean) 3 66 E [.ref (q_ad E a0), .int a1, .int a2, .int a3] g (some (.int res)) ∧ ∃ fs, g a0 = some (.inr (9, fs)) := by
  unfold f_X10_isGift at hf
  obtain ⟨u9, hu9, hf⟩ := q_ob hf
  refine ⟨q_ofR (by decide) rfl ?_, g_C_sp hu9⟩
  intro p e s m args below meth c ls C hw hl
  have hj : q_J E s g s.heap [] := ⟨hw, va_S.rf⟩
  have hx := C.1
  have hb := C.2.1
  have C : q_C E p s m args meth c cX10_isGift RX10 4 (some .boolean) := C
  have hl : lv_has ls 4 [(0, .ref (q_ad E a0)), (1, .int a1), (2, .int a2), (3, .int a3)] := hl
  refine lv_aload_n hx hb dX10_isGift_0 rfl (lv_at hl 0 rfl) ?_
  refine q_getR C hj lk_X10_65 dX10_isGift_1 hf (fun v1 hf => ?_)
  refine lv_iconst (v := 5) hx hb dX10_isGift_4 qi_5 ?_
  refine lv_iload_n hx hb dX10_isGift_5 rfl (lv_at hl 1 rfl) ?_
  refine q_cVRI C hj cw_X10_111 (As := [.int 5, .int a1]) (rest := []) hf (fun v9 h9 => c_X3_has l E h9) rfl hl rfl rfl rfl dX10_isGift_6 ⟨Nat.zero_le _, Nat.zero_le _⟩ (fun v2 hf => ?_)
  refine q_ifeq C (tgt := 40) dX10_isGift_9 (by decide) hf (fun hf => ?_) (fun hf => ?_)
  · refine lv_iconst (v := 0) hx hb dX10_isGift_40 qi_0 ?_
    exact q_z0retR C dX10_isGift_41 hf
  · refine lv_aload_n hx hb dX10_isGift_12 rfl (lv_at hl 0 rfl) ?_
    refine q_getR C hj lk_X10_65 dX10_isGift_13 hf (fun v3 hf => ?_)
    refine lv_iconst (v := 2) hx hb dX10_isGift_16 qi_2 ?_
    refine lv_iload_n hx hb dX10_isGift_17 rfl (lv_at hl 2 rfl) ?_
    refine q_cVRI C hj cw_X10_111 (As := [.int 2, .int a2]) (rest := []) hf (fun v9 h9 => c_X3_has l E h9) rfl hl rfl rfl rfl dX10_isGift_18 ⟨Nat.zero_le _, Nat.zero_le _⟩ (fun v4 hf => ?_)
    refine q_ifeq C (tgt := 40) dX10_isGift_21 (by decide) hf (fun hf => ?_) (fun hf => ?_)
    · refine lv_iconst (v := 0) hx hb dX10_isGift_40 qi_0 ?_
      exact q_z0retR C dX10_isGift_41 hf
    · refine lv_aload_n hx hb dX10_isGift_24 rfl (lv_at hl 0 rfl) ?_
      refine q_getR C hj lk_X10_65 dX10_isGift_25 hf (fun v5 hf => ?_)
      refine lv_iconst (v := 3) hx hb dX10_isGift_28 qi_3 ?_
      refine lv_iload_n hx hb dX10_isGift_29 rfl (lv_at hl 3 rfl) ?_
      refine q_cVRI C hj cw_X10_111 (As := [.int 3, .int a3]) (rest := []) hf (fun v9 h9 => c_X3_has l E h9) rfl hl rfl rfl rfl dX10_isGift_30 ⟨Nat.zero_le _, Nat.zero_le _⟩ (fun v6 hf => ?_)
      refine q_ifeq C (tgt := 40) dX10_isGift_33 (by decide) hf (fun hf => ?_) (fun hf => ?_)
      · refine lv_iconst (v := 0) hx hb dX10_isGift_40 qi_0 ?_
        exact q_z0retR C dX10_isGift_41 hf
      · refine lv_iconst (v := 1) hx hb dX10_isGift_36 qi_1 ?_
        refine lv_goto (tgt := 41) hx hb dX10_isGift_37 (by decide) ?_
        exact q_z1retR C dX10_isGift_41 hf
def f_X10_near (g : qS) (a0 : Nat) (a1 : Int32) (a2 : Int32) (a3 : Int32) (a4 : Int32) : Option (Int32 × qS) := (g_C g a0 9).bind fun _ => (f_X10_isGift g a0 a1 a2 a3).bind fun v1 => if v1 = 0 then (q_b2 (f_X10_refused g a0 1) fun v3 g2 => some (v3, g2)) else ((g_R g a0 9 8).bind fun v4 => (f_X3_has g v4 4 a4).bind fun v5 => if v5 = 0 then (q_b2 (f_X10_refused g a0 1) fun v13 g12 => some (v13, g12)) else ((g_R g a0 9 8).bind fun v6 => (g_R g a0 9 1).bind fun v7 => (f_X7_howManyOf g v7 a3).bind fun v8 => (f_X3_nearness g v6 a1 a2 a3 a4 v8).bind fun v9 => q_b2 (f_X10_fine g a0 v9) fun v11 g10 => some (v11, g10)))
set_option maxHeartbeats 4000000 in
set_option maxRecDepth 100000 in
theorem c_X10_near (l : Launch) (E : qV) {g : qS} {a0 : Nat} {a1 : Int32} {a2 : Int32} {a3 : Int32} {a4 : Int32} {res : (Int32 × qS)} (hf : f_X10_near g a0 a1 a2 a3 a4 = some res) : q_MW l yX10_near cX10_near 5 (some .int) 4 89 E [.ref (q_ad E a0), .int a1, .int a2, .int a3, .int a4] g (some (.int res.1)) res.2 ∧ ∃ fs, g a0 = some (.inr (9, fs)) := by
  unfold f_X10_near at hf
  obtain ⟨u9, hu9, hf⟩ := q_ob hf
  refine ⟨q_ofW (by decide) rfl ?_, g_C_sp hu9⟩
  intro p e s m args below meth c ls C hj hl
  have hx := C.1
  have hb := C.2.1
  have C : q_C E p s m args meth c cX10_near RX10 5 (some .int) := C
  have hl : lv_has ls 5 [(0, .ref (q_ad E a0)), (1, .int a1), (2, .int a2), (3, .int a3), (4, .int a4)] := hl
  refine lv_aload_n hx hb dX10_near_0 rfl (lv_at hl 0 rfl) ?_
  refine lv_iload_n hx hb dX10_near_1 rfl (lv_at hl 1 rfl) ?_
  refine lv_iload_n hx hb dX10_near_2 rfl (lv_at hl 2 rfl) ?_
  refine lv_iload_n hx hb dX10_near_3 rfl (lv_at hl 3 rfl) ?_
  refine q_cVRI C hj cw_X10_157 (As := [.int a1, .int a2, .int a3]) (rest := []) hf (fun v9 h9 => c_X10_isGift l E h9) rfl hl rfl rfl rfl dX10_near_4 ⟨Nat.zero_le _, Nat.zero_le _⟩ (fun v1 hf => ?_)
  refine q_ifeq C (tgt := 23) dX10_near_7 (by decide) hf (fun hf => ?_) (fun hf => ?_)
  · refine lv_aload_n hx hb dX10_near_23 rfl (lv_at hl 0 rfl) ?_
    refine lv_iconst (v := 1) hx hb dX10_near_24 qi_1 ?_
    refine q_cVWI C hj cw_X10_77 (As := [.int 1]) (rest := []) hf (fun v9 g9 h9 => c_X10_refused l E h9) rfl hl rfl rfl rfl dX10_near_25 ⟨Nat.zero_le _, Nat.zero_le _⟩ (fun v3 g2 H locs hj hf => ?_)
    exact q_iretW C hj dX10_near_28 hf
  · refine lv_aload_n hx hb dX10_near_10 rfl (lv_at hl 0 rfl) ?_
    refine q_getR C hj lk_X10_65 dX10_near_11 hf (fun v4 hf => ?_)
    refine lv_iconst (v := 4) hx hb dX10_near_14 qi_4 ?_
    refine lv_iload hx hb dX10_near_15 (lv_at hl 4 rfl) ?_
    refine q_cVRI C hj cw_X10_111 (As := [.int 4, .int a4]) (rest := []) hf (fun v9 h9 => c_X3_has l E h9) rfl hl rfl rfl rfl dX10_near_17 ⟨Nat.zero_le _, Nat.zero_le _⟩ (fun v5 hf => ?_)
    refine q_ifne C (tgt := 29) dX10_near_20 (by decide) hf (fun hf => ?_) (fun hf => ?_)
    · refine lv_aload_n hx hb dX10_near_29 rfl (lv_at hl 0 rfl) ?_
      refine lv_aload_n hx hb dX10_near_30 rfl (lv_at hl 0 rfl) ?_
      refine q_getR C hj lk_X10_65 dX10_near_31 hf (fun v6 hf => ?_)
      refine lv_iload_n hx hb dX10_near_34 rfl (lv_at hl 1 rfl) ?_
      refine lv_iload_n hx hb dX10_near_35 rfl (lv_at hl 2 rfl) ?_
      refine lv_iload_n hx hb dX10_near_36 rfl (lv_at hl 3 rfl) ?_
      refine lv_iload hx hb dX10_near_37 (lv_at hl 4 rfl) ?_
      refine lv_aload_n hx hb dX10_near_39 rfl (lv_at hl 0 rfl) ?_
      refine q_getR C hj lk_X10_19 dX10_near_40 hf (fun v7 hf => ?_)
      refine lv_iload_n hx hb dX10_near_43 rfl (lv_at hl 3 rfl) ?_
      refine q_cVRI C hj cw_X10_161 (As := [.int a3]) (rest := [.int a4, .int a3, .int a2, .int a1, .ref (q_ad E v6), .ref (q_ad E a0)]) hf (fun v9 h9 => c_X7_howManyOf l E h9) rfl hl rfl rfl rfl dX10_near_44 ⟨Nat.zero_le _, Nat.zero_le _⟩ (fun v8 hf => ?_)
      refine q_cVRI C hj cw_X10_164 (As := [.int a1, .int a2, .int a3, .int a4, .int v8]) (rest := [.ref (q_ad E a0)]) hf (fun v9 h9 => c_X3_nearness l E h9) rfl hl rfl rfl rfl dX10_near_47 ⟨Nat.zero_le _, Nat.zero_le _⟩ (fun v9 hf => ?_)
      refine q_cVWI C hj cw_X10_102 (As := [.int v9]) (rest := []) hf (fun v9 g9 h9 => c_X10_fine l E h9) rfl hl rfl rfl rfl dX10_near_50 ⟨Nat.zero_le _, Nat.zero_le _⟩ (fun v11 g10 H locs hj hf => ?_)
      exact q_iretW C hj dX10_near_53 hf
    · refine lv_aload_n hx hb dX10_near_23 rfl (lv_at hl 0 rfl) ?_
      refine lv_iconst (v := 1) hx hb dX10_near_24 qi_1 ?_
      refine q_cVWI C hj cw_X10_77 (As := [.int 1]) (rest := []) hf (fun v9 g9 h9 => c_X10_refused l E h9) rfl hl rfl rfl rfl dX10_near_25 ⟨Nat.zero_le _, Nat.zero_le _⟩ (fun v13 g12 H locs hj hf => ?_)
      exact q_iretW C hj dX10_near_28 hf
def f_X10_would (g : qS) (a0 : Nat) (a1 : Int32) (a2 : Int32) (a3 : Int32) : Option (Int32 × qS) := (g_C g a0 9).bind fun _ => (f_X10_isGift g a0 a1 a2 a3).bind fun v1 => if v1 = 0 then (q_b2 (f_X10_refused g a0 1) fun v10 g9 => some (v10, g9)) else ((g_R g a0 9 1).bind fun v2 => (g_R g a0 9 8).bind fun v3 => (g_R g a0 9 1).bind fun v4 => (f_X7_today g v4).bind fun v5 => (f_X7_outcome g v2 v3 v5 a1 a2 a3).bind fun v6 => q_b2 (f_X10_fine g a0 v6) fun v8 g7 => some (v8, g7))
set_option maxHeartbeats 4000000 in
set_option maxRecDepth 100000 in
theorem c_X10_would (l : Launch) (E : qV) {g : qS} {a0 : Nat} {a1 : Int32} {a2 : Int32} {a3 : Int32} {res : (Int32 × qS)} (hf : f_X10_would g a0 a1 a2 a3 = some res) : q_MW l yX10_would cX10_would 4 (some .int) 5 118 E [.ref (q_ad E a0), .int a1, .int a2, .int a3] g (some (.int res.1)) res.2 ∧ ∃ fs, g a0 = some (.inr (9, fs)) := by
  unfold f_X10_would at hf
  obtain ⟨u9, hu9, hf⟩ := q_ob hf
  refine ⟨q_ofW (by decide) rfl ?_, g_C_sp hu9⟩
  intro p e s m args below meth c ls C hj hl
  have hx := C.1
  have hb := C.2.1
  have C : q_C E p s m args meth c cX10_would RX10 4 (some .int) := C
  have hl : lv_has ls 4 [(0, .ref (q_ad E a0)), (1, .int a1), (2, .int a2), (3, .int a3)] := hl
  refine lv_aload_n hx hb dX10_would_0 rfl (lv_at hl 0 rfl) ?_
  refine lv_iload_n hx hb dX10_would_1 rfl (lv_at hl 1 rfl) ?_
  refine lv_iload_n hx hb dX10_would_2 rfl (lv_at hl 2 rfl) ?_
  refine lv_iload_n hx hb dX10_would_3 rfl (lv_at hl 3 rfl) ?_
  refine q_cVRI C hj cw_X10_157 (As := [.int a1, .int a2, .int a3]) (rest := []) hf (fun v9 h9 => c_X10_isGift l E h9) rfl hl rfl rfl rfl dX10_would_4 ⟨Nat.zero_le _, Nat.zero_le _⟩ (fun v1 hf => ?_)
  refine q_ifne C (tgt := 16) dX10_would_7 (by decide) hf (fun hf => ?_) (fun hf => ?_)
  · refine lv_aload_n hx hb dX10_would_16 rfl (lv_at hl 0 rfl) ?_
    refine lv_aload_n hx hb dX10_would_17 rfl (lv_at hl 0 rfl) ?_
    refine q_getR C hj lk_X10_19 dX10_would_18 hf (fun v2 hf => ?_)
    refine lv_aload_n hx hb dX10_would_21 rfl (lv_at hl 0 rfl) ?_
    refine q_getR C hj lk_X10_65 dX10_would_22 hf (fun v3 hf => ?_)
    refine lv_aload_n hx hb dX10_would_25 rfl (lv_at hl 0 rfl) ?_
    refine q_getR C hj lk_X10_19 dX10_would_26 hf (fun v4 hf => ?_)
    refine q_cVRI C hj cw_X10_168 (As := []) (rest := [.ref (q_ad E v3), .ref (q_ad E v2), .ref (q_ad E a0)]) hf (fun v9 h9 => c_X7_today l E h9) rfl hl rfl rfl rfl dX10_would_29 ⟨Nat.zero_le _, Nat.zero_le _⟩ (fun v5 hf => ?_)
    refine lv_iload_n hx hb dX10_would_32 rfl (lv_at hl 1 rfl) ?_
    refine lv_iload_n hx hb dX10_would_33 rfl (lv_at hl 2 rfl) ?_
    refine lv_iload_n hx hb dX10_would_34 rfl (lv_at hl 3 rfl) ?_
    refine q_cVRI C hj cw_X10_171 (As := [.ref (q_ad E v3), .int v5, .int a1, .int a2, .int a3]) (rest := [.ref (q_ad E a0)]) hf (fun v9 h9 => c_X7_outcome l E h9) rfl hl rfl rfl rfl dX10_would_35 ⟨Nat.zero_le _, Nat.zero_le _⟩ (fun v6 hf => ?_)
    refine q_cVWI C hj cw_X10_102 (As := [.int v6]) (rest := []) hf (fun v9 g9 h9 => c_X10_fine l E h9) rfl hl rfl rfl rfl dX10_would_38 ⟨Nat.zero_le _, Nat.zero_le _⟩ (fun v8 g7 H locs hj hf => ?_)
    exact q_iretW C hj dX10_would_41 hf
  · refine lv_aload_n hx hb dX10_would_10 rfl (lv_at hl 0 rfl) ?_
    refine lv_iconst (v := 1) hx hb dX10_would_11 qi_1 ?_
    refine q_cVWI C hj cw_X10_77 (As := [.int 1]) (rest := []) hf (fun v9 g9 h9 => c_X10_refused l E h9) rfl hl rfl rfl rfl dX10_would_12 ⟨Nat.zero_le _, Nat.zero_le _⟩ (fun v10 g9 H locs hj hf => ?_)
    exact q_iretW C hj dX10_would_15 hf
def L_X10_riders_24  : Nat → Nat → Int32 → Int32 → Int32 → Int32 → qS → Option (Int32 × qS)
  | 0, _, _, _, _, _, _ => none
  | n + 1, x0, x1, x2, x4, x5, g => (g_R g x0 9 8).bind fun v1 => (f_X3_count g v1 3).bind fun v2 => if v2 ≤ x5 then (q_b2 (f_X10_fine g x0 x4) fun v4 g3 => some (v4, g3)) else ((g_R g x0 9 8).bind fun v5 => (g_R g v5 2 7).bind fun v6 => (f_X8_get g v6 x5 x2).bind fun v7 => if v7 = x1 then (L_X10_riders_24 n x0 x1 x2 (x4 ||| (1 <<< (x5 &&& 31))) (x5 + 1) g) else (L_X10_riders_24 n x0 x1 x2 x4 (x5 + 1) g))
set_option maxHeartbeats 4000000 in
set_option maxRecDepth 100000 in
theorem w_L_X10_riders_24 {l : Launch} {E : qV} {p : Program} {e : Env} {s : State} {m : MethodId} {args : Array Value} {below : List Frame} {meth : Method} {c : Code}  {res : (Int32 × qS)} (C : q_C E p s m args meth c cX10_riders RX10 6 (some .int))  : ∀ {n : Nat} {x0 : Nat} {x1 : Int32} {x2 : Int32} {x4 : Int32} {x5 : Int32} {g : qS} {H : Heap} {locs : List Loc} {ls : Array Slot}, q_J E s g H locs → lv_has ls 6 [(0, .ref (q_ad E x0)), (1, .int x1), (2, .int x2), (4, .int x4), (5, .int x5)] → L_X10_riders_24 n x0 x1 x2 x4 x5 g = some res → W p l e (q_rm 4 89) s m args below meth c H locs 0 0 (q_ZW E below (some (.int res.1)) res.2 args s) (F0 m 24 ls []) := by
  have hx := C.1
  have hb := C.2.1
  intro n
  induction n with
  | zero =>
    intro x0 x1 x2 x4 x5 g H locs ls hj hl hf
    cases hf
  | succ n ih_ =>
    intro x0 x1 x2 x4 x5 g H locs ls hj hl hf
    have ih : ∀ (x0 : Nat) (x1 : Int32) (x2 : Int32) (x4 : Int32) (x5 : Int32) (g : qS) (H : Heap) (locs : List Loc) (ls : Array Slot), q_J E s g H locs → lv_has ls 6 [(0, .ref (q_ad E x0)), (1, .int x1), (2, .int x2), (4, .int x4), (5, .int x5)] → L_X10_riders_24 n x0 x1 x2 x4 x5 g = some res → W p l e (q_rm 4 89) s m args below meth c H locs 0 0 (q_ZW E below (some (.int res.1)) res.2 args s) (F0 m 24 ls []) := fun x0 x1 x2 x4 x5 g H locs ls hj hl hf => ih_ hj hl hf
    unfold L_X10_riders_24 at hf
    refine lv_iload hx hb dX10_riders_24 (lv_at hl 4 rfl) ?_
    refine lv_aload_n hx hb dX10_riders_26 rfl (lv_at hl 0 rfl) ?_
    refine q_getR C hj lk_X10_65 dX10_riders_27 hf (fun v1 hf => ?_)
    refine lv_iconst (v := 3) hx hb dX10_riders_30 qi_3 ?_
    refine q_cVRI C hj cw_X10_99 (As := [.int 3]) (rest := [.int x5]) hf (fun v9 h9 => c_X3_count l E h9) rfl hl rfl rfl rfl dX10_riders_31 ⟨Nat.zero_le _, Nat.zero_le _⟩ (fun v2 hf => ?_)
    refine q_icge C (tgt := 69) dX10_riders_34 (by decide) hf (fun hf => ?_) (fun hf => ?_)
    · refine lv_aload_n hx hb dX10_riders_69 rfl (lv_at hl 0 rfl) ?_
      refine lv_iload hx hb dX10_riders_70 (lv_at hl 3 rfl) ?_
      refine q_cVWI C hj cw_X10_102 (As := [.int x4]) (rest := []) hf (fun v9 g9 h9 => c_X10_fine l E h9) rfl hl rfl rfl rfl dX10_riders_72 ⟨Nat.zero_le _, Nat.zero_le _⟩ (fun v4 g3 H locs hj hf => ?_)
      exact q_iretW C hj dX10_riders_75 hf
    · refine lv_aload_n hx hb dX10_riders_37 rfl (lv_at hl 0 rfl) ?_
      refine q_getR C hj lk_X10_65 dX10_riders_38 hf (fun v5 hf => ?_)
      refine q_getR C hj lk_X10_151 dX10_riders_41 hf (fun v6 hf => ?_)
      refine lv_iload hx hb dX10_riders_44 (lv_at hl 4 rfl) ?_
      refine lv_iload_n hx hb dX10_riders_46 rfl (lv_at hl 2 rfl) ?_
      refine q_cVRI C hj cw_X10_119 (As := [.int x5, .int x2]) (rest := []) hf (fun v9 h9 => c_X8_get l E h9) rfl hl rfl rfl rfl dX10_riders_47 ⟨Nat.zero_le _, Nat.zero_le _⟩ (fun v7 hf => ?_)
      refine lv_iload_n hx hb dX10_riders_50 rfl (lv_at hl 1 rfl) ?_
      refine q_icne C (tgt := 63) dX10_riders_51 (by decide) hf (fun hf => ?_) (fun hf => ?_)
      · refine lv_iinc (v := x5 + 1) (lv' := [(5, .int (x5 + 1)), (0, .ref (q_ad E x0)), (1, .int x1), (2, .int x2), (4, .int x4)]) hx hb dX10_riders_63 hl (k := 4) rfl (by rw [qi_1]) (by decide) rfl (fun ls hl => ?_)
        refine lv_goto (tgt := 24) hx hb dX10_riders_66 (by decide) ?_
        exact ih _ _ _ _ _ _ _ _ ls hj (lv_sub hl [1, 2, 3, 4, 0] rfl) hf
      · refine lv_iload hx hb dX10_riders_54 (lv_at hl 3 rfl) ?_
        refine lv_iconst (v := 1) hx hb dX10_riders_56 qi_1 ?_
        refine lv_iload hx hb dX10_riders_57 (lv_at hl 4 rfl) ?_
        refine lv_ishl hx hb dX10_riders_59 ?_
        refine lv_ior hx hb dX10_riders_60 ?_
        refine lv_istore (lv' := [(4, .int (x4 ||| (1 <<< (x5 &&& 31)))), (0, .ref (q_ad E x0)), (1, .int x1), (2, .int x2), (5, .int x5)]) hx hb dX10_riders_61 hl (by decide) rfl (fun ls hl => ?_)
        refine lv_iinc (v := x5 + 1) (lv' := [(5, .int (x5 + 1)), (4, .int (x4 ||| (1 <<< (x5 &&& 31)))), (0, .ref (q_ad E x0)), (1, .int x1), (2, .int x2)]) hx hb dX10_riders_63 hl (k := 4) rfl (by rw [qi_1]) (by decide) rfl (fun ls hl => ?_)
        refine lv_goto (tgt := 24) hx hb dX10_riders_66 (by decide) ?_
        exact ih _ _ _ _ _ _ _ _ ls hj (lv_sub hl [2, 3, 4, 1, 0] rfl) hf
def f_X10_riders (g : qS) (a0 : Nat) (a1 : Int32) (a2 : Int32) : Option (Int32 × qS) := (g_C g a0 9).bind fun _ => (f_X10_whyNot g a0 4 a1 a2).bind fun v1 => if v1 = 0 then (L_X10_riders_24 1000000000 a0 a1 a2 0 0 g) else (q_b2 (f_X10_refused g a0 v1) fun v3 g2 => some (v3, g2))
set_option maxHeartbeats 4000000 in
set_option maxRecDepth 100000 in
theorem c_X10_riders (l : Launch) (E : qV) {g : qS} {a0 : Nat} {a1 : Int32} {a2 : Int32} {res : (Int32 × qS)} (hf : f_X10_riders g a0 a1 a2 = some res) : q_MW l yX10_riders cX10_riders 6 (some .int) 4 89 E [.ref (q_ad E a0), .int a1, .int a2] g (some (.int res.1)) res.2 ∧ ∃ fs, g a0 = some (.inr (9, fs)) := by
  unfold f_X10_riders at hf
  obtain ⟨u9, hu9, hf⟩ := q_ob hf
  refine ⟨q_ofW (by decide) rfl ?_, g_C_sp hu9⟩
  intro p e s m args below meth c ls C hj hl
  have hx := C.1
  have hb := C.2.1
  have C : q_C E p s m args meth c cX10_riders RX10 6 (some .int) := C
  have hl : lv_has ls 6 [(0, .ref (q_ad E a0)), (1, .int a1), (2, .int a2)] := hl
  refine lv_aload_n hx hb dX10_riders_0 rfl (lv_at hl 0 rfl) ?_
  refine lv_iconst (v := 4) hx hb dX10_riders_1 qi_4 ?_
  refine lv_iload_n hx hb dX10_riders_2 rfl (lv_at hl 1 rfl) ?_
  refine lv_iload_n hx hb dX10_riders_3 rfl (lv_at hl 2 rfl) ?_
  refine q_cVRI C hj cw_X10_147 (As := [.int 4, .int a1, .int a2]) (rest := []) hf (fun v9 h9 => c_X10_whyNot l E h9) rfl hl rfl rfl rfl dX10_riders_4 ⟨Nat.zero_le _, Nat.zero_le _⟩ (fun v1 hf => ?_)
  refine lv_istore_n (lv' := [(3, .int v1), (0, .ref (q_ad E a0)), (1, .int a1), (2, .int a2)]) hx hb dX10_riders_7 rfl hl (by decide) rfl (fun ls hl => ?_)
  refine lv_iload_n hx hb dX10_riders_8 rfl (lv_at hl 0 rfl) ?_
  refine q_ifeq C (tgt := 18) dX10_riders_9 (by decide) hf (fun hf => ?_) (fun hf => ?_)
  · refine lv_iconst (v := 0) hx hb dX10_riders_18 qi_0 ?_
    refine lv_istore (lv' := [(4, .int 0), (3, .int v1), (0, .ref (q_ad E a0)), (1, .int a1), (2, .int a2)]) hx hb dX10_riders_19 hl (by decide) rfl (fun ls hl => ?_)
    refine lv_iconst (v := 0) hx hb dX10_riders_21 qi_0 ?_
    refine lv_istore (lv' := [(5, .int 0), (4, .int 0), (3, .int v1), (0, .ref (q_ad E a0)), (1, .int a1), (2, .int a2)]) hx hb dX10_riders_22 hl (by decide) rfl (fun ls hl => ?_)
    refine w_L_X10_riders_24 C  hj (lv_sub hl [3, 4, 5, 1, 0] rfl) hf
  · refine lv_aload_n hx hb dX10_riders_12 rfl (lv_at hl 1 rfl) ?_
    refine lv_iload_n hx hb dX10_riders_13 rfl (lv_at hl 0 rfl) ?_
    refine q_cVWI C hj cw_X10_77 (As := [.int v1]) (rest := []) hf (fun v9 g9 h9 => c_X10_refused l E h9) rfl hl rfl rfl rfl dX10_riders_14 ⟨Nat.zero_le _, Nat.zero_le _⟩ (fun v3 g2 H locs hj hf => ?_)
    exact q_iretW C hj dX10_riders_17 hf
def f_X10_spare (g : qS) (a0 : Nat) (a1 : Int32) : Option (Int32 × qS) := (g_C g a0 9).bind fun _ => (g_R g a0 9 8).bind fun v1 => (f_X3_has g v1 3 a1).bind fun v2 => if v2 = 0 then (q_b2 (f_X10_refused g a0 1) fun v11 g10 => some (v11, g10)) else ((g_R g a0 9 1).bind fun v3 => (g_R g a0 9 8).bind fun v4 => (f_X7_roomOf g v3 v4 a1).bind fun v5 => (g_R g a0 9 1).bind fun v6 => (f_X7_howManyOf g v6 a1).bind fun v7 => q_b2 (f_X10_fine g a0 (q_mx 0 (v5 - v7))) fun v9 g8 => some (v9, g8))
set_option maxHeartbeats 4000000 in
set_option maxRecDepth 100000 in
theorem c_X10_spare (l : Launch) (E : qV) {g : qS} {a0 : Nat} {a1 : Int32} {res : (Int32 × qS)} (hf : f_X10_spare g a0 a1 = some res) : q_MW l yX10_spare cX10_spare 2 (some .int) 3 67 E [.ref (q_ad E a0), .int a1] g (some (.int res.1)) res.2 ∧ ∃ fs, g a0 = some (.inr (9, fs)) := by
  unfold f_X10_spare at hf
  obtain ⟨u9, hu9, hf⟩ := q_ob hf
  refine ⟨q_ofW (by decide) rfl ?_, g_C_sp hu9⟩
  intro p e s m args below meth c ls C hj hl
  have hx := C.1
  have hb := C.2.1
  have C : q_C E p s m args meth c cX10_spare RX10 2 (some .int) := C
  have hl : lv_has ls 2 [(0, .ref (q_ad E a0)), (1, .int a1)] := hl
  refine lv_aload_n hx hb dX10_spare_0 rfl (lv_at hl 0 rfl) ?_
  refine q_getR C hj lk_X10_65 dX10_spare_1 hf (fun v1 hf => ?_)
  refine lv_iconst (v := 3) hx hb dX10_spare_4 qi_3 ?_
  refine lv_iload_n hx hb dX10_spare_5 rfl (lv_at hl 1 rfl) ?_
  refine q_cVRI C hj cw_X10_111 (As := [.int 3, .int a1]) (rest := []) hf (fun v9 h9 => c_X3_has l E h9) rfl hl rfl rfl rfl dX10_spare_6 ⟨Nat.zero_le _, Nat.zero_le _⟩ (fun v2 hf => ?_)
  refine q_ifne C (tgt := 18) dX10_spare_9 (by decide) hf (fun hf => ?_) (fun hf => ?_)
  · refine lv_aload_n hx hb dX10_spare_18 rfl (lv_at hl 0 rfl) ?_
    refine lv_iconst (v := 0) hx hb dX10_spare_19 qi_0 ?_
    refine lv_aload_n hx hb dX10_spare_20 rfl (lv_at hl 0 rfl) ?_
    refine q_getR C hj lk_X10_19 dX10_spare_21 hf (fun v3 hf => ?_)
    refine lv_aload_n hx hb dX10_spare_24 rfl (lv_at hl 0 rfl) ?_
    refine q_getR C hj lk_X10_65 dX10_spare_25 hf (fun v4 hf => ?_)
    refine lv_iload_n hx hb dX10_spare_28 rfl (lv_at hl 1 rfl) ?_
    refine q_cVRI C hj cw_X10_131 (As := [.ref (q_ad E v4), .int a1]) (rest := [.int 0, .ref (q_ad E a0)]) hf (fun v9 h9 => c_X7_roomOf l E h9) rfl hl rfl rfl rfl dX10_spare_29 ⟨Nat.zero_le _, Nat.zero_le _⟩ (fun v5 hf => ?_)
    refine lv_aload_n hx hb dX10_spare_32 rfl (lv_at hl 0 rfl) ?_
    refine q_getR C hj lk_X10_19 dX10_spare_33 hf (fun v6 hf => ?_)
    refine lv_iload_n hx hb dX10_spare_36 rfl (lv_at hl 1 rfl) ?_
    refine q_cVRI C hj cw_X10_161 (As := [.int a1]) (rest := [.int v5, .int 0, .ref (q_ad E a0)]) hf (fun v9 h9 => c_X7_howManyOf l E h9) rfl hl rfl rfl rfl dX10_spare_37 ⟨Nat.zero_le _, Nat.zero_le _⟩ (fun v7 hf => ?_)
    refine lv_isub hx hb dX10_spare_40 ?_
    refine q_max C (q_ml_X10_175) rfl hl dX10_spare_41 ?_
    refine q_cVWI C hj cw_X10_102 (As := [.int (q_mx 0 (v5 - v7))]) (rest := []) hf (fun v9 g9 h9 => c_X10_fine l E h9) rfl hl rfl rfl rfl dX10_spare_44 ⟨Nat.zero_le _, Nat.zero_le _⟩ (fun v9 g8 H locs hj hf => ?_)
    exact q_iretW C hj dX10_spare_47 hf
  · refine lv_aload_n hx hb dX10_spare_12 rfl (lv_at hl 0 rfl) ?_
    refine lv_iconst (v := 1) hx hb dX10_spare_13 qi_1 ?_
    refine q_cVWI C hj cw_X10_77 (As := [.int 1]) (rest := []) hf (fun v9 g9 h9 => c_X10_refused l E h9) rfl hl rfl rfl rfl dX10_spare_14 ⟨Nat.zero_le _, Nat.zero_le _⟩ (fun v11 g10 H locs hj hf => ?_)
    exact q_iretW C hj dX10_spare_17 hf
def f_X10_safest (g : qS) (a0 : Nat) (a1 : Int32) : Option (Int32 × qS) := (g_C g a0 9).bind fun _ => (g_R g a0 9 8).bind fun v1 => (f_X3_has g v1 2 a1).bind fun v2 => if v2 = 0 then (q_b2 (f_X10_refused g a0 1) fun v4 g3 => some (v4, g3)) else ((g_R g a0 9 8).bind fun v5 => (f_X3_safestGift g v5 a1).bind fun v6 => q_b2 (f_X10_fine g a0 v6) fun v8 g7 => some (v8, g7))
set_option maxHeartbeats 4000000 in
set_option maxRecDepth 100000 in
theorem c_X10_safest (l : Launch) (E : qV) {g : qS} {a0 : Nat} {a1 : Int32} {res : (Int32 × qS)} (hf : f_X10_safest g a0 a1 = some res) : q_MW l yX10_safest cX10_safest 2 (some .int) 3 80 E [.ref (q_ad E a0), .int a1] g (some (.int res.1)) res.2 ∧ ∃ fs, g a0 = some (.inr (9, fs)) := by
  unfold f_X10_safest at hf
  obtain ⟨u9, hu9, hf⟩ := q_ob hf
  refine ⟨q_ofW (by decide) rfl ?_, g_C_sp hu9⟩
  intro p e s m args below meth c ls C hj hl
  have hx := C.1
  have hb := C.2.1
  have C : q_C E p s m args meth c cX10_safest RX10 2 (some .int) := C
  have hl : lv_has ls 2 [(0, .ref (q_ad E a0)), (1, .int a1)] := hl
  refine lv_aload_n hx hb dX10_safest_0 rfl (lv_at hl 0 rfl) ?_
  refine q_getR C hj lk_X10_65 dX10_safest_1 hf (fun v1 hf => ?_)
  refine lv_iconst (v := 2) hx hb dX10_safest_4 qi_2 ?_
  refine lv_iload_n hx hb dX10_safest_5 rfl (lv_at hl 1 rfl) ?_
  refine q_cVRI C hj cw_X10_111 (As := [.int 2, .int a1]) (rest := []) hf (fun v9 h9 => c_X3_has l E h9) rfl hl rfl rfl rfl dX10_safest_6 ⟨Nat.zero_le _, Nat.zero_le _⟩ (fun v2 hf => ?_)
  refine q_ifeq C (tgt := 27) dX10_safest_9 (by decide) hf (fun hf => ?_) (fun hf => ?_)
  · refine lv_aload_n hx hb dX10_safest_27 rfl (lv_at hl 0 rfl) ?_
    refine lv_iconst (v := 1) hx hb dX10_safest_28 qi_1 ?_
    refine q_cVWI C hj cw_X10_77 (As := [.int 1]) (rest := []) hf (fun v9 g9 h9 => c_X10_refused l E h9) rfl hl rfl rfl rfl dX10_safest_29 ⟨Nat.zero_le _, Nat.zero_le _⟩ (fun v4 g3 H locs hj hf => ?_)
    exact q_iretW C hj dX10_safest_32 hf
  · refine lv_aload_n hx hb dX10_safest_12 rfl (lv_at hl 0 rfl) ?_
    refine lv_aload_n hx hb dX10_safest_13 rfl (lv_at hl 0 rfl) ?_
    refine q_getR C hj lk_X10_65 dX10_safest_14 hf (fun v5 hf => ?_)
    refine lv_iload_n hx hb dX10_safest_17 rfl (lv_at hl 1 rfl) ?_
    refine q_cVRI C hj cw_X10_180 (As := [.int a1]) (rest := [.ref (q_ad E a0)]) hf (fun v9 h9 => c_X3_safestGift l E h9) rfl hl rfl rfl rfl dX10_safest_18 ⟨Nat.zero_le _, Nat.zero_le _⟩ (fun v6 hf => ?_)
    refine q_cVWI C hj cw_X10_102 (As := [.int v6]) (rest := []) hf (fun v9 g9 h9 => c_X10_fine l E h9) rfl hl rfl rfl rfl dX10_safest_21 ⟨Nat.zero_le _, Nat.zero_le _⟩ (fun v8 g7 H locs hj hf => ?_)
    refine lv_goto (tgt := 32) hx hb dX10_safest_24 (by decide) ?_
    exact q_iretW C hj dX10_safest_32 hf
def f_X10_planned (g : qS) (a0 : Nat) (a1 : Int32) : Option (Int32 × qS) := (g_C g a0 9).bind fun _ => (g_R g a0 9 8).bind fun v1 => (f_X3_has g v1 7 a1).bind fun v2 => if v2 = 0 then (q_b2 (f_X10_refused g a0 1) fun v11 g10 => some (v11, g10)) else ((g_R g a0 9 3).bind fun v3 => (g_R g a0 9 8).bind fun v4 => (f_X5_runAll g v3 v4).bind fun g5 => (g_R g5 a0 9 3).bind fun v6 => (f_X5_outcomeOf g5 v6 a1).bind fun v7 => q_b2 (f_X10_fine g5 a0 v7) fun v9 g8 => some (v9, g8))
set_option maxHeartbeats 4000000 in
set_option maxRecDepth 100000 in
theorem c_X10_planned (l : Launch) (E : qV) {g : qS} {a0 : Nat} {a1 : Int32} {res : (Int32 × qS)} (hf : f_X10_planned g a0 a1 = some res) : q_MW l yX10_planned cX10_planned 2 (some .int) 7 164 E [.ref (q_ad E a0), .int a1] g (some (.int res.1)) res.2 ∧ ∃ fs, g a0 = some (.inr (9, fs)) := by
  unfold f_X10_planned at hf
  obtain ⟨u9, hu9, hf⟩ := q_ob hf
  refine ⟨q_ofW (by decide) rfl ?_, g_C_sp hu9⟩
  intro p e s m args below meth c ls C hj hl
  have hx := C.1
  have hb := C.2.1
  have C : q_C E p s m args meth c cX10_planned RX10 2 (some .int) := C
  have hl : lv_has ls 2 [(0, .ref (q_ad E a0)), (1, .int a1)] := hl
  refine lv_aload_n hx hb dX10_planned_0 rfl (lv_at hl 0 rfl) ?_
  refine q_getR C hj lk_X10_65 dX10_planned_1 hf (fun v1 hf => ?_)
  refine lv_bipush (v := 7) hx hb dX10_planned_4 (by decide) ?_
  refine lv_iload_n hx hb dX10_planned_6 rfl (lv_at hl 1 rfl) ?_
  refine q_cVRI C hj cw_X10_111 (As := [.int 7, .int a1]) (rest := []) hf (fun v9 h9 => c_X3_has l E h9) rfl hl rfl rfl rfl dX10_planned_7 ⟨Nat.zero_le _, Nat.zero_le _⟩ (fun v2 hf => ?_)
  refine q_ifne C (tgt := 19) dX10_planned_10 (by decide) hf (fun hf => ?_) (fun hf => ?_)
  · refine lv_aload_n hx hb dX10_planned_19 rfl (lv_at hl 0 rfl) ?_
    refine q_getR C hj lk_X10_33 dX10_planned_20 hf (fun v3 hf => ?_)
    refine lv_aload_n hx hb dX10_planned_23 rfl (lv_at hl 0 rfl) ?_
    refine q_getR C hj lk_X10_65 dX10_planned_24 hf (fun v4 hf => ?_)
    refine q_cVWV C hj cw_X10_183 (As := [.ref (q_ad E v4)]) (rest := []) hf (fun g9 h9 => c_X5_runAll l E h9) rfl hl rfl rfl rfl dX10_planned_27 ⟨Nat.zero_le _, Nat.zero_le _⟩ (fun g5 H locs hj hf => ?_)
    refine lv_aload_n hx hb dX10_planned_30 rfl (lv_at hl 0 rfl) ?_
    refine lv_aload_n hx hb dX10_planned_31 rfl (lv_at hl 0 rfl) ?_
    refine q_getR C hj lk_X10_33 dX10_planned_32 hf (fun v6 hf => ?_)
    refine lv_iload_n hx hb dX10_planned_35 rfl (lv_at hl 1 rfl) ?_
    refine q_cVRI C hj cw_X10_187 (As := [.int a1]) (rest := [.ref (q_ad E a0)]) hf (fun v9 h9 => c_X5_outcomeOf l E h9) rfl hl rfl rfl rfl dX10_planned_36 ⟨Nat.zero_le _, Nat.zero_le _⟩ (fun v7 hf => ?_)
    refine q_cVWI C hj cw_X10_102 (As := [.int v7]) (rest := []) hf (fun v9 g9 h9 => c_X10_fine l E h9) rfl hl rfl rfl rfl dX10_planned_39 ⟨Nat.zero_le _, Nat.zero_le _⟩ (fun v9 g8 H locs hj hf => ?_)
    exact q_iretW C hj dX10_planned_42 hf
  · refine lv_aload_n hx hb dX10_planned_13 rfl (lv_at hl 0 rfl) ?_
    refine lv_iconst (v := 1) hx hb dX10_planned_14 qi_1 ?_
    refine q_cVWI C hj cw_X10_77 (As := [.int 1]) (rest := []) hf (fun v9 g9 h9 => c_X10_refused l E h9) rfl hl rfl rfl rfl dX10_planned_15 ⟨Nat.zero_le _, Nat.zero_le _⟩ (fun v11 g10 H locs hj hf => ?_)
    exact q_iretW C hj dX10_planned_18 hf
def f_X10_planHas (g : qS) (a0 : Nat) (a1 : Int32) (a2 : Int32) : Option (Int32 × qS) := (g_C g a0 9).bind fun _ => (f_X10_whyNot g a0 3 a1 a2).bind fun v1 => if v1 = 0 then ((g_R g a0 9 3).bind fun v2 => (g_R g a0 9 8).bind fun v3 => (f_X5_runThrough g v2 v3 a2).bind fun g4 => (g_R g4 a0 9 3).bind fun v5 => (f_X5_thingsOf g4 v5 a1).bind fun v6 => q_b2 (f_X10_fine g4 a0 v6) fun v8 g7 => some (v8, g7)) else (q_b2 (f_X10_refused g a0 v1) fun v10 g9 => some (v10, g9))
set_option maxHeartbeats 4000000 in
set_option maxRecDepth 100000 in
theorem c_X10_planHas (l : Launch) (E : qV) {g : qS} {a0 : Nat} {a1 : Int32} {a2 : Int32} {res : (Int32 × qS)} (hf : f_X10_planHas g a0 a1 a2 = some res) : q_MW l yX10_planHas cX10_planHas 4 (some .int) 7 165 E [.ref (q_ad E a0), .int a1, .int a2] g (some (.int res.1)) res.2 ∧ ∃ fs, g a0 = some (.inr (9, fs)) := by
  unfold f_X10_planHas at hf
  obtain ⟨u9, hu9, hf⟩ := q_ob hf
  refine ⟨q_ofW (by decide) rfl ?_, g_C_sp hu9⟩
  intro p e s m args below meth c ls C hj hl
  have hx := C.1
  have hb := C.2.1
  have C : q_C E p s m args meth c cX10_planHas RX10 4 (some .int) := C
  have hl : lv_has ls 4 [(0, .ref (q_ad E a0)), (1, .int a1), (2, .int a2)] := hl
  refine lv_aload_n hx hb dX10_planHas_0 rfl (lv_at hl 0 rfl) ?_
  refine lv_iconst (v := 3) hx hb dX10_planHas_1 qi_3 ?_
  refine lv_iload_n hx hb dX10_planHas_2 rfl (lv_at hl 1 rfl) ?_
  refine lv_iload_n hx hb dX10_planHas_3 rfl (lv_at hl 2 rfl) ?_
  refine q_cVRI C hj cw_X10_147 (As := [.int 3, .int a1, .int a2]) (rest := []) hf (fun v9 h9 => c_X10_whyNot l E h9) rfl hl rfl rfl rfl dX10_planHas_4 ⟨Nat.zero_le _, Nat.zero_le _⟩ (fun v1 hf => ?_)
  refine lv_istore_n (lv' := [(3, .int v1), (0, .ref (q_ad E a0)), (1, .int a1), (2, .int a2)]) hx hb dX10_planHas_7 rfl hl (by decide) rfl (fun ls hl => ?_)
  refine lv_iload_n hx hb dX10_planHas_8 rfl (lv_at hl 0 rfl) ?_
  refine q_ifeq C (tgt := 18) dX10_planHas_9 (by decide) hf (fun hf => ?_) (fun hf => ?_)
  · refine lv_aload_n hx hb dX10_planHas_18 rfl (lv_at hl 1 rfl) ?_
    refine q_getR C hj lk_X10_33 dX10_planHas_19 hf (fun v2 hf => ?_)
    refine lv_aload_n hx hb dX10_planHas_22 rfl (lv_at hl 1 rfl) ?_
    refine q_getR C hj lk_X10_65 dX10_planHas_23 hf (fun v3 hf => ?_)
    refine lv_iload_n hx hb dX10_planHas_26 rfl (lv_at hl 3 rfl) ?_
    refine q_cVWV C hj cw_X10_190 (As := [.ref (q_ad E v3), .int a2]) (rest := []) hf (fun g9 h9 => c_X5_runThrough l E h9) rfl hl rfl rfl rfl dX10_planHas_27 ⟨Nat.zero_le _, Nat.zero_le _⟩ (fun g4 H locs hj hf => ?_)
    refine lv_aload_n hx hb dX10_planHas_30 rfl (lv_at hl 1 rfl) ?_
    refine lv_aload_n hx hb dX10_planHas_31 rfl (lv_at hl 1 rfl) ?_
    refine q_getR C hj lk_X10_33 dX10_planHas_32 hf (fun v5 hf => ?_)
    refine lv_iload_n hx hb dX10_planHas_35 rfl (lv_at hl 2 rfl) ?_
    refine q_cVRI C hj cw_X10_194 (As := [.int a1]) (rest := [.ref (q_ad E a0)]) hf (fun v9 h9 => c_X5_thingsOf l E h9) rfl hl rfl rfl rfl dX10_planHas_36 ⟨Nat.zero_le _, Nat.zero_le _⟩ (fun v6 hf => ?_)
    refine q_cVWI C hj cw_X10_102 (As := [.int v6]) (rest := []) hf (fun v9 g9 h9 => c_X10_fine l E h9) rfl hl rfl rfl rfl dX10_planHas_39 ⟨Nat.zero_le _, Nat.zero_le _⟩ (fun v8 g7 H locs hj hf => ?_)
    exact q_iretW C hj dX10_planHas_42 hf
  · refine lv_aload_n hx hb dX10_planHas_12 rfl (lv_at hl 1 rfl) ?_
    refine lv_iload_n hx hb dX10_planHas_13 rfl (lv_at hl 0 rfl) ?_
    refine q_cVWI C hj cw_X10_77 (As := [.int v1]) (rest := []) hf (fun v9 g9 h9 => c_X10_refused l E h9) rfl hl rfl rfl rfl dX10_planHas_14 ⟨Nat.zero_le _, Nat.zero_le _⟩ (fun v10 g9 H locs hj hf => ?_)
    exact q_iretW C hj dX10_planHas_17 hf
def f_X10_planScore (g : qS) (a0 : Nat) (a1 : Int32) (a2 : Int32) : Option (Int32 × qS) := (g_C g a0 9).bind fun _ => (f_X10_whyNot g a0 5 a1 a2).bind fun v1 => if v1 = 0 then ((g_R g a0 9 3).bind fun v2 => (g_R g a0 9 8).bind fun v3 => (f_X5_runThrough g v2 v3 a2).bind fun g4 => (g_R g4 a0 9 3).bind fun v5 => (f_X5_scoreOf g4 v5 a1).bind fun v6 => q_b2 (f_X10_fine g4 a0 v6) fun v8 g7 => some (v8, g7)) else (q_b2 (f_X10_refused g a0 v1) fun v10 g9 => some (v10, g9))
set_option maxHeartbeats 4000000 in
set_option maxRecDepth 100000 in
theorem c_X10_planScore (l : Launch) (E : qV) {g : qS} {a0 : Nat} {a1 : Int32} {a2 : Int32} {res : (Int32 × qS)} (hf : f_X10_planScore g a0 a1 a2 = some res) : q_MW l yX10_planScore cX10_planScore 4 (some .int) 7 165 E [.ref (q_ad E a0), .int a1, .int a2] g (some (.int res.1)) res.2 ∧ ∃ fs, g a0 = some (.inr (9, fs)) := by
  unfold f_X10_planScore at hf
  obtain ⟨u9, hu9, hf⟩ := q_ob hf
  refine ⟨q_ofW (by decide) rfl ?_, g_C_sp hu9⟩
  intro p e s m args below meth c ls C hj hl
  have hx := C.1
  have hb := C.2.1
  have C : q_C E p s m args meth c cX10_planScore RX10 4 (some .int) := C
  have hl : lv_has ls 4 [(0, .ref (q_ad E a0)), (1, .int a1), (2, .int a2)] := hl
  refine lv_aload_n hx hb dX10_planScore_0 rfl (lv_at hl 0 rfl) ?_
  refine lv_iconst (v := 5) hx hb dX10_planScore_1 qi_5 ?_
  refine lv_iload_n hx hb dX10_planScore_2 rfl (lv_at hl 1 rfl) ?_
  refine lv_iload_n hx hb dX10_planScore_3 rfl (lv_at hl 2 rfl) ?_
  refine q_cVRI C hj cw_X10_147 (As := [.int 5, .int a1, .int a2]) (rest := []) hf (fun v9 h9 => c_X10_whyNot l E h9) rfl hl rfl rfl rfl dX10_planScore_4 ⟨Nat.zero_le _, Nat.zero_le _⟩ (fun v1 hf => ?_)
  refine lv_istore_n (lv' := [(3, .int v1), (0, .ref (q_ad E a0)), (1, .int a1), (2, .int a2)]) hx hb dX10_planScore_7 rfl hl (by decide) rfl (fun ls hl => ?_)
  refine lv_iload_n hx hb dX10_planScore_8 rfl (lv_at hl 0 rfl) ?_
  refine q_ifeq C (tgt := 18) dX10_planScore_9 (by decide) hf (fun hf => ?_) (fun hf => ?_)
  · refine lv_aload_n hx hb dX10_planScore_18 rfl (lv_at hl 1 rfl) ?_
    refine q_getR C hj lk_X10_33 dX10_planScore_19 hf (fun v2 hf => ?_)
    refine lv_aload_n hx hb dX10_planScore_22 rfl (lv_at hl 1 rfl) ?_
    refine q_getR C hj lk_X10_65 dX10_planScore_23 hf (fun v3 hf => ?_)
    refine lv_iload_n hx hb dX10_planScore_26 rfl (lv_at hl 3 rfl) ?_
    refine q_cVWV C hj cw_X10_190 (As := [.ref (q_ad E v3), .int a2]) (rest := []) hf (fun g9 h9 => c_X5_runThrough l E h9) rfl hl rfl rfl rfl dX10_planScore_27 ⟨Nat.zero_le _, Nat.zero_le _⟩ (fun g4 H locs hj hf => ?_)
    refine lv_aload_n hx hb dX10_planScore_30 rfl (lv_at hl 1 rfl) ?_
    refine lv_aload_n hx hb dX10_planScore_31 rfl (lv_at hl 1 rfl) ?_
    refine q_getR C hj lk_X10_33 dX10_planScore_32 hf (fun v5 hf => ?_)
    refine lv_iload_n hx hb dX10_planScore_35 rfl (lv_at hl 2 rfl) ?_
    refine q_cVRI C hj cw_X10_195 (As := [.int a1]) (rest := [.ref (q_ad E a0)]) hf (fun v9 h9 => c_X5_scoreOf l E h9) rfl hl rfl rfl rfl dX10_planScore_36 ⟨Nat.zero_le _, Nat.zero_le _⟩ (fun v6 hf => ?_)
    refine q_cVWI C hj cw_X10_102 (As := [.int v6]) (rest := []) hf (fun v9 g9 h9 => c_X10_fine l E h9) rfl hl rfl rfl rfl dX10_planScore_39 ⟨Nat.zero_le _, Nat.zero_le _⟩ (fun v8 g7 H locs hj hf => ?_)
    exact q_iretW C hj dX10_planScore_42 hf
  · refine lv_aload_n hx hb dX10_planScore_12 rfl (lv_at hl 1 rfl) ?_
    refine lv_iload_n hx hb dX10_planScore_13 rfl (lv_at hl 0 rfl) ?_
    refine q_cVWI C hj cw_X10_77 (As := [.int v1]) (rest := []) hf (fun v9 g9 h9 => c_X10_refused l E h9) rfl hl rfl rfl rfl dX10_planScore_14 ⟨Nat.zero_le _, Nat.zero_le _⟩ (fun v10 g9 H locs hj hf => ?_)
    exact q_iretW C hj dX10_planScore_17 hf
def f_X10_noCollege (g : qS) (a0 : Nat) : Option Int32 := (g_C g a0 9).bind fun _ => (g_R g a0 9 8).bind fun v1 => (f_X3_count g v1 0).bind fun v2 => if v2 = 0 then (some 1) else (some 0)
set_option maxHeartbeats 4000000 in
set_option maxRecDepth 100000 in
theorem c_X10_noCollege (l : Launch) (E : qV) {g : qS} {a0 : Nat} {res : Int32} (hf : f_X10_noCollege g a0 = some res) : q_MR l yX10_noCollege cX10_noCollege 1 (some .boolean) 2 44 E [.ref (q_ad E a0)] g (some (.int res)) ∧ ∃ fs, g a0 = some (.inr (9, fs)) := by
  unfold f_X10_noCollege at hf
  obtain ⟨u9, hu9, hf⟩ := q_ob hf
  refine ⟨q_ofR (by decide) rfl ?_, g_C_sp hu9⟩
  intro p e s m args below meth c ls C hw hl
  have hj : q_J E s g s.heap [] := ⟨hw, va_S.rf⟩
  have hx := C.1
  have hb := C.2.1
  have C : q_C E p s m args meth c cX10_noCollege RX10 1 (some .boolean) := C
  have hl : lv_has ls 1 [(0, .ref (q_ad E a0))] := hl
  refine lv_aload_n hx hb dX10_noCollege_0 rfl (lv_at hl 0 rfl) ?_
  refine q_getR C hj lk_X10_65 dX10_noCollege_1 hf (fun v1 hf => ?_)
  refine lv_iconst (v := 0) hx hb dX10_noCollege_4 qi_0 ?_
  refine q_cVRI C hj cw_X10_99 (As := [.int 0]) (rest := []) hf (fun v9 h9 => c_X3_count l E h9) rfl hl rfl rfl rfl dX10_noCollege_5 ⟨Nat.zero_le _, Nat.zero_le _⟩ (fun v2 hf => ?_)
  refine q_ifne C (tgt := 15) dX10_noCollege_8 (by decide) hf (fun hf => ?_) (fun hf => ?_)
  · refine lv_iconst (v := 0) hx hb dX10_noCollege_15 qi_0 ?_
    exact q_z0retR C dX10_noCollege_16 hf
  · refine lv_iconst (v := 1) hx hb dX10_noCollege_11 qi_1 ?_
    refine lv_goto (tgt := 16) hx hb dX10_noCollege_12 (by decide) ?_
    exact q_z1retR C dX10_noCollege_16 hf
def L_X10_first_28  : Nat → Nat → Int32 → Int32 → qS → Option (Int32 × qS)
  | 0, _, _, _, _ => none
  | n + 1, x0, x1, x2, g => (g_R g x0 9 8).bind fun v1 => (f_X3_count g v1 5).bind fun v2 => if v2 ≤ x2 then (q_b2 (f_X10_fine g x0 x1) fun v4 g3 => some (v4, g3)) else ((g_R g x0 9 3).bind fun v5 => (f_X5_scoreOf g v5 x2).bind fun v6 => (g_R g x0 9 3).bind fun v7 => (f_X5_scoreOf g v7 x1).bind fun v8 => if v6 ≤ v8 then (L_X10_first_28 n x0 x1 (x2 + 1) g) else (L_X10_first_28 n x0 x2 (x2 + 1) g))
set_option maxHeartbeats 4000000 in
set_option maxRecDepth 100000 in
theorem w_L_X10_first_28 {l : Launch} {E : qV} {p : Program} {e : Env} {s : State} {m : MethodId} {args : Array Value} {below : List Frame} {meth : Method} {c : Code}  {res : (Int32 × qS)} (C : q_C E p s m args meth c cX10_first RX10 3 (some .int))  : ∀ {n : Nat} {x0 : Nat} {x1 : Int32} {x2 : Int32} {g : qS} {H : Heap} {locs : List Loc} {ls : Array Slot}, q_J E s g H locs → lv_has ls 3 [(0, .ref (q_ad E x0)), (1, .int x1), (2, .int x2)] → L_X10_first_28 n x0 x1 x2 g = some res → W p l e (q_rm 7 164) s m args below meth c H locs 0 0 (q_ZW E below (some (.int res.1)) res.2 args s) (F0 m 28 ls []) := by
  have hx := C.1
  have hb := C.2.1
  intro n
  induction n with
  | zero =>
    intro x0 x1 x2 g H locs ls hj hl hf
    cases hf
  | succ n ih_ =>
    intro x0 x1 x2 g H locs ls hj hl hf
    have ih : ∀ (x0 : Nat) (x1 : Int32) (x2 : Int32) (g : qS) (H : Heap) (locs : List Loc) (ls : Array Slot), q_J E s g H locs → lv_has ls 3 [(0, .ref (q_ad E x0)), (1, .int x1), (2, .int x2)] → L_X10_first_28 n x0 x1 x2 g = some res → W p l e (q_rm 7 164) s m args below meth c H locs 0 0 (q_ZW E below (some (.int res.1)) res.2 args s) (F0 m 28 ls []) := fun x0 x1 x2 g H locs ls hj hl hf => ih_ hj hl hf
    unfold L_X10_first_28 at hf
    refine lv_iload_n hx hb dX10_first_28 rfl (lv_at hl 2 rfl) ?_
    refine lv_aload_n hx hb dX10_first_29 rfl (lv_at hl 0 rfl) ?_
    refine q_getR C hj lk_X10_65 dX10_first_30 hf (fun v1 hf => ?_)
    refine lv_iconst (v := 5) hx hb dX10_first_33 qi_5 ?_
    refine q_cVRI C hj cw_X10_99 (As := [.int 5]) (rest := [.int x2]) hf (fun v9 h9 => c_X3_count l E h9) rfl hl rfl rfl rfl dX10_first_34 ⟨Nat.zero_le _, Nat.zero_le _⟩ (fun v2 hf => ?_)
    refine q_icge C (tgt := 67) dX10_first_37 (by decide) hf (fun hf => ?_) (fun hf => ?_)
    · refine lv_aload_n hx hb dX10_first_67 rfl (lv_at hl 0 rfl) ?_
      refine lv_iload_n hx hb dX10_first_68 rfl (lv_at hl 1 rfl) ?_
      refine q_cVWI C hj cw_X10_102 (As := [.int x1]) (rest := []) hf (fun v9 g9 h9 => c_X10_fine l E h9) rfl hl rfl rfl rfl dX10_first_69 ⟨Nat.zero_le _, Nat.zero_le _⟩ (fun v4 g3 H locs hj hf => ?_)
      exact q_iretW C hj dX10_first_72 hf
    · refine lv_aload_n hx hb dX10_first_40 rfl (lv_at hl 0 rfl) ?_
      refine q_getR C hj lk_X10_33 dX10_first_41 hf (fun v5 hf => ?_)
      refine lv_iload_n hx hb dX10_first_44 rfl (lv_at hl 2 rfl) ?_
      refine q_cVRI C hj cw_X10_195 (As := [.int x2]) (rest := []) hf (fun v9 h9 => c_X5_scoreOf l E h9) rfl hl rfl rfl rfl dX10_first_45 ⟨Nat.zero_le _, Nat.zero_le _⟩ (fun v6 hf => ?_)
      refine lv_aload_n hx hb dX10_first_48 rfl (lv_at hl 0 rfl) ?_
      refine q_getR C hj lk_X10_33 dX10_first_49 hf (fun v7 hf => ?_)
      refine lv_iload_n hx hb dX10_first_52 rfl (lv_at hl 1 rfl) ?_
      refine q_cVRI C hj cw_X10_195 (As := [.int x1]) (rest := [.int v6]) hf (fun v9 h9 => c_X5_scoreOf l E h9) rfl hl rfl rfl rfl dX10_first_53 ⟨Nat.zero_le _, Nat.zero_le _⟩ (fun v8 hf => ?_)
      refine q_icle C (tgt := 61) dX10_first_56 (by decide) hf (fun hf => ?_) (fun hf => ?_)
      · refine lv_iinc (v := x2 + 1) (lv' := [(2, .int (x2 + 1)), (0, .ref (q_ad E x0)), (1, .int x1)]) hx hb dX10_first_61 hl (k := 2) rfl (by rw [qi_1]) (by decide) rfl (fun ls hl => ?_)
        refine lv_goto (tgt := 28) hx hb dX10_first_64 (by decide) ?_
        exact ih _ _ _ _ _ _ ls hj (lv_sub hl [1, 2, 0] rfl) hf
      · refine lv_iload_n hx hb dX10_first_59 rfl (lv_at hl 2 rfl) ?_
        refine lv_istore_n (lv' := [(1, .int x2), (0, .ref (q_ad E x0)), (2, .int x2)]) hx hb dX10_first_60 rfl hl (by decide) rfl (fun ls hl => ?_)
        refine lv_iinc (v := x2 + 1) (lv' := [(2, .int (x2 + 1)), (1, .int x2), (0, .ref (q_ad E x0))]) hx hb dX10_first_61 hl (k := 2) rfl (by rw [qi_1]) (by decide) rfl (fun ls hl => ?_)
        refine lv_goto (tgt := 28) hx hb dX10_first_64 (by decide) ?_
        exact ih _ _ _ _ _ _ ls hj (lv_sub hl [2, 1, 0] rfl) hf
def f_X10_first (g : qS) (a0 : Nat) : Option (Int32 × qS) := (g_C g a0 9).bind fun _ => (f_X10_noCollege g a0).bind fun v1 => if v1 = 0 then ((g_R g a0 9 3).bind fun v2 => (g_R g a0 9 8).bind fun v3 => (f_X5_runAll g v2 v3).bind fun g4 => L_X10_first_28 1000000000 a0 0 1 g4) else (q_b2 (f_X10_refused g a0 1) fun v6 g5 => some (v6, g5))
set_option maxHeartbeats 4000000 in
set_option maxRecDepth 100000 in
theorem c_X10_first (l : Launch) (E : qV) {g : qS} {a0 : Nat} {res : (Int32 × qS)} (hf : f_X10_first g a0 = some res) : q_MW l yX10_first cX10_first 3 (some .int) 7 164 E [.ref (q_ad E a0)] g (some (.int res.1)) res.2 ∧ ∃ fs, g a0 = some (.inr (9, fs)) := by
  unfold f_X10_first at hf
  obtain ⟨u9, hu9, hf⟩ := q_ob hf
  refine ⟨q_ofW (by decide) rfl ?_, g_C_sp hu9⟩
  intro p e s m args below meth c ls C hj hl
  have hx := C.1
  have hb := C.2.1
  have C : q_C E p s m args meth c cX10_first RX10 3 (some .int) := C
  have hl : lv_has ls 3 [(0, .ref (q_ad E a0))] := hl
  refine lv_aload_n hx hb dX10_first_0 rfl (lv_at hl 0 rfl) ?_
  refine q_cVRI C hj cw_X10_196 (As := []) (rest := []) hf (fun v9 h9 => c_X10_noCollege l E h9) rfl hl rfl rfl rfl dX10_first_1 ⟨Nat.zero_le _, Nat.zero_le _⟩ (fun v1 hf => ?_)
  refine q_ifeq C (tgt := 13) dX10_first_4 (by decide) hf (fun hf => ?_) (fun hf => ?_)
  · refine lv_aload_n hx hb dX10_first_13 rfl (lv_at hl 0 rfl) ?_
    refine q_getR C hj lk_X10_33 dX10_first_14 hf (fun v2 hf => ?_)
    refine lv_aload_n hx hb dX10_first_17 rfl (lv_at hl 0 rfl) ?_
    refine q_getR C hj lk_X10_65 dX10_first_18 hf (fun v3 hf => ?_)
    refine q_cVWV C hj cw_X10_183 (As := [.ref (q_ad E v3)]) (rest := []) hf (fun g9 h9 => c_X5_runAll l E h9) rfl hl rfl rfl rfl dX10_first_21 ⟨Nat.zero_le _, Nat.zero_le _⟩ (fun g4 H locs hj hf => ?_)
    refine lv_iconst (v := 0) hx hb dX10_first_24 qi_0 ?_
    refine lv_istore_n (lv' := [(1, .int 0), (0, .ref (q_ad E a0))]) hx hb dX10_first_25 rfl hl (by decide) rfl (fun ls hl => ?_)
    refine lv_iconst (v := 1) hx hb dX10_first_26 qi_1 ?_
    refine lv_istore_n (lv' := [(2, .int 1), (1, .int 0), (0, .ref (q_ad E a0))]) hx hb dX10_first_27 rfl hl (by decide) rfl (fun ls hl => ?_)
    refine w_L_X10_first_28 C  hj (lv_sub hl [2, 1, 0] rfl) hf
  · refine lv_aload_n hx hb dX10_first_7 rfl (lv_at hl 0 rfl) ?_
    refine lv_iconst (v := 1) hx hb dX10_first_8 qi_1 ?_
    refine q_cVWI C hj cw_X10_77 (As := [.int 1]) (rest := []) hf (fun v9 g9 h9 => c_X10_refused l E h9) rfl hl rfl rfl rfl dX10_first_9 ⟨Nat.zero_le _, Nat.zero_le _⟩ (fun v6 g5 H locs hj hf => ?_)
    exact q_iretW C hj dX10_first_12 hf
def L_X10_judge_26  : Nat → Nat → Int32 → qS → Option (Int32 × qS)
  | 0, _, _, _ => none
  | n + 1, x0, x1, g => (g_R g x0 9 8).bind fun v1 => (f_X3_count g v1 7).bind fun v2 => if v2 ≤ x1 then (q_b2 (f_X10_fine g x0 (-2)) fun v4 g3 => some (v4, g3)) else ((g_R g x0 9 3).bind fun v5 => (f_X5_outcomeOf g v5 x1).bind fun v6 => if v6 ≤ 1 then (L_X10_judge_26 n x0 (x1 + 1) g) else (q_b2 (f_X10_fine g x0 x1) fun v8 g7 => some (v8, g7)))
set_option maxHeartbeats 4000000 in
set_option maxRecDepth 100000 in
theorem w_L_X10_judge_26 {l : Launch} {E : qV} {p : Program} {e : Env} {s : State} {m : MethodId} {args : Array Value} {below : List Frame} {meth : Method} {c : Code}  {res : (Int32 × qS)} (C : q_C E p s m args meth c cX10_judge RX10 2 (some .int))  : ∀ {n : Nat} {x0 : Nat} {x1 : Int32} {g : qS} {H : Heap} {locs : List Loc} {ls : Array Slot}, q_J E s g H locs → lv_has ls 2 [(0, .ref (q_ad E x0)), (1, .int x1)] → L_X10_judge_26 n x0 x1 g = some res → W p l e (q_rm 7 164) s m args below meth c H locs 0 0 (q_ZW E below (some (.int res.1)) res.2 args s) (F0 m 26 ls []) := by
  have hx := C.1
  have hb := C.2.1
  intro n
  induction n with
  | zero =>
    intro x0 x1 g H locs ls hj hl hf
    cases hf
  | succ n ih_ =>
    intro x0 x1 g H locs ls hj hl hf
    have ih : ∀ (x0 : Nat) (x1 : Int32) (g : qS) (H : Heap) (locs : List Loc) (ls : Array Slot), q_J E s g H locs → lv_has ls 2 [(0, .ref (q_ad E x0)), (1, .int x1)] → L_X10_judge_26 n x0 x1 g = some res → W p l e (q_rm 7 164) s m args below meth c H locs 0 0 (q_ZW E below (some (.int res.1)) res.2 args s) (F0 m 26 ls []) := fun x0 x1 g H locs ls hj hl hf => ih_ hj hl hf
    unfold L_X10_judge_26 at hf
    refine lv_iload_n hx hb dX10_judge_26 rfl (lv_at hl 1 rfl) ?_
    refine lv_aload_n hx hb dX10_judge_27 rfl (lv_at hl 0 rfl) ?_
    refine q_getR C hj lk_X10_65 dX10_judge_28 hf (fun v1 hf => ?_)
    refine lv_bipush (v := 7) hx hb dX10_judge_31 (by decide) ?_
    refine q_cVRI C hj cw_X10_99 (As := [.int 7]) (rest := [.int x1]) hf (fun v9 h9 => c_X3_count l E h9) rfl hl rfl rfl rfl dX10_judge_33 ⟨Nat.zero_le _, Nat.zero_le _⟩ (fun v2 hf => ?_)
    refine q_icge C (tgt := 63) dX10_judge_36 (by decide) hf (fun hf => ?_) (fun hf => ?_)
    · refine lv_aload_n hx hb dX10_judge_63 rfl (lv_at hl 0 rfl) ?_
      refine lv_bipush (v := -2) hx hb dX10_judge_64 (by decide) ?_
      refine q_cVWI C hj cw_X10_102 (As := [.int (-2)]) (rest := []) hf (fun v9 g9 h9 => c_X10_fine l E h9) rfl hl rfl rfl rfl dX10_judge_66 ⟨Nat.zero_le _, Nat.zero_le _⟩ (fun v4 g3 H locs hj hf => ?_)
      exact q_iretW C hj dX10_judge_69 hf
    · refine lv_aload_n hx hb dX10_judge_39 rfl (lv_at hl 0 rfl) ?_
      refine q_getR C hj lk_X10_33 dX10_judge_40 hf (fun v5 hf => ?_)
      refine lv_iload_n hx hb dX10_judge_43 rfl (lv_at hl 1 rfl) ?_
      refine q_cVRI C hj cw_X10_187 (As := [.int x1]) (rest := []) hf (fun v9 h9 => c_X5_outcomeOf l E h9) rfl hl rfl rfl rfl dX10_judge_44 ⟨Nat.zero_le _, Nat.zero_le _⟩ (fun v6 hf => ?_)
      refine lv_iconst (v := 1) hx hb dX10_judge_47 qi_1 ?_
      refine q_icle C (tgt := 57) dX10_judge_48 (by decide) hf (fun hf => ?_) (fun hf => ?_)
      · refine lv_iinc (v := x1 + 1) (lv' := [(1, .int (x1 + 1)), (0, .ref (q_ad E x0))]) hx hb dX10_judge_57 hl (k := 1) rfl (by rw [qi_1]) (by decide) rfl (fun ls hl => ?_)
        refine lv_goto (tgt := 26) hx hb dX10_judge_60 (by decide) ?_
        exact ih _ _ _ _ _ ls hj (lv_sub hl [1, 0] rfl) hf
      · refine lv_aload_n hx hb dX10_judge_51 rfl (lv_at hl 0 rfl) ?_
        refine lv_iload_n hx hb dX10_judge_52 rfl (lv_at hl 1 rfl) ?_
        refine q_cVWI C hj cw_X10_102 (As := [.int x1]) (rest := []) hf (fun v9 g9 h9 => c_X10_fine l E h9) rfl hl rfl rfl rfl dX10_judge_53 ⟨Nat.zero_le _, Nat.zero_le _⟩ (fun v8 g7 H locs hj hf => ?_)
        exact q_iretW C hj dX10_judge_56 hf
def f_X10_judge (g : qS) (a0 : Nat) : Option (Int32 × qS) := (g_C g a0 9).bind fun _ => (f_X10_noCollege g a0).bind fun v1 => if v1 = 0 then ((g_R g a0 9 3).bind fun v2 => (g_R g a0 9 8).bind fun v3 => (f_X5_runAll g v2 v3).bind fun g4 => L_X10_judge_26 1000000000 a0 0 g4) else (q_b2 (f_X10_refused g a0 1) fun v6 g5 => some (v6, g5))
set_option maxHeartbeats 4000000 in
set_option maxRecDepth 100000 in
theorem c_X10_judge (l : Launch) (E : qV) {g : qS} {a0 : Nat} {res : (Int32 × qS)} (hf : f_X10_judge g a0 = some res) : q_MW l yX10_judge cX10_judge 2 (some .int) 7 164 E [.ref (q_ad E a0)] g (some (.int res.1)) res.2 ∧ ∃ fs, g a0 = some (.inr (9, fs)) := by
  unfold f_X10_judge at hf
  obtain ⟨u9, hu9, hf⟩ := q_ob hf
  refine ⟨q_ofW (by decide) rfl ?_, g_C_sp hu9⟩
  intro p e s m args below meth c ls C hj hl
  have hx := C.1
  have hb := C.2.1
  have C : q_C E p s m args meth c cX10_judge RX10 2 (some .int) := C
  have hl : lv_has ls 2 [(0, .ref (q_ad E a0))] := hl
  refine lv_aload_n hx hb dX10_judge_0 rfl (lv_at hl 0 rfl) ?_
  refine q_cVRI C hj cw_X10_196 (As := []) (rest := []) hf (fun v9 h9 => c_X10_noCollege l E h9) rfl hl rfl rfl rfl dX10_judge_1 ⟨Nat.zero_le _, Nat.zero_le _⟩ (fun v1 hf => ?_)
  refine q_ifeq C (tgt := 13) dX10_judge_4 (by decide) hf (fun hf => ?_) (fun hf => ?_)
  · refine lv_aload_n hx hb dX10_judge_13 rfl (lv_at hl 0 rfl) ?_
    refine q_getR C hj lk_X10_33 dX10_judge_14 hf (fun v2 hf => ?_)
    refine lv_aload_n hx hb dX10_judge_17 rfl (lv_at hl 0 rfl) ?_
    refine q_getR C hj lk_X10_65 dX10_judge_18 hf (fun v3 hf => ?_)
    refine q_cVWV C hj cw_X10_183 (As := [.ref (q_ad E v3)]) (rest := []) hf (fun g9 h9 => c_X5_runAll l E h9) rfl hl rfl rfl rfl dX10_judge_21 ⟨Nat.zero_le _, Nat.zero_le _⟩ (fun g4 H locs hj hf => ?_)
    refine lv_iconst (v := 0) hx hb dX10_judge_24 qi_0 ?_
    refine lv_istore_n (lv' := [(1, .int 0), (0, .ref (q_ad E a0))]) hx hb dX10_judge_25 rfl hl (by decide) rfl (fun ls hl => ?_)
    refine w_L_X10_judge_26 C  hj (lv_sub hl [1, 0] rfl) hf
  · refine lv_aload_n hx hb dX10_judge_7 rfl (lv_at hl 0 rfl) ?_
    refine lv_iconst (v := 1) hx hb dX10_judge_8 qi_1 ?_
    refine q_cVWI C hj cw_X10_77 (As := [.int 1]) (rest := []) hf (fun v9 g9 h9 => c_X10_refused l E h9) rfl hl rfl rfl rfl dX10_judge_9 ⟨Nat.zero_le _, Nat.zero_le _⟩ (fun v6 g5 H locs hj hf => ?_)
    exact q_iretW C hj dX10_judge_12 hf
def L_X10_amiss_26  : Nat → Nat → Int32 → qS → Option (Int32 × qS)
  | 0, _, _, _ => none
  | n + 1, x0, x1, g => (g_R g x0 9 8).bind fun v1 => (f_X3_count g v1 8).bind fun v2 => if v2 ≤ x1 then (q_b2 (f_X10_fine g x0 (-2)) fun v4 g3 => some (v4, g3)) else ((g_R g x0 9 8).bind fun v5 => (g_R g v5 2 5).bind fun v6 => (f_X8_get g v6 x1 0).bind fun v7 => (g_R g x0 9 3).bind fun v8 => (f_X5_holder g v8 v7).bind fun v9 => (g_R g x0 9 8).bind fun v10 => (g_R g v10 2 5).bind fun v11 => (f_X8_get g v11 x1 1).bind fun v12 => if v9 = v12 then (L_X10_amiss_26 n x0 (x1 + 1) g) else (q_b2 (f_X10_fine g x0 v7) fun v14 g13 => some (v14, g13)))
set_option maxHeartbeats 4000000 in
set_option maxRecDepth 100000 in
theorem w_L_X10_amiss_26 {l : Launch} {E : qV} {p : Program} {e : Env} {s : State} {m : MethodId} {args : Array Value} {below : List Frame} {meth : Method} {c : Code}  {res : (Int32 × qS)} (C : q_C E p s m args meth c cX10_amiss RX10 3 (some .int))  : ∀ {n : Nat} {x0 : Nat} {x1 : Int32} {g : qS} {H : Heap} {locs : List Loc} {ls : Array Slot}, q_J E s g H locs → lv_has ls 3 [(0, .ref (q_ad E x0)), (1, .int x1)] → L_X10_amiss_26 n x0 x1 g = some res → W p l e (q_rm 7 164) s m args below meth c H locs 0 0 (q_ZW E below (some (.int res.1)) res.2 args s) (F0 m 26 ls []) := by
  have hx := C.1
  have hb := C.2.1
  intro n
  induction n with
  | zero =>
    intro x0 x1 g H locs ls hj hl hf
    cases hf
  | succ n ih_ =>
    intro x0 x1 g H locs ls hj hl hf
    have ih : ∀ (x0 : Nat) (x1 : Int32) (g : qS) (H : Heap) (locs : List Loc) (ls : Array Slot), q_J E s g H locs → lv_has ls 3 [(0, .ref (q_ad E x0)), (1, .int x1)] → L_X10_amiss_26 n x0 x1 g = some res → W p l e (q_rm 7 164) s m args below meth c H locs 0 0 (q_ZW E below (some (.int res.1)) res.2 args s) (F0 m 26 ls []) := fun x0 x1 g H locs ls hj hl hf => ih_ hj hl hf
    unfold L_X10_amiss_26 at hf
    refine lv_iload_n hx hb dX10_amiss_26 rfl (lv_at hl 1 rfl) ?_
    refine lv_aload_n hx hb dX10_amiss_27 rfl (lv_at hl 0 rfl) ?_
    refine q_getR C hj lk_X10_65 dX10_amiss_28 hf (fun v1 hf => ?_)
    refine lv_bipush (v := 8) hx hb dX10_amiss_31 (by decide) ?_
    refine q_cVRI C hj cw_X10_99 (As := [.int 8]) (rest := [.int x1]) hf (fun v9 h9 => c_X3_count l E h9) rfl hl rfl rfl rfl dX10_amiss_33 ⟨Nat.zero_le _, Nat.zero_le _⟩ (fun v2 hf => ?_)
    refine q_icge C (tgt := 87) dX10_amiss_36 (by decide) hf (fun hf => ?_) (fun hf => ?_)
    · refine lv_aload_n hx hb dX10_amiss_87 rfl (lv_at hl 0 rfl) ?_
      refine lv_bipush (v := -2) hx hb dX10_amiss_88 (by decide) ?_
      refine q_cVWI C hj cw_X10_102 (As := [.int (-2)]) (rest := []) hf (fun v9 g9 h9 => c_X10_fine l E h9) rfl hl rfl rfl rfl dX10_amiss_90 ⟨Nat.zero_le _, Nat.zero_le _⟩ (fun v4 g3 H locs hj hf => ?_)
      exact q_iretW C hj dX10_amiss_93 hf
    · refine lv_aload_n hx hb dX10_amiss_39 rfl (lv_at hl 0 rfl) ?_
      refine q_getR C hj lk_X10_65 dX10_amiss_40 hf (fun v5 hf => ?_)
      refine q_getR C hj lk_X10_200 dX10_amiss_43 hf (fun v6 hf => ?_)
      refine lv_iload_n hx hb dX10_amiss_46 rfl (lv_at hl 1 rfl) ?_
      refine lv_iconst (v := 0) hx hb dX10_amiss_47 qi_0 ?_
      refine q_cVRI C hj cw_X10_119 (As := [.int x1, .int 0]) (rest := []) hf (fun v9 h9 => c_X8_get l E h9) rfl hl rfl rfl rfl dX10_amiss_48 ⟨Nat.zero_le _, Nat.zero_le _⟩ (fun v7 hf => ?_)
      refine lv_istore_n (lv' := [(2, .int v7), (0, .ref (q_ad E x0)), (1, .int x1)]) hx hb dX10_amiss_51 rfl hl (by decide) rfl (fun ls hl => ?_)
      refine lv_aload_n hx hb dX10_amiss_52 rfl (lv_at hl 1 rfl) ?_
      refine q_getR C hj lk_X10_33 dX10_amiss_53 hf (fun v8 hf => ?_)
      refine lv_iload_n hx hb dX10_amiss_56 rfl (lv_at hl 0 rfl) ?_
      refine q_cVRI C hj cw_X10_203 (As := [.int v7]) (rest := []) hf (fun v9 h9 => c_X5_holder l E h9) rfl hl rfl rfl rfl dX10_amiss_57 ⟨Nat.zero_le _, Nat.zero_le _⟩ (fun v9 hf => ?_)
      refine lv_aload_n hx hb dX10_amiss_60 rfl (lv_at hl 1 rfl) ?_
      refine q_getR C hj lk_X10_65 dX10_amiss_61 hf (fun v10 hf => ?_)
      refine q_getR C hj lk_X10_200 dX10_amiss_64 hf (fun v11 hf => ?_)
      refine lv_iload_n hx hb dX10_amiss_67 rfl (lv_at hl 2 rfl) ?_
      refine lv_iconst (v := 1) hx hb dX10_amiss_68 qi_1 ?_
      refine q_cVRI C hj cw_X10_119 (As := [.int x1, .int 1]) (rest := [.int v9]) hf (fun v9 h9 => c_X8_get l E h9) rfl hl rfl rfl rfl dX10_amiss_69 ⟨Nat.zero_le _, Nat.zero_le _⟩ (fun v12 hf => ?_)
      refine q_iceq C (tgt := 81) dX10_amiss_72 (by decide) hf (fun hf => ?_) (fun hf => ?_)
      · refine lv_iinc (v := x1 + 1) (lv' := [(1, .int (x1 + 1)), (2, .int v7), (0, .ref (q_ad E x0))]) hx hb dX10_amiss_81 hl (k := 2) rfl (by rw [qi_1]) (by decide) rfl (fun ls hl => ?_)
        refine lv_goto (tgt := 26) hx hb dX10_amiss_84 (by decide) ?_
        exact ih _ _ _ _ _ ls hj (lv_sub hl [2, 0] rfl) hf
      · refine lv_aload_n hx hb dX10_amiss_75 rfl (lv_at hl 1 rfl) ?_
        refine lv_iload_n hx hb dX10_amiss_76 rfl (lv_at hl 0 rfl) ?_
        refine q_cVWI C hj cw_X10_102 (As := [.int v7]) (rest := []) hf (fun v9 g9 h9 => c_X10_fine l E h9) rfl hl rfl rfl rfl dX10_amiss_77 ⟨Nat.zero_le _, Nat.zero_le _⟩ (fun v14 g13 H locs hj hf => ?_)
        exact q_iretW C hj dX10_amiss_80 hf
def f_X10_amiss (g : qS) (a0 : Nat) : Option (Int32 × qS) := (g_C g a0 9).bind fun _ => (f_X10_noCollege g a0).bind fun v1 => if v1 = 0 then ((g_R g a0 9 3).bind fun v2 => (g_R g a0 9 8).bind fun v3 => (f_X5_runAll g v2 v3).bind fun g4 => L_X10_amiss_26 1000000000 a0 0 g4) else (q_b2 (f_X10_refused g a0 1) fun v6 g5 => some (v6, g5))
set_option maxHeartbeats 4000000 in
set_option maxRecDepth 100000 in
theorem c_X10_amiss (l : Launch) (E : qV) {g : qS} {a0 : Nat} {res : (Int32 × qS)} (hf : f_X10_amiss g a0 = some res) : q_MW l yX10_amiss cX10_amiss 3 (some .int) 7 164 E [.ref (q_ad E a0)] g (some (.int res.1)) res.2 ∧ ∃ fs, g a0 = some (.inr (9, fs)) := by
  unfold f_X10_amiss at hf
  obtain ⟨u9, hu9, hf⟩ := q_ob hf
  refine ⟨q_ofW (by decide) rfl ?_, g_C_sp hu9⟩
  intro p e s m args below meth c ls C hj hl
  have hx := C.1
  have hb := C.2.1
  have C : q_C E p s m args meth c cX10_amiss RX10 3 (some .int) := C
  have hl : lv_has ls 3 [(0, .ref (q_ad E a0))] := hl
  refine lv_aload_n hx hb dX10_amiss_0 rfl (lv_at hl 0 rfl) ?_
  refine q_cVRI C hj cw_X10_196 (As := []) (rest := []) hf (fun v9 h9 => c_X10_noCollege l E h9) rfl hl rfl rfl rfl dX10_amiss_1 ⟨Nat.zero_le _, Nat.zero_le _⟩ (fun v1 hf => ?_)
  refine q_ifeq C (tgt := 13) dX10_amiss_4 (by decide) hf (fun hf => ?_) (fun hf => ?_)
  · refine lv_aload_n hx hb dX10_amiss_13 rfl (lv_at hl 0 rfl) ?_
    refine q_getR C hj lk_X10_33 dX10_amiss_14 hf (fun v2 hf => ?_)
    refine lv_aload_n hx hb dX10_amiss_17 rfl (lv_at hl 0 rfl) ?_
    refine q_getR C hj lk_X10_65 dX10_amiss_18 hf (fun v3 hf => ?_)
    refine q_cVWV C hj cw_X10_183 (As := [.ref (q_ad E v3)]) (rest := []) hf (fun g9 h9 => c_X5_runAll l E h9) rfl hl rfl rfl rfl dX10_amiss_21 ⟨Nat.zero_le _, Nat.zero_le _⟩ (fun g4 H locs hj hf => ?_)
    refine lv_iconst (v := 0) hx hb dX10_amiss_24 qi_0 ?_
    refine lv_istore_n (lv' := [(1, .int 0), (0, .ref (q_ad E a0))]) hx hb dX10_amiss_25 rfl hl (by decide) rfl (fun ls hl => ?_)
    refine w_L_X10_amiss_26 C  hj (lv_sub hl [1, 0] rfl) hf
  · refine lv_aload_n hx hb dX10_amiss_7 rfl (lv_at hl 0 rfl) ?_
    refine lv_iconst (v := 1) hx hb dX10_amiss_8 qi_1 ?_
    refine q_cVWI C hj cw_X10_77 (As := [.int 1]) (rest := []) hf (fun v9 g9 h9 => c_X10_refused l E h9) rfl hl rfl rfl rfl dX10_amiss_9 ⟨Nat.zero_le _, Nat.zero_le _⟩ (fun v6 g5 H locs hj hf => ?_)
    exact q_iretW C hj dX10_amiss_12 hf
def f_X10_soonest (g : qS) (a0 : Nat) : Option (Int32 × qS) := (g_C g a0 9).bind fun _ => (f_X10_noCollege g a0).bind fun v1 => if v1 = 0 then ((g_R g a0 9 4).bind fun v2 => (g_R g a0 9 8).bind fun v3 => (f_X0_find g v2 v3).bind fun g4 => (g_R g4 a0 9 4).bind fun v5 => (f_X0_lastDay g4 v5).bind fun v6 => q_b2 (f_X10_fine g4 a0 v6) fun v8 g7 => some (v8, g7)) else (q_b2 (f_X10_refused g a0 1) fun v10 g9 => some (v10, g9))
set_option maxHeartbeats 4000000 in
set_option maxRecDepth 100000 in
theorem c_X10_soonest (l : Launch) (E : qV) {g : qS} {a0 : Nat} {res : (Int32 × qS)} (hf : f_X10_soonest g a0 = some res) : q_MW l yX10_soonest cX10_soonest 1 (some .int) 13 348 E [.ref (q_ad E a0)] g (some (.int res.1)) res.2 ∧ ∃ fs, g a0 = some (.inr (9, fs)) := by
  unfold f_X10_soonest at hf
  obtain ⟨u9, hu9, hf⟩ := q_ob hf
  refine ⟨q_ofW (by decide) rfl ?_, g_C_sp hu9⟩
  intro p e s m args below meth c ls C hj hl
  have hx := C.1
  have hb := C.2.1
  have C : q_C E p s m args meth c cX10_soonest RX10 1 (some .int) := C
  have hl : lv_has ls 1 [(0, .ref (q_ad E a0))] := hl
  refine lv_aload_n hx hb dX10_soonest_0 rfl (lv_at hl 0 rfl) ?_
  refine q_cVRI C hj cw_X10_196 (As := []) (rest := []) hf (fun v9 h9 => c_X10_noCollege l E h9) rfl hl rfl rfl rfl dX10_soonest_1 ⟨Nat.zero_le _, Nat.zero_le _⟩ (fun v1 hf => ?_)
  refine q_ifeq C (tgt := 13) dX10_soonest_4 (by decide) hf (fun hf => ?_) (fun hf => ?_)
  · refine lv_aload_n hx hb dX10_soonest_13 rfl (lv_at hl 0 rfl) ?_
    refine q_getR C hj lk_X10_40 dX10_soonest_14 hf (fun v2 hf => ?_)
    refine lv_aload_n hx hb dX10_soonest_17 rfl (lv_at hl 0 rfl) ?_
    refine q_getR C hj lk_X10_65 dX10_soonest_18 hf (fun v3 hf => ?_)
    refine q_cVWV C hj cw_X10_204 (As := [.ref (q_ad E v3)]) (rest := []) hf (fun g9 h9 => c_X0_find l E h9) rfl hl rfl rfl rfl dX10_soonest_21 ⟨Nat.zero_le _, Nat.zero_le _⟩ (fun g4 H locs hj hf => ?_)
    refine lv_aload_n hx hb dX10_soonest_24 rfl (lv_at hl 0 rfl) ?_
    refine lv_aload_n hx hb dX10_soonest_25 rfl (lv_at hl 0 rfl) ?_
    refine q_getR C hj lk_X10_40 dX10_soonest_26 hf (fun v5 hf => ?_)
    refine q_cVRI C hj cw_X10_207 (As := []) (rest := [.ref (q_ad E a0)]) hf (fun v9 h9 => c_X0_lastDay l E h9) rfl hl rfl rfl rfl dX10_soonest_29 ⟨Nat.zero_le _, Nat.zero_le _⟩ (fun v6 hf => ?_)
    refine q_cVWI C hj cw_X10_102 (As := [.int v6]) (rest := []) hf (fun v9 g9 h9 => c_X10_fine l E h9) rfl hl rfl rfl rfl dX10_soonest_32 ⟨Nat.zero_le _, Nat.zero_le _⟩ (fun v8 g7 H locs hj hf => ?_)
    exact q_iretW C hj dX10_soonest_35 hf
  · refine lv_aload_n hx hb dX10_soonest_7 rfl (lv_at hl 0 rfl) ?_
    refine lv_iconst (v := 1) hx hb dX10_soonest_8 qi_1 ?_
    refine q_cVWI C hj cw_X10_77 (As := [.int 1]) (rest := []) hf (fun v9 g9 h9 => c_X10_refused l E h9) rfl hl rfl rfl rfl dX10_soonest_9 ⟨Nat.zero_le _, Nat.zero_le _⟩ (fun v10 g9 H locs hj hf => ?_)
    exact q_iretW C hj dX10_soonest_12 hf
def f_X10_soonestOf (g : qS) (a0 : Nat) (a1 : Int32) : Option (Int32 × qS) := (g_C g a0 9).bind fun _ => (g_R g a0 9 8).bind fun v1 => (f_X3_has g v1 2 a1).bind fun v2 => if v2 = 0 then (q_b2 (f_X10_refused g a0 1) fun v15 g14 => some (v15, g14)) else ((g_R g a0 9 4).bind fun v3 => (g_R g a0 9 8).bind fun v4 => (f_X0_find g v3 v4).bind fun g5 => (g_R g5 a0 9 4).bind fun v6 => (f_X0_lastDay g5 v6).bind fun v7 => if 0 ≤ v7 then ((g_R g5 a0 9 4).bind fun v8 => (f_X0_giftOf g5 v8 a1).bind fun v9 => q_b2 (f_X10_fine g5 a0 v9) fun v11 g10 => some (v11, g10)) else (q_b2 (f_X10_refused g5 a0 6) fun v13 g12 => some (v13, g12)))
set_option maxHeartbeats 4000000 in
set_option maxRecDepth 100000 in
theorem c_X10_soonestOf (l : Launch) (E : qV) {g : qS} {a0 : Nat} {a1 : Int32} {res : (Int32 × qS)} (hf : f_X10_soonestOf g a0 a1 = some res) : q_MW l yX10_soonestOf cX10_soonestOf 2 (some .int) 13 348 E [.ref (q_ad E a0), .int a1] g (some (.int res.1)) res.2 ∧ ∃ fs, g a0 = some (.inr (9, fs)) := by
  unfold f_X10_soonestOf at hf
  obtain ⟨u9, hu9, hf⟩ := q_ob hf
  refine ⟨q_ofW (by decide) rfl ?_, g_C_sp hu9⟩
  intro p e s m args below meth c ls C hj hl
  have hx := C.1
  have hb := C.2.1
  have C : q_C E p s m args meth c cX10_soonestOf RX10 2 (some .int) := C
  have hl : lv_has ls 2 [(0, .ref (q_ad E a0)), (1, .int a1)] := hl
  refine lv_aload_n hx hb dX10_soonestOf_0 rfl (lv_at hl 0 rfl) ?_
  refine q_getR C hj lk_X10_65 dX10_soonestOf_1 hf (fun v1 hf => ?_)
  refine lv_iconst (v := 2) hx hb dX10_soonestOf_4 qi_2 ?_
  refine lv_iload_n hx hb dX10_soonestOf_5 rfl (lv_at hl 1 rfl) ?_
  refine q_cVRI C hj cw_X10_111 (As := [.int 2, .int a1]) (rest := []) hf (fun v9 h9 => c_X3_has l E h9) rfl hl rfl rfl rfl dX10_soonestOf_6 ⟨Nat.zero_le _, Nat.zero_le _⟩ (fun v2 hf => ?_)
  refine q_ifne C (tgt := 18) dX10_soonestOf_9 (by decide) hf (fun hf => ?_) (fun hf => ?_)
  · refine lv_aload_n hx hb dX10_soonestOf_18 rfl (lv_at hl 0 rfl) ?_
    refine q_getR C hj lk_X10_40 dX10_soonestOf_19 hf (fun v3 hf => ?_)
    refine lv_aload_n hx hb dX10_soonestOf_22 rfl (lv_at hl 0 rfl) ?_
    refine q_getR C hj lk_X10_65 dX10_soonestOf_23 hf (fun v4 hf => ?_)
    refine q_cVWV C hj cw_X10_204 (As := [.ref (q_ad E v4)]) (rest := []) hf (fun g9 h9 => c_X0_find l E h9) rfl hl rfl rfl rfl dX10_soonestOf_26 ⟨Nat.zero_le _, Nat.zero_le _⟩ (fun g5 H locs hj hf => ?_)
    refine lv_aload_n hx hb dX10_soonestOf_29 rfl (lv_at hl 0 rfl) ?_
    refine q_getR C hj lk_X10_40 dX10_soonestOf_30 hf (fun v6 hf => ?_)
    refine q_cVRI C hj cw_X10_207 (As := []) (rest := []) hf (fun v9 h9 => c_X0_lastDay l E h9) rfl hl rfl rfl rfl dX10_soonestOf_33 ⟨Nat.zero_le _, Nat.zero_le _⟩ (fun v7 hf => ?_)
    refine q_ifge C (tgt := 48) dX10_soonestOf_36 (by decide) hf (fun hf => ?_) (fun hf => ?_)
    · refine lv_aload_n hx hb dX10_soonestOf_48 rfl (lv_at hl 0 rfl) ?_
      refine lv_aload_n hx hb dX10_soonestOf_49 rfl (lv_at hl 0 rfl) ?_
      refine q_getR C hj lk_X10_40 dX10_soonestOf_50 hf (fun v8 hf => ?_)
      refine lv_iload_n hx hb dX10_soonestOf_53 rfl (lv_at hl 1 rfl) ?_
      refine q_cVRI C hj cw_X10_210 (As := [.int a1]) (rest := [.ref (q_ad E a0)]) hf (fun v9 h9 => c_X0_giftOf l E h9) rfl hl rfl rfl rfl dX10_soonestOf_54 ⟨Nat.zero_le _, Nat.zero_le _⟩ (fun v9 hf => ?_)
      refine q_cVWI C hj cw_X10_102 (As := [.int v9]) (rest := []) hf (fun v9 g9 h9 => c_X10_fine l E h9) rfl hl rfl rfl rfl dX10_soonestOf_57 ⟨Nat.zero_le _, Nat.zero_le _⟩ (fun v11 g10 H locs hj hf => ?_)
      exact q_iretW C hj dX10_soonestOf_60 hf
    · refine lv_aload_n hx hb dX10_soonestOf_39 rfl (lv_at hl 0 rfl) ?_
      refine lv_bipush (v := 6) hx hb dX10_soonestOf_40 (by decide) ?_
      refine q_cVWI C hj cw_X10_77 (As := [.int 6]) (rest := []) hf (fun v9 g9 h9 => c_X10_refused l E h9) rfl hl rfl rfl rfl dX10_soonestOf_42 ⟨Nat.zero_le _, Nat.zero_le _⟩ (fun v13 g12 H locs hj hf => ?_)
      refine lv_goto (tgt := 60) hx hb dX10_soonestOf_45 (by decide) ?_
      exact q_iretW C hj dX10_soonestOf_60 hf
  · refine lv_aload_n hx hb dX10_soonestOf_12 rfl (lv_at hl 0 rfl) ?_
    refine lv_iconst (v := 1) hx hb dX10_soonestOf_13 qi_1 ?_
    refine q_cVWI C hj cw_X10_77 (As := [.int 1]) (rest := []) hf (fun v9 g9 h9 => c_X10_refused l E h9) rfl hl rfl rfl rfl dX10_soonestOf_14 ⟨Nat.zero_le _, Nat.zero_le _⟩ (fun v15 g14 H locs hj hf => ?_)
    exact q_iretW C hj dX10_soonestOf_17 hf
