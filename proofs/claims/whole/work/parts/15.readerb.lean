def f_X6_readGiver (g : qS) (a0 : Nat) : Option (Int32 × qS) := (g_C g a0 5).bind fun _ => (g_R g a0 5 2).bind fun v1 => (f_X3_count g v1 5).bind fun v2 => q_b2 (f_X6_takeNewName g a0 5) fun v4 g3 => if v4 = 0 then (some (0, g3)) else (q_b2 (f_X6_takeWord g3 a0 25) fun v6 g5 => if v6 = 0 then (some (0, g5)) else (q_b2 (f_X6_takeWhole g5 a0 0 60) fun v8 g7 => if v8 = 0 then (some (0, g7)) else ((g_R g7 a0 5 2).bind fun v9 => (g_R g7 v9 2 3).bind fun v10 => q_b2 (f_X6_put g7 a0 v10 v2 0) fun v12 g11 => if v12 = 0 then (some (0, g11)) else (some (1, g11)))))
set_option maxHeartbeats 4000000 in
set_option maxRecDepth 100000 in
theorem c_X6_readGiver (l : Launch) (E : qV) {g : qS} {a0 : Nat} {res : (Int32 × qS)} (hf : f_X6_readGiver g a0 = some res) : q_MW l yX6_readGiver cX6_readGiver 2 (some .boolean) 7 185 E [.ref (q_ad E a0)] g (some (.int res.1)) res.2 ∧ ∃ fs, g a0 = some (.inr (5, fs)) := by
  unfold f_X6_readGiver at hf
  obtain ⟨u9, hu9, hf⟩ := q_ob hf
  refine ⟨q_ofW (by decide) rfl ?_, g_C_sp hu9⟩
  intro p e s m args below meth c ls C hj hl
  have hx := C.1
  have hb := C.2.1
  have C : q_C E p s m args meth c cX6_readGiver RX6 2 (some .boolean) := C
  have hl : lv_has ls 2 [(0, .ref (q_ad E a0))] := hl
  refine lv_aload_n hx hb dX6_readGiver_0 rfl (lv_at hl 0 rfl) ?_
  refine q_getR C hj lk_X6_22 dX6_readGiver_1 hf (fun v1 hf => ?_)
  refine lv_iconst (v := 5) hx hb dX6_readGiver_4 qi_5 ?_
  refine q_cVRI C hj cw_X6_98 (As := [.int 5]) (rest := []) hf (fun v9 h9 => c_X3_count l E h9) rfl hl rfl rfl rfl dX6_readGiver_5 ⟨Nat.zero_le _, Nat.zero_le _⟩ (fun v2 hf => ?_)
  refine lv_istore_n (lv' := [(1, .int v2), (0, .ref (q_ad E a0))]) hx hb dX6_readGiver_8 rfl hl (by decide) rfl (fun ls hl => ?_)
  refine lv_aload_n hx hb dX6_readGiver_9 rfl (lv_at hl 1 rfl) ?_
  refine lv_iconst (v := 5) hx hb dX6_readGiver_10 qi_5 ?_
  refine q_cVWI C hj cw_X6_225 (As := [.int 5]) (rest := []) hf (fun v9 g9 h9 => c_X6_takeNewName l E h9) rfl hl rfl rfl rfl dX6_readGiver_11 ⟨Nat.zero_le _, Nat.zero_le _⟩ (fun v4 g3 H locs hj hf => ?_)
  refine q_ifeq C (tgt := 57) dX6_readGiver_14 (by decide) hf (fun hf => ?_) (fun hf => ?_)
  · refine lv_iconst (v := 0) hx hb dX6_readGiver_57 qi_0 ?_
    exact q_z0retW C hj dX6_readGiver_58 hf
  · refine lv_aload_n hx hb dX6_readGiver_17 rfl (lv_at hl 1 rfl) ?_
    refine q_ldcwS C (i := 25) rfl dX6_readGiver_18 ?_
    refine q_cVWI C hj cw_X6_212 (As := [.ref (q_sa E 25)]) (rest := []) hf (fun v9 g9 h9 => c_X6_takeWord l E h9) rfl hl rfl rfl rfl dX6_readGiver_21 ⟨Nat.zero_le _, Nat.zero_le _⟩ (fun v6 g5 H locs hj hf => ?_)
    refine q_ifeq C (tgt := 57) dX6_readGiver_24 (by decide) hf (fun hf => ?_) (fun hf => ?_)
    · refine lv_iconst (v := 0) hx hb dX6_readGiver_57 qi_0 ?_
      exact q_z0retW C hj dX6_readGiver_58 hf
    · refine lv_aload_n hx hb dX6_readGiver_27 rfl (lv_at hl 1 rfl) ?_
      refine lv_iconst (v := 0) hx hb dX6_readGiver_28 qi_0 ?_
      refine lv_bipush (v := 60) hx hb dX6_readGiver_29 (by decide) ?_
      refine q_cVWI C hj cw_X6_216 (As := [.int 0, .int 60]) (rest := []) hf (fun v9 g9 h9 => c_X6_takeWhole l E h9) rfl hl rfl rfl rfl dX6_readGiver_31 ⟨Nat.zero_le _, Nat.zero_le _⟩ (fun v8 g7 H locs hj hf => ?_)
      refine q_ifeq C (tgt := 57) dX6_readGiver_34 (by decide) hf (fun hf => ?_) (fun hf => ?_)
      · refine lv_iconst (v := 0) hx hb dX6_readGiver_57 qi_0 ?_
        exact q_z0retW C hj dX6_readGiver_58 hf
      · refine lv_aload_n hx hb dX6_readGiver_37 rfl (lv_at hl 1 rfl) ?_
        refine lv_aload_n hx hb dX6_readGiver_38 rfl (lv_at hl 1 rfl) ?_
        refine q_getR C hj lk_X6_22 dX6_readGiver_39 hf (fun v9 hf => ?_)
        refine q_getR C hj lk_X6_269 dX6_readGiver_42 hf (fun v10 hf => ?_)
        refine lv_iload_n hx hb dX6_readGiver_45 rfl (lv_at hl 0 rfl) ?_
        refine lv_iconst (v := 0) hx hb dX6_readGiver_46 qi_0 ?_
        refine q_cVWI C hj cw_X6_219 (As := [.ref (q_ad E v10), .int v2, .int 0]) (rest := []) hf (fun v9 g9 h9 => c_X6_put l E h9) rfl hl rfl rfl rfl dX6_readGiver_47 ⟨Nat.zero_le _, Nat.zero_le _⟩ (fun v12 g11 H locs hj hf => ?_)
        refine q_ifeq C (tgt := 57) dX6_readGiver_50 (by decide) hf (fun hf => ?_) (fun hf => ?_)
        · refine lv_iconst (v := 0) hx hb dX6_readGiver_57 qi_0 ?_
          exact q_z0retW C hj dX6_readGiver_58 hf
        · refine lv_iconst (v := 1) hx hb dX6_readGiver_53 qi_1 ?_
          refine lv_goto (tgt := 58) hx hb dX6_readGiver_54 (by decide) ?_
          exact q_z1retW C hj dX6_readGiver_58 hf
def f_X6_takeName (g : qS) (a0 : Nat) (a1 : Int32) : Option (Int32 × qS) := (g_C g a0 5).bind fun _ => (g_I g a0 5 7).bind fun v1 => if v1 = 1 then ((f_X6_lineSort g a0).bind fun v5 => if v5 = 10 then ((f_X6_findName g a0).bind fun v6 => if v6 < 0 then ((g_I g a0 5 8).bind fun v7 => q_b2 (f_X6_failAt g a0 2 v7) fun v9 g8 => q_zr v9 (v9, g8)) else ((g_R g a0 5 4).bind fun v10 => (f_X8_get g v10 v6 0).bind fun v11 => if v11 = a1 then ((g_R g a0 5 4).bind fun v12 => (f_X8_get g v12 v6 1).bind fun v13 => q_b2 (f_X6_take g a0 v13) fun v15 g14 => q_zr v15 (v15, g14)) else ((g_I g a0 5 8).bind fun v16 => q_b2 (f_X6_failAt g a0 2 v16) fun v18 g17 => q_zr v18 (v18, g17)))) else ((g_I g a0 5 8).bind fun v19 => q_b2 (f_X6_failAt g a0 1 v19) fun v21 g20 => q_zr v21 (v21, g20))) else ((g_I g a0 5 8).bind fun v2 => q_b2 (f_X6_failAt g a0 1 v2) fun v4 g3 => q_zr v4 (v4, g3))
set_option maxHeartbeats 4000000 in
set_option maxRecDepth 100000 in
theorem c_X6_takeName (l : Launch) (E : qV) {g : qS} {a0 : Nat} {a1 : Int32} {res : (Int32 × qS)} (hf : f_X6_takeName g a0 a1 = some res) : q_MW l yX6_takeName cX6_takeName 3 (some .boolean) 6 164 E [.ref (q_ad E a0), .int a1] g (some (.int res.1)) res.2 ∧ ∃ fs, g a0 = some (.inr (5, fs)) := by
  unfold f_X6_takeName at hf
  obtain ⟨u9, hu9, hf⟩ := q_ob hf
  refine ⟨q_ofW (by decide) rfl ?_, g_C_sp hu9⟩
  intro p e s m args below meth c ls C hj hl
  have hx := C.1
  have hb := C.2.1
  have C : q_C E p s m args meth c cX6_takeName RX6 3 (some .boolean) := C
  have hl : lv_has ls 3 [(0, .ref (q_ad E a0)), (1, .int a1)] := hl
  refine lv_aload_n hx hb dX6_takeName_0 rfl (lv_at hl 0 rfl) ?_
  refine q_getI C hj lk_X6_45 dX6_takeName_1 hf (fun v1 hf => ?_)
  refine lv_iconst (v := 1) hx hb dX6_takeName_4 qi_1 ?_
  refine q_icne C (tgt := 17) dX6_takeName_5 (by decide) hf (fun hf => ?_) (fun hf => ?_)
  · refine lv_aload_n hx hb dX6_takeName_17 rfl (lv_at hl 0 rfl) ?_
    refine lv_iconst (v := 1) hx hb dX6_takeName_18 qi_1 ?_
    refine lv_aload_n hx hb dX6_takeName_19 rfl (lv_at hl 0 rfl) ?_
    refine q_getI C hj lk_X6_48 dX6_takeName_20 hf (fun v2 hf => ?_)
    refine q_cVWI C hj cw_X6_81 (As := [.int 1, .int v2]) (rest := []) hf (fun v9 g9 h9 => c_X6_failAt l E h9) rfl hl rfl rfl rfl dX6_takeName_23 ⟨Nat.zero_le _, Nat.zero_le _⟩ (fun v4 g3 H locs hj hf => ?_)
    exact q_zretW C hj dX6_takeName_26 hf
  · refine lv_aload_n hx hb dX6_takeName_8 rfl (lv_at hl 0 rfl) ?_
    refine q_cVRI C hj cw_X6_124 (As := []) (rest := []) hf (fun v9 h9 => c_X6_lineSort l E h9) rfl hl rfl rfl rfl dX6_takeName_9 ⟨Nat.zero_le _, Nat.zero_le _⟩ (fun v5 hf => ?_)
    refine lv_bipush (v := 10) hx hb dX6_takeName_12 (by decide) ?_
    refine q_iceq C (tgt := 27) dX6_takeName_14 (by decide) hf (fun hf => ?_) (fun hf => ?_)
    · refine lv_aload_n hx hb dX6_takeName_27 rfl (lv_at hl 0 rfl) ?_
      refine q_cVRI C hj cw_X6_127 (As := []) (rest := []) hf (fun v9 h9 => c_X6_findName l E h9) rfl hl rfl rfl rfl dX6_takeName_28 ⟨Nat.zero_le _, Nat.zero_le _⟩ (fun v6 hf => ?_)
      refine lv_istore_n (lv' := [(2, .int v6), (0, .ref (q_ad E a0)), (1, .int a1)]) hx hb dX6_takeName_31 rfl hl (by decide) rfl (fun ls hl => ?_)
      refine lv_iload_n hx hb dX6_takeName_32 rfl (lv_at hl 0 rfl) ?_
      refine q_iflt C (tgt := 49) dX6_takeName_33 (by decide) hf (fun hf => ?_) (fun hf => ?_)
      · refine lv_aload_n hx hb dX6_takeName_49 rfl (lv_at hl 1 rfl) ?_
        refine lv_iconst (v := 2) hx hb dX6_takeName_50 qi_2 ?_
        refine lv_aload_n hx hb dX6_takeName_51 rfl (lv_at hl 1 rfl) ?_
        refine q_getI C hj lk_X6_48 dX6_takeName_52 hf (fun v7 hf => ?_)
        refine q_cVWI C hj cw_X6_81 (As := [.int 2, .int v7]) (rest := []) hf (fun v9 g9 h9 => c_X6_failAt l E h9) rfl hl rfl rfl rfl dX6_takeName_55 ⟨Nat.zero_le _, Nat.zero_le _⟩ (fun v9 g8 H locs hj hf => ?_)
        exact q_zretW C hj dX6_takeName_58 hf
      · refine lv_aload_n hx hb dX6_takeName_36 rfl (lv_at hl 1 rfl) ?_
        refine q_getR C hj lk_X6_35 dX6_takeName_37 hf (fun v10 hf => ?_)
        refine lv_iload_n hx hb dX6_takeName_40 rfl (lv_at hl 0 rfl) ?_
        refine lv_iconst (v := 0) hx hb dX6_takeName_41 qi_0 ?_
        refine q_cVRI C hj cw_X6_134 (As := [.int v6, .int 0]) (rest := []) hf (fun v9 h9 => c_X8_get l E h9) rfl hl rfl rfl rfl dX6_takeName_42 ⟨Nat.zero_le _, Nat.zero_le _⟩ (fun v11 hf => ?_)
        refine lv_iload_n hx hb dX6_takeName_45 rfl (lv_at hl 2 rfl) ?_
        refine q_iceq C (tgt := 59) dX6_takeName_46 (by decide) hf (fun hf => ?_) (fun hf => ?_)
        · refine lv_aload_n hx hb dX6_takeName_59 rfl (lv_at hl 1 rfl) ?_
          refine lv_aload_n hx hb dX6_takeName_60 rfl (lv_at hl 1 rfl) ?_
          refine q_getR C hj lk_X6_35 dX6_takeName_61 hf (fun v12 hf => ?_)
          refine lv_iload_n hx hb dX6_takeName_64 rfl (lv_at hl 0 rfl) ?_
          refine lv_iconst (v := 1) hx hb dX6_takeName_65 qi_1 ?_
          refine q_cVRI C hj cw_X6_134 (As := [.int v6, .int 1]) (rest := [.ref (q_ad E a0)]) hf (fun v9 h9 => c_X8_get l E h9) rfl hl rfl rfl rfl dX6_takeName_66 ⟨Nat.zero_le _, Nat.zero_le _⟩ (fun v13 hf => ?_)
          refine q_cVWI C hj cw_X6_85 (As := [.int v13]) (rest := []) hf (fun v9 g9 h9 => c_X6_take l E h9) rfl hl rfl rfl rfl dX6_takeName_69 ⟨Nat.zero_le _, Nat.zero_le _⟩ (fun v15 g14 H locs hj hf => ?_)
          exact q_zretW C hj dX6_takeName_72 hf
        · refine lv_aload_n hx hb dX6_takeName_49 rfl (lv_at hl 1 rfl) ?_
          refine lv_iconst (v := 2) hx hb dX6_takeName_50 qi_2 ?_
          refine lv_aload_n hx hb dX6_takeName_51 rfl (lv_at hl 1 rfl) ?_
          refine q_getI C hj lk_X6_48 dX6_takeName_52 hf (fun v16 hf => ?_)
          refine q_cVWI C hj cw_X6_81 (As := [.int 2, .int v16]) (rest := []) hf (fun v9 g9 h9 => c_X6_failAt l E h9) rfl hl rfl rfl rfl dX6_takeName_55 ⟨Nat.zero_le _, Nat.zero_le _⟩ (fun v18 g17 H locs hj hf => ?_)
          exact q_zretW C hj dX6_takeName_58 hf
    · refine lv_aload_n hx hb dX6_takeName_17 rfl (lv_at hl 0 rfl) ?_
      refine lv_iconst (v := 1) hx hb dX6_takeName_18 qi_1 ?_
      refine lv_aload_n hx hb dX6_takeName_19 rfl (lv_at hl 0 rfl) ?_
      refine q_getI C hj lk_X6_48 dX6_takeName_20 hf (fun v19 hf => ?_)
      refine q_cVWI C hj cw_X6_81 (As := [.int 1, .int v19]) (rest := []) hf (fun v9 g9 h9 => c_X6_failAt l E h9) rfl hl rfl rfl rfl dX6_takeName_23 ⟨Nat.zero_le _, Nat.zero_le _⟩ (fun v21 g20 H locs hj hf => ?_)
      exact q_zretW C hj dX6_takeName_26 hf
def f_X6_readJourney (g : qS) (a0 : Nat) (a1 : Int32) (a2 : Nat) : Option (Int32 × qS) := (g_C g a0 5).bind fun _ => q_b2 (f_X6_takeName g a0 a1) fun v2 g1 => if v2 = 0 then (some (0, g1)) else ((g_I g1 a0 5 11).bind fun v3 => q_b2 (f_X6_takeName g1 a0 4) fun v5 g4 => if v5 = 0 then (some (0, g4)) else ((g_I g4 a0 5 11).bind fun v6 => (g_R g4 a0 5 2).bind fun v7 => (f_X3_count g4 v7 0).bind fun v8 => q_b2 (f_X6_takeWhole g4 a0 0 (v8 - 1)) fun v10 g9 => if v10 = 0 then (some (0, g9)) else ((g_I g9 a0 5 11).bind fun v11 => (f_X8_get g9 a2 v3 v11).bind fun v12 => if v12 < 0 then ((g_I g9 a0 5 11).bind fun v13 => (f_X8_set g9 a2 v3 v13 v6).bind fun g14 => some (1, g14)) else ((g_I g9 a0 5 12).bind fun v15 => q_b2 (f_X6_failAt g9 a0 3 v15) fun v17 g16 => q_zr v17 (v17, g16)))))
set_option maxHeartbeats 4000000 in
set_option maxRecDepth 100000 in
theorem c_X6_readJourney (l : Launch) (E : qV) {g : qS} {a0 : Nat} {a1 : Int32} {a2 : Nat} {res : (Int32 × qS)} (hf : f_X6_readJourney g a0 a1 a2 = some res) : q_MW l yX6_readJourney cX6_readJourney 5 (some .boolean) 7 186 E [.ref (q_ad E a0), .int a1, .ref (q_ad E a2)] g (some (.int res.1)) res.2 ∧ ∃ fs, g a0 = some (.inr (5, fs)) := by
  unfold f_X6_readJourney at hf
  obtain ⟨u9, hu9, hf⟩ := q_ob hf
  refine ⟨q_ofW (by decide) rfl ?_, g_C_sp hu9⟩
  intro p e s m args below meth c ls C hj hl
  have hx := C.1
  have hb := C.2.1
  have C : q_C E p s m args meth c cX6_readJourney RX6 5 (some .boolean) := C
  have hl : lv_has ls 5 [(0, .ref (q_ad E a0)), (1, .int a1), (2, .ref (q_ad E a2))] := hl
  refine lv_aload_n hx hb dX6_readJourney_0 rfl (lv_at hl 0 rfl) ?_
  refine lv_iload_n hx hb dX6_readJourney_1 rfl (lv_at hl 1 rfl) ?_
  refine q_cVWI C hj cw_X6_272 (As := [.int a1]) (rest := []) hf (fun v9 g9 h9 => c_X6_takeName l E h9) rfl hl rfl rfl rfl dX6_readJourney_2 ⟨Nat.zero_le _, Nat.zero_le _⟩ (fun v2 g1 H locs hj hf => ?_)
  refine q_ifne C (tgt := 10) dX6_readJourney_5 (by decide) hf (fun hf => ?_) (fun hf => ?_)
  · refine lv_aload_n hx hb dX6_readJourney_10 rfl (lv_at hl 0 rfl) ?_
    refine q_getI C hj lk_X6_58 dX6_readJourney_11 hf (fun v3 hf => ?_)
    refine lv_istore_n (lv' := [(3, .int v3), (0, .ref (q_ad E a0)), (1, .int a1), (2, .ref (q_ad E a2))]) hx hb dX6_readJourney_14 rfl hl (by decide) rfl (fun ls hl => ?_)
    refine lv_aload_n hx hb dX6_readJourney_15 rfl (lv_at hl 1 rfl) ?_
    refine lv_iconst (v := 4) hx hb dX6_readJourney_16 qi_4 ?_
    refine q_cVWI C hj cw_X6_272 (As := [.int 4]) (rest := []) hf (fun v9 g9 h9 => c_X6_takeName l E h9) rfl hl rfl rfl rfl dX6_readJourney_17 ⟨Nat.zero_le _, Nat.zero_le _⟩ (fun v5 g4 H locs hj hf => ?_)
    refine q_ifne C (tgt := 25) dX6_readJourney_20 (by decide) hf (fun hf => ?_) (fun hf => ?_)
    · refine lv_aload_n hx hb dX6_readJourney_25 rfl (lv_at hl 1 rfl) ?_
      refine q_getI C hj lk_X6_58 dX6_readJourney_26 hf (fun v6 hf => ?_)
      refine lv_istore (lv' := [(4, .int v6), (3, .int v3), (0, .ref (q_ad E a0)), (1, .int a1), (2, .ref (q_ad E a2))]) hx hb dX6_readJourney_29 hl (by decide) rfl (fun ls hl => ?_)
      refine lv_aload_n hx hb dX6_readJourney_31 rfl (lv_at hl 2 rfl) ?_
      refine lv_iconst (v := 0) hx hb dX6_readJourney_32 qi_0 ?_
      refine lv_aload_n hx hb dX6_readJourney_33 rfl (lv_at hl 2 rfl) ?_
      refine q_getR C hj lk_X6_22 dX6_readJourney_34 hf (fun v7 hf => ?_)
      refine lv_iconst (v := 0) hx hb dX6_readJourney_37 qi_0 ?_
      refine q_cVRI C hj cw_X6_98 (As := [.int 0]) (rest := [.int 0, .ref (q_ad E a0)]) hf (fun v9 h9 => c_X3_count l E h9) rfl hl rfl rfl rfl dX6_readJourney_38 ⟨Nat.zero_le _, Nat.zero_le _⟩ (fun v8 hf => ?_)
      refine lv_iconst (v := 1) hx hb dX6_readJourney_41 qi_1 ?_
      refine lv_isub hx hb dX6_readJourney_42 ?_
      refine q_cVWI C hj cw_X6_216 (As := [.int 0, .int (v8 - 1)]) (rest := []) hf (fun v9 g9 h9 => c_X6_takeWhole l E h9) rfl hl rfl rfl rfl dX6_readJourney_43 ⟨Nat.zero_le _, Nat.zero_le _⟩ (fun v10 g9 H locs hj hf => ?_)
      refine q_ifne C (tgt := 51) dX6_readJourney_46 (by decide) hf (fun hf => ?_) (fun hf => ?_)
      · refine lv_aload_n hx hb dX6_readJourney_51 rfl (lv_at hl 4 rfl) ?_
        refine lv_iload_n hx hb dX6_readJourney_52 rfl (lv_at hl 1 rfl) ?_
        refine lv_aload_n hx hb dX6_readJourney_53 rfl (lv_at hl 2 rfl) ?_
        refine q_getI C hj lk_X6_58 dX6_readJourney_54 hf (fun v11 hf => ?_)
        refine q_cVRI C hj cw_X6_134 (As := [.int v3, .int v11]) (rest := []) hf (fun v9 h9 => c_X8_get l E h9) rfl hl rfl rfl rfl dX6_readJourney_57 ⟨Nat.zero_le _, Nat.zero_le _⟩ (fun v12 hf => ?_)
        refine q_iflt C (tgt := 73) dX6_readJourney_60 (by decide) hf (fun hf => ?_) (fun hf => ?_)
        · refine lv_aload_n hx hb dX6_readJourney_73 rfl (lv_at hl 4 rfl) ?_
          refine lv_iload_n hx hb dX6_readJourney_74 rfl (lv_at hl 1 rfl) ?_
          refine lv_aload_n hx hb dX6_readJourney_75 rfl (lv_at hl 2 rfl) ?_
          refine q_getI C hj lk_X6_58 dX6_readJourney_76 hf (fun v13 hf => ?_)
          refine lv_iload hx hb dX6_readJourney_79 (lv_at hl 0 rfl) ?_
          refine q_cVWV C hj cw_X6_130 (As := [.int v3, .int v13, .int v6]) (rest := []) hf (fun g9 h9 => c_X8_set l E h9) rfl hl rfl rfl rfl dX6_readJourney_81 ⟨Nat.zero_le _, Nat.zero_le _⟩ (fun g14 H locs hj hf => ?_)
          refine lv_iconst (v := 1) hx hb dX6_readJourney_84 qi_1 ?_
          exact q_z1retW C hj dX6_readJourney_85 hf
        · refine lv_aload_n hx hb dX6_readJourney_63 rfl (lv_at hl 2 rfl) ?_
          refine lv_iconst (v := 3) hx hb dX6_readJourney_64 qi_3 ?_
          refine lv_aload_n hx hb dX6_readJourney_65 rfl (lv_at hl 2 rfl) ?_
          refine q_getI C hj lk_X6_61 dX6_readJourney_66 hf (fun v15 hf => ?_)
          refine q_cVWI C hj cw_X6_81 (As := [.int 3, .int v15]) (rest := []) hf (fun v9 g9 h9 => c_X6_failAt l E h9) rfl hl rfl rfl rfl dX6_readJourney_69 ⟨Nat.zero_le _, Nat.zero_le _⟩ (fun v17 g16 H locs hj hf => ?_)
          exact q_zretW C hj dX6_readJourney_72 hf
      · refine lv_iconst (v := 0) hx hb dX6_readJourney_49 qi_0 ?_
        exact q_z0retW C hj dX6_readJourney_50 hf
    · refine lv_iconst (v := 0) hx hb dX6_readJourney_23 qi_0 ?_
      exact q_z0retW C hj dX6_readJourney_24 hf
  · refine lv_iconst (v := 0) hx hb dX6_readJourney_8 qi_0 ?_
    exact q_z0retW C hj dX6_readJourney_9 hf
def f_X6_readGift (g : qS) (a0 : Nat) : Option (Int32 × qS) := (g_C g a0 5).bind fun _ => (g_R g a0 5 2).bind fun v1 => (f_X3_count g v1 7).bind fun v2 => q_b2 (f_X6_takeName g a0 5) fun v4 g3 => if v4 = 0 then (some (0, g3)) else ((g_R g3 a0 5 2).bind fun v5 => (g_R g3 v5 2 4).bind fun v6 => q_b2 (f_X6_put g3 a0 v6 v2 0) fun v8 g7 => if v8 = 0 then (some (0, g7)) else (q_b2 (f_X6_takeName g7 a0 2) fun v10 g9 => if v10 = 0 then (some (0, g9)) else ((g_R g9 a0 5 2).bind fun v11 => (g_R g9 v11 2 4).bind fun v12 => q_b2 (f_X6_put g9 a0 v12 v2 1) fun v14 g13 => if v14 = 0 then (some (0, g13)) else (q_b2 (f_X6_takeName g13 a0 3) fun v16 g15 => if v16 = 0 then (some (0, g15)) else ((g_R g15 a0 5 2).bind fun v17 => (g_R g15 v17 2 4).bind fun v18 => q_b2 (f_X6_put g15 a0 v18 v2 2) fun v20 g19 => if v20 = 0 then (some (0, g19)) else ((g_R g19 a0 5 2).bind fun v21 => (f_X3_count g19 v21 0).bind fun v22 => q_b2 (f_X6_takeWhole g19 a0 0 (v22 - 1)) fun v24 g23 => if v24 = 0 then (some (0, g23)) else ((g_R g23 a0 5 2).bind fun v25 => (g_R g23 v25 2 4).bind fun v26 => q_b2 (f_X6_put g23 a0 v26 v2 3) fun v28 g27 => if v28 = 0 then (some (0, g27)) else (some (1, g27)))))))))
set_option maxHeartbeats 4000000 in
set_option maxRecDepth 100000 in
theorem c_X6_readGift (l : Launch) (E : qV) {g : qS} {a0 : Nat} {res : (Int32 × qS)} (hf : f_X6_readGift g a0 = some res) : q_MW l yX6_readGift cX6_readGift 2 (some .boolean) 7 186 E [.ref (q_ad E a0)] g (some (.int res.1)) res.2 ∧ ∃ fs, g a0 = some (.inr (5, fs)) := by
  unfold f_X6_readGift at hf
  obtain ⟨u9, hu9, hf⟩ := q_ob hf
  refine ⟨q_ofW (by decide) rfl ?_, g_C_sp hu9⟩
  intro p e s m args below meth c ls C hj hl
  have hx := C.1
  have hb := C.2.1
  have C : q_C E p s m args meth c cX6_readGift RX6 2 (some .boolean) := C
  have hl : lv_has ls 2 [(0, .ref (q_ad E a0))] := hl
  refine lv_aload_n hx hb dX6_readGift_0 rfl (lv_at hl 0 rfl) ?_
  refine q_getR C hj lk_X6_22 dX6_readGift_1 hf (fun v1 hf => ?_)
  refine lv_bipush (v := 7) hx hb dX6_readGift_4 (by decide) ?_
  refine q_cVRI C hj cw_X6_98 (As := [.int 7]) (rest := []) hf (fun v9 h9 => c_X3_count l E h9) rfl hl rfl rfl rfl dX6_readGift_6 ⟨Nat.zero_le _, Nat.zero_le _⟩ (fun v2 hf => ?_)
  refine lv_istore_n (lv' := [(1, .int v2), (0, .ref (q_ad E a0))]) hx hb dX6_readGift_9 rfl hl (by decide) rfl (fun ls hl => ?_)
  refine lv_aload_n hx hb dX6_readGift_10 rfl (lv_at hl 1 rfl) ?_
  refine lv_iconst (v := 5) hx hb dX6_readGift_11 qi_5 ?_
  refine q_cVWI C hj cw_X6_272 (As := [.int 5]) (rest := []) hf (fun v9 g9 h9 => c_X6_takeName l E h9) rfl hl rfl rfl rfl dX6_readGift_12 ⟨Nat.zero_le _, Nat.zero_le _⟩ (fun v4 g3 H locs hj hf => ?_)
  refine q_ifeq C (tgt := 120) dX6_readGift_15 (by decide) hf (fun hf => ?_) (fun hf => ?_)
  · refine lv_iconst (v := 0) hx hb dX6_readGift_120 qi_0 ?_
    exact q_z0retW C hj dX6_readGift_121 hf
  · refine lv_aload_n hx hb dX6_readGift_18 rfl (lv_at hl 1 rfl) ?_
    refine lv_aload_n hx hb dX6_readGift_19 rfl (lv_at hl 1 rfl) ?_
    refine q_getR C hj lk_X6_22 dX6_readGift_20 hf (fun v5 hf => ?_)
    refine q_getR C hj lk_X6_275 dX6_readGift_23 hf (fun v6 hf => ?_)
    refine lv_iload_n hx hb dX6_readGift_26 rfl (lv_at hl 0 rfl) ?_
    refine lv_iconst (v := 0) hx hb dX6_readGift_27 qi_0 ?_
    refine q_cVWI C hj cw_X6_219 (As := [.ref (q_ad E v6), .int v2, .int 0]) (rest := []) hf (fun v9 g9 h9 => c_X6_put l E h9) rfl hl rfl rfl rfl dX6_readGift_28 ⟨Nat.zero_le _, Nat.zero_le _⟩ (fun v8 g7 H locs hj hf => ?_)
    refine q_ifeq C (tgt := 120) dX6_readGift_31 (by decide) hf (fun hf => ?_) (fun hf => ?_)
    · refine lv_iconst (v := 0) hx hb dX6_readGift_120 qi_0 ?_
      exact q_z0retW C hj dX6_readGift_121 hf
    · refine lv_aload_n hx hb dX6_readGift_34 rfl (lv_at hl 1 rfl) ?_
      refine lv_iconst (v := 2) hx hb dX6_readGift_35 qi_2 ?_
      refine q_cVWI C hj cw_X6_272 (As := [.int 2]) (rest := []) hf (fun v9 g9 h9 => c_X6_takeName l E h9) rfl hl rfl rfl rfl dX6_readGift_36 ⟨Nat.zero_le _, Nat.zero_le _⟩ (fun v10 g9 H locs hj hf => ?_)
      refine q_ifeq C (tgt := 120) dX6_readGift_39 (by decide) hf (fun hf => ?_) (fun hf => ?_)
      · refine lv_iconst (v := 0) hx hb dX6_readGift_120 qi_0 ?_
        exact q_z0retW C hj dX6_readGift_121 hf
      · refine lv_aload_n hx hb dX6_readGift_42 rfl (lv_at hl 1 rfl) ?_
        refine lv_aload_n hx hb dX6_readGift_43 rfl (lv_at hl 1 rfl) ?_
        refine q_getR C hj lk_X6_22 dX6_readGift_44 hf (fun v11 hf => ?_)
        refine q_getR C hj lk_X6_275 dX6_readGift_47 hf (fun v12 hf => ?_)
        refine lv_iload_n hx hb dX6_readGift_50 rfl (lv_at hl 0 rfl) ?_
        refine lv_iconst (v := 1) hx hb dX6_readGift_51 qi_1 ?_
        refine q_cVWI C hj cw_X6_219 (As := [.ref (q_ad E v12), .int v2, .int 1]) (rest := []) hf (fun v9 g9 h9 => c_X6_put l E h9) rfl hl rfl rfl rfl dX6_readGift_52 ⟨Nat.zero_le _, Nat.zero_le _⟩ (fun v14 g13 H locs hj hf => ?_)
        refine q_ifeq C (tgt := 120) dX6_readGift_55 (by decide) hf (fun hf => ?_) (fun hf => ?_)
        · refine lv_iconst (v := 0) hx hb dX6_readGift_120 qi_0 ?_
          exact q_z0retW C hj dX6_readGift_121 hf
        · refine lv_aload_n hx hb dX6_readGift_58 rfl (lv_at hl 1 rfl) ?_
          refine lv_iconst (v := 3) hx hb dX6_readGift_59 qi_3 ?_
          refine q_cVWI C hj cw_X6_272 (As := [.int 3]) (rest := []) hf (fun v9 g9 h9 => c_X6_takeName l E h9) rfl hl rfl rfl rfl dX6_readGift_60 ⟨Nat.zero_le _, Nat.zero_le _⟩ (fun v16 g15 H locs hj hf => ?_)
          refine q_ifeq C (tgt := 120) dX6_readGift_63 (by decide) hf (fun hf => ?_) (fun hf => ?_)
          · refine lv_iconst (v := 0) hx hb dX6_readGift_120 qi_0 ?_
            exact q_z0retW C hj dX6_readGift_121 hf
          · refine lv_aload_n hx hb dX6_readGift_66 rfl (lv_at hl 1 rfl) ?_
            refine lv_aload_n hx hb dX6_readGift_67 rfl (lv_at hl 1 rfl) ?_
            refine q_getR C hj lk_X6_22 dX6_readGift_68 hf (fun v17 hf => ?_)
            refine q_getR C hj lk_X6_275 dX6_readGift_71 hf (fun v18 hf => ?_)
            refine lv_iload_n hx hb dX6_readGift_74 rfl (lv_at hl 0 rfl) ?_
            refine lv_iconst (v := 2) hx hb dX6_readGift_75 qi_2 ?_
            refine q_cVWI C hj cw_X6_219 (As := [.ref (q_ad E v18), .int v2, .int 2]) (rest := []) hf (fun v9 g9 h9 => c_X6_put l E h9) rfl hl rfl rfl rfl dX6_readGift_76 ⟨Nat.zero_le _, Nat.zero_le _⟩ (fun v20 g19 H locs hj hf => ?_)
            refine q_ifeq C (tgt := 120) dX6_readGift_79 (by decide) hf (fun hf => ?_) (fun hf => ?_)
            · refine lv_iconst (v := 0) hx hb dX6_readGift_120 qi_0 ?_
              exact q_z0retW C hj dX6_readGift_121 hf
            · refine lv_aload_n hx hb dX6_readGift_82 rfl (lv_at hl 1 rfl) ?_
              refine lv_iconst (v := 0) hx hb dX6_readGift_83 qi_0 ?_
              refine lv_aload_n hx hb dX6_readGift_84 rfl (lv_at hl 1 rfl) ?_
              refine q_getR C hj lk_X6_22 dX6_readGift_85 hf (fun v21 hf => ?_)
              refine lv_iconst (v := 0) hx hb dX6_readGift_88 qi_0 ?_
              refine q_cVRI C hj cw_X6_98 (As := [.int 0]) (rest := [.int 0, .ref (q_ad E a0)]) hf (fun v9 h9 => c_X3_count l E h9) rfl hl rfl rfl rfl dX6_readGift_89 ⟨Nat.zero_le _, Nat.zero_le _⟩ (fun v22 hf => ?_)
              refine lv_iconst (v := 1) hx hb dX6_readGift_92 qi_1 ?_
              refine lv_isub hx hb dX6_readGift_93 ?_
              refine q_cVWI C hj cw_X6_216 (As := [.int 0, .int (v22 - 1)]) (rest := []) hf (fun v9 g9 h9 => c_X6_takeWhole l E h9) rfl hl rfl rfl rfl dX6_readGift_94 ⟨Nat.zero_le _, Nat.zero_le _⟩ (fun v24 g23 H locs hj hf => ?_)
              refine q_ifeq C (tgt := 120) dX6_readGift_97 (by decide) hf (fun hf => ?_) (fun hf => ?_)
              · refine lv_iconst (v := 0) hx hb dX6_readGift_120 qi_0 ?_
                exact q_z0retW C hj dX6_readGift_121 hf
              · refine lv_aload_n hx hb dX6_readGift_100 rfl (lv_at hl 1 rfl) ?_
                refine lv_aload_n hx hb dX6_readGift_101 rfl (lv_at hl 1 rfl) ?_
                refine q_getR C hj lk_X6_22 dX6_readGift_102 hf (fun v25 hf => ?_)
                refine q_getR C hj lk_X6_275 dX6_readGift_105 hf (fun v26 hf => ?_)
                refine lv_iload_n hx hb dX6_readGift_108 rfl (lv_at hl 0 rfl) ?_
                refine lv_iconst (v := 3) hx hb dX6_readGift_109 qi_3 ?_
                refine q_cVWI C hj cw_X6_219 (As := [.ref (q_ad E v26), .int v2, .int 3]) (rest := []) hf (fun v9 g9 h9 => c_X6_put l E h9) rfl hl rfl rfl rfl dX6_readGift_110 ⟨Nat.zero_le _, Nat.zero_le _⟩ (fun v28 g27 H locs hj hf => ?_)
                refine q_ifeq C (tgt := 120) dX6_readGift_113 (by decide) hf (fun hf => ?_) (fun hf => ?_)
                · refine lv_iconst (v := 0) hx hb dX6_readGift_120 qi_0 ?_
                  exact q_z0retW C hj dX6_readGift_121 hf
                · refine lv_iconst (v := 1) hx hb dX6_readGift_116 qi_1 ?_
                  refine lv_goto (tgt := 121) hx hb dX6_readGift_117 (by decide) ?_
                  exact q_z1retW C hj dX6_readGift_121 hf
def f_X6_readFound (g : qS) (a0 : Nat) : Option (Int32 × qS) := (g_C g a0 5).bind fun _ => (g_R g a0 5 2).bind fun v1 => (f_X3_count g v1 8).bind fun v2 => q_b2 (f_X6_takeName g a0 2) fun v4 g3 => if v4 = 0 then (some (0, g3)) else ((g_R g3 a0 5 2).bind fun v5 => (g_I g3 a0 5 11).bind fun v6 => (f_X3_isFound g3 v5 v6).bind fun v7 => if v7 = 0 then ((g_R g3 a0 5 2).bind fun v8 => (g_R g3 v8 2 5).bind fun v9 => q_b2 (f_X6_put g3 a0 v9 v2 0) fun v11 g10 => if v11 = 0 then (some (0, g10)) else (q_b2 (f_X6_takeName g10 a0 3) fun v13 g12 => if v13 = 0 then (some (0, g12)) else ((g_R g12 a0 5 2).bind fun v14 => (g_R g12 v14 2 5).bind fun v15 => q_b2 (f_X6_put g12 a0 v15 v2 1) fun v17 g16 => if v17 = 0 then (some (0, g16)) else (some (1, g16))))) else ((g_I g3 a0 5 12).bind fun v18 => q_b2 (f_X6_failAt g3 a0 3 v18) fun v20 g19 => q_zr v20 (v20, g19)))
set_option maxHeartbeats 4000000 in
set_option maxRecDepth 100000 in
theorem c_X6_readFound (l : Launch) (E : qV) {g : qS} {a0 : Nat} {res : (Int32 × qS)} (hf : f_X6_readFound g a0 = some res) : q_MW l yX6_readFound cX6_readFound 2 (some .boolean) 7 186 E [.ref (q_ad E a0)] g (some (.int res.1)) res.2 ∧ ∃ fs, g a0 = some (.inr (5, fs)) := by
  unfold f_X6_readFound at hf
  obtain ⟨u9, hu9, hf⟩ := q_ob hf
  refine ⟨q_ofW (by decide) rfl ?_, g_C_sp hu9⟩
  intro p e s m args below meth c ls C hj hl
  have hx := C.1
  have hb := C.2.1
  have C : q_C E p s m args meth c cX6_readFound RX6 2 (some .boolean) := C
  have hl : lv_has ls 2 [(0, .ref (q_ad E a0))] := hl
  refine lv_aload_n hx hb dX6_readFound_0 rfl (lv_at hl 0 rfl) ?_
  refine q_getR C hj lk_X6_22 dX6_readFound_1 hf (fun v1 hf => ?_)
  refine lv_bipush (v := 8) hx hb dX6_readFound_4 (by decide) ?_
  refine q_cVRI C hj cw_X6_98 (As := [.int 8]) (rest := []) hf (fun v9 h9 => c_X3_count l E h9) rfl hl rfl rfl rfl dX6_readFound_6 ⟨Nat.zero_le _, Nat.zero_le _⟩ (fun v2 hf => ?_)
  refine lv_istore_n (lv' := [(1, .int v2), (0, .ref (q_ad E a0))]) hx hb dX6_readFound_9 rfl hl (by decide) rfl (fun ls hl => ?_)
  refine lv_aload_n hx hb dX6_readFound_10 rfl (lv_at hl 1 rfl) ?_
  refine lv_iconst (v := 2) hx hb dX6_readFound_11 qi_2 ?_
  refine q_cVWI C hj cw_X6_272 (As := [.int 2]) (rest := []) hf (fun v9 g9 h9 => c_X6_takeName l E h9) rfl hl rfl rfl rfl dX6_readFound_12 ⟨Nat.zero_le _, Nat.zero_le _⟩ (fun v4 g3 H locs hj hf => ?_)
  refine q_ifne C (tgt := 20) dX6_readFound_15 (by decide) hf (fun hf => ?_) (fun hf => ?_)
  · refine lv_aload_n hx hb dX6_readFound_20 rfl (lv_at hl 1 rfl) ?_
    refine q_getR C hj lk_X6_22 dX6_readFound_21 hf (fun v5 hf => ?_)
    refine lv_aload_n hx hb dX6_readFound_24 rfl (lv_at hl 1 rfl) ?_
    refine q_getI C hj lk_X6_58 dX6_readFound_25 hf (fun v6 hf => ?_)
    refine q_cVRI C hj cw_X6_278 (As := [.int v6]) (rest := []) hf (fun v9 h9 => c_X3_isFound l E h9) rfl hl rfl rfl rfl dX6_readFound_28 ⟨Nat.zero_le _, Nat.zero_le _⟩ (fun v7 hf => ?_)
    refine q_ifeq C (tgt := 44) dX6_readFound_31 (by decide) hf (fun hf => ?_) (fun hf => ?_)
    · refine lv_aload_n hx hb dX6_readFound_44 rfl (lv_at hl 1 rfl) ?_
      refine lv_aload_n hx hb dX6_readFound_45 rfl (lv_at hl 1 rfl) ?_
      refine q_getR C hj lk_X6_22 dX6_readFound_46 hf (fun v8 hf => ?_)
      refine q_getR C hj lk_X6_281 dX6_readFound_49 hf (fun v9 hf => ?_)
      refine lv_iload_n hx hb dX6_readFound_52 rfl (lv_at hl 0 rfl) ?_
      refine lv_iconst (v := 0) hx hb dX6_readFound_53 qi_0 ?_
      refine q_cVWI C hj cw_X6_219 (As := [.ref (q_ad E v9), .int v2, .int 0]) (rest := []) hf (fun v9 g9 h9 => c_X6_put l E h9) rfl hl rfl rfl rfl dX6_readFound_54 ⟨Nat.zero_le _, Nat.zero_le _⟩ (fun v11 g10 H locs hj hf => ?_)
      refine q_ifeq C (tgt := 88) dX6_readFound_57 (by decide) hf (fun hf => ?_) (fun hf => ?_)
      · refine lv_iconst (v := 0) hx hb dX6_readFound_88 qi_0 ?_
        exact q_z0retW C hj dX6_readFound_89 hf
      · refine lv_aload_n hx hb dX6_readFound_60 rfl (lv_at hl 1 rfl) ?_
        refine lv_iconst (v := 3) hx hb dX6_readFound_61 qi_3 ?_
        refine q_cVWI C hj cw_X6_272 (As := [.int 3]) (rest := []) hf (fun v9 g9 h9 => c_X6_takeName l E h9) rfl hl rfl rfl rfl dX6_readFound_62 ⟨Nat.zero_le _, Nat.zero_le _⟩ (fun v13 g12 H locs hj hf => ?_)
        refine q_ifeq C (tgt := 88) dX6_readFound_65 (by decide) hf (fun hf => ?_) (fun hf => ?_)
        · refine lv_iconst (v := 0) hx hb dX6_readFound_88 qi_0 ?_
          exact q_z0retW C hj dX6_readFound_89 hf
        · refine lv_aload_n hx hb dX6_readFound_68 rfl (lv_at hl 1 rfl) ?_
          refine lv_aload_n hx hb dX6_readFound_69 rfl (lv_at hl 1 rfl) ?_
          refine q_getR C hj lk_X6_22 dX6_readFound_70 hf (fun v14 hf => ?_)
          refine q_getR C hj lk_X6_281 dX6_readFound_73 hf (fun v15 hf => ?_)
          refine lv_iload_n hx hb dX6_readFound_76 rfl (lv_at hl 0 rfl) ?_
          refine lv_iconst (v := 1) hx hb dX6_readFound_77 qi_1 ?_
          refine q_cVWI C hj cw_X6_219 (As := [.ref (q_ad E v15), .int v2, .int 1]) (rest := []) hf (fun v9 g9 h9 => c_X6_put l E h9) rfl hl rfl rfl rfl dX6_readFound_78 ⟨Nat.zero_le _, Nat.zero_le _⟩ (fun v17 g16 H locs hj hf => ?_)
          refine q_ifeq C (tgt := 88) dX6_readFound_81 (by decide) hf (fun hf => ?_) (fun hf => ?_)
          · refine lv_iconst (v := 0) hx hb dX6_readFound_88 qi_0 ?_
            exact q_z0retW C hj dX6_readFound_89 hf
          · refine lv_iconst (v := 1) hx hb dX6_readFound_84 qi_1 ?_
            refine lv_goto (tgt := 89) hx hb dX6_readFound_85 (by decide) ?_
            exact q_z1retW C hj dX6_readFound_89 hf
    · refine lv_aload_n hx hb dX6_readFound_34 rfl (lv_at hl 1 rfl) ?_
      refine lv_iconst (v := 3) hx hb dX6_readFound_35 qi_3 ?_
      refine lv_aload_n hx hb dX6_readFound_36 rfl (lv_at hl 1 rfl) ?_
      refine q_getI C hj lk_X6_61 dX6_readFound_37 hf (fun v18 hf => ?_)
      refine q_cVWI C hj cw_X6_81 (As := [.int 3, .int v18]) (rest := []) hf (fun v9 g9 h9 => c_X6_failAt l E h9) rfl hl rfl rfl rfl dX6_readFound_40 ⟨Nat.zero_le _, Nat.zero_le _⟩ (fun v20 g19 H locs hj hf => ?_)
      exact q_zretW C hj dX6_readFound_43 hf
  · refine lv_iconst (v := 0) hx hb dX6_readFound_18 qi_0 ?_
    exact q_z0retW C hj dX6_readFound_19 hf
def f_X6_readExam (g : qS) (a0 : Nat) : Option (Int32 × qS) := (g_C g a0 5).bind fun _ => (g_R g a0 5 2).bind fun v1 => (f_X3_count g v1 9).bind fun v2 => q_b2 (f_X6_takeName g a0 5) fun v4 g3 => if v4 = 0 then (some (0, g3)) else ((g_R g3 a0 5 2).bind fun v5 => (g_R g3 v5 2 6).bind fun v6 => q_b2 (f_X6_put g3 a0 v6 v2 0) fun v8 g7 => if v8 = 0 then (some (0, g7)) else (q_b2 (f_X6_takeName g7 a0 2) fun v10 g9 => if v10 = 0 then (some (0, g9)) else ((g_R g9 a0 5 2).bind fun v11 => (g_R g9 v11 2 6).bind fun v12 => q_b2 (f_X6_put g9 a0 v12 v2 1) fun v14 g13 => if v14 = 0 then (some (0, g13)) else (q_b2 (f_X6_takeName g13 a0 3) fun v16 g15 => if v16 = 0 then (some (0, g15)) else ((g_R g15 a0 5 2).bind fun v17 => (g_R g15 v17 2 6).bind fun v18 => q_b2 (f_X6_put g15 a0 v18 v2 2) fun v20 g19 => if v20 = 0 then (some (0, g19)) else (q_b2 (f_X6_takeName g19 a0 4) fun v22 g21 => if v22 = 0 then (some (0, g21)) else ((g_R g21 a0 5 2).bind fun v23 => (g_R g21 v23 2 6).bind fun v24 => q_b2 (f_X6_put g21 a0 v24 v2 3) fun v26 g25 => if v26 = 0 then (some (0, g25)) else (q_b2 (f_X6_takeOneOf g25 a0 26 27 15 15) fun v28 g27 => if v28 = 0 then (some (0, g27)) else ((g_R g27 a0 5 2).bind fun v29 => (g_R g27 v29 2 6).bind fun v30 => q_b2 (f_X6_put g27 a0 v30 v2 4) fun v32 g31 => if v32 = 0 then (some (0, g31)) else (some (1, g31)))))))))))
set_option maxHeartbeats 4000000 in
set_option maxRecDepth 100000 in
theorem c_X6_readExam (l : Launch) (E : qV) {g : qS} {a0 : Nat} {res : (Int32 × qS)} (hf : f_X6_readExam g a0 = some res) : q_MW l yX6_readExam cX6_readExam 2 (some .boolean) 7 186 E [.ref (q_ad E a0)] g (some (.int res.1)) res.2 ∧ ∃ fs, g a0 = some (.inr (5, fs)) := by
  unfold f_X6_readExam at hf
  obtain ⟨u9, hu9, hf⟩ := q_ob hf
  refine ⟨q_ofW (by decide) rfl ?_, g_C_sp hu9⟩
  intro p e s m args below meth c ls C hj hl
  have hx := C.1
  have hb := C.2.1
  have C : q_C E p s m args meth c cX6_readExam RX6 2 (some .boolean) := C
  have hl : lv_has ls 2 [(0, .ref (q_ad E a0))] := hl
  refine lv_aload_n hx hb dX6_readExam_0 rfl (lv_at hl 0 rfl) ?_
  refine q_getR C hj lk_X6_22 dX6_readExam_1 hf (fun v1 hf => ?_)
  refine lv_bipush (v := 9) hx hb dX6_readExam_4 (by decide) ?_
  refine q_cVRI C hj cw_X6_98 (As := [.int 9]) (rest := []) hf (fun v9 h9 => c_X3_count l E h9) rfl hl rfl rfl rfl dX6_readExam_6 ⟨Nat.zero_le _, Nat.zero_le _⟩ (fun v2 hf => ?_)
  refine lv_istore_n (lv' := [(1, .int v2), (0, .ref (q_ad E a0))]) hx hb dX6_readExam_9 rfl hl (by decide) rfl (fun ls hl => ?_)
  refine lv_aload_n hx hb dX6_readExam_10 rfl (lv_at hl 1 rfl) ?_
  refine lv_iconst (v := 5) hx hb dX6_readExam_11 qi_5 ?_
  refine q_cVWI C hj cw_X6_272 (As := [.int 5]) (rest := []) hf (fun v9 g9 h9 => c_X6_takeName l E h9) rfl hl rfl rfl rfl dX6_readExam_12 ⟨Nat.zero_le _, Nat.zero_le _⟩ (fun v4 g3 H locs hj hf => ?_)
  refine q_ifeq C (tgt := 143) dX6_readExam_15 (by decide) hf (fun hf => ?_) (fun hf => ?_)
  · refine lv_iconst (v := 0) hx hb dX6_readExam_143 qi_0 ?_
    exact q_z0retW C hj dX6_readExam_144 hf
  · refine lv_aload_n hx hb dX6_readExam_18 rfl (lv_at hl 1 rfl) ?_
    refine lv_aload_n hx hb dX6_readExam_19 rfl (lv_at hl 1 rfl) ?_
    refine q_getR C hj lk_X6_22 dX6_readExam_20 hf (fun v5 hf => ?_)
    refine q_getR C hj lk_X6_284 dX6_readExam_23 hf (fun v6 hf => ?_)
    refine lv_iload_n hx hb dX6_readExam_26 rfl (lv_at hl 0 rfl) ?_
    refine lv_iconst (v := 0) hx hb dX6_readExam_27 qi_0 ?_
    refine q_cVWI C hj cw_X6_219 (As := [.ref (q_ad E v6), .int v2, .int 0]) (rest := []) hf (fun v9 g9 h9 => c_X6_put l E h9) rfl hl rfl rfl rfl dX6_readExam_28 ⟨Nat.zero_le _, Nat.zero_le _⟩ (fun v8 g7 H locs hj hf => ?_)
    refine q_ifeq C (tgt := 143) dX6_readExam_31 (by decide) hf (fun hf => ?_) (fun hf => ?_)
    · refine lv_iconst (v := 0) hx hb dX6_readExam_143 qi_0 ?_
      exact q_z0retW C hj dX6_readExam_144 hf
    · refine lv_aload_n hx hb dX6_readExam_34 rfl (lv_at hl 1 rfl) ?_
      refine lv_iconst (v := 2) hx hb dX6_readExam_35 qi_2 ?_
      refine q_cVWI C hj cw_X6_272 (As := [.int 2]) (rest := []) hf (fun v9 g9 h9 => c_X6_takeName l E h9) rfl hl rfl rfl rfl dX6_readExam_36 ⟨Nat.zero_le _, Nat.zero_le _⟩ (fun v10 g9 H locs hj hf => ?_)
      refine q_ifeq C (tgt := 143) dX6_readExam_39 (by decide) hf (fun hf => ?_) (fun hf => ?_)
      · refine lv_iconst (v := 0) hx hb dX6_readExam_143 qi_0 ?_
        exact q_z0retW C hj dX6_readExam_144 hf
      · refine lv_aload_n hx hb dX6_readExam_42 rfl (lv_at hl 1 rfl) ?_
        refine lv_aload_n hx hb dX6_readExam_43 rfl (lv_at hl 1 rfl) ?_
        refine q_getR C hj lk_X6_22 dX6_readExam_44 hf (fun v11 hf => ?_)
        refine q_getR C hj lk_X6_284 dX6_readExam_47 hf (fun v12 hf => ?_)
        refine lv_iload_n hx hb dX6_readExam_50 rfl (lv_at hl 0 rfl) ?_
        refine lv_iconst (v := 1) hx hb dX6_readExam_51 qi_1 ?_
        refine q_cVWI C hj cw_X6_219 (As := [.ref (q_ad E v12), .int v2, .int 1]) (rest := []) hf (fun v9 g9 h9 => c_X6_put l E h9) rfl hl rfl rfl rfl dX6_readExam_52 ⟨Nat.zero_le _, Nat.zero_le _⟩ (fun v14 g13 H locs hj hf => ?_)
        refine q_ifeq C (tgt := 143) dX6_readExam_55 (by decide) hf (fun hf => ?_) (fun hf => ?_)
        · refine lv_iconst (v := 0) hx hb dX6_readExam_143 qi_0 ?_
          exact q_z0retW C hj dX6_readExam_144 hf
        · refine lv_aload_n hx hb dX6_readExam_58 rfl (lv_at hl 1 rfl) ?_
          refine lv_iconst (v := 3) hx hb dX6_readExam_59 qi_3 ?_
          refine q_cVWI C hj cw_X6_272 (As := [.int 3]) (rest := []) hf (fun v9 g9 h9 => c_X6_takeName l E h9) rfl hl rfl rfl rfl dX6_readExam_60 ⟨Nat.zero_le _, Nat.zero_le _⟩ (fun v16 g15 H locs hj hf => ?_)
          refine q_ifeq C (tgt := 143) dX6_readExam_63 (by decide) hf (fun hf => ?_) (fun hf => ?_)
          · refine lv_iconst (v := 0) hx hb dX6_readExam_143 qi_0 ?_
            exact q_z0retW C hj dX6_readExam_144 hf
          · refine lv_aload_n hx hb dX6_readExam_66 rfl (lv_at hl 1 rfl) ?_
            refine lv_aload_n hx hb dX6_readExam_67 rfl (lv_at hl 1 rfl) ?_
            refine q_getR C hj lk_X6_22 dX6_readExam_68 hf (fun v17 hf => ?_)
            refine q_getR C hj lk_X6_284 dX6_readExam_71 hf (fun v18 hf => ?_)
            refine lv_iload_n hx hb dX6_readExam_74 rfl (lv_at hl 0 rfl) ?_
            refine lv_iconst (v := 2) hx hb dX6_readExam_75 qi_2 ?_
            refine q_cVWI C hj cw_X6_219 (As := [.ref (q_ad E v18), .int v2, .int 2]) (rest := []) hf (fun v9 g9 h9 => c_X6_put l E h9) rfl hl rfl rfl rfl dX6_readExam_76 ⟨Nat.zero_le _, Nat.zero_le _⟩ (fun v20 g19 H locs hj hf => ?_)
            refine q_ifeq C (tgt := 143) dX6_readExam_79 (by decide) hf (fun hf => ?_) (fun hf => ?_)
            · refine lv_iconst (v := 0) hx hb dX6_readExam_143 qi_0 ?_
              exact q_z0retW C hj dX6_readExam_144 hf
            · refine lv_aload_n hx hb dX6_readExam_82 rfl (lv_at hl 1 rfl) ?_
              refine lv_iconst (v := 4) hx hb dX6_readExam_83 qi_4 ?_
              refine q_cVWI C hj cw_X6_272 (As := [.int 4]) (rest := []) hf (fun v9 g9 h9 => c_X6_takeName l E h9) rfl hl rfl rfl rfl dX6_readExam_84 ⟨Nat.zero_le _, Nat.zero_le _⟩ (fun v22 g21 H locs hj hf => ?_)
              refine q_ifeq C (tgt := 143) dX6_readExam_87 (by decide) hf (fun hf => ?_) (fun hf => ?_)
              · refine lv_iconst (v := 0) hx hb dX6_readExam_143 qi_0 ?_
                exact q_z0retW C hj dX6_readExam_144 hf
              · refine lv_aload_n hx hb dX6_readExam_90 rfl (lv_at hl 1 rfl) ?_
                refine lv_aload_n hx hb dX6_readExam_91 rfl (lv_at hl 1 rfl) ?_
                refine q_getR C hj lk_X6_22 dX6_readExam_92 hf (fun v23 hf => ?_)
                refine q_getR C hj lk_X6_284 dX6_readExam_95 hf (fun v24 hf => ?_)
                refine lv_iload_n hx hb dX6_readExam_98 rfl (lv_at hl 0 rfl) ?_
                refine lv_iconst (v := 3) hx hb dX6_readExam_99 qi_3 ?_
                refine q_cVWI C hj cw_X6_219 (As := [.ref (q_ad E v24), .int v2, .int 3]) (rest := []) hf (fun v9 g9 h9 => c_X6_put l E h9) rfl hl rfl rfl rfl dX6_readExam_100 ⟨Nat.zero_le _, Nat.zero_le _⟩ (fun v26 g25 H locs hj hf => ?_)
                refine q_ifeq C (tgt := 143) dX6_readExam_103 (by decide) hf (fun hf => ?_) (fun hf => ?_)
                · refine lv_iconst (v := 0) hx hb dX6_readExam_143 qi_0 ?_
                  exact q_z0retW C hj dX6_readExam_144 hf
                · refine lv_aload_n hx hb dX6_readExam_106 rfl (lv_at hl 1 rfl) ?_
                  refine q_ldcwS C (i := 26) rfl dX6_readExam_107 ?_
                  refine q_ldcwS C (i := 27) rfl dX6_readExam_110 ?_
                  refine q_ldcS C (i := 15) rfl dX6_readExam_113 ?_
                  refine q_ldcS C (i := 15) rfl dX6_readExam_115 ?_
                  refine q_cVWI C hj cw_X6_236 (As := [.ref (q_sa E 26), .ref (q_sa E 27), .ref (q_sa E 15), .ref (q_sa E 15)]) (rest := []) hf (fun v9 g9 h9 => c_X6_takeOneOf l E h9) rfl hl rfl rfl rfl dX6_readExam_117 ⟨Nat.zero_le _, Nat.zero_le _⟩ (fun v28 g27 H locs hj hf => ?_)
                  refine q_ifeq C (tgt := 143) dX6_readExam_120 (by decide) hf (fun hf => ?_) (fun hf => ?_)
                  · refine lv_iconst (v := 0) hx hb dX6_readExam_143 qi_0 ?_
                    exact q_z0retW C hj dX6_readExam_144 hf
                  · refine lv_aload_n hx hb dX6_readExam_123 rfl (lv_at hl 1 rfl) ?_
                    refine lv_aload_n hx hb dX6_readExam_124 rfl (lv_at hl 1 rfl) ?_
                    refine q_getR C hj lk_X6_22 dX6_readExam_125 hf (fun v29 hf => ?_)
                    refine q_getR C hj lk_X6_284 dX6_readExam_128 hf (fun v30 hf => ?_)
                    refine lv_iload_n hx hb dX6_readExam_131 rfl (lv_at hl 0 rfl) ?_
                    refine lv_iconst (v := 4) hx hb dX6_readExam_132 qi_4 ?_
                    refine q_cVWI C hj cw_X6_219 (As := [.ref (q_ad E v30), .int v2, .int 4]) (rest := []) hf (fun v9 g9 h9 => c_X6_put l E h9) rfl hl rfl rfl rfl dX6_readExam_133 ⟨Nat.zero_le _, Nat.zero_le _⟩ (fun v32 g31 H locs hj hf => ?_)
                    refine q_ifeq C (tgt := 143) dX6_readExam_136 (by decide) hf (fun hf => ?_) (fun hf => ?_)
                    · refine lv_iconst (v := 0) hx hb dX6_readExam_143 qi_0 ?_
                      exact q_z0retW C hj dX6_readExam_144 hf
                    · refine lv_iconst (v := 1) hx hb dX6_readExam_139 qi_1 ?_
                      refine lv_goto (tgt := 144) hx hb dX6_readExam_140 (by decide) ?_
                      exact q_z1retW C hj dX6_readExam_144 hf
def f_X6_readRest (g : qS) (a0 : Nat) (a1 : Int32) : Option (Int32 × qS) := (g_C g a0 5).bind fun _ => if a1 = 1 then (q_b2 (f_X6_readThing g a0) fun v2 g1 => if v2 = 0 then (some (0, g1)) else (q_b2 (f_X6_addTo g1 a0 2) fun v4 g3 => if v4 = 0 then (some (0, g3)) else (some (1, g3)))) else (if a1 = 2 then (q_b2 (f_X6_readPerson g a0) fun v6 g5 => if v6 = 0 then (some (0, g5)) else (q_b2 (f_X6_addTo g5 a0 3) fun v8 g7 => if v8 = 0 then (some (0, g7)) else (some (1, g7)))) else (if a1 = 3 then (q_b2 (f_X6_readTram g a0) fun v10 g9 => if v10 = 0 then (some (0, g9)) else (q_b2 (f_X6_addTo g9 a0 4) fun v12 g11 => if v12 = 0 then (some (0, g11)) else (some (1, g11)))) else (if a1 = 4 then (q_b2 (f_X6_readGiver g a0) fun v14 g13 => if v14 = 0 then (some (0, g13)) else (q_b2 (f_X6_addTo g13 a0 5) fun v16 g15 => if v16 = 0 then (some (0, g15)) else (some (1, g15)))) else (if a1 = 5 then ((g_R g a0 5 2).bind fun v17 => (g_R g v17 2 7).bind fun v18 => q_b2 (f_X6_readJourney g a0 3 v18) fun v20 g19 => if v20 = 0 then (some (0, g19)) else (q_b2 (f_X6_addTo g19 a0 6) fun v22 g21 => if v22 = 0 then (some (0, g21)) else (some (1, g21)))) else (if a1 = 6 then ((g_R g a0 5 2).bind fun v23 => (g_R g v23 2 8).bind fun v24 => q_b2 (f_X6_readJourney g a0 5 v24) fun v26 g25 => if v26 = 0 then (some (0, g25)) else (q_b2 (f_X6_addTo g25 a0 6) fun v28 g27 => if v28 = 0 then (some (0, g27)) else (some (1, g27)))) else (if a1 = 7 then (q_b2 (f_X6_readGift g a0) fun v30 g29 => if v30 = 0 then (some (0, g29)) else (q_b2 (f_X6_addTo g29 a0 7) fun v32 g31 => if v32 = 0 then (some (0, g31)) else (some (1, g31)))) else (if a1 = 8 then (q_b2 (f_X6_readFound g a0) fun v34 g33 => if v34 = 0 then (some (0, g33)) else (q_b2 (f_X6_addTo g33 a0 8) fun v36 g35 => if v36 = 0 then (some (0, g35)) else (some (1, g35)))) else (q_b2 (f_X6_readExam g a0) fun v38 g37 => if v38 = 0 then (some (0, g37)) else (q_b2 (f_X6_addTo g37 a0 9) fun v40 g39 => if v40 = 0 then (some (0, g39)) else (some (1, g39)))))))))))
set_option maxHeartbeats 4000000 in
set_option maxRecDepth 100000 in
theorem c_X6_readRest (l : Launch) (E : qV) {g : qS} {a0 : Nat} {a1 : Int32} {res : (Int32 × qS)} (hf : f_X6_readRest g a0 a1 = some res) : q_MW l yX6_readRest cX6_readRest 2 (some .boolean) 8 210 E [.ref (q_ad E a0), .int a1] g (some (.int res.1)) res.2 ∧ ∃ fs, g a0 = some (.inr (5, fs)) := by
  unfold f_X6_readRest at hf
  obtain ⟨u9, hu9, hf⟩ := q_ob hf
  refine ⟨q_ofW (by decide) rfl ?_, g_C_sp hu9⟩
  intro p e s m args below meth c ls C hj hl
  have hx := C.1
  have hb := C.2.1
  have C : q_C E p s m args meth c cX6_readRest RX6 2 (some .boolean) := C
  have hl : lv_has ls 2 [(0, .ref (q_ad E a0)), (1, .int a1)] := hl
  refine lv_iload_n hx hb dX6_readRest_0 rfl (lv_at hl 1 rfl) ?_
  refine q_it hf (fun c0 hf => ?_) (fun c0 hf => ?_)
  · refine lv_tableIn (tgt := 48) hx hb dX6_readRest_1 (by rw [c0]; decide) (by rw [c0]; decide) (by rw [c0]; rfl) (by decide) ?_
    refine lv_aload_n hx hb dX6_readRest_48 rfl (lv_at hl 0 rfl) ?_
    refine q_cVWI C hj cw_X6_170 (As := []) (rest := []) hf (fun v9 g9 h9 => c_X6_readThing l E h9) rfl hl rfl rfl rfl dX6_readRest_49 ⟨Nat.zero_le _, Nat.zero_le _⟩ (fun v2 g1 H locs hj hf => ?_)
    refine q_ifeq C (tgt := 67) dX6_readRest_52 (by decide) hf (fun hf => ?_) (fun hf => ?_)
    · refine lv_iconst (v := 0) hx hb dX6_readRest_67 qi_0 ?_
      exact q_z0retW C hj dX6_readRest_68 hf
    · refine lv_aload_n hx hb dX6_readRest_55 rfl (lv_at hl 0 rfl) ?_
      refine lv_iconst (v := 2) hx hb dX6_readRest_56 qi_2 ?_
      refine q_cVWI C hj cw_X6_173 (As := [.int 2]) (rest := []) hf (fun v9 g9 h9 => c_X6_addTo l E h9) rfl hl rfl rfl rfl dX6_readRest_57 ⟨Nat.zero_le _, Nat.zero_le _⟩ (fun v4 g3 H locs hj hf => ?_)
      refine q_ifeq C (tgt := 67) dX6_readRest_60 (by decide) hf (fun hf => ?_) (fun hf => ?_)
      · refine lv_iconst (v := 0) hx hb dX6_readRest_67 qi_0 ?_
        exact q_z0retW C hj dX6_readRest_68 hf
      · refine lv_iconst (v := 1) hx hb dX6_readRest_63 qi_1 ?_
        refine lv_goto (tgt := 68) hx hb dX6_readRest_64 (by decide) ?_
        exact q_z1retW C hj dX6_readRest_68 hf
  · refine q_it hf (fun c1 hf => ?_) (fun c1 hf => ?_)
    · refine lv_tableIn (tgt := 69) hx hb dX6_readRest_1 (by rw [c1]; decide) (by rw [c1]; decide) (by rw [c1]; rfl) (by decide) ?_
      refine lv_aload_n hx hb dX6_readRest_69 rfl (lv_at hl 0 rfl) ?_
      refine q_cVWI C hj cw_X6_176 (As := []) (rest := []) hf (fun v9 g9 h9 => c_X6_readPerson l E h9) rfl hl rfl rfl rfl dX6_readRest_70 ⟨Nat.zero_le _, Nat.zero_le _⟩ (fun v6 g5 H locs hj hf => ?_)
      refine q_ifeq C (tgt := 88) dX6_readRest_73 (by decide) hf (fun hf => ?_) (fun hf => ?_)
      · refine lv_iconst (v := 0) hx hb dX6_readRest_88 qi_0 ?_
        exact q_z0retW C hj dX6_readRest_89 hf
      · refine lv_aload_n hx hb dX6_readRest_76 rfl (lv_at hl 0 rfl) ?_
        refine lv_iconst (v := 3) hx hb dX6_readRest_77 qi_3 ?_
        refine q_cVWI C hj cw_X6_173 (As := [.int 3]) (rest := []) hf (fun v9 g9 h9 => c_X6_addTo l E h9) rfl hl rfl rfl rfl dX6_readRest_78 ⟨Nat.zero_le _, Nat.zero_le _⟩ (fun v8 g7 H locs hj hf => ?_)
        refine q_ifeq C (tgt := 88) dX6_readRest_81 (by decide) hf (fun hf => ?_) (fun hf => ?_)
        · refine lv_iconst (v := 0) hx hb dX6_readRest_88 qi_0 ?_
          exact q_z0retW C hj dX6_readRest_89 hf
        · refine lv_iconst (v := 1) hx hb dX6_readRest_84 qi_1 ?_
          refine lv_goto (tgt := 89) hx hb dX6_readRest_85 (by decide) ?_
          exact q_z1retW C hj dX6_readRest_89 hf
    · refine q_it hf (fun c2 hf => ?_) (fun c2 hf => ?_)
      · refine lv_tableIn (tgt := 90) hx hb dX6_readRest_1 (by rw [c2]; decide) (by rw [c2]; decide) (by rw [c2]; rfl) (by decide) ?_
        refine lv_aload_n hx hb dX6_readRest_90 rfl (lv_at hl 0 rfl) ?_
        refine q_cVWI C hj cw_X6_179 (As := []) (rest := []) hf (fun v9 g9 h9 => c_X6_readTram l E h9) rfl hl rfl rfl rfl dX6_readRest_91 ⟨Nat.zero_le _, Nat.zero_le _⟩ (fun v10 g9 H locs hj hf => ?_)
        refine q_ifeq C (tgt := 109) dX6_readRest_94 (by decide) hf (fun hf => ?_) (fun hf => ?_)
        · refine lv_iconst (v := 0) hx hb dX6_readRest_109 qi_0 ?_
          exact q_z0retW C hj dX6_readRest_110 hf
        · refine lv_aload_n hx hb dX6_readRest_97 rfl (lv_at hl 0 rfl) ?_
          refine lv_iconst (v := 4) hx hb dX6_readRest_98 qi_4 ?_
          refine q_cVWI C hj cw_X6_173 (As := [.int 4]) (rest := []) hf (fun v9 g9 h9 => c_X6_addTo l E h9) rfl hl rfl rfl rfl dX6_readRest_99 ⟨Nat.zero_le _, Nat.zero_le _⟩ (fun v12 g11 H locs hj hf => ?_)
          refine q_ifeq C (tgt := 109) dX6_readRest_102 (by decide) hf (fun hf => ?_) (fun hf => ?_)
          · refine lv_iconst (v := 0) hx hb dX6_readRest_109 qi_0 ?_
            exact q_z0retW C hj dX6_readRest_110 hf
          · refine lv_iconst (v := 1) hx hb dX6_readRest_105 qi_1 ?_
            refine lv_goto (tgt := 110) hx hb dX6_readRest_106 (by decide) ?_
            exact q_z1retW C hj dX6_readRest_110 hf
      · refine q_it hf (fun c3 hf => ?_) (fun c3 hf => ?_)
        · refine lv_tableIn (tgt := 111) hx hb dX6_readRest_1 (by rw [c3]; decide) (by rw [c3]; decide) (by rw [c3]; rfl) (by decide) ?_
          refine lv_aload_n hx hb dX6_readRest_111 rfl (lv_at hl 0 rfl) ?_
          refine q_cVWI C hj cw_X6_182 (As := []) (rest := []) hf (fun v9 g9 h9 => c_X6_readGiver l E h9) rfl hl rfl rfl rfl dX6_readRest_112 ⟨Nat.zero_le _, Nat.zero_le _⟩ (fun v14 g13 H locs hj hf => ?_)
          refine q_ifeq C (tgt := 130) dX6_readRest_115 (by decide) hf (fun hf => ?_) (fun hf => ?_)
          · refine lv_iconst (v := 0) hx hb dX6_readRest_130 qi_0 ?_
            exact q_z0retW C hj dX6_readRest_131 hf
          · refine lv_aload_n hx hb dX6_readRest_118 rfl (lv_at hl 0 rfl) ?_
            refine lv_iconst (v := 5) hx hb dX6_readRest_119 qi_5 ?_
            refine q_cVWI C hj cw_X6_173 (As := [.int 5]) (rest := []) hf (fun v9 g9 h9 => c_X6_addTo l E h9) rfl hl rfl rfl rfl dX6_readRest_120 ⟨Nat.zero_le _, Nat.zero_le _⟩ (fun v16 g15 H locs hj hf => ?_)
            refine q_ifeq C (tgt := 130) dX6_readRest_123 (by decide) hf (fun hf => ?_) (fun hf => ?_)
            · refine lv_iconst (v := 0) hx hb dX6_readRest_130 qi_0 ?_
              exact q_z0retW C hj dX6_readRest_131 hf
            · refine lv_iconst (v := 1) hx hb dX6_readRest_126 qi_1 ?_
              refine lv_goto (tgt := 131) hx hb dX6_readRest_127 (by decide) ?_
              exact q_z1retW C hj dX6_readRest_131 hf
        · refine q_it hf (fun c4 hf => ?_) (fun c4 hf => ?_)
          · refine lv_tableIn (tgt := 132) hx hb dX6_readRest_1 (by rw [c4]; decide) (by rw [c4]; decide) (by rw [c4]; rfl) (by decide) ?_
            refine lv_aload_n hx hb dX6_readRest_132 rfl (lv_at hl 0 rfl) ?_
            refine lv_iconst (v := 3) hx hb dX6_readRest_133 qi_3 ?_
            refine lv_aload_n hx hb dX6_readRest_134 rfl (lv_at hl 0 rfl) ?_
            refine q_getR C hj lk_X6_22 dX6_readRest_135 hf (fun v17 hf => ?_)
            refine q_getR C hj lk_X6_185 dX6_readRest_138 hf (fun v18 hf => ?_)
            refine q_cVWI C hj cw_X6_188 (As := [.int 3, .ref (q_ad E v18)]) (rest := []) hf (fun v9 g9 h9 => c_X6_readJourney l E h9) rfl hl rfl rfl rfl dX6_readRest_141 ⟨Nat.zero_le _, Nat.zero_le _⟩ (fun v20 g19 H locs hj hf => ?_)
            refine q_ifeq C (tgt := 160) dX6_readRest_144 (by decide) hf (fun hf => ?_) (fun hf => ?_)
            · refine lv_iconst (v := 0) hx hb dX6_readRest_160 qi_0 ?_
              exact q_z0retW C hj dX6_readRest_161 hf
            · refine lv_aload_n hx hb dX6_readRest_147 rfl (lv_at hl 0 rfl) ?_
              refine lv_bipush (v := 6) hx hb dX6_readRest_148 (by decide) ?_
              refine q_cVWI C hj cw_X6_173 (As := [.int 6]) (rest := []) hf (fun v9 g9 h9 => c_X6_addTo l E h9) rfl hl rfl rfl rfl dX6_readRest_150 ⟨Nat.zero_le _, Nat.zero_le _⟩ (fun v22 g21 H locs hj hf => ?_)
              refine q_ifeq C (tgt := 160) dX6_readRest_153 (by decide) hf (fun hf => ?_) (fun hf => ?_)
              · refine lv_iconst (v := 0) hx hb dX6_readRest_160 qi_0 ?_
                exact q_z0retW C hj dX6_readRest_161 hf
              · refine lv_iconst (v := 1) hx hb dX6_readRest_156 qi_1 ?_
                refine lv_goto (tgt := 161) hx hb dX6_readRest_157 (by decide) ?_
                exact q_z1retW C hj dX6_readRest_161 hf
          · refine q_it hf (fun c5 hf => ?_) (fun c5 hf => ?_)
            · refine lv_tableIn (tgt := 162) hx hb dX6_readRest_1 (by rw [c5]; decide) (by rw [c5]; decide) (by rw [c5]; rfl) (by decide) ?_
              refine lv_aload_n hx hb dX6_readRest_162 rfl (lv_at hl 0 rfl) ?_
              refine lv_iconst (v := 5) hx hb dX6_readRest_163 qi_5 ?_
              refine lv_aload_n hx hb dX6_readRest_164 rfl (lv_at hl 0 rfl) ?_
              refine q_getR C hj lk_X6_22 dX6_readRest_165 hf (fun v23 hf => ?_)
              refine q_getR C hj lk_X6_192 dX6_readRest_168 hf (fun v24 hf => ?_)
              refine q_cVWI C hj cw_X6_188 (As := [.int 5, .ref (q_ad E v24)]) (rest := []) hf (fun v9 g9 h9 => c_X6_readJourney l E h9) rfl hl rfl rfl rfl dX6_readRest_171 ⟨Nat.zero_le _, Nat.zero_le _⟩ (fun v26 g25 H locs hj hf => ?_)
              refine q_ifeq C (tgt := 190) dX6_readRest_174 (by decide) hf (fun hf => ?_) (fun hf => ?_)
              · refine lv_iconst (v := 0) hx hb dX6_readRest_190 qi_0 ?_
                exact q_z0retW C hj dX6_readRest_191 hf
              · refine lv_aload_n hx hb dX6_readRest_177 rfl (lv_at hl 0 rfl) ?_
                refine lv_bipush (v := 6) hx hb dX6_readRest_178 (by decide) ?_
                refine q_cVWI C hj cw_X6_173 (As := [.int 6]) (rest := []) hf (fun v9 g9 h9 => c_X6_addTo l E h9) rfl hl rfl rfl rfl dX6_readRest_180 ⟨Nat.zero_le _, Nat.zero_le _⟩ (fun v28 g27 H locs hj hf => ?_)
                refine q_ifeq C (tgt := 190) dX6_readRest_183 (by decide) hf (fun hf => ?_) (fun hf => ?_)
                · refine lv_iconst (v := 0) hx hb dX6_readRest_190 qi_0 ?_
                  exact q_z0retW C hj dX6_readRest_191 hf
                · refine lv_iconst (v := 1) hx hb dX6_readRest_186 qi_1 ?_
                  refine lv_goto (tgt := 191) hx hb dX6_readRest_187 (by decide) ?_
                  exact q_z1retW C hj dX6_readRest_191 hf
            · refine q_it hf (fun c6 hf => ?_) (fun c6 hf => ?_)
              · refine lv_tableIn (tgt := 192) hx hb dX6_readRest_1 (by rw [c6]; decide) (by rw [c6]; decide) (by rw [c6]; rfl) (by decide) ?_
                refine lv_aload_n hx hb dX6_readRest_192 rfl (lv_at hl 0 rfl) ?_
                refine q_cVWI C hj cw_X6_195 (As := []) (rest := []) hf (fun v9 g9 h9 => c_X6_readGift l E h9) rfl hl rfl rfl rfl dX6_readRest_193 ⟨Nat.zero_le _, Nat.zero_le _⟩ (fun v30 g29 H locs hj hf => ?_)
                refine q_ifeq C (tgt := 212) dX6_readRest_196 (by decide) hf (fun hf => ?_) (fun hf => ?_)
                · refine lv_iconst (v := 0) hx hb dX6_readRest_212 qi_0 ?_
                  exact q_z0retW C hj dX6_readRest_213 hf
                · refine lv_aload_n hx hb dX6_readRest_199 rfl (lv_at hl 0 rfl) ?_
                  refine lv_bipush (v := 7) hx hb dX6_readRest_200 (by decide) ?_
                  refine q_cVWI C hj cw_X6_173 (As := [.int 7]) (rest := []) hf (fun v9 g9 h9 => c_X6_addTo l E h9) rfl hl rfl rfl rfl dX6_readRest_202 ⟨Nat.zero_le _, Nat.zero_le _⟩ (fun v32 g31 H locs hj hf => ?_)
                  refine q_ifeq C (tgt := 212) dX6_readRest_205 (by decide) hf (fun hf => ?_) (fun hf => ?_)
                  · refine lv_iconst (v := 0) hx hb dX6_readRest_212 qi_0 ?_
                    exact q_z0retW C hj dX6_readRest_213 hf
                  · refine lv_iconst (v := 1) hx hb dX6_readRest_208 qi_1 ?_
                    refine lv_goto (tgt := 213) hx hb dX6_readRest_209 (by decide) ?_
                    exact q_z1retW C hj dX6_readRest_213 hf
              · refine q_it hf (fun c7 hf => ?_) (fun c7 hf => ?_)
                · refine lv_tableIn (tgt := 214) hx hb dX6_readRest_1 (by rw [c7]; decide) (by rw [c7]; decide) (by rw [c7]; rfl) (by decide) ?_
                  refine lv_aload_n hx hb dX6_readRest_214 rfl (lv_at hl 0 rfl) ?_
                  refine q_cVWI C hj cw_X6_198 (As := []) (rest := []) hf (fun v9 g9 h9 => c_X6_readFound l E h9) rfl hl rfl rfl rfl dX6_readRest_215 ⟨Nat.zero_le _, Nat.zero_le _⟩ (fun v34 g33 H locs hj hf => ?_)
                  refine q_ifeq C (tgt := 234) dX6_readRest_218 (by decide) hf (fun hf => ?_) (fun hf => ?_)
                  · refine lv_iconst (v := 0) hx hb dX6_readRest_234 qi_0 ?_
                    exact q_z0retW C hj dX6_readRest_235 hf
                  · refine lv_aload_n hx hb dX6_readRest_221 rfl (lv_at hl 0 rfl) ?_
                    refine lv_bipush (v := 8) hx hb dX6_readRest_222 (by decide) ?_
                    refine q_cVWI C hj cw_X6_173 (As := [.int 8]) (rest := []) hf (fun v9 g9 h9 => c_X6_addTo l E h9) rfl hl rfl rfl rfl dX6_readRest_224 ⟨Nat.zero_le _, Nat.zero_le _⟩ (fun v36 g35 H locs hj hf => ?_)
                    refine q_ifeq C (tgt := 234) dX6_readRest_227 (by decide) hf (fun hf => ?_) (fun hf => ?_)
                    · refine lv_iconst (v := 0) hx hb dX6_readRest_234 qi_0 ?_
                      exact q_z0retW C hj dX6_readRest_235 hf
                    · refine lv_iconst (v := 1) hx hb dX6_readRest_230 qi_1 ?_
                      refine lv_goto (tgt := 235) hx hb dX6_readRest_231 (by decide) ?_
                      exact q_z1retW C hj dX6_readRest_235 hf
                · refine lv_tableOut (tgt := 236) hx hb dX6_readRest_1 (by have z0 : a1.toInt ≠ 1 := fun z => c0 (Int32.toInt_inj.mp z); have z1 : a1.toInt ≠ 2 := fun z => c1 (Int32.toInt_inj.mp z); have z2 : a1.toInt ≠ 3 := fun z => c2 (Int32.toInt_inj.mp z); have z3 : a1.toInt ≠ 4 := fun z => c3 (Int32.toInt_inj.mp z); have z4 : a1.toInt ≠ 5 := fun z => c4 (Int32.toInt_inj.mp z); have z5 : a1.toInt ≠ 6 := fun z => c5 (Int32.toInt_inj.mp z); have z6 : a1.toInt ≠ 7 := fun z => c6 (Int32.toInt_inj.mp z); have z7 : a1.toInt ≠ 8 := fun z => c7 (Int32.toInt_inj.mp z); omega) (by decide) ?_
                  refine lv_aload_n hx hb dX6_readRest_236 rfl (lv_at hl 0 rfl) ?_
                  refine q_cVWI C hj cw_X6_201 (As := []) (rest := []) hf (fun v9 g9 h9 => c_X6_readExam l E h9) rfl hl rfl rfl rfl dX6_readRest_237 ⟨Nat.zero_le _, Nat.zero_le _⟩ (fun v38 g37 H locs hj hf => ?_)
                  refine q_ifeq C (tgt := 256) dX6_readRest_240 (by decide) hf (fun hf => ?_) (fun hf => ?_)
                  · refine lv_iconst (v := 0) hx hb dX6_readRest_256 qi_0 ?_
                    exact q_z0retW C hj dX6_readRest_257 hf
                  · refine lv_aload_n hx hb dX6_readRest_243 rfl (lv_at hl 0 rfl) ?_
                    refine lv_bipush (v := 9) hx hb dX6_readRest_244 (by decide) ?_
                    refine q_cVWI C hj cw_X6_173 (As := [.int 9]) (rest := []) hf (fun v9 g9 h9 => c_X6_addTo l E h9) rfl hl rfl rfl rfl dX6_readRest_246 ⟨Nat.zero_le _, Nat.zero_le _⟩ (fun v40 g39 H locs hj hf => ?_)
                    refine q_ifeq C (tgt := 256) dX6_readRest_249 (by decide) hf (fun hf => ?_) (fun hf => ?_)
                    · refine lv_iconst (v := 0) hx hb dX6_readRest_256 qi_0 ?_
                      exact q_z0retW C hj dX6_readRest_257 hf
                    · refine lv_iconst (v := 1) hx hb dX6_readRest_252 qi_1 ?_
                      refine lv_goto (tgt := 257) hx hb dX6_readRest_253 (by decide) ?_
                      exact q_z1retW C hj dX6_readRest_257 hf
def J_X6_readLine_37  (x0 : Nat) (x1 : Int32) (t0 : Int32) (g : qS) : Option (Int32 × qS) := if x1 = 0 then (if t0 = 0 then (q_b2 (f_X6_take g x0 0) fun v13 g12 => if v13 = 0 then (some (0, g12)) else (q_b2 (f_X6_readCollege g12 x0) fun v15 g14 => if v15 = 0 then (some (0, g14)) else (some (1, g14)))) else ((g_I g x0 5 8).bind fun v16 => q_b2 (f_X6_failAt g x0 3 v16) fun v18 g17 => q_zr v18 (v18, g17))) else (if t0 = 0 then ((g_I g x0 5 8).bind fun v9 => q_b2 (f_X6_failAt g x0 6 v9) fun v11 g10 => q_zr v11 (v11, g10)) else ((f_X6_isFull g x0 x1).bind fun v1 => if v1 = 0 then (q_b2 (f_X6_take g x0 0) fun v3 g2 => if v3 = 0 then (some (0, g2)) else (q_b2 (f_X6_readRest g2 x0 x1) fun v5 g4 => if v5 = 0 then (some (0, g4)) else (some (1, g4)))) else ((g_I g x0 5 8).bind fun v6 => q_b2 (f_X6_failAt g x0 5 v6) fun v8 g7 => q_zr v8 (v8, g7))))
set_option maxHeartbeats 4000000 in
set_option maxRecDepth 100000 in
theorem w_J_X6_readLine_37 {l : Launch} {E : qV} {p : Program} {e : Env} {s : State} {m : MethodId} {args : Array Value} {below : List Frame} {meth : Method} {c : Code}  {res : (Int32 × qS)} (C : q_C E p s m args meth c cX6_readLine RX6 3 (some .boolean))  : ∀ {x0 : Nat} {x1 : Int32} {t0 : Int32} {g : qS} {H : Heap} {locs : List Loc} {ls : Array Slot}, q_J E s g H locs → lv_has ls 3 [(0, .ref (q_ad E x0)), (1, .int x1)] → J_X6_readLine_37 x0 x1 t0 g = some res → W p l e (q_rm 9 231) s m args below meth c H locs 0 0 (q_ZW E below (some (.int res.1)) res.2 args s) (F0 m 37 ls [.int t0]) := by
  have hx := C.1
  have hb := C.2.1
  intro x0 x1 t0 g H locs ls hj hl hf
  unfold J_X6_readLine_37 at hf
  refine lv_istore_n (lv' := [(2, .int t0), (0, .ref (q_ad E x0)), (1, .int x1)]) hx hb dX6_readLine_37 rfl hl (by decide) rfl (fun ls hl => ?_)
  refine lv_iload_n hx hb dX6_readLine_38 rfl (lv_at hl 2 rfl) ?_
  refine q_ifne C (tgt := 79) dX6_readLine_39 (by decide) hf (fun hf => ?_) (fun hf => ?_)
  · refine lv_iload_n hx hb dX6_readLine_79 rfl (lv_at hl 0 rfl) ?_
    refine q_ifne C (tgt := 94) dX6_readLine_80 (by decide) hf (fun hf => ?_) (fun hf => ?_)
    · refine lv_aload_n hx hb dX6_readLine_94 rfl (lv_at hl 1 rfl) ?_
      refine lv_iload_n hx hb dX6_readLine_95 rfl (lv_at hl 2 rfl) ?_
      refine q_cVRI C hj cw_X6_164 (As := [.int x1]) (rest := []) hf (fun v9 h9 => c_X6_isFull l E h9) rfl hl rfl rfl rfl dX6_readLine_96 ⟨Nat.zero_le _, Nat.zero_le _⟩ (fun v1 hf => ?_)
      refine q_ifeq C (tgt := 114) dX6_readLine_99 (by decide) hf (fun hf => ?_) (fun hf => ?_)
      · refine lv_aload_n hx hb dX6_readLine_114 rfl (lv_at hl 1 rfl) ?_
        refine lv_iconst (v := 0) hx hb dX6_readLine_115 qi_0 ?_
        refine q_cVWI C hj cw_X6_85 (As := [.int 0]) (rest := []) hf (fun v9 g9 h9 => c_X6_take l E h9) rfl hl rfl rfl rfl dX6_readLine_116 ⟨Nat.zero_le _, Nat.zero_le _⟩ (fun v3 g2 H locs hj hf => ?_)
        refine q_ifeq C (tgt := 134) dX6_readLine_119 (by decide) hf (fun hf => ?_) (fun hf => ?_)
        · refine lv_iconst (v := 0) hx hb dX6_readLine_134 qi_0 ?_
          exact q_z0retW C hj dX6_readLine_135 hf
        · refine lv_aload_n hx hb dX6_readLine_122 rfl (lv_at hl 1 rfl) ?_
          refine lv_iload_n hx hb dX6_readLine_123 rfl (lv_at hl 2 rfl) ?_
          refine q_cVWI C hj cw_X6_167 (As := [.int x1]) (rest := []) hf (fun v9 g9 h9 => c_X6_readRest l E h9) rfl hl rfl rfl rfl dX6_readLine_124 ⟨Nat.zero_le _, Nat.zero_le _⟩ (fun v5 g4 H locs hj hf => ?_)
          refine q_ifeq C (tgt := 134) dX6_readLine_127 (by decide) hf (fun hf => ?_) (fun hf => ?_)
          · refine lv_iconst (v := 0) hx hb dX6_readLine_134 qi_0 ?_
            exact q_z0retW C hj dX6_readLine_135 hf
          · refine lv_iconst (v := 1) hx hb dX6_readLine_130 qi_1 ?_
            refine lv_goto (tgt := 135) hx hb dX6_readLine_131 (by decide) ?_
            exact q_z1retW C hj dX6_readLine_135 hf
      · refine lv_aload_n hx hb dX6_readLine_102 rfl (lv_at hl 1 rfl) ?_
        refine lv_iconst (v := 5) hx hb dX6_readLine_103 qi_5 ?_
        refine lv_aload_n hx hb dX6_readLine_104 rfl (lv_at hl 1 rfl) ?_
        refine q_getI C hj lk_X6_48 dX6_readLine_105 hf (fun v6 hf => ?_)
        refine q_cVWI C hj cw_X6_81 (As := [.int 5, .int v6]) (rest := []) hf (fun v9 g9 h9 => c_X6_failAt l E h9) rfl hl rfl rfl rfl dX6_readLine_108 ⟨Nat.zero_le _, Nat.zero_le _⟩ (fun v8 g7 H locs hj hf => ?_)
        refine lv_goto (tgt := 135) hx hb dX6_readLine_111 (by decide) ?_
        exact q_zretW C hj dX6_readLine_135 hf
    · refine lv_aload_n hx hb dX6_readLine_83 rfl (lv_at hl 1 rfl) ?_
      refine lv_bipush (v := 6) hx hb dX6_readLine_84 (by decide) ?_
      refine lv_aload_n hx hb dX6_readLine_86 rfl (lv_at hl 1 rfl) ?_
      refine q_getI C hj lk_X6_48 dX6_readLine_87 hf (fun v9 hf => ?_)
      refine q_cVWI C hj cw_X6_81 (As := [.int 6, .int v9]) (rest := []) hf (fun v9 g9 h9 => c_X6_failAt l E h9) rfl hl rfl rfl rfl dX6_readLine_90 ⟨Nat.zero_le _, Nat.zero_le _⟩ (fun v11 g10 H locs hj hf => ?_)
      exact q_zretW C hj dX6_readLine_93 hf
  · refine lv_iload_n hx hb dX6_readLine_42 rfl (lv_at hl 0 rfl) ?_
    refine q_ifeq C (tgt := 58) dX6_readLine_43 (by decide) hf (fun hf => ?_) (fun hf => ?_)
    · refine lv_aload_n hx hb dX6_readLine_58 rfl (lv_at hl 1 rfl) ?_
      refine lv_iconst (v := 0) hx hb dX6_readLine_59 qi_0 ?_
      refine q_cVWI C hj cw_X6_85 (As := [.int 0]) (rest := []) hf (fun v9 g9 h9 => c_X6_take l E h9) rfl hl rfl rfl rfl dX6_readLine_60 ⟨Nat.zero_le _, Nat.zero_le _⟩ (fun v13 g12 H locs hj hf => ?_)
      refine q_ifeq C (tgt := 77) dX6_readLine_63 (by decide) hf (fun hf => ?_) (fun hf => ?_)
      · refine lv_iconst (v := 0) hx hb dX6_readLine_77 qi_0 ?_
        exact q_z0retW C hj dX6_readLine_78 hf
      · refine lv_aload_n hx hb dX6_readLine_66 rfl (lv_at hl 1 rfl) ?_
        refine q_cVWI C hj cw_X6_161 (As := []) (rest := []) hf (fun v9 g9 h9 => c_X6_readCollege l E h9) rfl hl rfl rfl rfl dX6_readLine_67 ⟨Nat.zero_le _, Nat.zero_le _⟩ (fun v15 g14 H locs hj hf => ?_)
        refine q_ifeq C (tgt := 77) dX6_readLine_70 (by decide) hf (fun hf => ?_) (fun hf => ?_)
        · refine lv_iconst (v := 0) hx hb dX6_readLine_77 qi_0 ?_
          exact q_z0retW C hj dX6_readLine_78 hf
        · refine lv_iconst (v := 1) hx hb dX6_readLine_73 qi_1 ?_
          refine lv_goto (tgt := 78) hx hb dX6_readLine_74 (by decide) ?_
          exact q_z1retW C hj dX6_readLine_78 hf
    · refine lv_aload_n hx hb dX6_readLine_46 rfl (lv_at hl 1 rfl) ?_
      refine lv_iconst (v := 3) hx hb dX6_readLine_47 qi_3 ?_
      refine lv_aload_n hx hb dX6_readLine_48 rfl (lv_at hl 1 rfl) ?_
      refine q_getI C hj lk_X6_48 dX6_readLine_49 hf (fun v16 hf => ?_)
      refine q_cVWI C hj cw_X6_81 (As := [.int 3, .int v16]) (rest := []) hf (fun v9 g9 h9 => c_X6_failAt l E h9) rfl hl rfl rfl rfl dX6_readLine_52 ⟨Nat.zero_le _, Nat.zero_le _⟩ (fun v18 g17 H locs hj hf => ?_)
      refine lv_goto (tgt := 78) hx hb dX6_readLine_55 (by decide) ?_
      exact q_zretW C hj dX6_readLine_78 hf
def f_X6_readLine (g : qS) (a0 : Nat) : Option (Int32 × qS) := (g_C g a0 5).bind fun _ => (f_X6_lineSort g a0).bind fun v1 => if v1 = 10 then ((g_I g a0 5 8).bind fun v4 => q_b2 (f_X6_failAt g a0 1 v4) fun v6 g5 => q_zr v6 (v6, g5)) else ((g_R g a0 5 2).bind fun v2 => (f_X3_count g v2 0).bind fun v3 => if v3 ≤ 0 then (J_X6_readLine_37 a0 v1 0 g) else (J_X6_readLine_37 a0 v1 1 g))
set_option maxHeartbeats 4000000 in
set_option maxRecDepth 100000 in
theorem c_X6_readLine (l : Launch) (E : qV) {g : qS} {a0 : Nat} {res : (Int32 × qS)} (hf : f_X6_readLine g a0 = some res) : q_MW l yX6_readLine cX6_readLine 3 (some .boolean) 9 231 E [.ref (q_ad E a0)] g (some (.int res.1)) res.2 ∧ ∃ fs, g a0 = some (.inr (5, fs)) := by
  unfold f_X6_readLine at hf
  obtain ⟨u9, hu9, hf⟩ := q_ob hf
  refine ⟨q_ofW (by decide) rfl ?_, g_C_sp hu9⟩
  intro p e s m args below meth c ls C hj hl
  have hx := C.1
  have hb := C.2.1
  have C : q_C E p s m args meth c cX6_readLine RX6 3 (some .boolean) := C
  have hl : lv_has ls 3 [(0, .ref (q_ad E a0))] := hl
  refine lv_aload_n hx hb dX6_readLine_0 rfl (lv_at hl 0 rfl) ?_
  refine q_cVRI C hj cw_X6_124 (As := []) (rest := []) hf (fun v9 h9 => c_X6_lineSort l E h9) rfl hl rfl rfl rfl dX6_readLine_1 ⟨Nat.zero_le _, Nat.zero_le _⟩ (fun v1 hf => ?_)
  refine lv_istore_n (lv' := [(1, .int v1), (0, .ref (q_ad E a0))]) hx hb dX6_readLine_4 rfl hl (by decide) rfl (fun ls hl => ?_)
  refine lv_iload_n hx hb dX6_readLine_5 rfl (lv_at hl 0 rfl) ?_
  refine lv_bipush (v := 10) hx hb dX6_readLine_6 (by decide) ?_
  refine q_icne C (tgt := 21) dX6_readLine_8 (by decide) hf (fun hf => ?_) (fun hf => ?_)
  · refine lv_aload_n hx hb dX6_readLine_21 rfl (lv_at hl 1 rfl) ?_
    refine q_getR C hj lk_X6_22 dX6_readLine_22 hf (fun v2 hf => ?_)
    refine lv_iconst (v := 0) hx hb dX6_readLine_25 qi_0 ?_
    refine q_cVRI C hj cw_X6_98 (As := [.int 0]) (rest := []) hf (fun v9 h9 => c_X3_count l E h9) rfl hl rfl rfl rfl dX6_readLine_26 ⟨Nat.zero_le _, Nat.zero_le _⟩ (fun v3 hf => ?_)
    refine q_ifle C (tgt := 36) dX6_readLine_29 (by decide) hf (fun hf => ?_) (fun hf => ?_)
    · refine lv_iconst (v := 0) hx hb dX6_readLine_36 qi_0 ?_
      refine w_J_X6_readLine_37 C  hj (lv_sub hl [1, 0] rfl) hf
    · refine lv_iconst (v := 1) hx hb dX6_readLine_32 qi_1 ?_
      refine lv_goto (tgt := 37) hx hb dX6_readLine_33 (by decide) ?_
      refine w_J_X6_readLine_37 C  hj (lv_sub hl [1, 0] rfl) hf
  · refine lv_aload_n hx hb dX6_readLine_11 rfl (lv_at hl 1 rfl) ?_
    refine lv_iconst (v := 1) hx hb dX6_readLine_12 qi_1 ?_
    refine lv_aload_n hx hb dX6_readLine_13 rfl (lv_at hl 1 rfl) ?_
    refine q_getI C hj lk_X6_48 dX6_readLine_14 hf (fun v4 hf => ?_)
    refine q_cVWI C hj cw_X6_81 (As := [.int 1, .int v4]) (rest := []) hf (fun v9 g9 h9 => c_X6_failAt l E h9) rfl hl rfl rfl rfl dX6_readLine_17 ⟨Nat.zero_le _, Nat.zero_le _⟩ (fun v6 g5 H locs hj hf => ?_)
    exact q_zretW C hj dX6_readLine_20 hf
def J_X6_lacksNothing_38  (x0 : Nat) (t0 : Int32) (g : qS) : Option (Int32 × qS) := if t0 = 0 then (some (1, g)) else ((g_I g x0 5 8).bind fun v1 => q_b2 (f_X6_failAt g x0 6 v1) fun v3 g2 => q_zr v3 (v3, g2))
set_option maxHeartbeats 4000000 in
set_option maxRecDepth 100000 in
theorem w_J_X6_lacksNothing_38 {l : Launch} {E : qV} {p : Program} {e : Env} {s : State} {m : MethodId} {args : Array Value} {below : List Frame} {meth : Method} {c : Code}  {res : (Int32 × qS)} (C : q_C E p s m args meth c cX6_lacksNothing RX6 2 (some .boolean))  : ∀ {x0 : Nat} {t0 : Int32} {g : qS} {H : Heap} {locs : List Loc} {ls : Array Slot}, q_J E s g H locs → lv_has ls 2 [(0, .ref (q_ad E x0))] → J_X6_lacksNothing_38 x0 t0 g = some res → W p l e (q_rm 2 44) s m args below meth c H locs 0 0 (q_ZW E below (some (.int res.1)) res.2 args s) (F0 m 38 ls [.int t0]) := by
  have hx := C.1
  have hb := C.2.1
  intro x0 t0 g H locs ls hj hl hf
  unfold J_X6_lacksNothing_38 at hf
  refine lv_istore_n (lv' := [(1, .int t0), (0, .ref (q_ad E x0))]) hx hb dX6_lacksNothing_38 rfl hl (by decide) rfl (fun ls hl => ?_)
  refine lv_iload_n hx hb dX6_lacksNothing_39 rfl (lv_at hl 0 rfl) ?_
  refine q_ifeq C (tgt := 56) dX6_lacksNothing_40 (by decide) hf (fun hf => ?_) (fun hf => ?_)
  · refine lv_iconst (v := 1) hx hb dX6_lacksNothing_56 qi_1 ?_
    exact q_z1retW C hj dX6_lacksNothing_57 hf
  · refine lv_aload_n hx hb dX6_lacksNothing_43 rfl (lv_at hl 1 rfl) ?_
    refine lv_bipush (v := 6) hx hb dX6_lacksNothing_44 (by decide) ?_
    refine lv_aload_n hx hb dX6_lacksNothing_46 rfl (lv_at hl 1 rfl) ?_
    refine q_getI C hj lk_X6_48 dX6_lacksNothing_47 hf (fun v1 hf => ?_)
    refine q_cVWI C hj cw_X6_81 (As := [.int 6, .int v1]) (rest := []) hf (fun v9 g9 h9 => c_X6_failAt l E h9) rfl hl rfl rfl rfl dX6_lacksNothing_50 ⟨Nat.zero_le _, Nat.zero_le _⟩ (fun v3 g2 H locs hj hf => ?_)
    refine lv_goto (tgt := 57) hx hb dX6_lacksNothing_53 (by decide) ?_
    exact q_zretW C hj dX6_lacksNothing_57 hf
def J_X6_lacksNothing_33  (x0 : Nat) (g : qS) : Option (Int32 × qS) := J_X6_lacksNothing_38 x0 1 g
set_option maxHeartbeats 4000000 in
set_option maxRecDepth 100000 in
theorem w_J_X6_lacksNothing_33 {l : Launch} {E : qV} {p : Program} {e : Env} {s : State} {m : MethodId} {args : Array Value} {below : List Frame} {meth : Method} {c : Code}  {res : (Int32 × qS)} (C : q_C E p s m args meth c cX6_lacksNothing RX6 2 (some .boolean))  : ∀ {x0 : Nat} {g : qS} {H : Heap} {locs : List Loc} {ls : Array Slot}, q_J E s g H locs → lv_has ls 2 [(0, .ref (q_ad E x0))] → J_X6_lacksNothing_33 x0 g = some res → W p l e (q_rm 2 44) s m args below meth c H locs 0 0 (q_ZW E below (some (.int res.1)) res.2 args s) (F0 m 33 ls []) := by
  have hx := C.1
  have hb := C.2.1
  intro x0 g H locs ls hj hl hf
  unfold J_X6_lacksNothing_33 at hf
  refine lv_iconst (v := 1) hx hb dX6_lacksNothing_33 qi_1 ?_
  refine lv_goto (tgt := 38) hx hb dX6_lacksNothing_34 (by decide) ?_
  refine w_J_X6_lacksNothing_38 C  hj (lv_sub hl [0] rfl) hf
def f_X6_lacksNothing (g : qS) (a0 : Nat) : Option (Int32 × qS) := (g_C g a0 5).bind fun _ => (g_R g a0 5 2).bind fun v1 => (f_X3_count g v1 2).bind fun v2 => if v2 = 0 then (J_X6_lacksNothing_33 a0 g) else ((g_R g a0 5 2).bind fun v3 => (f_X3_count g v3 3).bind fun v4 => if v4 = 0 then (J_X6_lacksNothing_33 a0 g) else ((g_R g a0 5 2).bind fun v5 => (f_X3_count g v5 5).bind fun v6 => if v6 = 0 then (J_X6_lacksNothing_33 a0 g) else (J_X6_lacksNothing_38 a0 0 g)))
set_option maxHeartbeats 4000000 in
set_option maxRecDepth 100000 in
theorem c_X6_lacksNothing (l : Launch) (E : qV) {g : qS} {a0 : Nat} {res : (Int32 × qS)} (hf : f_X6_lacksNothing g a0 = some res) : q_MW l yX6_lacksNothing cX6_lacksNothing 2 (some .boolean) 2 44 E [.ref (q_ad E a0)] g (some (.int res.1)) res.2 ∧ ∃ fs, g a0 = some (.inr (5, fs)) := by
  unfold f_X6_lacksNothing at hf
  obtain ⟨u9, hu9, hf⟩ := q_ob hf
  refine ⟨q_ofW (by decide) rfl ?_, g_C_sp hu9⟩
  intro p e s m args below meth c ls C hj hl
  have hx := C.1
  have hb := C.2.1
  have C : q_C E p s m args meth c cX6_lacksNothing RX6 2 (some .boolean) := C
  have hl : lv_has ls 2 [(0, .ref (q_ad E a0))] := hl
  refine lv_aload_n hx hb dX6_lacksNothing_0 rfl (lv_at hl 0 rfl) ?_
  refine q_getR C hj lk_X6_22 dX6_lacksNothing_1 hf (fun v1 hf => ?_)
  refine lv_iconst (v := 2) hx hb dX6_lacksNothing_4 qi_2 ?_
  refine q_cVRI C hj cw_X6_98 (As := [.int 2]) (rest := []) hf (fun v9 h9 => c_X3_count l E h9) rfl hl rfl rfl rfl dX6_lacksNothing_5 ⟨Nat.zero_le _, Nat.zero_le _⟩ (fun v2 hf => ?_)
  refine q_ifeq C (tgt := 33) dX6_lacksNothing_8 (by decide) hf (fun hf => ?_) (fun hf => ?_)
  · refine w_J_X6_lacksNothing_33 C  hj (lv_sub hl [0] rfl) hf
  · refine lv_aload_n hx hb dX6_lacksNothing_11 rfl (lv_at hl 0 rfl) ?_
    refine q_getR C hj lk_X6_22 dX6_lacksNothing_12 hf (fun v3 hf => ?_)
    refine lv_iconst (v := 3) hx hb dX6_lacksNothing_15 qi_3 ?_
    refine q_cVRI C hj cw_X6_98 (As := [.int 3]) (rest := []) hf (fun v9 h9 => c_X3_count l E h9) rfl hl rfl rfl rfl dX6_lacksNothing_16 ⟨Nat.zero_le _, Nat.zero_le _⟩ (fun v4 hf => ?_)
    refine q_ifeq C (tgt := 33) dX6_lacksNothing_19 (by decide) hf (fun hf => ?_) (fun hf => ?_)
    · refine w_J_X6_lacksNothing_33 C  hj (lv_sub hl [0] rfl) hf
    · refine lv_aload_n hx hb dX6_lacksNothing_22 rfl (lv_at hl 0 rfl) ?_
      refine q_getR C hj lk_X6_22 dX6_lacksNothing_23 hf (fun v5 hf => ?_)
      refine lv_iconst (v := 5) hx hb dX6_lacksNothing_26 qi_5 ?_
      refine q_cVRI C hj cw_X6_98 (As := [.int 5]) (rest := []) hf (fun v9 h9 => c_X3_count l E h9) rfl hl rfl rfl rfl dX6_lacksNothing_27 ⟨Nat.zero_le _, Nat.zero_le _⟩ (fun v6 hf => ?_)
      refine q_ifne C (tgt := 37) dX6_lacksNothing_30 (by decide) hf (fun hf => ?_) (fun hf => ?_)
      · refine lv_iconst (v := 0) hx hb dX6_lacksNothing_37 qi_0 ?_
        refine w_J_X6_lacksNothing_38 C  hj (lv_sub hl [0] rfl) hf
      · refine w_J_X6_lacksNothing_33 C  hj (lv_sub hl [0] rfl) hf
def L_X6_read_7  : Nat → Nat → Int32 → qS → Option (Int32 × qS)
  | 0, _, _, _ => none
  | n + 1, x0, x2, g => if 1000 < x2 then ((g_I g x0 5 8).bind fun v1 => q_b2 (f_X6_failAt g x0 1 v1) fun v3 g2 => q_zr v3 (v3, g2)) else (q_b2 (f_X6_readLine g x0) fun v5 g4 => if v5 = 0 then (some (0, g4)) else ((g_I g4 x0 5 7).bind fun v6 => if v6 = 0 then (q_b2 (f_X6_lacksNothing g4 x0) fun v14 g13 => q_zr v14 (v14, g13)) else ((g_I g4 x0 5 7).bind fun v7 => if v7 = 3 then (q_b2 (f_X6_take g4 x0 0) fun v9 g8 => L_X6_read_7 n x0 (x2 + 1) g8) else ((g_I g4 x0 5 8).bind fun v10 => q_b2 (f_X6_failAt g4 x0 1 v10) fun v12 g11 => q_zr v12 (v12, g11)))))
set_option maxHeartbeats 4000000 in
set_option maxRecDepth 100000 in
theorem w_L_X6_read_7 {l : Launch} {E : qV} {p : Program} {e : Env} {s : State} {m : MethodId} {args : Array Value} {below : List Frame} {meth : Method} {c : Code}  {res : (Int32 × qS)} (C : q_C E p s m args meth c cX6_read RX6 3 (some .boolean))  : ∀ {n : Nat} {x0 : Nat} {x2 : Int32} {g : qS} {H : Heap} {locs : List Loc} {ls : Array Slot}, q_J E s g H locs → lv_has ls 3 [(0, .ref (q_ad E x0)), (2, .int x2)] → L_X6_read_7 n x0 x2 g = some res → W p l e (q_rm 10 253) s m args below meth c H locs 0 0 (q_ZW E below (some (.int res.1)) res.2 args s) (F0 m 7 ls []) := by
  have hx := C.1
  have hb := C.2.1
  intro n
  induction n with
  | zero =>
    intro x0 x2 g H locs ls hj hl hf
    cases hf
  | succ n ih_ =>
    intro x0 x2 g H locs ls hj hl hf
    have ih : ∀ (x0 : Nat) (x2 : Int32) (g : qS) (H : Heap) (locs : List Loc) (ls : Array Slot), q_J E s g H locs → lv_has ls 3 [(0, .ref (q_ad E x0)), (2, .int x2)] → L_X6_read_7 n x0 x2 g = some res → W p l e (q_rm 10 253) s m args below meth c H locs 0 0 (q_ZW E below (some (.int res.1)) res.2 args s) (F0 m 7 ls []) := fun x0 x2 g H locs ls hj hl hf => ih_ hj hl hf
    unfold L_X6_read_7 at hf
    refine lv_iload_n hx hb dX6_read_7 rfl (lv_at hl 1 rfl) ?_
    refine lv_sipush (v := 1000) hx hb dX6_read_8 (by decide) ?_
    refine q_icgt C (tgt := 65) dX6_read_11 (by decide) hf (fun hf => ?_) (fun hf => ?_)
    · refine lv_aload_n hx hb dX6_read_65 rfl (lv_at hl 0 rfl) ?_
      refine lv_iconst (v := 1) hx hb dX6_read_66 qi_1 ?_
      refine lv_aload_n hx hb dX6_read_67 rfl (lv_at hl 0 rfl) ?_
      refine q_getI C hj lk_X6_48 dX6_read_68 hf (fun v1 hf => ?_)
      refine q_cVWI C hj cw_X6_81 (As := [.int 1, .int v1]) (rest := []) hf (fun v9 g9 h9 => c_X6_failAt l E h9) rfl hl rfl rfl rfl dX6_read_71 ⟨Nat.zero_le _, Nat.zero_le _⟩ (fun v3 g2 H locs hj hf => ?_)
      exact q_zretW C hj dX6_read_74 hf
    · refine lv_aload_n hx hb dX6_read_14 rfl (lv_at hl 0 rfl) ?_
      refine q_cVWI C hj cw_X6_74 (As := []) (rest := []) hf (fun v9 g9 h9 => c_X6_readLine l E h9) rfl hl rfl rfl rfl dX6_read_15 ⟨Nat.zero_le _, Nat.zero_le _⟩ (fun v5 g4 H locs hj hf => ?_)
      refine q_ifne C (tgt := 23) dX6_read_18 (by decide) hf (fun hf => ?_) (fun hf => ?_)
      · refine lv_aload_n hx hb dX6_read_23 rfl (lv_at hl 0 rfl) ?_
        refine q_getI C hj lk_X6_45 dX6_read_24 hf (fun v6 hf => ?_)
        refine q_ifne C (tgt := 35) dX6_read_27 (by decide) hf (fun hf => ?_) (fun hf => ?_)
        · refine lv_aload_n hx hb dX6_read_35 rfl (lv_at hl 0 rfl) ?_
          refine q_getI C hj lk_X6_45 dX6_read_36 hf (fun v7 hf => ?_)
          refine lv_iconst (v := 3) hx hb dX6_read_39 qi_3 ?_
          refine q_iceq C (tgt := 53) dX6_read_40 (by decide) hf (fun hf => ?_) (fun hf => ?_)
          · refine lv_aload_n hx hb dX6_read_53 rfl (lv_at hl 0 rfl) ?_
            refine lv_iconst (v := 0) hx hb dX6_read_54 qi_0 ?_
            refine q_cVWI C hj cw_X6_85 (As := [.int 0]) (rest := []) hf (fun v9 g9 h9 => c_X6_take l E h9) rfl hl rfl rfl rfl dX6_read_55 ⟨Nat.zero_le _, Nat.zero_le _⟩ (fun v9 g8 H locs hj hf => ?_)
            refine lv_pop hx hb dX6_read_58 rfl ?_
            refine lv_iinc (v := x2 + 1) (lv' := [(2, .int (x2 + 1)), (0, .ref (q_ad E x0))]) hx hb dX6_read_59 hl (k := 1) rfl (by rw [qi_1]) (by decide) rfl (fun ls hl => ?_)
            refine lv_goto (tgt := 7) hx hb dX6_read_62 (by decide) ?_
            exact ih _ _ _ _ _ ls hj (lv_sub hl [1, 0] rfl) hf
          · refine lv_aload_n hx hb dX6_read_43 rfl (lv_at hl 0 rfl) ?_
            refine lv_iconst (v := 1) hx hb dX6_read_44 qi_1 ?_
            refine lv_aload_n hx hb dX6_read_45 rfl (lv_at hl 0 rfl) ?_
            refine q_getI C hj lk_X6_48 dX6_read_46 hf (fun v10 hf => ?_)
            refine q_cVWI C hj cw_X6_81 (As := [.int 1, .int v10]) (rest := []) hf (fun v9 g9 h9 => c_X6_failAt l E h9) rfl hl rfl rfl rfl dX6_read_49 ⟨Nat.zero_le _, Nat.zero_le _⟩ (fun v12 g11 H locs hj hf => ?_)
            exact q_zretW C hj dX6_read_52 hf
        · refine lv_aload_n hx hb dX6_read_30 rfl (lv_at hl 0 rfl) ?_
          refine q_cVWI C hj cw_X6_78 (As := []) (rest := []) hf (fun v9 g9 h9 => c_X6_lacksNothing l E h9) rfl hl rfl rfl rfl dX6_read_31 ⟨Nat.zero_le _, Nat.zero_le _⟩ (fun v14 g13 H locs hj hf => ?_)
          exact q_zretW C hj dX6_read_34 hf
      · refine lv_iconst (v := 0) hx hb dX6_read_21 qi_0 ?_
        exact q_z0retW C hj dX6_read_22 hf
def f_X6_read (g : qS) (a0 : Nat) (a1 : Int32) : Option (Int32 × qS) := (g_C g a0 5).bind fun _ => (f_X6_begin g a0 a1).bind fun g1 => L_X6_read_7 1000000000 a0 0 g1
set_option maxHeartbeats 4000000 in
set_option maxRecDepth 100000 in
theorem c_X6_read (l : Launch) (E : qV) {g : qS} {a0 : Nat} {a1 : Int32} {res : (Int32 × qS)} (hf : f_X6_read g a0 a1 = some res) : q_MW l yX6_read cX6_read 3 (some .boolean) 10 253 E [.ref (q_ad E a0), .int a1] g (some (.int res.1)) res.2 ∧ ∃ fs, g a0 = some (.inr (5, fs)) := by
  unfold f_X6_read at hf
  obtain ⟨u9, hu9, hf⟩ := q_ob hf
  refine ⟨q_ofW (by decide) rfl ?_, g_C_sp hu9⟩
  intro p e s m args below meth c ls C hj hl
  have hx := C.1
  have hb := C.2.1
  have C : q_C E p s m args meth c cX6_read RX6 3 (some .boolean) := C
  have hl : lv_has ls 3 [(0, .ref (q_ad E a0)), (1, .int a1)] := hl
  refine lv_aload_n hx hb dX6_read_0 rfl (lv_at hl 0 rfl) ?_
  refine lv_iload_n hx hb dX6_read_1 rfl (lv_at hl 1 rfl) ?_
  refine q_cVWV C hj cw_X6_70 (As := [.int a1]) (rest := []) hf (fun g9 h9 => c_X6_begin l E h9) rfl hl rfl rfl rfl dX6_read_2 ⟨Nat.zero_le _, Nat.zero_le _⟩ (fun g1 H locs hj hf => ?_)
  refine lv_iconst (v := 0) hx hb dX6_read_5 qi_0 ?_
  refine lv_istore_n (lv' := [(2, .int 0), (0, .ref (q_ad E a0)), (1, .int a1)]) hx hb dX6_read_6 rfl hl (by decide) rfl (fun ls hl => ?_)
  refine w_L_X6_read_7 C  hj (lv_sub hl [1, 0] rfl) hf
def f_X6_exchange (g : qS) (a0 : Nat) (a1 : Nat) : Option (Nat × qS) := (g_C g a0 5).bind fun _ => (g_R g a0 5 2).bind fun v1 => (p_R g a0 5 2 a1).bind fun g2 => some (v1, g2)
set_option maxHeartbeats 4000000 in
set_option maxRecDepth 100000 in
theorem c_X6_exchange (l : Launch) (E : qV) {g : qS} {a0 : Nat} {a1 : Nat} {res : (Nat × qS)} (hf : f_X6_exchange g a0 a1 = some res) : q_MW l yX6_exchange cX6_exchange 3 (some (.object "SecondPaper$College")) 0 0 E [.ref (q_ad E a0), .ref (q_ad E a1)] g (some (.ref (q_ad E res.1))) res.2 ∧ ∃ fs, g a0 = some (.inr (5, fs)) := by
  unfold f_X6_exchange at hf
  obtain ⟨u9, hu9, hf⟩ := q_ob hf
  refine ⟨q_ofW (by decide) rfl ?_, g_C_sp hu9⟩
  intro p e s m args below meth c ls C hj hl
  have hx := C.1
  have hb := C.2.1
  have C : q_C E p s m args meth c cX6_exchange RX6 3 (some (.object "SecondPaper$College")) := C
  have hl : lv_has ls 3 [(0, .ref (q_ad E a0)), (1, .ref (q_ad E a1))] := hl
  refine lv_aload_n hx hb dX6_exchange_0 rfl (lv_at hl 0 rfl) ?_
  refine q_getR C hj lk_X6_22 dX6_exchange_1 hf (fun v1 hf => ?_)
  refine lv_astore_n (lv' := [(2, .ref (q_ad E v1)), (0, .ref (q_ad E a0)), (1, .ref (q_ad E a1))]) hx hb dX6_exchange_4 rfl hl (by decide) rfl (fun ls hl => ?_)
  refine lv_aload_n hx hb dX6_exchange_5 rfl (lv_at hl 1 rfl) ?_
  refine lv_aload_n hx hb dX6_exchange_6 rfl (lv_at hl 2 rfl) ?_
  refine q_putR C hj fp_X6_22 dX6_exchange_7 hf (fun g2 H locs hj hf => ?_)
  refine lv_aload_n hx hb dX6_exchange_10 rfl (lv_at hl 0 rfl) ?_
  exact q_rretW C hj dX6_exchange_11 hf
def f_X6_faultNumber (g : qS) (a0 : Nat) : Option Int32 := (g_C g a0 5).bind fun _ => (g_I g a0 5 13).bind fun v1 => some v1
set_option maxHeartbeats 4000000 in
set_option maxRecDepth 100000 in
theorem c_X6_faultNumber (l : Launch) (E : qV) {g : qS} {a0 : Nat} {res : Int32} (hf : f_X6_faultNumber g a0 = some res) : q_MR l yX6_faultNumber cX6_faultNumber 1 (some .int) 0 0 E [.ref (q_ad E a0)] g (some (.int res)) ∧ ∃ fs, g a0 = some (.inr (5, fs)) := by
  unfold f_X6_faultNumber at hf
  obtain ⟨u9, hu9, hf⟩ := q_ob hf
  refine ⟨q_ofR (by decide) rfl ?_, g_C_sp hu9⟩
  intro p e s m args below meth c ls C hw hl
  have hj : q_J E s g s.heap [] := ⟨hw, va_S.rf⟩
  have hx := C.1
  have hb := C.2.1
  have C : q_C E p s m args meth c cX6_faultNumber RX6 1 (some .int) := C
  have hl : lv_has ls 1 [(0, .ref (q_ad E a0))] := hl
  refine lv_aload_n hx hb dX6_faultNumber_0 rfl (lv_at hl 0 rfl) ?_
  refine q_getI C hj lk_X6_64 dX6_faultNumber_1 hf (fun v1 hf => ?_)
  exact q_iretR C dX6_faultNumber_4 hf
def f_X6_faultPlace (g : qS) (a0 : Nat) : Option Int32 := (g_C g a0 5).bind fun _ => (g_I g a0 5 14).bind fun v1 => some v1
set_option maxHeartbeats 4000000 in
set_option maxRecDepth 100000 in
theorem c_X6_faultPlace (l : Launch) (E : qV) {g : qS} {a0 : Nat} {res : Int32} (hf : f_X6_faultPlace g a0 = some res) : q_MR l yX6_faultPlace cX6_faultPlace 1 (some .int) 0 0 E [.ref (q_ad E a0)] g (some (.int res)) ∧ ∃ fs, g a0 = some (.inr (5, fs)) := by
  unfold f_X6_faultPlace at hf
  obtain ⟨u9, hu9, hf⟩ := q_ob hf
  refine ⟨q_ofR (by decide) rfl ?_, g_C_sp hu9⟩
  intro p e s m args below meth c ls C hw hl
  have hj : q_J E s g s.heap [] := ⟨hw, va_S.rf⟩
  have hx := C.1
  have hb := C.2.1
  have C : q_C E p s m args meth c cX6_faultPlace RX6 1 (some .int) := C
  have hl : lv_has ls 1 [(0, .ref (q_ad E a0))] := hl
  refine lv_aload_n hx hb dX6_faultPlace_0 rfl (lv_at hl 0 rfl) ?_
  refine q_getI C hj lk_X6_67 dX6_faultPlace_1 hf (fun v1 hf => ?_)
  exact q_iretR C dX6_faultPlace_4 hf
