def f_X12_nearIn (g : qS) (a0 : Nat) (a1 : Nat) (a2 : Int32) (a3 : Int32) (a4 : Int32) (a5 : Int32) : Option Int32 := (g_C g a0 11).bind fun _ => (g_R g a0 11 3).bind fun v1 => (f_X12_many g a1 a4).bind fun v2 => (f_X11_near g v1 a2 a3 a4 a5 v2).bind fun v3 => some v3
set_option maxHeartbeats 4000000 in
set_option maxRecDepth 100000 in
theorem c_X12_nearIn (l : Launch) (E : qV) {g : qS} {a0 : Nat} {a1 : Nat} {a2 : Int32} {a3 : Int32} {a4 : Int32} {a5 : Int32} {res : Int32} (hf : f_X12_nearIn g a0 a1 a2 a3 a4 a5 = some res) : q_MR l yX12_nearIn cX12_nearIn 6 (some .int) 1 26 E [.ref (q_ad E a0), .ref (q_ad E a1), .int a2, .int a3, .int a4, .int a5] g (some (.int res)) ∧ ∃ fs, g a0 = some (.inr (11, fs)) := by
  unfold f_X12_nearIn at hf
  obtain ⟨u9, hu9, hf⟩ := q_ob hf
  refine ⟨q_ofR (by decide) rfl ?_, g_C_sp hu9⟩
  intro p e s m args below meth c ls C hw hl
  have hj : q_J E s g s.heap [] := ⟨hw, va_S.rf⟩
  have hx := C.1
  have hb := C.2.1
  have C : q_C E p s m args meth c cX12_nearIn RX12 6 (some .int) := C
  have hl : lv_has ls 6 [(0, .ref (q_ad E a0)), (1, .ref (q_ad E a1)), (2, .int a2), (3, .int a3), (4, .int a4), (5, .int a5)] := hl
  refine lv_aload_n hx hb dX12_nearIn_0 rfl (lv_at hl 0 rfl) ?_
  refine q_getR C hj lk_X12_369 dX12_nearIn_1 hf (fun v1 hf => ?_)
  refine lv_iload_n hx hb dX12_nearIn_4 rfl (lv_at hl 2 rfl) ?_
  refine lv_iload_n hx hb dX12_nearIn_5 rfl (lv_at hl 3 rfl) ?_
  refine lv_iload hx hb dX12_nearIn_6 (lv_at hl 4 rfl) ?_
  refine lv_iload hx hb dX12_nearIn_8 (lv_at hl 5 rfl) ?_
  refine lv_aload_n hx hb dX12_nearIn_10 rfl (lv_at hl 1 rfl) ?_
  refine lv_iload hx hb dX12_nearIn_11 (lv_at hl 4 rfl) ?_
  refine q_cSRI C hj cw_X12_380 (As := [.ref (q_ad E a1), .int a4]) (rest := [.int a5, .int a4, .int a3, .int a2, .ref (q_ad E v1)]) hf (fun v9 h9 => c_X12_many l E h9) rfl hl rfl rfl rfl dX12_nearIn_13 ⟨Nat.zero_le _, Nat.zero_le _⟩ (fun v2 hf => ?_)
  refine q_cVRI C hj cw_X12_384 (As := [.int a2, .int a3, .int a4, .int a5, .int v2]) (rest := []) hf (fun v9 h9 => c_X11_near l E h9) rfl hl rfl rfl rfl dX12_nearIn_16 ⟨Nat.zero_le _, Nat.zero_le _⟩ (fun v3 hf => ?_)
  exact q_iretR C dX12_nearIn_19 hf
def f_X11_together (g : qS) (a0 : Nat) (a1 : Int32) (a2 : Int32) (a3 : Int32) : Option Int32 := (g_C g a0 10).bind fun _ => (g_R g a0 10 18).bind fun v1 => (a_I g v1 ((7 * a2) + a3)).bind fun v2 => if v2 = (-2) then (some (-2)) else ((g_R g a0 10 22).bind fun v3 => (a_I g v3 ((7 * a1) + a3)).bind fun v4 => if v4 = v2 then (some v2) else (some (-2)))
set_option maxHeartbeats 4000000 in
set_option maxRecDepth 100000 in
theorem c_X11_together (l : Launch) (E : qV) {g : qS} {a0 : Nat} {a1 : Int32} {a2 : Int32} {a3 : Int32} {res : Int32} (hf : f_X11_together g a0 a1 a2 a3 = some res) : q_MR l yX11_together cX11_together 5 (some .int) 0 0 E [.ref (q_ad E a0), .int a1, .int a2, .int a3] g (some (.int res)) ∧ ∃ fs, g a0 = some (.inr (10, fs)) := by
  unfold f_X11_together at hf
  obtain ⟨u9, hu9, hf⟩ := q_ob hf
  refine ⟨q_ofR (by decide) rfl ?_, g_C_sp hu9⟩
  intro p e s m args below meth c ls C hw hl
  have hj : q_J E s g s.heap [] := ⟨hw, va_S.rf⟩
  have hx := C.1
  have hb := C.2.1
  have C : q_C E p s m args meth c cX11_together RX11 5 (some .int) := C
  have hl : lv_has ls 5 [(0, .ref (q_ad E a0)), (1, .int a1), (2, .int a2), (3, .int a3)] := hl
  refine lv_aload_n hx hb dX11_together_0 rfl (lv_at hl 0 rfl) ?_
  refine q_getR C hj lk_X11_33 dX11_together_1 hf (fun v1 hf => ?_)
  refine lv_bipush (v := 7) hx hb dX11_together_4 (by decide) ?_
  refine lv_iload_n hx hb dX11_together_6 rfl (lv_at hl 2 rfl) ?_
  refine lv_imul hx hb dX11_together_7 ?_
  refine lv_iload_n hx hb dX11_together_8 rfl (lv_at hl 3 rfl) ?_
  refine lv_iadd hx hb dX11_together_9 ?_
  refine q_aldI C hj dX11_together_10 hf (fun v2 hf => ?_)
  refine lv_istore (lv' := [(4, .int v2), (0, .ref (q_ad E a0)), (1, .int a1), (2, .int a2), (3, .int a3)]) hx hb dX11_together_11 hl (by decide) rfl (fun ls hl => ?_)
  refine lv_iload hx hb dX11_together_13 (lv_at hl 0 rfl) ?_
  refine lv_bipush (v := -2) hx hb dX11_together_15 (by decide) ?_
  refine q_iceq C (tgt := 41) dX11_together_17 (by decide) hf (fun hf => ?_) (fun hf => ?_)
  · refine lv_bipush (v := -2) hx hb dX11_together_41 (by decide) ?_
    exact q_iretR C dX11_together_43 hf
  · refine lv_aload_n hx hb dX11_together_20 rfl (lv_at hl 1 rfl) ?_
    refine q_getR C hj lk_X11_45 dX11_together_21 hf (fun v3 hf => ?_)
    refine lv_bipush (v := 7) hx hb dX11_together_24 (by decide) ?_
    refine lv_iload_n hx hb dX11_together_26 rfl (lv_at hl 2 rfl) ?_
    refine lv_imul hx hb dX11_together_27 ?_
    refine lv_iload_n hx hb dX11_together_28 rfl (lv_at hl 4 rfl) ?_
    refine lv_iadd hx hb dX11_together_29 ?_
    refine q_aldI C hj dX11_together_30 hf (fun v4 hf => ?_)
    refine lv_iload hx hb dX11_together_31 (lv_at hl 0 rfl) ?_
    refine q_icne C (tgt := 41) dX11_together_33 (by decide) hf (fun hf => ?_) (fun hf => ?_)
    · refine lv_bipush (v := -2) hx hb dX11_together_41 (by decide) ?_
      exact q_iretR C dX11_together_43 hf
    · refine lv_iload hx hb dX11_together_36 (lv_at hl 0 rfl) ?_
      refine lv_goto (tgt := 43) hx hb dX11_together_38 (by decide) ?_
      exact q_iretR C dX11_together_43 hf
def f_X12_hinders (g : qS) (a0 : Nat) (a1 : Nat) (a2 : Int32) (a3 : Int32) (a4 : Int32) (a5 : Int32) : Option Int32 := (g_C g a0 11).bind fun _ => (g_R g a0 11 3).bind fun v1 => (f_X11_together g v1 a2 a4 a5).bind fun v2 => if v2 = (-2) then (some 2) else ((a_I g a1 (0 + a3)).bind fun v3 => if v3 = (-2) then ((f_X12_many g a1 a4).bind fun v4 => (f_X12_roomIn g a0 a1 a4).bind fun v5 => if v4 < v5 then (some 0) else (some 4)) else (some 3))
set_option maxHeartbeats 4000000 in
set_option maxRecDepth 100000 in
theorem c_X12_hinders (l : Launch) (E : qV) {g : qS} {a0 : Nat} {a1 : Nat} {a2 : Int32} {a3 : Int32} {a4 : Int32} {a5 : Int32} {res : Int32} (hf : f_X12_hinders g a0 a1 a2 a3 a4 a5 = some res) : q_MR l yX12_hinders cX12_hinders 6 (some .int) 2 44 E [.ref (q_ad E a0), .ref (q_ad E a1), .int a2, .int a3, .int a4, .int a5] g (some (.int res)) ∧ ∃ fs, g a0 = some (.inr (11, fs)) := by
  unfold f_X12_hinders at hf
  obtain ⟨u9, hu9, hf⟩ := q_ob hf
  refine ⟨q_ofR (by decide) rfl ?_, g_C_sp hu9⟩
  intro p e s m args below meth c ls C hw hl
  have hj : q_J E s g s.heap [] := ⟨hw, va_S.rf⟩
  have hx := C.1
  have hb := C.2.1
  have C : q_C E p s m args meth c cX12_hinders RX12 6 (some .int) := C
  have hl : lv_has ls 6 [(0, .ref (q_ad E a0)), (1, .ref (q_ad E a1)), (2, .int a2), (3, .int a3), (4, .int a4), (5, .int a5)] := hl
  refine lv_aload_n hx hb dX12_hinders_0 rfl (lv_at hl 0 rfl) ?_
  refine q_getR C hj lk_X12_369 dX12_hinders_1 hf (fun v1 hf => ?_)
  refine lv_iload_n hx hb dX12_hinders_4 rfl (lv_at hl 2 rfl) ?_
  refine lv_iload hx hb dX12_hinders_5 (lv_at hl 4 rfl) ?_
  refine lv_iload hx hb dX12_hinders_7 (lv_at hl 5 rfl) ?_
  refine q_cVRI C hj cw_X12_388 (As := [.int a2, .int a4, .int a5]) (rest := []) hf (fun v9 h9 => c_X11_together l E h9) rfl hl rfl rfl rfl dX12_hinders_9 ⟨Nat.zero_le _, Nat.zero_le _⟩ (fun v2 hf => ?_)
  refine lv_bipush (v := -2) hx hb dX12_hinders_12 (by decide) ?_
  refine q_icne C (tgt := 19) dX12_hinders_14 (by decide) hf (fun hf => ?_) (fun hf => ?_)
  · refine lv_aload_n hx hb dX12_hinders_19 rfl (lv_at hl 1 rfl) ?_
    refine lv_iconst (v := 0) hx hb dX12_hinders_20 qi_0 ?_
    refine lv_iload_n hx hb dX12_hinders_21 rfl (lv_at hl 3 rfl) ?_
    refine lv_iadd hx hb dX12_hinders_22 ?_
    refine q_aldI C hj dX12_hinders_23 hf (fun v3 hf => ?_)
    refine lv_bipush (v := -2) hx hb dX12_hinders_24 (by decide) ?_
    refine q_iceq C (tgt := 31) dX12_hinders_26 (by decide) hf (fun hf => ?_) (fun hf => ?_)
    · refine lv_aload_n hx hb dX12_hinders_31 rfl (lv_at hl 1 rfl) ?_
      refine lv_iload hx hb dX12_hinders_32 (lv_at hl 4 rfl) ?_
      refine q_cSRI C hj cw_X12_380 (As := [.ref (q_ad E a1), .int a4]) (rest := []) hf (fun v9 h9 => c_X12_many l E h9) rfl hl rfl rfl rfl dX12_hinders_34 ⟨Nat.zero_le _, Nat.zero_le _⟩ (fun v4 hf => ?_)
      refine lv_aload_n hx hb dX12_hinders_37 rfl (lv_at hl 0 rfl) ?_
      refine lv_aload_n hx hb dX12_hinders_38 rfl (lv_at hl 1 rfl) ?_
      refine lv_iload hx hb dX12_hinders_39 (lv_at hl 4 rfl) ?_
      refine q_cVRI C hj cw_X12_392 (As := [.ref (q_ad E a1), .int a4]) (rest := [.int v4]) hf (fun v9 h9 => c_X12_roomIn l E h9) rfl hl rfl rfl rfl dX12_hinders_41 ⟨Nat.zero_le _, Nat.zero_le _⟩ (fun v5 hf => ?_)
      refine q_iclt C (tgt := 51) dX12_hinders_44 (by decide) hf (fun hf => ?_) (fun hf => ?_)
      · refine lv_iconst (v := 0) hx hb dX12_hinders_51 qi_0 ?_
        exact q_iretR C dX12_hinders_52 hf
      · refine lv_iconst (v := 4) hx hb dX12_hinders_47 qi_4 ?_
        refine lv_goto (tgt := 52) hx hb dX12_hinders_48 (by decide) ?_
        exact q_iretR C dX12_hinders_52 hf
    · refine lv_iconst (v := 3) hx hb dX12_hinders_29 qi_3 ?_
      exact q_iretR C dX12_hinders_30 hf
  · refine lv_iconst (v := 2) hx hb dX12_hinders_17 qi_2 ?_
    exact q_iretR C dX12_hinders_18 hf
def f_X12_comes (g : qS) (a0 : Nat) (a1 : Nat) (a2 : Int32) (a3 : Int32) (a4 : Int32) (a5 : Int32) : Option Int32 := (g_C g a0 11).bind fun _ => (f_X12_hinders g a0 a1 a2 a3 a4 a5).bind fun v1 => if v1 = 0 then ((g_R g a0 11 3).bind fun v2 => (f_X11_together g v2 a2 a4 a5).bind fun v3 => (f_X12_nearIn g a0 a1 a2 a3 a4 v3).bind fun v4 => (g_R g a0 11 3).bind fun v5 => (g_I g v5 10 1).bind fun v6 => if v4 ≤ v6 then (some 0) else (some 1)) else (some v1)
set_option maxHeartbeats 4000000 in
set_option maxRecDepth 100000 in
theorem c_X12_comes (l : Launch) (E : qV) {g : qS} {a0 : Nat} {a1 : Nat} {a2 : Int32} {a3 : Int32} {a4 : Int32} {a5 : Int32} {res : Int32} (hf : f_X12_comes g a0 a1 a2 a3 a4 a5 = some res) : q_MR l yX12_comes cX12_comes 7 (some .int) 3 69 E [.ref (q_ad E a0), .ref (q_ad E a1), .int a2, .int a3, .int a4, .int a5] g (some (.int res)) ∧ ∃ fs, g a0 = some (.inr (11, fs)) := by
  unfold f_X12_comes at hf
  obtain ⟨u9, hu9, hf⟩ := q_ob hf
  refine ⟨q_ofR (by decide) rfl ?_, g_C_sp hu9⟩
  intro p e s m args below meth c ls C hw hl
  have hj : q_J E s g s.heap [] := ⟨hw, va_S.rf⟩
  have hx := C.1
  have hb := C.2.1
  have C : q_C E p s m args meth c cX12_comes RX12 7 (some .int) := C
  have hl : lv_has ls 7 [(0, .ref (q_ad E a0)), (1, .ref (q_ad E a1)), (2, .int a2), (3, .int a3), (4, .int a4), (5, .int a5)] := hl
  refine lv_aload_n hx hb dX12_comes_0 rfl (lv_at hl 0 rfl) ?_
  refine lv_aload_n hx hb dX12_comes_1 rfl (lv_at hl 1 rfl) ?_
  refine lv_iload_n hx hb dX12_comes_2 rfl (lv_at hl 2 rfl) ?_
  refine lv_iload_n hx hb dX12_comes_3 rfl (lv_at hl 3 rfl) ?_
  refine lv_iload hx hb dX12_comes_4 (lv_at hl 4 rfl) ?_
  refine lv_iload hx hb dX12_comes_6 (lv_at hl 5 rfl) ?_
  refine q_cVRI C hj cw_X12_395 (As := [.ref (q_ad E a1), .int a2, .int a3, .int a4, .int a5]) (rest := []) hf (fun v9 h9 => c_X12_hinders l E h9) rfl hl rfl rfl rfl dX12_comes_8 ⟨Nat.zero_le _, Nat.zero_le _⟩ (fun v1 hf => ?_)
  refine lv_istore (lv' := [(6, .int v1), (0, .ref (q_ad E a0)), (1, .ref (q_ad E a1)), (2, .int a2), (3, .int a3), (4, .int a4), (5, .int a5)]) hx hb dX12_comes_11 hl (by decide) rfl (fun ls hl => ?_)
  refine lv_iload hx hb dX12_comes_13 (lv_at hl 0 rfl) ?_
  refine q_ifeq C (tgt := 21) dX12_comes_15 (by decide) hf (fun hf => ?_) (fun hf => ?_)
  · refine lv_aload_n hx hb dX12_comes_21 rfl (lv_at hl 1 rfl) ?_
    refine lv_aload_n hx hb dX12_comes_22 rfl (lv_at hl 2 rfl) ?_
    refine lv_iload_n hx hb dX12_comes_23 rfl (lv_at hl 3 rfl) ?_
    refine lv_iload_n hx hb dX12_comes_24 rfl (lv_at hl 4 rfl) ?_
    refine lv_iload hx hb dX12_comes_25 (lv_at hl 5 rfl) ?_
    refine lv_aload_n hx hb dX12_comes_27 rfl (lv_at hl 1 rfl) ?_
    refine q_getR C hj lk_X12_369 dX12_comes_28 hf (fun v2 hf => ?_)
    refine lv_iload_n hx hb dX12_comes_31 rfl (lv_at hl 3 rfl) ?_
    refine lv_iload hx hb dX12_comes_32 (lv_at hl 5 rfl) ?_
    refine lv_iload hx hb dX12_comes_34 (lv_at hl 6 rfl) ?_
    refine q_cVRI C hj cw_X12_388 (As := [.int a2, .int a4, .int a5]) (rest := [.int a4, .int a3, .int a2, .ref (q_ad E a1), .ref (q_ad E a0)]) hf (fun v9 h9 => c_X11_together l E h9) rfl hl rfl rfl rfl dX12_comes_36 ⟨Nat.zero_le _, Nat.zero_le _⟩ (fun v3 hf => ?_)
    refine q_cVRI C hj cw_X12_399 (As := [.ref (q_ad E a1), .int a2, .int a3, .int a4, .int v3]) (rest := []) hf (fun v9 h9 => c_X12_nearIn l E h9) rfl hl rfl rfl rfl dX12_comes_39 ⟨Nat.zero_le _, Nat.zero_le _⟩ (fun v4 hf => ?_)
    refine lv_aload_n hx hb dX12_comes_42 rfl (lv_at hl 1 rfl) ?_
    refine q_getR C hj lk_X12_369 dX12_comes_43 hf (fun v5 hf => ?_)
    refine q_getI C hj lk_X12_249 dX12_comes_46 hf (fun v6 hf => ?_)
    refine q_icle C (tgt := 56) dX12_comes_49 (by decide) hf (fun hf => ?_) (fun hf => ?_)
    · refine lv_iconst (v := 0) hx hb dX12_comes_56 qi_0 ?_
      exact q_iretR C dX12_comes_57 hf
    · refine lv_iconst (v := 1) hx hb dX12_comes_52 qi_1 ?_
      refine lv_goto (tgt := 57) hx hb dX12_comes_53 (by decide) ?_
      exact q_iretR C dX12_comes_57 hf
  · refine lv_iload hx hb dX12_comes_18 (lv_at hl 0 rfl) ?_
    exact q_iretR C dX12_comes_20 hf
def f_X12_does (g : qS) (a0 : Nat) (a1 : Nat) (a2 : Int32) (a3 : Int32) (a4 : Int32) (a5 : Int32) : Option qS := (g_C g a0 11).bind fun _ => if a2 = 1 then ((s_I g a1 (9 + a3) 0).bind fun g12 => (a_I g12 a1 (12 + a3)).bind fun v13 => (s_I g12 a1 (12 + a3) (v13 + 1)).bind fun g14 => some g14) else (if a2 = 0 then ((s_I g a1 (0 + a4) a5).bind fun g1 => (a_I g1 a1 (9 + a3)).bind fun v2 => (g_R g1 a0 11 3).bind fun v3 => (g_R g1 v3 10 11).bind fun v4 => (a_I g1 v4 a4).bind fun v5 => if v5 = 2 then ((s_I g1 a1 (9 + a3) (v2 + 4)).bind fun g11 => some g11) else ((g_R g1 a0 11 3).bind fun v6 => (g_R g1 v6 10 11).bind fun v7 => (a_I g1 v7 a4).bind fun v8 => if v8 = 1 then ((s_I g1 a1 (9 + a3) (v2 + 2)).bind fun g10 => some g10) else ((s_I g1 a1 (9 + a3) (v2 + 1)).bind fun g9 => some g9))) else (some g))
set_option maxHeartbeats 4000000 in
set_option maxRecDepth 100000 in
theorem c_X12_does (l : Launch) (E : qV) {g : qS} {a0 : Nat} {a1 : Nat} {a2 : Int32} {a3 : Int32} {a4 : Int32} {a5 : Int32} {res : qS} (hf : f_X12_does g a0 a1 a2 a3 a4 a5 = some res) : q_MW l yX12_does cX12_does 6 none 0 0 E [.ref (q_ad E a0), .ref (q_ad E a1), .int a2, .int a3, .int a4, .int a5] g none res ∧ ∃ fs, g a0 = some (.inr (11, fs)) := by
  unfold f_X12_does at hf
  obtain ⟨u9, hu9, hf⟩ := q_ob hf
  refine ⟨q_ofW (by decide) rfl ?_, g_C_sp hu9⟩
  intro p e s m args below meth c ls C hj hl
  have hx := C.1
  have hb := C.2.1
  have C : q_C E p s m args meth c cX12_does RX12 6 none := C
  have hl : lv_has ls 6 [(0, .ref (q_ad E a0)), (1, .ref (q_ad E a1)), (2, .int a2), (3, .int a3), (4, .int a4), (5, .int a5)] := hl
  refine lv_iload_n hx hb dX12_does_0 rfl (lv_at hl 2 rfl) ?_
  refine lv_iconst (v := 1) hx hb dX12_does_1 qi_1 ?_
  refine q_icne C (tgt := 25) dX12_does_2 (by decide) hf (fun hf => ?_) (fun hf => ?_)
  · refine lv_iload_n hx hb dX12_does_25 rfl (lv_at hl 2 rfl) ?_
    refine q_ifne C (tgt := 83) dX12_does_26 (by decide) hf (fun hf => ?_) (fun hf => ?_)
    · exact q_vretW C hj dX12_does_83 hf
    · refine lv_aload_n hx hb dX12_does_29 rfl (lv_at hl 1 rfl) ?_
      refine lv_iconst (v := 0) hx hb dX12_does_30 qi_0 ?_
      refine lv_iload hx hb dX12_does_31 (lv_at hl 4 rfl) ?_
      refine lv_iadd hx hb dX12_does_33 ?_
      refine lv_iload hx hb dX12_does_34 (lv_at hl 5 rfl) ?_
      refine q_astI C hj dX12_does_36 hf (fun g1 H locs hj hf => ?_)
      refine lv_aload_n hx hb dX12_does_37 rfl (lv_at hl 1 rfl) ?_
      refine lv_bipush (v := 9) hx hb dX12_does_38 (by decide) ?_
      refine lv_iload_n hx hb dX12_does_40 rfl (lv_at hl 3 rfl) ?_
      refine lv_iadd hx hb dX12_does_41 ?_
      refine lv_dup2_11 hx hb dX12_does_42 rfl rfl ?_
      refine q_aldI C hj dX12_does_43 hf (fun v2 hf => ?_)
      refine lv_aload_n hx hb dX12_does_44 rfl (lv_at hl 0 rfl) ?_
      refine q_getR C hj lk_X12_369 dX12_does_45 hf (fun v3 hf => ?_)
      refine q_getR C hj lk_X12_273 dX12_does_48 hf (fun v4 hf => ?_)
      refine lv_iload hx hb dX12_does_51 (lv_at hl 4 rfl) ?_
      refine q_aldI C hj dX12_does_53 hf (fun v5 hf => ?_)
      refine lv_iconst (v := 2) hx hb dX12_does_54 qi_2 ?_
      refine q_icne C (tgt := 62) dX12_does_55 (by decide) hf (fun hf => ?_) (fun hf => ?_)
      · refine lv_aload_n hx hb dX12_does_62 rfl (lv_at hl 0 rfl) ?_
        refine q_getR C hj lk_X12_369 dX12_does_63 hf (fun v6 hf => ?_)
        refine q_getR C hj lk_X12_273 dX12_does_66 hf (fun v7 hf => ?_)
        refine lv_iload hx hb dX12_does_69 (lv_at hl 4 rfl) ?_
        refine q_aldI C hj dX12_does_71 hf (fun v8 hf => ?_)
        refine lv_iconst (v := 1) hx hb dX12_does_72 qi_1 ?_
        refine q_icne C (tgt := 80) dX12_does_73 (by decide) hf (fun hf => ?_) (fun hf => ?_)
        · refine lv_iconst (v := 1) hx hb dX12_does_80 qi_1 ?_
          refine lv_iadd hx hb dX12_does_81 ?_
          refine q_astI C hj dX12_does_82 hf (fun g9 H locs hj hf => ?_)
          exact q_vretW C hj dX12_does_83 hf
        · refine lv_iconst (v := 2) hx hb dX12_does_76 qi_2 ?_
          refine lv_goto (tgt := 81) hx hb dX12_does_77 (by decide) ?_
          refine lv_iadd hx hb dX12_does_81 ?_
          refine q_astI C hj dX12_does_82 hf (fun g10 H locs hj hf => ?_)
          exact q_vretW C hj dX12_does_83 hf
      · refine lv_iconst (v := 4) hx hb dX12_does_58 qi_4 ?_
        refine lv_goto (tgt := 81) hx hb dX12_does_59 (by decide) ?_
        refine lv_iadd hx hb dX12_does_81 ?_
        refine q_astI C hj dX12_does_82 hf (fun g11 H locs hj hf => ?_)
        exact q_vretW C hj dX12_does_83 hf
  · refine lv_aload_n hx hb dX12_does_5 rfl (lv_at hl 1 rfl) ?_
    refine lv_bipush (v := 9) hx hb dX12_does_6 (by decide) ?_
    refine lv_iload_n hx hb dX12_does_8 rfl (lv_at hl 3 rfl) ?_
    refine lv_iadd hx hb dX12_does_9 ?_
    refine lv_iconst (v := 0) hx hb dX12_does_10 qi_0 ?_
    refine q_astI C hj dX12_does_11 hf (fun g12 H locs hj hf => ?_)
    refine lv_aload_n hx hb dX12_does_12 rfl (lv_at hl 1 rfl) ?_
    refine lv_bipush (v := 12) hx hb dX12_does_13 (by decide) ?_
    refine lv_iload_n hx hb dX12_does_15 rfl (lv_at hl 3 rfl) ?_
    refine lv_iadd hx hb dX12_does_16 ?_
    refine lv_dup2_11 hx hb dX12_does_17 rfl rfl ?_
    refine q_aldI C hj dX12_does_18 hf (fun v13 hf => ?_)
    refine lv_iconst (v := 1) hx hb dX12_does_19 qi_1 ?_
    refine lv_iadd hx hb dX12_does_20 ?_
    refine q_astI C hj dX12_does_21 hf (fun g14 H locs hj hf => ?_)
    refine lv_goto (tgt := 83) hx hb dX12_does_22 (by decide) ?_
    exact q_vretW C hj dX12_does_83 hf
def f_X12_isThing (g : qS) (a0 : Nat) (a1 : Int32) : Option Int32 := (g_C g a0 11).bind fun _ => (g_Q g a0 11 3).bind fun o => if o = none then (some 0) else (if a1 < 0 then (some 0) else ((g_R g a0 11 3).bind fun v1 => (g_I g v1 10 2).bind fun v2 => if v2 ≤ a1 then (some 0) else (some 1)))
set_option maxHeartbeats 4000000 in
set_option maxRecDepth 100000 in
theorem c_X12_isThing (l : Launch) (E : qV) {g : qS} {a0 : Nat} {a1 : Int32} {res : Int32} (hf : f_X12_isThing g a0 a1 = some res) : q_MR l yX12_isThing cX12_isThing 2 (some .boolean) 0 0 E [.ref (q_ad E a0), .int a1] g (some (.int res)) ∧ ∃ fs, g a0 = some (.inr (11, fs)) := by
  unfold f_X12_isThing at hf
  obtain ⟨u9, hu9, hf⟩ := q_ob hf
  refine ⟨q_ofR (by decide) rfl ?_, g_C_sp hu9⟩
  intro p e s m args below meth c ls C hw hl
  have hj : q_J E s g s.heap [] := ⟨hw, va_S.rf⟩
  have hx := C.1
  have hb := C.2.1
  have C : q_C E p s m args meth c cX12_isThing RX12 2 (some .boolean) := C
  have hl : lv_has ls 2 [(0, .ref (q_ad E a0)), (1, .int a1)] := hl
  refine lv_aload_n hx hb dX12_isThing_0 rfl (lv_at hl 0 rfl) ?_
  refine q_gnull C hj lk_X12_369 dX12_isThing_1 (tgt := 26) dX12_isThing_4 (by decide) hf (fun hf => ?_) (fun hf => ?_)
  · refine lv_iconst (v := 0) hx hb dX12_isThing_26 qi_0 ?_
    exact q_z0retR C dX12_isThing_27 hf
  · refine lv_iload_n hx hb dX12_isThing_7 rfl (lv_at hl 1 rfl) ?_
    refine q_iflt C (tgt := 26) dX12_isThing_8 (by decide) hf (fun hf => ?_) (fun hf => ?_)
    · refine lv_iconst (v := 0) hx hb dX12_isThing_26 qi_0 ?_
      exact q_z0retR C dX12_isThing_27 hf
    · refine lv_iload_n hx hb dX12_isThing_11 rfl (lv_at hl 1 rfl) ?_
      refine lv_aload_n hx hb dX12_isThing_12 rfl (lv_at hl 0 rfl) ?_
      refine q_getR C hj lk_X12_369 dX12_isThing_13 hf (fun v1 hf => ?_)
      refine q_getI C hj lk_X12_201 dX12_isThing_16 hf (fun v2 hf => ?_)
      refine q_icge C (tgt := 26) dX12_isThing_19 (by decide) hf (fun hf => ?_) (fun hf => ?_)
      · refine lv_iconst (v := 0) hx hb dX12_isThing_26 qi_0 ?_
        exact q_z0retR C dX12_isThing_27 hf
      · refine lv_iconst (v := 1) hx hb dX12_isThing_22 qi_1 ?_
        refine lv_goto (tgt := 27) hx hb dX12_isThing_23 (by decide) ?_
        exact q_z1retR C dX12_isThing_27 hf
def f_X12_isPerson (g : qS) (a0 : Nat) (a1 : Int32) : Option Int32 := (g_C g a0 11).bind fun _ => (g_Q g a0 11 3).bind fun o => if o = none then (some 0) else (if a1 < 0 then (some 0) else ((g_R g a0 11 3).bind fun v1 => (g_I g v1 10 3).bind fun v2 => if v2 ≤ a1 then (some 0) else (some 1)))
set_option maxHeartbeats 4000000 in
set_option maxRecDepth 100000 in
theorem c_X12_isPerson (l : Launch) (E : qV) {g : qS} {a0 : Nat} {a1 : Int32} {res : Int32} (hf : f_X12_isPerson g a0 a1 = some res) : q_MR l yX12_isPerson cX12_isPerson 2 (some .boolean) 0 0 E [.ref (q_ad E a0), .int a1] g (some (.int res)) ∧ ∃ fs, g a0 = some (.inr (11, fs)) := by
  unfold f_X12_isPerson at hf
  obtain ⟨u9, hu9, hf⟩ := q_ob hf
  refine ⟨q_ofR (by decide) rfl ?_, g_C_sp hu9⟩
  intro p e s m args below meth c ls C hw hl
  have hj : q_J E s g s.heap [] := ⟨hw, va_S.rf⟩
  have hx := C.1
  have hb := C.2.1
  have C : q_C E p s m args meth c cX12_isPerson RX12 2 (some .boolean) := C
  have hl : lv_has ls 2 [(0, .ref (q_ad E a0)), (1, .int a1)] := hl
  refine lv_aload_n hx hb dX12_isPerson_0 rfl (lv_at hl 0 rfl) ?_
  refine q_gnull C hj lk_X12_369 dX12_isPerson_1 (tgt := 26) dX12_isPerson_4 (by decide) hf (fun hf => ?_) (fun hf => ?_)
  · refine lv_iconst (v := 0) hx hb dX12_isPerson_26 qi_0 ?_
    exact q_z0retR C dX12_isPerson_27 hf
  · refine lv_iload_n hx hb dX12_isPerson_7 rfl (lv_at hl 1 rfl) ?_
    refine q_iflt C (tgt := 26) dX12_isPerson_8 (by decide) hf (fun hf => ?_) (fun hf => ?_)
    · refine lv_iconst (v := 0) hx hb dX12_isPerson_26 qi_0 ?_
      exact q_z0retR C dX12_isPerson_27 hf
    · refine lv_iload_n hx hb dX12_isPerson_11 rfl (lv_at hl 1 rfl) ?_
      refine lv_aload_n hx hb dX12_isPerson_12 rfl (lv_at hl 0 rfl) ?_
      refine q_getR C hj lk_X12_369 dX12_isPerson_13 hf (fun v1 hf => ?_)
      refine q_getI C hj lk_X12_204 dX12_isPerson_16 hf (fun v2 hf => ?_)
      refine q_icge C (tgt := 26) dX12_isPerson_19 (by decide) hf (fun hf => ?_) (fun hf => ?_)
      · refine lv_iconst (v := 0) hx hb dX12_isPerson_26 qi_0 ?_
        exact q_z0retR C dX12_isPerson_27 hf
      · refine lv_iconst (v := 1) hx hb dX12_isPerson_22 qi_1 ?_
        refine lv_goto (tgt := 27) hx hb dX12_isPerson_23 (by decide) ?_
        exact q_z1retR C dX12_isPerson_27 hf
def f_X12_isTram (g : qS) (a0 : Nat) (a1 : Int32) : Option Int32 := (g_C g a0 11).bind fun _ => (g_Q g a0 11 3).bind fun o => if o = none then (some 0) else (if a1 < 0 then (some 0) else ((g_R g a0 11 3).bind fun v1 => (g_I g v1 10 4).bind fun v2 => if v2 ≤ a1 then (some 0) else (some 1)))
set_option maxHeartbeats 4000000 in
set_option maxRecDepth 100000 in
theorem c_X12_isTram (l : Launch) (E : qV) {g : qS} {a0 : Nat} {a1 : Int32} {res : Int32} (hf : f_X12_isTram g a0 a1 = some res) : q_MR l yX12_isTram cX12_isTram 2 (some .boolean) 0 0 E [.ref (q_ad E a0), .int a1] g (some (.int res)) ∧ ∃ fs, g a0 = some (.inr (11, fs)) := by
  unfold f_X12_isTram at hf
  obtain ⟨u9, hu9, hf⟩ := q_ob hf
  refine ⟨q_ofR (by decide) rfl ?_, g_C_sp hu9⟩
  intro p e s m args below meth c ls C hw hl
  have hj : q_J E s g s.heap [] := ⟨hw, va_S.rf⟩
  have hx := C.1
  have hb := C.2.1
  have C : q_C E p s m args meth c cX12_isTram RX12 2 (some .boolean) := C
  have hl : lv_has ls 2 [(0, .ref (q_ad E a0)), (1, .int a1)] := hl
  refine lv_aload_n hx hb dX12_isTram_0 rfl (lv_at hl 0 rfl) ?_
  refine q_gnull C hj lk_X12_369 dX12_isTram_1 (tgt := 26) dX12_isTram_4 (by decide) hf (fun hf => ?_) (fun hf => ?_)
  · refine lv_iconst (v := 0) hx hb dX12_isTram_26 qi_0 ?_
    exact q_z0retR C dX12_isTram_27 hf
  · refine lv_iload_n hx hb dX12_isTram_7 rfl (lv_at hl 1 rfl) ?_
    refine q_iflt C (tgt := 26) dX12_isTram_8 (by decide) hf (fun hf => ?_) (fun hf => ?_)
    · refine lv_iconst (v := 0) hx hb dX12_isTram_26 qi_0 ?_
      exact q_z0retR C dX12_isTram_27 hf
    · refine lv_iload_n hx hb dX12_isTram_11 rfl (lv_at hl 1 rfl) ?_
      refine lv_aload_n hx hb dX12_isTram_12 rfl (lv_at hl 0 rfl) ?_
      refine q_getR C hj lk_X12_369 dX12_isTram_13 hf (fun v1 hf => ?_)
      refine q_getI C hj lk_X12_297 dX12_isTram_16 hf (fun v2 hf => ?_)
      refine q_icge C (tgt := 26) dX12_isTram_19 (by decide) hf (fun hf => ?_) (fun hf => ?_)
      · refine lv_iconst (v := 0) hx hb dX12_isTram_26 qi_0 ?_
        exact q_z0retR C dX12_isTram_27 hf
      · refine lv_iconst (v := 1) hx hb dX12_isTram_22 qi_1 ?_
        refine lv_goto (tgt := 27) hx hb dX12_isTram_23 (by decide) ?_
        exact q_z1retR C dX12_isTram_27 hf
def f_X12_isGiver (g : qS) (a0 : Nat) (a1 : Int32) : Option Int32 := (g_C g a0 11).bind fun _ => (g_Q g a0 11 3).bind fun o => if o = none then (some 0) else (if a1 < 0 then (some 0) else ((g_R g a0 11 3).bind fun v1 => (g_I g v1 10 5).bind fun v2 => if v2 ≤ a1 then (some 0) else (some 1)))
set_option maxHeartbeats 4000000 in
set_option maxRecDepth 100000 in
theorem c_X12_isGiver (l : Launch) (E : qV) {g : qS} {a0 : Nat} {a1 : Int32} {res : Int32} (hf : f_X12_isGiver g a0 a1 = some res) : q_MR l yX12_isGiver cX12_isGiver 2 (some .boolean) 0 0 E [.ref (q_ad E a0), .int a1] g (some (.int res)) ∧ ∃ fs, g a0 = some (.inr (11, fs)) := by
  unfold f_X12_isGiver at hf
  obtain ⟨u9, hu9, hf⟩ := q_ob hf
  refine ⟨q_ofR (by decide) rfl ?_, g_C_sp hu9⟩
  intro p e s m args below meth c ls C hw hl
  have hj : q_J E s g s.heap [] := ⟨hw, va_S.rf⟩
  have hx := C.1
  have hb := C.2.1
  have C : q_C E p s m args meth c cX12_isGiver RX12 2 (some .boolean) := C
  have hl : lv_has ls 2 [(0, .ref (q_ad E a0)), (1, .int a1)] := hl
  refine lv_aload_n hx hb dX12_isGiver_0 rfl (lv_at hl 0 rfl) ?_
  refine q_gnull C hj lk_X12_369 dX12_isGiver_1 (tgt := 26) dX12_isGiver_4 (by decide) hf (fun hf => ?_) (fun hf => ?_)
  · refine lv_iconst (v := 0) hx hb dX12_isGiver_26 qi_0 ?_
    exact q_z0retR C dX12_isGiver_27 hf
  · refine lv_iload_n hx hb dX12_isGiver_7 rfl (lv_at hl 1 rfl) ?_
    refine q_iflt C (tgt := 26) dX12_isGiver_8 (by decide) hf (fun hf => ?_) (fun hf => ?_)
    · refine lv_iconst (v := 0) hx hb dX12_isGiver_26 qi_0 ?_
      exact q_z0retR C dX12_isGiver_27 hf
    · refine lv_iload_n hx hb dX12_isGiver_11 rfl (lv_at hl 1 rfl) ?_
      refine lv_aload_n hx hb dX12_isGiver_12 rfl (lv_at hl 0 rfl) ?_
      refine q_getR C hj lk_X12_369 dX12_isGiver_13 hf (fun v1 hf => ?_)
      refine q_getI C hj lk_X12_207 dX12_isGiver_16 hf (fun v2 hf => ?_)
      refine q_icge C (tgt := 26) dX12_isGiver_19 (by decide) hf (fun hf => ?_) (fun hf => ?_)
      · refine lv_iconst (v := 0) hx hb dX12_isGiver_26 qi_0 ?_
        exact q_z0retR C dX12_isGiver_27 hf
      · refine lv_iconst (v := 1) hx hb dX12_isGiver_22 qi_1 ?_
        refine lv_goto (tgt := 27) hx hb dX12_isGiver_23 (by decide) ?_
        exact q_z1retR C dX12_isGiver_27 hf
def f_X12_isDay (g : qS) (a0 : Nat) (a1 : Int32) : Option Int32 := (g_C g a0 11).bind fun _ => (g_Q g a0 11 3).bind fun o => if o = none then (some 0) else (if a1 < 0 then (some 0) else ((g_R g a0 11 3).bind fun v1 => (g_I g v1 10 0).bind fun v2 => if v2 ≤ a1 then (some 0) else (some 1)))
set_option maxHeartbeats 4000000 in
set_option maxRecDepth 100000 in
theorem c_X12_isDay (l : Launch) (E : qV) {g : qS} {a0 : Nat} {a1 : Int32} {res : Int32} (hf : f_X12_isDay g a0 a1 = some res) : q_MR l yX12_isDay cX12_isDay 2 (some .boolean) 0 0 E [.ref (q_ad E a0), .int a1] g (some (.int res)) ∧ ∃ fs, g a0 = some (.inr (11, fs)) := by
  unfold f_X12_isDay at hf
  obtain ⟨u9, hu9, hf⟩ := q_ob hf
  refine ⟨q_ofR (by decide) rfl ?_, g_C_sp hu9⟩
  intro p e s m args below meth c ls C hw hl
  have hj : q_J E s g s.heap [] := ⟨hw, va_S.rf⟩
  have hx := C.1
  have hb := C.2.1
  have C : q_C E p s m args meth c cX12_isDay RX12 2 (some .boolean) := C
  have hl : lv_has ls 2 [(0, .ref (q_ad E a0)), (1, .int a1)] := hl
  refine lv_aload_n hx hb dX12_isDay_0 rfl (lv_at hl 0 rfl) ?_
  refine q_gnull C hj lk_X12_369 dX12_isDay_1 (tgt := 26) dX12_isDay_4 (by decide) hf (fun hf => ?_) (fun hf => ?_)
  · refine lv_iconst (v := 0) hx hb dX12_isDay_26 qi_0 ?_
    exact q_z0retR C dX12_isDay_27 hf
  · refine lv_iload_n hx hb dX12_isDay_7 rfl (lv_at hl 1 rfl) ?_
    refine q_iflt C (tgt := 26) dX12_isDay_8 (by decide) hf (fun hf => ?_) (fun hf => ?_)
    · refine lv_iconst (v := 0) hx hb dX12_isDay_26 qi_0 ?_
      exact q_z0retR C dX12_isDay_27 hf
    · refine lv_iload_n hx hb dX12_isDay_11 rfl (lv_at hl 1 rfl) ?_
      refine lv_aload_n hx hb dX12_isDay_12 rfl (lv_at hl 0 rfl) ?_
      refine q_getR C hj lk_X12_369 dX12_isDay_13 hf (fun v1 hf => ?_)
      refine q_getI C hj lk_X12_166 dX12_isDay_16 hf (fun v2 hf => ?_)
      refine q_icge C (tgt := 26) dX12_isDay_19 (by decide) hf (fun hf => ?_) (fun hf => ?_)
      · refine lv_iconst (v := 0) hx hb dX12_isDay_26 qi_0 ?_
        exact q_z0retR C dX12_isDay_27 hf
      · refine lv_iconst (v := 1) hx hb dX12_isDay_22 qi_1 ?_
        refine lv_goto (tgt := 27) hx hb dX12_isDay_23 (by decide) ?_
        exact q_z1retR C dX12_isDay_27 hf
def f_X12_refusesDay (g : qS) (a0 : Nat) (a1 : Int32) (a2 : Int32) : Option Int32 := (g_C g a0 11).bind fun _ => if a1 = 0 then (some 1) else ((f_X12_isDay g a0 a2).bind fun v1 => if v1 = 0 then (some 2) else (some 0))
set_option maxHeartbeats 4000000 in
set_option maxRecDepth 100000 in
theorem c_X12_refusesDay (l : Launch) (E : qV) {g : qS} {a0 : Nat} {a1 : Int32} {a2 : Int32} {res : Int32} (hf : f_X12_refusesDay g a0 a1 a2 = some res) : q_MR l yX12_refusesDay cX12_refusesDay 3 (some .int) 1 21 E [.ref (q_ad E a0), .int a1, .int a2] g (some (.int res)) ∧ ∃ fs, g a0 = some (.inr (11, fs)) := by
  unfold f_X12_refusesDay at hf
  obtain ⟨u9, hu9, hf⟩ := q_ob hf
  refine ⟨q_ofR (by decide) rfl ?_, g_C_sp hu9⟩
  intro p e s m args below meth c ls C hw hl
  have hj : q_J E s g s.heap [] := ⟨hw, va_S.rf⟩
  have hx := C.1
  have hb := C.2.1
  have C : q_C E p s m args meth c cX12_refusesDay RX12 3 (some .int) := C
  have hl : lv_has ls 3 [(0, .ref (q_ad E a0)), (1, .int a1), (2, .int a2)] := hl
  refine lv_iload_n hx hb dX12_refusesDay_0 rfl (lv_at hl 1 rfl) ?_
  refine q_ifne C (tgt := 8) dX12_refusesDay_1 (by decide) hf (fun hf => ?_) (fun hf => ?_)
  · refine lv_aload_n hx hb dX12_refusesDay_8 rfl (lv_at hl 0 rfl) ?_
    refine lv_iload_n hx hb dX12_refusesDay_9 rfl (lv_at hl 2 rfl) ?_
    refine q_cVRI C hj cw_X12_402 (As := [.int a2]) (rest := []) hf (fun v9 h9 => c_X12_isDay l E h9) rfl hl rfl rfl rfl dX12_refusesDay_10 ⟨Nat.zero_le _, Nat.zero_le _⟩ (fun v1 hf => ?_)
    refine q_ifeq C (tgt := 20) dX12_refusesDay_13 (by decide) hf (fun hf => ?_) (fun hf => ?_)
    · refine lv_iconst (v := 2) hx hb dX12_refusesDay_20 qi_2 ?_
      exact q_iretR C dX12_refusesDay_21 hf
    · refine lv_iconst (v := 0) hx hb dX12_refusesDay_16 qi_0 ?_
      refine lv_goto (tgt := 21) hx hb dX12_refusesDay_17 (by decide) ?_
      exact q_iretR C dX12_refusesDay_21 hf
  · refine lv_iconst (v := 1) hx hb dX12_refusesDay_4 qi_1 ?_
    refine lv_goto (tgt := 21) hx hb dX12_refusesDay_5 (by decide) ?_
    exact q_iretR C dX12_refusesDay_21 hf
def f_X12_thing (g : qS) (a0 : Nat) (a1 : Int32) (a2 : Int32) : Option (Int32 × qS) := (g_C g a0 11).bind fun _ => (p_I g a0 11 0 0).bind fun g1 => (f_X12_isThing g1 a0 a1).bind fun v2 => if v2 = 0 then (q_b2 (f_X12_refused g1 a0 1) fun v4 g3 => some (v4, g3)) else ((f_X12_in g1 a2 0 2).bind fun v5 => if v5 = 0 then (q_b2 (f_X12_refused g1 a0 1) fun v21 g20 => some (v21, g20)) else (if a2 = 0 then ((g_R g1 a0 11 3).bind fun v15 => (g_R g1 v15 10 11).bind fun v16 => (a_I g1 v16 a1).bind fun v17 => q_b2 (f_X12_good g1 a0 v17) fun v19 g18 => some (v19, g18)) else (if a2 = 1 then ((g_R g1 a0 11 3).bind fun v10 => (g_R g1 v10 10 12).bind fun v11 => (a_I g1 v11 a1).bind fun v12 => q_b2 (f_X12_good g1 a0 v12) fun v14 g13 => some (v14, g13)) else ((g_R g1 a0 11 15).bind fun v6 => (a_I g1 v6 (0 + a1)).bind fun v7 => q_b2 (f_X12_good g1 a0 v7) fun v9 g8 => some (v9, g8)))))
set_option maxHeartbeats 4000000 in
set_option maxRecDepth 100000 in
theorem c_X12_thing (l : Launch) (E : qV) {g : qS} {a0 : Nat} {a1 : Int32} {a2 : Int32} {res : (Int32 × qS)} (hf : f_X12_thing g a0 a1 a2 = some res) : q_MW l yX12_thing cX12_thing 3 (some .int) 1 22 E [.ref (q_ad E a0), .int a1, .int a2] g (some (.int res.1)) res.2 ∧ ∃ fs, g a0 = some (.inr (11, fs)) := by
  unfold f_X12_thing at hf
  obtain ⟨u9, hu9, hf⟩ := q_ob hf
  refine ⟨q_ofW (by decide) rfl ?_, g_C_sp hu9⟩
  intro p e s m args below meth c ls C hj hl
  have hx := C.1
  have hb := C.2.1
  have C : q_C E p s m args meth c cX12_thing RX12 3 (some .int) := C
  have hl : lv_has ls 3 [(0, .ref (q_ad E a0)), (1, .int a1), (2, .int a2)] := hl
  refine lv_aload_n hx hb dX12_thing_0 rfl (lv_at hl 0 rfl) ?_
  refine lv_iconst (v := 0) hx hb dX12_thing_1 qi_0 ?_
  refine q_putI C hj fp_X12_48 dX12_thing_2 hf (fun g1 H locs hj hf => ?_)
  refine lv_aload_n hx hb dX12_thing_5 rfl (lv_at hl 0 rfl) ?_
  refine lv_iload_n hx hb dX12_thing_6 rfl (lv_at hl 1 rfl) ?_
  refine q_cVRI C hj cw_X12_405 (As := [.int a1]) (rest := []) hf (fun v9 h9 => c_X12_isThing l E h9) rfl hl rfl rfl rfl dX12_thing_7 ⟨Nat.zero_le _, Nat.zero_le _⟩ (fun v2 hf => ?_)
  refine q_ifeq C (tgt := 22) dX12_thing_10 (by decide) hf (fun hf => ?_) (fun hf => ?_)
  · refine lv_aload_n hx hb dX12_thing_22 rfl (lv_at hl 0 rfl) ?_
    refine lv_iconst (v := 1) hx hb dX12_thing_23 qi_1 ?_
    refine q_cVWI C hj cw_X12_54 (As := [.int 1]) (rest := []) hf (fun v9 g9 h9 => c_X12_refused l E h9) rfl hl rfl rfl rfl dX12_thing_24 ⟨Nat.zero_le _, Nat.zero_le _⟩ (fun v4 g3 H locs hj hf => ?_)
    exact q_iretW C hj dX12_thing_27 hf
  · refine lv_iload_n hx hb dX12_thing_13 rfl (lv_at hl 2 rfl) ?_
    refine lv_iconst (v := 0) hx hb dX12_thing_14 qi_0 ?_
    refine lv_iconst (v := 2) hx hb dX12_thing_15 qi_2 ?_
    refine q_cSRI C hj cw_X12_127 (As := [.int a2, .int 0, .int 2]) (rest := []) hf (fun v9 h9 => c_X12_in l E h9) rfl hl rfl rfl rfl dX12_thing_16 ⟨Nat.zero_le _, Nat.zero_le _⟩ (fun v5 hf => ?_)
    refine q_ifne C (tgt := 28) dX12_thing_19 (by decide) hf (fun hf => ?_) (fun hf => ?_)
    · refine lv_aload_n hx hb dX12_thing_28 rfl (lv_at hl 0 rfl) ?_
      refine lv_iload_n hx hb dX12_thing_29 rfl (lv_at hl 2 rfl) ?_
      refine q_ifne C (tgt := 45) dX12_thing_30 (by decide) hf (fun hf => ?_) (fun hf => ?_)
      · refine lv_iload_n hx hb dX12_thing_45 rfl (lv_at hl 2 rfl) ?_
        refine lv_iconst (v := 1) hx hb dX12_thing_46 qi_1 ?_
        refine q_icne C (tgt := 62) dX12_thing_47 (by decide) hf (fun hf => ?_) (fun hf => ?_)
        · refine lv_aload_n hx hb dX12_thing_62 rfl (lv_at hl 0 rfl) ?_
          refine q_getR C hj lk_X12_17 dX12_thing_63 hf (fun v6 hf => ?_)
          refine lv_iconst (v := 0) hx hb dX12_thing_66 qi_0 ?_
          refine lv_iload_n hx hb dX12_thing_67 rfl (lv_at hl 1 rfl) ?_
          refine lv_iadd hx hb dX12_thing_68 ?_
          refine q_aldI C hj dX12_thing_69 hf (fun v7 hf => ?_)
          refine q_cVWI C hj cw_X12_58 (As := [.int v7]) (rest := []) hf (fun v9 g9 h9 => c_X12_good l E h9) rfl hl rfl rfl rfl dX12_thing_70 ⟨Nat.zero_le _, Nat.zero_le _⟩ (fun v9 g8 H locs hj hf => ?_)
          exact q_iretW C hj dX12_thing_73 hf
        · refine lv_aload_n hx hb dX12_thing_50 rfl (lv_at hl 0 rfl) ?_
          refine q_getR C hj lk_X12_369 dX12_thing_51 hf (fun v10 hf => ?_)
          refine q_getR C hj lk_X12_276 dX12_thing_54 hf (fun v11 hf => ?_)
          refine lv_iload_n hx hb dX12_thing_57 rfl (lv_at hl 1 rfl) ?_
          refine q_aldI C hj dX12_thing_58 hf (fun v12 hf => ?_)
          refine lv_goto (tgt := 70) hx hb dX12_thing_59 (by decide) ?_
          refine q_cVWI C hj cw_X12_58 (As := [.int v12]) (rest := []) hf (fun v9 g9 h9 => c_X12_good l E h9) rfl hl rfl rfl rfl dX12_thing_70 ⟨Nat.zero_le _, Nat.zero_le _⟩ (fun v14 g13 H locs hj hf => ?_)
          exact q_iretW C hj dX12_thing_73 hf
      · refine lv_aload_n hx hb dX12_thing_33 rfl (lv_at hl 0 rfl) ?_
        refine q_getR C hj lk_X12_369 dX12_thing_34 hf (fun v15 hf => ?_)
        refine q_getR C hj lk_X12_273 dX12_thing_37 hf (fun v16 hf => ?_)
        refine lv_iload_n hx hb dX12_thing_40 rfl (lv_at hl 1 rfl) ?_
        refine q_aldI C hj dX12_thing_41 hf (fun v17 hf => ?_)
        refine lv_goto (tgt := 70) hx hb dX12_thing_42 (by decide) ?_
        refine q_cVWI C hj cw_X12_58 (As := [.int v17]) (rest := []) hf (fun v9 g9 h9 => c_X12_good l E h9) rfl hl rfl rfl rfl dX12_thing_70 ⟨Nat.zero_le _, Nat.zero_le _⟩ (fun v19 g18 H locs hj hf => ?_)
        exact q_iretW C hj dX12_thing_73 hf
    · refine lv_aload_n hx hb dX12_thing_22 rfl (lv_at hl 0 rfl) ?_
      refine lv_iconst (v := 1) hx hb dX12_thing_23 qi_1 ?_
      refine q_cVWI C hj cw_X12_54 (As := [.int 1]) (rest := []) hf (fun v9 g9 h9 => c_X12_refused l E h9) rfl hl rfl rfl rfl dX12_thing_24 ⟨Nat.zero_le _, Nat.zero_le _⟩ (fun v21 g20 H locs hj hf => ?_)
      exact q_iretW C hj dX12_thing_27 hf
def f_X12_person (g : qS) (a0 : Nat) (a1 : Int32) (a2 : Int32) : Option (Int32 × qS) := (g_C g a0 11).bind fun _ => (p_I g a0 11 0 0).bind fun g1 => (f_X12_isPerson g1 a0 a1).bind fun v2 => if v2 = 0 then (q_b2 (f_X12_refused g1 a0 1) fun v4 g3 => some (v4, g3)) else ((f_X12_in g1 a2 0 3).bind fun v5 => if v5 = 0 then (q_b2 (f_X12_refused g1 a0 1) fun v25 g24 => some (v25, g24)) else (if a2 = 0 then ((g_R g1 a0 11 3).bind fun v19 => (g_R g1 v19 10 15).bind fun v20 => (a_I g1 v20 a1).bind fun v21 => q_b2 (f_X12_good g1 a0 v21) fun v23 g22 => some (v23, g22)) else (if a2 = 1 then ((g_R g1 a0 11 15).bind fun v15 => (f_X12_roomIn g1 a0 v15 a1).bind fun v16 => q_b2 (f_X12_good g1 a0 v16) fun v18 g17 => some (v18, g17)) else (if a2 = 2 then ((g_R g1 a0 11 3).bind fun v10 => (g_R g1 v10 10 17).bind fun v11 => (a_I g1 v11 a1).bind fun v12 => q_b2 (f_X12_good g1 a0 v12) fun v14 g13 => some (v14, g13)) else ((g_R g1 a0 11 15).bind fun v6 => (f_X12_setOf g1 a0 v6 a1).bind fun v7 => q_b2 (f_X12_good g1 a0 v7) fun v9 g8 => some (v9, g8))))))
set_option maxHeartbeats 4000000 in
set_option maxRecDepth 100000 in
theorem c_X12_person (l : Launch) (E : qV) {g : qS} {a0 : Nat} {a1 : Int32} {a2 : Int32} {res : (Int32 × qS)} (hf : f_X12_person g a0 a1 a2 = some res) : q_MW l yX12_person cX12_person 3 (some .int) 2 44 E [.ref (q_ad E a0), .int a1, .int a2] g (some (.int res.1)) res.2 ∧ ∃ fs, g a0 = some (.inr (11, fs)) := by
  unfold f_X12_person at hf
  obtain ⟨u9, hu9, hf⟩ := q_ob hf
  refine ⟨q_ofW (by decide) rfl ?_, g_C_sp hu9⟩
  intro p e s m args below meth c ls C hj hl
  have hx := C.1
  have hb := C.2.1
  have C : q_C E p s m args meth c cX12_person RX12 3 (some .int) := C
  have hl : lv_has ls 3 [(0, .ref (q_ad E a0)), (1, .int a1), (2, .int a2)] := hl
  refine lv_aload_n hx hb dX12_person_0 rfl (lv_at hl 0 rfl) ?_
  refine lv_iconst (v := 0) hx hb dX12_person_1 qi_0 ?_
  refine q_putI C hj fp_X12_48 dX12_person_2 hf (fun g1 H locs hj hf => ?_)
  refine lv_aload_n hx hb dX12_person_5 rfl (lv_at hl 0 rfl) ?_
  refine lv_iload_n hx hb dX12_person_6 rfl (lv_at hl 1 rfl) ?_
  refine q_cVRI C hj cw_X12_408 (As := [.int a1]) (rest := []) hf (fun v9 h9 => c_X12_isPerson l E h9) rfl hl rfl rfl rfl dX12_person_7 ⟨Nat.zero_le _, Nat.zero_le _⟩ (fun v2 hf => ?_)
  refine q_ifeq C (tgt := 22) dX12_person_10 (by decide) hf (fun hf => ?_) (fun hf => ?_)
  · refine lv_aload_n hx hb dX12_person_22 rfl (lv_at hl 0 rfl) ?_
    refine lv_iconst (v := 1) hx hb dX12_person_23 qi_1 ?_
    refine q_cVWI C hj cw_X12_54 (As := [.int 1]) (rest := []) hf (fun v9 g9 h9 => c_X12_refused l E h9) rfl hl rfl rfl rfl dX12_person_24 ⟨Nat.zero_le _, Nat.zero_le _⟩ (fun v4 g3 H locs hj hf => ?_)
    exact q_iretW C hj dX12_person_27 hf
  · refine lv_iload_n hx hb dX12_person_13 rfl (lv_at hl 2 rfl) ?_
    refine lv_iconst (v := 0) hx hb dX12_person_14 qi_0 ?_
    refine lv_iconst (v := 3) hx hb dX12_person_15 qi_3 ?_
    refine q_cSRI C hj cw_X12_127 (As := [.int a2, .int 0, .int 3]) (rest := []) hf (fun v9 h9 => c_X12_in l E h9) rfl hl rfl rfl rfl dX12_person_16 ⟨Nat.zero_le _, Nat.zero_le _⟩ (fun v5 hf => ?_)
    refine q_ifne C (tgt := 28) dX12_person_19 (by decide) hf (fun hf => ?_) (fun hf => ?_)
    · refine lv_aload_n hx hb dX12_person_28 rfl (lv_at hl 0 rfl) ?_
      refine lv_iload_n hx hb dX12_person_29 rfl (lv_at hl 2 rfl) ?_
      refine q_ifne C (tgt := 45) dX12_person_30 (by decide) hf (fun hf => ?_) (fun hf => ?_)
      · refine lv_iload_n hx hb dX12_person_45 rfl (lv_at hl 2 rfl) ?_
        refine lv_iconst (v := 1) hx hb dX12_person_46 qi_1 ?_
        refine q_icne C (tgt := 62) dX12_person_47 (by decide) hf (fun hf => ?_) (fun hf => ?_)
        · refine lv_iload_n hx hb dX12_person_62 rfl (lv_at hl 2 rfl) ?_
          refine lv_iconst (v := 2) hx hb dX12_person_63 qi_2 ?_
          refine q_icne C (tgt := 79) dX12_person_64 (by decide) hf (fun hf => ?_) (fun hf => ?_)
          · refine lv_aload_n hx hb dX12_person_79 rfl (lv_at hl 0 rfl) ?_
            refine lv_aload_n hx hb dX12_person_80 rfl (lv_at hl 0 rfl) ?_
            refine q_getR C hj lk_X12_17 dX12_person_81 hf (fun v6 hf => ?_)
            refine lv_iload_n hx hb dX12_person_84 rfl (lv_at hl 1 rfl) ?_
            refine q_cVRI C hj cw_X12_411 (As := [.ref (q_ad E v6), .int a1]) (rest := [.ref (q_ad E a0)]) hf (fun v9 h9 => c_X12_setOf l E h9) rfl hl rfl rfl rfl dX12_person_85 ⟨Nat.zero_le _, Nat.zero_le _⟩ (fun v7 hf => ?_)
            refine q_cVWI C hj cw_X12_58 (As := [.int v7]) (rest := []) hf (fun v9 g9 h9 => c_X12_good l E h9) rfl hl rfl rfl rfl dX12_person_88 ⟨Nat.zero_le _, Nat.zero_le _⟩ (fun v9 g8 H locs hj hf => ?_)
            exact q_iretW C hj dX12_person_91 hf
          · refine lv_aload_n hx hb dX12_person_67 rfl (lv_at hl 0 rfl) ?_
            refine q_getR C hj lk_X12_369 dX12_person_68 hf (fun v10 hf => ?_)
            refine q_getR C hj lk_X12_295 dX12_person_71 hf (fun v11 hf => ?_)
            refine lv_iload_n hx hb dX12_person_74 rfl (lv_at hl 1 rfl) ?_
            refine q_aldI C hj dX12_person_75 hf (fun v12 hf => ?_)
            refine lv_goto (tgt := 88) hx hb dX12_person_76 (by decide) ?_
            refine q_cVWI C hj cw_X12_58 (As := [.int v12]) (rest := []) hf (fun v9 g9 h9 => c_X12_good l E h9) rfl hl rfl rfl rfl dX12_person_88 ⟨Nat.zero_le _, Nat.zero_le _⟩ (fun v14 g13 H locs hj hf => ?_)
            exact q_iretW C hj dX12_person_91 hf
        · refine lv_aload_n hx hb dX12_person_50 rfl (lv_at hl 0 rfl) ?_
          refine lv_aload_n hx hb dX12_person_51 rfl (lv_at hl 0 rfl) ?_
          refine q_getR C hj lk_X12_17 dX12_person_52 hf (fun v15 hf => ?_)
          refine lv_iload_n hx hb dX12_person_55 rfl (lv_at hl 1 rfl) ?_
          refine q_cVRI C hj cw_X12_392 (As := [.ref (q_ad E v15), .int a1]) (rest := [.ref (q_ad E a0)]) hf (fun v9 h9 => c_X12_roomIn l E h9) rfl hl rfl rfl rfl dX12_person_56 ⟨Nat.zero_le _, Nat.zero_le _⟩ (fun v16 hf => ?_)
          refine lv_goto (tgt := 88) hx hb dX12_person_59 (by decide) ?_
          refine q_cVWI C hj cw_X12_58 (As := [.int v16]) (rest := []) hf (fun v9 g9 h9 => c_X12_good l E h9) rfl hl rfl rfl rfl dX12_person_88 ⟨Nat.zero_le _, Nat.zero_le _⟩ (fun v18 g17 H locs hj hf => ?_)
          exact q_iretW C hj dX12_person_91 hf
      · refine lv_aload_n hx hb dX12_person_33 rfl (lv_at hl 0 rfl) ?_
        refine q_getR C hj lk_X12_369 dX12_person_34 hf (fun v19 hf => ?_)
        refine q_getR C hj lk_X12_290 dX12_person_37 hf (fun v20 hf => ?_)
        refine lv_iload_n hx hb dX12_person_40 rfl (lv_at hl 1 rfl) ?_
        refine q_aldI C hj dX12_person_41 hf (fun v21 hf => ?_)
        refine lv_goto (tgt := 88) hx hb dX12_person_42 (by decide) ?_
        refine q_cVWI C hj cw_X12_58 (As := [.int v21]) (rest := []) hf (fun v9 g9 h9 => c_X12_good l E h9) rfl hl rfl rfl rfl dX12_person_88 ⟨Nat.zero_le _, Nat.zero_le _⟩ (fun v23 g22 H locs hj hf => ?_)
        exact q_iretW C hj dX12_person_91 hf
    · refine lv_aload_n hx hb dX12_person_22 rfl (lv_at hl 0 rfl) ?_
      refine lv_iconst (v := 1) hx hb dX12_person_23 qi_1 ?_
      refine q_cVWI C hj cw_X12_54 (As := [.int 1]) (rest := []) hf (fun v9 g9 h9 => c_X12_refused l E h9) rfl hl rfl rfl rfl dX12_person_24 ⟨Nat.zero_le _, Nat.zero_le _⟩ (fun v25 g24 H locs hj hf => ?_)
      exact q_iretW C hj dX12_person_27 hf
def f_X12_giver (g : qS) (a0 : Nat) (a1 : Int32) (a2 : Int32) : Option (Int32 × qS) := (g_C g a0 11).bind fun _ => (p_I g a0 11 0 0).bind fun g1 => (f_X12_isGiver g1 a0 a1).bind fun v2 => if v2 = 0 then (q_b2 (f_X12_refused g1 a0 1) fun v4 g3 => some (v4, g3)) else ((f_X12_in g1 a2 0 2).bind fun v5 => if v5 = 0 then (q_b2 (f_X12_refused g1 a0 1) fun v20 g19 => some (v20, g19)) else (if a2 = 0 then ((g_R g1 a0 11 3).bind fun v14 => (g_R g1 v14 10 21).bind fun v15 => (a_I g1 v15 a1).bind fun v16 => q_b2 (f_X12_good g1 a0 v16) fun v18 g17 => some (v18, g17)) else (if a2 = 1 then ((g_R g1 a0 11 15).bind fun v10 => (a_I g1 v10 (9 + a1)).bind fun v11 => q_b2 (f_X12_good g1 a0 v11) fun v13 g12 => some (v13, g12)) else ((g_R g1 a0 11 15).bind fun v6 => (a_I g1 v6 (12 + a1)).bind fun v7 => q_b2 (f_X12_good g1 a0 v7) fun v9 g8 => some (v9, g8)))))
set_option maxHeartbeats 4000000 in
set_option maxRecDepth 100000 in
theorem c_X12_giver (l : Launch) (E : qV) {g : qS} {a0 : Nat} {a1 : Int32} {a2 : Int32} {res : (Int32 × qS)} (hf : f_X12_giver g a0 a1 a2 = some res) : q_MW l yX12_giver cX12_giver 3 (some .int) 1 22 E [.ref (q_ad E a0), .int a1, .int a2] g (some (.int res.1)) res.2 ∧ ∃ fs, g a0 = some (.inr (11, fs)) := by
  unfold f_X12_giver at hf
  obtain ⟨u9, hu9, hf⟩ := q_ob hf
  refine ⟨q_ofW (by decide) rfl ?_, g_C_sp hu9⟩
  intro p e s m args below meth c ls C hj hl
  have hx := C.1
  have hb := C.2.1
  have C : q_C E p s m args meth c cX12_giver RX12 3 (some .int) := C
  have hl : lv_has ls 3 [(0, .ref (q_ad E a0)), (1, .int a1), (2, .int a2)] := hl
  refine lv_aload_n hx hb dX12_giver_0 rfl (lv_at hl 0 rfl) ?_
  refine lv_iconst (v := 0) hx hb dX12_giver_1 qi_0 ?_
  refine q_putI C hj fp_X12_48 dX12_giver_2 hf (fun g1 H locs hj hf => ?_)
  refine lv_aload_n hx hb dX12_giver_5 rfl (lv_at hl 0 rfl) ?_
  refine lv_iload_n hx hb dX12_giver_6 rfl (lv_at hl 1 rfl) ?_
  refine q_cVRI C hj cw_X12_414 (As := [.int a1]) (rest := []) hf (fun v9 h9 => c_X12_isGiver l E h9) rfl hl rfl rfl rfl dX12_giver_7 ⟨Nat.zero_le _, Nat.zero_le _⟩ (fun v2 hf => ?_)
  refine q_ifeq C (tgt := 22) dX12_giver_10 (by decide) hf (fun hf => ?_) (fun hf => ?_)
  · refine lv_aload_n hx hb dX12_giver_22 rfl (lv_at hl 0 rfl) ?_
    refine lv_iconst (v := 1) hx hb dX12_giver_23 qi_1 ?_
    refine q_cVWI C hj cw_X12_54 (As := [.int 1]) (rest := []) hf (fun v9 g9 h9 => c_X12_refused l E h9) rfl hl rfl rfl rfl dX12_giver_24 ⟨Nat.zero_le _, Nat.zero_le _⟩ (fun v4 g3 H locs hj hf => ?_)
    exact q_iretW C hj dX12_giver_27 hf
  · refine lv_iload_n hx hb dX12_giver_13 rfl (lv_at hl 2 rfl) ?_
    refine lv_iconst (v := 0) hx hb dX12_giver_14 qi_0 ?_
    refine lv_iconst (v := 2) hx hb dX12_giver_15 qi_2 ?_
    refine q_cSRI C hj cw_X12_127 (As := [.int a2, .int 0, .int 2]) (rest := []) hf (fun v9 h9 => c_X12_in l E h9) rfl hl rfl rfl rfl dX12_giver_16 ⟨Nat.zero_le _, Nat.zero_le _⟩ (fun v5 hf => ?_)
    refine q_ifne C (tgt := 28) dX12_giver_19 (by decide) hf (fun hf => ?_) (fun hf => ?_)
    · refine lv_aload_n hx hb dX12_giver_28 rfl (lv_at hl 0 rfl) ?_
      refine lv_iload_n hx hb dX12_giver_29 rfl (lv_at hl 2 rfl) ?_
      refine q_ifne C (tgt := 45) dX12_giver_30 (by decide) hf (fun hf => ?_) (fun hf => ?_)
      · refine lv_iload_n hx hb dX12_giver_45 rfl (lv_at hl 2 rfl) ?_
        refine lv_iconst (v := 1) hx hb dX12_giver_46 qi_1 ?_
        refine q_icne C (tgt := 62) dX12_giver_47 (by decide) hf (fun hf => ?_) (fun hf => ?_)
        · refine lv_aload_n hx hb dX12_giver_62 rfl (lv_at hl 0 rfl) ?_
          refine q_getR C hj lk_X12_17 dX12_giver_63 hf (fun v6 hf => ?_)
          refine lv_bipush (v := 12) hx hb dX12_giver_66 (by decide) ?_
          refine lv_iload_n hx hb dX12_giver_68 rfl (lv_at hl 1 rfl) ?_
          refine lv_iadd hx hb dX12_giver_69 ?_
          refine q_aldI C hj dX12_giver_70 hf (fun v7 hf => ?_)
          refine q_cVWI C hj cw_X12_58 (As := [.int v7]) (rest := []) hf (fun v9 g9 h9 => c_X12_good l E h9) rfl hl rfl rfl rfl dX12_giver_71 ⟨Nat.zero_le _, Nat.zero_le _⟩ (fun v9 g8 H locs hj hf => ?_)
          exact q_iretW C hj dX12_giver_74 hf
        · refine lv_aload_n hx hb dX12_giver_50 rfl (lv_at hl 0 rfl) ?_
          refine q_getR C hj lk_X12_17 dX12_giver_51 hf (fun v10 hf => ?_)
          refine lv_bipush (v := 9) hx hb dX12_giver_54 (by decide) ?_
          refine lv_iload_n hx hb dX12_giver_56 rfl (lv_at hl 1 rfl) ?_
          refine lv_iadd hx hb dX12_giver_57 ?_
          refine q_aldI C hj dX12_giver_58 hf (fun v11 hf => ?_)
          refine lv_goto (tgt := 71) hx hb dX12_giver_59 (by decide) ?_
          refine q_cVWI C hj cw_X12_58 (As := [.int v11]) (rest := []) hf (fun v9 g9 h9 => c_X12_good l E h9) rfl hl rfl rfl rfl dX12_giver_71 ⟨Nat.zero_le _, Nat.zero_le _⟩ (fun v13 g12 H locs hj hf => ?_)
          exact q_iretW C hj dX12_giver_74 hf
      · refine lv_aload_n hx hb dX12_giver_33 rfl (lv_at hl 0 rfl) ?_
        refine q_getR C hj lk_X12_369 dX12_giver_34 hf (fun v14 hf => ?_)
        refine q_getR C hj lk_X12_310 dX12_giver_37 hf (fun v15 hf => ?_)
        refine lv_iload_n hx hb dX12_giver_40 rfl (lv_at hl 1 rfl) ?_
        refine q_aldI C hj dX12_giver_41 hf (fun v16 hf => ?_)
        refine lv_goto (tgt := 71) hx hb dX12_giver_42 (by decide) ?_
        refine q_cVWI C hj cw_X12_58 (As := [.int v16]) (rest := []) hf (fun v9 g9 h9 => c_X12_good l E h9) rfl hl rfl rfl rfl dX12_giver_71 ⟨Nat.zero_le _, Nat.zero_le _⟩ (fun v18 g17 H locs hj hf => ?_)
        exact q_iretW C hj dX12_giver_74 hf
    · refine lv_aload_n hx hb dX12_giver_22 rfl (lv_at hl 0 rfl) ?_
      refine lv_iconst (v := 1) hx hb dX12_giver_23 qi_1 ?_
      refine q_cVWI C hj cw_X12_54 (As := [.int 1]) (rest := []) hf (fun v9 g9 h9 => c_X12_refused l E h9) rfl hl rfl rfl rfl dX12_giver_24 ⟨Nat.zero_le _, Nat.zero_le _⟩ (fun v20 g19 H locs hj hf => ?_)
      exact q_iretW C hj dX12_giver_27 hf
def f_X12_rides (g : qS) (a0 : Nat) (a1 : Int32) (a2 : Int32) : Option (Int32 × qS) := (g_C g a0 11).bind fun _ => (p_I g a0 11 0 0).bind fun g1 => (f_X12_isPerson g1 a0 a1).bind fun v2 => (f_X12_refusesDay g1 a0 v2 a2).bind fun v3 => if v3 ≤ 0 then ((g_R g1 a0 11 3).bind fun v4 => (g_R g1 v4 10 18).bind fun v5 => (a_I g1 v5 ((7 * a1) + a2)).bind fun v6 => q_b2 (f_X12_good g1 a0 v6) fun v8 g7 => some (v8, g7)) else (q_b2 (f_X12_refused g1 a0 v3) fun v10 g9 => some (v10, g9))
set_option maxHeartbeats 4000000 in
set_option maxRecDepth 100000 in
theorem c_X12_rides (l : Launch) (E : qV) {g : qS} {a0 : Nat} {a1 : Int32} {a2 : Int32} {res : (Int32 × qS)} (hf : f_X12_rides g a0 a1 a2 = some res) : q_MW l yX12_rides cX12_rides 4 (some .int) 2 43 E [.ref (q_ad E a0), .int a1, .int a2] g (some (.int res.1)) res.2 ∧ ∃ fs, g a0 = some (.inr (11, fs)) := by
  unfold f_X12_rides at hf
  obtain ⟨u9, hu9, hf⟩ := q_ob hf
  refine ⟨q_ofW (by decide) rfl ?_, g_C_sp hu9⟩
  intro p e s m args below meth c ls C hj hl
  have hx := C.1
  have hb := C.2.1
  have C : q_C E p s m args meth c cX12_rides RX12 4 (some .int) := C
  have hl : lv_has ls 4 [(0, .ref (q_ad E a0)), (1, .int a1), (2, .int a2)] := hl
  refine lv_aload_n hx hb dX12_rides_0 rfl (lv_at hl 0 rfl) ?_
  refine lv_iconst (v := 0) hx hb dX12_rides_1 qi_0 ?_
  refine q_putI C hj fp_X12_48 dX12_rides_2 hf (fun g1 H locs hj hf => ?_)
  refine lv_aload_n hx hb dX12_rides_5 rfl (lv_at hl 0 rfl) ?_
  refine lv_aload_n hx hb dX12_rides_6 rfl (lv_at hl 0 rfl) ?_
  refine lv_iload_n hx hb dX12_rides_7 rfl (lv_at hl 1 rfl) ?_
  refine q_cVRI C hj cw_X12_408 (As := [.int a1]) (rest := [.ref (q_ad E a0)]) hf (fun v9 h9 => c_X12_isPerson l E h9) rfl hl rfl rfl rfl dX12_rides_8 ⟨Nat.zero_le _, Nat.zero_le _⟩ (fun v2 hf => ?_)
  refine lv_iload_n hx hb dX12_rides_11 rfl (lv_at hl 2 rfl) ?_
  refine q_cVRI C hj cw_X12_417 (As := [.int v2, .int a2]) (rest := []) hf (fun v9 h9 => c_X12_refusesDay l E h9) rfl hl rfl rfl rfl dX12_rides_12 ⟨Nat.zero_le _, Nat.zero_le _⟩ (fun v3 hf => ?_)
  refine lv_istore_n (lv' := [(3, .int v3), (0, .ref (q_ad E a0)), (1, .int a1), (2, .int a2)]) hx hb dX12_rides_15 rfl hl (by decide) rfl (fun ls hl => ?_)
  refine lv_iload_n hx hb dX12_rides_16 rfl (lv_at hl 0 rfl) ?_
  refine q_ifle C (tgt := 28) dX12_rides_17 (by decide) hf (fun hf => ?_) (fun hf => ?_)
  · refine lv_aload_n hx hb dX12_rides_28 rfl (lv_at hl 1 rfl) ?_
    refine lv_aload_n hx hb dX12_rides_29 rfl (lv_at hl 1 rfl) ?_
    refine q_getR C hj lk_X12_369 dX12_rides_30 hf (fun v4 hf => ?_)
    refine q_getR C hj lk_X12_225 dX12_rides_33 hf (fun v5 hf => ?_)
    refine lv_bipush (v := 7) hx hb dX12_rides_36 (by decide) ?_
    refine lv_iload_n hx hb dX12_rides_38 rfl (lv_at hl 2 rfl) ?_
    refine lv_imul hx hb dX12_rides_39 ?_
    refine lv_iload_n hx hb dX12_rides_40 rfl (lv_at hl 3 rfl) ?_
    refine lv_iadd hx hb dX12_rides_41 ?_
    refine q_aldI C hj dX12_rides_42 hf (fun v6 hf => ?_)
    refine q_cVWI C hj cw_X12_58 (As := [.int v6]) (rest := []) hf (fun v9 g9 h9 => c_X12_good l E h9) rfl hl rfl rfl rfl dX12_rides_43 ⟨Nat.zero_le _, Nat.zero_le _⟩ (fun v8 g7 H locs hj hf => ?_)
    exact q_iretW C hj dX12_rides_46 hf
  · refine lv_aload_n hx hb dX12_rides_20 rfl (lv_at hl 1 rfl) ?_
    refine lv_iload_n hx hb dX12_rides_21 rfl (lv_at hl 0 rfl) ?_
    refine q_cVWI C hj cw_X12_54 (As := [.int v3]) (rest := []) hf (fun v9 g9 h9 => c_X12_refused l E h9) rfl hl rfl rfl rfl dX12_rides_22 ⟨Nat.zero_le _, Nat.zero_le _⟩ (fun v10 g9 H locs hj hf => ?_)
    refine lv_goto (tgt := 46) hx hb dX12_rides_25 (by decide) ?_
    exact q_iretW C hj dX12_rides_46 hf
def f_X12_takes (g : qS) (a0 : Nat) (a1 : Int32) (a2 : Int32) : Option (Int32 × qS) := (g_C g a0 11).bind fun _ => (p_I g a0 11 0 0).bind fun g1 => (f_X12_isGiver g1 a0 a1).bind fun v2 => (f_X12_refusesDay g1 a0 v2 a2).bind fun v3 => if v3 ≤ 0 then ((g_R g1 a0 11 3).bind fun v4 => (g_R g1 v4 10 22).bind fun v5 => (a_I g1 v5 ((7 * a1) + a2)).bind fun v6 => q_b2 (f_X12_good g1 a0 v6) fun v8 g7 => some (v8, g7)) else (q_b2 (f_X12_refused g1 a0 v3) fun v10 g9 => some (v10, g9))
set_option maxHeartbeats 4000000 in
set_option maxRecDepth 100000 in
theorem c_X12_takes (l : Launch) (E : qV) {g : qS} {a0 : Nat} {a1 : Int32} {a2 : Int32} {res : (Int32 × qS)} (hf : f_X12_takes g a0 a1 a2 = some res) : q_MW l yX12_takes cX12_takes 4 (some .int) 2 43 E [.ref (q_ad E a0), .int a1, .int a2] g (some (.int res.1)) res.2 ∧ ∃ fs, g a0 = some (.inr (11, fs)) := by
  unfold f_X12_takes at hf
  obtain ⟨u9, hu9, hf⟩ := q_ob hf
  refine ⟨q_ofW (by decide) rfl ?_, g_C_sp hu9⟩
  intro p e s m args below meth c ls C hj hl
  have hx := C.1
  have hb := C.2.1
  have C : q_C E p s m args meth c cX12_takes RX12 4 (some .int) := C
  have hl : lv_has ls 4 [(0, .ref (q_ad E a0)), (1, .int a1), (2, .int a2)] := hl
  refine lv_aload_n hx hb dX12_takes_0 rfl (lv_at hl 0 rfl) ?_
  refine lv_iconst (v := 0) hx hb dX12_takes_1 qi_0 ?_
  refine q_putI C hj fp_X12_48 dX12_takes_2 hf (fun g1 H locs hj hf => ?_)
  refine lv_aload_n hx hb dX12_takes_5 rfl (lv_at hl 0 rfl) ?_
  refine lv_aload_n hx hb dX12_takes_6 rfl (lv_at hl 0 rfl) ?_
  refine lv_iload_n hx hb dX12_takes_7 rfl (lv_at hl 1 rfl) ?_
  refine q_cVRI C hj cw_X12_414 (As := [.int a1]) (rest := [.ref (q_ad E a0)]) hf (fun v9 h9 => c_X12_isGiver l E h9) rfl hl rfl rfl rfl dX12_takes_8 ⟨Nat.zero_le _, Nat.zero_le _⟩ (fun v2 hf => ?_)
  refine lv_iload_n hx hb dX12_takes_11 rfl (lv_at hl 2 rfl) ?_
  refine q_cVRI C hj cw_X12_417 (As := [.int v2, .int a2]) (rest := []) hf (fun v9 h9 => c_X12_refusesDay l E h9) rfl hl rfl rfl rfl dX12_takes_12 ⟨Nat.zero_le _, Nat.zero_le _⟩ (fun v3 hf => ?_)
  refine lv_istore_n (lv' := [(3, .int v3), (0, .ref (q_ad E a0)), (1, .int a1), (2, .int a2)]) hx hb dX12_takes_15 rfl hl (by decide) rfl (fun ls hl => ?_)
  refine lv_iload_n hx hb dX12_takes_16 rfl (lv_at hl 0 rfl) ?_
  refine q_ifle C (tgt := 28) dX12_takes_17 (by decide) hf (fun hf => ?_) (fun hf => ?_)
  · refine lv_aload_n hx hb dX12_takes_28 rfl (lv_at hl 1 rfl) ?_
    refine lv_aload_n hx hb dX12_takes_29 rfl (lv_at hl 1 rfl) ?_
    refine q_getR C hj lk_X12_369 dX12_takes_30 hf (fun v4 hf => ?_)
    refine q_getR C hj lk_X12_231 dX12_takes_33 hf (fun v5 hf => ?_)
    refine lv_bipush (v := 7) hx hb dX12_takes_36 (by decide) ?_
    refine lv_iload_n hx hb dX12_takes_38 rfl (lv_at hl 2 rfl) ?_
    refine lv_imul hx hb dX12_takes_39 ?_
    refine lv_iload_n hx hb dX12_takes_40 rfl (lv_at hl 3 rfl) ?_
    refine lv_iadd hx hb dX12_takes_41 ?_
    refine q_aldI C hj dX12_takes_42 hf (fun v6 hf => ?_)
    refine q_cVWI C hj cw_X12_58 (As := [.int v6]) (rest := []) hf (fun v9 g9 h9 => c_X12_good l E h9) rfl hl rfl rfl rfl dX12_takes_43 ⟨Nat.zero_le _, Nat.zero_le _⟩ (fun v8 g7 H locs hj hf => ?_)
    exact q_iretW C hj dX12_takes_46 hf
  · refine lv_aload_n hx hb dX12_takes_20 rfl (lv_at hl 1 rfl) ?_
    refine lv_iload_n hx hb dX12_takes_21 rfl (lv_at hl 0 rfl) ?_
    refine q_cVWI C hj cw_X12_54 (As := [.int v3]) (rest := []) hf (fun v9 g9 h9 => c_X12_refused l E h9) rfl hl rfl rfl rfl dX12_takes_22 ⟨Nat.zero_le _, Nat.zero_le _⟩ (fun v10 g9 H locs hj hf => ?_)
    refine lv_goto (tgt := 46) hx hb dX12_takes_25 (by decide) ?_
    exact q_iretW C hj dX12_takes_46 hf
def L_X12_meet_37  : Nat → Nat → Int32 → Int32 → Int32 → Int32 → qS → Option (Int32 × qS)
  | 0, _, _, _, _, _, _ => none
  | n + 1, x0, x1, x2, x3, x4, g => (g_R g x0 11 3).bind fun v1 => (g_I g v1 10 0).bind fun v2 => if v2 ≤ x4 then (q_b2 (f_X12_good g x0 x3) fun v4 g3 => some (v4, g3)) else ((g_R g x0 11 3).bind fun v5 => (g_R g v5 10 22).bind fun v6 => (a_I g v6 ((7 * x1) + x4)).bind fun v7 => if v7 = (-2) then (L_X12_meet_37 n x0 x1 x2 (x3 ||| 0) (x4 + 1) g) else ((g_R g x0 11 3).bind fun v8 => (g_R g v8 10 22).bind fun v9 => (a_I g v9 ((7 * x1) + x4)).bind fun v10 => (g_R g x0 11 3).bind fun v11 => (g_R g v11 10 22).bind fun v12 => (a_I g v12 ((7 * x2) + x4)).bind fun v13 => if v10 = v13 then (L_X12_meet_37 n x0 x1 x2 (x3 ||| (1 <<< (x4 &&& 31))) (x4 + 1) g) else (L_X12_meet_37 n x0 x1 x2 (x3 ||| 0) (x4 + 1) g)))
set_option maxHeartbeats 4000000 in
set_option maxRecDepth 100000 in
theorem w_L_X12_meet_37 {l : Launch} {E : qV} {p : Program} {e : Env} {s : State} {m : MethodId} {args : Array Value} {below : List Frame} {meth : Method} {c : Code}  {res : (Int32 × qS)} (C : q_C E p s m args meth c cX12_meet RX12 5 (some .int))  : ∀ {n : Nat} {x0 : Nat} {x1 : Int32} {x2 : Int32} {x3 : Int32} {x4 : Int32} {g : qS} {H : Heap} {locs : List Loc} {ls : Array Slot}, q_J E s g H locs → lv_has ls 5 [(0, .ref (q_ad E x0)), (1, .int x1), (2, .int x2), (3, .int x3), (4, .int x4)] → L_X12_meet_37 n x0 x1 x2 x3 x4 g = some res → W p l e (q_rm 1 21) s m args below meth c H locs 0 0 (q_ZW E below (some (.int res.1)) res.2 args s) (F0 m 37 ls []) := by
  have hx := C.1
  have hb := C.2.1
  intro n
  induction n with
  | zero =>
    intro x0 x1 x2 x3 x4 g H locs ls hj hl hf
    cases hf
  | succ n ih_ =>
    intro x0 x1 x2 x3 x4 g H locs ls hj hl hf
    have ih : ∀ (x0 : Nat) (x1 : Int32) (x2 : Int32) (x3 : Int32) (x4 : Int32) (g : qS) (H : Heap) (locs : List Loc) (ls : Array Slot), q_J E s g H locs → lv_has ls 5 [(0, .ref (q_ad E x0)), (1, .int x1), (2, .int x2), (3, .int x3), (4, .int x4)] → L_X12_meet_37 n x0 x1 x2 x3 x4 g = some res → W p l e (q_rm 1 21) s m args below meth c H locs 0 0 (q_ZW E below (some (.int res.1)) res.2 args s) (F0 m 37 ls []) := fun x0 x1 x2 x3 x4 g H locs ls hj hl hf => ih_ hj hl hf
    unfold L_X12_meet_37 at hf
    refine lv_iload hx hb dX12_meet_37 (lv_at hl 4 rfl) ?_
    refine lv_aload_n hx hb dX12_meet_39 rfl (lv_at hl 0 rfl) ?_
    refine q_getR C hj lk_X12_369 dX12_meet_40 hf (fun v1 hf => ?_)
    refine q_getI C hj lk_X12_166 dX12_meet_43 hf (fun v2 hf => ?_)
    refine q_icge C (tgt := 119) dX12_meet_46 (by decide) hf (fun hf => ?_) (fun hf => ?_)
    · refine lv_aload_n hx hb dX12_meet_119 rfl (lv_at hl 0 rfl) ?_
      refine lv_iload_n hx hb dX12_meet_120 rfl (lv_at hl 3 rfl) ?_
      refine q_cVWI C hj cw_X12_58 (As := [.int x3]) (rest := []) hf (fun v9 g9 h9 => c_X12_good l E h9) rfl hl rfl rfl rfl dX12_meet_121 ⟨Nat.zero_le _, Nat.zero_le _⟩ (fun v4 g3 H locs hj hf => ?_)
      exact q_iretW C hj dX12_meet_124 hf
    · refine lv_iload_n hx hb dX12_meet_49 rfl (lv_at hl 3 rfl) ?_
      refine lv_aload_n hx hb dX12_meet_50 rfl (lv_at hl 0 rfl) ?_
      refine q_getR C hj lk_X12_369 dX12_meet_51 hf (fun v5 hf => ?_)
      refine q_getR C hj lk_X12_231 dX12_meet_54 hf (fun v6 hf => ?_)
      refine lv_bipush (v := 7) hx hb dX12_meet_57 (by decide) ?_
      refine lv_iload_n hx hb dX12_meet_59 rfl (lv_at hl 1 rfl) ?_
      refine lv_imul hx hb dX12_meet_60 ?_
      refine lv_iload hx hb dX12_meet_61 (lv_at hl 4 rfl) ?_
      refine lv_iadd hx hb dX12_meet_63 ?_
      refine q_aldI C hj dX12_meet_64 hf (fun v7 hf => ?_)
      refine lv_bipush (v := -2) hx hb dX12_meet_65 (by decide) ?_
      refine q_iceq C (tgt := 110) dX12_meet_67 (by decide) hf (fun hf => ?_) (fun hf => ?_)
      · refine lv_iconst (v := 0) hx hb dX12_meet_110 qi_0 ?_
        refine lv_ior hx hb dX12_meet_111 ?_
        refine lv_istore_n (lv' := [(3, .int (x3 ||| 0)), (0, .ref (q_ad E x0)), (1, .int x1), (2, .int x2), (4, .int x4)]) hx hb dX12_meet_112 rfl hl (by decide) rfl (fun ls hl => ?_)
        refine lv_iinc (v := x4 + 1) (lv' := [(4, .int (x4 + 1)), (3, .int (x3 ||| 0)), (0, .ref (q_ad E x0)), (1, .int x1), (2, .int x2)]) hx hb dX12_meet_113 hl (k := 4) rfl (by rw [qi_1]) (by decide) rfl (fun ls hl => ?_)
        refine lv_goto (tgt := 37) hx hb dX12_meet_116 (by decide) ?_
        exact ih _ _ _ _ _ _ _ _ ls hj (lv_sub hl [2, 3, 4, 1, 0] rfl) hf
      · refine lv_aload_n hx hb dX12_meet_70 rfl (lv_at hl 0 rfl) ?_
        refine q_getR C hj lk_X12_369 dX12_meet_71 hf (fun v8 hf => ?_)
        refine q_getR C hj lk_X12_231 dX12_meet_74 hf (fun v9 hf => ?_)
        refine lv_bipush (v := 7) hx hb dX12_meet_77 (by decide) ?_
        refine lv_iload_n hx hb dX12_meet_79 rfl (lv_at hl 1 rfl) ?_
        refine lv_imul hx hb dX12_meet_80 ?_
        refine lv_iload hx hb dX12_meet_81 (lv_at hl 4 rfl) ?_
        refine lv_iadd hx hb dX12_meet_83 ?_
        refine q_aldI C hj dX12_meet_84 hf (fun v10 hf => ?_)
        refine lv_aload_n hx hb dX12_meet_85 rfl (lv_at hl 0 rfl) ?_
        refine q_getR C hj lk_X12_369 dX12_meet_86 hf (fun v11 hf => ?_)
        refine q_getR C hj lk_X12_231 dX12_meet_89 hf (fun v12 hf => ?_)
        refine lv_bipush (v := 7) hx hb dX12_meet_92 (by decide) ?_
        refine lv_iload_n hx hb dX12_meet_94 rfl (lv_at hl 2 rfl) ?_
        refine lv_imul hx hb dX12_meet_95 ?_
        refine lv_iload hx hb dX12_meet_96 (lv_at hl 4 rfl) ?_
        refine lv_iadd hx hb dX12_meet_98 ?_
        refine q_aldI C hj dX12_meet_99 hf (fun v13 hf => ?_)
        refine q_icne C (tgt := 110) dX12_meet_100 (by decide) hf (fun hf => ?_) (fun hf => ?_)
        · refine lv_iconst (v := 0) hx hb dX12_meet_110 qi_0 ?_
          refine lv_ior hx hb dX12_meet_111 ?_
          refine lv_istore_n (lv' := [(3, .int (x3 ||| 0)), (0, .ref (q_ad E x0)), (1, .int x1), (2, .int x2), (4, .int x4)]) hx hb dX12_meet_112 rfl hl (by decide) rfl (fun ls hl => ?_)
          refine lv_iinc (v := x4 + 1) (lv' := [(4, .int (x4 + 1)), (3, .int (x3 ||| 0)), (0, .ref (q_ad E x0)), (1, .int x1), (2, .int x2)]) hx hb dX12_meet_113 hl (k := 4) rfl (by rw [qi_1]) (by decide) rfl (fun ls hl => ?_)
          refine lv_goto (tgt := 37) hx hb dX12_meet_116 (by decide) ?_
          exact ih _ _ _ _ _ _ _ _ ls hj (lv_sub hl [2, 3, 4, 1, 0] rfl) hf
        · refine lv_iconst (v := 1) hx hb dX12_meet_103 qi_1 ?_
          refine lv_iload hx hb dX12_meet_104 (lv_at hl 4 rfl) ?_
          refine lv_ishl hx hb dX12_meet_106 ?_
          refine lv_goto (tgt := 111) hx hb dX12_meet_107 (by decide) ?_
          refine lv_ior hx hb dX12_meet_111 ?_
          refine lv_istore_n (lv' := [(3, .int (x3 ||| (1 <<< (x4 &&& 31)))), (0, .ref (q_ad E x0)), (1, .int x1), (2, .int x2), (4, .int x4)]) hx hb dX12_meet_112 rfl hl (by decide) rfl (fun ls hl => ?_)
          refine lv_iinc (v := x4 + 1) (lv' := [(4, .int (x4 + 1)), (3, .int (x3 ||| (1 <<< (x4 &&& 31)))), (0, .ref (q_ad E x0)), (1, .int x1), (2, .int x2)]) hx hb dX12_meet_113 hl (k := 4) rfl (by rw [qi_1]) (by decide) rfl (fun ls hl => ?_)
          refine lv_goto (tgt := 37) hx hb dX12_meet_116 (by decide) ?_
          exact ih _ _ _ _ _ _ _ _ ls hj (lv_sub hl [2, 3, 4, 1, 0] rfl) hf
def f_X12_meet (g : qS) (a0 : Nat) (a1 : Int32) (a2 : Int32) : Option (Int32 × qS) := (g_C g a0 11).bind fun _ => (p_I g a0 11 0 0).bind fun g1 => (f_X12_isGiver g1 a0 a1).bind fun v2 => if v2 = 0 then (q_b2 (f_X12_refused g1 a0 1) fun v4 g3 => some (v4, g3)) else ((f_X12_isGiver g1 a0 a2).bind fun v5 => if v5 = 0 then (q_b2 (f_X12_refused g1 a0 1) fun v7 g6 => some (v7, g6)) else (if a1 = a2 then (q_b2 (f_X12_refused g1 a0 1) fun v9 g8 => some (v9, g8)) else (L_X12_meet_37 1000000000 a0 a1 a2 0 0 g1)))
set_option maxHeartbeats 4000000 in
set_option maxRecDepth 100000 in
theorem c_X12_meet (l : Launch) (E : qV) {g : qS} {a0 : Nat} {a1 : Int32} {a2 : Int32} {res : (Int32 × qS)} (hf : f_X12_meet g a0 a1 a2 = some res) : q_MW l yX12_meet cX12_meet 5 (some .int) 1 21 E [.ref (q_ad E a0), .int a1, .int a2] g (some (.int res.1)) res.2 ∧ ∃ fs, g a0 = some (.inr (11, fs)) := by
  unfold f_X12_meet at hf
  obtain ⟨u9, hu9, hf⟩ := q_ob hf
  refine ⟨q_ofW (by decide) rfl ?_, g_C_sp hu9⟩
  intro p e s m args below meth c ls C hj hl
  have hx := C.1
  have hb := C.2.1
  have C : q_C E p s m args meth c cX12_meet RX12 5 (some .int) := C
  have hl : lv_has ls 5 [(0, .ref (q_ad E a0)), (1, .int a1), (2, .int a2)] := hl
  refine lv_aload_n hx hb dX12_meet_0 rfl (lv_at hl 0 rfl) ?_
  refine lv_iconst (v := 0) hx hb dX12_meet_1 qi_0 ?_
  refine q_putI C hj fp_X12_48 dX12_meet_2 hf (fun g1 H locs hj hf => ?_)
  refine lv_aload_n hx hb dX12_meet_5 rfl (lv_at hl 0 rfl) ?_
  refine lv_iload_n hx hb dX12_meet_6 rfl (lv_at hl 1 rfl) ?_
  refine q_cVRI C hj cw_X12_414 (As := [.int a1]) (rest := []) hf (fun v9 h9 => c_X12_isGiver l E h9) rfl hl rfl rfl rfl dX12_meet_7 ⟨Nat.zero_le _, Nat.zero_le _⟩ (fun v2 hf => ?_)
  refine q_ifeq C (tgt := 26) dX12_meet_10 (by decide) hf (fun hf => ?_) (fun hf => ?_)
  · refine lv_aload_n hx hb dX12_meet_26 rfl (lv_at hl 0 rfl) ?_
    refine lv_iconst (v := 1) hx hb dX12_meet_27 qi_1 ?_
    refine q_cVWI C hj cw_X12_54 (As := [.int 1]) (rest := []) hf (fun v9 g9 h9 => c_X12_refused l E h9) rfl hl rfl rfl rfl dX12_meet_28 ⟨Nat.zero_le _, Nat.zero_le _⟩ (fun v4 g3 H locs hj hf => ?_)
    exact q_iretW C hj dX12_meet_31 hf
  · refine lv_aload_n hx hb dX12_meet_13 rfl (lv_at hl 0 rfl) ?_
    refine lv_iload_n hx hb dX12_meet_14 rfl (lv_at hl 2 rfl) ?_
    refine q_cVRI C hj cw_X12_414 (As := [.int a2]) (rest := []) hf (fun v9 h9 => c_X12_isGiver l E h9) rfl hl rfl rfl rfl dX12_meet_15 ⟨Nat.zero_le _, Nat.zero_le _⟩ (fun v5 hf => ?_)
    refine q_ifeq C (tgt := 26) dX12_meet_18 (by decide) hf (fun hf => ?_) (fun hf => ?_)
    · refine lv_aload_n hx hb dX12_meet_26 rfl (lv_at hl 0 rfl) ?_
      refine lv_iconst (v := 1) hx hb dX12_meet_27 qi_1 ?_
      refine q_cVWI C hj cw_X12_54 (As := [.int 1]) (rest := []) hf (fun v9 g9 h9 => c_X12_refused l E h9) rfl hl rfl rfl rfl dX12_meet_28 ⟨Nat.zero_le _, Nat.zero_le _⟩ (fun v7 g6 H locs hj hf => ?_)
      exact q_iretW C hj dX12_meet_31 hf
    · refine lv_iload_n hx hb dX12_meet_21 rfl (lv_at hl 1 rfl) ?_
      refine lv_iload_n hx hb dX12_meet_22 rfl (lv_at hl 2 rfl) ?_
      refine q_icne C (tgt := 32) dX12_meet_23 (by decide) hf (fun hf => ?_) (fun hf => ?_)
      · refine lv_iconst (v := 0) hx hb dX12_meet_32 qi_0 ?_
        refine lv_istore_n (lv' := [(3, .int 0), (0, .ref (q_ad E a0)), (1, .int a1), (2, .int a2)]) hx hb dX12_meet_33 rfl hl (by decide) rfl (fun ls hl => ?_)
        refine lv_iconst (v := 0) hx hb dX12_meet_34 qi_0 ?_
        refine lv_istore (lv' := [(4, .int 0), (3, .int 0), (0, .ref (q_ad E a0)), (1, .int a1), (2, .int a2)]) hx hb dX12_meet_35 hl (by decide) rfl (fun ls hl => ?_)
        refine w_L_X12_meet_37 C  hj (lv_sub hl [2, 3, 4, 1, 0] rfl) hf
      · refine lv_aload_n hx hb dX12_meet_26 rfl (lv_at hl 0 rfl) ?_
        refine lv_iconst (v := 1) hx hb dX12_meet_27 qi_1 ?_
        refine q_cVWI C hj cw_X12_54 (As := [.int 1]) (rest := []) hf (fun v9 g9 h9 => c_X12_refused l E h9) rfl hl rfl rfl rfl dX12_meet_28 ⟨Nat.zero_le _, Nat.zero_le _⟩ (fun v9 g8 H locs hj hf => ?_)
        exact q_iretW C hj dX12_meet_31 hf
def f_X12_near (g : qS) (a0 : Nat) (a1 : Int32) (a2 : Int32) (a3 : Int32) (a4 : Int32) : Option (Int32 × qS) := (g_C g a0 11).bind fun _ => (p_I g a0 11 0 0).bind fun g1 => (f_X12_isGiver g1 a0 a1).bind fun v2 => if v2 = 0 then (q_b2 (f_X12_refused g1 a0 1) fun v4 g3 => some (v4, g3)) else ((f_X12_isThing g1 a0 a2).bind fun v5 => if v5 = 0 then (q_b2 (f_X12_refused g1 a0 1) fun v7 g6 => some (v7, g6)) else ((f_X12_isPerson g1 a0 a3).bind fun v8 => if v8 = 0 then (q_b2 (f_X12_refused g1 a0 1) fun v10 g9 => some (v10, g9)) else ((f_X12_isTram g1 a0 a4).bind fun v11 => if v11 = 0 then (q_b2 (f_X12_refused g1 a0 1) fun v13 g12 => some (v13, g12)) else ((g_R g1 a0 11 15).bind fun v14 => (f_X12_nearIn g1 a0 v14 a1 a2 a3 a4).bind fun v15 => q_b2 (f_X12_good g1 a0 v15) fun v17 g16 => some (v17, g16)))))
set_option maxHeartbeats 4000000 in
set_option maxRecDepth 100000 in
theorem c_X12_near (l : Launch) (E : qV) {g : qS} {a0 : Nat} {a1 : Int32} {a2 : Int32} {a3 : Int32} {a4 : Int32} {res : (Int32 × qS)} (hf : f_X12_near g a0 a1 a2 a3 a4 = some res) : q_MW l yX12_near cX12_near 5 (some .int) 2 51 E [.ref (q_ad E a0), .int a1, .int a2, .int a3, .int a4] g (some (.int res.1)) res.2 ∧ ∃ fs, g a0 = some (.inr (11, fs)) := by
  unfold f_X12_near at hf
  obtain ⟨u9, hu9, hf⟩ := q_ob hf
  refine ⟨q_ofW (by decide) rfl ?_, g_C_sp hu9⟩
  intro p e s m args below meth c ls C hj hl
  have hx := C.1
  have hb := C.2.1
  have C : q_C E p s m args meth c cX12_near RX12 5 (some .int) := C
  have hl : lv_has ls 5 [(0, .ref (q_ad E a0)), (1, .int a1), (2, .int a2), (3, .int a3), (4, .int a4)] := hl
  refine lv_aload_n hx hb dX12_near_0 rfl (lv_at hl 0 rfl) ?_
  refine lv_iconst (v := 0) hx hb dX12_near_1 qi_0 ?_
  refine q_putI C hj fp_X12_48 dX12_near_2 hf (fun g1 H locs hj hf => ?_)
  refine lv_aload_n hx hb dX12_near_5 rfl (lv_at hl 0 rfl) ?_
  refine lv_iload_n hx hb dX12_near_6 rfl (lv_at hl 1 rfl) ?_
  refine q_cVRI C hj cw_X12_414 (As := [.int a1]) (rest := []) hf (fun v9 h9 => c_X12_isGiver l E h9) rfl hl rfl rfl rfl dX12_near_7 ⟨Nat.zero_le _, Nat.zero_le _⟩ (fun v2 hf => ?_)
  refine q_ifeq C (tgt := 58) dX12_near_10 (by decide) hf (fun hf => ?_) (fun hf => ?_)
  · refine lv_aload_n hx hb dX12_near_58 rfl (lv_at hl 0 rfl) ?_
    refine lv_iconst (v := 1) hx hb dX12_near_59 qi_1 ?_
    refine q_cVWI C hj cw_X12_54 (As := [.int 1]) (rest := []) hf (fun v9 g9 h9 => c_X12_refused l E h9) rfl hl rfl rfl rfl dX12_near_60 ⟨Nat.zero_le _, Nat.zero_le _⟩ (fun v4 g3 H locs hj hf => ?_)
    exact q_iretW C hj dX12_near_63 hf
  · refine lv_aload_n hx hb dX12_near_13 rfl (lv_at hl 0 rfl) ?_
    refine lv_iload_n hx hb dX12_near_14 rfl (lv_at hl 2 rfl) ?_
    refine q_cVRI C hj cw_X12_405 (As := [.int a2]) (rest := []) hf (fun v9 h9 => c_X12_isThing l E h9) rfl hl rfl rfl rfl dX12_near_15 ⟨Nat.zero_le _, Nat.zero_le _⟩ (fun v5 hf => ?_)
    refine q_ifeq C (tgt := 58) dX12_near_18 (by decide) hf (fun hf => ?_) (fun hf => ?_)
    · refine lv_aload_n hx hb dX12_near_58 rfl (lv_at hl 0 rfl) ?_
      refine lv_iconst (v := 1) hx hb dX12_near_59 qi_1 ?_
      refine q_cVWI C hj cw_X12_54 (As := [.int 1]) (rest := []) hf (fun v9 g9 h9 => c_X12_refused l E h9) rfl hl rfl rfl rfl dX12_near_60 ⟨Nat.zero_le _, Nat.zero_le _⟩ (fun v7 g6 H locs hj hf => ?_)
      exact q_iretW C hj dX12_near_63 hf
    · refine lv_aload_n hx hb dX12_near_21 rfl (lv_at hl 0 rfl) ?_
      refine lv_iload_n hx hb dX12_near_22 rfl (lv_at hl 3 rfl) ?_
      refine q_cVRI C hj cw_X12_408 (As := [.int a3]) (rest := []) hf (fun v9 h9 => c_X12_isPerson l E h9) rfl hl rfl rfl rfl dX12_near_23 ⟨Nat.zero_le _, Nat.zero_le _⟩ (fun v8 hf => ?_)
      refine q_ifeq C (tgt := 58) dX12_near_26 (by decide) hf (fun hf => ?_) (fun hf => ?_)
      · refine lv_aload_n hx hb dX12_near_58 rfl (lv_at hl 0 rfl) ?_
        refine lv_iconst (v := 1) hx hb dX12_near_59 qi_1 ?_
        refine q_cVWI C hj cw_X12_54 (As := [.int 1]) (rest := []) hf (fun v9 g9 h9 => c_X12_refused l E h9) rfl hl rfl rfl rfl dX12_near_60 ⟨Nat.zero_le _, Nat.zero_le _⟩ (fun v10 g9 H locs hj hf => ?_)
        exact q_iretW C hj dX12_near_63 hf
      · refine lv_aload_n hx hb dX12_near_29 rfl (lv_at hl 0 rfl) ?_
        refine lv_iload hx hb dX12_near_30 (lv_at hl 4 rfl) ?_
        refine q_cVRI C hj cw_X12_421 (As := [.int a4]) (rest := []) hf (fun v9 h9 => c_X12_isTram l E h9) rfl hl rfl rfl rfl dX12_near_32 ⟨Nat.zero_le _, Nat.zero_le _⟩ (fun v11 hf => ?_)
        refine q_ifeq C (tgt := 58) dX12_near_35 (by decide) hf (fun hf => ?_) (fun hf => ?_)
        · refine lv_aload_n hx hb dX12_near_58 rfl (lv_at hl 0 rfl) ?_
          refine lv_iconst (v := 1) hx hb dX12_near_59 qi_1 ?_
          refine q_cVWI C hj cw_X12_54 (As := [.int 1]) (rest := []) hf (fun v9 g9 h9 => c_X12_refused l E h9) rfl hl rfl rfl rfl dX12_near_60 ⟨Nat.zero_le _, Nat.zero_le _⟩ (fun v13 g12 H locs hj hf => ?_)
          exact q_iretW C hj dX12_near_63 hf
        · refine lv_aload_n hx hb dX12_near_38 rfl (lv_at hl 0 rfl) ?_
          refine lv_aload_n hx hb dX12_near_39 rfl (lv_at hl 0 rfl) ?_
          refine lv_aload_n hx hb dX12_near_40 rfl (lv_at hl 0 rfl) ?_
          refine q_getR C hj lk_X12_17 dX12_near_41 hf (fun v14 hf => ?_)
          refine lv_iload_n hx hb dX12_near_44 rfl (lv_at hl 1 rfl) ?_
          refine lv_iload_n hx hb dX12_near_45 rfl (lv_at hl 2 rfl) ?_
          refine lv_iload_n hx hb dX12_near_46 rfl (lv_at hl 3 rfl) ?_
          refine lv_iload hx hb dX12_near_47 (lv_at hl 4 rfl) ?_
          refine q_cVRI C hj cw_X12_399 (As := [.ref (q_ad E v14), .int a1, .int a2, .int a3, .int a4]) (rest := [.ref (q_ad E a0)]) hf (fun v9 h9 => c_X12_nearIn l E h9) rfl hl rfl rfl rfl dX12_near_49 ⟨Nat.zero_le _, Nat.zero_le _⟩ (fun v15 hf => ?_)
          refine q_cVWI C hj cw_X12_58 (As := [.int v15]) (rest := []) hf (fun v9 g9 h9 => c_X12_good l E h9) rfl hl rfl rfl rfl dX12_near_52 ⟨Nat.zero_le _, Nat.zero_le _⟩ (fun v17 g16 H locs hj hf => ?_)
          refine lv_goto (tgt := 63) hx hb dX12_near_55 (by decide) ?_
          exact q_iretW C hj dX12_near_63 hf
def f_X12_would (g : qS) (a0 : Nat) (a1 : Int32) (a2 : Int32) (a3 : Int32) : Option (Int32 × qS) := (g_C g a0 11).bind fun _ => (p_I g a0 11 0 0).bind fun g1 => (f_X12_isGiver g1 a0 a1).bind fun v2 => if v2 = 0 then (q_b2 (f_X12_refused g1 a0 1) fun v4 g3 => some (v4, g3)) else ((f_X12_isThing g1 a0 a2).bind fun v5 => if v5 = 0 then (q_b2 (f_X12_refused g1 a0 1) fun v7 g6 => some (v7, g6)) else ((f_X12_isPerson g1 a0 a3).bind fun v8 => if v8 = 0 then (q_b2 (f_X12_refused g1 a0 1) fun v10 g9 => some (v10, g9)) else ((g_R g1 a0 11 15).bind fun v11 => (g_R g1 a0 11 15).bind fun v12 => (a_I g1 v12 15).bind fun v13 => (f_X12_comes g1 a0 v11 a1 a2 a3 v13).bind fun v14 => q_b2 (f_X12_good g1 a0 v14) fun v16 g15 => some (v16, g15))))
set_option maxHeartbeats 4000000 in
set_option maxRecDepth 100000 in
theorem c_X12_would (l : Launch) (E : qV) {g : qS} {a0 : Nat} {a1 : Int32} {a2 : Int32} {a3 : Int32} {res : (Int32 × qS)} (hf : f_X12_would g a0 a1 a2 a3 = some res) : q_MW l yX12_would cX12_would 4 (some .int) 4 95 E [.ref (q_ad E a0), .int a1, .int a2, .int a3] g (some (.int res.1)) res.2 ∧ ∃ fs, g a0 = some (.inr (11, fs)) := by
  unfold f_X12_would at hf
  obtain ⟨u9, hu9, hf⟩ := q_ob hf
  refine ⟨q_ofW (by decide) rfl ?_, g_C_sp hu9⟩
  intro p e s m args below meth c ls C hj hl
  have hx := C.1
  have hb := C.2.1
  have C : q_C E p s m args meth c cX12_would RX12 4 (some .int) := C
  have hl : lv_has ls 4 [(0, .ref (q_ad E a0)), (1, .int a1), (2, .int a2), (3, .int a3)] := hl
  refine lv_aload_n hx hb dX12_would_0 rfl (lv_at hl 0 rfl) ?_
  refine lv_iconst (v := 0) hx hb dX12_would_1 qi_0 ?_
  refine q_putI C hj fp_X12_48 dX12_would_2 hf (fun g1 H locs hj hf => ?_)
  refine lv_aload_n hx hb dX12_would_5 rfl (lv_at hl 0 rfl) ?_
  refine lv_iload_n hx hb dX12_would_6 rfl (lv_at hl 1 rfl) ?_
  refine q_cVRI C hj cw_X12_414 (As := [.int a1]) (rest := []) hf (fun v9 h9 => c_X12_isGiver l E h9) rfl hl rfl rfl rfl dX12_would_7 ⟨Nat.zero_le _, Nat.zero_le _⟩ (fun v2 hf => ?_)
  refine q_ifeq C (tgt := 54) dX12_would_10 (by decide) hf (fun hf => ?_) (fun hf => ?_)
  · refine lv_aload_n hx hb dX12_would_54 rfl (lv_at hl 0 rfl) ?_
    refine lv_iconst (v := 1) hx hb dX12_would_55 qi_1 ?_
    refine q_cVWI C hj cw_X12_54 (As := [.int 1]) (rest := []) hf (fun v9 g9 h9 => c_X12_refused l E h9) rfl hl rfl rfl rfl dX12_would_56 ⟨Nat.zero_le _, Nat.zero_le _⟩ (fun v4 g3 H locs hj hf => ?_)
    exact q_iretW C hj dX12_would_59 hf
  · refine lv_aload_n hx hb dX12_would_13 rfl (lv_at hl 0 rfl) ?_
    refine lv_iload_n hx hb dX12_would_14 rfl (lv_at hl 2 rfl) ?_
    refine q_cVRI C hj cw_X12_405 (As := [.int a2]) (rest := []) hf (fun v9 h9 => c_X12_isThing l E h9) rfl hl rfl rfl rfl dX12_would_15 ⟨Nat.zero_le _, Nat.zero_le _⟩ (fun v5 hf => ?_)
    refine q_ifeq C (tgt := 54) dX12_would_18 (by decide) hf (fun hf => ?_) (fun hf => ?_)
    · refine lv_aload_n hx hb dX12_would_54 rfl (lv_at hl 0 rfl) ?_
      refine lv_iconst (v := 1) hx hb dX12_would_55 qi_1 ?_
      refine q_cVWI C hj cw_X12_54 (As := [.int 1]) (rest := []) hf (fun v9 g9 h9 => c_X12_refused l E h9) rfl hl rfl rfl rfl dX12_would_56 ⟨Nat.zero_le _, Nat.zero_le _⟩ (fun v7 g6 H locs hj hf => ?_)
      exact q_iretW C hj dX12_would_59 hf
    · refine lv_aload_n hx hb dX12_would_21 rfl (lv_at hl 0 rfl) ?_
      refine lv_iload_n hx hb dX12_would_22 rfl (lv_at hl 3 rfl) ?_
      refine q_cVRI C hj cw_X12_408 (As := [.int a3]) (rest := []) hf (fun v9 h9 => c_X12_isPerson l E h9) rfl hl rfl rfl rfl dX12_would_23 ⟨Nat.zero_le _, Nat.zero_le _⟩ (fun v8 hf => ?_)
      refine q_ifeq C (tgt := 54) dX12_would_26 (by decide) hf (fun hf => ?_) (fun hf => ?_)
      · refine lv_aload_n hx hb dX12_would_54 rfl (lv_at hl 0 rfl) ?_
        refine lv_iconst (v := 1) hx hb dX12_would_55 qi_1 ?_
        refine q_cVWI C hj cw_X12_54 (As := [.int 1]) (rest := []) hf (fun v9 g9 h9 => c_X12_refused l E h9) rfl hl rfl rfl rfl dX12_would_56 ⟨Nat.zero_le _, Nat.zero_le _⟩ (fun v10 g9 H locs hj hf => ?_)
        exact q_iretW C hj dX12_would_59 hf
      · refine lv_aload_n hx hb dX12_would_29 rfl (lv_at hl 0 rfl) ?_
        refine lv_aload_n hx hb dX12_would_30 rfl (lv_at hl 0 rfl) ?_
        refine lv_aload_n hx hb dX12_would_31 rfl (lv_at hl 0 rfl) ?_
        refine q_getR C hj lk_X12_17 dX12_would_32 hf (fun v11 hf => ?_)
        refine lv_iload_n hx hb dX12_would_35 rfl (lv_at hl 1 rfl) ?_
        refine lv_iload_n hx hb dX12_would_36 rfl (lv_at hl 2 rfl) ?_
        refine lv_iload_n hx hb dX12_would_37 rfl (lv_at hl 3 rfl) ?_
        refine lv_aload_n hx hb dX12_would_38 rfl (lv_at hl 0 rfl) ?_
        refine q_getR C hj lk_X12_17 dX12_would_39 hf (fun v12 hf => ?_)
        refine lv_bipush (v := 15) hx hb dX12_would_42 (by decide) ?_
        refine q_aldI C hj dX12_would_44 hf (fun v13 hf => ?_)
        refine q_cVRI C hj cw_X12_424 (As := [.ref (q_ad E v11), .int a1, .int a2, .int a3, .int v13]) (rest := [.ref (q_ad E a0)]) hf (fun v9 h9 => c_X12_comes l E h9) rfl hl rfl rfl rfl dX12_would_45 ⟨Nat.zero_le _, Nat.zero_le _⟩ (fun v14 hf => ?_)
        refine q_cVWI C hj cw_X12_58 (As := [.int v14]) (rest := []) hf (fun v9 g9 h9 => c_X12_good l E h9) rfl hl rfl rfl rfl dX12_would_48 ⟨Nat.zero_le _, Nat.zero_le _⟩ (fun v16 g15 H locs hj hf => ?_)
        refine lv_goto (tgt := 59) hx hb dX12_would_51 (by decide) ?_
        exact q_iretW C hj dX12_would_59 hf
def L_X12_riders_32  : Nat → Nat → Int32 → Int32 → Int32 → Int32 → qS → Option (Int32 × qS)
  | 0, _, _, _, _, _, _ => none
  | n + 1, x0, x1, x2, x4, x5, g => (g_R g x0 11 3).bind fun v1 => (g_I g v1 10 3).bind fun v2 => if v2 ≤ x5 then (q_b2 (f_X12_good g x0 x4) fun v4 g3 => some (v4, g3)) else ((g_R g x0 11 3).bind fun v5 => (g_R g v5 10 18).bind fun v6 => (a_I g v6 ((7 * x5) + x2)).bind fun v7 => if v7 = x1 then (L_X12_riders_32 n x0 x1 x2 (x4 ||| (1 <<< (x5 &&& 31))) (x5 + 1) g) else (L_X12_riders_32 n x0 x1 x2 (x4 ||| 0) (x5 + 1) g))
set_option maxHeartbeats 4000000 in
set_option maxRecDepth 100000 in
theorem w_L_X12_riders_32 {l : Launch} {E : qV} {p : Program} {e : Env} {s : State} {m : MethodId} {args : Array Value} {below : List Frame} {meth : Method} {c : Code}  {res : (Int32 × qS)} (C : q_C E p s m args meth c cX12_riders RX12 6 (some .int))  : ∀ {n : Nat} {x0 : Nat} {x1 : Int32} {x2 : Int32} {x4 : Int32} {x5 : Int32} {g : qS} {H : Heap} {locs : List Loc} {ls : Array Slot}, q_J E s g H locs → lv_has ls 6 [(0, .ref (q_ad E x0)), (1, .int x1), (2, .int x2), (4, .int x4), (5, .int x5)] → L_X12_riders_32 n x0 x1 x2 x4 x5 g = some res → W p l e (q_rm 2 43) s m args below meth c H locs 0 0 (q_ZW E below (some (.int res.1)) res.2 args s) (F0 m 32 ls []) := by
  have hx := C.1
  have hb := C.2.1
  intro n
  induction n with
  | zero =>
    intro x0 x1 x2 x4 x5 g H locs ls hj hl hf
    cases hf
  | succ n ih_ =>
    intro x0 x1 x2 x4 x5 g H locs ls hj hl hf
    have ih : ∀ (x0 : Nat) (x1 : Int32) (x2 : Int32) (x4 : Int32) (x5 : Int32) (g : qS) (H : Heap) (locs : List Loc) (ls : Array Slot), q_J E s g H locs → lv_has ls 6 [(0, .ref (q_ad E x0)), (1, .int x1), (2, .int x2), (4, .int x4), (5, .int x5)] → L_X12_riders_32 n x0 x1 x2 x4 x5 g = some res → W p l e (q_rm 2 43) s m args below meth c H locs 0 0 (q_ZW E below (some (.int res.1)) res.2 args s) (F0 m 32 ls []) := fun x0 x1 x2 x4 x5 g H locs ls hj hl hf => ih_ hj hl hf
    unfold L_X12_riders_32 at hf
    refine lv_iload hx hb dX12_riders_32 (lv_at hl 4 rfl) ?_
    refine lv_aload_n hx hb dX12_riders_34 rfl (lv_at hl 0 rfl) ?_
    refine q_getR C hj lk_X12_369 dX12_riders_35 hf (fun v1 hf => ?_)
    refine q_getI C hj lk_X12_204 dX12_riders_38 hf (fun v2 hf => ?_)
    refine q_icge C (tgt := 82) dX12_riders_41 (by decide) hf (fun hf => ?_) (fun hf => ?_)
    · refine lv_aload_n hx hb dX12_riders_82 rfl (lv_at hl 0 rfl) ?_
      refine lv_iload hx hb dX12_riders_83 (lv_at hl 3 rfl) ?_
      refine q_cVWI C hj cw_X12_58 (As := [.int x4]) (rest := []) hf (fun v9 g9 h9 => c_X12_good l E h9) rfl hl rfl rfl rfl dX12_riders_85 ⟨Nat.zero_le _, Nat.zero_le _⟩ (fun v4 g3 H locs hj hf => ?_)
      exact q_iretW C hj dX12_riders_88 hf
    · refine lv_iload hx hb dX12_riders_44 (lv_at hl 3 rfl) ?_
      refine lv_aload_n hx hb dX12_riders_46 rfl (lv_at hl 0 rfl) ?_
      refine q_getR C hj lk_X12_369 dX12_riders_47 hf (fun v5 hf => ?_)
      refine q_getR C hj lk_X12_225 dX12_riders_50 hf (fun v6 hf => ?_)
      refine lv_bipush (v := 7) hx hb dX12_riders_53 (by decide) ?_
      refine lv_iload hx hb dX12_riders_55 (lv_at hl 4 rfl) ?_
      refine lv_imul hx hb dX12_riders_57 ?_
      refine lv_iload_n hx hb dX12_riders_58 rfl (lv_at hl 2 rfl) ?_
      refine lv_iadd hx hb dX12_riders_59 ?_
      refine q_aldI C hj dX12_riders_60 hf (fun v7 hf => ?_)
      refine lv_iload_n hx hb dX12_riders_61 rfl (lv_at hl 1 rfl) ?_
      refine q_icne C (tgt := 72) dX12_riders_62 (by decide) hf (fun hf => ?_) (fun hf => ?_)
      · refine lv_iconst (v := 0) hx hb dX12_riders_72 qi_0 ?_
        refine lv_ior hx hb dX12_riders_73 ?_
        refine lv_istore (lv' := [(4, .int (x4 ||| 0)), (0, .ref (q_ad E x0)), (1, .int x1), (2, .int x2), (5, .int x5)]) hx hb dX12_riders_74 hl (by decide) rfl (fun ls hl => ?_)
        refine lv_iinc (v := x5 + 1) (lv' := [(5, .int (x5 + 1)), (4, .int (x4 ||| 0)), (0, .ref (q_ad E x0)), (1, .int x1), (2, .int x2)]) hx hb dX12_riders_76 hl (k := 4) rfl (by rw [qi_1]) (by decide) rfl (fun ls hl => ?_)
        refine lv_goto (tgt := 32) hx hb dX12_riders_79 (by decide) ?_
        exact ih _ _ _ _ _ _ _ _ ls hj (lv_sub hl [2, 3, 4, 1, 0] rfl) hf
      · refine lv_iconst (v := 1) hx hb dX12_riders_65 qi_1 ?_
        refine lv_iload hx hb dX12_riders_66 (lv_at hl 4 rfl) ?_
        refine lv_ishl hx hb dX12_riders_68 ?_
        refine lv_goto (tgt := 73) hx hb dX12_riders_69 (by decide) ?_
        refine lv_ior hx hb dX12_riders_73 ?_
        refine lv_istore (lv' := [(4, .int (x4 ||| (1 <<< (x5 &&& 31)))), (0, .ref (q_ad E x0)), (1, .int x1), (2, .int x2), (5, .int x5)]) hx hb dX12_riders_74 hl (by decide) rfl (fun ls hl => ?_)
        refine lv_iinc (v := x5 + 1) (lv' := [(5, .int (x5 + 1)), (4, .int (x4 ||| (1 <<< (x5 &&& 31)))), (0, .ref (q_ad E x0)), (1, .int x1), (2, .int x2)]) hx hb dX12_riders_76 hl (k := 4) rfl (by rw [qi_1]) (by decide) rfl (fun ls hl => ?_)
        refine lv_goto (tgt := 32) hx hb dX12_riders_79 (by decide) ?_
        exact ih _ _ _ _ _ _ _ _ ls hj (lv_sub hl [2, 3, 4, 1, 0] rfl) hf
def f_X12_riders (g : qS) (a0 : Nat) (a1 : Int32) (a2 : Int32) : Option (Int32 × qS) := (g_C g a0 11).bind fun _ => (p_I g a0 11 0 0).bind fun g1 => (f_X12_isTram g1 a0 a1).bind fun v2 => (f_X12_refusesDay g1 a0 v2 a2).bind fun v3 => if v3 ≤ 0 then (L_X12_riders_32 1000000000 a0 a1 a2 0 0 g1) else (q_b2 (f_X12_refused g1 a0 v3) fun v5 g4 => some (v5, g4))
set_option maxHeartbeats 4000000 in
set_option maxRecDepth 100000 in
theorem c_X12_riders (l : Launch) (E : qV) {g : qS} {a0 : Nat} {a1 : Int32} {a2 : Int32} {res : (Int32 × qS)} (hf : f_X12_riders g a0 a1 a2 = some res) : q_MW l yX12_riders cX12_riders 6 (some .int) 2 43 E [.ref (q_ad E a0), .int a1, .int a2] g (some (.int res.1)) res.2 ∧ ∃ fs, g a0 = some (.inr (11, fs)) := by
  unfold f_X12_riders at hf
  obtain ⟨u9, hu9, hf⟩ := q_ob hf
  refine ⟨q_ofW (by decide) rfl ?_, g_C_sp hu9⟩
  intro p e s m args below meth c ls C hj hl
  have hx := C.1
  have hb := C.2.1
  have C : q_C E p s m args meth c cX12_riders RX12 6 (some .int) := C
  have hl : lv_has ls 6 [(0, .ref (q_ad E a0)), (1, .int a1), (2, .int a2)] := hl
  refine lv_aload_n hx hb dX12_riders_0 rfl (lv_at hl 0 rfl) ?_
  refine lv_iconst (v := 0) hx hb dX12_riders_1 qi_0 ?_
  refine q_putI C hj fp_X12_48 dX12_riders_2 hf (fun g1 H locs hj hf => ?_)
  refine lv_aload_n hx hb dX12_riders_5 rfl (lv_at hl 0 rfl) ?_
  refine lv_aload_n hx hb dX12_riders_6 rfl (lv_at hl 0 rfl) ?_
  refine lv_iload_n hx hb dX12_riders_7 rfl (lv_at hl 1 rfl) ?_
  refine q_cVRI C hj cw_X12_421 (As := [.int a1]) (rest := [.ref (q_ad E a0)]) hf (fun v9 h9 => c_X12_isTram l E h9) rfl hl rfl rfl rfl dX12_riders_8 ⟨Nat.zero_le _, Nat.zero_le _⟩ (fun v2 hf => ?_)
  refine lv_iload_n hx hb dX12_riders_11 rfl (lv_at hl 2 rfl) ?_
  refine q_cVRI C hj cw_X12_417 (As := [.int v2, .int a2]) (rest := []) hf (fun v9 h9 => c_X12_refusesDay l E h9) rfl hl rfl rfl rfl dX12_riders_12 ⟨Nat.zero_le _, Nat.zero_le _⟩ (fun v3 hf => ?_)
  refine lv_istore_n (lv' := [(3, .int v3), (0, .ref (q_ad E a0)), (1, .int a1), (2, .int a2)]) hx hb dX12_riders_15 rfl hl (by decide) rfl (fun ls hl => ?_)
  refine lv_iload_n hx hb dX12_riders_16 rfl (lv_at hl 0 rfl) ?_
  refine q_ifle C (tgt := 26) dX12_riders_17 (by decide) hf (fun hf => ?_) (fun hf => ?_)
  · refine lv_iconst (v := 0) hx hb dX12_riders_26 qi_0 ?_
    refine lv_istore (lv' := [(4, .int 0), (3, .int v3), (0, .ref (q_ad E a0)), (1, .int a1), (2, .int a2)]) hx hb dX12_riders_27 hl (by decide) rfl (fun ls hl => ?_)
    refine lv_iconst (v := 0) hx hb dX12_riders_29 qi_0 ?_
    refine lv_istore (lv' := [(5, .int 0), (4, .int 0), (3, .int v3), (0, .ref (q_ad E a0)), (1, .int a1), (2, .int a2)]) hx hb dX12_riders_30 hl (by decide) rfl (fun ls hl => ?_)
    refine w_L_X12_riders_32 C  hj (lv_sub hl [3, 4, 5, 1, 0] rfl) hf
  · refine lv_aload_n hx hb dX12_riders_20 rfl (lv_at hl 1 rfl) ?_
    refine lv_iload_n hx hb dX12_riders_21 rfl (lv_at hl 0 rfl) ?_
    refine q_cVWI C hj cw_X12_54 (As := [.int v3]) (rest := []) hf (fun v9 g9 h9 => c_X12_refused l E h9) rfl hl rfl rfl rfl dX12_riders_22 ⟨Nat.zero_le _, Nat.zero_le _⟩ (fun v5 g4 H locs hj hf => ?_)
    exact q_iretW C hj dX12_riders_25 hf
def f_X12_spare (g : qS) (a0 : Nat) (a1 : Int32) : Option (Int32 × qS) := (g_C g a0 11).bind fun _ => (p_I g a0 11 0 0).bind fun g1 => (f_X12_isPerson g1 a0 a1).bind fun v2 => if v2 = 0 then (q_b2 (f_X12_refused g1 a0 1) fun v12 g11 => some (v12, g11)) else ((g_R g1 a0 11 15).bind fun v3 => (f_X12_roomIn g1 a0 v3 a1).bind fun v4 => (g_R g1 a0 11 15).bind fun v5 => (f_X12_many g1 v5 a1).bind fun v6 => if (v4 - v6) ≤ 0 then (q_b2 (f_X12_good g1 a0 0) fun v8 g7 => some (v8, g7)) else (q_b2 (f_X12_good g1 a0 (v4 - v6)) fun v10 g9 => some (v10, g9)))
set_option maxHeartbeats 4000000 in
set_option maxRecDepth 100000 in
theorem c_X12_spare (l : Launch) (E : qV) {g : qS} {a0 : Nat} {a1 : Int32} {res : (Int32 × qS)} (hf : f_X12_spare g a0 a1 = some res) : q_MW l yX12_spare cX12_spare 3 (some .int) 2 44 E [.ref (q_ad E a0), .int a1] g (some (.int res.1)) res.2 ∧ ∃ fs, g a0 = some (.inr (11, fs)) := by
  unfold f_X12_spare at hf
  obtain ⟨u9, hu9, hf⟩ := q_ob hf
  refine ⟨q_ofW (by decide) rfl ?_, g_C_sp hu9⟩
  intro p e s m args below meth c ls C hj hl
  have hx := C.1
  have hb := C.2.1
  have C : q_C E p s m args meth c cX12_spare RX12 3 (some .int) := C
  have hl : lv_has ls 3 [(0, .ref (q_ad E a0)), (1, .int a1)] := hl
  refine lv_aload_n hx hb dX12_spare_0 rfl (lv_at hl 0 rfl) ?_
  refine lv_iconst (v := 0) hx hb dX12_spare_1 qi_0 ?_
  refine q_putI C hj fp_X12_48 dX12_spare_2 hf (fun g1 H locs hj hf => ?_)
  refine lv_aload_n hx hb dX12_spare_5 rfl (lv_at hl 0 rfl) ?_
  refine lv_iload_n hx hb dX12_spare_6 rfl (lv_at hl 1 rfl) ?_
  refine q_cVRI C hj cw_X12_408 (As := [.int a1]) (rest := []) hf (fun v9 h9 => c_X12_isPerson l E h9) rfl hl rfl rfl rfl dX12_spare_7 ⟨Nat.zero_le _, Nat.zero_le _⟩ (fun v2 hf => ?_)
  refine q_ifne C (tgt := 19) dX12_spare_10 (by decide) hf (fun hf => ?_) (fun hf => ?_)
  · refine lv_aload_n hx hb dX12_spare_19 rfl (lv_at hl 0 rfl) ?_
    refine lv_aload_n hx hb dX12_spare_20 rfl (lv_at hl 0 rfl) ?_
    refine q_getR C hj lk_X12_17 dX12_spare_21 hf (fun v3 hf => ?_)
    refine lv_iload_n hx hb dX12_spare_24 rfl (lv_at hl 1 rfl) ?_
    refine q_cVRI C hj cw_X12_392 (As := [.ref (q_ad E v3), .int a1]) (rest := []) hf (fun v9 h9 => c_X12_roomIn l E h9) rfl hl rfl rfl rfl dX12_spare_25 ⟨Nat.zero_le _, Nat.zero_le _⟩ (fun v4 hf => ?_)
    refine lv_aload_n hx hb dX12_spare_28 rfl (lv_at hl 0 rfl) ?_
    refine q_getR C hj lk_X12_17 dX12_spare_29 hf (fun v5 hf => ?_)
    refine lv_iload_n hx hb dX12_spare_32 rfl (lv_at hl 1 rfl) ?_
    refine q_cSRI C hj cw_X12_380 (As := [.ref (q_ad E v5), .int a1]) (rest := [.int v4]) hf (fun v9 h9 => c_X12_many l E h9) rfl hl rfl rfl rfl dX12_spare_33 ⟨Nat.zero_le _, Nat.zero_le _⟩ (fun v6 hf => ?_)
    refine lv_isub hx hb dX12_spare_36 ?_
    refine lv_istore_n (lv' := [(2, .int (v4 - v6)), (0, .ref (q_ad E a0)), (1, .int a1)]) hx hb dX12_spare_37 rfl hl (by decide) rfl (fun ls hl => ?_)
    refine lv_aload_n hx hb dX12_spare_38 rfl (lv_at hl 1 rfl) ?_
    refine lv_iload_n hx hb dX12_spare_39 rfl (lv_at hl 0 rfl) ?_
    refine q_ifle C (tgt := 47) dX12_spare_40 (by decide) hf (fun hf => ?_) (fun hf => ?_)
    · refine lv_iconst (v := 0) hx hb dX12_spare_47 qi_0 ?_
      refine q_cVWI C hj cw_X12_58 (As := [.int 0]) (rest := []) hf (fun v9 g9 h9 => c_X12_good l E h9) rfl hl rfl rfl rfl dX12_spare_48 ⟨Nat.zero_le _, Nat.zero_le _⟩ (fun v8 g7 H locs hj hf => ?_)
      exact q_iretW C hj dX12_spare_51 hf
    · refine lv_iload_n hx hb dX12_spare_43 rfl (lv_at hl 0 rfl) ?_
      refine lv_goto (tgt := 48) hx hb dX12_spare_44 (by decide) ?_
      refine q_cVWI C hj cw_X12_58 (As := [.int (v4 - v6)]) (rest := []) hf (fun v9 g9 h9 => c_X12_good l E h9) rfl hl rfl rfl rfl dX12_spare_48 ⟨Nat.zero_le _, Nat.zero_le _⟩ (fun v10 g9 H locs hj hf => ?_)
      exact q_iretW C hj dX12_spare_51 hf
  · refine lv_aload_n hx hb dX12_spare_13 rfl (lv_at hl 0 rfl) ?_
    refine lv_iconst (v := 1) hx hb dX12_spare_14 qi_1 ?_
    refine q_cVWI C hj cw_X12_54 (As := [.int 1]) (rest := []) hf (fun v9 g9 h9 => c_X12_refused l E h9) rfl hl rfl rfl rfl dX12_spare_15 ⟨Nat.zero_le _, Nat.zero_le _⟩ (fun v12 g11 H locs hj hf => ?_)
    exact q_iretW C hj dX12_spare_18 hf
def f_X12_dayOf (g : qS) (a0 : Int32) : Option Int32 := if (15 : Int32) = 0 then none else (some (a0 / 15))
set_option maxHeartbeats 4000000 in
set_option maxRecDepth 100000 in
theorem c_X12_dayOf (l : Launch) (E : qV) {g : qS} {a0 : Int32} {res : Int32} (hf : f_X12_dayOf g a0 = some res) : q_MR l yX12_dayOf cX12_dayOf 1 (some .int) 0 0 E [.int a0] g (some (.int res)) := by
  unfold f_X12_dayOf at hf
  refine q_ofR (by decide) rfl ?_
  intro p e s m args below meth c ls C hw hl
  have hj : q_J E s g s.heap [] := ⟨hw, va_S.rf⟩
  have hx := C.1
  have hb := C.2.1
  have C : q_C E p s m args meth c cX12_dayOf RX12 1 (some .int) := C
  have hl : lv_has ls 1 [(0, .int a0)] := hl
  refine lv_iload_n hx hb dX12_dayOf_0 rfl (lv_at hl 0 rfl) ?_
  refine lv_bipush (v := 15) hx hb dX12_dayOf_1 (by decide) ?_
  refine q_idiv C dX12_dayOf_3 hf (fun hf => ?_)
  exact q_iretR C dX12_dayOf_4 hf
def f_X12_giverOf (g : qS) (a0 : Int32) : Option Int32 := if (5 : Int32) = 0 then none else (if (3 : Int32) = 0 then none else (some ((a0 / 5) - (a0 / 5) / 3 * 3)))
set_option maxHeartbeats 4000000 in
set_option maxRecDepth 100000 in
theorem c_X12_giverOf (l : Launch) (E : qV) {g : qS} {a0 : Int32} {res : Int32} (hf : f_X12_giverOf g a0 = some res) : q_MR l yX12_giverOf cX12_giverOf 1 (some .int) 0 0 E [.int a0] g (some (.int res)) := by
  unfold f_X12_giverOf at hf
  refine q_ofR (by decide) rfl ?_
  intro p e s m args below meth c ls C hw hl
  have hj : q_J E s g s.heap [] := ⟨hw, va_S.rf⟩
  have hx := C.1
  have hb := C.2.1
  have C : q_C E p s m args meth c cX12_giverOf RX12 1 (some .int) := C
  have hl : lv_has ls 1 [(0, .int a0)] := hl
  refine lv_iload_n hx hb dX12_giverOf_0 rfl (lv_at hl 0 rfl) ?_
  refine lv_iconst (v := 5) hx hb dX12_giverOf_1 qi_5 ?_
  refine q_idiv C dX12_giverOf_2 hf (fun hf => ?_)
  refine lv_iconst (v := 3) hx hb dX12_giverOf_3 qi_3 ?_
  refine q_irem C dX12_giverOf_4 hf (fun hf => ?_)
  exact q_iretR C dX12_giverOf_5 hf
def f_X12_personOf (g : qS) (a0 : Int32) : Option Int32 := if (5 : Int32) = 0 then none else (some (a0 - a0 / 5 * 5))
set_option maxHeartbeats 4000000 in
set_option maxRecDepth 100000 in
theorem c_X12_personOf (l : Launch) (E : qV) {g : qS} {a0 : Int32} {res : Int32} (hf : f_X12_personOf g a0 = some res) : q_MR l yX12_personOf cX12_personOf 1 (some .int) 0 0 E [.int a0] g (some (.int res)) := by
  unfold f_X12_personOf at hf
  refine q_ofR (by decide) rfl ?_
  intro p e s m args below meth c ls C hw hl
  have hj : q_J E s g s.heap [] := ⟨hw, va_S.rf⟩
  have hx := C.1
  have hb := C.2.1
  have C : q_C E p s m args meth c cX12_personOf RX12 1 (some .int) := C
  have hl : lv_has ls 1 [(0, .int a0)] := hl
  refine lv_iload_n hx hb dX12_personOf_0 rfl (lv_at hl 0 rfl) ?_
  refine lv_iconst (v := 5) hx hb dX12_personOf_1 qi_5 ?_
  refine q_irem C dX12_personOf_2 hf (fun hf => ?_)
  exact q_iretR C dX12_personOf_3 hf
def L_X12_safest_28  : Nat → Nat → Int32 → Int32 → Int32 → Int32 → qS → Option (Int32 × qS)
  | 0, _, _, _, _, _, _ => none
  | n + 1, x0, x1, x2, x3, x4, g => if 105 ≤ x4 then (q_b2 (f_X12_good g x0 x2) fun v2 g1 => some (v2, g1)) else ((f_X12_dayOf g x4).bind fun v3 => (f_X12_giverOf g x4).bind fun v4 => (f_X12_personOf g x4).bind fun v5 => (g_R g x0 11 3).bind fun v6 => (g_I g v6 10 0).bind fun v7 => if v7 ≤ v3 then (L_X12_safest_28 n x0 x1 x2 x3 (x4 + 1) g) else ((g_R g x0 11 3).bind fun v8 => (g_I g v8 10 5).bind fun v9 => if v9 ≤ v4 then (L_X12_safest_28 n x0 x1 x2 x3 (x4 + 1) g) else ((g_R g x0 11 3).bind fun v10 => (g_I g v10 10 3).bind fun v11 => if v11 ≤ v5 then (L_X12_safest_28 n x0 x1 x2 x3 (x4 + 1) g) else ((g_R g x0 11 3).bind fun v12 => (f_X11_roomOf g v12 v5).bind fun v13 => if v13 = 0 then (L_X12_safest_28 n x0 x1 x2 x3 (x4 + 1) g) else ((g_R g x0 11 3).bind fun v14 => (f_X11_together g v14 v4 v5 v3).bind fun v15 => if v15 = (-2) then (L_X12_safest_28 n x0 x1 x2 x3 (x4 + 1) g) else ((g_R g x0 11 3).bind fun v16 => (f_X11_near g v16 v4 x1 v5 v15 0).bind fun v17 => if v17 < x3 then ((g_R g x0 11 3).bind fun v18 => (f_X11_near g v18 v4 x1 v5 v15 0).bind fun v19 => L_X12_safest_28 n x0 x1 (((100 * v3) + (10 * v4)) + v5) v19 (x4 + 1) g) else (L_X12_safest_28 n x0 x1 x2 x3 (x4 + 1) g)))))))
set_option maxHeartbeats 4000000 in
set_option maxRecDepth 100000 in
theorem w_L_X12_safest_28 {l : Launch} {E : qV} {p : Program} {e : Env} {s : State} {m : MethodId} {args : Array Value} {below : List Frame} {meth : Method} {c : Code}  {res : (Int32 × qS)} (C : q_C E p s m args meth c cX12_safest RX12 9 (some .int))  : ∀ {n : Nat} {x0 : Nat} {x1 : Int32} {x2 : Int32} {x3 : Int32} {x4 : Int32} {g : qS} {H : Heap} {locs : List Loc} {ls : Array Slot}, q_J E s g H locs → lv_has ls 9 [(0, .ref (q_ad E x0)), (1, .int x1), (2, .int x2), (3, .int x3), (4, .int x4)] → L_X12_safest_28 n x0 x1 x2 x3 x4 g = some res → W p l e (q_rm 1 26) s m args below meth c H locs 0 0 (q_ZW E below (some (.int res.1)) res.2 args s) (F0 m 28 ls []) := by
  have hx := C.1
  have hb := C.2.1
  intro n
  induction n with
  | zero =>
    intro x0 x1 x2 x3 x4 g H locs ls hj hl hf
    cases hf
  | succ n ih_ =>
    intro x0 x1 x2 x3 x4 g H locs ls hj hl hf
    have ih : ∀ (x0 : Nat) (x1 : Int32) (x2 : Int32) (x3 : Int32) (x4 : Int32) (g : qS) (H : Heap) (locs : List Loc) (ls : Array Slot), q_J E s g H locs → lv_has ls 9 [(0, .ref (q_ad E x0)), (1, .int x1), (2, .int x2), (3, .int x3), (4, .int x4)] → L_X12_safest_28 n x0 x1 x2 x3 x4 g = some res → W p l e (q_rm 1 26) s m args below meth c H locs 0 0 (q_ZW E below (some (.int res.1)) res.2 args s) (F0 m 28 ls []) := fun x0 x1 x2 x3 x4 g H locs ls hj hl hf => ih_ hj hl hf
    unfold L_X12_safest_28 at hf
    refine lv_iload hx hb dX12_safest_28 (lv_at hl 4 rfl) ?_
    refine lv_bipush (v := 105) hx hb dX12_safest_30 (by decide) ?_
    refine q_icge C (tgt := 188) dX12_safest_32 (by decide) hf (fun hf => ?_) (fun hf => ?_)
    · refine lv_aload_n hx hb dX12_safest_188 rfl (lv_at hl 0 rfl) ?_
      refine lv_iload_n hx hb dX12_safest_189 rfl (lv_at hl 2 rfl) ?_
      refine q_cVWI C hj cw_X12_58 (As := [.int x2]) (rest := []) hf (fun v9 g9 h9 => c_X12_good l E h9) rfl hl rfl rfl rfl dX12_safest_190 ⟨Nat.zero_le _, Nat.zero_le _⟩ (fun v2 g1 H locs hj hf => ?_)
      exact q_iretW C hj dX12_safest_193 hf
    · refine lv_iload hx hb dX12_safest_35 (lv_at hl 4 rfl) ?_
      refine q_cSRI C hj cw_X12_427 (As := [.int x4]) (rest := []) hf (fun v9 h9 => c_X12_dayOf l E h9) rfl hl rfl rfl rfl dX12_safest_37 ⟨Nat.zero_le _, Nat.zero_le _⟩ (fun v3 hf => ?_)
      refine lv_istore (lv' := [(5, .int v3), (0, .ref (q_ad E x0)), (1, .int x1), (2, .int x2), (3, .int x3), (4, .int x4)]) hx hb dX12_safest_40 hl (by decide) rfl (fun ls hl => ?_)
      refine lv_iload hx hb dX12_safest_42 (lv_at hl 5 rfl) ?_
      refine q_cSRI C hj cw_X12_430 (As := [.int x4]) (rest := []) hf (fun v9 h9 => c_X12_giverOf l E h9) rfl hl rfl rfl rfl dX12_safest_44 ⟨Nat.zero_le _, Nat.zero_le _⟩ (fun v4 hf => ?_)
      refine lv_istore (lv' := [(6, .int v4), (5, .int v3), (0, .ref (q_ad E x0)), (1, .int x1), (2, .int x2), (3, .int x3), (4, .int x4)]) hx hb dX12_safest_47 hl (by decide) rfl (fun ls hl => ?_)
      refine lv_iload hx hb dX12_safest_49 (lv_at hl 6 rfl) ?_
      refine q_cSRI C hj cw_X12_433 (As := [.int x4]) (rest := []) hf (fun v9 h9 => c_X12_personOf l E h9) rfl hl rfl rfl rfl dX12_safest_51 ⟨Nat.zero_le _, Nat.zero_le _⟩ (fun v5 hf => ?_)
      refine lv_istore (lv' := [(7, .int v5), (6, .int v4), (5, .int v3), (0, .ref (q_ad E x0)), (1, .int x1), (2, .int x2), (3, .int x3), (4, .int x4)]) hx hb dX12_safest_54 hl (by decide) rfl (fun ls hl => ?_)
      refine lv_iload hx hb dX12_safest_56 (lv_at hl 2 rfl) ?_
      refine lv_aload_n hx hb dX12_safest_58 rfl (lv_at hl 3 rfl) ?_
      refine q_getR C hj lk_X12_369 dX12_safest_59 hf (fun v6 hf => ?_)
      refine q_getI C hj lk_X12_166 dX12_safest_62 hf (fun v7 hf => ?_)
      refine q_icge C (tgt := 182) dX12_safest_65 (by decide) hf (fun hf => ?_) (fun hf => ?_)
      · refine lv_iinc (v := x4 + 1) (lv' := [(4, .int (x4 + 1)), (7, .int v5), (6, .int v4), (5, .int v3), (0, .ref (q_ad E x0)), (1, .int x1), (2, .int x2), (3, .int x3)]) hx hb dX12_safest_182 hl (k := 7) rfl (by rw [qi_1]) (by decide) rfl (fun ls hl => ?_)
        refine lv_goto (tgt := 28) hx hb dX12_safest_185 (by decide) ?_
        exact ih _ _ _ _ _ _ _ _ ls hj (lv_sub hl [4, 5, 6, 7, 0] rfl) hf
      · refine lv_iload hx hb dX12_safest_68 (lv_at hl 1 rfl) ?_
        refine lv_aload_n hx hb dX12_safest_70 rfl (lv_at hl 3 rfl) ?_
        refine q_getR C hj lk_X12_369 dX12_safest_71 hf (fun v8 hf => ?_)
        refine q_getI C hj lk_X12_207 dX12_safest_74 hf (fun v9 hf => ?_)
        refine q_icge C (tgt := 182) dX12_safest_77 (by decide) hf (fun hf => ?_) (fun hf => ?_)
        · refine lv_iinc (v := x4 + 1) (lv' := [(4, .int (x4 + 1)), (7, .int v5), (6, .int v4), (5, .int v3), (0, .ref (q_ad E x0)), (1, .int x1), (2, .int x2), (3, .int x3)]) hx hb dX12_safest_182 hl (k := 7) rfl (by rw [qi_1]) (by decide) rfl (fun ls hl => ?_)
          refine lv_goto (tgt := 28) hx hb dX12_safest_185 (by decide) ?_
          exact ih _ _ _ _ _ _ _ _ ls hj (lv_sub hl [4, 5, 6, 7, 0] rfl) hf
        · refine lv_iload hx hb dX12_safest_80 (lv_at hl 0 rfl) ?_
          refine lv_aload_n hx hb dX12_safest_82 rfl (lv_at hl 3 rfl) ?_
          refine q_getR C hj lk_X12_369 dX12_safest_83 hf (fun v10 hf => ?_)
          refine q_getI C hj lk_X12_204 dX12_safest_86 hf (fun v11 hf => ?_)
          refine q_icge C (tgt := 182) dX12_safest_89 (by decide) hf (fun hf => ?_) (fun hf => ?_)
          · refine lv_iinc (v := x4 + 1) (lv' := [(4, .int (x4 + 1)), (7, .int v5), (6, .int v4), (5, .int v3), (0, .ref (q_ad E x0)), (1, .int x1), (2, .int x2), (3, .int x3)]) hx hb dX12_safest_182 hl (k := 7) rfl (by rw [qi_1]) (by decide) rfl (fun ls hl => ?_)
            refine lv_goto (tgt := 28) hx hb dX12_safest_185 (by decide) ?_
            exact ih _ _ _ _ _ _ _ _ ls hj (lv_sub hl [4, 5, 6, 7, 0] rfl) hf
          · refine lv_aload_n hx hb dX12_safest_92 rfl (lv_at hl 3 rfl) ?_
            refine q_getR C hj lk_X12_369 dX12_safest_93 hf (fun v12 hf => ?_)
            refine lv_iload hx hb dX12_safest_96 (lv_at hl 0 rfl) ?_
            refine q_cVRI C hj cw_X12_377 (As := [.int v5]) (rest := []) hf (fun v9 h9 => c_X11_roomOf l E h9) rfl hl rfl rfl rfl dX12_safest_98 ⟨Nat.zero_le _, Nat.zero_le _⟩ (fun v13 hf => ?_)
            refine q_ifne C (tgt := 107) dX12_safest_101 (by decide) hf (fun hf => ?_) (fun hf => ?_)
            · refine lv_aload_n hx hb dX12_safest_107 rfl (lv_at hl 3 rfl) ?_
              refine q_getR C hj lk_X12_369 dX12_safest_108 hf (fun v14 hf => ?_)
              refine lv_iload hx hb dX12_safest_111 (lv_at hl 1 rfl) ?_
              refine lv_iload hx hb dX12_safest_113 (lv_at hl 0 rfl) ?_
              refine lv_iload hx hb dX12_safest_115 (lv_at hl 2 rfl) ?_
              refine q_cVRI C hj cw_X12_388 (As := [.int v4, .int v5, .int v3]) (rest := []) hf (fun v9 h9 => c_X11_together l E h9) rfl hl rfl rfl rfl dX12_safest_117 ⟨Nat.zero_le _, Nat.zero_le _⟩ (fun v15 hf => ?_)
              refine lv_istore (lv' := [(8, .int v15), (7, .int v5), (6, .int v4), (5, .int v3), (0, .ref (q_ad E x0)), (1, .int x1), (2, .int x2), (3, .int x3), (4, .int x4)]) hx hb dX12_safest_120 hl (by decide) rfl (fun ls hl => ?_)
              refine lv_iload hx hb dX12_safest_122 (lv_at hl 0 rfl) ?_
              refine lv_bipush (v := -2) hx hb dX12_safest_124 (by decide) ?_
              refine q_iceq C (tgt := 182) dX12_safest_126 (by decide) hf (fun hf => ?_) (fun hf => ?_)
              · refine lv_iinc (v := x4 + 1) (lv' := [(4, .int (x4 + 1)), (8, .int v15), (7, .int v5), (6, .int v4), (5, .int v3), (0, .ref (q_ad E x0)), (1, .int x1), (2, .int x2), (3, .int x3)]) hx hb dX12_safest_182 hl (k := 8) rfl (by rw [qi_1]) (by decide) rfl (fun ls hl => ?_)
                refine lv_goto (tgt := 28) hx hb dX12_safest_185 (by decide) ?_
                exact ih _ _ _ _ _ _ _ _ ls hj (lv_sub hl [5, 6, 7, 8, 0] rfl) hf
              · refine lv_aload_n hx hb dX12_safest_129 rfl (lv_at hl 4 rfl) ?_
                refine q_getR C hj lk_X12_369 dX12_safest_130 hf (fun v16 hf => ?_)
                refine lv_iload hx hb dX12_safest_133 (lv_at hl 2 rfl) ?_
                refine lv_iload_n hx hb dX12_safest_135 rfl (lv_at hl 5 rfl) ?_
                refine lv_iload hx hb dX12_safest_136 (lv_at hl 1 rfl) ?_
                refine lv_iload hx hb dX12_safest_138 (lv_at hl 0 rfl) ?_
                refine lv_iconst (v := 0) hx hb dX12_safest_140 qi_0 ?_
                refine q_cVRI C hj cw_X12_384 (As := [.int v4, .int x1, .int v5, .int v15, .int 0]) (rest := []) hf (fun v9 h9 => c_X11_near l E h9) rfl hl rfl rfl rfl dX12_safest_141 ⟨Nat.zero_le _, Nat.zero_le _⟩ (fun v17 hf => ?_)
                refine lv_iload_n hx hb dX12_safest_144 rfl (lv_at hl 7 rfl) ?_
                refine q_iclt C (tgt := 151) dX12_safest_145 (by decide) hf (fun hf => ?_) (fun hf => ?_)
                · refine lv_aload_n hx hb dX12_safest_151 rfl (lv_at hl 4 rfl) ?_
                  refine q_getR C hj lk_X12_369 dX12_safest_152 hf (fun v18 hf => ?_)
                  refine lv_iload hx hb dX12_safest_155 (lv_at hl 2 rfl) ?_
                  refine lv_iload_n hx hb dX12_safest_157 rfl (lv_at hl 5 rfl) ?_
                  refine lv_iload hx hb dX12_safest_158 (lv_at hl 1 rfl) ?_
                  refine lv_iload hx hb dX12_safest_160 (lv_at hl 0 rfl) ?_
                  refine lv_iconst (v := 0) hx hb dX12_safest_162 qi_0 ?_
                  refine q_cVRI C hj cw_X12_384 (As := [.int v4, .int x1, .int v5, .int v15, .int 0]) (rest := []) hf (fun v9 h9 => c_X11_near l E h9) rfl hl rfl rfl rfl dX12_safest_163 ⟨Nat.zero_le _, Nat.zero_le _⟩ (fun v19 hf => ?_)
                  refine lv_istore_n (lv' := [(3, .int v19), (8, .int v15), (7, .int v5), (6, .int v4), (5, .int v3), (0, .ref (q_ad E x0)), (1, .int x1), (2, .int x2), (4, .int x4)]) hx hb dX12_safest_166 rfl hl (by decide) rfl (fun ls hl => ?_)
                  refine lv_bipush (v := 100) hx hb dX12_safest_167 (by decide) ?_
                  refine lv_iload hx hb dX12_safest_169 (lv_at hl 4 rfl) ?_
                  refine lv_imul hx hb dX12_safest_171 ?_
                  refine lv_bipush (v := 10) hx hb dX12_safest_172 (by decide) ?_
                  refine lv_iload hx hb dX12_safest_174 (lv_at hl 3 rfl) ?_
                  refine lv_imul hx hb dX12_safest_176 ?_
                  refine lv_iadd hx hb dX12_safest_177 ?_
                  refine lv_iload hx hb dX12_safest_178 (lv_at hl 2 rfl) ?_
                  refine lv_iadd hx hb dX12_safest_180 ?_
                  refine lv_istore_n (lv' := [(2, .int (((100 * v3) + (10 * v4)) + v5)), (3, .int v19), (8, .int v15), (7, .int v5), (6, .int v4), (5, .int v3), (0, .ref (q_ad E x0)), (1, .int x1), (4, .int x4)]) hx hb dX12_safest_181 rfl hl (by decide) rfl (fun ls hl => ?_)
                  refine lv_iinc (v := x4 + 1) (lv' := [(4, .int (x4 + 1)), (2, .int (((100 * v3) + (10 * v4)) + v5)), (3, .int v19), (8, .int v15), (7, .int v5), (6, .int v4), (5, .int v3), (0, .ref (q_ad E x0)), (1, .int x1)]) hx hb dX12_safest_182 hl (k := 8) rfl (by rw [qi_1]) (by decide) rfl (fun ls hl => ?_)
                  refine lv_goto (tgt := 28) hx hb dX12_safest_185 (by decide) ?_
                  exact ih _ _ _ _ _ _ _ _ ls hj (lv_sub hl [7, 8, 1, 2, 0] rfl) hf
                · refine lv_goto (tgt := 182) hx hb dX12_safest_148 (by decide) ?_
                  refine lv_iinc (v := x4 + 1) (lv' := [(4, .int (x4 + 1)), (8, .int v15), (7, .int v5), (6, .int v4), (5, .int v3), (0, .ref (q_ad E x0)), (1, .int x1), (2, .int x2), (3, .int x3)]) hx hb dX12_safest_182 hl (k := 8) rfl (by rw [qi_1]) (by decide) rfl (fun ls hl => ?_)
                  refine lv_goto (tgt := 28) hx hb dX12_safest_185 (by decide) ?_
                  exact ih _ _ _ _ _ _ _ _ ls hj (lv_sub hl [5, 6, 7, 8, 0] rfl) hf
            · refine lv_goto (tgt := 182) hx hb dX12_safest_104 (by decide) ?_
              refine lv_iinc (v := x4 + 1) (lv' := [(4, .int (x4 + 1)), (7, .int v5), (6, .int v4), (5, .int v3), (0, .ref (q_ad E x0)), (1, .int x1), (2, .int x2), (3, .int x3)]) hx hb dX12_safest_182 hl (k := 7) rfl (by rw [qi_1]) (by decide) rfl (fun ls hl => ?_)
              refine lv_goto (tgt := 28) hx hb dX12_safest_185 (by decide) ?_
              exact ih _ _ _ _ _ _ _ _ ls hj (lv_sub hl [4, 5, 6, 7, 0] rfl) hf
def f_X12_safest (g : qS) (a0 : Nat) (a1 : Int32) : Option (Int32 × qS) := (g_C g a0 11).bind fun _ => (p_I g a0 11 0 0).bind fun g1 => (f_X12_isThing g1 a0 a1).bind fun v2 => if v2 = 0 then (q_b2 (f_X12_refused g1 a0 1) fun v4 g3 => some (v4, g3)) else (L_X12_safest_28 1000000000 a0 a1 (-2) 101 0 g1)
set_option maxHeartbeats 4000000 in
set_option maxRecDepth 100000 in
theorem c_X12_safest (l : Launch) (E : qV) {g : qS} {a0 : Nat} {a1 : Int32} {res : (Int32 × qS)} (hf : f_X12_safest g a0 a1 = some res) : q_MW l yX12_safest cX12_safest 9 (some .int) 1 26 E [.ref (q_ad E a0), .int a1] g (some (.int res.1)) res.2 ∧ ∃ fs, g a0 = some (.inr (11, fs)) := by
  unfold f_X12_safest at hf
  obtain ⟨u9, hu9, hf⟩ := q_ob hf
  refine ⟨q_ofW (by decide) rfl ?_, g_C_sp hu9⟩
  intro p e s m args below meth c ls C hj hl
  have hx := C.1
  have hb := C.2.1
  have C : q_C E p s m args meth c cX12_safest RX12 9 (some .int) := C
  have hl : lv_has ls 9 [(0, .ref (q_ad E a0)), (1, .int a1)] := hl
  refine lv_aload_n hx hb dX12_safest_0 rfl (lv_at hl 0 rfl) ?_
  refine lv_iconst (v := 0) hx hb dX12_safest_1 qi_0 ?_
  refine q_putI C hj fp_X12_48 dX12_safest_2 hf (fun g1 H locs hj hf => ?_)
  refine lv_aload_n hx hb dX12_safest_5 rfl (lv_at hl 0 rfl) ?_
  refine lv_iload_n hx hb dX12_safest_6 rfl (lv_at hl 1 rfl) ?_
  refine q_cVRI C hj cw_X12_405 (As := [.int a1]) (rest := []) hf (fun v9 h9 => c_X12_isThing l E h9) rfl hl rfl rfl rfl dX12_safest_7 ⟨Nat.zero_le _, Nat.zero_le _⟩ (fun v2 hf => ?_)
  refine q_ifne C (tgt := 19) dX12_safest_10 (by decide) hf (fun hf => ?_) (fun hf => ?_)
  · refine lv_bipush (v := -2) hx hb dX12_safest_19 (by decide) ?_
    refine lv_istore_n (lv' := [(2, .int (-2)), (0, .ref (q_ad E a0)), (1, .int a1)]) hx hb dX12_safest_21 rfl hl (by decide) rfl (fun ls hl => ?_)
    refine lv_bipush (v := 101) hx hb dX12_safest_22 (by decide) ?_
    refine lv_istore_n (lv' := [(3, .int 101), (2, .int (-2)), (0, .ref (q_ad E a0)), (1, .int a1)]) hx hb dX12_safest_24 rfl hl (by decide) rfl (fun ls hl => ?_)
    refine lv_iconst (v := 0) hx hb dX12_safest_25 qi_0 ?_
    refine lv_istore (lv' := [(4, .int 0), (3, .int 101), (2, .int (-2)), (0, .ref (q_ad E a0)), (1, .int a1)]) hx hb dX12_safest_26 hl (by decide) rfl (fun ls hl => ?_)
    refine w_L_X12_safest_28 C  hj (lv_sub hl [3, 4, 2, 1, 0] rfl) hf
  · refine lv_aload_n hx hb dX12_safest_13 rfl (lv_at hl 0 rfl) ?_
    refine lv_iconst (v := 1) hx hb dX12_safest_14 qi_1 ?_
    refine q_cVWI C hj cw_X12_54 (As := [.int 1]) (rest := []) hf (fun v9 g9 h9 => c_X12_refused l E h9) rfl hl rfl rfl rfl dX12_safest_15 ⟨Nat.zero_le _, Nat.zero_le _⟩ (fun v4 g3 H locs hj hf => ?_)
    exact q_iretW C hj dX12_safest_18 hf
def L_X12_plans_13 (k129 : Nat → Int32 → Int32 → qS → Option qS) : Nat → Nat → Int32 → Int32 → Int32 → qS → Option qS
  | 0, _, _, _, _, _ => none
  | n + 1, x0, x1, x2, x3, g => (g_R g x0 11 3).bind fun v1 => (g_I g v1 10 7).bind fun v2 => if v2 ≤ x3 then (k129 x0 x1 x2 g) else ((g_R g x0 11 3).bind fun v3 => (g_R g v3 10 26).bind fun v4 => (a_I g v4 x3).bind fun v5 => if v5 = x2 then ((g_R g x0 11 21).bind fun v6 => (g_R g x0 11 16).bind fun v7 => (g_R g x0 11 3).bind fun v8 => (g_R g v8 10 23).bind fun v9 => (a_I g v9 x3).bind fun v10 => (g_R g x0 11 3).bind fun v11 => (g_R g v11 10 24).bind fun v12 => (a_I g v12 x3).bind fun v13 => (g_R g x0 11 3).bind fun v14 => (g_R g v14 10 25).bind fun v15 => (a_I g v15 x3).bind fun v16 => (f_X12_comes g x0 v7 v10 v13 v16 x2).bind fun v17 => (s_I g v6 x3 v17).bind fun g18 => (g_R g18 x0 11 16).bind fun v19 => (g_R g18 x0 11 21).bind fun v20 => (a_I g18 v20 x3).bind fun v21 => (g_R g18 x0 11 3).bind fun v22 => (g_R g18 v22 10 23).bind fun v23 => (a_I g18 v23 x3).bind fun v24 => (g_R g18 x0 11 3).bind fun v25 => (g_R g18 v25 10 24).bind fun v26 => (a_I g18 v26 x3).bind fun v27 => (g_R g18 x0 11 3).bind fun v28 => (g_R g18 v28 10 25).bind fun v29 => (a_I g18 v29 x3).bind fun v30 => (f_X12_does g18 x0 v19 v21 v24 v27 v30).bind fun g31 => L_X12_plans_13 k129 n x0 x1 x2 (x3 + 1) g31) else (L_X12_plans_13 k129 n x0 x1 x2 (x3 + 1) g))
set_option maxHeartbeats 4000000 in
set_option maxRecDepth 100000 in
theorem w_L_X12_plans_13 {l : Launch} {E : qV} {p : Program} {e : Env} {s : State} {m : MethodId} {args : Array Value} {below : List Frame} {meth : Method} {c : Code} {k129 : Nat → Int32 → Int32 → qS → Option qS} {res : qS} (C : q_C E p s m args meth c cX12_plans RX12 4 none) (hk129 : ∀ (x0 : Nat) (x1 : Int32) (x2 : Int32) (g : qS) (H : Heap) (locs : List Loc) (ls : Array Slot), q_J E s g H locs → lv_has ls 4 [(0, .ref (q_ad E x0)), (1, .int x1), (2, .int x2)] → k129 x0 x1 x2 g = some res → W p l e (q_rm 4 95) s m args below meth c H locs 0 0 (q_ZW E below none res args s) (F0 m 129 ls [])) : ∀ {n : Nat} {x0 : Nat} {x1 : Int32} {x2 : Int32} {x3 : Int32} {g : qS} {H : Heap} {locs : List Loc} {ls : Array Slot}, q_J E s g H locs → lv_has ls 4 [(0, .ref (q_ad E x0)), (1, .int x1), (2, .int x2), (3, .int x3)] → L_X12_plans_13 k129 n x0 x1 x2 x3 g = some res → W p l e (q_rm 4 95) s m args below meth c H locs 0 0 (q_ZW E below none res args s) (F0 m 13 ls []) := by
  have hx := C.1
  have hb := C.2.1
  intro n
  induction n with
  | zero =>
    intro x0 x1 x2 x3 g H locs ls hj hl hf
    cases hf
  | succ n ih_ =>
    intro x0 x1 x2 x3 g H locs ls hj hl hf
    have ih : ∀ (x0 : Nat) (x1 : Int32) (x2 : Int32) (x3 : Int32) (g : qS) (H : Heap) (locs : List Loc) (ls : Array Slot), q_J E s g H locs → lv_has ls 4 [(0, .ref (q_ad E x0)), (1, .int x1), (2, .int x2), (3, .int x3)] → L_X12_plans_13 k129 n x0 x1 x2 x3 g = some res → W p l e (q_rm 4 95) s m args below meth c H locs 0 0 (q_ZW E below none res args s) (F0 m 13 ls []) := fun x0 x1 x2 x3 g H locs ls hj hl hf => ih_ hj hl hf
    unfold L_X12_plans_13 at hf
    refine lv_iload_n hx hb dX12_plans_13 rfl (lv_at hl 3 rfl) ?_
    refine lv_aload_n hx hb dX12_plans_14 rfl (lv_at hl 0 rfl) ?_
    refine q_getR C hj lk_X12_369 dX12_plans_15 hf (fun v1 hf => ?_)
    refine q_getI C hj lk_X12_318 dX12_plans_18 hf (fun v2 hf => ?_)
    refine q_icge C (tgt := 129) dX12_plans_21 (by decide) hf (fun hf => ?_) (fun hf => ?_)
    · exact hk129 _ _ _ _ _ _ ls hj (lv_sub hl [0, 1, 2] rfl) hf
    · refine lv_aload_n hx hb dX12_plans_24 rfl (lv_at hl 0 rfl) ?_
      refine q_getR C hj lk_X12_369 dX12_plans_25 hf (fun v3 hf => ?_)
      refine q_getR C hj lk_X12_330 dX12_plans_28 hf (fun v4 hf => ?_)
      refine lv_iload_n hx hb dX12_plans_31 rfl (lv_at hl 3 rfl) ?_
      refine q_aldI C hj dX12_plans_32 hf (fun v5 hf => ?_)
      refine lv_iload_n hx hb dX12_plans_33 rfl (lv_at hl 2 rfl) ?_
      refine q_iceq C (tgt := 40) dX12_plans_34 (by decide) hf (fun hf => ?_) (fun hf => ?_)
      · refine lv_aload_n hx hb dX12_plans_40 rfl (lv_at hl 0 rfl) ?_
        refine q_getR C hj lk_X12_30 dX12_plans_41 hf (fun v6 hf => ?_)
        refine lv_iload_n hx hb dX12_plans_44 rfl (lv_at hl 3 rfl) ?_
        refine lv_aload_n hx hb dX12_plans_45 rfl (lv_at hl 0 rfl) ?_
        refine lv_aload_n hx hb dX12_plans_46 rfl (lv_at hl 0 rfl) ?_
        refine q_getR C hj lk_X12_21 dX12_plans_47 hf (fun v7 hf => ?_)
        refine lv_aload_n hx hb dX12_plans_50 rfl (lv_at hl 0 rfl) ?_
        refine q_getR C hj lk_X12_369 dX12_plans_51 hf (fun v8 hf => ?_)
        refine q_getR C hj lk_X12_321 dX12_plans_54 hf (fun v9 hf => ?_)
        refine lv_iload_n hx hb dX12_plans_57 rfl (lv_at hl 3 rfl) ?_
        refine q_aldI C hj dX12_plans_58 hf (fun v10 hf => ?_)
        refine lv_aload_n hx hb dX12_plans_59 rfl (lv_at hl 0 rfl) ?_
        refine q_getR C hj lk_X12_369 dX12_plans_60 hf (fun v11 hf => ?_)
        refine q_getR C hj lk_X12_324 dX12_plans_63 hf (fun v12 hf => ?_)
        refine lv_iload_n hx hb dX12_plans_66 rfl (lv_at hl 3 rfl) ?_
        refine q_aldI C hj dX12_plans_67 hf (fun v13 hf => ?_)
        refine lv_aload_n hx hb dX12_plans_68 rfl (lv_at hl 0 rfl) ?_
        refine q_getR C hj lk_X12_369 dX12_plans_69 hf (fun v14 hf => ?_)
        refine q_getR C hj lk_X12_327 dX12_plans_72 hf (fun v15 hf => ?_)
        refine lv_iload_n hx hb dX12_plans_75 rfl (lv_at hl 3 rfl) ?_
        refine q_aldI C hj dX12_plans_76 hf (fun v16 hf => ?_)
        refine lv_iload_n hx hb dX12_plans_77 rfl (lv_at hl 2 rfl) ?_
        refine q_cVRI C hj cw_X12_424 (As := [.ref (q_ad E v7), .int v10, .int v13, .int v16, .int x2]) (rest := [.int x3, .ref (q_ad E v6)]) hf (fun v9 h9 => c_X12_comes l E h9) rfl hl rfl rfl rfl dX12_plans_78 ⟨Nat.zero_le _, Nat.zero_le _⟩ (fun v17 hf => ?_)
        refine q_astI C hj dX12_plans_81 hf (fun g18 H locs hj hf => ?_)
        refine lv_aload_n hx hb dX12_plans_82 rfl (lv_at hl 0 rfl) ?_
        refine lv_aload_n hx hb dX12_plans_83 rfl (lv_at hl 0 rfl) ?_
        refine q_getR C hj lk_X12_21 dX12_plans_84 hf (fun v19 hf => ?_)
        refine lv_aload_n hx hb dX12_plans_87 rfl (lv_at hl 0 rfl) ?_
        refine q_getR C hj lk_X12_30 dX12_plans_88 hf (fun v20 hf => ?_)
        refine lv_iload_n hx hb dX12_plans_91 rfl (lv_at hl 3 rfl) ?_
        refine q_aldI C hj dX12_plans_92 hf (fun v21 hf => ?_)
        refine lv_aload_n hx hb dX12_plans_93 rfl (lv_at hl 0 rfl) ?_
        refine q_getR C hj lk_X12_369 dX12_plans_94 hf (fun v22 hf => ?_)
        refine q_getR C hj lk_X12_321 dX12_plans_97 hf (fun v23 hf => ?_)
        refine lv_iload_n hx hb dX12_plans_100 rfl (lv_at hl 3 rfl) ?_
        refine q_aldI C hj dX12_plans_101 hf (fun v24 hf => ?_)
        refine lv_aload_n hx hb dX12_plans_102 rfl (lv_at hl 0 rfl) ?_
        refine q_getR C hj lk_X12_369 dX12_plans_103 hf (fun v25 hf => ?_)
        refine q_getR C hj lk_X12_324 dX12_plans_106 hf (fun v26 hf => ?_)
        refine lv_iload_n hx hb dX12_plans_109 rfl (lv_at hl 3 rfl) ?_
        refine q_aldI C hj dX12_plans_110 hf (fun v27 hf => ?_)
        refine lv_aload_n hx hb dX12_plans_111 rfl (lv_at hl 0 rfl) ?_
        refine q_getR C hj lk_X12_369 dX12_plans_112 hf (fun v28 hf => ?_)
        refine q_getR C hj lk_X12_327 dX12_plans_115 hf (fun v29 hf => ?_)
        refine lv_iload_n hx hb dX12_plans_118 rfl (lv_at hl 3 rfl) ?_
        refine q_aldI C hj dX12_plans_119 hf (fun v30 hf => ?_)
        refine q_cVWV C hj cw_X12_439 (As := [.ref (q_ad E v19), .int v21, .int v24, .int v27, .int v30]) (rest := []) hf (fun g9 h9 => c_X12_does l E h9) rfl hl rfl rfl rfl dX12_plans_120 ⟨Nat.zero_le _, Nat.zero_le _⟩ (fun g31 H locs hj hf => ?_)
        refine lv_iinc (v := x3 + 1) (lv' := [(3, .int (x3 + 1)), (0, .ref (q_ad E x0)), (1, .int x1), (2, .int x2)]) hx hb dX12_plans_123 hl (k := 3) rfl (by rw [qi_1]) (by decide) rfl (fun ls hl => ?_)
        refine lv_goto (tgt := 13) hx hb dX12_plans_126 (by decide) ?_
        exact ih _ _ _ _ _ _ _ ls hj (lv_sub hl [1, 2, 3, 0] rfl) hf
      · refine lv_goto (tgt := 123) hx hb dX12_plans_37 (by decide) ?_
        refine lv_iinc (v := x3 + 1) (lv' := [(3, .int (x3 + 1)), (0, .ref (q_ad E x0)), (1, .int x1), (2, .int x2)]) hx hb dX12_plans_123 hl (k := 3) rfl (by rw [qi_1]) (by decide) rfl (fun ls hl => ?_)
        refine lv_goto (tgt := 13) hx hb dX12_plans_126 (by decide) ?_
        exact ih _ _ _ _ _ _ _ ls hj (lv_sub hl [1, 2, 3, 0] rfl) hf
def L_X12_plans_6  : Nat → Nat → Int32 → Int32 → qS → Option qS
  | 0, _, _, _, _ => none
  | n + 1, x0, x1, x2, g => if x1 < x2 then (some g) else (L_X12_plans_13 (fun y1 y2 y3 g4 => L_X12_plans_6 n y1 y2 (y3 + 1) g4) 1000000000 x0 x1 x2 0 g)
set_option maxHeartbeats 4000000 in
set_option maxRecDepth 100000 in
theorem w_L_X12_plans_6 {l : Launch} {E : qV} {p : Program} {e : Env} {s : State} {m : MethodId} {args : Array Value} {below : List Frame} {meth : Method} {c : Code}  {res : qS} (C : q_C E p s m args meth c cX12_plans RX12 4 none)  : ∀ {n : Nat} {x0 : Nat} {x1 : Int32} {x2 : Int32} {g : qS} {H : Heap} {locs : List Loc} {ls : Array Slot}, q_J E s g H locs → lv_has ls 4 [(0, .ref (q_ad E x0)), (1, .int x1), (2, .int x2)] → L_X12_plans_6 n x0 x1 x2 g = some res → W p l e (q_rm 4 95) s m args below meth c H locs 0 0 (q_ZW E below none res args s) (F0 m 6 ls []) := by
  have hx := C.1
  have hb := C.2.1
  intro n
  induction n with
  | zero =>
    intro x0 x1 x2 g H locs ls hj hl hf
    cases hf
  | succ n ih_ =>
    intro x0 x1 x2 g H locs ls hj hl hf
    have ih : ∀ (x0 : Nat) (x1 : Int32) (x2 : Int32) (g : qS) (H : Heap) (locs : List Loc) (ls : Array Slot), q_J E s g H locs → lv_has ls 4 [(0, .ref (q_ad E x0)), (1, .int x1), (2, .int x2)] → L_X12_plans_6 n x0 x1 x2 g = some res → W p l e (q_rm 4 95) s m args below meth c H locs 0 0 (q_ZW E below none res args s) (F0 m 6 ls []) := fun x0 x1 x2 g H locs ls hj hl hf => ih_ hj hl hf
    unfold L_X12_plans_6 at hf
    refine lv_iload_n hx hb dX12_plans_6 rfl (lv_at hl 2 rfl) ?_
    refine lv_iload_n hx hb dX12_plans_7 rfl (lv_at hl 1 rfl) ?_
    refine q_icgt C (tgt := 135) dX12_plans_8 (by decide) hf (fun hf => ?_) (fun hf => ?_)
    · exact q_vretW C hj dX12_plans_135 hf
    · refine lv_iconst (v := 0) hx hb dX12_plans_11 qi_0 ?_
      refine lv_istore_n (lv' := [(3, .int 0), (0, .ref (q_ad E x0)), (1, .int x1), (2, .int x2)]) hx hb dX12_plans_12 rfl hl (by decide) rfl (fun ls hl => ?_)
      refine w_L_X12_plans_13 C (fun y1 y2 y3 g4 H locs ls hj hl hf => ?_) hj (lv_sub hl [1, 2, 3, 0] rfl) hf
      · refine lv_iinc (v := y3 + 1) (lv' := [(2, .int (y3 + 1)), (0, .ref (q_ad E y1)), (1, .int y2)]) hx hb dX12_plans_129 hl (k := 2) rfl (by rw [qi_1]) (by decide) rfl (fun ls hl => ?_)
        refine lv_goto (tgt := 6) hx hb dX12_plans_132 (by decide) ?_
        exact ih _ _ _ _ _ _ ls hj (lv_sub hl [1, 2, 0] rfl) hf
def f_X12_plans (g : qS) (a0 : Nat) (a1 : Int32) : Option qS := (g_C g a0 11).bind fun _ => (f_X12_starts g a0).bind fun g1 => L_X12_plans_6 1000000000 a0 a1 0 g1
set_option maxHeartbeats 4000000 in
set_option maxRecDepth 100000 in
theorem c_X12_plans (l : Launch) (E : qV) {g : qS} {a0 : Nat} {a1 : Int32} {res : qS} (hf : f_X12_plans g a0 a1 = some res) : q_MW l yX12_plans cX12_plans 4 none 4 95 E [.ref (q_ad E a0), .int a1] g none res ∧ ∃ fs, g a0 = some (.inr (11, fs)) := by
  unfold f_X12_plans at hf
  obtain ⟨u9, hu9, hf⟩ := q_ob hf
  refine ⟨q_ofW (by decide) rfl ?_, g_C_sp hu9⟩
  intro p e s m args below meth c ls C hj hl
  have hx := C.1
  have hb := C.2.1
  have C : q_C E p s m args meth c cX12_plans RX12 4 none := C
  have hl : lv_has ls 4 [(0, .ref (q_ad E a0)), (1, .int a1)] := hl
  refine lv_aload_n hx hb dX12_plans_0 rfl (lv_at hl 0 rfl) ?_
  refine q_cVWV C hj cw_X12_436 (As := []) (rest := []) hf (fun g9 h9 => c_X12_starts l E h9) rfl hl rfl rfl rfl dX12_plans_1 ⟨Nat.zero_le _, Nat.zero_le _⟩ (fun g1 H locs hj hf => ?_)
  refine lv_iconst (v := 0) hx hb dX12_plans_4 qi_0 ?_
  refine lv_istore_n (lv' := [(2, .int 0), (0, .ref (q_ad E a0)), (1, .int a1)]) hx hb dX12_plans_5 rfl hl (by decide) rfl (fun ls hl => ?_)
  refine w_L_X12_plans_6 C  hj (lv_sub hl [1, 2, 0] rfl) hf
