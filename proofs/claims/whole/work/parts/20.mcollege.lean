theorem lk_X12_109 : q_fl RX12 109 11 13 := ⟨RX12, TX12, 32, tyX12, q_ciX12, by decide, Or.inl (q_g6 (i := 48) rfl rfl)⟩
theorem fp_X12_65 : q_fp RX12 65 11 7 .int := ⟨RX12, TX12, 32, tyX12, q_ciX12, by decide, rfl, by decide +kernel, Or.inl (q_g6 (i := 42) rfl rfl)⟩
theorem fp_X12_162 : q_fp RX12 162 11 4 (.object "SecondPaperModel$College") := ⟨RX12, TX12, 32, tyX12, q_ciX12, by decide, rfl, by decide +kernel, Or.inl (q_g6 (i := 39) rfl rfl)⟩
theorem fp_X12_369 : q_fp RX12 369 11 3 (.object "SecondPaperModel$College") := ⟨RX12, TX12, 32, tyX12, q_ciX12, by decide, rfl, by decide +kernel, Or.inl (q_g6 (i := 38) rfl rfl)⟩
theorem cw_X12_366 : q_cw RX12 366 11 yX12_readAll cX12_readAll 2 none 0 := ⟨q_g7 (i := 61) rfl rfl, q_g7 (i := 63) rfl rfl, q_gs (i := 54) (by decide +kernel) rfl, q_g1 (i := 12) rfl rfl, q_g7 (i := 64) rfl rfl, ⟨by decide +kernel, by decide +kernel⟩, by decide +kernel, _, _, rfl⟩
theorem nw_X12_167 : q_nw RX12 167 10 35 [.int 0, .int 0, .int 0, .int 0, .int 0, .int 0, .int 0, .int 0, .int 0, .int 0, .int 0, .null, .null, .null, .null, .null, .null, .null, .null, .null, .null, .null, .null, .null, .null, .null, .null, .null, .null, .null, .null, .null, .null, .null, .null] := ⟨RX11, TX11, tyX11, q_ciX11, by decide +kernel, fun _ => rfl, q_g6 (i := 148) rfl rfl, q_g6 (i := 149) rfl rfl, q_g1 (i := 17) rfl rfl⟩
def L_X12_college_99  : Nat → Nat → Int32 → qS → Option (Int32 × qS)
  | 0, _, _, _ => none
  | n + 1, x0, x2, g => if 16 ≤ x2 then ((p_I g x0 11 19 0).bind fun g1 => (p_I g1 x0 11 20 0).bind fun g2 => (g_R g2 x0 11 3).bind fun v3 => (g_I g2 v3 10 2).bind fun v4 => q_b2 (f_X12_good g2 x0 v4) fun v6 g5 => some (v6, g5)) else ((g_R g x0 11 15).bind fun v7 => if 4 ≤ x2 then ((s_I g v7 x2 0).bind fun g8 => L_X12_college_99 n x0 (x2 + 1) g8) else ((s_I g v7 x2 (-2)).bind fun g9 => L_X12_college_99 n x0 (x2 + 1) g9))
set_option maxHeartbeats 4000000 in
set_option maxRecDepth 100000 in
theorem w_L_X12_college_99 {l : Launch} {E : qV} {p : Program} {e : Env} {s : State} {m : MethodId} {args : Array Value} {below : List Frame} {meth : Method} {c : Code}  {res : (Int32 × qS)} (C : q_C E p s m args meth c cX12_college RX12 3 (some .int))  : ∀ {n : Nat} {x0 : Nat} {x2 : Int32} {g : qS} {H : Heap} {locs : List Loc} {ls : Array Slot}, q_J E s g H locs → lv_has ls 3 [(0, .ref (q_ad E x0)), (2, .int x2)] → L_X12_college_99 n x0 x2 g = some res → W p l e (q_rmA 12 294 25 269) s m args below meth c H locs 25 269 (MQ below (q_QC E (some (.int res.1)) res.2) args s 25 269 (q_A E)) (F0 m 99 ls []) := by
  have hx := C.1
  have hb := C.2.1
  intro n
  induction n with
  | zero =>
    intro x0 x2 g H locs ls hj hl hf
    cases hf
  | succ n ih_ =>
    intro x0 x2 g H locs ls hj hl hf
    have ih : ∀ (x0 : Nat) (x2 : Int32) (g : qS) (H : Heap) (locs : List Loc) (ls : Array Slot), q_J E s g H locs → lv_has ls 3 [(0, .ref (q_ad E x0)), (2, .int x2)] → L_X12_college_99 n x0 x2 g = some res → W p l e (q_rmA 12 294 25 269) s m args below meth c H locs 25 269 (MQ below (q_QC E (some (.int res.1)) res.2) args s 25 269 (q_A E)) (F0 m 99 ls []) := fun x0 x2 g H locs ls hj hl hf => ih_ hj hl hf
    unfold L_X12_college_99 at hf
    refine lv_iload_n hx hb dX12_college_99 rfl (lv_at hl 1 rfl) ?_
    refine lv_bipush (v := 16) hx hb dX12_college_100 (by decide) ?_
    refine q_icge C (tgt := 128) dX12_college_102 (by decide) hf (fun hf => ?_) (fun hf => ?_)
    · refine lv_aload_n hx hb dX12_college_128 rfl (lv_at hl 0 rfl) ?_
      refine lv_iconst (v := 0) hx hb dX12_college_129 qi_0 ?_
      refine q_putI C hj fp_X12_371 dX12_college_130 hf (fun g1 H locs hj hf => ?_)
      refine lv_aload_n hx hb dX12_college_133 rfl (lv_at hl 0 rfl) ?_
      refine lv_iconst (v := 0) hx hb dX12_college_134 qi_0 ?_
      refine q_putI C hj fp_X12_374 dX12_college_135 hf (fun g2 H locs hj hf => ?_)
      refine lv_aload_n hx hb dX12_college_138 rfl (lv_at hl 0 rfl) ?_
      refine lv_aload_n hx hb dX12_college_139 rfl (lv_at hl 0 rfl) ?_
      refine q_getR C hj lk_X12_369 dX12_college_140 hf (fun v3 hf => ?_)
      refine q_getI C hj lk_X12_201 dX12_college_143 hf (fun v4 hf => ?_)
      refine q_cVWI C hj cw_X12_58 (As := [.int v4]) (rest := []) hf (fun v9 g9 h9 => c_X12_good l E h9) rfl hl rfl rfl rfl dX12_college_146 ⟨Nat.le_of_ble_eq_true rfl, Nat.le_of_ble_eq_true rfl⟩ (fun v6 g5 H locs hj hf => ?_)
      exact q_iretC C hj dX12_college_149 hf
    · refine lv_aload_n hx hb dX12_college_105 rfl (lv_at hl 0 rfl) ?_
      refine q_getR C hj lk_X12_17 dX12_college_106 hf (fun v7 hf => ?_)
      refine lv_iload_n hx hb dX12_college_109 rfl (lv_at hl 1 rfl) ?_
      refine lv_iload_n hx hb dX12_college_110 rfl (lv_at hl 1 rfl) ?_
      refine lv_iconst (v := 4) hx hb dX12_college_111 qi_4 ?_
      refine q_icge C (tgt := 120) dX12_college_112 (by decide) hf (fun hf => ?_) (fun hf => ?_)
      · refine lv_iconst (v := 0) hx hb dX12_college_120 qi_0 ?_
        refine q_astI C hj dX12_college_121 hf (fun g8 H locs hj hf => ?_)
        refine lv_iinc (v := x2 + 1) (lv' := [(2, .int (x2 + 1)), (0, .ref (q_ad E x0))]) hx hb dX12_college_122 hl (k := 1) rfl (by rw [qi_1]) (by decide) rfl (fun ls hl => ?_)
        refine lv_goto (tgt := 99) hx hb dX12_college_125 (by decide) ?_
        exact ih _ _ _ _ _ ls hj (lv_sub hl [1, 0] rfl) hf
      · refine lv_bipush (v := -2) hx hb dX12_college_115 (by decide) ?_
        refine lv_goto (tgt := 121) hx hb dX12_college_117 (by decide) ?_
        refine q_astI C hj dX12_college_121 hf (fun g9 H locs hj hf => ?_)
        refine lv_iinc (v := x2 + 1) (lv' := [(2, .int (x2 + 1)), (0, .ref (q_ad E x0))]) hx hb dX12_college_122 hl (k := 1) rfl (by rw [qi_1]) (by decide) rfl (fun ls hl => ?_)
        refine lv_goto (tgt := 99) hx hb dX12_college_125 (by decide) ?_
        exact ih _ _ _ _ _ ls hj (lv_sub hl [1, 0] rfl) hf
def f_X12_college (g : qS) (n : Nat) (a0 : Nat) (a1 : Int32) : Option (Int32 × qS) := (g_C g a0 11).bind fun _ => (p_I g a0 11 0 0).bind fun g1 => if a1 < 0 then (q_b2 (f_X12_refused g1 a0 2) fun v3 g2 => some (v3, g2)) else ((g_I g1 a0 11 6).bind fun v4 => if a1 ≤ v4 then ((p_I g1 a0 11 7 a1).bind fun g5 => (p_I g5 a0 11 6 0).bind fun g6 => (p_I g6 a0 11 8 0).bind fun g7 => (p_I g7 a0 11 12 0).bind fun g8 => (n_O g8 (n + 0) 10 [.int 0, .int 0, .int 0, .int 0, .int 0, .int 0, .int 0, .int 0, .int 0, .int 0, .int 0, .null, .null, .null, .null, .null, .null, .null, .null, .null, .null, .null, .null, .null, .null, .null, .null, .null, .null, .null, .null, .null, .null, .null, .null]).bind fun g9 => (f_X11_init g9 (n + 1) n).bind fun g10 => (p_R g10 a0 11 4 n).bind fun g11 => (p_I g11 a0 11 9 0).bind fun g12 => (f_X12_goesOn g12 a0).bind fun g13 => (f_X12_readAll g13 a0).bind fun g14 => (g_I g14 a0 11 12).bind fun v15 => if v15 ≤ 0 then ((g_R g14 a0 11 4).bind fun v16 => (p_R g14 a0 11 3 v16).bind fun g17 => L_X12_college_99 1000000000 a0 0 g17) else ((p_I g14 a0 11 1 4).bind fun g18 => (g_I g18 a0 11 13).bind fun v19 => (p_I g18 a0 11 2 v19).bind fun g20 => some (-1, g20))) else (q_b2 (f_X12_refused g1 a0 2) fun v22 g21 => some (v22, g21)))
set_option maxHeartbeats 4000000 in
set_option maxRecDepth 100000 in
theorem c_X12_college (l : Launch) (E : qV) {g : qS} {n : Nat} {a0 : Nat} {a1 : Int32} {res : (Int32 × qS)} (hf : f_X12_college g n a0 a1 = some res) : q_MC l yX12_college cX12_college 3 (some .int) 12 294 25 269 E [.ref (q_ad E a0), .int a1] g n (some (.int res.1)) res.2 ∧ ∃ fs, g a0 = some (.inr (11, fs)) := by
  unfold f_X12_college at hf
  obtain ⟨u9, hu9, hf⟩ := q_ob hf
  refine ⟨q_ofC (by decide) rfl ?_, g_C_sp hu9⟩
  intro p e s m args below meth c ls C hj har hl
  have hx := C.1
  have hb := C.2.1
  have C : q_C E p s m args meth c cX12_college RX12 3 (some .int) := C
  have hl : lv_has ls 3 [(0, .ref (q_ad E a0)), (1, .int a1)] := hl
  refine lv_aload_n hx hb dX12_college_0 rfl (lv_at hl 0 rfl) ?_
  refine lv_iconst (v := 0) hx hb dX12_college_1 qi_0 ?_
  refine q_putI C hj fp_X12_48 dX12_college_2 hf (fun g1 H locs hj hf => ?_)
  refine lv_iload_n hx hb dX12_college_5 rfl (lv_at hl 1 rfl) ?_
  refine q_iflt C (tgt := 17) dX12_college_6 (by decide) hf (fun hf => ?_) (fun hf => ?_)
  · refine lv_aload_n hx hb dX12_college_17 rfl (lv_at hl 0 rfl) ?_
    refine lv_iconst (v := 2) hx hb dX12_college_18 qi_2 ?_
    refine q_cVWI C hj cw_X12_54 (As := [.int 2]) (rest := []) hf (fun v9 g9 h9 => c_X12_refused l E h9) rfl hl rfl rfl rfl dX12_college_19 ⟨Nat.le_of_ble_eq_true rfl, Nat.le_of_ble_eq_true rfl⟩ (fun v3 g2 H locs hj hf => ?_)
    refine W.widen (k := 25) (n := 269) (Nat.zero_le _) (Nat.zero_le _) ?_
    exact q_iretC C hj dX12_college_22 hf
  · refine lv_iload_n hx hb dX12_college_9 rfl (lv_at hl 1 rfl) ?_
    refine lv_aload_n hx hb dX12_college_10 rfl (lv_at hl 0 rfl) ?_
    refine q_getI C hj lk_X12_362 dX12_college_11 hf (fun v4 hf => ?_)
    refine q_icle C (tgt := 23) dX12_college_14 (by decide) hf (fun hf => ?_) (fun hf => ?_)
    · refine lv_aload_n hx hb dX12_college_23 rfl (lv_at hl 0 rfl) ?_
      refine lv_iload_n hx hb dX12_college_24 rfl (lv_at hl 1 rfl) ?_
      refine q_putI C hj fp_X12_65 dX12_college_25 hf (fun g5 H locs hj hf => ?_)
      refine lv_aload_n hx hb dX12_college_28 rfl (lv_at hl 0 rfl) ?_
      refine lv_iconst (v := 0) hx hb dX12_college_29 qi_0 ?_
      refine q_putI C hj fp_X12_362 dX12_college_30 hf (fun g6 H locs hj hf => ?_)
      refine lv_aload_n hx hb dX12_college_33 rfl (lv_at hl 0 rfl) ?_
      refine lv_iconst (v := 0) hx hb dX12_college_34 qi_0 ?_
      refine q_putI C hj fp_X12_83 dX12_college_35 hf (fun g7 H locs hj hf => ?_)
      refine lv_aload_n hx hb dX12_college_38 rfl (lv_at hl 0 rfl) ?_
      refine lv_iconst (v := 0) hx hb dX12_college_39 qi_0 ?_
      refine q_putI C hj fp_X12_106 dX12_college_40 hf (fun g8 H locs hj hf => ?_)
      refine lv_aload_n hx hb dX12_college_43 rfl (lv_at hl 0 rfl) ?_
      refine q_sz (fun h0 => ?_)
      have hz : H.size = s.heap.size + 0 := Nat.le_antisymm h0 hj.2.1
      refine q_newO (k := 0) C hj hz har rfl nw_X12_167 rfl rfl dX12_college_44 hf (fun g9 H hj hz hf => ?_)
      refine lv_dup hx hb dX12_college_47 rfl ?_
      refine q_cIN (k := 1) (y := yX11_init) (b := cX11_init) (host := "SecondPaperModel") C hj hz har rfl (q_n6 (i := 150) rfl rfl) (q_g6 (i := 151) rfl rfl) (q_g1 (i := 17) rfl rfl) (q_g6 (i := 152) rfl rfl) ⟨by decide +kernel, by decide +kernel⟩ (by decide +kernel) rfl (As := []) (rest := [.ref (q_ad E n), .ref (q_ad E a0)]) hf (fun g9 h9 => c_X11_init l E h9) rfl hl rfl rfl rfl dX12_college_48 rfl rfl (fun g10 H locs hj hz hf => ?_)
      refine q_putR C hj fp_X12_162 dX12_college_51 hf (fun g11 H locs hj hf => ?_)
      refine lv_aload_n hx hb dX12_college_54 rfl (lv_at hl 0 rfl) ?_
      refine lv_iconst (v := 0) hx hb dX12_college_55 qi_0 ?_
      refine q_putI C hj fp_X12_80 dX12_college_56 hf (fun g12 H locs hj hf => ?_)
      refine lv_aload_n hx hb dX12_college_59 rfl (lv_at hl 0 rfl) ?_
      refine q_cVWV C hj cw_X12_116 (As := []) (rest := []) hf (fun g9 h9 => c_X12_goesOn l E h9) rfl hl rfl rfl rfl dX12_college_60 ⟨Nat.le_of_ble_eq_true rfl, Nat.le_of_ble_eq_true rfl⟩ (fun g13 H locs hj hf => ?_)
      refine lv_aload_n hx hb dX12_college_63 rfl (lv_at hl 0 rfl) ?_
      refine q_cVWV C hj cw_X12_366 (As := []) (rest := []) hf (fun g9 h9 => c_X12_readAll l E h9) rfl hl rfl rfl rfl dX12_college_64 ⟨Nat.le_of_ble_eq_true rfl, Nat.le_of_ble_eq_true rfl⟩ (fun g14 H locs hj hf => ?_)
      refine lv_aload_n hx hb dX12_college_67 rfl (lv_at hl 0 rfl) ?_
      refine q_getI C hj lk_X12_106 dX12_college_68 hf (fun v15 hf => ?_)
      refine q_ifle C (tgt := 89) dX12_college_71 (by decide) hf (fun hf => ?_) (fun hf => ?_)
      · refine lv_aload_n hx hb dX12_college_89 rfl (lv_at hl 0 rfl) ?_
        refine lv_aload_n hx hb dX12_college_90 rfl (lv_at hl 0 rfl) ?_
        refine q_getR C hj lk_X12_162 dX12_college_91 hf (fun v16 hf => ?_)
        refine q_putR C hj fp_X12_369 dX12_college_94 hf (fun g17 H locs hj hf => ?_)
        refine lv_iconst (v := 0) hx hb dX12_college_97 qi_0 ?_
        refine lv_istore_n (lv' := [(2, .int 0), (0, .ref (q_ad E a0)), (1, .int a1)]) hx hb dX12_college_98 rfl hl (by decide) rfl (fun ls hl => ?_)
        refine w_L_X12_college_99 C  hj (lv_sub hl [1, 0] rfl) hf
      · refine lv_aload_n hx hb dX12_college_74 rfl (lv_at hl 0 rfl) ?_
        refine lv_iconst (v := 4) hx hb dX12_college_75 qi_4 ?_
        refine q_putI C hj fp_X12_51 dX12_college_76 hf (fun g18 H locs hj hf => ?_)
        refine lv_aload_n hx hb dX12_college_79 rfl (lv_at hl 0 rfl) ?_
        refine lv_aload_n hx hb dX12_college_80 rfl (lv_at hl 0 rfl) ?_
        refine q_getI C hj lk_X12_109 dX12_college_81 hf (fun v19 hf => ?_)
        refine q_putI C hj fp_X12_9 dX12_college_84 hf (fun g20 H locs hj hf => ?_)
        refine lv_iconst (v := -1) hx hb dX12_college_87 qi_m1 ?_
        exact q_iretC C hj dX12_college_88 hf
    · refine lv_aload_n hx hb dX12_college_17 rfl (lv_at hl 0 rfl) ?_
      refine lv_iconst (v := 2) hx hb dX12_college_18 qi_2 ?_
      refine q_cVWI C hj cw_X12_54 (As := [.int 2]) (rest := []) hf (fun v9 g9 h9 => c_X12_refused l E h9) rfl hl rfl rfl rfl dX12_college_19 ⟨Nat.le_of_ble_eq_true rfl, Nat.le_of_ble_eq_true rfl⟩ (fun v22 g21 H locs hj hf => ?_)
      refine W.widen (k := 25) (n := 269) (Nat.zero_le _) (Nat.zero_le _) ?_
      exact q_iretC C hj dX12_college_22 hf
