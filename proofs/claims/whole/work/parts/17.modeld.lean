def f_X12_planned (g : qS) (a0 : Nat) (a1 : Int32) : Option (Int32 × qS) := (g_C g a0 11).bind fun _ => (p_I g a0 11 0 0).bind fun g1 => (g_Q g1 a0 11 3).bind fun o => if o = none then (q_b2 (f_X12_refused g1 a0 1) fun v3 g2 => some (v3, g2)) else (if a1 < 0 then (q_b2 (f_X12_refused g1 a0 1) fun v5 g4 => some (v5, g4)) else ((g_R g1 a0 11 3).bind fun v6 => (g_I g1 v6 10 7).bind fun v7 => if a1 < v7 then ((g_R g1 a0 11 3).bind fun v8 => (g_I g1 v8 10 0).bind fun v9 => (f_X12_plans g1 a0 (v9 - 1)).bind fun g10 => (g_R g10 a0 11 21).bind fun v11 => (a_I g10 v11 a1).bind fun v12 => q_b2 (f_X12_good g10 a0 v12) fun v14 g13 => some (v14, g13)) else (q_b2 (f_X12_refused g1 a0 1) fun v16 g15 => some (v16, g15))))
set_option maxHeartbeats 4000000 in
set_option maxRecDepth 100000 in
theorem c_X12_planned (l : Launch) (E : qV) {g : qS} {a0 : Nat} {a1 : Int32} {res : (Int32 × qS)} (hf : f_X12_planned g a0 a1 = some res) : q_MW l yX12_planned cX12_planned 2 (some .int) 5 118 E [.ref (q_ad E a0), .int a1] g (some (.int res.1)) res.2 ∧ ∃ fs, g a0 = some (.inr (11, fs)) := by
  unfold f_X12_planned at hf
  obtain ⟨u9, hu9, hf⟩ := q_ob hf
  refine ⟨q_ofW (by decide) rfl ?_, g_C_sp hu9⟩
  intro p e s m args below meth c ls C hj hl
  have hx := C.1
  have hb := C.2.1
  have C : q_C E p s m args meth c cX12_planned RX12 2 (some .int) := C
  have hl : lv_has ls 2 [(0, .ref (q_ad E a0)), (1, .int a1)] := hl
  refine lv_aload_n hx hb dX12_planned_0 rfl (lv_at hl 0 rfl) ?_
  refine lv_iconst (v := 0) hx hb dX12_planned_1 qi_0 ?_
  refine q_putI C hj fp_X12_48 dX12_planned_2 hf (fun g1 H locs hj hf => ?_)
  refine lv_aload_n hx hb dX12_planned_5 rfl (lv_at hl 0 rfl) ?_
  refine q_gnull C hj lk_X12_369 dX12_planned_6 (tgt := 27) dX12_planned_9 (by decide) hf (fun hf => ?_) (fun hf => ?_)
  · refine lv_aload_n hx hb dX12_planned_27 rfl (lv_at hl 0 rfl) ?_
    refine lv_iconst (v := 1) hx hb dX12_planned_28 qi_1 ?_
    refine q_cVWI C hj cw_X12_54 (As := [.int 1]) (rest := []) hf (fun v9 g9 h9 => c_X12_refused l E h9) rfl hl rfl rfl rfl dX12_planned_29 ⟨Nat.zero_le _, Nat.zero_le _⟩ (fun v3 g2 H locs hj hf => ?_)
    exact q_iretW C hj dX12_planned_32 hf
  · refine lv_iload_n hx hb dX12_planned_12 rfl (lv_at hl 1 rfl) ?_
    refine q_iflt C (tgt := 27) dX12_planned_13 (by decide) hf (fun hf => ?_) (fun hf => ?_)
    · refine lv_aload_n hx hb dX12_planned_27 rfl (lv_at hl 0 rfl) ?_
      refine lv_iconst (v := 1) hx hb dX12_planned_28 qi_1 ?_
      refine q_cVWI C hj cw_X12_54 (As := [.int 1]) (rest := []) hf (fun v9 g9 h9 => c_X12_refused l E h9) rfl hl rfl rfl rfl dX12_planned_29 ⟨Nat.zero_le _, Nat.zero_le _⟩ (fun v5 g4 H locs hj hf => ?_)
      exact q_iretW C hj dX12_planned_32 hf
    · refine lv_iload_n hx hb dX12_planned_16 rfl (lv_at hl 1 rfl) ?_
      refine lv_aload_n hx hb dX12_planned_17 rfl (lv_at hl 0 rfl) ?_
      refine q_getR C hj lk_X12_369 dX12_planned_18 hf (fun v6 hf => ?_)
      refine q_getI C hj lk_X12_318 dX12_planned_21 hf (fun v7 hf => ?_)
      refine q_iclt C (tgt := 33) dX12_planned_24 (by decide) hf (fun hf => ?_) (fun hf => ?_)
      · refine lv_aload_n hx hb dX12_planned_33 rfl (lv_at hl 0 rfl) ?_
        refine lv_aload_n hx hb dX12_planned_34 rfl (lv_at hl 0 rfl) ?_
        refine q_getR C hj lk_X12_369 dX12_planned_35 hf (fun v8 hf => ?_)
        refine q_getI C hj lk_X12_166 dX12_planned_38 hf (fun v9 hf => ?_)
        refine lv_iconst (v := 1) hx hb dX12_planned_41 qi_1 ?_
        refine lv_isub hx hb dX12_planned_42 ?_
        refine q_cVWV C hj cw_X12_443 (As := [.int (v9 - 1)]) (rest := []) hf (fun g9 h9 => c_X12_plans l E h9) rfl hl rfl rfl rfl dX12_planned_43 ⟨Nat.zero_le _, Nat.zero_le _⟩ (fun g10 H locs hj hf => ?_)
        refine lv_aload_n hx hb dX12_planned_46 rfl (lv_at hl 0 rfl) ?_
        refine lv_aload_n hx hb dX12_planned_47 rfl (lv_at hl 0 rfl) ?_
        refine q_getR C hj lk_X12_30 dX12_planned_48 hf (fun v11 hf => ?_)
        refine lv_iload_n hx hb dX12_planned_51 rfl (lv_at hl 1 rfl) ?_
        refine q_aldI C hj dX12_planned_52 hf (fun v12 hf => ?_)
        refine q_cVWI C hj cw_X12_58 (As := [.int v12]) (rest := []) hf (fun v9 g9 h9 => c_X12_good l E h9) rfl hl rfl rfl rfl dX12_planned_53 ⟨Nat.zero_le _, Nat.zero_le _⟩ (fun v14 g13 H locs hj hf => ?_)
        exact q_iretW C hj dX12_planned_56 hf
      · refine lv_aload_n hx hb dX12_planned_27 rfl (lv_at hl 0 rfl) ?_
        refine lv_iconst (v := 1) hx hb dX12_planned_28 qi_1 ?_
        refine q_cVWI C hj cw_X12_54 (As := [.int 1]) (rest := []) hf (fun v9 g9 h9 => c_X12_refused l E h9) rfl hl rfl rfl rfl dX12_planned_29 ⟨Nat.zero_le _, Nat.zero_le _⟩ (fun v16 g15 H locs hj hf => ?_)
        exact q_iretW C hj dX12_planned_32 hf
def f_X12_planHas (g : qS) (a0 : Nat) (a1 : Int32) (a2 : Int32) : Option (Int32 × qS) := (g_C g a0 11).bind fun _ => (p_I g a0 11 0 0).bind fun g1 => (f_X12_isPerson g1 a0 a1).bind fun v2 => (f_X12_refusesDay g1 a0 v2 a2).bind fun v3 => if v3 ≤ 0 then ((f_X12_plans g1 a0 a2).bind fun g4 => (g_R g4 a0 11 16).bind fun v5 => (f_X12_setOf g4 a0 v5 a1).bind fun v6 => q_b2 (f_X12_good g4 a0 v6) fun v8 g7 => some (v8, g7)) else (q_b2 (f_X12_refused g1 a0 v3) fun v10 g9 => some (v10, g9))
set_option maxHeartbeats 4000000 in
set_option maxRecDepth 100000 in
theorem c_X12_planHas (l : Launch) (E : qV) {g : qS} {a0 : Nat} {a1 : Int32} {a2 : Int32} {res : (Int32 × qS)} (hf : f_X12_planHas g a0 a1 a2 = some res) : q_MW l yX12_planHas cX12_planHas 4 (some .int) 5 118 E [.ref (q_ad E a0), .int a1, .int a2] g (some (.int res.1)) res.2 ∧ ∃ fs, g a0 = some (.inr (11, fs)) := by
  unfold f_X12_planHas at hf
  obtain ⟨u9, hu9, hf⟩ := q_ob hf
  refine ⟨q_ofW (by decide) rfl ?_, g_C_sp hu9⟩
  intro p e s m args below meth c ls C hj hl
  have hx := C.1
  have hb := C.2.1
  have C : q_C E p s m args meth c cX12_planHas RX12 4 (some .int) := C
  have hl : lv_has ls 4 [(0, .ref (q_ad E a0)), (1, .int a1), (2, .int a2)] := hl
  refine lv_aload_n hx hb dX12_planHas_0 rfl (lv_at hl 0 rfl) ?_
  refine lv_iconst (v := 0) hx hb dX12_planHas_1 qi_0 ?_
  refine q_putI C hj fp_X12_48 dX12_planHas_2 hf (fun g1 H locs hj hf => ?_)
  refine lv_aload_n hx hb dX12_planHas_5 rfl (lv_at hl 0 rfl) ?_
  refine lv_aload_n hx hb dX12_planHas_6 rfl (lv_at hl 0 rfl) ?_
  refine lv_iload_n hx hb dX12_planHas_7 rfl (lv_at hl 1 rfl) ?_
  refine q_cVRI C hj cw_X12_408 (As := [.int a1]) (rest := [.ref (q_ad E a0)]) hf (fun v9 h9 => c_X12_isPerson l E h9) rfl hl rfl rfl rfl dX12_planHas_8 ⟨Nat.zero_le _, Nat.zero_le _⟩ (fun v2 hf => ?_)
  refine lv_iload_n hx hb dX12_planHas_11 rfl (lv_at hl 2 rfl) ?_
  refine q_cVRI C hj cw_X12_417 (As := [.int v2, .int a2]) (rest := []) hf (fun v9 h9 => c_X12_refusesDay l E h9) rfl hl rfl rfl rfl dX12_planHas_12 ⟨Nat.zero_le _, Nat.zero_le _⟩ (fun v3 hf => ?_)
  refine lv_istore_n (lv' := [(3, .int v3), (0, .ref (q_ad E a0)), (1, .int a1), (2, .int a2)]) hx hb dX12_planHas_15 rfl hl (by decide) rfl (fun ls hl => ?_)
  refine lv_iload_n hx hb dX12_planHas_16 rfl (lv_at hl 0 rfl) ?_
  refine q_ifle C (tgt := 26) dX12_planHas_17 (by decide) hf (fun hf => ?_) (fun hf => ?_)
  · refine lv_aload_n hx hb dX12_planHas_26 rfl (lv_at hl 1 rfl) ?_
    refine lv_iload_n hx hb dX12_planHas_27 rfl (lv_at hl 3 rfl) ?_
    refine q_cVWV C hj cw_X12_443 (As := [.int a2]) (rest := []) hf (fun g9 h9 => c_X12_plans l E h9) rfl hl rfl rfl rfl dX12_planHas_28 ⟨Nat.zero_le _, Nat.zero_le _⟩ (fun g4 H locs hj hf => ?_)
    refine lv_aload_n hx hb dX12_planHas_31 rfl (lv_at hl 1 rfl) ?_
    refine lv_aload_n hx hb dX12_planHas_32 rfl (lv_at hl 1 rfl) ?_
    refine lv_aload_n hx hb dX12_planHas_33 rfl (lv_at hl 1 rfl) ?_
    refine q_getR C hj lk_X12_21 dX12_planHas_34 hf (fun v5 hf => ?_)
    refine lv_iload_n hx hb dX12_planHas_37 rfl (lv_at hl 2 rfl) ?_
    refine q_cVRI C hj cw_X12_411 (As := [.ref (q_ad E v5), .int a1]) (rest := [.ref (q_ad E a0)]) hf (fun v9 h9 => c_X12_setOf l E h9) rfl hl rfl rfl rfl dX12_planHas_38 ⟨Nat.zero_le _, Nat.zero_le _⟩ (fun v6 hf => ?_)
    refine q_cVWI C hj cw_X12_58 (As := [.int v6]) (rest := []) hf (fun v9 g9 h9 => c_X12_good l E h9) rfl hl rfl rfl rfl dX12_planHas_41 ⟨Nat.zero_le _, Nat.zero_le _⟩ (fun v8 g7 H locs hj hf => ?_)
    exact q_iretW C hj dX12_planHas_44 hf
  · refine lv_aload_n hx hb dX12_planHas_20 rfl (lv_at hl 1 rfl) ?_
    refine lv_iload_n hx hb dX12_planHas_21 rfl (lv_at hl 0 rfl) ?_
    refine q_cVWI C hj cw_X12_54 (As := [.int v3]) (rest := []) hf (fun v9 g9 h9 => c_X12_refused l E h9) rfl hl rfl rfl rfl dX12_planHas_22 ⟨Nat.zero_le _, Nat.zero_le _⟩ (fun v10 g9 H locs hj hf => ?_)
    exact q_iretW C hj dX12_planHas_25 hf
def f_X12_planScore (g : qS) (a0 : Nat) (a1 : Int32) (a2 : Int32) : Option (Int32 × qS) := (g_C g a0 11).bind fun _ => (p_I g a0 11 0 0).bind fun g1 => (f_X12_isGiver g1 a0 a1).bind fun v2 => (f_X12_refusesDay g1 a0 v2 a2).bind fun v3 => if v3 ≤ 0 then ((f_X12_plans g1 a0 a2).bind fun g4 => (g_R g4 a0 11 16).bind fun v5 => (a_I g4 v5 (9 + a1)).bind fun v6 => q_b2 (f_X12_good g4 a0 v6) fun v8 g7 => some (v8, g7)) else (q_b2 (f_X12_refused g1 a0 v3) fun v10 g9 => some (v10, g9))
set_option maxHeartbeats 4000000 in
set_option maxRecDepth 100000 in
theorem c_X12_planScore (l : Launch) (E : qV) {g : qS} {a0 : Nat} {a1 : Int32} {a2 : Int32} {res : (Int32 × qS)} (hf : f_X12_planScore g a0 a1 a2 = some res) : q_MW l yX12_planScore cX12_planScore 4 (some .int) 5 118 E [.ref (q_ad E a0), .int a1, .int a2] g (some (.int res.1)) res.2 ∧ ∃ fs, g a0 = some (.inr (11, fs)) := by
  unfold f_X12_planScore at hf
  obtain ⟨u9, hu9, hf⟩ := q_ob hf
  refine ⟨q_ofW (by decide) rfl ?_, g_C_sp hu9⟩
  intro p e s m args below meth c ls C hj hl
  have hx := C.1
  have hb := C.2.1
  have C : q_C E p s m args meth c cX12_planScore RX12 4 (some .int) := C
  have hl : lv_has ls 4 [(0, .ref (q_ad E a0)), (1, .int a1), (2, .int a2)] := hl
  refine lv_aload_n hx hb dX12_planScore_0 rfl (lv_at hl 0 rfl) ?_
  refine lv_iconst (v := 0) hx hb dX12_planScore_1 qi_0 ?_
  refine q_putI C hj fp_X12_48 dX12_planScore_2 hf (fun g1 H locs hj hf => ?_)
  refine lv_aload_n hx hb dX12_planScore_5 rfl (lv_at hl 0 rfl) ?_
  refine lv_aload_n hx hb dX12_planScore_6 rfl (lv_at hl 0 rfl) ?_
  refine lv_iload_n hx hb dX12_planScore_7 rfl (lv_at hl 1 rfl) ?_
  refine q_cVRI C hj cw_X12_414 (As := [.int a1]) (rest := [.ref (q_ad E a0)]) hf (fun v9 h9 => c_X12_isGiver l E h9) rfl hl rfl rfl rfl dX12_planScore_8 ⟨Nat.zero_le _, Nat.zero_le _⟩ (fun v2 hf => ?_)
  refine lv_iload_n hx hb dX12_planScore_11 rfl (lv_at hl 2 rfl) ?_
  refine q_cVRI C hj cw_X12_417 (As := [.int v2, .int a2]) (rest := []) hf (fun v9 h9 => c_X12_refusesDay l E h9) rfl hl rfl rfl rfl dX12_planScore_12 ⟨Nat.zero_le _, Nat.zero_le _⟩ (fun v3 hf => ?_)
  refine lv_istore_n (lv' := [(3, .int v3), (0, .ref (q_ad E a0)), (1, .int a1), (2, .int a2)]) hx hb dX12_planScore_15 rfl hl (by decide) rfl (fun ls hl => ?_)
  refine lv_iload_n hx hb dX12_planScore_16 rfl (lv_at hl 0 rfl) ?_
  refine q_ifle C (tgt := 26) dX12_planScore_17 (by decide) hf (fun hf => ?_) (fun hf => ?_)
  · refine lv_aload_n hx hb dX12_planScore_26 rfl (lv_at hl 1 rfl) ?_
    refine lv_iload_n hx hb dX12_planScore_27 rfl (lv_at hl 3 rfl) ?_
    refine q_cVWV C hj cw_X12_443 (As := [.int a2]) (rest := []) hf (fun g9 h9 => c_X12_plans l E h9) rfl hl rfl rfl rfl dX12_planScore_28 ⟨Nat.zero_le _, Nat.zero_le _⟩ (fun g4 H locs hj hf => ?_)
    refine lv_aload_n hx hb dX12_planScore_31 rfl (lv_at hl 1 rfl) ?_
    refine lv_aload_n hx hb dX12_planScore_32 rfl (lv_at hl 1 rfl) ?_
    refine q_getR C hj lk_X12_21 dX12_planScore_33 hf (fun v5 hf => ?_)
    refine lv_bipush (v := 9) hx hb dX12_planScore_36 (by decide) ?_
    refine lv_iload_n hx hb dX12_planScore_38 rfl (lv_at hl 2 rfl) ?_
    refine lv_iadd hx hb dX12_planScore_39 ?_
    refine q_aldI C hj dX12_planScore_40 hf (fun v6 hf => ?_)
    refine q_cVWI C hj cw_X12_58 (As := [.int v6]) (rest := []) hf (fun v9 g9 h9 => c_X12_good l E h9) rfl hl rfl rfl rfl dX12_planScore_41 ⟨Nat.zero_le _, Nat.zero_le _⟩ (fun v8 g7 H locs hj hf => ?_)
    exact q_iretW C hj dX12_planScore_44 hf
  · refine lv_aload_n hx hb dX12_planScore_20 rfl (lv_at hl 1 rfl) ?_
    refine lv_iload_n hx hb dX12_planScore_21 rfl (lv_at hl 0 rfl) ?_
    refine q_cVWI C hj cw_X12_54 (As := [.int v3]) (rest := []) hf (fun v9 g9 h9 => c_X12_refused l E h9) rfl hl rfl rfl rfl dX12_planScore_22 ⟨Nat.zero_le _, Nat.zero_le _⟩ (fun v10 g9 H locs hj hf => ?_)
    exact q_iretW C hj dX12_planScore_25 hf
def L_X12_first_35  : Nat → Nat → Int32 → Int32 → qS → Option (Int32 × qS)
  | 0, _, _, _, _ => none
  | n + 1, x0, x1, x2, g => (g_R g x0 11 3).bind fun v1 => (g_I g v1 10 5).bind fun v2 => if v2 ≤ x2 then (q_b2 (f_X12_good g x0 x1) fun v4 g3 => some (v4, g3)) else ((g_R g x0 11 16).bind fun v5 => (a_I g v5 (9 + x2)).bind fun v6 => (g_R g x0 11 16).bind fun v7 => (a_I g v7 (9 + x1)).bind fun v8 => if v6 ≤ v8 then (L_X12_first_35 n x0 x1 (x2 + 1) g) else (L_X12_first_35 n x0 x2 (x2 + 1) g))
set_option maxHeartbeats 4000000 in
set_option maxRecDepth 100000 in
theorem w_L_X12_first_35 {l : Launch} {E : qV} {p : Program} {e : Env} {s : State} {m : MethodId} {args : Array Value} {below : List Frame} {meth : Method} {c : Code}  {res : (Int32 × qS)} (C : q_C E p s m args meth c cX12_first RX12 3 (some .int))  : ∀ {n : Nat} {x0 : Nat} {x1 : Int32} {x2 : Int32} {g : qS} {H : Heap} {locs : List Loc} {ls : Array Slot}, q_J E s g H locs → lv_has ls 3 [(0, .ref (q_ad E x0)), (1, .int x1), (2, .int x2)] → L_X12_first_35 n x0 x1 x2 g = some res → W p l e (q_rm 5 118) s m args below meth c H locs 0 0 (q_ZW E below (some (.int res.1)) res.2 args s) (F0 m 35 ls []) := by
  have hx := C.1
  have hb := C.2.1
  intro n
  induction n with
  | zero =>
    intro x0 x1 x2 g H locs ls hj hl hf
    cases hf
  | succ n ih_ =>
    intro x0 x1 x2 g H locs ls hj hl hf
    have ih : ∀ (x0 : Nat) (x1 : Int32) (x2 : Int32) (g : qS) (H : Heap) (locs : List Loc) (ls : Array Slot), q_J E s g H locs → lv_has ls 3 [(0, .ref (q_ad E x0)), (1, .int x1), (2, .int x2)] → L_X12_first_35 n x0 x1 x2 g = some res → W p l e (q_rm 5 118) s m args below meth c H locs 0 0 (q_ZW E below (some (.int res.1)) res.2 args s) (F0 m 35 ls []) := fun x0 x1 x2 g H locs ls hj hl hf => ih_ hj hl hf
    unfold L_X12_first_35 at hf
    refine lv_iload_n hx hb dX12_first_35 rfl (lv_at hl 2 rfl) ?_
    refine lv_aload_n hx hb dX12_first_36 rfl (lv_at hl 0 rfl) ?_
    refine q_getR C hj lk_X12_369 dX12_first_37 hf (fun v1 hf => ?_)
    refine q_getI C hj lk_X12_207 dX12_first_40 hf (fun v2 hf => ?_)
    refine q_icge C (tgt := 75) dX12_first_43 (by decide) hf (fun hf => ?_) (fun hf => ?_)
    · refine lv_aload_n hx hb dX12_first_75 rfl (lv_at hl 0 rfl) ?_
      refine lv_iload_n hx hb dX12_first_76 rfl (lv_at hl 1 rfl) ?_
      refine q_cVWI C hj cw_X12_58 (As := [.int x1]) (rest := []) hf (fun v9 g9 h9 => c_X12_good l E h9) rfl hl rfl rfl rfl dX12_first_77 ⟨Nat.zero_le _, Nat.zero_le _⟩ (fun v4 g3 H locs hj hf => ?_)
      exact q_iretW C hj dX12_first_80 hf
    · refine lv_aload_n hx hb dX12_first_46 rfl (lv_at hl 0 rfl) ?_
      refine q_getR C hj lk_X12_21 dX12_first_47 hf (fun v5 hf => ?_)
      refine lv_bipush (v := 9) hx hb dX12_first_50 (by decide) ?_
      refine lv_iload_n hx hb dX12_first_52 rfl (lv_at hl 2 rfl) ?_
      refine lv_iadd hx hb dX12_first_53 ?_
      refine q_aldI C hj dX12_first_54 hf (fun v6 hf => ?_)
      refine lv_aload_n hx hb dX12_first_55 rfl (lv_at hl 0 rfl) ?_
      refine q_getR C hj lk_X12_21 dX12_first_56 hf (fun v7 hf => ?_)
      refine lv_bipush (v := 9) hx hb dX12_first_59 (by decide) ?_
      refine lv_iload_n hx hb dX12_first_61 rfl (lv_at hl 1 rfl) ?_
      refine lv_iadd hx hb dX12_first_62 ?_
      refine q_aldI C hj dX12_first_63 hf (fun v8 hf => ?_)
      refine q_icle C (tgt := 69) dX12_first_64 (by decide) hf (fun hf => ?_) (fun hf => ?_)
      · refine lv_iinc (v := x2 + 1) (lv' := [(2, .int (x2 + 1)), (0, .ref (q_ad E x0)), (1, .int x1)]) hx hb dX12_first_69 hl (k := 2) rfl (by rw [qi_1]) (by decide) rfl (fun ls hl => ?_)
        refine lv_goto (tgt := 35) hx hb dX12_first_72 (by decide) ?_
        exact ih _ _ _ _ _ _ ls hj (lv_sub hl [1, 2, 0] rfl) hf
      · refine lv_iload_n hx hb dX12_first_67 rfl (lv_at hl 2 rfl) ?_
        refine lv_istore_n (lv' := [(1, .int x2), (0, .ref (q_ad E x0)), (2, .int x2)]) hx hb dX12_first_68 rfl hl (by decide) rfl (fun ls hl => ?_)
        refine lv_iinc (v := x2 + 1) (lv' := [(2, .int (x2 + 1)), (1, .int x2), (0, .ref (q_ad E x0))]) hx hb dX12_first_69 hl (k := 2) rfl (by rw [qi_1]) (by decide) rfl (fun ls hl => ?_)
        refine lv_goto (tgt := 35) hx hb dX12_first_72 (by decide) ?_
        exact ih _ _ _ _ _ _ ls hj (lv_sub hl [2, 1, 0] rfl) hf
def f_X12_first (g : qS) (a0 : Nat) : Option (Int32 × qS) := (g_C g a0 11).bind fun _ => (p_I g a0 11 0 0).bind fun g1 => (g_Q g1 a0 11 3).bind fun o => if o = none then (q_b2 (f_X12_refused g1 a0 1) fun v6 g5 => some (v6, g5)) else ((g_R g1 a0 11 3).bind fun v2 => (g_I g1 v2 10 0).bind fun v3 => (f_X12_plans g1 a0 (v3 - 1)).bind fun g4 => L_X12_first_35 1000000000 a0 0 1 g4)
set_option maxHeartbeats 4000000 in
set_option maxRecDepth 100000 in
theorem c_X12_first (l : Launch) (E : qV) {g : qS} {a0 : Nat} {res : (Int32 × qS)} (hf : f_X12_first g a0 = some res) : q_MW l yX12_first cX12_first 3 (some .int) 5 118 E [.ref (q_ad E a0)] g (some (.int res.1)) res.2 ∧ ∃ fs, g a0 = some (.inr (11, fs)) := by
  unfold f_X12_first at hf
  obtain ⟨u9, hu9, hf⟩ := q_ob hf
  refine ⟨q_ofW (by decide) rfl ?_, g_C_sp hu9⟩
  intro p e s m args below meth c ls C hj hl
  have hx := C.1
  have hb := C.2.1
  have C : q_C E p s m args meth c cX12_first RX12 3 (some .int) := C
  have hl : lv_has ls 3 [(0, .ref (q_ad E a0))] := hl
  refine lv_aload_n hx hb dX12_first_0 rfl (lv_at hl 0 rfl) ?_
  refine lv_iconst (v := 0) hx hb dX12_first_1 qi_0 ?_
  refine q_putI C hj fp_X12_48 dX12_first_2 hf (fun g1 H locs hj hf => ?_)
  refine lv_aload_n hx hb dX12_first_5 rfl (lv_at hl 0 rfl) ?_
  refine q_gnnull C hj lk_X12_369 dX12_first_6 (tgt := 18) dX12_first_9 (by decide) hf (fun hf => ?_) (fun hf => ?_)
  · refine lv_aload_n hx hb dX12_first_18 rfl (lv_at hl 0 rfl) ?_
    refine lv_aload_n hx hb dX12_first_19 rfl (lv_at hl 0 rfl) ?_
    refine q_getR C hj lk_X12_369 dX12_first_20 hf (fun v2 hf => ?_)
    refine q_getI C hj lk_X12_166 dX12_first_23 hf (fun v3 hf => ?_)
    refine lv_iconst (v := 1) hx hb dX12_first_26 qi_1 ?_
    refine lv_isub hx hb dX12_first_27 ?_
    refine q_cVWV C hj cw_X12_443 (As := [.int (v3 - 1)]) (rest := []) hf (fun g9 h9 => c_X12_plans l E h9) rfl hl rfl rfl rfl dX12_first_28 ⟨Nat.zero_le _, Nat.zero_le _⟩ (fun g4 H locs hj hf => ?_)
    refine lv_iconst (v := 0) hx hb dX12_first_31 qi_0 ?_
    refine lv_istore_n (lv' := [(1, .int 0), (0, .ref (q_ad E a0))]) hx hb dX12_first_32 rfl hl (by decide) rfl (fun ls hl => ?_)
    refine lv_iconst (v := 1) hx hb dX12_first_33 qi_1 ?_
    refine lv_istore_n (lv' := [(2, .int 1), (1, .int 0), (0, .ref (q_ad E a0))]) hx hb dX12_first_34 rfl hl (by decide) rfl (fun ls hl => ?_)
    refine w_L_X12_first_35 C  hj (lv_sub hl [2, 1, 0] rfl) hf
  · refine lv_aload_n hx hb dX12_first_12 rfl (lv_at hl 0 rfl) ?_
    refine lv_iconst (v := 1) hx hb dX12_first_13 qi_1 ?_
    refine q_cVWI C hj cw_X12_54 (As := [.int 1]) (rest := []) hf (fun v9 g9 h9 => c_X12_refused l E h9) rfl hl rfl rfl rfl dX12_first_14 ⟨Nat.zero_le _, Nat.zero_le _⟩ (fun v6 g5 H locs hj hf => ?_)
    exact q_iretW C hj dX12_first_17 hf
def L_X12_judge_33  : Nat → Nat → Int32 → qS → Option (Int32 × qS)
  | 0, _, _, _ => none
  | n + 1, x0, x1, g => (g_R g x0 11 3).bind fun v1 => (g_I g v1 10 7).bind fun v2 => if v2 ≤ x1 then (q_b2 (f_X12_good g x0 (-2)) fun v4 g3 => some (v4, g3)) else ((g_R g x0 11 21).bind fun v5 => (a_I g v5 x1).bind fun v6 => if v6 ≤ 1 then (L_X12_judge_33 n x0 (x1 + 1) g) else (q_b2 (f_X12_good g x0 x1) fun v8 g7 => some (v8, g7)))
set_option maxHeartbeats 4000000 in
set_option maxRecDepth 100000 in
theorem w_L_X12_judge_33 {l : Launch} {E : qV} {p : Program} {e : Env} {s : State} {m : MethodId} {args : Array Value} {below : List Frame} {meth : Method} {c : Code}  {res : (Int32 × qS)} (C : q_C E p s m args meth c cX12_judge RX12 2 (some .int))  : ∀ {n : Nat} {x0 : Nat} {x1 : Int32} {g : qS} {H : Heap} {locs : List Loc} {ls : Array Slot}, q_J E s g H locs → lv_has ls 2 [(0, .ref (q_ad E x0)), (1, .int x1)] → L_X12_judge_33 n x0 x1 g = some res → W p l e (q_rm 5 118) s m args below meth c H locs 0 0 (q_ZW E below (some (.int res.1)) res.2 args s) (F0 m 33 ls []) := by
  have hx := C.1
  have hb := C.2.1
  intro n
  induction n with
  | zero =>
    intro x0 x1 g H locs ls hj hl hf
    cases hf
  | succ n ih_ =>
    intro x0 x1 g H locs ls hj hl hf
    have ih : ∀ (x0 : Nat) (x1 : Int32) (g : qS) (H : Heap) (locs : List Loc) (ls : Array Slot), q_J E s g H locs → lv_has ls 2 [(0, .ref (q_ad E x0)), (1, .int x1)] → L_X12_judge_33 n x0 x1 g = some res → W p l e (q_rm 5 118) s m args below meth c H locs 0 0 (q_ZW E below (some (.int res.1)) res.2 args s) (F0 m 33 ls []) := fun x0 x1 g H locs ls hj hl hf => ih_ hj hl hf
    unfold L_X12_judge_33 at hf
    refine lv_iload_n hx hb dX12_judge_33 rfl (lv_at hl 1 rfl) ?_
    refine lv_aload_n hx hb dX12_judge_34 rfl (lv_at hl 0 rfl) ?_
    refine q_getR C hj lk_X12_369 dX12_judge_35 hf (fun v1 hf => ?_)
    refine q_getI C hj lk_X12_318 dX12_judge_38 hf (fun v2 hf => ?_)
    refine q_icge C (tgt := 66) dX12_judge_41 (by decide) hf (fun hf => ?_) (fun hf => ?_)
    · refine lv_aload_n hx hb dX12_judge_66 rfl (lv_at hl 0 rfl) ?_
      refine lv_bipush (v := -2) hx hb dX12_judge_67 (by decide) ?_
      refine q_cVWI C hj cw_X12_58 (As := [.int (-2)]) (rest := []) hf (fun v9 g9 h9 => c_X12_good l E h9) rfl hl rfl rfl rfl dX12_judge_69 ⟨Nat.zero_le _, Nat.zero_le _⟩ (fun v4 g3 H locs hj hf => ?_)
      exact q_iretW C hj dX12_judge_72 hf
    · refine lv_aload_n hx hb dX12_judge_44 rfl (lv_at hl 0 rfl) ?_
      refine q_getR C hj lk_X12_30 dX12_judge_45 hf (fun v5 hf => ?_)
      refine lv_iload_n hx hb dX12_judge_48 rfl (lv_at hl 1 rfl) ?_
      refine q_aldI C hj dX12_judge_49 hf (fun v6 hf => ?_)
      refine lv_iconst (v := 1) hx hb dX12_judge_50 qi_1 ?_
      refine q_icle C (tgt := 60) dX12_judge_51 (by decide) hf (fun hf => ?_) (fun hf => ?_)
      · refine lv_iinc (v := x1 + 1) (lv' := [(1, .int (x1 + 1)), (0, .ref (q_ad E x0))]) hx hb dX12_judge_60 hl (k := 1) rfl (by rw [qi_1]) (by decide) rfl (fun ls hl => ?_)
        refine lv_goto (tgt := 33) hx hb dX12_judge_63 (by decide) ?_
        exact ih _ _ _ _ _ ls hj (lv_sub hl [1, 0] rfl) hf
      · refine lv_aload_n hx hb dX12_judge_54 rfl (lv_at hl 0 rfl) ?_
        refine lv_iload_n hx hb dX12_judge_55 rfl (lv_at hl 1 rfl) ?_
        refine q_cVWI C hj cw_X12_58 (As := [.int x1]) (rest := []) hf (fun v9 g9 h9 => c_X12_good l E h9) rfl hl rfl rfl rfl dX12_judge_56 ⟨Nat.zero_le _, Nat.zero_le _⟩ (fun v8 g7 H locs hj hf => ?_)
        exact q_iretW C hj dX12_judge_59 hf
def f_X12_judge (g : qS) (a0 : Nat) : Option (Int32 × qS) := (g_C g a0 11).bind fun _ => (p_I g a0 11 0 0).bind fun g1 => (g_Q g1 a0 11 3).bind fun o => if o = none then (q_b2 (f_X12_refused g1 a0 1) fun v6 g5 => some (v6, g5)) else ((g_R g1 a0 11 3).bind fun v2 => (g_I g1 v2 10 0).bind fun v3 => (f_X12_plans g1 a0 (v3 - 1)).bind fun g4 => L_X12_judge_33 1000000000 a0 0 g4)
set_option maxHeartbeats 4000000 in
set_option maxRecDepth 100000 in
theorem c_X12_judge (l : Launch) (E : qV) {g : qS} {a0 : Nat} {res : (Int32 × qS)} (hf : f_X12_judge g a0 = some res) : q_MW l yX12_judge cX12_judge 2 (some .int) 5 118 E [.ref (q_ad E a0)] g (some (.int res.1)) res.2 ∧ ∃ fs, g a0 = some (.inr (11, fs)) := by
  unfold f_X12_judge at hf
  obtain ⟨u9, hu9, hf⟩ := q_ob hf
  refine ⟨q_ofW (by decide) rfl ?_, g_C_sp hu9⟩
  intro p e s m args below meth c ls C hj hl
  have hx := C.1
  have hb := C.2.1
  have C : q_C E p s m args meth c cX12_judge RX12 2 (some .int) := C
  have hl : lv_has ls 2 [(0, .ref (q_ad E a0))] := hl
  refine lv_aload_n hx hb dX12_judge_0 rfl (lv_at hl 0 rfl) ?_
  refine lv_iconst (v := 0) hx hb dX12_judge_1 qi_0 ?_
  refine q_putI C hj fp_X12_48 dX12_judge_2 hf (fun g1 H locs hj hf => ?_)
  refine lv_aload_n hx hb dX12_judge_5 rfl (lv_at hl 0 rfl) ?_
  refine q_gnnull C hj lk_X12_369 dX12_judge_6 (tgt := 18) dX12_judge_9 (by decide) hf (fun hf => ?_) (fun hf => ?_)
  · refine lv_aload_n hx hb dX12_judge_18 rfl (lv_at hl 0 rfl) ?_
    refine lv_aload_n hx hb dX12_judge_19 rfl (lv_at hl 0 rfl) ?_
    refine q_getR C hj lk_X12_369 dX12_judge_20 hf (fun v2 hf => ?_)
    refine q_getI C hj lk_X12_166 dX12_judge_23 hf (fun v3 hf => ?_)
    refine lv_iconst (v := 1) hx hb dX12_judge_26 qi_1 ?_
    refine lv_isub hx hb dX12_judge_27 ?_
    refine q_cVWV C hj cw_X12_443 (As := [.int (v3 - 1)]) (rest := []) hf (fun g9 h9 => c_X12_plans l E h9) rfl hl rfl rfl rfl dX12_judge_28 ⟨Nat.zero_le _, Nat.zero_le _⟩ (fun g4 H locs hj hf => ?_)
    refine lv_iconst (v := 0) hx hb dX12_judge_31 qi_0 ?_
    refine lv_istore_n (lv' := [(1, .int 0), (0, .ref (q_ad E a0))]) hx hb dX12_judge_32 rfl hl (by decide) rfl (fun ls hl => ?_)
    refine w_L_X12_judge_33 C  hj (lv_sub hl [1, 0] rfl) hf
  · refine lv_aload_n hx hb dX12_judge_12 rfl (lv_at hl 0 rfl) ?_
    refine lv_iconst (v := 1) hx hb dX12_judge_13 qi_1 ?_
    refine q_cVWI C hj cw_X12_54 (As := [.int 1]) (rest := []) hf (fun v9 g9 h9 => c_X12_refused l E h9) rfl hl rfl rfl rfl dX12_judge_14 ⟨Nat.zero_le _, Nat.zero_le _⟩ (fun v6 g5 H locs hj hf => ?_)
    exact q_iretW C hj dX12_judge_17 hf
def L_X12_amiss_33  : Nat → Nat → Int32 → qS → Option (Int32 × qS)
  | 0, _, _, _ => none
  | n + 1, x0, x1, g => (g_R g x0 11 3).bind fun v1 => (g_I g v1 10 8).bind fun v2 => if v2 ≤ x1 then (q_b2 (f_X12_good g x0 (-2)) fun v4 g3 => some (v4, g3)) else ((g_R g x0 11 16).bind fun v5 => (g_R g x0 11 3).bind fun v6 => (g_R g v6 10 14).bind fun v7 => (a_I g v7 x1).bind fun v8 => (a_I g v5 (0 + v8)).bind fun v9 => (g_R g x0 11 3).bind fun v10 => (g_R g v10 10 13).bind fun v11 => (g_R g x0 11 3).bind fun v12 => (g_R g v12 10 14).bind fun v13 => (a_I g v13 x1).bind fun v14 => (a_I g v11 v14).bind fun v15 => if v9 = v15 then (L_X12_amiss_33 n x0 (x1 + 1) g) else ((g_R g x0 11 3).bind fun v16 => (g_R g v16 10 14).bind fun v17 => (a_I g v17 x1).bind fun v18 => q_b2 (f_X12_good g x0 v18) fun v20 g19 => some (v20, g19)))
set_option maxHeartbeats 4000000 in
set_option maxRecDepth 100000 in
theorem w_L_X12_amiss_33 {l : Launch} {E : qV} {p : Program} {e : Env} {s : State} {m : MethodId} {args : Array Value} {below : List Frame} {meth : Method} {c : Code}  {res : (Int32 × qS)} (C : q_C E p s m args meth c cX12_amiss RX12 2 (some .int))  : ∀ {n : Nat} {x0 : Nat} {x1 : Int32} {g : qS} {H : Heap} {locs : List Loc} {ls : Array Slot}, q_J E s g H locs → lv_has ls 2 [(0, .ref (q_ad E x0)), (1, .int x1)] → L_X12_amiss_33 n x0 x1 g = some res → W p l e (q_rm 5 118) s m args below meth c H locs 0 0 (q_ZW E below (some (.int res.1)) res.2 args s) (F0 m 33 ls []) := by
  have hx := C.1
  have hb := C.2.1
  intro n
  induction n with
  | zero =>
    intro x0 x1 g H locs ls hj hl hf
    cases hf
  | succ n ih_ =>
    intro x0 x1 g H locs ls hj hl hf
    have ih : ∀ (x0 : Nat) (x1 : Int32) (g : qS) (H : Heap) (locs : List Loc) (ls : Array Slot), q_J E s g H locs → lv_has ls 2 [(0, .ref (q_ad E x0)), (1, .int x1)] → L_X12_amiss_33 n x0 x1 g = some res → W p l e (q_rm 5 118) s m args below meth c H locs 0 0 (q_ZW E below (some (.int res.1)) res.2 args s) (F0 m 33 ls []) := fun x0 x1 g H locs ls hj hl hf => ih_ hj hl hf
    unfold L_X12_amiss_33 at hf
    refine lv_iload_n hx hb dX12_amiss_33 rfl (lv_at hl 1 rfl) ?_
    refine lv_aload_n hx hb dX12_amiss_34 rfl (lv_at hl 0 rfl) ?_
    refine q_getR C hj lk_X12_369 dX12_amiss_35 hf (fun v1 hf => ?_)
    refine q_getI C hj lk_X12_336 dX12_amiss_38 hf (fun v2 hf => ?_)
    refine q_icge C (tgt := 100) dX12_amiss_41 (by decide) hf (fun hf => ?_) (fun hf => ?_)
    · refine lv_aload_n hx hb dX12_amiss_100 rfl (lv_at hl 0 rfl) ?_
      refine lv_bipush (v := -2) hx hb dX12_amiss_101 (by decide) ?_
      refine q_cVWI C hj cw_X12_58 (As := [.int (-2)]) (rest := []) hf (fun v9 g9 h9 => c_X12_good l E h9) rfl hl rfl rfl rfl dX12_amiss_103 ⟨Nat.zero_le _, Nat.zero_le _⟩ (fun v4 g3 H locs hj hf => ?_)
      exact q_iretW C hj dX12_amiss_106 hf
    · refine lv_aload_n hx hb dX12_amiss_44 rfl (lv_at hl 0 rfl) ?_
      refine q_getR C hj lk_X12_21 dX12_amiss_45 hf (fun v5 hf => ?_)
      refine lv_iconst (v := 0) hx hb dX12_amiss_48 qi_0 ?_
      refine lv_aload_n hx hb dX12_amiss_49 rfl (lv_at hl 0 rfl) ?_
      refine q_getR C hj lk_X12_369 dX12_amiss_50 hf (fun v6 hf => ?_)
      refine q_getR C hj lk_X12_333 dX12_amiss_53 hf (fun v7 hf => ?_)
      refine lv_iload_n hx hb dX12_amiss_56 rfl (lv_at hl 1 rfl) ?_
      refine q_aldI C hj dX12_amiss_57 hf (fun v8 hf => ?_)
      refine lv_iadd hx hb dX12_amiss_58 ?_
      refine q_aldI C hj dX12_amiss_59 hf (fun v9 hf => ?_)
      refine lv_aload_n hx hb dX12_amiss_60 rfl (lv_at hl 0 rfl) ?_
      refine q_getR C hj lk_X12_369 dX12_amiss_61 hf (fun v10 hf => ?_)
      refine q_getR C hj lk_X12_251 dX12_amiss_64 hf (fun v11 hf => ?_)
      refine lv_aload_n hx hb dX12_amiss_67 rfl (lv_at hl 0 rfl) ?_
      refine q_getR C hj lk_X12_369 dX12_amiss_68 hf (fun v12 hf => ?_)
      refine q_getR C hj lk_X12_333 dX12_amiss_71 hf (fun v13 hf => ?_)
      refine lv_iload_n hx hb dX12_amiss_74 rfl (lv_at hl 1 rfl) ?_
      refine q_aldI C hj dX12_amiss_75 hf (fun v14 hf => ?_)
      refine q_aldI C hj dX12_amiss_76 hf (fun v15 hf => ?_)
      refine q_iceq C (tgt := 94) dX12_amiss_77 (by decide) hf (fun hf => ?_) (fun hf => ?_)
      · refine lv_iinc (v := x1 + 1) (lv' := [(1, .int (x1 + 1)), (0, .ref (q_ad E x0))]) hx hb dX12_amiss_94 hl (k := 1) rfl (by rw [qi_1]) (by decide) rfl (fun ls hl => ?_)
        refine lv_goto (tgt := 33) hx hb dX12_amiss_97 (by decide) ?_
        exact ih _ _ _ _ _ ls hj (lv_sub hl [1, 0] rfl) hf
      · refine lv_aload_n hx hb dX12_amiss_80 rfl (lv_at hl 0 rfl) ?_
        refine lv_aload_n hx hb dX12_amiss_81 rfl (lv_at hl 0 rfl) ?_
        refine q_getR C hj lk_X12_369 dX12_amiss_82 hf (fun v16 hf => ?_)
        refine q_getR C hj lk_X12_333 dX12_amiss_85 hf (fun v17 hf => ?_)
        refine lv_iload_n hx hb dX12_amiss_88 rfl (lv_at hl 1 rfl) ?_
        refine q_aldI C hj dX12_amiss_89 hf (fun v18 hf => ?_)
        refine q_cVWI C hj cw_X12_58 (As := [.int v18]) (rest := []) hf (fun v9 g9 h9 => c_X12_good l E h9) rfl hl rfl rfl rfl dX12_amiss_90 ⟨Nat.zero_le _, Nat.zero_le _⟩ (fun v20 g19 H locs hj hf => ?_)
        exact q_iretW C hj dX12_amiss_93 hf
def f_X12_amiss (g : qS) (a0 : Nat) : Option (Int32 × qS) := (g_C g a0 11).bind fun _ => (p_I g a0 11 0 0).bind fun g1 => (g_Q g1 a0 11 3).bind fun o => if o = none then (q_b2 (f_X12_refused g1 a0 1) fun v6 g5 => some (v6, g5)) else ((g_R g1 a0 11 3).bind fun v2 => (g_I g1 v2 10 0).bind fun v3 => (f_X12_plans g1 a0 (v3 - 1)).bind fun g4 => L_X12_amiss_33 1000000000 a0 0 g4)
set_option maxHeartbeats 4000000 in
set_option maxRecDepth 100000 in
theorem c_X12_amiss (l : Launch) (E : qV) {g : qS} {a0 : Nat} {res : (Int32 × qS)} (hf : f_X12_amiss g a0 = some res) : q_MW l yX12_amiss cX12_amiss 2 (some .int) 5 118 E [.ref (q_ad E a0)] g (some (.int res.1)) res.2 ∧ ∃ fs, g a0 = some (.inr (11, fs)) := by
  unfold f_X12_amiss at hf
  obtain ⟨u9, hu9, hf⟩ := q_ob hf
  refine ⟨q_ofW (by decide) rfl ?_, g_C_sp hu9⟩
  intro p e s m args below meth c ls C hj hl
  have hx := C.1
  have hb := C.2.1
  have C : q_C E p s m args meth c cX12_amiss RX12 2 (some .int) := C
  have hl : lv_has ls 2 [(0, .ref (q_ad E a0))] := hl
  refine lv_aload_n hx hb dX12_amiss_0 rfl (lv_at hl 0 rfl) ?_
  refine lv_iconst (v := 0) hx hb dX12_amiss_1 qi_0 ?_
  refine q_putI C hj fp_X12_48 dX12_amiss_2 hf (fun g1 H locs hj hf => ?_)
  refine lv_aload_n hx hb dX12_amiss_5 rfl (lv_at hl 0 rfl) ?_
  refine q_gnnull C hj lk_X12_369 dX12_amiss_6 (tgt := 18) dX12_amiss_9 (by decide) hf (fun hf => ?_) (fun hf => ?_)
  · refine lv_aload_n hx hb dX12_amiss_18 rfl (lv_at hl 0 rfl) ?_
    refine lv_aload_n hx hb dX12_amiss_19 rfl (lv_at hl 0 rfl) ?_
    refine q_getR C hj lk_X12_369 dX12_amiss_20 hf (fun v2 hf => ?_)
    refine q_getI C hj lk_X12_166 dX12_amiss_23 hf (fun v3 hf => ?_)
    refine lv_iconst (v := 1) hx hb dX12_amiss_26 qi_1 ?_
    refine lv_isub hx hb dX12_amiss_27 ?_
    refine q_cVWV C hj cw_X12_443 (As := [.int (v3 - 1)]) (rest := []) hf (fun g9 h9 => c_X12_plans l E h9) rfl hl rfl rfl rfl dX12_amiss_28 ⟨Nat.zero_le _, Nat.zero_le _⟩ (fun g4 H locs hj hf => ?_)
    refine lv_iconst (v := 0) hx hb dX12_amiss_31 qi_0 ?_
    refine lv_istore_n (lv' := [(1, .int 0), (0, .ref (q_ad E a0))]) hx hb dX12_amiss_32 rfl hl (by decide) rfl (fun ls hl => ?_)
    refine w_L_X12_amiss_33 C  hj (lv_sub hl [1, 0] rfl) hf
  · refine lv_aload_n hx hb dX12_amiss_12 rfl (lv_at hl 0 rfl) ?_
    refine lv_iconst (v := 1) hx hb dX12_amiss_13 qi_1 ?_
    refine q_cVWI C hj cw_X12_54 (As := [.int 1]) (rest := []) hf (fun v9 g9 h9 => c_X12_refused l E h9) rfl hl rfl rfl rfl dX12_amiss_14 ⟨Nat.zero_le _, Nat.zero_le _⟩ (fun v6 g5 H locs hj hf => ?_)
    exact q_iretW C hj dX12_amiss_17 hf
def f_X12_isAlone (g : qS) (a0 : Nat) (a1 : Int32) (a2 : Int32) : Option (Int32 × qS) := (g_C g a0 11).bind fun _ => (f_X12_dayOf g a2).bind fun v1 => (f_X12_giverOf g a2).bind fun v2 => (f_X12_personOf g a2).bind fun v3 => (g_R g a0 11 3).bind fun v4 => (g_I g v4 10 0).bind fun v5 => if v5 ≤ v1 then (some (0, g)) else ((g_R g a0 11 3).bind fun v6 => (g_I g v6 10 5).bind fun v7 => if v7 ≤ v2 then (some (0, g)) else ((g_R g a0 11 3).bind fun v8 => (g_I g v8 10 3).bind fun v9 => if v3 < v9 then ((f_X12_starts g a0).bind fun g10 => (g_R g10 a0 11 16).bind fun v11 => (f_X12_comes g10 a0 v11 v2 a1 v3 v1).bind fun v12 => if v12 = 0 then (some (1, g10)) else (some (0, g10))) else (some (0, g))))
set_option maxHeartbeats 4000000 in
set_option maxRecDepth 100000 in
theorem c_X12_isAlone (l : Launch) (E : qV) {g : qS} {a0 : Nat} {a1 : Int32} {a2 : Int32} {res : (Int32 × qS)} (hf : f_X12_isAlone g a0 a1 a2 = some res) : q_MW l yX12_isAlone cX12_isAlone 6 (some .boolean) 4 95 E [.ref (q_ad E a0), .int a1, .int a2] g (some (.int res.1)) res.2 ∧ ∃ fs, g a0 = some (.inr (11, fs)) := by
  unfold f_X12_isAlone at hf
  obtain ⟨u9, hu9, hf⟩ := q_ob hf
  refine ⟨q_ofW (by decide) rfl ?_, g_C_sp hu9⟩
  intro p e s m args below meth c ls C hj hl
  have hx := C.1
  have hb := C.2.1
  have C : q_C E p s m args meth c cX12_isAlone RX12 6 (some .boolean) := C
  have hl : lv_has ls 6 [(0, .ref (q_ad E a0)), (1, .int a1), (2, .int a2)] := hl
  refine lv_iload_n hx hb dX12_isAlone_0 rfl (lv_at hl 2 rfl) ?_
  refine q_cSRI C hj cw_X12_427 (As := [.int a2]) (rest := []) hf (fun v9 h9 => c_X12_dayOf l E h9) rfl hl rfl rfl rfl dX12_isAlone_1 ⟨Nat.zero_le _, Nat.zero_le _⟩ (fun v1 hf => ?_)
  refine lv_istore_n (lv' := [(3, .int v1), (0, .ref (q_ad E a0)), (1, .int a1), (2, .int a2)]) hx hb dX12_isAlone_4 rfl hl (by decide) rfl (fun ls hl => ?_)
  refine lv_iload_n hx hb dX12_isAlone_5 rfl (lv_at hl 3 rfl) ?_
  refine q_cSRI C hj cw_X12_430 (As := [.int a2]) (rest := []) hf (fun v9 h9 => c_X12_giverOf l E h9) rfl hl rfl rfl rfl dX12_isAlone_6 ⟨Nat.zero_le _, Nat.zero_le _⟩ (fun v2 hf => ?_)
  refine lv_istore (lv' := [(4, .int v2), (3, .int v1), (0, .ref (q_ad E a0)), (1, .int a1), (2, .int a2)]) hx hb dX12_isAlone_9 hl (by decide) rfl (fun ls hl => ?_)
  refine lv_iload_n hx hb dX12_isAlone_11 rfl (lv_at hl 4 rfl) ?_
  refine q_cSRI C hj cw_X12_433 (As := [.int a2]) (rest := []) hf (fun v9 h9 => c_X12_personOf l E h9) rfl hl rfl rfl rfl dX12_isAlone_12 ⟨Nat.zero_le _, Nat.zero_le _⟩ (fun v3 hf => ?_)
  refine lv_istore (lv' := [(5, .int v3), (4, .int v2), (3, .int v1), (0, .ref (q_ad E a0)), (1, .int a1), (2, .int a2)]) hx hb dX12_isAlone_15 hl (by decide) rfl (fun ls hl => ?_)
  refine lv_iload_n hx hb dX12_isAlone_17 rfl (lv_at hl 2 rfl) ?_
  refine lv_aload_n hx hb dX12_isAlone_18 rfl (lv_at hl 3 rfl) ?_
  refine q_getR C hj lk_X12_369 dX12_isAlone_19 hf (fun v4 hf => ?_)
  refine q_getI C hj lk_X12_166 dX12_isAlone_22 hf (fun v5 hf => ?_)
  refine q_icge C (tgt := 52) dX12_isAlone_25 (by decide) hf (fun hf => ?_) (fun hf => ?_)
  · refine lv_iconst (v := 0) hx hb dX12_isAlone_52 qi_0 ?_
    exact q_z0retW C hj dX12_isAlone_53 hf
  · refine lv_iload hx hb dX12_isAlone_28 (lv_at hl 1 rfl) ?_
    refine lv_aload_n hx hb dX12_isAlone_30 rfl (lv_at hl 3 rfl) ?_
    refine q_getR C hj lk_X12_369 dX12_isAlone_31 hf (fun v6 hf => ?_)
    refine q_getI C hj lk_X12_207 dX12_isAlone_34 hf (fun v7 hf => ?_)
    refine q_icge C (tgt := 52) dX12_isAlone_37 (by decide) hf (fun hf => ?_) (fun hf => ?_)
    · refine lv_iconst (v := 0) hx hb dX12_isAlone_52 qi_0 ?_
      exact q_z0retW C hj dX12_isAlone_53 hf
    · refine lv_iload hx hb dX12_isAlone_40 (lv_at hl 0 rfl) ?_
      refine lv_aload_n hx hb dX12_isAlone_42 rfl (lv_at hl 3 rfl) ?_
      refine q_getR C hj lk_X12_369 dX12_isAlone_43 hf (fun v8 hf => ?_)
      refine q_getI C hj lk_X12_204 dX12_isAlone_46 hf (fun v9 hf => ?_)
      refine q_iclt C (tgt := 54) dX12_isAlone_49 (by decide) hf (fun hf => ?_) (fun hf => ?_)
      · refine lv_aload_n hx hb dX12_isAlone_54 rfl (lv_at hl 3 rfl) ?_
        refine q_cVWV C hj cw_X12_436 (As := []) (rest := []) hf (fun g9 h9 => c_X12_starts l E h9) rfl hl rfl rfl rfl dX12_isAlone_55 ⟨Nat.zero_le _, Nat.zero_le _⟩ (fun g10 H locs hj hf => ?_)
        refine lv_aload_n hx hb dX12_isAlone_58 rfl (lv_at hl 3 rfl) ?_
        refine lv_aload_n hx hb dX12_isAlone_59 rfl (lv_at hl 3 rfl) ?_
        refine q_getR C hj lk_X12_21 dX12_isAlone_60 hf (fun v11 hf => ?_)
        refine lv_iload hx hb dX12_isAlone_63 (lv_at hl 1 rfl) ?_
        refine lv_iload_n hx hb dX12_isAlone_65 rfl (lv_at hl 4 rfl) ?_
        refine lv_iload hx hb dX12_isAlone_66 (lv_at hl 0 rfl) ?_
        refine lv_iload_n hx hb dX12_isAlone_68 rfl (lv_at hl 2 rfl) ?_
        refine q_cVRI C hj cw_X12_424 (As := [.ref (q_ad E v11), .int v2, .int a1, .int v3, .int v1]) (rest := []) hf (fun v9 h9 => c_X12_comes l E h9) rfl hl rfl rfl rfl dX12_isAlone_69 ⟨Nat.zero_le _, Nat.zero_le _⟩ (fun v12 hf => ?_)
        refine q_ifne C (tgt := 79) dX12_isAlone_72 (by decide) hf (fun hf => ?_) (fun hf => ?_)
        · refine lv_iconst (v := 0) hx hb dX12_isAlone_79 qi_0 ?_
          exact q_z0retW C hj dX12_isAlone_80 hf
        · refine lv_iconst (v := 1) hx hb dX12_isAlone_75 qi_1 ?_
          refine lv_goto (tgt := 80) hx hb dX12_isAlone_76 (by decide) ?_
          exact q_z1retW C hj dX12_isAlone_80 hf
      · refine lv_iconst (v := 0) hx hb dX12_isAlone_52 qi_0 ?_
        exact q_z0retW C hj dX12_isAlone_53 hf
def L_X12_isFree_2  (g : qS) : Nat → Nat → Int32 → Int32 → Option Int32
  | 0, _, _, _ => none
  | n + 1, x0, x1, x2 => if x1 ≤ x2 then (some 1) else ((g_R g x0 11 22).bind fun v1 => (a_I g v1 x2).bind fun v2 => (f_X12_dayOf g v2).bind fun v3 => (g_R g x0 11 22).bind fun v4 => (a_I g v4 x1).bind fun v5 => (f_X12_dayOf g v5).bind fun v6 => if v3 = v6 then ((g_R g x0 11 22).bind fun v7 => (a_I g v7 x2).bind fun v8 => (f_X12_giverOf g v8).bind fun v9 => (g_R g x0 11 22).bind fun v10 => (a_I g v10 x1).bind fun v11 => (f_X12_giverOf g v11).bind fun v12 => if v9 = v12 then (some 0) else (L_X12_isFree_2 g n x0 x1 (x2 + 1))) else (L_X12_isFree_2 g n x0 x1 (x2 + 1)))
set_option maxHeartbeats 4000000 in
set_option maxRecDepth 100000 in
theorem w_L_X12_isFree_2 {l : Launch} {E : qV} {p : Program} {e : Env} {s : State} {m : MethodId} {args : Array Value} {below : List Frame} {meth : Method} {c : Code}  {g : qS} {res : Int32} (C : q_C E p s m args meth c cX12_isFree RX12 3 (some .boolean))  : ∀ {n : Nat} {x0 : Nat} {x1 : Int32} {x2 : Int32} {ls : Array Slot}, q_J E s g s.heap [] → lv_has ls 3 [(0, .ref (q_ad E x0)), (1, .int x1), (2, .int x2)] → L_X12_isFree_2 g n x0 x1 x2 = some res → W p l e (q_rm 1 20) s m args below meth c s.heap [] 0 0 (q_ZR below (some (.int res)) args s) (F0 m 2 ls []) := by
  have hx := C.1
  have hb := C.2.1
  intro n
  induction n with
  | zero =>
    intro x0 x1 x2 ls hj hl hf
    cases hf
  | succ n ih_ =>
    intro x0 x1 x2 ls hj hl hf
    have ih : ∀ (x0 : Nat) (x1 : Int32) (x2 : Int32) (ls : Array Slot), q_J E s g s.heap [] → lv_has ls 3 [(0, .ref (q_ad E x0)), (1, .int x1), (2, .int x2)] → L_X12_isFree_2 g n x0 x1 x2 = some res → W p l e (q_rm 1 20) s m args below meth c s.heap [] 0 0 (q_ZR below (some (.int res)) args s) (F0 m 2 ls []) := fun x0 x1 x2 ls hj hl hf => ih_ hj hl hf
    unfold L_X12_isFree_2 at hf
    refine lv_iload_n hx hb dX12_isFree_2 rfl (lv_at hl 2 rfl) ?_
    refine lv_iload_n hx hb dX12_isFree_3 rfl (lv_at hl 1 rfl) ?_
    refine q_icge C (tgt := 57) dX12_isFree_4 (by decide) hf (fun hf => ?_) (fun hf => ?_)
    · refine lv_iconst (v := 1) hx hb dX12_isFree_57 qi_1 ?_
      exact q_z1retR C dX12_isFree_58 hf
    · refine lv_aload_n hx hb dX12_isFree_7 rfl (lv_at hl 0 rfl) ?_
      refine q_getR C hj lk_X12_33 dX12_isFree_8 hf (fun v1 hf => ?_)
      refine lv_iload_n hx hb dX12_isFree_11 rfl (lv_at hl 2 rfl) ?_
      refine q_aldI C hj dX12_isFree_12 hf (fun v2 hf => ?_)
      refine q_cSRI C hj cw_X12_427 (As := [.int v2]) (rest := []) hf (fun v9 h9 => c_X12_dayOf l E h9) rfl hl rfl rfl rfl dX12_isFree_13 ⟨Nat.zero_le _, Nat.zero_le _⟩ (fun v3 hf => ?_)
      refine lv_aload_n hx hb dX12_isFree_16 rfl (lv_at hl 0 rfl) ?_
      refine q_getR C hj lk_X12_33 dX12_isFree_17 hf (fun v4 hf => ?_)
      refine lv_iload_n hx hb dX12_isFree_20 rfl (lv_at hl 1 rfl) ?_
      refine q_aldI C hj dX12_isFree_21 hf (fun v5 hf => ?_)
      refine q_cSRI C hj cw_X12_427 (As := [.int v5]) (rest := [.int v3]) hf (fun v9 h9 => c_X12_dayOf l E h9) rfl hl rfl rfl rfl dX12_isFree_22 ⟨Nat.zero_le _, Nat.zero_le _⟩ (fun v6 hf => ?_)
      refine q_icne C (tgt := 51) dX12_isFree_25 (by decide) hf (fun hf => ?_) (fun hf => ?_)
      · refine lv_iinc (v := x2 + 1) (lv' := [(2, .int (x2 + 1)), (0, .ref (q_ad E x0)), (1, .int x1)]) hx hb dX12_isFree_51 hl (k := 2) rfl (by rw [qi_1]) (by decide) rfl (fun ls hl => ?_)
        refine lv_goto (tgt := 2) hx hb dX12_isFree_54 (by decide) ?_
        exact ih _ _ _  ls hj (lv_sub hl [1, 2, 0] rfl) hf
      · refine lv_aload_n hx hb dX12_isFree_28 rfl (lv_at hl 0 rfl) ?_
        refine q_getR C hj lk_X12_33 dX12_isFree_29 hf (fun v7 hf => ?_)
        refine lv_iload_n hx hb dX12_isFree_32 rfl (lv_at hl 2 rfl) ?_
        refine q_aldI C hj dX12_isFree_33 hf (fun v8 hf => ?_)
        refine q_cSRI C hj cw_X12_430 (As := [.int v8]) (rest := []) hf (fun v9 h9 => c_X12_giverOf l E h9) rfl hl rfl rfl rfl dX12_isFree_34 ⟨Nat.zero_le _, Nat.zero_le _⟩ (fun v9 hf => ?_)
        refine lv_aload_n hx hb dX12_isFree_37 rfl (lv_at hl 0 rfl) ?_
        refine q_getR C hj lk_X12_33 dX12_isFree_38 hf (fun v10 hf => ?_)
        refine lv_iload_n hx hb dX12_isFree_41 rfl (lv_at hl 1 rfl) ?_
        refine q_aldI C hj dX12_isFree_42 hf (fun v11 hf => ?_)
        refine q_cSRI C hj cw_X12_430 (As := [.int v11]) (rest := [.int v9]) hf (fun v9 h9 => c_X12_giverOf l E h9) rfl hl rfl rfl rfl dX12_isFree_43 ⟨Nat.zero_le _, Nat.zero_le _⟩ (fun v12 hf => ?_)
        refine q_icne C (tgt := 51) dX12_isFree_46 (by decide) hf (fun hf => ?_) (fun hf => ?_)
        · refine lv_iinc (v := x2 + 1) (lv' := [(2, .int (x2 + 1)), (0, .ref (q_ad E x0)), (1, .int x1)]) hx hb dX12_isFree_51 hl (k := 2) rfl (by rw [qi_1]) (by decide) rfl (fun ls hl => ?_)
          refine lv_goto (tgt := 2) hx hb dX12_isFree_54 (by decide) ?_
          exact ih _ _ _  ls hj (lv_sub hl [1, 2, 0] rfl) hf
        · refine lv_iconst (v := 0) hx hb dX12_isFree_49 qi_0 ?_
          exact q_z0retR C dX12_isFree_50 hf
def f_X12_isFree (g : qS) (a0 : Nat) (a1 : Int32) : Option Int32 := (g_C g a0 11).bind fun _ => L_X12_isFree_2 g 1000000000 a0 a1 0
set_option maxHeartbeats 4000000 in
set_option maxRecDepth 100000 in
theorem c_X12_isFree (l : Launch) (E : qV) {g : qS} {a0 : Nat} {a1 : Int32} {res : Int32} (hf : f_X12_isFree g a0 a1 = some res) : q_MR l yX12_isFree cX12_isFree 3 (some .boolean) 1 20 E [.ref (q_ad E a0), .int a1] g (some (.int res)) ∧ ∃ fs, g a0 = some (.inr (11, fs)) := by
  unfold f_X12_isFree at hf
  obtain ⟨u9, hu9, hf⟩ := q_ob hf
  refine ⟨q_ofR (by decide) rfl ?_, g_C_sp hu9⟩
  intro p e s m args below meth c ls C hw hl
  have hj : q_J E s g s.heap [] := ⟨hw, va_S.rf⟩
  have hx := C.1
  have hb := C.2.1
  have C : q_C E p s m args meth c cX12_isFree RX12 3 (some .boolean) := C
  have hl : lv_has ls 3 [(0, .ref (q_ad E a0)), (1, .int a1)] := hl
  refine lv_iconst (v := 0) hx hb dX12_isFree_0 qi_0 ?_
  refine lv_istore_n (lv' := [(2, .int 0), (0, .ref (q_ad E a0)), (1, .int a1)]) hx hb dX12_isFree_1 rfl hl (by decide) rfl (fun ls hl => ?_)
  refine w_L_X12_isFree_2 C  hj (lv_sub hl [1, 2, 0] rfl) hf
def L_X12_areGiven_19 (k113 : Nat → Int32 → qS → Option (Int32 × qS)) : Nat → Nat → Int32 → Int32 → qS → Option (Int32 × qS)
  | 0, _, _, _, _ => none
  | n + 1, x0, x1, x2, g => (g_R g x0 11 3).bind fun v1 => (g_I g v1 10 2).bind fun v2 => if v2 ≤ x2 then (k113 x0 x1 g) else ((g_R g x0 11 22).bind fun v3 => (a_I g v3 x2).bind fun v4 => (f_X12_dayOf g v4).bind fun v5 => if v5 = x1 then ((g_R g x0 11 16).bind fun v6 => (g_R g x0 11 22).bind fun v7 => (a_I g v7 x2).bind fun v8 => (f_X12_giverOf g v8).bind fun v9 => (g_R g x0 11 22).bind fun v10 => (a_I g v10 x2).bind fun v11 => (f_X12_personOf g v11).bind fun v12 => (f_X12_comes g x0 v6 v9 x2 v12 x1).bind fun v13 => if v13 = 0 then ((g_R g x0 11 16).bind fun v14 => (g_R g x0 11 22).bind fun v15 => (a_I g v15 x2).bind fun v16 => (f_X12_giverOf g v16).bind fun v17 => (g_R g x0 11 22).bind fun v18 => (a_I g v18 x2).bind fun v19 => (f_X12_personOf g v19).bind fun v20 => (f_X12_does g x0 v14 0 v17 x2 v20).bind fun g21 => L_X12_areGiven_19 k113 n x0 x1 (x2 + 1) g21) else (some (0, g))) else (L_X12_areGiven_19 k113 n x0 x1 (x2 + 1) g))
set_option maxHeartbeats 4000000 in
set_option maxRecDepth 100000 in
theorem w_L_X12_areGiven_19 {l : Launch} {E : qV} {p : Program} {e : Env} {s : State} {m : MethodId} {args : Array Value} {below : List Frame} {meth : Method} {c : Code} {k113 : Nat → Int32 → qS → Option (Int32 × qS)} {res : (Int32 × qS)} (C : q_C E p s m args meth c cX12_areGiven RX12 3 (some .boolean)) (hk113 : ∀ (x0 : Nat) (x1 : Int32) (g : qS) (H : Heap) (locs : List Loc) (ls : Array Slot), q_J E s g H locs → lv_has ls 3 [(0, .ref (q_ad E x0)), (1, .int x1)] → k113 x0 x1 g = some res → W p l e (q_rm 4 95) s m args below meth c H locs 0 0 (q_ZW E below (some (.int res.1)) res.2 args s) (F0 m 113 ls [])) : ∀ {n : Nat} {x0 : Nat} {x1 : Int32} {x2 : Int32} {g : qS} {H : Heap} {locs : List Loc} {ls : Array Slot}, q_J E s g H locs → lv_has ls 3 [(0, .ref (q_ad E x0)), (1, .int x1), (2, .int x2)] → L_X12_areGiven_19 k113 n x0 x1 x2 g = some res → W p l e (q_rm 4 95) s m args below meth c H locs 0 0 (q_ZW E below (some (.int res.1)) res.2 args s) (F0 m 19 ls []) := by
  have hx := C.1
  have hb := C.2.1
  intro n
  induction n with
  | zero =>
    intro x0 x1 x2 g H locs ls hj hl hf
    cases hf
  | succ n ih_ =>
    intro x0 x1 x2 g H locs ls hj hl hf
    have ih : ∀ (x0 : Nat) (x1 : Int32) (x2 : Int32) (g : qS) (H : Heap) (locs : List Loc) (ls : Array Slot), q_J E s g H locs → lv_has ls 3 [(0, .ref (q_ad E x0)), (1, .int x1), (2, .int x2)] → L_X12_areGiven_19 k113 n x0 x1 x2 g = some res → W p l e (q_rm 4 95) s m args below meth c H locs 0 0 (q_ZW E below (some (.int res.1)) res.2 args s) (F0 m 19 ls []) := fun x0 x1 x2 g H locs ls hj hl hf => ih_ hj hl hf
    unfold L_X12_areGiven_19 at hf
    refine lv_iload_n hx hb dX12_areGiven_19 rfl (lv_at hl 2 rfl) ?_
    refine lv_aload_n hx hb dX12_areGiven_20 rfl (lv_at hl 0 rfl) ?_
    refine q_getR C hj lk_X12_369 dX12_areGiven_21 hf (fun v1 hf => ?_)
    refine q_getI C hj lk_X12_201 dX12_areGiven_24 hf (fun v2 hf => ?_)
    refine q_icge C (tgt := 113) dX12_areGiven_27 (by decide) hf (fun hf => ?_) (fun hf => ?_)
    · exact hk113 _ _ _ _ _ ls hj (lv_sub hl [0, 1] rfl) hf
    · refine lv_aload_n hx hb dX12_areGiven_30 rfl (lv_at hl 0 rfl) ?_
      refine q_getR C hj lk_X12_33 dX12_areGiven_31 hf (fun v3 hf => ?_)
      refine lv_iload_n hx hb dX12_areGiven_34 rfl (lv_at hl 2 rfl) ?_
      refine q_aldI C hj dX12_areGiven_35 hf (fun v4 hf => ?_)
      refine q_cSRI C hj cw_X12_427 (As := [.int v4]) (rest := []) hf (fun v9 h9 => c_X12_dayOf l E h9) rfl hl rfl rfl rfl dX12_areGiven_36 ⟨Nat.zero_le _, Nat.zero_le _⟩ (fun v5 hf => ?_)
      refine lv_iload_n hx hb dX12_areGiven_39 rfl (lv_at hl 1 rfl) ?_
      refine q_iceq C (tgt := 46) dX12_areGiven_40 (by decide) hf (fun hf => ?_) (fun hf => ?_)
      · refine lv_aload_n hx hb dX12_areGiven_46 rfl (lv_at hl 0 rfl) ?_
        refine lv_aload_n hx hb dX12_areGiven_47 rfl (lv_at hl 0 rfl) ?_
        refine q_getR C hj lk_X12_21 dX12_areGiven_48 hf (fun v6 hf => ?_)
        refine lv_aload_n hx hb dX12_areGiven_51 rfl (lv_at hl 0 rfl) ?_
        refine q_getR C hj lk_X12_33 dX12_areGiven_52 hf (fun v7 hf => ?_)
        refine lv_iload_n hx hb dX12_areGiven_55 rfl (lv_at hl 2 rfl) ?_
        refine q_aldI C hj dX12_areGiven_56 hf (fun v8 hf => ?_)
        refine q_cSRI C hj cw_X12_430 (As := [.int v8]) (rest := [.ref (q_ad E v6), .ref (q_ad E x0)]) hf (fun v9 h9 => c_X12_giverOf l E h9) rfl hl rfl rfl rfl dX12_areGiven_57 ⟨Nat.zero_le _, Nat.zero_le _⟩ (fun v9 hf => ?_)
        refine lv_iload_n hx hb dX12_areGiven_60 rfl (lv_at hl 2 rfl) ?_
        refine lv_aload_n hx hb dX12_areGiven_61 rfl (lv_at hl 0 rfl) ?_
        refine q_getR C hj lk_X12_33 dX12_areGiven_62 hf (fun v10 hf => ?_)
        refine lv_iload_n hx hb dX12_areGiven_65 rfl (lv_at hl 2 rfl) ?_
        refine q_aldI C hj dX12_areGiven_66 hf (fun v11 hf => ?_)
        refine q_cSRI C hj cw_X12_433 (As := [.int v11]) (rest := [.int x2, .int v9, .ref (q_ad E v6), .ref (q_ad E x0)]) hf (fun v9 h9 => c_X12_personOf l E h9) rfl hl rfl rfl rfl dX12_areGiven_67 ⟨Nat.zero_le _, Nat.zero_le _⟩ (fun v12 hf => ?_)
        refine lv_iload_n hx hb dX12_areGiven_70 rfl (lv_at hl 1 rfl) ?_
        refine q_cVRI C hj cw_X12_424 (As := [.ref (q_ad E v6), .int v9, .int x2, .int v12, .int x1]) (rest := []) hf (fun v9 h9 => c_X12_comes l E h9) rfl hl rfl rfl rfl dX12_areGiven_71 ⟨Nat.zero_le _, Nat.zero_le _⟩ (fun v13 hf => ?_)
        refine q_ifeq C (tgt := 79) dX12_areGiven_74 (by decide) hf (fun hf => ?_) (fun hf => ?_)
        · refine lv_aload_n hx hb dX12_areGiven_79 rfl (lv_at hl 0 rfl) ?_
          refine lv_aload_n hx hb dX12_areGiven_80 rfl (lv_at hl 0 rfl) ?_
          refine q_getR C hj lk_X12_21 dX12_areGiven_81 hf (fun v14 hf => ?_)
          refine lv_iconst (v := 0) hx hb dX12_areGiven_84 qi_0 ?_
          refine lv_aload_n hx hb dX12_areGiven_85 rfl (lv_at hl 0 rfl) ?_
          refine q_getR C hj lk_X12_33 dX12_areGiven_86 hf (fun v15 hf => ?_)
          refine lv_iload_n hx hb dX12_areGiven_89 rfl (lv_at hl 2 rfl) ?_
          refine q_aldI C hj dX12_areGiven_90 hf (fun v16 hf => ?_)
          refine q_cSRI C hj cw_X12_430 (As := [.int v16]) (rest := [.int 0, .ref (q_ad E v14), .ref (q_ad E x0)]) hf (fun v9 h9 => c_X12_giverOf l E h9) rfl hl rfl rfl rfl dX12_areGiven_91 ⟨Nat.zero_le _, Nat.zero_le _⟩ (fun v17 hf => ?_)
          refine lv_iload_n hx hb dX12_areGiven_94 rfl (lv_at hl 2 rfl) ?_
          refine lv_aload_n hx hb dX12_areGiven_95 rfl (lv_at hl 0 rfl) ?_
          refine q_getR C hj lk_X12_33 dX12_areGiven_96 hf (fun v18 hf => ?_)
          refine lv_iload_n hx hb dX12_areGiven_99 rfl (lv_at hl 2 rfl) ?_
          refine q_aldI C hj dX12_areGiven_100 hf (fun v19 hf => ?_)
          refine q_cSRI C hj cw_X12_433 (As := [.int v19]) (rest := [.int x2, .int v17, .int 0, .ref (q_ad E v14), .ref (q_ad E x0)]) hf (fun v9 h9 => c_X12_personOf l E h9) rfl hl rfl rfl rfl dX12_areGiven_101 ⟨Nat.zero_le _, Nat.zero_le _⟩ (fun v20 hf => ?_)
          refine q_cVWV C hj cw_X12_439 (As := [.ref (q_ad E v14), .int 0, .int v17, .int x2, .int v20]) (rest := []) hf (fun g9 h9 => c_X12_does l E h9) rfl hl rfl rfl rfl dX12_areGiven_104 ⟨Nat.zero_le _, Nat.zero_le _⟩ (fun g21 H locs hj hf => ?_)
          refine lv_iinc (v := x2 + 1) (lv' := [(2, .int (x2 + 1)), (0, .ref (q_ad E x0)), (1, .int x1)]) hx hb dX12_areGiven_107 hl (k := 2) rfl (by rw [qi_1]) (by decide) rfl (fun ls hl => ?_)
          refine lv_goto (tgt := 19) hx hb dX12_areGiven_110 (by decide) ?_
          exact ih _ _ _ _ _ _ ls hj (lv_sub hl [1, 2, 0] rfl) hf
        · refine lv_iconst (v := 0) hx hb dX12_areGiven_77 qi_0 ?_
          exact q_z0retW C hj dX12_areGiven_78 hf
      · refine lv_goto (tgt := 107) hx hb dX12_areGiven_43 (by decide) ?_
        refine lv_iinc (v := x2 + 1) (lv' := [(2, .int (x2 + 1)), (0, .ref (q_ad E x0)), (1, .int x1)]) hx hb dX12_areGiven_107 hl (k := 2) rfl (by rw [qi_1]) (by decide) rfl (fun ls hl => ?_)
        refine lv_goto (tgt := 19) hx hb dX12_areGiven_110 (by decide) ?_
        exact ih _ _ _ _ _ _ ls hj (lv_sub hl [1, 2, 0] rfl) hf
def L_X12_areGiven_6  : Nat → Nat → Int32 → qS → Option (Int32 × qS)
  | 0, _, _, _ => none
  | n + 1, x0, x1, g => (g_R g x0 11 3).bind fun v1 => (g_I g v1 10 0).bind fun v2 => if v2 ≤ x1 then (some (1, g)) else (L_X12_areGiven_19 (fun y3 y4 g5 => L_X12_areGiven_6 n y3 (y4 + 1) g5) 1000000000 x0 x1 0 g)
set_option maxHeartbeats 4000000 in
set_option maxRecDepth 100000 in
theorem w_L_X12_areGiven_6 {l : Launch} {E : qV} {p : Program} {e : Env} {s : State} {m : MethodId} {args : Array Value} {below : List Frame} {meth : Method} {c : Code}  {res : (Int32 × qS)} (C : q_C E p s m args meth c cX12_areGiven RX12 3 (some .boolean))  : ∀ {n : Nat} {x0 : Nat} {x1 : Int32} {g : qS} {H : Heap} {locs : List Loc} {ls : Array Slot}, q_J E s g H locs → lv_has ls 3 [(0, .ref (q_ad E x0)), (1, .int x1)] → L_X12_areGiven_6 n x0 x1 g = some res → W p l e (q_rm 4 95) s m args below meth c H locs 0 0 (q_ZW E below (some (.int res.1)) res.2 args s) (F0 m 6 ls []) := by
  have hx := C.1
  have hb := C.2.1
  intro n
  induction n with
  | zero =>
    intro x0 x1 g H locs ls hj hl hf
    cases hf
  | succ n ih_ =>
    intro x0 x1 g H locs ls hj hl hf
    have ih : ∀ (x0 : Nat) (x1 : Int32) (g : qS) (H : Heap) (locs : List Loc) (ls : Array Slot), q_J E s g H locs → lv_has ls 3 [(0, .ref (q_ad E x0)), (1, .int x1)] → L_X12_areGiven_6 n x0 x1 g = some res → W p l e (q_rm 4 95) s m args below meth c H locs 0 0 (q_ZW E below (some (.int res.1)) res.2 args s) (F0 m 6 ls []) := fun x0 x1 g H locs ls hj hl hf => ih_ hj hl hf
    unfold L_X12_areGiven_6 at hf
    refine lv_iload_n hx hb dX12_areGiven_6 rfl (lv_at hl 1 rfl) ?_
    refine lv_aload_n hx hb dX12_areGiven_7 rfl (lv_at hl 0 rfl) ?_
    refine q_getR C hj lk_X12_369 dX12_areGiven_8 hf (fun v1 hf => ?_)
    refine q_getI C hj lk_X12_166 dX12_areGiven_11 hf (fun v2 hf => ?_)
    refine q_icge C (tgt := 119) dX12_areGiven_14 (by decide) hf (fun hf => ?_) (fun hf => ?_)
    · refine lv_iconst (v := 1) hx hb dX12_areGiven_119 qi_1 ?_
      exact q_z1retW C hj dX12_areGiven_120 hf
    · refine lv_iconst (v := 0) hx hb dX12_areGiven_17 qi_0 ?_
      refine lv_istore_n (lv' := [(2, .int 0), (0, .ref (q_ad E x0)), (1, .int x1)]) hx hb dX12_areGiven_18 rfl hl (by decide) rfl (fun ls hl => ?_)
      refine w_L_X12_areGiven_19 C (fun y3 y4 g5 H locs ls hj hl hf => ?_) hj (lv_sub hl [1, 2, 0] rfl) hf
      · refine lv_iinc (v := y4 + 1) (lv' := [(1, .int (y4 + 1)), (0, .ref (q_ad E y3))]) hx hb dX12_areGiven_113 hl (k := 1) rfl (by rw [qi_1]) (by decide) rfl (fun ls hl => ?_)
        refine lv_goto (tgt := 6) hx hb dX12_areGiven_116 (by decide) ?_
        exact ih _ _ _ _ _ ls hj (lv_sub hl [1, 0] rfl) hf
def f_X12_areGiven (g : qS) (a0 : Nat) : Option (Int32 × qS) := (g_C g a0 11).bind fun _ => (f_X12_starts g a0).bind fun g1 => L_X12_areGiven_6 1000000000 a0 0 g1
set_option maxHeartbeats 4000000 in
set_option maxRecDepth 100000 in
theorem c_X12_areGiven (l : Launch) (E : qV) {g : qS} {a0 : Nat} {res : (Int32 × qS)} (hf : f_X12_areGiven g a0 = some res) : q_MW l yX12_areGiven cX12_areGiven 3 (some .boolean) 4 95 E [.ref (q_ad E a0)] g (some (.int res.1)) res.2 ∧ ∃ fs, g a0 = some (.inr (11, fs)) := by
  unfold f_X12_areGiven at hf
  obtain ⟨u9, hu9, hf⟩ := q_ob hf
  refine ⟨q_ofW (by decide) rfl ?_, g_C_sp hu9⟩
  intro p e s m args below meth c ls C hj hl
  have hx := C.1
  have hb := C.2.1
  have C : q_C E p s m args meth c cX12_areGiven RX12 3 (some .boolean) := C
  have hl : lv_has ls 3 [(0, .ref (q_ad E a0))] := hl
  refine lv_aload_n hx hb dX12_areGiven_0 rfl (lv_at hl 0 rfl) ?_
  refine q_cVWV C hj cw_X12_436 (As := []) (rest := []) hf (fun g9 h9 => c_X12_starts l E h9) rfl hl rfl rfl rfl dX12_areGiven_1 ⟨Nat.zero_le _, Nat.zero_le _⟩ (fun g1 H locs hj hf => ?_)
  refine lv_iconst (v := 0) hx hb dX12_areGiven_4 qi_0 ?_
  refine lv_istore_n (lv' := [(1, .int 0), (0, .ref (q_ad E a0))]) hx hb dX12_areGiven_5 rfl hl (by decide) rfl (fun ls hl => ?_)
  refine w_L_X12_areGiven_6 C  hj (lv_sub hl [1, 0] rfl) hf
def J_X12_gives_63 (k31 : Nat → Int32 → Int32 → qS → Option (Int32 × qS)) (x0 : Nat) (x2 : Int32) (x3 : Int32) (g : qS) : Option (Int32 × qS) := (g_R g x0 11 22).bind fun v1 => (a_I g v1 x3).bind fun v2 => (s_I g v1 x3 (v2 + 1)).bind fun g3 => k31 x0 x2 x3 g3
set_option maxHeartbeats 4000000 in
set_option maxRecDepth 100000 in
theorem w_J_X12_gives_63 {l : Launch} {E : qV} {p : Program} {e : Env} {s : State} {m : MethodId} {args : Array Value} {below : List Frame} {meth : Method} {c : Code} {k31 : Nat → Int32 → Int32 → qS → Option (Int32 × qS)} {res : (Int32 × qS)} (C : q_C E p s m args meth c cX12_gives RX12 4 (some .boolean)) (hk31 : ∀ (x0 : Nat) (x2 : Int32) (x3 : Int32) (g : qS) (H : Heap) (locs : List Loc) (ls : Array Slot), q_J E s g H locs → lv_has ls 4 [(0, .ref (q_ad E x0)), (2, .int x2), (3, .int x3)] → k31 x0 x2 x3 g = some res → W p l e (q_rm 5 120) s m args below meth c H locs 0 0 (q_ZW E below (some (.int res.1)) res.2 args s) (F0 m 31 ls [])) : ∀ {x0 : Nat} {x2 : Int32} {x3 : Int32} {g : qS} {H : Heap} {locs : List Loc} {ls : Array Slot}, q_J E s g H locs → lv_has ls 4 [(0, .ref (q_ad E x0)), (2, .int x2), (3, .int x3)] → J_X12_gives_63 k31 x0 x2 x3 g = some res → W p l e (q_rm 5 120) s m args below meth c H locs 0 0 (q_ZW E below (some (.int res.1)) res.2 args s) (F0 m 63 ls []) := by
  have hx := C.1
  have hb := C.2.1
  intro x0 x2 x3 g H locs ls hj hl hf
  unfold J_X12_gives_63 at hf
  refine lv_aload_n hx hb dX12_gives_63 rfl (lv_at hl 0 rfl) ?_
  refine q_getR C hj lk_X12_33 dX12_gives_64 hf (fun v1 hf => ?_)
  refine lv_iload_n hx hb dX12_gives_67 rfl (lv_at hl 2 rfl) ?_
  refine lv_dup2_11 hx hb dX12_gives_68 rfl rfl ?_
  refine q_aldI C hj dX12_gives_69 hf (fun v2 hf => ?_)
  refine lv_iconst (v := 1) hx hb dX12_gives_70 qi_1 ?_
  refine lv_iadd hx hb dX12_gives_71 ?_
  refine q_astI C hj dX12_gives_72 hf (fun g3 H locs hj hf => ?_)
  refine lv_goto (tgt := 31) hx hb dX12_gives_73 (by decide) ?_
  exact hk31 _ _ _ _ _ _ ls hj (lv_sub hl [0, 1, 2] rfl) hf
def L_X12_gives_31 (k76 : Nat → Int32 → Int32 → qS → Option (Int32 × qS)) : Nat → Nat → Int32 → Int32 → qS → Option (Int32 × qS)
  | 0, _, _, _, _ => none
  | n + 1, x0, x2, x3, g => (g_R g x0 11 22).bind fun v1 => (a_I g v1 x3).bind fun v2 => if x2 ≤ v2 then (k76 x0 x2 x3 g) else ((g_R g x0 11 22).bind fun v3 => (a_I g v3 x3).bind fun v4 => q_b2 (f_X12_isAlone g x0 x3 v4) fun v6 g5 => if v6 = 0 then (J_X12_gives_63 (L_X12_gives_31 k76 n) x0 x2 x3 g5) else ((f_X12_isFree g5 x0 x3).bind fun v10 => if v10 = 0 then (J_X12_gives_63 (L_X12_gives_31 k76 n) x0 x2 x3 g5) else (k76 x0 x2 x3 g5)))
set_option maxHeartbeats 4000000 in
set_option maxRecDepth 100000 in
theorem w_L_X12_gives_31 {l : Launch} {E : qV} {p : Program} {e : Env} {s : State} {m : MethodId} {args : Array Value} {below : List Frame} {meth : Method} {c : Code} {k76 : Nat → Int32 → Int32 → qS → Option (Int32 × qS)} {res : (Int32 × qS)} (C : q_C E p s m args meth c cX12_gives RX12 4 (some .boolean)) (hk76 : ∀ (x0 : Nat) (x2 : Int32) (x3 : Int32) (g : qS) (H : Heap) (locs : List Loc) (ls : Array Slot), q_J E s g H locs → lv_has ls 4 [(0, .ref (q_ad E x0)), (2, .int x2), (3, .int x3)] → k76 x0 x2 x3 g = some res → W p l e (q_rm 5 120) s m args below meth c H locs 0 0 (q_ZW E below (some (.int res.1)) res.2 args s) (F0 m 76 ls [])) : ∀ {n : Nat} {x0 : Nat} {x2 : Int32} {x3 : Int32} {g : qS} {H : Heap} {locs : List Loc} {ls : Array Slot}, q_J E s g H locs → lv_has ls 4 [(0, .ref (q_ad E x0)), (2, .int x2), (3, .int x3)] → L_X12_gives_31 k76 n x0 x2 x3 g = some res → W p l e (q_rm 5 120) s m args below meth c H locs 0 0 (q_ZW E below (some (.int res.1)) res.2 args s) (F0 m 31 ls []) := by
  have hx := C.1
  have hb := C.2.1
  intro n
  induction n with
  | zero =>
    intro x0 x2 x3 g H locs ls hj hl hf
    cases hf
  | succ n ih_ =>
    intro x0 x2 x3 g H locs ls hj hl hf
    have ih : ∀ (x0 : Nat) (x2 : Int32) (x3 : Int32) (g : qS) (H : Heap) (locs : List Loc) (ls : Array Slot), q_J E s g H locs → lv_has ls 4 [(0, .ref (q_ad E x0)), (2, .int x2), (3, .int x3)] → L_X12_gives_31 k76 n x0 x2 x3 g = some res → W p l e (q_rm 5 120) s m args below meth c H locs 0 0 (q_ZW E below (some (.int res.1)) res.2 args s) (F0 m 31 ls []) := fun x0 x2 x3 g H locs ls hj hl hf => ih_ hj hl hf
    unfold L_X12_gives_31 at hf
    refine lv_aload_n hx hb dX12_gives_31 rfl (lv_at hl 0 rfl) ?_
    refine q_getR C hj lk_X12_33 dX12_gives_32 hf (fun v1 hf => ?_)
    refine lv_iload_n hx hb dX12_gives_35 rfl (lv_at hl 2 rfl) ?_
    refine q_aldI C hj dX12_gives_36 hf (fun v2 hf => ?_)
    refine lv_iload_n hx hb dX12_gives_37 rfl (lv_at hl 1 rfl) ?_
    refine q_icge C (tgt := 76) dX12_gives_38 (by decide) hf (fun hf => ?_) (fun hf => ?_)
    · exact hk76 _ _ _ _ _ _ ls hj (lv_sub hl [0, 1, 2] rfl) hf
    · refine lv_aload_n hx hb dX12_gives_41 rfl (lv_at hl 0 rfl) ?_
      refine lv_iload_n hx hb dX12_gives_42 rfl (lv_at hl 2 rfl) ?_
      refine lv_aload_n hx hb dX12_gives_43 rfl (lv_at hl 0 rfl) ?_
      refine q_getR C hj lk_X12_33 dX12_gives_44 hf (fun v3 hf => ?_)
      refine lv_iload_n hx hb dX12_gives_47 rfl (lv_at hl 2 rfl) ?_
      refine q_aldI C hj dX12_gives_48 hf (fun v4 hf => ?_)
      refine q_cVWI C hj cw_X12_446 (As := [.int x3, .int v4]) (rest := []) hf (fun v9 g9 h9 => c_X12_isAlone l E h9) rfl hl rfl rfl rfl dX12_gives_49 ⟨Nat.zero_le _, Nat.zero_le _⟩ (fun v6 g5 H locs hj hf => ?_)
      refine q_ifeq C (tgt := 63) dX12_gives_52 (by decide) hf (fun hf => ?_) (fun hf => ?_)
      · refine w_J_X12_gives_63 C ih hj (lv_sub hl [0, 1, 2] rfl) hf
      · refine lv_aload_n hx hb dX12_gives_55 rfl (lv_at hl 0 rfl) ?_
        refine lv_iload_n hx hb dX12_gives_56 rfl (lv_at hl 2 rfl) ?_
        refine q_cVRI C hj cw_X12_450 (As := [.int x3]) (rest := []) hf (fun v9 h9 => c_X12_isFree l E h9) rfl hl rfl rfl rfl dX12_gives_57 ⟨Nat.zero_le _, Nat.zero_le _⟩ (fun v10 hf => ?_)
        refine q_ifne C (tgt := 76) dX12_gives_60 (by decide) hf (fun hf => ?_) (fun hf => ?_)
        · exact hk76 _ _ _ _ _ _ ls hj (lv_sub hl [0, 1, 2] rfl) hf
        · refine w_J_X12_gives_63 C ih hj (lv_sub hl [0, 1, 2] rfl) hf
def J_X12_gives_76 (k17 : Nat → Int32 → Int32 → qS → Option (Int32 × qS)) (x0 : Nat) (x2 : Int32) (x3 : Int32) (g : qS) : Option (Int32 × qS) := (g_R g x0 11 22).bind fun v1 => (a_I g v1 x3).bind fun v2 => if v2 < x2 then ((g_R g x0 11 3).bind fun v3 => (g_I g v3 10 2).bind fun v4 => if v4 ≤ (x3 + 1) then (q_b2 (f_X12_areGiven g x0) fun v6 g5 => if v6 = 0 then (k17 x0 x2 x3 g5) else (some (1, g5))) else ((g_R g x0 11 22).bind fun v7 => (s_I g v7 (x3 + 1) (-1)).bind fun g8 => k17 x0 x2 (x3 + 1) g8)) else (k17 x0 x2 (x3 + (-1)) g)
set_option maxHeartbeats 4000000 in
set_option maxRecDepth 100000 in
theorem w_J_X12_gives_76 {l : Launch} {E : qV} {p : Program} {e : Env} {s : State} {m : MethodId} {args : Array Value} {below : List Frame} {meth : Method} {c : Code} {k17 : Nat → Int32 → Int32 → qS → Option (Int32 × qS)} {res : (Int32 × qS)} (C : q_C E p s m args meth c cX12_gives RX12 4 (some .boolean)) (hk17 : ∀ (x0 : Nat) (x2 : Int32) (x3 : Int32) (g : qS) (H : Heap) (locs : List Loc) (ls : Array Slot), q_J E s g H locs → lv_has ls 4 [(0, .ref (q_ad E x0)), (2, .int x2), (3, .int x3)] → k17 x0 x2 x3 g = some res → W p l e (q_rm 5 120) s m args below meth c H locs 0 0 (q_ZW E below (some (.int res.1)) res.2 args s) (F0 m 17 ls [])) : ∀ {x0 : Nat} {x2 : Int32} {x3 : Int32} {g : qS} {H : Heap} {locs : List Loc} {ls : Array Slot}, q_J E s g H locs → lv_has ls 4 [(0, .ref (q_ad E x0)), (2, .int x2), (3, .int x3)] → J_X12_gives_76 k17 x0 x2 x3 g = some res → W p l e (q_rm 5 120) s m args below meth c H locs 0 0 (q_ZW E below (some (.int res.1)) res.2 args s) (F0 m 76 ls []) := by
  have hx := C.1
  have hb := C.2.1
  intro x0 x2 x3 g H locs ls hj hl hf
  unfold J_X12_gives_76 at hf
  refine lv_aload_n hx hb dX12_gives_76 rfl (lv_at hl 0 rfl) ?_
  refine q_getR C hj lk_X12_33 dX12_gives_77 hf (fun v1 hf => ?_)
  refine lv_iload_n hx hb dX12_gives_80 rfl (lv_at hl 2 rfl) ?_
  refine q_aldI C hj dX12_gives_81 hf (fun v2 hf => ?_)
  refine lv_iload_n hx hb dX12_gives_82 rfl (lv_at hl 1 rfl) ?_
  refine q_iclt C (tgt := 92) dX12_gives_83 (by decide) hf (fun hf => ?_) (fun hf => ?_)
  · refine lv_iload_n hx hb dX12_gives_92 rfl (lv_at hl 2 rfl) ?_
    refine lv_iconst (v := 1) hx hb dX12_gives_93 qi_1 ?_
    refine lv_iadd hx hb dX12_gives_94 ?_
    refine lv_aload_n hx hb dX12_gives_95 rfl (lv_at hl 0 rfl) ?_
    refine q_getR C hj lk_X12_369 dX12_gives_96 hf (fun v3 hf => ?_)
    refine q_getI C hj lk_X12_201 dX12_gives_99 hf (fun v4 hf => ?_)
    refine q_icge C (tgt := 118) dX12_gives_102 (by decide) hf (fun hf => ?_) (fun hf => ?_)
    · refine lv_aload_n hx hb dX12_gives_118 rfl (lv_at hl 0 rfl) ?_
      refine q_cVWI C hj cw_X12_453 (As := []) (rest := []) hf (fun v9 g9 h9 => c_X12_areGiven l E h9) rfl hl rfl rfl rfl dX12_gives_119 ⟨Nat.zero_le _, Nat.zero_le _⟩ (fun v6 g5 H locs hj hf => ?_)
      refine q_ifeq C (tgt := 17) dX12_gives_122 (by decide) hf (fun hf => ?_) (fun hf => ?_)
      · exact hk17 _ _ _ _ _ _ ls hj (lv_sub hl [0, 1, 2] rfl) hf
      · refine lv_iconst (v := 1) hx hb dX12_gives_125 qi_1 ?_
        exact q_z1retW C hj dX12_gives_126 hf
    · refine lv_iinc (v := x3 + 1) (lv' := [(3, .int (x3 + 1)), (0, .ref (q_ad E x0)), (2, .int x2)]) hx hb dX12_gives_105 hl (k := 2) rfl (by rw [qi_1]) (by decide) rfl (fun ls hl => ?_)
      refine lv_aload_n hx hb dX12_gives_108 rfl (lv_at hl 1 rfl) ?_
      refine q_getR C hj lk_X12_33 dX12_gives_109 hf (fun v7 hf => ?_)
      refine lv_iload_n hx hb dX12_gives_112 rfl (lv_at hl 0 rfl) ?_
      refine lv_iconst (v := -1) hx hb dX12_gives_113 qi_m1 ?_
      refine q_astI C hj dX12_gives_114 hf (fun g8 H locs hj hf => ?_)
      refine lv_goto (tgt := 17) hx hb dX12_gives_115 (by decide) ?_
      exact hk17 _ _ _ _ _ _ ls hj (lv_sub hl [1, 2, 0] rfl) hf
  · refine lv_iinc (v := x3 + (-1)) (lv' := [(3, .int (x3 + (-1))), (0, .ref (q_ad E x0)), (2, .int x2)]) hx hb dX12_gives_86 hl (k := 2) rfl (by rw [qi_m1]) (by decide) rfl (fun ls hl => ?_)
    refine lv_goto (tgt := 17) hx hb dX12_gives_89 (by decide) ?_
    exact hk17 _ _ _ _ _ _ ls hj (lv_sub hl [1, 2, 0] rfl) hf
def L_X12_gives_17  : Nat → Nat → Int32 → Int32 → qS → Option (Int32 × qS)
  | 0, _, _, _, _ => none
  | n + 1, x0, x2, x3, g => if x3 < 0 then (some (0, g)) else ((g_R g x0 11 22).bind fun v1 => (a_I g v1 x3).bind fun v2 => (s_I g v1 x3 (v2 + 1)).bind fun g3 => L_X12_gives_31 (fun y4 y5 y6 g7 => J_X12_gives_76 (L_X12_gives_17 n) y4 y5 y6 g7) 1000000000 x0 x2 x3 g3)
set_option maxHeartbeats 4000000 in
set_option maxRecDepth 100000 in
theorem w_L_X12_gives_17 {l : Launch} {E : qV} {p : Program} {e : Env} {s : State} {m : MethodId} {args : Array Value} {below : List Frame} {meth : Method} {c : Code}  {res : (Int32 × qS)} (C : q_C E p s m args meth c cX12_gives RX12 4 (some .boolean))  : ∀ {n : Nat} {x0 : Nat} {x2 : Int32} {x3 : Int32} {g : qS} {H : Heap} {locs : List Loc} {ls : Array Slot}, q_J E s g H locs → lv_has ls 4 [(0, .ref (q_ad E x0)), (2, .int x2), (3, .int x3)] → L_X12_gives_17 n x0 x2 x3 g = some res → W p l e (q_rm 5 120) s m args below meth c H locs 0 0 (q_ZW E below (some (.int res.1)) res.2 args s) (F0 m 17 ls []) := by
  have hx := C.1
  have hb := C.2.1
  intro n
  induction n with
  | zero =>
    intro x0 x2 x3 g H locs ls hj hl hf
    cases hf
  | succ n ih_ =>
    intro x0 x2 x3 g H locs ls hj hl hf
    have ih : ∀ (x0 : Nat) (x2 : Int32) (x3 : Int32) (g : qS) (H : Heap) (locs : List Loc) (ls : Array Slot), q_J E s g H locs → lv_has ls 4 [(0, .ref (q_ad E x0)), (2, .int x2), (3, .int x3)] → L_X12_gives_17 n x0 x2 x3 g = some res → W p l e (q_rm 5 120) s m args below meth c H locs 0 0 (q_ZW E below (some (.int res.1)) res.2 args s) (F0 m 17 ls []) := fun x0 x2 x3 g H locs ls hj hl hf => ih_ hj hl hf
    unfold L_X12_gives_17 at hf
    refine lv_iload_n hx hb dX12_gives_17 rfl (lv_at hl 2 rfl) ?_
    refine q_iflt C (tgt := 127) dX12_gives_18 (by decide) hf (fun hf => ?_) (fun hf => ?_)
    · refine lv_iconst (v := 0) hx hb dX12_gives_127 qi_0 ?_
      exact q_z0retW C hj dX12_gives_128 hf
    · refine lv_aload_n hx hb dX12_gives_21 rfl (lv_at hl 0 rfl) ?_
      refine q_getR C hj lk_X12_33 dX12_gives_22 hf (fun v1 hf => ?_)
      refine lv_iload_n hx hb dX12_gives_25 rfl (lv_at hl 2 rfl) ?_
      refine lv_dup2_11 hx hb dX12_gives_26 rfl rfl ?_
      refine q_aldI C hj dX12_gives_27 hf (fun v2 hf => ?_)
      refine lv_iconst (v := 1) hx hb dX12_gives_28 qi_1 ?_
      refine lv_iadd hx hb dX12_gives_29 ?_
      refine q_astI C hj dX12_gives_30 hf (fun g3 H locs hj hf => ?_)
      refine w_L_X12_gives_31 C (fun y4 y5 y6 g7 H locs ls hj hl hf => ?_) hj (lv_sub hl [0, 1, 2] rfl) hf
      · refine w_J_X12_gives_76 C ih hj (lv_sub hl [0, 1, 2] rfl) hf
def f_X12_gives (g : qS) (a0 : Nat) (a1 : Int32) : Option (Int32 × qS) := (g_C g a0 11).bind fun _ => (g_R g a0 11 22).bind fun v1 => (s_I g v1 0 (-1)).bind fun g2 => L_X12_gives_17 1000000000 a0 (((a1 + 1) * 3) * 5) 0 g2
set_option maxHeartbeats 4000000 in
set_option maxRecDepth 100000 in
theorem c_X12_gives (l : Launch) (E : qV) {g : qS} {a0 : Nat} {a1 : Int32} {res : (Int32 × qS)} (hf : f_X12_gives g a0 a1 = some res) : q_MW l yX12_gives cX12_gives 4 (some .boolean) 5 120 E [.ref (q_ad E a0), .int a1] g (some (.int res.1)) res.2 ∧ ∃ fs, g a0 = some (.inr (11, fs)) := by
  unfold f_X12_gives at hf
  obtain ⟨u9, hu9, hf⟩ := q_ob hf
  refine ⟨q_ofW (by decide) rfl ?_, g_C_sp hu9⟩
  intro p e s m args below meth c ls C hj hl
  have hx := C.1
  have hb := C.2.1
  have C : q_C E p s m args meth c cX12_gives RX12 4 (some .boolean) := C
  have hl : lv_has ls 4 [(0, .ref (q_ad E a0)), (1, .int a1)] := hl
  refine lv_iload_n hx hb dX12_gives_0 rfl (lv_at hl 1 rfl) ?_
  refine lv_iconst (v := 1) hx hb dX12_gives_1 qi_1 ?_
  refine lv_iadd hx hb dX12_gives_2 ?_
  refine lv_iconst (v := 3) hx hb dX12_gives_3 qi_3 ?_
  refine lv_imul hx hb dX12_gives_4 ?_
  refine lv_iconst (v := 5) hx hb dX12_gives_5 qi_5 ?_
  refine lv_imul hx hb dX12_gives_6 ?_
  refine lv_istore_n (lv' := [(2, .int (((a1 + 1) * 3) * 5)), (0, .ref (q_ad E a0)), (1, .int a1)]) hx hb dX12_gives_7 rfl hl (by decide) rfl (fun ls hl => ?_)
  refine lv_iconst (v := 0) hx hb dX12_gives_8 qi_0 ?_
  refine lv_istore_n (lv' := [(3, .int 0), (2, .int (((a1 + 1) * 3) * 5)), (0, .ref (q_ad E a0)), (1, .int a1)]) hx hb dX12_gives_9 rfl hl (by decide) rfl (fun ls hl => ?_)
  refine lv_aload_n hx hb dX12_gives_10 rfl (lv_at hl 2 rfl) ?_
  refine q_getR C hj lk_X12_33 dX12_gives_11 hf (fun v1 hf => ?_)
  refine lv_iconst (v := 0) hx hb dX12_gives_14 qi_0 ?_
  refine lv_iconst (v := -1) hx hb dX12_gives_15 qi_m1 ?_
  refine q_astI C hj dX12_gives_16 hf (fun g2 H locs hj hf => ?_)
  refine w_L_X12_gives_17 C  hj (lv_sub hl [2, 1, 0] rfl) hf
def L_X12_soonestDay_2  : Nat → Nat → Int32 → qS → Option (Int32 × qS)
  | 0, _, _, _ => none
  | n + 1, x0, x1, g => (g_R g x0 11 3).bind fun v1 => (g_I g v1 10 0).bind fun v2 => if v2 ≤ x1 then (some (-2, g)) else (q_b2 (f_X12_gives g x0 x1) fun v4 g3 => if v4 = 0 then (L_X12_soonestDay_2 n x0 (x1 + 1) g3) else (some (x1, g3)))
set_option maxHeartbeats 4000000 in
set_option maxRecDepth 100000 in
theorem w_L_X12_soonestDay_2 {l : Launch} {E : qV} {p : Program} {e : Env} {s : State} {m : MethodId} {args : Array Value} {below : List Frame} {meth : Method} {c : Code}  {res : (Int32 × qS)} (C : q_C E p s m args meth c cX12_soonestDay RX12 2 (some .int))  : ∀ {n : Nat} {x0 : Nat} {x1 : Int32} {g : qS} {H : Heap} {locs : List Loc} {ls : Array Slot}, q_J E s g H locs → lv_has ls 2 [(0, .ref (q_ad E x0)), (1, .int x1)] → L_X12_soonestDay_2 n x0 x1 g = some res → W p l e (q_rm 6 143) s m args below meth c H locs 0 0 (q_ZW E below (some (.int res.1)) res.2 args s) (F0 m 2 ls []) := by
  have hx := C.1
  have hb := C.2.1
  intro n
  induction n with
  | zero =>
    intro x0 x1 g H locs ls hj hl hf
    cases hf
  | succ n ih_ =>
    intro x0 x1 g H locs ls hj hl hf
    have ih : ∀ (x0 : Nat) (x1 : Int32) (g : qS) (H : Heap) (locs : List Loc) (ls : Array Slot), q_J E s g H locs → lv_has ls 2 [(0, .ref (q_ad E x0)), (1, .int x1)] → L_X12_soonestDay_2 n x0 x1 g = some res → W p l e (q_rm 6 143) s m args below meth c H locs 0 0 (q_ZW E below (some (.int res.1)) res.2 args s) (F0 m 2 ls []) := fun x0 x1 g H locs ls hj hl hf => ih_ hj hl hf
    unfold L_X12_soonestDay_2 at hf
    refine lv_iload_n hx hb dX12_soonestDay_2 rfl (lv_at hl 1 rfl) ?_
    refine lv_aload_n hx hb dX12_soonestDay_3 rfl (lv_at hl 0 rfl) ?_
    refine q_getR C hj lk_X12_369 dX12_soonestDay_4 hf (fun v1 hf => ?_)
    refine q_getI C hj lk_X12_166 dX12_soonestDay_7 hf (fun v2 hf => ?_)
    refine q_icge C (tgt := 29) dX12_soonestDay_10 (by decide) hf (fun hf => ?_) (fun hf => ?_)
    · refine lv_bipush (v := -2) hx hb dX12_soonestDay_29 (by decide) ?_
      exact q_iretW C hj dX12_soonestDay_31 hf
    · refine lv_aload_n hx hb dX12_soonestDay_13 rfl (lv_at hl 0 rfl) ?_
      refine lv_iload_n hx hb dX12_soonestDay_14 rfl (lv_at hl 1 rfl) ?_
      refine q_cVWI C hj cw_X12_456 (As := [.int x1]) (rest := []) hf (fun v9 g9 h9 => c_X12_gives l E h9) rfl hl rfl rfl rfl dX12_soonestDay_15 ⟨Nat.zero_le _, Nat.zero_le _⟩ (fun v4 g3 H locs hj hf => ?_)
      refine q_ifeq C (tgt := 23) dX12_soonestDay_18 (by decide) hf (fun hf => ?_) (fun hf => ?_)
      · refine lv_iinc (v := x1 + 1) (lv' := [(1, .int (x1 + 1)), (0, .ref (q_ad E x0))]) hx hb dX12_soonestDay_23 hl (k := 1) rfl (by rw [qi_1]) (by decide) rfl (fun ls hl => ?_)
        refine lv_goto (tgt := 2) hx hb dX12_soonestDay_26 (by decide) ?_
        exact ih _ _ _ _ _ ls hj (lv_sub hl [1, 0] rfl) hf
      · refine lv_iload_n hx hb dX12_soonestDay_21 rfl (lv_at hl 1 rfl) ?_
        exact q_iretW C hj dX12_soonestDay_22 hf
def f_X12_soonestDay (g : qS) (a0 : Nat) : Option (Int32 × qS) := (g_C g a0 11).bind fun _ => L_X12_soonestDay_2 1000000000 a0 0 g
set_option maxHeartbeats 4000000 in
set_option maxRecDepth 100000 in
theorem c_X12_soonestDay (l : Launch) (E : qV) {g : qS} {a0 : Nat} {res : (Int32 × qS)} (hf : f_X12_soonestDay g a0 = some res) : q_MW l yX12_soonestDay cX12_soonestDay 2 (some .int) 6 143 E [.ref (q_ad E a0)] g (some (.int res.1)) res.2 ∧ ∃ fs, g a0 = some (.inr (11, fs)) := by
  unfold f_X12_soonestDay at hf
  obtain ⟨u9, hu9, hf⟩ := q_ob hf
  refine ⟨q_ofW (by decide) rfl ?_, g_C_sp hu9⟩
  intro p e s m args below meth c ls C hj hl
  have hx := C.1
  have hb := C.2.1
  have C : q_C E p s m args meth c cX12_soonestDay RX12 2 (some .int) := C
  have hl : lv_has ls 2 [(0, .ref (q_ad E a0))] := hl
  refine lv_iconst (v := 0) hx hb dX12_soonestDay_0 qi_0 ?_
  refine lv_istore_n (lv' := [(1, .int 0), (0, .ref (q_ad E a0))]) hx hb dX12_soonestDay_1 rfl hl (by decide) rfl (fun ls hl => ?_)
  refine w_L_X12_soonestDay_2 C  hj (lv_sub hl [1, 0] rfl) hf
def f_X12_soonest (g : qS) (a0 : Nat) : Option (Int32 × qS) := (g_C g a0 11).bind fun _ => (p_I g a0 11 0 0).bind fun g1 => (g_Q g1 a0 11 3).bind fun o => if o = none then (q_b2 (f_X12_refused g1 a0 1) fun v7 g6 => some (v7, g6)) else (q_b2 (f_X12_soonestDay g1 a0) fun v3 g2 => q_b2 (f_X12_good g2 a0 v3) fun v5 g4 => some (v5, g4))
set_option maxHeartbeats 4000000 in
set_option maxRecDepth 100000 in
theorem c_X12_soonest (l : Launch) (E : qV) {g : qS} {a0 : Nat} {res : (Int32 × qS)} (hf : f_X12_soonest g a0 = some res) : q_MW l yX12_soonest cX12_soonest 1 (some .int) 7 164 E [.ref (q_ad E a0)] g (some (.int res.1)) res.2 ∧ ∃ fs, g a0 = some (.inr (11, fs)) := by
  unfold f_X12_soonest at hf
  obtain ⟨u9, hu9, hf⟩ := q_ob hf
  refine ⟨q_ofW (by decide) rfl ?_, g_C_sp hu9⟩
  intro p e s m args below meth c ls C hj hl
  have hx := C.1
  have hb := C.2.1
  have C : q_C E p s m args meth c cX12_soonest RX12 1 (some .int) := C
  have hl : lv_has ls 1 [(0, .ref (q_ad E a0))] := hl
  refine lv_aload_n hx hb dX12_soonest_0 rfl (lv_at hl 0 rfl) ?_
  refine lv_iconst (v := 0) hx hb dX12_soonest_1 qi_0 ?_
  refine q_putI C hj fp_X12_48 dX12_soonest_2 hf (fun g1 H locs hj hf => ?_)
  refine lv_aload_n hx hb dX12_soonest_5 rfl (lv_at hl 0 rfl) ?_
  refine q_gnnull C hj lk_X12_369 dX12_soonest_6 (tgt := 20) dX12_soonest_9 (by decide) hf (fun hf => ?_) (fun hf => ?_)
  · refine lv_aload_n hx hb dX12_soonest_20 rfl (lv_at hl 0 rfl) ?_
    refine lv_aload_n hx hb dX12_soonest_21 rfl (lv_at hl 0 rfl) ?_
    refine q_cVWI C hj cw_X12_458 (As := []) (rest := [.ref (q_ad E a0)]) hf (fun v9 g9 h9 => c_X12_soonestDay l E h9) rfl hl rfl rfl rfl dX12_soonest_22 ⟨Nat.zero_le _, Nat.zero_le _⟩ (fun v3 g2 H locs hj hf => ?_)
    refine q_cVWI C hj cw_X12_58 (As := [.int v3]) (rest := []) hf (fun v9 g9 h9 => c_X12_good l E h9) rfl hl rfl rfl rfl dX12_soonest_25 ⟨Nat.zero_le _, Nat.zero_le _⟩ (fun v5 g4 H locs hj hf => ?_)
    exact q_iretW C hj dX12_soonest_28 hf
  · refine lv_aload_n hx hb dX12_soonest_12 rfl (lv_at hl 0 rfl) ?_
    refine lv_iconst (v := 1) hx hb dX12_soonest_13 qi_1 ?_
    refine q_cVWI C hj cw_X12_54 (As := [.int 1]) (rest := []) hf (fun v9 g9 h9 => c_X12_refused l E h9) rfl hl rfl rfl rfl dX12_soonest_14 ⟨Nat.zero_le _, Nat.zero_le _⟩ (fun v7 g6 H locs hj hf => ?_)
    refine lv_goto (tgt := 28) hx hb dX12_soonest_17 (by decide) ?_
    exact q_iretW C hj dX12_soonest_28 hf
def f_X12_soonestOf (g : qS) (a0 : Nat) (a1 : Int32) : Option (Int32 × qS) := (g_C g a0 11).bind fun _ => (p_I g a0 11 0 0).bind fun g1 => (f_X12_isThing g1 a0 a1).bind fun v2 => if v2 = 0 then (q_b2 (f_X12_refused g1 a0 1) fun v19 g18 => some (v19, g18)) else (q_b2 (f_X12_soonestDay g1 a0) fun v4 g3 => if v4 = (-2) then (q_b2 (f_X12_refused g3 a0 6) fun v17 g16 => some (v17, g16)) else ((g_R g3 a0 11 22).bind fun v5 => (a_I g3 v5 a1).bind fun v6 => (f_X12_dayOf g3 v6).bind fun v7 => (g_R g3 a0 11 22).bind fun v8 => (a_I g3 v8 a1).bind fun v9 => (f_X12_giverOf g3 v9).bind fun v10 => (g_R g3 a0 11 22).bind fun v11 => (a_I g3 v11 a1).bind fun v12 => (f_X12_personOf g3 v12).bind fun v13 => q_b2 (f_X12_good g3 a0 (((100 * v7) + (10 * v10)) + v13)) fun v15 g14 => some (v15, g14)))
set_option maxHeartbeats 4000000 in
set_option maxRecDepth 100000 in
theorem c_X12_soonestOf (l : Launch) (E : qV) {g : qS} {a0 : Nat} {a1 : Int32} {res : (Int32 × qS)} (hf : f_X12_soonestOf g a0 a1 = some res) : q_MW l yX12_soonestOf cX12_soonestOf 2 (some .int) 7 164 E [.ref (q_ad E a0), .int a1] g (some (.int res.1)) res.2 ∧ ∃ fs, g a0 = some (.inr (11, fs)) := by
  unfold f_X12_soonestOf at hf
  obtain ⟨u9, hu9, hf⟩ := q_ob hf
  refine ⟨q_ofW (by decide) rfl ?_, g_C_sp hu9⟩
  intro p e s m args below meth c ls C hj hl
  have hx := C.1
  have hb := C.2.1
  have C : q_C E p s m args meth c cX12_soonestOf RX12 2 (some .int) := C
  have hl : lv_has ls 2 [(0, .ref (q_ad E a0)), (1, .int a1)] := hl
  refine lv_aload_n hx hb dX12_soonestOf_0 rfl (lv_at hl 0 rfl) ?_
  refine lv_iconst (v := 0) hx hb dX12_soonestOf_1 qi_0 ?_
  refine q_putI C hj fp_X12_48 dX12_soonestOf_2 hf (fun g1 H locs hj hf => ?_)
  refine lv_aload_n hx hb dX12_soonestOf_5 rfl (lv_at hl 0 rfl) ?_
  refine lv_iload_n hx hb dX12_soonestOf_6 rfl (lv_at hl 1 rfl) ?_
  refine q_cVRI C hj cw_X12_405 (As := [.int a1]) (rest := []) hf (fun v9 h9 => c_X12_isThing l E h9) rfl hl rfl rfl rfl dX12_soonestOf_7 ⟨Nat.zero_le _, Nat.zero_le _⟩ (fun v2 hf => ?_)
  refine q_ifne C (tgt := 19) dX12_soonestOf_10 (by decide) hf (fun hf => ?_) (fun hf => ?_)
  · refine lv_aload_n hx hb dX12_soonestOf_19 rfl (lv_at hl 0 rfl) ?_
    refine q_cVWI C hj cw_X12_458 (As := []) (rest := []) hf (fun v9 g9 h9 => c_X12_soonestDay l E h9) rfl hl rfl rfl rfl dX12_soonestOf_20 ⟨Nat.zero_le _, Nat.zero_le _⟩ (fun v4 g3 H locs hj hf => ?_)
    refine lv_bipush (v := -2) hx hb dX12_soonestOf_23 (by decide) ?_
    refine q_icne C (tgt := 35) dX12_soonestOf_25 (by decide) hf (fun hf => ?_) (fun hf => ?_)
    · refine lv_aload_n hx hb dX12_soonestOf_35 rfl (lv_at hl 0 rfl) ?_
      refine lv_bipush (v := 100) hx hb dX12_soonestOf_36 (by decide) ?_
      refine lv_aload_n hx hb dX12_soonestOf_38 rfl (lv_at hl 0 rfl) ?_
      refine q_getR C hj lk_X12_33 dX12_soonestOf_39 hf (fun v5 hf => ?_)
      refine lv_iload_n hx hb dX12_soonestOf_42 rfl (lv_at hl 1 rfl) ?_
      refine q_aldI C hj dX12_soonestOf_43 hf (fun v6 hf => ?_)
      refine q_cSRI C hj cw_X12_427 (As := [.int v6]) (rest := [.int 100, .ref (q_ad E a0)]) hf (fun v9 h9 => c_X12_dayOf l E h9) rfl hl rfl rfl rfl dX12_soonestOf_44 ⟨Nat.zero_le _, Nat.zero_le _⟩ (fun v7 hf => ?_)
      refine lv_imul hx hb dX12_soonestOf_47 ?_
      refine lv_bipush (v := 10) hx hb dX12_soonestOf_48 (by decide) ?_
      refine lv_aload_n hx hb dX12_soonestOf_50 rfl (lv_at hl 0 rfl) ?_
      refine q_getR C hj lk_X12_33 dX12_soonestOf_51 hf (fun v8 hf => ?_)
      refine lv_iload_n hx hb dX12_soonestOf_54 rfl (lv_at hl 1 rfl) ?_
      refine q_aldI C hj dX12_soonestOf_55 hf (fun v9 hf => ?_)
      refine q_cSRI C hj cw_X12_430 (As := [.int v9]) (rest := [.int 10, .int (100 * v7), .ref (q_ad E a0)]) hf (fun v9 h9 => c_X12_giverOf l E h9) rfl hl rfl rfl rfl dX12_soonestOf_56 ⟨Nat.zero_le _, Nat.zero_le _⟩ (fun v10 hf => ?_)
      refine lv_imul hx hb dX12_soonestOf_59 ?_
      refine lv_iadd hx hb dX12_soonestOf_60 ?_
      refine lv_aload_n hx hb dX12_soonestOf_61 rfl (lv_at hl 0 rfl) ?_
      refine q_getR C hj lk_X12_33 dX12_soonestOf_62 hf (fun v11 hf => ?_)
      refine lv_iload_n hx hb dX12_soonestOf_65 rfl (lv_at hl 1 rfl) ?_
      refine q_aldI C hj dX12_soonestOf_66 hf (fun v12 hf => ?_)
      refine q_cSRI C hj cw_X12_433 (As := [.int v12]) (rest := [.int ((100 * v7) + (10 * v10)), .ref (q_ad E a0)]) hf (fun v9 h9 => c_X12_personOf l E h9) rfl hl rfl rfl rfl dX12_soonestOf_67 ⟨Nat.zero_le _, Nat.zero_le _⟩ (fun v13 hf => ?_)
      refine lv_iadd hx hb dX12_soonestOf_70 ?_
      refine q_cVWI C hj cw_X12_58 (As := [.int (((100 * v7) + (10 * v10)) + v13)]) (rest := []) hf (fun v9 g9 h9 => c_X12_good l E h9) rfl hl rfl rfl rfl dX12_soonestOf_71 ⟨Nat.zero_le _, Nat.zero_le _⟩ (fun v15 g14 H locs hj hf => ?_)
      exact q_iretW C hj dX12_soonestOf_74 hf
    · refine lv_aload_n hx hb dX12_soonestOf_28 rfl (lv_at hl 0 rfl) ?_
      refine lv_bipush (v := 6) hx hb dX12_soonestOf_29 (by decide) ?_
      refine q_cVWI C hj cw_X12_54 (As := [.int 6]) (rest := []) hf (fun v9 g9 h9 => c_X12_refused l E h9) rfl hl rfl rfl rfl dX12_soonestOf_31 ⟨Nat.zero_le _, Nat.zero_le _⟩ (fun v17 g16 H locs hj hf => ?_)
      exact q_iretW C hj dX12_soonestOf_34 hf
  · refine lv_aload_n hx hb dX12_soonestOf_13 rfl (lv_at hl 0 rfl) ?_
    refine lv_iconst (v := 1) hx hb dX12_soonestOf_14 qi_1 ?_
    refine q_cVWI C hj cw_X12_54 (As := [.int 1]) (rest := []) hf (fun v9 g9 h9 => c_X12_refused l E h9) rfl hl rfl rfl rfl dX12_soonestOf_15 ⟨Nat.zero_le _, Nat.zero_le _⟩ (fun v19 g18 H locs hj hf => ?_)
    exact q_iretW C hj dX12_soonestOf_18 hf
def L_X12_never_38 (k63 : Nat → Int32 → Int32 → Int32 → qS → Option (Int32 × qS)) : Nat → Nat → Int32 → Int32 → Int32 → Int32 → qS → Option (Int32 × qS)
  | 0, _, _, _, _, _, _ => none
  | n + 1, x0, x1, x2, x3, x4, g => if 105 ≤ x4 then (k63 x0 x1 x2 x3 g) else (if x3 = 0 then (q_b2 (f_X12_isAlone g x0 x2 x4) fun v2 g1 => L_X12_never_38 k63 n x0 x1 x2 v2 (x4 + 1) g1) else (k63 x0 x1 x2 x3 g))
set_option maxHeartbeats 4000000 in
set_option maxRecDepth 100000 in
theorem w_L_X12_never_38 {l : Launch} {E : qV} {p : Program} {e : Env} {s : State} {m : MethodId} {args : Array Value} {below : List Frame} {meth : Method} {c : Code} {k63 : Nat → Int32 → Int32 → Int32 → qS → Option (Int32 × qS)} {res : (Int32 × qS)} (C : q_C E p s m args meth c cX12_never RX12 5 (some .int)) (hk63 : ∀ (x0 : Nat) (x1 : Int32) (x2 : Int32) (x3 : Int32) (g : qS) (H : Heap) (locs : List Loc) (ls : Array Slot), q_J E s g H locs → lv_has ls 5 [(0, .ref (q_ad E x0)), (1, .int x1), (2, .int x2), (3, .int x3)] → k63 x0 x1 x2 x3 g = some res → W p l e (q_rm 5 120) s m args below meth c H locs 0 0 (q_ZW E below (some (.int res.1)) res.2 args s) (F0 m 63 ls [])) : ∀ {n : Nat} {x0 : Nat} {x1 : Int32} {x2 : Int32} {x3 : Int32} {x4 : Int32} {g : qS} {H : Heap} {locs : List Loc} {ls : Array Slot}, q_J E s g H locs → lv_has ls 5 [(0, .ref (q_ad E x0)), (1, .int x1), (2, .int x2), (3, .int x3), (4, .int x4)] → L_X12_never_38 k63 n x0 x1 x2 x3 x4 g = some res → W p l e (q_rm 5 120) s m args below meth c H locs 0 0 (q_ZW E below (some (.int res.1)) res.2 args s) (F0 m 38 ls []) := by
  have hx := C.1
  have hb := C.2.1
  intro n
  induction n with
  | zero =>
    intro x0 x1 x2 x3 x4 g H locs ls hj hl hf
    cases hf
  | succ n ih_ =>
    intro x0 x1 x2 x3 x4 g H locs ls hj hl hf
    have ih : ∀ (x0 : Nat) (x1 : Int32) (x2 : Int32) (x3 : Int32) (x4 : Int32) (g : qS) (H : Heap) (locs : List Loc) (ls : Array Slot), q_J E s g H locs → lv_has ls 5 [(0, .ref (q_ad E x0)), (1, .int x1), (2, .int x2), (3, .int x3), (4, .int x4)] → L_X12_never_38 k63 n x0 x1 x2 x3 x4 g = some res → W p l e (q_rm 5 120) s m args below meth c H locs 0 0 (q_ZW E below (some (.int res.1)) res.2 args s) (F0 m 38 ls []) := fun x0 x1 x2 x3 x4 g H locs ls hj hl hf => ih_ hj hl hf
    unfold L_X12_never_38 at hf
    refine lv_iload hx hb dX12_never_38 (lv_at hl 4 rfl) ?_
    refine lv_bipush (v := 105) hx hb dX12_never_40 (by decide) ?_
    refine q_icge C (tgt := 63) dX12_never_42 (by decide) hf (fun hf => ?_) (fun hf => ?_)
    · exact hk63 _ _ _ _ _ _ _ ls hj (lv_sub hl [0, 1, 2, 3] rfl) hf
    · refine lv_iload_n hx hb dX12_never_45 rfl (lv_at hl 3 rfl) ?_
      refine q_ifne C (tgt := 63) dX12_never_46 (by decide) hf (fun hf => ?_) (fun hf => ?_)
      · exact hk63 _ _ _ _ _ _ _ ls hj (lv_sub hl [0, 1, 2, 3] rfl) hf
      · refine lv_aload_n hx hb dX12_never_49 rfl (lv_at hl 0 rfl) ?_
        refine lv_iload_n hx hb dX12_never_50 rfl (lv_at hl 2 rfl) ?_
        refine lv_iload hx hb dX12_never_51 (lv_at hl 4 rfl) ?_
        refine q_cVWI C hj cw_X12_446 (As := [.int x2, .int x4]) (rest := []) hf (fun v9 g9 h9 => c_X12_isAlone l E h9) rfl hl rfl rfl rfl dX12_never_53 ⟨Nat.zero_le _, Nat.zero_le _⟩ (fun v2 g1 H locs hj hf => ?_)
        refine lv_istore_n (lv' := [(3, .int v2), (0, .ref (q_ad E x0)), (1, .int x1), (2, .int x2), (4, .int x4)]) hx hb dX12_never_56 rfl hl (by decide) rfl (fun ls hl => ?_)
        refine lv_iinc (v := x4 + 1) (lv' := [(4, .int (x4 + 1)), (3, .int v2), (0, .ref (q_ad E x0)), (1, .int x1), (2, .int x2)]) hx hb dX12_never_57 hl (k := 4) rfl (by rw [qi_1]) (by decide) rfl (fun ls hl => ?_)
        refine lv_goto (tgt := 38) hx hb dX12_never_60 (by decide) ?_
        exact ih _ _ _ _ _ _ _ _ ls hj (lv_sub hl [2, 3, 4, 1, 0] rfl) hf
def J_X12_never_63 (k22 : Nat → Int32 → Int32 → qS → Option (Int32 × qS)) (x0 : Nat) (x1 : Int32) (x2 : Int32) (x3 : Int32) (g : qS) : Option (Int32 × qS) := if x3 = 0 then (k22 x0 (x1 ||| (1 <<< (x2 &&& 31))) (x2 + 1) g) else (k22 x0 (x1 ||| 0) (x2 + 1) g)
set_option maxHeartbeats 4000000 in
set_option maxRecDepth 100000 in
theorem w_J_X12_never_63 {l : Launch} {E : qV} {p : Program} {e : Env} {s : State} {m : MethodId} {args : Array Value} {below : List Frame} {meth : Method} {c : Code} {k22 : Nat → Int32 → Int32 → qS → Option (Int32 × qS)} {res : (Int32 × qS)} (C : q_C E p s m args meth c cX12_never RX12 5 (some .int)) (hk22 : ∀ (x0 : Nat) (x1 : Int32) (x2 : Int32) (g : qS) (H : Heap) (locs : List Loc) (ls : Array Slot), q_J E s g H locs → lv_has ls 5 [(0, .ref (q_ad E x0)), (1, .int x1), (2, .int x2)] → k22 x0 x1 x2 g = some res → W p l e (q_rm 5 120) s m args below meth c H locs 0 0 (q_ZW E below (some (.int res.1)) res.2 args s) (F0 m 22 ls [])) : ∀ {x0 : Nat} {x1 : Int32} {x2 : Int32} {x3 : Int32} {g : qS} {H : Heap} {locs : List Loc} {ls : Array Slot}, q_J E s g H locs → lv_has ls 5 [(0, .ref (q_ad E x0)), (1, .int x1), (2, .int x2), (3, .int x3)] → J_X12_never_63 k22 x0 x1 x2 x3 g = some res → W p l e (q_rm 5 120) s m args below meth c H locs 0 0 (q_ZW E below (some (.int res.1)) res.2 args s) (F0 m 63 ls []) := by
  have hx := C.1
  have hb := C.2.1
  intro x0 x1 x2 x3 g H locs ls hj hl hf
  unfold J_X12_never_63 at hf
  refine lv_iload_n hx hb dX12_never_63 rfl (lv_at hl 1 rfl) ?_
  refine lv_iload_n hx hb dX12_never_64 rfl (lv_at hl 3 rfl) ?_
  refine q_ifeq C (tgt := 72) dX12_never_65 (by decide) hf (fun hf => ?_) (fun hf => ?_)
  · refine lv_iconst (v := 1) hx hb dX12_never_72 qi_1 ?_
    refine lv_iload_n hx hb dX12_never_73 rfl (lv_at hl 2 rfl) ?_
    refine lv_ishl hx hb dX12_never_74 ?_
    refine lv_ior hx hb dX12_never_75 ?_
    refine lv_istore_n (lv' := [(1, .int (x1 ||| (1 <<< (x2 &&& 31)))), (0, .ref (q_ad E x0)), (2, .int x2), (3, .int x3)]) hx hb dX12_never_76 rfl hl (by decide) rfl (fun ls hl => ?_)
    refine lv_iinc (v := x2 + 1) (lv' := [(2, .int (x2 + 1)), (1, .int (x1 ||| (1 <<< (x2 &&& 31)))), (0, .ref (q_ad E x0)), (3, .int x3)]) hx hb dX12_never_77 hl (k := 2) rfl (by rw [qi_1]) (by decide) rfl (fun ls hl => ?_)
    refine lv_goto (tgt := 22) hx hb dX12_never_80 (by decide) ?_
    exact hk22 _ _ _ _ _ _ ls hj (lv_sub hl [2, 1, 0] rfl) hf
  · refine lv_iconst (v := 0) hx hb dX12_never_68 qi_0 ?_
    refine lv_goto (tgt := 75) hx hb dX12_never_69 (by decide) ?_
    refine lv_ior hx hb dX12_never_75 ?_
    refine lv_istore_n (lv' := [(1, .int (x1 ||| 0)), (0, .ref (q_ad E x0)), (2, .int x2), (3, .int x3)]) hx hb dX12_never_76 rfl hl (by decide) rfl (fun ls hl => ?_)
    refine lv_iinc (v := x2 + 1) (lv' := [(2, .int (x2 + 1)), (1, .int (x1 ||| 0)), (0, .ref (q_ad E x0)), (3, .int x3)]) hx hb dX12_never_77 hl (k := 2) rfl (by rw [qi_1]) (by decide) rfl (fun ls hl => ?_)
    refine lv_goto (tgt := 22) hx hb dX12_never_80 (by decide) ?_
    exact hk22 _ _ _ _ _ _ ls hj (lv_sub hl [2, 1, 0] rfl) hf
def L_X12_never_22  : Nat → Nat → Int32 → Int32 → qS → Option (Int32 × qS)
  | 0, _, _, _, _ => none
  | n + 1, x0, x1, x2, g => (g_R g x0 11 3).bind fun v1 => (g_I g v1 10 2).bind fun v2 => if v2 ≤ x2 then (q_b2 (f_X12_good g x0 x1) fun v4 g3 => some (v4, g3)) else (L_X12_never_38 (fun y5 y6 y7 y8 g9 => J_X12_never_63 (L_X12_never_22 n) y5 y6 y7 y8 g9) 1000000000 x0 x1 x2 0 0 g)
set_option maxHeartbeats 4000000 in
set_option maxRecDepth 100000 in
theorem w_L_X12_never_22 {l : Launch} {E : qV} {p : Program} {e : Env} {s : State} {m : MethodId} {args : Array Value} {below : List Frame} {meth : Method} {c : Code}  {res : (Int32 × qS)} (C : q_C E p s m args meth c cX12_never RX12 5 (some .int))  : ∀ {n : Nat} {x0 : Nat} {x1 : Int32} {x2 : Int32} {g : qS} {H : Heap} {locs : List Loc} {ls : Array Slot}, q_J E s g H locs → lv_has ls 5 [(0, .ref (q_ad E x0)), (1, .int x1), (2, .int x2)] → L_X12_never_22 n x0 x1 x2 g = some res → W p l e (q_rm 5 120) s m args below meth c H locs 0 0 (q_ZW E below (some (.int res.1)) res.2 args s) (F0 m 22 ls []) := by
  have hx := C.1
  have hb := C.2.1
  intro n
  induction n with
  | zero =>
    intro x0 x1 x2 g H locs ls hj hl hf
    cases hf
  | succ n ih_ =>
    intro x0 x1 x2 g H locs ls hj hl hf
    have ih : ∀ (x0 : Nat) (x1 : Int32) (x2 : Int32) (g : qS) (H : Heap) (locs : List Loc) (ls : Array Slot), q_J E s g H locs → lv_has ls 5 [(0, .ref (q_ad E x0)), (1, .int x1), (2, .int x2)] → L_X12_never_22 n x0 x1 x2 g = some res → W p l e (q_rm 5 120) s m args below meth c H locs 0 0 (q_ZW E below (some (.int res.1)) res.2 args s) (F0 m 22 ls []) := fun x0 x1 x2 g H locs ls hj hl hf => ih_ hj hl hf
    unfold L_X12_never_22 at hf
    refine lv_iload_n hx hb dX12_never_22 rfl (lv_at hl 2 rfl) ?_
    refine lv_aload_n hx hb dX12_never_23 rfl (lv_at hl 0 rfl) ?_
    refine q_getR C hj lk_X12_369 dX12_never_24 hf (fun v1 hf => ?_)
    refine q_getI C hj lk_X12_201 dX12_never_27 hf (fun v2 hf => ?_)
    refine q_icge C (tgt := 83) dX12_never_30 (by decide) hf (fun hf => ?_) (fun hf => ?_)
    · refine lv_aload_n hx hb dX12_never_83 rfl (lv_at hl 0 rfl) ?_
      refine lv_iload_n hx hb dX12_never_84 rfl (lv_at hl 1 rfl) ?_
      refine q_cVWI C hj cw_X12_58 (As := [.int x1]) (rest := []) hf (fun v9 g9 h9 => c_X12_good l E h9) rfl hl rfl rfl rfl dX12_never_85 ⟨Nat.zero_le _, Nat.zero_le _⟩ (fun v4 g3 H locs hj hf => ?_)
      exact q_iretW C hj dX12_never_88 hf
    · refine lv_iconst (v := 0) hx hb dX12_never_33 qi_0 ?_
      refine lv_istore_n (lv' := [(3, .int 0), (0, .ref (q_ad E x0)), (1, .int x1), (2, .int x2)]) hx hb dX12_never_34 rfl hl (by decide) rfl (fun ls hl => ?_)
      refine lv_iconst (v := 0) hx hb dX12_never_35 qi_0 ?_
      refine lv_istore (lv' := [(4, .int 0), (3, .int 0), (0, .ref (q_ad E x0)), (1, .int x1), (2, .int x2)]) hx hb dX12_never_36 hl (by decide) rfl (fun ls hl => ?_)
      refine w_L_X12_never_38 C (fun y5 y6 y7 y8 g9 H locs ls hj hl hf => ?_) hj (lv_sub hl [2, 3, 4, 1, 0] rfl) hf
      · refine w_J_X12_never_63 C ih hj (lv_sub hl [0, 1, 2, 3] rfl) hf
def f_X12_never (g : qS) (a0 : Nat) : Option (Int32 × qS) := (g_C g a0 11).bind fun _ => (p_I g a0 11 0 0).bind fun g1 => (g_Q g1 a0 11 3).bind fun o => if o = none then (q_b2 (f_X12_refused g1 a0 1) fun v3 g2 => some (v3, g2)) else (L_X12_never_22 1000000000 a0 0 0 g1)
set_option maxHeartbeats 4000000 in
set_option maxRecDepth 100000 in
theorem c_X12_never (l : Launch) (E : qV) {g : qS} {a0 : Nat} {res : (Int32 × qS)} (hf : f_X12_never g a0 = some res) : q_MW l yX12_never cX12_never 5 (some .int) 5 120 E [.ref (q_ad E a0)] g (some (.int res.1)) res.2 ∧ ∃ fs, g a0 = some (.inr (11, fs)) := by
  unfold f_X12_never at hf
  obtain ⟨u9, hu9, hf⟩ := q_ob hf
  refine ⟨q_ofW (by decide) rfl ?_, g_C_sp hu9⟩
  intro p e s m args below meth c ls C hj hl
  have hx := C.1
  have hb := C.2.1
  have C : q_C E p s m args meth c cX12_never RX12 5 (some .int) := C
  have hl : lv_has ls 5 [(0, .ref (q_ad E a0))] := hl
  refine lv_aload_n hx hb dX12_never_0 rfl (lv_at hl 0 rfl) ?_
  refine lv_iconst (v := 0) hx hb dX12_never_1 qi_0 ?_
  refine q_putI C hj fp_X12_48 dX12_never_2 hf (fun g1 H locs hj hf => ?_)
  refine lv_aload_n hx hb dX12_never_5 rfl (lv_at hl 0 rfl) ?_
  refine q_gnnull C hj lk_X12_369 dX12_never_6 (tgt := 18) dX12_never_9 (by decide) hf (fun hf => ?_) (fun hf => ?_)
  · refine lv_iconst (v := 0) hx hb dX12_never_18 qi_0 ?_
    refine lv_istore_n (lv' := [(1, .int 0), (0, .ref (q_ad E a0))]) hx hb dX12_never_19 rfl hl (by decide) rfl (fun ls hl => ?_)
    refine lv_iconst (v := 0) hx hb dX12_never_20 qi_0 ?_
    refine lv_istore_n (lv' := [(2, .int 0), (1, .int 0), (0, .ref (q_ad E a0))]) hx hb dX12_never_21 rfl hl (by decide) rfl (fun ls hl => ?_)
    refine w_L_X12_never_22 C  hj (lv_sub hl [2, 1, 0] rfl) hf
  · refine lv_aload_n hx hb dX12_never_12 rfl (lv_at hl 0 rfl) ?_
    refine lv_iconst (v := 1) hx hb dX12_never_13 qi_1 ?_
    refine q_cVWI C hj cw_X12_54 (As := [.int 1]) (rest := []) hf (fun v9 g9 h9 => c_X12_refused l E h9) rfl hl rfl rfl rfl dX12_never_14 ⟨Nat.zero_le _, Nat.zero_le _⟩ (fun v3 g2 H locs hj hf => ?_)
    exact q_iretW C hj dX12_never_17 hf
def f_X12_isFound (g : qS) (a0 : Nat) (a1 : Int32) : Option (Int32 × qS) := (g_C g a0 11).bind fun _ => (g_R g a0 11 3).bind fun v1 => (g_R g v1 10 14).bind fun v2 => (a_I g v2 a1).bind fun v3 => (g_R g a0 11 22).bind fun v4 => (a_I g v4 a1).bind fun v5 => (f_X12_personOf g v5).bind fun v6 => (g_R g a0 11 3).bind fun v7 => (g_R g v7 10 13).bind fun v8 => (a_I g v8 v3).bind fun v9 => if v6 = v9 then ((g_R g a0 11 22).bind fun v10 => (a_I g v10 a1).bind fun v11 => q_b2 (f_X12_isAlone g a0 v3 v11) fun v13 g12 => if v13 = 0 then (some (0, g12)) else ((f_X12_isFree g12 a0 a1).bind fun v14 => if v14 = 0 then (some (0, g12)) else (some (1, g12)))) else (some (0, g))
set_option maxHeartbeats 4000000 in
set_option maxRecDepth 100000 in
theorem c_X12_isFound (l : Launch) (E : qV) {g : qS} {a0 : Nat} {a1 : Int32} {res : (Int32 × qS)} (hf : f_X12_isFound g a0 a1 = some res) : q_MW l yX12_isFound cX12_isFound 3 (some .boolean) 5 120 E [.ref (q_ad E a0), .int a1] g (some (.int res.1)) res.2 ∧ ∃ fs, g a0 = some (.inr (11, fs)) := by
  unfold f_X12_isFound at hf
  obtain ⟨u9, hu9, hf⟩ := q_ob hf
  refine ⟨q_ofW (by decide) rfl ?_, g_C_sp hu9⟩
  intro p e s m args below meth c ls C hj hl
  have hx := C.1
  have hb := C.2.1
  have C : q_C E p s m args meth c cX12_isFound RX12 3 (some .boolean) := C
  have hl : lv_has ls 3 [(0, .ref (q_ad E a0)), (1, .int a1)] := hl
  refine lv_aload_n hx hb dX12_isFound_0 rfl (lv_at hl 0 rfl) ?_
  refine q_getR C hj lk_X12_369 dX12_isFound_1 hf (fun v1 hf => ?_)
  refine q_getR C hj lk_X12_333 dX12_isFound_4 hf (fun v2 hf => ?_)
  refine lv_iload_n hx hb dX12_isFound_7 rfl (lv_at hl 1 rfl) ?_
  refine q_aldI C hj dX12_isFound_8 hf (fun v3 hf => ?_)
  refine lv_istore_n (lv' := [(2, .int v3), (0, .ref (q_ad E a0)), (1, .int a1)]) hx hb dX12_isFound_9 rfl hl (by decide) rfl (fun ls hl => ?_)
  refine lv_aload_n hx hb dX12_isFound_10 rfl (lv_at hl 1 rfl) ?_
  refine q_getR C hj lk_X12_33 dX12_isFound_11 hf (fun v4 hf => ?_)
  refine lv_iload_n hx hb dX12_isFound_14 rfl (lv_at hl 2 rfl) ?_
  refine q_aldI C hj dX12_isFound_15 hf (fun v5 hf => ?_)
  refine q_cSRI C hj cw_X12_433 (As := [.int v5]) (rest := []) hf (fun v9 h9 => c_X12_personOf l E h9) rfl hl rfl rfl rfl dX12_isFound_16 ⟨Nat.zero_le _, Nat.zero_le _⟩ (fun v6 hf => ?_)
  refine lv_aload_n hx hb dX12_isFound_19 rfl (lv_at hl 1 rfl) ?_
  refine q_getR C hj lk_X12_369 dX12_isFound_20 hf (fun v7 hf => ?_)
  refine q_getR C hj lk_X12_251 dX12_isFound_23 hf (fun v8 hf => ?_)
  refine lv_iload_n hx hb dX12_isFound_26 rfl (lv_at hl 0 rfl) ?_
  refine q_aldI C hj dX12_isFound_27 hf (fun v9 hf => ?_)
  refine q_icne C (tgt := 57) dX12_isFound_28 (by decide) hf (fun hf => ?_) (fun hf => ?_)
  · refine lv_iconst (v := 0) hx hb dX12_isFound_57 qi_0 ?_
    exact q_z0retW C hj dX12_isFound_58 hf
  · refine lv_aload_n hx hb dX12_isFound_31 rfl (lv_at hl 1 rfl) ?_
    refine lv_iload_n hx hb dX12_isFound_32 rfl (lv_at hl 0 rfl) ?_
    refine lv_aload_n hx hb dX12_isFound_33 rfl (lv_at hl 1 rfl) ?_
    refine q_getR C hj lk_X12_33 dX12_isFound_34 hf (fun v10 hf => ?_)
    refine lv_iload_n hx hb dX12_isFound_37 rfl (lv_at hl 2 rfl) ?_
    refine q_aldI C hj dX12_isFound_38 hf (fun v11 hf => ?_)
    refine q_cVWI C hj cw_X12_446 (As := [.int v3, .int v11]) (rest := []) hf (fun v9 g9 h9 => c_X12_isAlone l E h9) rfl hl rfl rfl rfl dX12_isFound_39 ⟨Nat.zero_le _, Nat.zero_le _⟩ (fun v13 g12 H locs hj hf => ?_)
    refine q_ifeq C (tgt := 57) dX12_isFound_42 (by decide) hf (fun hf => ?_) (fun hf => ?_)
    · refine lv_iconst (v := 0) hx hb dX12_isFound_57 qi_0 ?_
      exact q_z0retW C hj dX12_isFound_58 hf
    · refine lv_aload_n hx hb dX12_isFound_45 rfl (lv_at hl 1 rfl) ?_
      refine lv_iload_n hx hb dX12_isFound_46 rfl (lv_at hl 2 rfl) ?_
      refine q_cVRI C hj cw_X12_450 (As := [.int a1]) (rest := []) hf (fun v9 h9 => c_X12_isFree l E h9) rfl hl rfl rfl rfl dX12_isFound_47 ⟨Nat.zero_le _, Nat.zero_le _⟩ (fun v14 hf => ?_)
      refine q_ifeq C (tgt := 57) dX12_isFound_50 (by decide) hf (fun hf => ?_) (fun hf => ?_)
      · refine lv_iconst (v := 0) hx hb dX12_isFound_57 qi_0 ?_
        exact q_z0retW C hj dX12_isFound_58 hf
      · refine lv_iconst (v := 1) hx hb dX12_isFound_53 qi_1 ?_
        refine lv_goto (tgt := 58) hx hb dX12_isFound_54 (by decide) ?_
        exact q_z1retW C hj dX12_isFound_58 hf
def L_X12_fitting_7 (k25 : Nat → qS → Option qS) : Nat → Nat → Int32 → qS → Option qS
  | 0, _, _, _ => none
  | n + 1, x0, x1, g => if 4 ≤ x1 then (k25 x0 g) else ((g_R g x0 11 23).bind fun v1 => (s_I g v1 x1 0).bind fun g2 => L_X12_fitting_7 k25 n x0 (x1 + 1) g2)
set_option maxHeartbeats 4000000 in
set_option maxRecDepth 100000 in
theorem w_L_X12_fitting_7 {l : Launch} {E : qV} {p : Program} {e : Env} {s : State} {m : MethodId} {args : Array Value} {below : List Frame} {meth : Method} {c : Code} {k25 : Nat → qS → Option qS} {res : qS} (C : q_C E p s m args meth c cX12_fitting RX12 3 none) (hk25 : ∀ (x0 : Nat) (g : qS) (H : Heap) (locs : List Loc) (ls : Array Slot), q_J E s g H locs → lv_has ls 3 [(0, .ref (q_ad E x0))] → k25 x0 g = some res → W p l e (q_rm 6 142) s m args below meth c H locs 0 0 (q_ZW E below none res args s) (F0 m 25 ls [])) : ∀ {n : Nat} {x0 : Nat} {x1 : Int32} {g : qS} {H : Heap} {locs : List Loc} {ls : Array Slot}, q_J E s g H locs → lv_has ls 3 [(0, .ref (q_ad E x0)), (1, .int x1)] → L_X12_fitting_7 k25 n x0 x1 g = some res → W p l e (q_rm 6 142) s m args below meth c H locs 0 0 (q_ZW E below none res args s) (F0 m 7 ls []) := by
  have hx := C.1
  have hb := C.2.1
  intro n
  induction n with
  | zero =>
    intro x0 x1 g H locs ls hj hl hf
    cases hf
  | succ n ih_ =>
    intro x0 x1 g H locs ls hj hl hf
    have ih : ∀ (x0 : Nat) (x1 : Int32) (g : qS) (H : Heap) (locs : List Loc) (ls : Array Slot), q_J E s g H locs → lv_has ls 3 [(0, .ref (q_ad E x0)), (1, .int x1)] → L_X12_fitting_7 k25 n x0 x1 g = some res → W p l e (q_rm 6 142) s m args below meth c H locs 0 0 (q_ZW E below none res args s) (F0 m 7 ls []) := fun x0 x1 g H locs ls hj hl hf => ih_ hj hl hf
    unfold L_X12_fitting_7 at hf
    refine lv_iload_n hx hb dX12_fitting_7 rfl (lv_at hl 1 rfl) ?_
    refine lv_iconst (v := 4) hx hb dX12_fitting_8 qi_4 ?_
    refine q_icge C (tgt := 25) dX12_fitting_9 (by decide) hf (fun hf => ?_) (fun hf => ?_)
    · exact hk25 _ _ _ _ ls hj (lv_sub hl [0] rfl) hf
    · refine lv_aload_n hx hb dX12_fitting_12 rfl (lv_at hl 0 rfl) ?_
      refine q_getR C hj lk_X12_36 dX12_fitting_13 hf (fun v1 hf => ?_)
      refine lv_iload_n hx hb dX12_fitting_16 rfl (lv_at hl 1 rfl) ?_
      refine lv_iconst (v := 0) hx hb dX12_fitting_17 qi_0 ?_
      refine q_astI C hj dX12_fitting_18 hf (fun g2 H locs hj hf => ?_)
      refine lv_iinc (v := x1 + 1) (lv' := [(1, .int (x1 + 1)), (0, .ref (q_ad E x0))]) hx hb dX12_fitting_19 hl (k := 1) rfl (by rw [qi_1]) (by decide) rfl (fun ls hl => ?_)
      refine lv_goto (tgt := 7) hx hb dX12_fitting_22 (by decide) ?_
      exact ih _ _ _ _ _ ls hj (lv_sub hl [1, 0] rfl) hf
def L_X12_fitting_48 (k80 : Nat → Int32 → qS → Option qS) : Nat → Nat → Int32 → qS → Option qS
  | 0, _, _, _ => none
  | n + 1, x0, x1, g => (g_R g x0 11 22).bind fun v1 => (a_I g v1 x1).bind fun v2 => if 105 ≤ v2 then (k80 x0 x1 g) else (q_b2 (f_X12_isFound g x0 x1) fun v4 g3 => if v4 = 0 then ((g_R g3 x0 11 22).bind fun v5 => (a_I g3 v5 x1).bind fun v6 => (s_I g3 v5 x1 (v6 + 1)).bind fun g7 => L_X12_fitting_48 k80 n x0 x1 g7) else (k80 x0 x1 g3))
set_option maxHeartbeats 4000000 in
set_option maxRecDepth 100000 in
theorem w_L_X12_fitting_48 {l : Launch} {E : qV} {p : Program} {e : Env} {s : State} {m : MethodId} {args : Array Value} {below : List Frame} {meth : Method} {c : Code} {k80 : Nat → Int32 → qS → Option qS} {res : qS} (C : q_C E p s m args meth c cX12_fitting RX12 3 none) (hk80 : ∀ (x0 : Nat) (x1 : Int32) (g : qS) (H : Heap) (locs : List Loc) (ls : Array Slot), q_J E s g H locs → lv_has ls 3 [(0, .ref (q_ad E x0)), (1, .int x1)] → k80 x0 x1 g = some res → W p l e (q_rm 6 142) s m args below meth c H locs 0 0 (q_ZW E below none res args s) (F0 m 80 ls [])) : ∀ {n : Nat} {x0 : Nat} {x1 : Int32} {g : qS} {H : Heap} {locs : List Loc} {ls : Array Slot}, q_J E s g H locs → lv_has ls 3 [(0, .ref (q_ad E x0)), (1, .int x1)] → L_X12_fitting_48 k80 n x0 x1 g = some res → W p l e (q_rm 6 142) s m args below meth c H locs 0 0 (q_ZW E below none res args s) (F0 m 48 ls []) := by
  have hx := C.1
  have hb := C.2.1
  intro n
  induction n with
  | zero =>
    intro x0 x1 g H locs ls hj hl hf
    cases hf
  | succ n ih_ =>
    intro x0 x1 g H locs ls hj hl hf
    have ih : ∀ (x0 : Nat) (x1 : Int32) (g : qS) (H : Heap) (locs : List Loc) (ls : Array Slot), q_J E s g H locs → lv_has ls 3 [(0, .ref (q_ad E x0)), (1, .int x1)] → L_X12_fitting_48 k80 n x0 x1 g = some res → W p l e (q_rm 6 142) s m args below meth c H locs 0 0 (q_ZW E below none res args s) (F0 m 48 ls []) := fun x0 x1 g H locs ls hj hl hf => ih_ hj hl hf
    unfold L_X12_fitting_48 at hf
    refine lv_aload_n hx hb dX12_fitting_48 rfl (lv_at hl 0 rfl) ?_
    refine q_getR C hj lk_X12_33 dX12_fitting_49 hf (fun v1 hf => ?_)
    refine lv_iload_n hx hb dX12_fitting_52 rfl (lv_at hl 1 rfl) ?_
    refine q_aldI C hj dX12_fitting_53 hf (fun v2 hf => ?_)
    refine lv_bipush (v := 105) hx hb dX12_fitting_54 (by decide) ?_
    refine q_icge C (tgt := 80) dX12_fitting_56 (by decide) hf (fun hf => ?_) (fun hf => ?_)
    · exact hk80 _ _ _ _ _ ls hj (lv_sub hl [0, 1] rfl) hf
    · refine lv_aload_n hx hb dX12_fitting_59 rfl (lv_at hl 0 rfl) ?_
      refine lv_iload_n hx hb dX12_fitting_60 rfl (lv_at hl 1 rfl) ?_
      refine q_cVWI C hj cw_X12_464 (As := [.int x1]) (rest := []) hf (fun v9 g9 h9 => c_X12_isFound l E h9) rfl hl rfl rfl rfl dX12_fitting_61 ⟨Nat.zero_le _, Nat.zero_le _⟩ (fun v4 g3 H locs hj hf => ?_)
      refine q_ifne C (tgt := 80) dX12_fitting_64 (by decide) hf (fun hf => ?_) (fun hf => ?_)
      · exact hk80 _ _ _ _ _ ls hj (lv_sub hl [0, 1] rfl) hf
      · refine lv_aload_n hx hb dX12_fitting_67 rfl (lv_at hl 0 rfl) ?_
        refine q_getR C hj lk_X12_33 dX12_fitting_68 hf (fun v5 hf => ?_)
        refine lv_iload_n hx hb dX12_fitting_71 rfl (lv_at hl 1 rfl) ?_
        refine lv_dup2_11 hx hb dX12_fitting_72 rfl rfl ?_
        refine q_aldI C hj dX12_fitting_73 hf (fun v6 hf => ?_)
        refine lv_iconst (v := 1) hx hb dX12_fitting_74 qi_1 ?_
        refine lv_iadd hx hb dX12_fitting_75 ?_
        refine q_astI C hj dX12_fitting_76 hf (fun g7 H locs hj hf => ?_)
        refine lv_goto (tgt := 48) hx hb dX12_fitting_77 (by decide) ?_
        exact ih _ _ _ _ _ ls hj (lv_sub hl [0, 1] rfl) hf
def L_X12_fitting_135 (k180 : Nat → Int32 → qS → Option qS) : Nat → Nat → Int32 → Int32 → qS → Option qS
  | 0, _, _, _, _ => none
  | n + 1, x0, x1, x2, g => (g_R g x0 11 3).bind fun v1 => (g_I g v1 10 8).bind fun v2 => if v2 ≤ x2 then (k180 x0 x1 g) else ((g_R g x0 11 23).bind fun v3 => (g_R g x0 11 3).bind fun v4 => (g_R g v4 10 14).bind fun v5 => (a_I g v5 x2).bind fun v6 => (a_I g v3 v6).bind fun v7 => (g_R g x0 11 22).bind fun v8 => (a_I g v8 x2).bind fun v9 => (f_X12_giverOf g v9).bind fun v10 => (s_I g v3 v6 (v7 ||| (1 <<< (v10 &&& 31)))).bind fun g11 => L_X12_fitting_135 k180 n x0 x1 (x2 + 1) g11)
set_option maxHeartbeats 4000000 in
set_option maxRecDepth 100000 in
theorem w_L_X12_fitting_135 {l : Launch} {E : qV} {p : Program} {e : Env} {s : State} {m : MethodId} {args : Array Value} {below : List Frame} {meth : Method} {c : Code} {k180 : Nat → Int32 → qS → Option qS} {res : qS} (C : q_C E p s m args meth c cX12_fitting RX12 3 none) (hk180 : ∀ (x0 : Nat) (x1 : Int32) (g : qS) (H : Heap) (locs : List Loc) (ls : Array Slot), q_J E s g H locs → lv_has ls 3 [(0, .ref (q_ad E x0)), (1, .int x1)] → k180 x0 x1 g = some res → W p l e (q_rm 6 142) s m args below meth c H locs 0 0 (q_ZW E below none res args s) (F0 m 180 ls [])) : ∀ {n : Nat} {x0 : Nat} {x1 : Int32} {x2 : Int32} {g : qS} {H : Heap} {locs : List Loc} {ls : Array Slot}, q_J E s g H locs → lv_has ls 3 [(0, .ref (q_ad E x0)), (1, .int x1), (2, .int x2)] → L_X12_fitting_135 k180 n x0 x1 x2 g = some res → W p l e (q_rm 6 142) s m args below meth c H locs 0 0 (q_ZW E below none res args s) (F0 m 135 ls []) := by
  have hx := C.1
  have hb := C.2.1
  intro n
  induction n with
  | zero =>
    intro x0 x1 x2 g H locs ls hj hl hf
    cases hf
  | succ n ih_ =>
    intro x0 x1 x2 g H locs ls hj hl hf
    have ih : ∀ (x0 : Nat) (x1 : Int32) (x2 : Int32) (g : qS) (H : Heap) (locs : List Loc) (ls : Array Slot), q_J E s g H locs → lv_has ls 3 [(0, .ref (q_ad E x0)), (1, .int x1), (2, .int x2)] → L_X12_fitting_135 k180 n x0 x1 x2 g = some res → W p l e (q_rm 6 142) s m args below meth c H locs 0 0 (q_ZW E below none res args s) (F0 m 135 ls []) := fun x0 x1 x2 g H locs ls hj hl hf => ih_ hj hl hf
    unfold L_X12_fitting_135 at hf
    refine lv_iload_n hx hb dX12_fitting_135 rfl (lv_at hl 2 rfl) ?_
    refine lv_aload_n hx hb dX12_fitting_136 rfl (lv_at hl 0 rfl) ?_
    refine q_getR C hj lk_X12_369 dX12_fitting_137 hf (fun v1 hf => ?_)
    refine q_getI C hj lk_X12_336 dX12_fitting_140 hf (fun v2 hf => ?_)
    refine q_icge C (tgt := 180) dX12_fitting_143 (by decide) hf (fun hf => ?_) (fun hf => ?_)
    · exact hk180 _ _ _ _ _ ls hj (lv_sub hl [0, 1] rfl) hf
    · refine lv_aload_n hx hb dX12_fitting_146 rfl (lv_at hl 0 rfl) ?_
      refine q_getR C hj lk_X12_36 dX12_fitting_147 hf (fun v3 hf => ?_)
      refine lv_aload_n hx hb dX12_fitting_150 rfl (lv_at hl 0 rfl) ?_
      refine q_getR C hj lk_X12_369 dX12_fitting_151 hf (fun v4 hf => ?_)
      refine q_getR C hj lk_X12_333 dX12_fitting_154 hf (fun v5 hf => ?_)
      refine lv_iload_n hx hb dX12_fitting_157 rfl (lv_at hl 2 rfl) ?_
      refine q_aldI C hj dX12_fitting_158 hf (fun v6 hf => ?_)
      refine lv_dup2_11 hx hb dX12_fitting_159 rfl rfl ?_
      refine q_aldI C hj dX12_fitting_160 hf (fun v7 hf => ?_)
      refine lv_iconst (v := 1) hx hb dX12_fitting_161 qi_1 ?_
      refine lv_aload_n hx hb dX12_fitting_162 rfl (lv_at hl 0 rfl) ?_
      refine q_getR C hj lk_X12_33 dX12_fitting_163 hf (fun v8 hf => ?_)
      refine lv_iload_n hx hb dX12_fitting_166 rfl (lv_at hl 2 rfl) ?_
      refine q_aldI C hj dX12_fitting_167 hf (fun v9 hf => ?_)
      refine q_cSRI C hj cw_X12_430 (As := [.int v9]) (rest := [.int 1, .int v7, .int v6, .ref (q_ad E v3)]) hf (fun v9 h9 => c_X12_giverOf l E h9) rfl hl rfl rfl rfl dX12_fitting_168 ⟨Nat.zero_le _, Nat.zero_le _⟩ (fun v10 hf => ?_)
      refine lv_ishl hx hb dX12_fitting_171 ?_
      refine lv_ior hx hb dX12_fitting_172 ?_
      refine q_astI C hj dX12_fitting_173 hf (fun g11 H locs hj hf => ?_)
      refine lv_iinc (v := x2 + 1) (lv' := [(2, .int (x2 + 1)), (0, .ref (q_ad E x0)), (1, .int x1)]) hx hb dX12_fitting_174 hl (k := 2) rfl (by rw [qi_1]) (by decide) rfl (fun ls hl => ?_)
      refine lv_goto (tgt := 135) hx hb dX12_fitting_177 (by decide) ?_
      exact ih _ _ _ _ _ _ ls hj (lv_sub hl [1, 2, 0] rfl) hf
def J_X12_fitting_80 (k34 : Nat → Int32 → qS → Option qS) (x0 : Nat) (x1 : Int32) (g : qS) : Option qS := (g_R g x0 11 22).bind fun v1 => (a_I g v1 x1).bind fun v2 => if v2 < 105 then ((g_R g x0 11 3).bind fun v3 => (g_I g v3 10 8).bind fun v4 => if v4 ≤ (x1 + 1) then ((g_I g x0 11 24).bind fun v5 => (p_I g x0 11 24 (v5 + 1)).bind fun g6 => L_X12_fitting_135 (fun y7 y8 g9 => k34 y7 y8 g9) 1000000000 x0 x1 0 g6) else ((g_R g x0 11 22).bind fun v10 => (s_I g v10 (x1 + 1) (-1)).bind fun g11 => k34 x0 (x1 + 1) g11)) else (k34 x0 (x1 + (-1)) g)
set_option maxHeartbeats 4000000 in
set_option maxRecDepth 100000 in
theorem w_J_X12_fitting_80 {l : Launch} {E : qV} {p : Program} {e : Env} {s : State} {m : MethodId} {args : Array Value} {below : List Frame} {meth : Method} {c : Code} {k34 : Nat → Int32 → qS → Option qS} {res : qS} (C : q_C E p s m args meth c cX12_fitting RX12 3 none) (hk34 : ∀ (x0 : Nat) (x1 : Int32) (g : qS) (H : Heap) (locs : List Loc) (ls : Array Slot), q_J E s g H locs → lv_has ls 3 [(0, .ref (q_ad E x0)), (1, .int x1)] → k34 x0 x1 g = some res → W p l e (q_rm 6 142) s m args below meth c H locs 0 0 (q_ZW E below none res args s) (F0 m 34 ls [])) : ∀ {x0 : Nat} {x1 : Int32} {g : qS} {H : Heap} {locs : List Loc} {ls : Array Slot}, q_J E s g H locs → lv_has ls 3 [(0, .ref (q_ad E x0)), (1, .int x1)] → J_X12_fitting_80 k34 x0 x1 g = some res → W p l e (q_rm 6 142) s m args below meth c H locs 0 0 (q_ZW E below none res args s) (F0 m 80 ls []) := by
  have hx := C.1
  have hb := C.2.1
  intro x0 x1 g H locs ls hj hl hf
  unfold J_X12_fitting_80 at hf
  refine lv_aload_n hx hb dX12_fitting_80 rfl (lv_at hl 0 rfl) ?_
  refine q_getR C hj lk_X12_33 dX12_fitting_81 hf (fun v1 hf => ?_)
  refine lv_iload_n hx hb dX12_fitting_84 rfl (lv_at hl 1 rfl) ?_
  refine q_aldI C hj dX12_fitting_85 hf (fun v2 hf => ?_)
  refine lv_bipush (v := 105) hx hb dX12_fitting_86 (by decide) ?_
  refine q_iclt C (tgt := 97) dX12_fitting_88 (by decide) hf (fun hf => ?_) (fun hf => ?_)
  · refine lv_iload_n hx hb dX12_fitting_97 rfl (lv_at hl 1 rfl) ?_
    refine lv_iconst (v := 1) hx hb dX12_fitting_98 qi_1 ?_
    refine lv_iadd hx hb dX12_fitting_99 ?_
    refine lv_aload_n hx hb dX12_fitting_100 rfl (lv_at hl 0 rfl) ?_
    refine q_getR C hj lk_X12_369 dX12_fitting_101 hf (fun v3 hf => ?_)
    refine q_getI C hj lk_X12_336 dX12_fitting_104 hf (fun v4 hf => ?_)
    refine q_icge C (tgt := 123) dX12_fitting_107 (by decide) hf (fun hf => ?_) (fun hf => ?_)
    · refine lv_aload_n hx hb dX12_fitting_123 rfl (lv_at hl 0 rfl) ?_
      refine lv_dup hx hb dX12_fitting_124 rfl ?_
      refine q_getI C hj lk_X12_461 dX12_fitting_125 hf (fun v5 hf => ?_)
      refine lv_iconst (v := 1) hx hb dX12_fitting_128 qi_1 ?_
      refine lv_iadd hx hb dX12_fitting_129 ?_
      refine q_putI C hj fp_X12_461 dX12_fitting_130 hf (fun g6 H locs hj hf => ?_)
      refine lv_iconst (v := 0) hx hb dX12_fitting_133 qi_0 ?_
      refine lv_istore_n (lv' := [(2, .int 0), (0, .ref (q_ad E x0)), (1, .int x1)]) hx hb dX12_fitting_134 rfl hl (by decide) rfl (fun ls hl => ?_)
      refine w_L_X12_fitting_135 C (fun y7 y8 g9 H locs ls hj hl hf => ?_) hj (lv_sub hl [1, 2, 0] rfl) hf
      · refine lv_goto (tgt := 34) hx hb dX12_fitting_180 (by decide) ?_
        exact hk34 _ _ _ _ _ ls hj (lv_sub hl [0, 1] rfl) hf
    · refine lv_iinc (v := x1 + 1) (lv' := [(1, .int (x1 + 1)), (0, .ref (q_ad E x0))]) hx hb dX12_fitting_110 hl (k := 1) rfl (by rw [qi_1]) (by decide) rfl (fun ls hl => ?_)
      refine lv_aload_n hx hb dX12_fitting_113 rfl (lv_at hl 1 rfl) ?_
      refine q_getR C hj lk_X12_33 dX12_fitting_114 hf (fun v10 hf => ?_)
      refine lv_iload_n hx hb dX12_fitting_117 rfl (lv_at hl 0 rfl) ?_
      refine lv_iconst (v := -1) hx hb dX12_fitting_118 qi_m1 ?_
      refine q_astI C hj dX12_fitting_119 hf (fun g11 H locs hj hf => ?_)
      refine lv_goto (tgt := 34) hx hb dX12_fitting_120 (by decide) ?_
      exact hk34 _ _ _ _ _ ls hj (lv_sub hl [1, 0] rfl) hf
  · refine lv_iinc (v := x1 + (-1)) (lv' := [(1, .int (x1 + (-1))), (0, .ref (q_ad E x0))]) hx hb dX12_fitting_91 hl (k := 1) rfl (by rw [qi_m1]) (by decide) rfl (fun ls hl => ?_)
    refine lv_goto (tgt := 34) hx hb dX12_fitting_94 (by decide) ?_
    exact hk34 _ _ _ _ _ ls hj (lv_sub hl [1, 0] rfl) hf
def L_X12_fitting_34  : Nat → Nat → Int32 → qS → Option qS
  | 0, _, _, _ => none
  | n + 1, x0, x1, g => if x1 < 0 then (some g) else ((g_R g x0 11 22).bind fun v1 => (a_I g v1 x1).bind fun v2 => (s_I g v1 x1 (v2 + 1)).bind fun g3 => L_X12_fitting_48 (fun y4 y5 g6 => J_X12_fitting_80 (L_X12_fitting_34 n) y4 y5 g6) 1000000000 x0 x1 g3)
set_option maxHeartbeats 4000000 in
set_option maxRecDepth 100000 in
theorem w_L_X12_fitting_34 {l : Launch} {E : qV} {p : Program} {e : Env} {s : State} {m : MethodId} {args : Array Value} {below : List Frame} {meth : Method} {c : Code}  {res : qS} (C : q_C E p s m args meth c cX12_fitting RX12 3 none)  : ∀ {n : Nat} {x0 : Nat} {x1 : Int32} {g : qS} {H : Heap} {locs : List Loc} {ls : Array Slot}, q_J E s g H locs → lv_has ls 3 [(0, .ref (q_ad E x0)), (1, .int x1)] → L_X12_fitting_34 n x0 x1 g = some res → W p l e (q_rm 6 142) s m args below meth c H locs 0 0 (q_ZW E below none res args s) (F0 m 34 ls []) := by
  have hx := C.1
  have hb := C.2.1
  intro n
  induction n with
  | zero =>
    intro x0 x1 g H locs ls hj hl hf
    cases hf
  | succ n ih_ =>
    intro x0 x1 g H locs ls hj hl hf
    have ih : ∀ (x0 : Nat) (x1 : Int32) (g : qS) (H : Heap) (locs : List Loc) (ls : Array Slot), q_J E s g H locs → lv_has ls 3 [(0, .ref (q_ad E x0)), (1, .int x1)] → L_X12_fitting_34 n x0 x1 g = some res → W p l e (q_rm 6 142) s m args below meth c H locs 0 0 (q_ZW E below none res args s) (F0 m 34 ls []) := fun x0 x1 g H locs ls hj hl hf => ih_ hj hl hf
    unfold L_X12_fitting_34 at hf
    refine lv_iload_n hx hb dX12_fitting_34 rfl (lv_at hl 1 rfl) ?_
    refine q_iflt C (tgt := 183) dX12_fitting_35 (by decide) hf (fun hf => ?_) (fun hf => ?_)
    · exact q_vretW C hj dX12_fitting_183 hf
    · refine lv_aload_n hx hb dX12_fitting_38 rfl (lv_at hl 0 rfl) ?_
      refine q_getR C hj lk_X12_33 dX12_fitting_39 hf (fun v1 hf => ?_)
      refine lv_iload_n hx hb dX12_fitting_42 rfl (lv_at hl 1 rfl) ?_
      refine lv_dup2_11 hx hb dX12_fitting_43 rfl rfl ?_
      refine q_aldI C hj dX12_fitting_44 hf (fun v2 hf => ?_)
      refine lv_iconst (v := 1) hx hb dX12_fitting_45 qi_1 ?_
      refine lv_iadd hx hb dX12_fitting_46 ?_
      refine q_astI C hj dX12_fitting_47 hf (fun g3 H locs hj hf => ?_)
      refine w_L_X12_fitting_48 C (fun y4 y5 g6 H locs ls hj hl hf => ?_) hj (lv_sub hl [0, 1] rfl) hf
      · refine w_J_X12_fitting_80 C ih hj (lv_sub hl [0, 1] rfl) hf
def f_X12_fitting (g : qS) (a0 : Nat) : Option qS := (g_C g a0 11).bind fun _ => (p_I g a0 11 24 0).bind fun g1 => L_X12_fitting_7 (fun y2 g3 => (g_R g3 y2 11 22).bind fun v4 => (s_I g3 v4 0 (-1)).bind fun g5 => L_X12_fitting_34 1000000000 y2 0 g5) 1000000000 a0 0 g1
set_option maxHeartbeats 4000000 in
set_option maxRecDepth 100000 in
theorem c_X12_fitting (l : Launch) (E : qV) {g : qS} {a0 : Nat} {res : qS} (hf : f_X12_fitting g a0 = some res) : q_MW l yX12_fitting cX12_fitting 3 none 6 142 E [.ref (q_ad E a0)] g none res ∧ ∃ fs, g a0 = some (.inr (11, fs)) := by
  unfold f_X12_fitting at hf
  obtain ⟨u9, hu9, hf⟩ := q_ob hf
  refine ⟨q_ofW (by decide) rfl ?_, g_C_sp hu9⟩
  intro p e s m args below meth c ls C hj hl
  have hx := C.1
  have hb := C.2.1
  have C : q_C E p s m args meth c cX12_fitting RX12 3 none := C
  have hl : lv_has ls 3 [(0, .ref (q_ad E a0))] := hl
  refine lv_aload_n hx hb dX12_fitting_0 rfl (lv_at hl 0 rfl) ?_
  refine lv_iconst (v := 0) hx hb dX12_fitting_1 qi_0 ?_
  refine q_putI C hj fp_X12_461 dX12_fitting_2 hf (fun g1 H locs hj hf => ?_)
  refine lv_iconst (v := 0) hx hb dX12_fitting_5 qi_0 ?_
  refine lv_istore_n (lv' := [(1, .int 0), (0, .ref (q_ad E a0))]) hx hb dX12_fitting_6 rfl hl (by decide) rfl (fun ls hl => ?_)
  refine w_L_X12_fitting_7 C (fun y2 g3 H locs ls hj hl hf => ?_) hj (lv_sub hl [1, 0] rfl) hf
  · refine lv_iconst (v := 0) hx hb dX12_fitting_25 qi_0 ?_
    refine lv_istore_n (lv' := [(1, .int 0), (0, .ref (q_ad E y2))]) hx hb dX12_fitting_26 rfl hl (by decide) rfl (fun ls hl => ?_)
    refine lv_aload_n hx hb dX12_fitting_27 rfl (lv_at hl 1 rfl) ?_
    refine q_getR C hj lk_X12_33 dX12_fitting_28 hf (fun v4 hf => ?_)
    refine lv_iconst (v := 0) hx hb dX12_fitting_31 qi_0 ?_
    refine lv_iconst (v := -1) hx hb dX12_fitting_32 qi_m1 ?_
    refine q_astI C hj dX12_fitting_33 hf (fun g5 H locs hj hf => ?_)
    refine w_L_X12_fitting_34 C  hj (lv_sub hl [1, 0] rfl) hf
def f_X12_fits (g : qS) (a0 : Nat) : Option (Int32 × qS) := (g_C g a0 11).bind fun _ => (p_I g a0 11 0 0).bind fun g1 => (g_Q g1 a0 11 3).bind fun o => if o = none then (q_b2 (f_X12_refused g1 a0 1) fun v11 g10 => some (v11, g10)) else ((g_R g1 a0 11 3).bind fun v2 => (g_I g1 v2 10 8).bind fun v3 => if v3 = 0 then (q_b2 (f_X12_refused g1 a0 6) fun v9 g8 => some (v9, g8)) else ((f_X12_fitting g1 a0).bind fun g4 => (g_I g4 a0 11 24).bind fun v5 => q_b2 (f_X12_good g4 a0 v5) fun v7 g6 => some (v7, g6)))
set_option maxHeartbeats 4000000 in
set_option maxRecDepth 100000 in
theorem c_X12_fits (l : Launch) (E : qV) {g : qS} {a0 : Nat} {res : (Int32 × qS)} (hf : f_X12_fits g a0 = some res) : q_MW l yX12_fits cX12_fits 1 (some .int) 7 164 E [.ref (q_ad E a0)] g (some (.int res.1)) res.2 ∧ ∃ fs, g a0 = some (.inr (11, fs)) := by
  unfold f_X12_fits at hf
  obtain ⟨u9, hu9, hf⟩ := q_ob hf
  refine ⟨q_ofW (by decide) rfl ?_, g_C_sp hu9⟩
  intro p e s m args below meth c ls C hj hl
  have hx := C.1
  have hb := C.2.1
  have C : q_C E p s m args meth c cX12_fits RX12 1 (some .int) := C
  have hl : lv_has ls 1 [(0, .ref (q_ad E a0))] := hl
  refine lv_aload_n hx hb dX12_fits_0 rfl (lv_at hl 0 rfl) ?_
  refine lv_iconst (v := 0) hx hb dX12_fits_1 qi_0 ?_
  refine q_putI C hj fp_X12_48 dX12_fits_2 hf (fun g1 H locs hj hf => ?_)
  refine lv_aload_n hx hb dX12_fits_5 rfl (lv_at hl 0 rfl) ?_
  refine q_gnnull C hj lk_X12_369 dX12_fits_6 (tgt := 18) dX12_fits_9 (by decide) hf (fun hf => ?_) (fun hf => ?_)
  · refine lv_aload_n hx hb dX12_fits_18 rfl (lv_at hl 0 rfl) ?_
    refine q_getR C hj lk_X12_369 dX12_fits_19 hf (fun v2 hf => ?_)
    refine q_getI C hj lk_X12_336 dX12_fits_22 hf (fun v3 hf => ?_)
    refine q_ifne C (tgt := 35) dX12_fits_25 (by decide) hf (fun hf => ?_) (fun hf => ?_)
    · refine lv_aload_n hx hb dX12_fits_35 rfl (lv_at hl 0 rfl) ?_
      refine q_cVWV C hj cw_X12_467 (As := []) (rest := []) hf (fun g9 h9 => c_X12_fitting l E h9) rfl hl rfl rfl rfl dX12_fits_36 ⟨Nat.zero_le _, Nat.zero_le _⟩ (fun g4 H locs hj hf => ?_)
      refine lv_aload_n hx hb dX12_fits_39 rfl (lv_at hl 0 rfl) ?_
      refine lv_aload_n hx hb dX12_fits_40 rfl (lv_at hl 0 rfl) ?_
      refine q_getI C hj lk_X12_461 dX12_fits_41 hf (fun v5 hf => ?_)
      refine q_cVWI C hj cw_X12_58 (As := [.int v5]) (rest := []) hf (fun v9 g9 h9 => c_X12_good l E h9) rfl hl rfl rfl rfl dX12_fits_44 ⟨Nat.zero_le _, Nat.zero_le _⟩ (fun v7 g6 H locs hj hf => ?_)
      exact q_iretW C hj dX12_fits_47 hf
    · refine lv_aload_n hx hb dX12_fits_28 rfl (lv_at hl 0 rfl) ?_
      refine lv_bipush (v := 6) hx hb dX12_fits_29 (by decide) ?_
      refine q_cVWI C hj cw_X12_54 (As := [.int 6]) (rest := []) hf (fun v9 g9 h9 => c_X12_refused l E h9) rfl hl rfl rfl rfl dX12_fits_31 ⟨Nat.zero_le _, Nat.zero_le _⟩ (fun v9 g8 H locs hj hf => ?_)
      exact q_iretW C hj dX12_fits_34 hf
  · refine lv_aload_n hx hb dX12_fits_12 rfl (lv_at hl 0 rfl) ?_
    refine lv_iconst (v := 1) hx hb dX12_fits_13 qi_1 ?_
    refine q_cVWI C hj cw_X12_54 (As := [.int 1]) (rest := []) hf (fun v9 g9 h9 => c_X12_refused l E h9) rfl hl rfl rfl rfl dX12_fits_14 ⟨Nat.zero_le _, Nat.zero_le _⟩ (fun v11 g10 H locs hj hf => ?_)
    exact q_iretW C hj dX12_fits_17 hf
