def f_X6_tapeLength (g : qS) (a0 : Nat) : Option Int32 := (g_C g a0 5).bind fun _ => (g_I g a0 5 1).bind fun v1 => some v1
set_option maxHeartbeats 4000000 in
set_option maxRecDepth 100000 in
theorem c_X6_tapeLength (l : Launch) (E : qV) {g : qS} {a0 : Nat} {res : Int32} (hf : f_X6_tapeLength g a0 = some res) : q_MR l yX6_tapeLength cX6_tapeLength 1 (some .int) 0 0 E [.ref (q_ad E a0)] g (some (.int res)) ∧ ∃ fs, g a0 = some (.inr (5, fs)) := by
  unfold f_X6_tapeLength at hf
  obtain ⟨u9, hu9, hf⟩ := q_ob hf
  refine ⟨q_ofR (by decide) rfl ?_, g_C_sp hu9⟩
  intro p e s m args below meth c ls C hw hl
  have hj : q_J E s g s.heap [] := ⟨hw, va_S.rf⟩
  have hx := C.1
  have hb := C.2.1
  have C : q_C E p s m args meth c cX6_tapeLength RX6 1 (some .int) := C
  have hl : lv_has ls 1 [(0, .ref (q_ad E a0))] := hl
  refine lv_aload_n hx hb dX6_tapeLength_0 rfl (lv_at hl 0 rfl) ?_
  refine q_getI C hj lk_X6_15 dX6_tapeLength_1 hf (fun v1 hf => ?_)
  exact q_iretR C dX6_tapeLength_4 hf
def L_X6_append_3  : Nat → Nat → Int32 → Int32 → qS → Option qS
  | 0, _, _, _, _ => none
  | n + 1, x0, x1, x2, g => if x2 < 0 then (some g) else ((g_I g x0 5 1).bind fun v1 => if v1 < 0 then (L_X6_append_3 n x0 x1 (x2 + (-8)) g) else ((g_I g x0 5 1).bind fun v2 => (g_R g x0 5 0).bind fun v3 => (a_n g v3).bind fun v4 => if v4 ≤ v2 then (L_X6_append_3 n x0 x1 (x2 + (-8)) g) else ((g_R g x0 5 0).bind fun v5 => (g_I g x0 5 1).bind fun v6 => (s_B g v5 v6 ((x1 >>> (x2 &&& 31)).toInt8.toInt32)).bind fun g7 => (g_I g7 x0 5 1).bind fun v8 => (p_I g7 x0 5 1 (v8 + 1)).bind fun g9 => L_X6_append_3 n x0 x1 (x2 + (-8)) g9)))
set_option maxHeartbeats 4000000 in
set_option maxRecDepth 100000 in
theorem w_L_X6_append_3 {l : Launch} {E : qV} {p : Program} {e : Env} {s : State} {m : MethodId} {args : Array Value} {below : List Frame} {meth : Method} {c : Code}  {res : qS} (C : q_C E p s m args meth c cX6_append RX6 3 none)  : ∀ {n : Nat} {x0 : Nat} {x1 : Int32} {x2 : Int32} {g : qS} {H : Heap} {locs : List Loc} {ls : Array Slot}, q_J E s g H locs → lv_has ls 3 [(0, .ref (q_ad E x0)), (1, .int x1), (2, .int x2)] → L_X6_append_3 n x0 x1 x2 g = some res → W p l e (q_rm 0 0) s m args below meth c H locs 0 0 (q_ZW E below none res args s) (F0 m 3 ls []) := by
  have hx := C.1
  have hb := C.2.1
  intro n
  induction n with
  | zero =>
    intro x0 x1 x2 g H locs ls hj hl hf
    cases hf
  | succ n ih_ =>
    intro x0 x1 x2 g H locs ls hj hl hf
    have ih : ∀ (x0 : Nat) (x1 : Int32) (x2 : Int32) (g : qS) (H : Heap) (locs : List Loc) (ls : Array Slot), q_J E s g H locs → lv_has ls 3 [(0, .ref (q_ad E x0)), (1, .int x1), (2, .int x2)] → L_X6_append_3 n x0 x1 x2 g = some res → W p l e (q_rm 0 0) s m args below meth c H locs 0 0 (q_ZW E below none res args s) (F0 m 3 ls []) := fun x0 x1 x2 g H locs ls hj hl hf => ih_ hj hl hf
    unfold L_X6_append_3 at hf
    refine lv_iload_n hx hb dX6_append_3 rfl (lv_at hl 2 rfl) ?_
    refine q_iflt C (tgt := 55) dX6_append_4 (by decide) hf (fun hf => ?_) (fun hf => ?_)
    · exact q_vretW C hj dX6_append_55 hf
    · refine lv_aload_n hx hb dX6_append_7 rfl (lv_at hl 0 rfl) ?_
      refine q_getI C hj lk_X6_15 dX6_append_8 hf (fun v1 hf => ?_)
      refine q_iflt C (tgt := 49) dX6_append_11 (by decide) hf (fun hf => ?_) (fun hf => ?_)
      · refine lv_iinc (v := x2 + (-8)) (lv' := [(2, .int (x2 + (-8))), (0, .ref (q_ad E x0)), (1, .int x1)]) hx hb dX6_append_49 hl (k := 2) rfl (by rw [qi_m8]) (by decide) rfl (fun ls hl => ?_)
        refine lv_goto (tgt := 3) hx hb dX6_append_52 (by decide) ?_
        exact ih _ _ _ _ _ _ ls hj (lv_sub hl [1, 2, 0] rfl) hf
      · refine lv_aload_n hx hb dX6_append_14 rfl (lv_at hl 0 rfl) ?_
        refine q_getI C hj lk_X6_15 dX6_append_15 hf (fun v2 hf => ?_)
        refine lv_aload_n hx hb dX6_append_18 rfl (lv_at hl 0 rfl) ?_
        refine q_getR C hj lk_X6_9 dX6_append_19 hf (fun v3 hf => ?_)
        refine q_alen C hj dX6_append_22 hf (fun v4 hf => ?_)
        refine q_icge C (tgt := 49) dX6_append_23 (by decide) hf (fun hf => ?_) (fun hf => ?_)
        · refine lv_iinc (v := x2 + (-8)) (lv' := [(2, .int (x2 + (-8))), (0, .ref (q_ad E x0)), (1, .int x1)]) hx hb dX6_append_49 hl (k := 2) rfl (by rw [qi_m8]) (by decide) rfl (fun ls hl => ?_)
          refine lv_goto (tgt := 3) hx hb dX6_append_52 (by decide) ?_
          exact ih _ _ _ _ _ _ ls hj (lv_sub hl [1, 2, 0] rfl) hf
        · refine lv_aload_n hx hb dX6_append_26 rfl (lv_at hl 0 rfl) ?_
          refine q_getR C hj lk_X6_9 dX6_append_27 hf (fun v5 hf => ?_)
          refine lv_aload_n hx hb dX6_append_30 rfl (lv_at hl 0 rfl) ?_
          refine q_getI C hj lk_X6_15 dX6_append_31 hf (fun v6 hf => ?_)
          refine lv_iload_n hx hb dX6_append_34 rfl (lv_at hl 1 rfl) ?_
          refine lv_iload_n hx hb dX6_append_35 rfl (lv_at hl 2 rfl) ?_
          refine lv_ishr hx hb dX6_append_36 ?_
          refine lv_i2b hx hb dX6_append_37 rfl ?_
          refine q_astB C hj dX6_append_38 hf (fun g7 H locs hj hf => ?_)
          refine lv_aload_n hx hb dX6_append_39 rfl (lv_at hl 0 rfl) ?_
          refine lv_dup hx hb dX6_append_40 rfl ?_
          refine q_getI C hj lk_X6_15 dX6_append_41 hf (fun v8 hf => ?_)
          refine lv_iconst (v := 1) hx hb dX6_append_44 qi_1 ?_
          refine lv_iadd hx hb dX6_append_45 ?_
          refine q_putI C hj fp_X6_15 dX6_append_46 hf (fun g9 H locs hj hf => ?_)
          refine lv_iinc (v := x2 + (-8)) (lv' := [(2, .int (x2 + (-8))), (0, .ref (q_ad E x0)), (1, .int x1)]) hx hb dX6_append_49 hl (k := 2) rfl (by rw [qi_m8]) (by decide) rfl (fun ls hl => ?_)
          refine lv_goto (tgt := 3) hx hb dX6_append_52 (by decide) ?_
          exact ih _ _ _ _ _ _ ls hj (lv_sub hl [1, 2, 0] rfl) hf
def f_X6_append (g : qS) (a0 : Nat) (a1 : Int32) : Option qS := (g_C g a0 5).bind fun _ => L_X6_append_3 1000000000 a0 a1 24 g
set_option maxHeartbeats 4000000 in
set_option maxRecDepth 100000 in
theorem c_X6_append (l : Launch) (E : qV) {g : qS} {a0 : Nat} {a1 : Int32} {res : qS} (hf : f_X6_append g a0 a1 = some res) : q_MW l yX6_append cX6_append 3 none 0 0 E [.ref (q_ad E a0), .int a1] g none res ∧ ∃ fs, g a0 = some (.inr (5, fs)) := by
  unfold f_X6_append at hf
  obtain ⟨u9, hu9, hf⟩ := q_ob hf
  refine ⟨q_ofW (by decide) rfl ?_, g_C_sp hu9⟩
  intro p e s m args below meth c ls C hj hl
  have hx := C.1
  have hb := C.2.1
  have C : q_C E p s m args meth c cX6_append RX6 3 none := C
  have hl : lv_has ls 3 [(0, .ref (q_ad E a0)), (1, .int a1)] := hl
  refine lv_bipush (v := 24) hx hb dX6_append_0 (by decide) ?_
  refine lv_istore_n (lv' := [(2, .int 24), (0, .ref (q_ad E a0)), (1, .int a1)]) hx hb dX6_append_2 rfl hl (by decide) rfl (fun ls hl => ?_)
  refine w_L_X6_append_3 C  hj (lv_sub hl [1, 2, 0] rfl) hf
def L_X6_findRun_15  : Nat → Nat → Int32 → Int32 → Int32 → Int32 → Int32 → qS → Option (Int32 × qS)
  | 0, _, _, _, _, _, _, _ => none
  | n + 1, x0, x1, x2, x3, x4, x5, g => (g_I g x0 5 6).bind fun v1 => if v1 ≤ x5 then ((g_I g x0 5 8).bind fun v2 => (p_I g x0 5 9 (x5 - v2)).bind fun g3 => (g_I g3 x0 5 9).bind fun v4 => some (v4, g3)) else ((g_R g x0 5 0).bind fun v5 => (a_n g v5).bind fun v6 => if v6 ≤ x5 then ((g_I g x0 5 8).bind fun v7 => (p_I g x0 5 9 (x5 - v7)).bind fun g8 => (g_I g8 x0 5 9).bind fun v9 => some (v9, g8)) else ((g_R g x0 5 0).bind fun v10 => (a_B g v10 x5).bind fun v11 => if v11 < x1 then ((g_I g x0 5 8).bind fun v12 => (p_I g x0 5 9 (x5 - v12)).bind fun g13 => (g_I g13 x0 5 9).bind fun v14 => some (v14, g13)) else ((g_R g x0 5 0).bind fun v15 => (a_B g v15 x5).bind fun v16 => if x2 < v16 then ((g_I g x0 5 8).bind fun v17 => (p_I g x0 5 9 (x5 - v17)).bind fun g18 => (g_I g18 x0 5 9).bind fun v19 => some (v19, g18)) else ((g_L g x0 5 10).bind fun v20 => (g_R g x0 5 0).bind fun v21 => (a_B g v21 x5).bind fun v22 => (p_L g x0 5 10 ((x4.toInt64 * v20) + (((v22 - x1) + x3).toInt64))).bind fun g23 => L_X6_findRun_15 n x0 x1 x2 x3 x4 (x5 + 1) g23))))
set_option maxHeartbeats 4000000 in
set_option maxRecDepth 100000 in
theorem w_L_X6_findRun_15 {l : Launch} {E : qV} {p : Program} {e : Env} {s : State} {m : MethodId} {args : Array Value} {below : List Frame} {meth : Method} {c : Code}  {res : (Int32 × qS)} (C : q_C E p s m args meth c cX6_findRun RX6 6 (some .int))  : ∀ {n : Nat} {x0 : Nat} {x1 : Int32} {x2 : Int32} {x3 : Int32} {x4 : Int32} {x5 : Int32} {g : qS} {H : Heap} {locs : List Loc} {ls : Array Slot}, q_J E s g H locs → lv_has ls 6 [(0, .ref (q_ad E x0)), (1, .int x1), (2, .int x2), (3, .int x3), (4, .int x4), (5, .int x5)] → L_X6_findRun_15 n x0 x1 x2 x3 x4 x5 g = some res → W p l e (q_rm 1 24) s m args below meth c H locs 0 0 (q_ZW E below (some (.int res.1)) res.2 args s) (F0 m 15 ls []) := by
  have hx := C.1
  have hb := C.2.1
  intro n
  induction n with
  | zero =>
    intro x0 x1 x2 x3 x4 x5 g H locs ls hj hl hf
    cases hf
  | succ n ih_ =>
    intro x0 x1 x2 x3 x4 x5 g H locs ls hj hl hf
    have ih : ∀ (x0 : Nat) (x1 : Int32) (x2 : Int32) (x3 : Int32) (x4 : Int32) (x5 : Int32) (g : qS) (H : Heap) (locs : List Loc) (ls : Array Slot), q_J E s g H locs → lv_has ls 6 [(0, .ref (q_ad E x0)), (1, .int x1), (2, .int x2), (3, .int x3), (4, .int x4), (5, .int x5)] → L_X6_findRun_15 n x0 x1 x2 x3 x4 x5 g = some res → W p l e (q_rm 1 24) s m args below meth c H locs 0 0 (q_ZW E below (some (.int res.1)) res.2 args s) (F0 m 15 ls []) := fun x0 x1 x2 x3 x4 x5 g H locs ls hj hl hf => ih_ hj hl hf
    unfold L_X6_findRun_15 at hf
    refine lv_iload hx hb dX6_findRun_15 (lv_at hl 5 rfl) ?_
    refine lv_aload_n hx hb dX6_findRun_17 rfl (lv_at hl 0 rfl) ?_
    refine q_getI C hj lk_X6_42 dX6_findRun_18 hf (fun v1 hf => ?_)
    refine q_icge C (tgt := 87) dX6_findRun_21 (by decide) hf (fun hf => ?_) (fun hf => ?_)
    · refine lv_aload_n hx hb dX6_findRun_87 rfl (lv_at hl 0 rfl) ?_
      refine lv_iload hx hb dX6_findRun_88 (lv_at hl 5 rfl) ?_
      refine lv_aload_n hx hb dX6_findRun_90 rfl (lv_at hl 0 rfl) ?_
      refine q_getI C hj lk_X6_48 dX6_findRun_91 hf (fun v2 hf => ?_)
      refine lv_isub hx hb dX6_findRun_94 ?_
      refine q_putI C hj fp_X6_51 dX6_findRun_95 hf (fun g3 H locs hj hf => ?_)
      refine lv_aload_n hx hb dX6_findRun_98 rfl (lv_at hl 0 rfl) ?_
      refine q_getI C hj lk_X6_51 dX6_findRun_99 hf (fun v4 hf => ?_)
      exact q_iretW C hj dX6_findRun_102 hf
    · refine lv_iload hx hb dX6_findRun_24 (lv_at hl 5 rfl) ?_
      refine lv_aload_n hx hb dX6_findRun_26 rfl (lv_at hl 0 rfl) ?_
      refine q_getR C hj lk_X6_9 dX6_findRun_27 hf (fun v5 hf => ?_)
      refine q_alen C hj dX6_findRun_30 hf (fun v6 hf => ?_)
      refine q_icge C (tgt := 87) dX6_findRun_31 (by decide) hf (fun hf => ?_) (fun hf => ?_)
      · refine lv_aload_n hx hb dX6_findRun_87 rfl (lv_at hl 0 rfl) ?_
        refine lv_iload hx hb dX6_findRun_88 (lv_at hl 5 rfl) ?_
        refine lv_aload_n hx hb dX6_findRun_90 rfl (lv_at hl 0 rfl) ?_
        refine q_getI C hj lk_X6_48 dX6_findRun_91 hf (fun v7 hf => ?_)
        refine lv_isub hx hb dX6_findRun_94 ?_
        refine q_putI C hj fp_X6_51 dX6_findRun_95 hf (fun g8 H locs hj hf => ?_)
        refine lv_aload_n hx hb dX6_findRun_98 rfl (lv_at hl 0 rfl) ?_
        refine q_getI C hj lk_X6_51 dX6_findRun_99 hf (fun v9 hf => ?_)
        exact q_iretW C hj dX6_findRun_102 hf
      · refine lv_aload_n hx hb dX6_findRun_34 rfl (lv_at hl 0 rfl) ?_
        refine q_getR C hj lk_X6_9 dX6_findRun_35 hf (fun v10 hf => ?_)
        refine lv_iload hx hb dX6_findRun_38 (lv_at hl 5 rfl) ?_
        refine q_aldB C hj dX6_findRun_40 hf (fun v11 hf => ?_)
        refine lv_iload_n hx hb dX6_findRun_41 rfl (lv_at hl 1 rfl) ?_
        refine q_iclt C (tgt := 87) dX6_findRun_42 (by decide) hf (fun hf => ?_) (fun hf => ?_)
        · refine lv_aload_n hx hb dX6_findRun_87 rfl (lv_at hl 0 rfl) ?_
          refine lv_iload hx hb dX6_findRun_88 (lv_at hl 5 rfl) ?_
          refine lv_aload_n hx hb dX6_findRun_90 rfl (lv_at hl 0 rfl) ?_
          refine q_getI C hj lk_X6_48 dX6_findRun_91 hf (fun v12 hf => ?_)
          refine lv_isub hx hb dX6_findRun_94 ?_
          refine q_putI C hj fp_X6_51 dX6_findRun_95 hf (fun g13 H locs hj hf => ?_)
          refine lv_aload_n hx hb dX6_findRun_98 rfl (lv_at hl 0 rfl) ?_
          refine q_getI C hj lk_X6_51 dX6_findRun_99 hf (fun v14 hf => ?_)
          exact q_iretW C hj dX6_findRun_102 hf
        · refine lv_aload_n hx hb dX6_findRun_45 rfl (lv_at hl 0 rfl) ?_
          refine q_getR C hj lk_X6_9 dX6_findRun_46 hf (fun v15 hf => ?_)
          refine lv_iload hx hb dX6_findRun_49 (lv_at hl 5 rfl) ?_
          refine q_aldB C hj dX6_findRun_51 hf (fun v16 hf => ?_)
          refine lv_iload_n hx hb dX6_findRun_52 rfl (lv_at hl 2 rfl) ?_
          refine q_icgt C (tgt := 87) dX6_findRun_53 (by decide) hf (fun hf => ?_) (fun hf => ?_)
          · refine lv_aload_n hx hb dX6_findRun_87 rfl (lv_at hl 0 rfl) ?_
            refine lv_iload hx hb dX6_findRun_88 (lv_at hl 5 rfl) ?_
            refine lv_aload_n hx hb dX6_findRun_90 rfl (lv_at hl 0 rfl) ?_
            refine q_getI C hj lk_X6_48 dX6_findRun_91 hf (fun v17 hf => ?_)
            refine lv_isub hx hb dX6_findRun_94 ?_
            refine q_putI C hj fp_X6_51 dX6_findRun_95 hf (fun g18 H locs hj hf => ?_)
            refine lv_aload_n hx hb dX6_findRun_98 rfl (lv_at hl 0 rfl) ?_
            refine q_getI C hj lk_X6_51 dX6_findRun_99 hf (fun v19 hf => ?_)
            exact q_iretW C hj dX6_findRun_102 hf
          · refine lv_aload_n hx hb dX6_findRun_56 rfl (lv_at hl 0 rfl) ?_
            refine lv_iload hx hb dX6_findRun_57 (lv_at hl 4 rfl) ?_
            refine lv_i2l hx hb dX6_findRun_59 rfl ?_
            refine lv_aload_n hx hb dX6_findRun_60 rfl (lv_at hl 0 rfl) ?_
            refine q_getL C hj lk_X6_54 dX6_findRun_61 hf (fun v20 hf => ?_)
            refine lv_lmul hx hb dX6_findRun_64 ?_
            refine lv_aload_n hx hb dX6_findRun_65 rfl (lv_at hl 0 rfl) ?_
            refine q_getR C hj lk_X6_9 dX6_findRun_66 hf (fun v21 hf => ?_)
            refine lv_iload hx hb dX6_findRun_69 (lv_at hl 5 rfl) ?_
            refine q_aldB C hj dX6_findRun_71 hf (fun v22 hf => ?_)
            refine lv_iload_n hx hb dX6_findRun_72 rfl (lv_at hl 1 rfl) ?_
            refine lv_isub hx hb dX6_findRun_73 ?_
            refine lv_iload_n hx hb dX6_findRun_74 rfl (lv_at hl 3 rfl) ?_
            refine lv_iadd hx hb dX6_findRun_75 ?_
            refine lv_i2l hx hb dX6_findRun_76 rfl ?_
            refine lv_ladd hx hb dX6_findRun_77 ?_
            refine q_putL C hj fp_X6_54 dX6_findRun_78 hf (fun g23 H locs hj hf => ?_)
            refine lv_iinc (v := x5 + 1) (lv' := [(5, .int (x5 + 1)), (0, .ref (q_ad E x0)), (1, .int x1), (2, .int x2), (3, .int x3), (4, .int x4)]) hx hb dX6_findRun_81 hl (k := 5) rfl (by rw [qi_1]) (by decide) rfl (fun ls hl => ?_)
            refine lv_goto (tgt := 15) hx hb dX6_findRun_84 (by decide) ?_
            exact ih _ _ _ _ _ _ _ _ _ ls hj (lv_sub hl [1, 2, 3, 4, 5, 0] rfl) hf
def f_X6_findRun (g : qS) (a0 : Nat) (a1 : Int32) (a2 : Int32) (a3 : Int32) (a4 : Int32) : Option (Int32 × qS) := (g_C g a0 5).bind fun _ => (g_I g a0 5 8).bind fun v1 => (p_L g a0 5 10 0).bind fun g2 => L_X6_findRun_15 1000000000 a0 a1 a2 a3 a4 (q_mx 0 v1) g2
set_option maxHeartbeats 4000000 in
set_option maxRecDepth 100000 in
theorem c_X6_findRun (l : Launch) (E : qV) {g : qS} {a0 : Nat} {a1 : Int32} {a2 : Int32} {a3 : Int32} {a4 : Int32} {res : (Int32 × qS)} (hf : f_X6_findRun g a0 a1 a2 a3 a4 = some res) : q_MW l yX6_findRun cX6_findRun 6 (some .int) 1 24 E [.ref (q_ad E a0), .int a1, .int a2, .int a3, .int a4] g (some (.int res.1)) res.2 ∧ ∃ fs, g a0 = some (.inr (5, fs)) := by
  unfold f_X6_findRun at hf
  obtain ⟨u9, hu9, hf⟩ := q_ob hf
  refine ⟨q_ofW (by decide) rfl ?_, g_C_sp hu9⟩
  intro p e s m args below meth c ls C hj hl
  have hx := C.1
  have hb := C.2.1
  have C : q_C E p s m args meth c cX6_findRun RX6 6 (some .int) := C
  have hl : lv_has ls 6 [(0, .ref (q_ad E a0)), (1, .int a1), (2, .int a2), (3, .int a3), (4, .int a4)] := hl
  refine lv_iconst (v := 0) hx hb dX6_findRun_0 qi_0 ?_
  refine lv_aload_n hx hb dX6_findRun_1 rfl (lv_at hl 0 rfl) ?_
  refine q_getI C hj lk_X6_48 dX6_findRun_2 hf (fun v1 hf => ?_)
  refine q_max C (q_ml_X6_102) rfl hl dX6_findRun_5 ?_
  refine lv_istore (lv' := [(5, .int (q_mx 0 v1)), (0, .ref (q_ad E a0)), (1, .int a1), (2, .int a2), (3, .int a3), (4, .int a4)]) hx hb dX6_findRun_8 hl (by decide) rfl (fun ls hl => ?_)
  refine lv_aload_n hx hb dX6_findRun_10 rfl (lv_at hl 1 rfl) ?_
  refine lv_lconst (v := 0) hx hb dX6_findRun_11 (by decide) ?_
  refine q_putL C hj fp_X6_54 dX6_findRun_12 hf (fun g2 H locs hj hf => ?_)
  refine w_L_X6_findRun_15 C  hj (lv_sub hl [1, 2, 3, 4, 5, 0] rfl) hf
def L_X6_take_27 (k61 : Nat → Int32 → qS → Option (Int32 × qS)) : Nat → Nat → Int32 → qS → Option (Int32 × qS)
  | 0, _, _, _ => none
  | n + 1, x0, x2, g => (g_I g x0 5 6).bind fun v1 => if v1 ≤ x2 then (k61 x0 x2 g) else ((g_R g x0 5 0).bind fun v2 => (a_n g v2).bind fun v3 => if v3 ≤ x2 then (k61 x0 x2 g) else ((g_R g x0 5 0).bind fun v4 => (a_B g v4 x2).bind fun v5 => if v5 = 32 then (L_X6_take_27 k61 n x0 (x2 + 1) g) else (k61 x0 x2 g)))
set_option maxHeartbeats 4000000 in
set_option maxRecDepth 100000 in
theorem w_L_X6_take_27 {l : Launch} {E : qV} {p : Program} {e : Env} {s : State} {m : MethodId} {args : Array Value} {below : List Frame} {meth : Method} {c : Code} {k61 : Nat → Int32 → qS → Option (Int32 × qS)} {res : (Int32 × qS)} (C : q_C E p s m args meth c cX6_take RX6 4 (some .boolean)) (hk61 : ∀ (x0 : Nat) (x2 : Int32) (g : qS) (H : Heap) (locs : List Loc) (ls : Array Slot), q_J E s g H locs → lv_has ls 4 [(0, .ref (q_ad E x0)), (2, .int x2)] → k61 x0 x2 g = some res → W p l e (q_rm 2 49) s m args below meth c H locs 0 0 (q_ZW E below (some (.int res.1)) res.2 args s) (F0 m 61 ls [])) : ∀ {n : Nat} {x0 : Nat} {x2 : Int32} {g : qS} {H : Heap} {locs : List Loc} {ls : Array Slot}, q_J E s g H locs → lv_has ls 4 [(0, .ref (q_ad E x0)), (2, .int x2)] → L_X6_take_27 k61 n x0 x2 g = some res → W p l e (q_rm 2 49) s m args below meth c H locs 0 0 (q_ZW E below (some (.int res.1)) res.2 args s) (F0 m 27 ls []) := by
  have hx := C.1
  have hb := C.2.1
  intro n
  induction n with
  | zero =>
    intro x0 x2 g H locs ls hj hl hf
    cases hf
  | succ n ih_ =>
    intro x0 x2 g H locs ls hj hl hf
    have ih : ∀ (x0 : Nat) (x2 : Int32) (g : qS) (H : Heap) (locs : List Loc) (ls : Array Slot), q_J E s g H locs → lv_has ls 4 [(0, .ref (q_ad E x0)), (2, .int x2)] → L_X6_take_27 k61 n x0 x2 g = some res → W p l e (q_rm 2 49) s m args below meth c H locs 0 0 (q_ZW E below (some (.int res.1)) res.2 args s) (F0 m 27 ls []) := fun x0 x2 g H locs ls hj hl hf => ih_ hj hl hf
    unfold L_X6_take_27 at hf
    refine lv_iload_n hx hb dX6_take_27 rfl (lv_at hl 1 rfl) ?_
    refine lv_aload_n hx hb dX6_take_28 rfl (lv_at hl 0 rfl) ?_
    refine q_getI C hj lk_X6_42 dX6_take_29 hf (fun v1 hf => ?_)
    refine q_icge C (tgt := 61) dX6_take_32 (by decide) hf (fun hf => ?_) (fun hf => ?_)
    · exact hk61 _ _ _ _ _ ls hj (lv_sub hl [0, 1] rfl) hf
    · refine lv_iload_n hx hb dX6_take_35 rfl (lv_at hl 1 rfl) ?_
      refine lv_aload_n hx hb dX6_take_36 rfl (lv_at hl 0 rfl) ?_
      refine q_getR C hj lk_X6_9 dX6_take_37 hf (fun v2 hf => ?_)
      refine q_alen C hj dX6_take_40 hf (fun v3 hf => ?_)
      refine q_icge C (tgt := 61) dX6_take_41 (by decide) hf (fun hf => ?_) (fun hf => ?_)
      · exact hk61 _ _ _ _ _ ls hj (lv_sub hl [0, 1] rfl) hf
      · refine lv_aload_n hx hb dX6_take_44 rfl (lv_at hl 0 rfl) ?_
        refine q_getR C hj lk_X6_9 dX6_take_45 hf (fun v4 hf => ?_)
        refine lv_iload_n hx hb dX6_take_48 rfl (lv_at hl 1 rfl) ?_
        refine q_aldB C hj dX6_take_49 hf (fun v5 hf => ?_)
        refine lv_bipush (v := 32) hx hb dX6_take_50 (by decide) ?_
        refine q_icne C (tgt := 61) dX6_take_52 (by decide) hf (fun hf => ?_) (fun hf => ?_)
        · exact hk61 _ _ _ _ _ ls hj (lv_sub hl [0, 1] rfl) hf
        · refine lv_iinc (v := x2 + 1) (lv' := [(2, .int (x2 + 1)), (0, .ref (q_ad E x0))]) hx hb dX6_take_55 hl (k := 1) rfl (by rw [qi_1]) (by decide) rfl (fun ls hl => ?_)
          refine lv_goto (tgt := 27) hx hb dX6_take_58 (by decide) ?_
          exact ih _ _ _ _ _ ls hj (lv_sub hl [1, 0] rfl) hf
def J_X6_take_161  (x0 : Nat) (x3 : Int32) (g : qS) : Option (Int32 × qS) := if x3 < 48 then ((p_I g x0 5 7 4).bind fun g1 => some (1, g1)) else (if 57 < x3 then ((p_I g x0 5 7 4).bind fun g2 => some (1, g2)) else (q_b2 (f_X6_findRun g x0 48 57 0 10) fun v4 g3 => if 3 < v4 then ((p_I g3 x0 5 7 4).bind fun g5 => some (1, g5)) else ((p_I g3 x0 5 7 2).bind fun g6 => some (1, g6))))
set_option maxHeartbeats 4000000 in
set_option maxRecDepth 100000 in
theorem w_J_X6_take_161 {l : Launch} {E : qV} {p : Program} {e : Env} {s : State} {m : MethodId} {args : Array Value} {below : List Frame} {meth : Method} {c : Code}  {res : (Int32 × qS)} (C : q_C E p s m args meth c cX6_take RX6 4 (some .boolean))  : ∀ {x0 : Nat} {x3 : Int32} {g : qS} {H : Heap} {locs : List Loc} {ls : Array Slot}, q_J E s g H locs → lv_has ls 4 [(0, .ref (q_ad E x0)), (3, .int x3)] → J_X6_take_161 x0 x3 g = some res → W p l e (q_rm 2 49) s m args below meth c H locs 0 0 (q_ZW E below (some (.int res.1)) res.2 args s) (F0 m 161 ls []) := by
  have hx := C.1
  have hb := C.2.1
  intro x0 x3 g H locs ls hj hl hf
  unfold J_X6_take_161 at hf
  refine lv_iload_n hx hb dX6_take_161 rfl (lv_at hl 1 rfl) ?_
  refine lv_bipush (v := 48) hx hb dX6_take_162 (by decide) ?_
  refine q_iclt C (tgt := 200) dX6_take_164 (by decide) hf (fun hf => ?_) (fun hf => ?_)
  · refine lv_aload_n hx hb dX6_take_200 rfl (lv_at hl 0 rfl) ?_
    refine lv_iconst (v := 4) hx hb dX6_take_201 qi_4 ?_
    refine q_putI C hj fp_X6_45 dX6_take_202 hf (fun g1 H locs hj hf => ?_)
    refine lv_iconst (v := 1) hx hb dX6_take_205 qi_1 ?_
    exact q_z1retW C hj dX6_take_206 hf
  · refine lv_iload_n hx hb dX6_take_167 rfl (lv_at hl 1 rfl) ?_
    refine lv_bipush (v := 57) hx hb dX6_take_168 (by decide) ?_
    refine q_icgt C (tgt := 200) dX6_take_170 (by decide) hf (fun hf => ?_) (fun hf => ?_)
    · refine lv_aload_n hx hb dX6_take_200 rfl (lv_at hl 0 rfl) ?_
      refine lv_iconst (v := 4) hx hb dX6_take_201 qi_4 ?_
      refine q_putI C hj fp_X6_45 dX6_take_202 hf (fun g2 H locs hj hf => ?_)
      refine lv_iconst (v := 1) hx hb dX6_take_205 qi_1 ?_
      exact q_z1retW C hj dX6_take_206 hf
    · refine lv_aload_n hx hb dX6_take_173 rfl (lv_at hl 0 rfl) ?_
      refine lv_aload_n hx hb dX6_take_174 rfl (lv_at hl 0 rfl) ?_
      refine lv_bipush (v := 48) hx hb dX6_take_175 (by decide) ?_
      refine lv_bipush (v := 57) hx hb dX6_take_177 (by decide) ?_
      refine lv_iconst (v := 0) hx hb dX6_take_179 qi_0 ?_
      refine lv_bipush (v := 10) hx hb dX6_take_180 (by decide) ?_
      refine q_cVWI C hj cw_X6_105 (As := [.int 48, .int 57, .int 0, .int 10]) (rest := [.ref (q_ad E x0)]) hf (fun v9 g9 h9 => c_X6_findRun l E h9) rfl hl rfl rfl rfl dX6_take_182 ⟨Nat.zero_le _, Nat.zero_le _⟩ (fun v4 g3 H locs hj hf => ?_)
      refine lv_iconst (v := 3) hx hb dX6_take_185 qi_3 ?_
      refine q_icgt C (tgt := 193) dX6_take_186 (by decide) hf (fun hf => ?_) (fun hf => ?_)
      · refine lv_iconst (v := 4) hx hb dX6_take_193 qi_4 ?_
        refine q_putI C hj fp_X6_45 dX6_take_194 hf (fun g5 H locs hj hf => ?_)
        refine lv_goto (tgt := 205) hx hb dX6_take_197 (by decide) ?_
        refine lv_iconst (v := 1) hx hb dX6_take_205 qi_1 ?_
        exact q_z1retW C hj dX6_take_206 hf
      · refine lv_iconst (v := 2) hx hb dX6_take_189 qi_2 ?_
        refine lv_goto (tgt := 194) hx hb dX6_take_190 (by decide) ?_
        refine q_putI C hj fp_X6_45 dX6_take_194 hf (fun g6 H locs hj hf => ?_)
        refine lv_goto (tgt := 205) hx hb dX6_take_197 (by decide) ?_
        refine lv_iconst (v := 1) hx hb dX6_take_205 qi_1 ?_
        exact q_z1retW C hj dX6_take_206 hf
def J_X6_take_61  (x0 : Nat) (x2 : Int32) (g : qS) : Option (Int32 × qS) := (p_I g x0 5 8 x2).bind fun g1 => (p_I g1 x0 5 9 0).bind fun g2 => (g_I g2 x0 5 6).bind fun v3 => if v3 ≤ x2 then ((p_I g2 x0 5 7 0).bind fun g4 => some (1, g4)) else ((g_R g2 x0 5 0).bind fun v5 => (a_n g2 v5).bind fun v6 => if x2 < v6 then ((g_R g2 x0 5 0).bind fun v7 => (a_B g2 v7 x2).bind fun v8 => if v8 = 59 then ((p_I g2 x0 5 9 1).bind fun g13 => (p_I g13 x0 5 7 3).bind fun g14 => some (1, g14)) else (if v8 < 97 then (J_X6_take_161 x0 v8 g2) else (if 122 < v8 then (J_X6_take_161 x0 v8 g2) else (q_b2 (f_X6_findRun g2 x0 97 122 1 27) fun v10 g9 => if 8 < v10 then ((p_I g9 x0 5 7 4).bind fun g11 => some (1, g11)) else ((p_I g9 x0 5 7 1).bind fun g12 => some (1, g12)))))) else ((p_I g2 x0 5 7 0).bind fun g15 => some (1, g15)))
set_option maxHeartbeats 4000000 in
set_option maxRecDepth 100000 in
theorem w_J_X6_take_61 {l : Launch} {E : qV} {p : Program} {e : Env} {s : State} {m : MethodId} {args : Array Value} {below : List Frame} {meth : Method} {c : Code}  {res : (Int32 × qS)} (C : q_C E p s m args meth c cX6_take RX6 4 (some .boolean))  : ∀ {x0 : Nat} {x2 : Int32} {g : qS} {H : Heap} {locs : List Loc} {ls : Array Slot}, q_J E s g H locs → lv_has ls 4 [(0, .ref (q_ad E x0)), (2, .int x2)] → J_X6_take_61 x0 x2 g = some res → W p l e (q_rm 2 49) s m args below meth c H locs 0 0 (q_ZW E below (some (.int res.1)) res.2 args s) (F0 m 61 ls []) := by
  have hx := C.1
  have hb := C.2.1
  intro x0 x2 g H locs ls hj hl hf
  unfold J_X6_take_61 at hf
  refine lv_aload_n hx hb dX6_take_61 rfl (lv_at hl 0 rfl) ?_
  refine lv_iload_n hx hb dX6_take_62 rfl (lv_at hl 1 rfl) ?_
  refine q_putI C hj fp_X6_48 dX6_take_63 hf (fun g1 H locs hj hf => ?_)
  refine lv_aload_n hx hb dX6_take_66 rfl (lv_at hl 0 rfl) ?_
  refine lv_iconst (v := 0) hx hb dX6_take_67 qi_0 ?_
  refine q_putI C hj fp_X6_51 dX6_take_68 hf (fun g2 H locs hj hf => ?_)
  refine lv_iload_n hx hb dX6_take_71 rfl (lv_at hl 1 rfl) ?_
  refine lv_aload_n hx hb dX6_take_72 rfl (lv_at hl 0 rfl) ?_
  refine q_getI C hj lk_X6_42 dX6_take_73 hf (fun v3 hf => ?_)
  refine q_icge C (tgt := 88) dX6_take_76 (by decide) hf (fun hf => ?_) (fun hf => ?_)
  · refine lv_aload_n hx hb dX6_take_88 rfl (lv_at hl 0 rfl) ?_
    refine lv_iconst (v := 0) hx hb dX6_take_89 qi_0 ?_
    refine q_putI C hj fp_X6_45 dX6_take_90 hf (fun g4 H locs hj hf => ?_)
    refine lv_iconst (v := 1) hx hb dX6_take_93 qi_1 ?_
    exact q_z1retW C hj dX6_take_94 hf
  · refine lv_iload_n hx hb dX6_take_79 rfl (lv_at hl 1 rfl) ?_
    refine lv_aload_n hx hb dX6_take_80 rfl (lv_at hl 0 rfl) ?_
    refine q_getR C hj lk_X6_9 dX6_take_81 hf (fun v5 hf => ?_)
    refine q_alen C hj dX6_take_84 hf (fun v6 hf => ?_)
    refine q_iclt C (tgt := 95) dX6_take_85 (by decide) hf (fun hf => ?_) (fun hf => ?_)
    · refine lv_aload_n hx hb dX6_take_95 rfl (lv_at hl 0 rfl) ?_
      refine q_getR C hj lk_X6_9 dX6_take_96 hf (fun v7 hf => ?_)
      refine lv_iload_n hx hb dX6_take_99 rfl (lv_at hl 1 rfl) ?_
      refine q_aldB C hj dX6_take_100 hf (fun v8 hf => ?_)
      refine lv_istore_n (lv' := [(3, .int v8), (0, .ref (q_ad E x0)), (2, .int x2)]) hx hb dX6_take_101 rfl hl (by decide) rfl (fun ls hl => ?_)
      refine lv_iload_n hx hb dX6_take_102 rfl (lv_at hl 0 rfl) ?_
      refine lv_bipush (v := 59) hx hb dX6_take_103 (by decide) ?_
      refine q_icne C (tgt := 121) dX6_take_105 (by decide) hf (fun hf => ?_) (fun hf => ?_)
      · refine lv_iload_n hx hb dX6_take_121 rfl (lv_at hl 0 rfl) ?_
        refine lv_bipush (v := 97) hx hb dX6_take_122 (by decide) ?_
        refine q_iclt C (tgt := 161) dX6_take_124 (by decide) hf (fun hf => ?_) (fun hf => ?_)
        · refine w_J_X6_take_161 C  hj (lv_sub hl [1, 0] rfl) hf
        · refine lv_iload_n hx hb dX6_take_127 rfl (lv_at hl 0 rfl) ?_
          refine lv_bipush (v := 122) hx hb dX6_take_128 (by decide) ?_
          refine q_icgt C (tgt := 161) dX6_take_130 (by decide) hf (fun hf => ?_) (fun hf => ?_)
          · refine w_J_X6_take_161 C  hj (lv_sub hl [1, 0] rfl) hf
          · refine lv_aload_n hx hb dX6_take_133 rfl (lv_at hl 1 rfl) ?_
            refine lv_aload_n hx hb dX6_take_134 rfl (lv_at hl 1 rfl) ?_
            refine lv_bipush (v := 97) hx hb dX6_take_135 (by decide) ?_
            refine lv_bipush (v := 122) hx hb dX6_take_137 (by decide) ?_
            refine lv_iconst (v := 1) hx hb dX6_take_139 qi_1 ?_
            refine lv_bipush (v := 27) hx hb dX6_take_140 (by decide) ?_
            refine q_cVWI C hj cw_X6_105 (As := [.int 97, .int 122, .int 1, .int 27]) (rest := [.ref (q_ad E x0)]) hf (fun v9 g9 h9 => c_X6_findRun l E h9) rfl hl rfl rfl rfl dX6_take_142 ⟨Nat.zero_le _, Nat.zero_le _⟩ (fun v10 g9 H locs hj hf => ?_)
            refine lv_bipush (v := 8) hx hb dX6_take_145 (by decide) ?_
            refine q_icgt C (tgt := 154) dX6_take_147 (by decide) hf (fun hf => ?_) (fun hf => ?_)
            · refine lv_iconst (v := 4) hx hb dX6_take_154 qi_4 ?_
              refine q_putI C hj fp_X6_45 dX6_take_155 hf (fun g11 H locs hj hf => ?_)
              refine lv_goto (tgt := 205) hx hb dX6_take_158 (by decide) ?_
              refine lv_iconst (v := 1) hx hb dX6_take_205 qi_1 ?_
              exact q_z1retW C hj dX6_take_206 hf
            · refine lv_iconst (v := 1) hx hb dX6_take_150 qi_1 ?_
              refine lv_goto (tgt := 155) hx hb dX6_take_151 (by decide) ?_
              refine q_putI C hj fp_X6_45 dX6_take_155 hf (fun g12 H locs hj hf => ?_)
              refine lv_goto (tgt := 205) hx hb dX6_take_158 (by decide) ?_
              refine lv_iconst (v := 1) hx hb dX6_take_205 qi_1 ?_
              exact q_z1retW C hj dX6_take_206 hf
      · refine lv_aload_n hx hb dX6_take_108 rfl (lv_at hl 1 rfl) ?_
        refine lv_iconst (v := 1) hx hb dX6_take_109 qi_1 ?_
        refine q_putI C hj fp_X6_51 dX6_take_110 hf (fun g13 H locs hj hf => ?_)
        refine lv_aload_n hx hb dX6_take_113 rfl (lv_at hl 1 rfl) ?_
        refine lv_iconst (v := 3) hx hb dX6_take_114 qi_3 ?_
        refine q_putI C hj fp_X6_45 dX6_take_115 hf (fun g14 H locs hj hf => ?_)
        refine lv_goto (tgt := 205) hx hb dX6_take_118 (by decide) ?_
        refine lv_iconst (v := 1) hx hb dX6_take_205 qi_1 ?_
        exact q_z1retW C hj dX6_take_206 hf
    · refine lv_aload_n hx hb dX6_take_88 rfl (lv_at hl 0 rfl) ?_
      refine lv_iconst (v := 0) hx hb dX6_take_89 qi_0 ?_
      refine q_putI C hj fp_X6_45 dX6_take_90 hf (fun g15 H locs hj hf => ?_)
      refine lv_iconst (v := 1) hx hb dX6_take_93 qi_1 ?_
      exact q_z1retW C hj dX6_take_94 hf
def f_X6_take (g : qS) (a0 : Nat) (a1 : Int32) : Option (Int32 × qS) := (g_C g a0 5).bind fun _ => (p_I g a0 5 11 a1).bind fun g1 => (g_I g1 a0 5 8).bind fun v2 => (p_I g1 a0 5 12 v2).bind fun g3 => (g_I g3 a0 5 8).bind fun v4 => (g_I g3 a0 5 9).bind fun v5 => L_X6_take_27 (fun y6 y7 g8 => J_X6_take_61 y6 y7 g8) 1000000000 a0 (q_mx 0 (v4 + v5)) g3
set_option maxHeartbeats 4000000 in
set_option maxRecDepth 100000 in
theorem c_X6_take (l : Launch) (E : qV) {g : qS} {a0 : Nat} {a1 : Int32} {res : (Int32 × qS)} (hf : f_X6_take g a0 a1 = some res) : q_MW l yX6_take cX6_take 4 (some .boolean) 2 49 E [.ref (q_ad E a0), .int a1] g (some (.int res.1)) res.2 ∧ ∃ fs, g a0 = some (.inr (5, fs)) := by
  unfold f_X6_take at hf
  obtain ⟨u9, hu9, hf⟩ := q_ob hf
  refine ⟨q_ofW (by decide) rfl ?_, g_C_sp hu9⟩
  intro p e s m args below meth c ls C hj hl
  have hx := C.1
  have hb := C.2.1
  have C : q_C E p s m args meth c cX6_take RX6 4 (some .boolean) := C
  have hl : lv_has ls 4 [(0, .ref (q_ad E a0)), (1, .int a1)] := hl
  refine lv_aload_n hx hb dX6_take_0 rfl (lv_at hl 0 rfl) ?_
  refine lv_iload_n hx hb dX6_take_1 rfl (lv_at hl 1 rfl) ?_
  refine q_putI C hj fp_X6_58 dX6_take_2 hf (fun g1 H locs hj hf => ?_)
  refine lv_aload_n hx hb dX6_take_5 rfl (lv_at hl 0 rfl) ?_
  refine lv_aload_n hx hb dX6_take_6 rfl (lv_at hl 0 rfl) ?_
  refine q_getI C hj lk_X6_48 dX6_take_7 hf (fun v2 hf => ?_)
  refine q_putI C hj fp_X6_61 dX6_take_10 hf (fun g3 H locs hj hf => ?_)
  refine lv_iconst (v := 0) hx hb dX6_take_13 qi_0 ?_
  refine lv_aload_n hx hb dX6_take_14 rfl (lv_at hl 0 rfl) ?_
  refine q_getI C hj lk_X6_48 dX6_take_15 hf (fun v4 hf => ?_)
  refine lv_aload_n hx hb dX6_take_18 rfl (lv_at hl 0 rfl) ?_
  refine q_getI C hj lk_X6_51 dX6_take_19 hf (fun v5 hf => ?_)
  refine lv_iadd hx hb dX6_take_22 ?_
  refine q_max C (q_ml_X6_102) rfl hl dX6_take_23 ?_
  refine lv_istore_n (lv' := [(2, .int (q_mx 0 (v4 + v5))), (0, .ref (q_ad E a0)), (1, .int a1)]) hx hb dX6_take_26 rfl hl (by decide) rfl (fun ls hl => ?_)
  refine w_L_X6_take_27 C (fun y6 y7 g8 H locs ls hj hl hf => ?_) hj (lv_sub hl [1, 0] rfl) hf
  · refine w_J_X6_take_61 C  hj (lv_sub hl [0, 1] rfl) hf
def f_X6_begin (g : qS) (a0 : Nat) (a1 : Int32) : Option qS := (g_C g a0 5).bind fun _ => (g_R g a0 5 2).bind fun v1 => (f_X3_clear g v1).bind fun g2 => (p_I g2 a0 5 1 0).bind fun g3 => (g_R g3 a0 5 0).bind fun v4 => (a_n g3 v4).bind fun v5 => (p_I g3 a0 5 6 (q_mn a1 v5)).bind fun g6 => (p_I g6 a0 5 5 0).bind fun g7 => (p_I g7 a0 5 13 0).bind fun g8 => (p_I g8 a0 5 14 0).bind fun g9 => (p_I g9 a0 5 8 0).bind fun g10 => (p_I g10 a0 5 9 0).bind fun g11 => q_b2 (f_X6_take g11 a0 0) fun v13 g12 => some g12
set_option maxHeartbeats 4000000 in
set_option maxRecDepth 100000 in
theorem c_X6_begin (l : Launch) (E : qV) {g : qS} {a0 : Nat} {a1 : Int32} {res : qS} (hf : f_X6_begin g a0 a1 = some res) : q_MW l yX6_begin cX6_begin 2 none 3 72 E [.ref (q_ad E a0), .int a1] g none res ∧ ∃ fs, g a0 = some (.inr (5, fs)) := by
  unfold f_X6_begin at hf
  obtain ⟨u9, hu9, hf⟩ := q_ob hf
  refine ⟨q_ofW (by decide) rfl ?_, g_C_sp hu9⟩
  intro p e s m args below meth c ls C hj hl
  have hx := C.1
  have hb := C.2.1
  have C : q_C E p s m args meth c cX6_begin RX6 2 none := C
  have hl : lv_has ls 2 [(0, .ref (q_ad E a0)), (1, .int a1)] := hl
  refine lv_aload_n hx hb dX6_begin_0 rfl (lv_at hl 0 rfl) ?_
  refine q_getR C hj lk_X6_22 dX6_begin_1 hf (fun v1 hf => ?_)
  refine q_cVWV C hj cw_X6_89 (As := []) (rest := []) hf (fun g9 h9 => c_X3_clear l E h9) rfl hl rfl rfl rfl dX6_begin_4 ⟨Nat.zero_le _, Nat.zero_le _⟩ (fun g2 H locs hj hf => ?_)
  refine lv_aload_n hx hb dX6_begin_7 rfl (lv_at hl 0 rfl) ?_
  refine lv_iconst (v := 0) hx hb dX6_begin_8 qi_0 ?_
  refine q_putI C hj fp_X6_15 dX6_begin_9 hf (fun g3 H locs hj hf => ?_)
  refine lv_aload_n hx hb dX6_begin_12 rfl (lv_at hl 0 rfl) ?_
  refine lv_iload_n hx hb dX6_begin_13 rfl (lv_at hl 1 rfl) ?_
  refine lv_aload_n hx hb dX6_begin_14 rfl (lv_at hl 0 rfl) ?_
  refine q_getR C hj lk_X6_9 dX6_begin_15 hf (fun v4 hf => ?_)
  refine q_alen C hj dX6_begin_18 hf (fun v5 hf => ?_)
  refine q_min C (q_ml_X6_92) rfl hl dX6_begin_19 ?_
  refine q_putI C hj fp_X6_42 dX6_begin_22 hf (fun g6 H locs hj hf => ?_)
  refine lv_aload_n hx hb dX6_begin_25 rfl (lv_at hl 0 rfl) ?_
  refine lv_iconst (v := 0) hx hb dX6_begin_26 qi_0 ?_
  refine q_putI C hj fp_X6_39 dX6_begin_27 hf (fun g7 H locs hj hf => ?_)
  refine lv_aload_n hx hb dX6_begin_30 rfl (lv_at hl 0 rfl) ?_
  refine lv_iconst (v := 0) hx hb dX6_begin_31 qi_0 ?_
  refine q_putI C hj fp_X6_64 dX6_begin_32 hf (fun g8 H locs hj hf => ?_)
  refine lv_aload_n hx hb dX6_begin_35 rfl (lv_at hl 0 rfl) ?_
  refine lv_iconst (v := 0) hx hb dX6_begin_36 qi_0 ?_
  refine q_putI C hj fp_X6_67 dX6_begin_37 hf (fun g9 H locs hj hf => ?_)
  refine lv_aload_n hx hb dX6_begin_40 rfl (lv_at hl 0 rfl) ?_
  refine lv_iconst (v := 0) hx hb dX6_begin_41 qi_0 ?_
  refine q_putI C hj fp_X6_48 dX6_begin_42 hf (fun g10 H locs hj hf => ?_)
  refine lv_aload_n hx hb dX6_begin_45 rfl (lv_at hl 0 rfl) ?_
  refine lv_iconst (v := 0) hx hb dX6_begin_46 qi_0 ?_
  refine q_putI C hj fp_X6_51 dX6_begin_47 hf (fun g11 H locs hj hf => ?_)
  refine lv_aload_n hx hb dX6_begin_50 rfl (lv_at hl 0 rfl) ?_
  refine lv_iconst (v := 0) hx hb dX6_begin_51 qi_0 ?_
  refine q_cVWI C hj cw_X6_85 (As := [.int 0]) (rest := []) hf (fun v9 g9 h9 => c_X6_take l E h9) rfl hl rfl rfl rfl dX6_begin_52 ⟨Nat.zero_le _, Nat.zero_le _⟩ (fun v13 g12 H locs hj hf => ?_)
  refine lv_pop hx hb dX6_begin_55 rfl ?_
  exact q_vretW C hj dX6_begin_56 hf
def f_X6_lineWord (g : qS) (a0 : Int32) : Option Nat := if a0 = 0 then (some 0) else (if a0 = 1 then (some 1) else (if a0 = 2 then (some 2) else (if a0 = 3 then (some 3) else (if a0 = 4 then (some 4) else (if a0 = 5 then (some 5) else (if a0 = 6 then (some 6) else (if a0 = 7 then (some 7) else (if a0 = 8 then (some 8) else (some 9)))))))))
set_option maxHeartbeats 4000000 in
set_option maxRecDepth 100000 in
theorem c_X6_lineWord (l : Launch) (E : qV) {g : qS} {a0 : Int32} {res : Nat} (hf : f_X6_lineWord g a0 = some res) : q_MR l yX6_lineWord cX6_lineWord 1 (some (.object "java/lang/String")) 0 0 E [.int a0] g (some (.ref (q_sa E res))) := by
  unfold f_X6_lineWord at hf
  refine q_ofR (by decide) rfl ?_
  intro p e s m args below meth c ls C hw hl
  have hj : q_J E s g s.heap [] := ⟨hw, va_S.rf⟩
  have hx := C.1
  have hb := C.2.1
  have C : q_C E p s m args meth c cX6_lineWord RX6 1 (some (.object "java/lang/String")) := C
  have hl : lv_has ls 1 [(0, .int a0)] := hl
  refine lv_iload_n hx hb dX6_lineWord_0 rfl (lv_at hl 0 rfl) ?_
  refine q_it hf (fun c0 hf => ?_) (fun c0 hf => ?_)
  · refine lv_tableIn (tgt := 52) hx hb dX6_lineWord_1 (by rw [c0]; decide) (by rw [c0]; decide) (by rw [c0]; rfl) (by decide) ?_
    refine q_ldcS C (i := 0) rfl dX6_lineWord_52 ?_
    exact q_sretR C dX6_lineWord_54 hf
  · refine q_it hf (fun c1 hf => ?_) (fun c1 hf => ?_)
    · refine lv_tableIn (tgt := 55) hx hb dX6_lineWord_1 (by rw [c1]; decide) (by rw [c1]; decide) (by rw [c1]; rfl) (by decide) ?_
      refine q_ldcS C (i := 1) rfl dX6_lineWord_55 ?_
      exact q_sretR C dX6_lineWord_57 hf
    · refine q_it hf (fun c2 hf => ?_) (fun c2 hf => ?_)
      · refine lv_tableIn (tgt := 58) hx hb dX6_lineWord_1 (by rw [c2]; decide) (by rw [c2]; decide) (by rw [c2]; rfl) (by decide) ?_
        refine q_ldcS C (i := 2) rfl dX6_lineWord_58 ?_
        exact q_sretR C dX6_lineWord_60 hf
      · refine q_it hf (fun c3 hf => ?_) (fun c3 hf => ?_)
        · refine lv_tableIn (tgt := 61) hx hb dX6_lineWord_1 (by rw [c3]; decide) (by rw [c3]; decide) (by rw [c3]; rfl) (by decide) ?_
          refine q_ldcS C (i := 3) rfl dX6_lineWord_61 ?_
          exact q_sretR C dX6_lineWord_63 hf
        · refine q_it hf (fun c4 hf => ?_) (fun c4 hf => ?_)
          · refine lv_tableIn (tgt := 64) hx hb dX6_lineWord_1 (by rw [c4]; decide) (by rw [c4]; decide) (by rw [c4]; rfl) (by decide) ?_
            refine q_ldcS C (i := 4) rfl dX6_lineWord_64 ?_
            exact q_sretR C dX6_lineWord_66 hf
          · refine q_it hf (fun c5 hf => ?_) (fun c5 hf => ?_)
            · refine lv_tableIn (tgt := 67) hx hb dX6_lineWord_1 (by rw [c5]; decide) (by rw [c5]; decide) (by rw [c5]; rfl) (by decide) ?_
              refine q_ldcS C (i := 5) rfl dX6_lineWord_67 ?_
              exact q_sretR C dX6_lineWord_69 hf
            · refine q_it hf (fun c6 hf => ?_) (fun c6 hf => ?_)
              · refine lv_tableIn (tgt := 70) hx hb dX6_lineWord_1 (by rw [c6]; decide) (by rw [c6]; decide) (by rw [c6]; rfl) (by decide) ?_
                refine q_ldcS C (i := 6) rfl dX6_lineWord_70 ?_
                exact q_sretR C dX6_lineWord_72 hf
              · refine q_it hf (fun c7 hf => ?_) (fun c7 hf => ?_)
                · refine lv_tableIn (tgt := 73) hx hb dX6_lineWord_1 (by rw [c7]; decide) (by rw [c7]; decide) (by rw [c7]; rfl) (by decide) ?_
                  refine q_ldcS C (i := 7) rfl dX6_lineWord_73 ?_
                  exact q_sretR C dX6_lineWord_75 hf
                · refine q_it hf (fun c8 hf => ?_) (fun c8 hf => ?_)
                  · refine lv_tableIn (tgt := 76) hx hb dX6_lineWord_1 (by rw [c8]; decide) (by rw [c8]; decide) (by rw [c8]; rfl) (by decide) ?_
                    refine q_ldcS C (i := 8) rfl dX6_lineWord_76 ?_
                    exact q_sretR C dX6_lineWord_78 hf
                  · refine lv_tableOut (tgt := 79) hx hb dX6_lineWord_1 (by have z0 : a0.toInt ≠ 0 := fun z => c0 (Int32.toInt_inj.mp z); have z1 : a0.toInt ≠ 1 := fun z => c1 (Int32.toInt_inj.mp z); have z2 : a0.toInt ≠ 2 := fun z => c2 (Int32.toInt_inj.mp z); have z3 : a0.toInt ≠ 3 := fun z => c3 (Int32.toInt_inj.mp z); have z4 : a0.toInt ≠ 4 := fun z => c4 (Int32.toInt_inj.mp z); have z5 : a0.toInt ≠ 5 := fun z => c5 (Int32.toInt_inj.mp z); have z6 : a0.toInt ≠ 6 := fun z => c6 (Int32.toInt_inj.mp z); have z7 : a0.toInt ≠ 7 := fun z => c7 (Int32.toInt_inj.mp z); have z8 : a0.toInt ≠ 8 := fun z => c8 (Int32.toInt_inj.mp z); omega) (by decide) ?_
                    refine q_ldcS C (i := 9) rfl dX6_lineWord_79 ?_
                    exact q_sretR C dX6_lineWord_81 hf
def L_X6_codeOf_4  (g : qS) : Nat → Nat → Int64 → Int32 → Option Int64
  | 0, _, _, _ => none
  | n + 1, x0, x1, x3 => (q_slen x0).bind fun v1 => if v1 ≤ x3 then (some x1) else ((q_sch x0 x3).bind fun v2 => L_X6_codeOf_4 g n x0 ((27 * x1) + (((v2 - 97) + 1).toInt64)) (x3 + 1))
set_option maxHeartbeats 4000000 in
set_option maxRecDepth 100000 in
theorem w_L_X6_codeOf_4 {l : Launch} {E : qV} {p : Program} {e : Env} {s : State} {m : MethodId} {args : Array Value} {below : List Frame} {meth : Method} {c : Code}  {g : qS} {res : Int64} (C : q_C E p s m args meth c cX6_codeOf RX6 4 (some .long))  : ∀ {n : Nat} {x0 : Nat} {x1 : Int64} {x3 : Int32} {ls : Array Slot}, q_J E s g s.heap [] → lv_has ls 4 [(0, .ref (q_sa E x0)), (1, .long x1), (3, .int x3)] → L_X6_codeOf_4 g n x0 x1 x3 = some res → W p l e (q_rm 4 120) s m args below meth c s.heap [] 0 0 (q_ZR below (some (.long res)) args s) (F0 m 4 ls []) := by
  have hx := C.1
  have hb := C.2.1
  intro n
  induction n with
  | zero =>
    intro x0 x1 x3 ls hj hl hf
    cases hf
  | succ n ih_ =>
    intro x0 x1 x3 ls hj hl hf
    have ih : ∀ (x0 : Nat) (x1 : Int64) (x3 : Int32) (ls : Array Slot), q_J E s g s.heap [] → lv_has ls 4 [(0, .ref (q_sa E x0)), (1, .long x1), (3, .int x3)] → L_X6_codeOf_4 g n x0 x1 x3 = some res → W p l e (q_rm 4 120) s m args below meth c s.heap [] 0 0 (q_ZR below (some (.long res)) args s) (F0 m 4 ls []) := fun x0 x1 x3 ls hj hl hf => ih_ hj hl hf
    unfold L_X6_codeOf_4 at hf
    refine lv_iload_n hx hb dX6_codeOf_4 rfl (lv_at hl 2 rfl) ?_
    refine lv_aload_n hx hb dX6_codeOf_5 rfl (lv_at hl 0 rfl) ?_
    refine q_slenW C hj (cw_X6_109) hf hl rfl rfl dX6_codeOf_6 (fun v1 hf => ?_)
    refine q_icge C (tgt := 36) dX6_codeOf_9 (by decide) hf (fun hf => ?_) (fun hf => ?_)
    · refine lv_lload_n hx hb dX6_codeOf_36 rfl (lv_at hl 1 rfl) ?_
      exact q_lretR C dX6_codeOf_37 hf
    · refine lv_ldc2 (v := 27) hx hb C.2.2.2.1 (C.2.2.2.2.1 _ kc_X6_114) dX6_codeOf_12 ?_
      refine lv_lload_n hx hb dX6_codeOf_15 rfl (lv_at hl 1 rfl) ?_
      refine lv_lmul hx hb dX6_codeOf_16 ?_
      refine lv_aload_n hx hb dX6_codeOf_17 rfl (lv_at hl 0 rfl) ?_
      refine lv_iload_n hx hb dX6_codeOf_18 rfl (lv_at hl 2 rfl) ?_
      refine q_schW C hj (cw_X6_116) hf hl rfl rfl dX6_codeOf_19 (fun v2 hf => ?_)
      refine lv_bipush (v := 97) hx hb dX6_codeOf_22 (by decide) ?_
      refine lv_isub hx hb dX6_codeOf_24 ?_
      refine lv_iconst (v := 1) hx hb dX6_codeOf_25 qi_1 ?_
      refine lv_iadd hx hb dX6_codeOf_26 ?_
      refine lv_i2l hx hb dX6_codeOf_27 rfl ?_
      refine lv_ladd hx hb dX6_codeOf_28 ?_
      refine lv_lstore_n (lv' := [(1, .long ((27 * x1) + (((v2 - 97) + 1).toInt64))), (0, .ref (q_sa E x0)), (3, .int x3)]) hx hb dX6_codeOf_29 rfl hl (by decide) rfl (fun ls hl => ?_)
      refine lv_iinc (v := x3 + 1) (lv' := [(3, .int (x3 + 1)), (1, .long ((27 * x1) + (((v2 - 97) + 1).toInt64))), (0, .ref (q_sa E x0))]) hx hb dX6_codeOf_30 hl (k := 2) rfl (by rw [qi_1]) (by decide) rfl (fun ls hl => ?_)
      refine lv_goto (tgt := 4) hx hb dX6_codeOf_33 (by decide) ?_
      exact ih _ _ _  ls hj (lv_sub hl [2, 1, 0] rfl) hf
def f_X6_codeOf (g : qS) (a0 : Nat) : Option Int64 := L_X6_codeOf_4 g 1000000000 a0 0 0
set_option maxHeartbeats 4000000 in
set_option maxRecDepth 100000 in
theorem c_X6_codeOf (l : Launch) (E : qV) {g : qS} {a0 : Nat} {res : Int64} (hf : f_X6_codeOf g a0 = some res) : q_MR l yX6_codeOf cX6_codeOf 4 (some .long) 4 120 E [.ref (q_sa E a0)] g (some (.long res)) := by
  unfold f_X6_codeOf at hf
  refine q_ofR (by decide) rfl ?_
  intro p e s m args below meth c ls C hw hl
  have hj : q_J E s g s.heap [] := ⟨hw, va_S.rf⟩
  have hx := C.1
  have hb := C.2.1
  have C : q_C E p s m args meth c cX6_codeOf RX6 4 (some .long) := C
  have hl : lv_has ls 4 [(0, .ref (q_sa E a0))] := hl
  refine lv_lconst (v := 0) hx hb dX6_codeOf_0 (by decide) ?_
  refine lv_lstore_n (lv' := [(1, .long 0), (0, .ref (q_sa E a0))]) hx hb dX6_codeOf_1 rfl hl (by decide) rfl (fun ls hl => ?_)
  refine lv_iconst (v := 0) hx hb dX6_codeOf_2 qi_0 ?_
  refine lv_istore_n (lv' := [(3, .int 0), (1, .long 0), (0, .ref (q_sa E a0))]) hx hb dX6_codeOf_3 rfl hl (by decide) rfl (fun ls hl => ?_)
  refine w_L_X6_codeOf_4 C  hj (lv_sub hl [2, 1, 0] rfl) hf
def L_X6_lineSort_2  (g : qS) : Nat → Nat → Int32 → Option Int32
  | 0, _, _ => none
  | n + 1, x0, x1 => if 10 ≤ x1 then (some 10) else ((g_I g x0 5 7).bind fun v1 => if v1 = 1 then ((g_L g x0 5 10).bind fun v2 => (f_X6_lineWord g x1).bind fun v3 => (f_X6_codeOf g v3).bind fun v4 => if v2 = v4 then (some x1) else (L_X6_lineSort_2 g n x0 (x1 + 1))) else (L_X6_lineSort_2 g n x0 (x1 + 1)))
set_option maxHeartbeats 4000000 in
set_option maxRecDepth 100000 in
theorem w_L_X6_lineSort_2 {l : Launch} {E : qV} {p : Program} {e : Env} {s : State} {m : MethodId} {args : Array Value} {below : List Frame} {meth : Method} {c : Code}  {g : qS} {res : Int32} (C : q_C E p s m args meth c cX6_lineSort RX6 2 (some .int))  : ∀ {n : Nat} {x0 : Nat} {x1 : Int32} {ls : Array Slot}, q_J E s g s.heap [] → lv_has ls 2 [(0, .ref (q_ad E x0)), (1, .int x1)] → L_X6_lineSort_2 g n x0 x1 = some res → W p l e (q_rm 5 143) s m args below meth c s.heap [] 0 0 (q_ZR below (some (.int res)) args s) (F0 m 2 ls []) := by
  have hx := C.1
  have hb := C.2.1
  intro n
  induction n with
  | zero =>
    intro x0 x1 ls hj hl hf
    cases hf
  | succ n ih_ =>
    intro x0 x1 ls hj hl hf
    have ih : ∀ (x0 : Nat) (x1 : Int32) (ls : Array Slot), q_J E s g s.heap [] → lv_has ls 2 [(0, .ref (q_ad E x0)), (1, .int x1)] → L_X6_lineSort_2 g n x0 x1 = some res → W p l e (q_rm 5 143) s m args below meth c s.heap [] 0 0 (q_ZR below (some (.int res)) args s) (F0 m 2 ls []) := fun x0 x1 ls hj hl hf => ih_ hj hl hf
    unfold L_X6_lineSort_2 at hf
    refine lv_iload_n hx hb dX6_lineSort_2 rfl (lv_at hl 1 rfl) ?_
    refine lv_bipush (v := 10) hx hb dX6_lineSort_3 (by decide) ?_
    refine q_icge C (tgt := 39) dX6_lineSort_5 (by decide) hf (fun hf => ?_) (fun hf => ?_)
    · refine lv_bipush (v := 10) hx hb dX6_lineSort_39 (by decide) ?_
      exact q_iretR C dX6_lineSort_41 hf
    · refine lv_aload_n hx hb dX6_lineSort_8 rfl (lv_at hl 0 rfl) ?_
      refine q_getI C hj lk_X6_45 dX6_lineSort_9 hf (fun v1 hf => ?_)
      refine lv_iconst (v := 1) hx hb dX6_lineSort_12 qi_1 ?_
      refine q_icne C (tgt := 33) dX6_lineSort_13 (by decide) hf (fun hf => ?_) (fun hf => ?_)
      · refine lv_iinc (v := x1 + 1) (lv' := [(1, .int (x1 + 1)), (0, .ref (q_ad E x0))]) hx hb dX6_lineSort_33 hl (k := 1) rfl (by rw [qi_1]) (by decide) rfl (fun ls hl => ?_)
        refine lv_goto (tgt := 2) hx hb dX6_lineSort_36 (by decide) ?_
        exact ih _ _  ls hj (lv_sub hl [1, 0] rfl) hf
      · refine lv_aload_n hx hb dX6_lineSort_16 rfl (lv_at hl 0 rfl) ?_
        refine q_getL C hj lk_X6_54 dX6_lineSort_17 hf (fun v2 hf => ?_)
        refine lv_iload_n hx hb dX6_lineSort_20 rfl (lv_at hl 1 rfl) ?_
        refine q_cSRS C hj cw_X6_137 (As := [.int x1]) (rest := [.long v2]) hf (fun v9 h9 => c_X6_lineWord l E h9) rfl hl rfl rfl rfl dX6_lineSort_21 ⟨Nat.zero_le _, Nat.zero_le _⟩ (fun v3 hf => ?_)
        refine q_cSRL C hj cw_X6_120 (As := [.ref (q_sa E v3)]) (rest := [.long v2]) hf (fun v9 h9 => c_X6_codeOf l E h9) rfl hl rfl rfl rfl dX6_lineSort_24 ⟨Nat.zero_le _, Nat.zero_le _⟩ (fun v4 hf => ?_)
        refine q_lcne C (tgt := 33) dX6_lineSort_27 dX6_lineSort_28 (by decide) hf (fun hf => ?_) (fun hf => ?_)
        · refine lv_iinc (v := x1 + 1) (lv' := [(1, .int (x1 + 1)), (0, .ref (q_ad E x0))]) hx hb dX6_lineSort_33 hl (k := 1) rfl (by rw [qi_1]) (by decide) rfl (fun ls hl => ?_)
          refine lv_goto (tgt := 2) hx hb dX6_lineSort_36 (by decide) ?_
          exact ih _ _  ls hj (lv_sub hl [1, 0] rfl) hf
        · refine lv_iload_n hx hb dX6_lineSort_31 rfl (lv_at hl 1 rfl) ?_
          exact q_iretR C dX6_lineSort_32 hf
def f_X6_lineSort (g : qS) (a0 : Nat) : Option Int32 := (g_C g a0 5).bind fun _ => L_X6_lineSort_2 g 1000000000 a0 0
set_option maxHeartbeats 4000000 in
set_option maxRecDepth 100000 in
theorem c_X6_lineSort (l : Launch) (E : qV) {g : qS} {a0 : Nat} {res : Int32} (hf : f_X6_lineSort g a0 = some res) : q_MR l yX6_lineSort cX6_lineSort 2 (some .int) 5 143 E [.ref (q_ad E a0)] g (some (.int res)) ∧ ∃ fs, g a0 = some (.inr (5, fs)) := by
  unfold f_X6_lineSort at hf
  obtain ⟨u9, hu9, hf⟩ := q_ob hf
  refine ⟨q_ofR (by decide) rfl ?_, g_C_sp hu9⟩
  intro p e s m args below meth c ls C hw hl
  have hj : q_J E s g s.heap [] := ⟨hw, va_S.rf⟩
  have hx := C.1
  have hb := C.2.1
  have C : q_C E p s m args meth c cX6_lineSort RX6 2 (some .int) := C
  have hl : lv_has ls 2 [(0, .ref (q_ad E a0))] := hl
  refine lv_iconst (v := 0) hx hb dX6_lineSort_0 qi_0 ?_
  refine lv_istore_n (lv' := [(1, .int 0), (0, .ref (q_ad E a0))]) hx hb dX6_lineSort_1 rfl hl (by decide) rfl (fun ls hl => ?_)
  refine w_L_X6_lineSort_2 C  hj (lv_sub hl [1, 0] rfl) hf
def f_X6_failAt (g : qS) (a0 : Nat) (a1 : Int32) (a2 : Int32) : Option (Int32 × qS) := (g_C g a0 5).bind fun _ => (p_I g a0 5 13 a1).bind fun g1 => (p_I g1 a0 5 14 a2).bind fun g2 => some (0, g2)
set_option maxHeartbeats 4000000 in
set_option maxRecDepth 100000 in
theorem c_X6_failAt (l : Launch) (E : qV) {g : qS} {a0 : Nat} {a1 : Int32} {a2 : Int32} {res : (Int32 × qS)} (hf : f_X6_failAt g a0 a1 a2 = some res) : q_MW l yX6_failAt cX6_failAt 3 (some .boolean) 0 0 E [.ref (q_ad E a0), .int a1, .int a2] g (some (.int res.1)) res.2 ∧ ∃ fs, g a0 = some (.inr (5, fs)) := by
  unfold f_X6_failAt at hf
  obtain ⟨u9, hu9, hf⟩ := q_ob hf
  refine ⟨q_ofW (by decide) rfl ?_, g_C_sp hu9⟩
  intro p e s m args below meth c ls C hj hl
  have hx := C.1
  have hb := C.2.1
  have C : q_C E p s m args meth c cX6_failAt RX6 3 (some .boolean) := C
  have hl : lv_has ls 3 [(0, .ref (q_ad E a0)), (1, .int a1), (2, .int a2)] := hl
  refine lv_aload_n hx hb dX6_failAt_0 rfl (lv_at hl 0 rfl) ?_
  refine lv_iload_n hx hb dX6_failAt_1 rfl (lv_at hl 1 rfl) ?_
  refine q_putI C hj fp_X6_64 dX6_failAt_2 hf (fun g1 H locs hj hf => ?_)
  refine lv_aload_n hx hb dX6_failAt_5 rfl (lv_at hl 0 rfl) ?_
  refine lv_iload_n hx hb dX6_failAt_6 rfl (lv_at hl 2 rfl) ?_
  refine q_putI C hj fp_X6_67 dX6_failAt_7 hf (fun g2 H locs hj hf => ?_)
  refine lv_iconst (v := 0) hx hb dX6_failAt_10 qi_0 ?_
  exact q_z0retW C hj dX6_failAt_11 hf
def f_X6_takeWord (g : qS) (a0 : Nat) (a1 : Nat) : Option (Int32 × qS) := (g_C g a0 5).bind fun _ => (g_I g a0 5 7).bind fun v1 => if v1 = 1 then ((g_L g a0 5 10).bind fun v5 => (f_X6_codeOf g a1).bind fun v6 => if v5 = v6 then (q_b2 (f_X6_take g a0 0) fun v11 g10 => q_zr v11 (v11, g10)) else ((g_I g a0 5 8).bind fun v7 => q_b2 (f_X6_failAt g a0 1 v7) fun v9 g8 => q_zr v9 (v9, g8))) else ((g_I g a0 5 8).bind fun v2 => q_b2 (f_X6_failAt g a0 1 v2) fun v4 g3 => q_zr v4 (v4, g3))
set_option maxHeartbeats 4000000 in
set_option maxRecDepth 100000 in
theorem c_X6_takeWord (l : Launch) (E : qV) {g : qS} {a0 : Nat} {a1 : Nat} {res : (Int32 × qS)} (hf : f_X6_takeWord g a0 a1 = some res) : q_MW l yX6_takeWord cX6_takeWord 2 (some .boolean) 5 143 E [.ref (q_ad E a0), .ref (q_sa E a1)] g (some (.int res.1)) res.2 ∧ ∃ fs, g a0 = some (.inr (5, fs)) := by
  unfold f_X6_takeWord at hf
  obtain ⟨u9, hu9, hf⟩ := q_ob hf
  refine ⟨q_ofW (by decide) rfl ?_, g_C_sp hu9⟩
  intro p e s m args below meth c ls C hj hl
  have hx := C.1
  have hb := C.2.1
  have C : q_C E p s m args meth c cX6_takeWord RX6 2 (some .boolean) := C
  have hl : lv_has ls 2 [(0, .ref (q_ad E a0)), (1, .ref (q_sa E a1))] := hl
  refine lv_aload_n hx hb dX6_takeWord_0 rfl (lv_at hl 0 rfl) ?_
  refine q_getI C hj lk_X6_45 dX6_takeWord_1 hf (fun v1 hf => ?_)
  refine lv_iconst (v := 1) hx hb dX6_takeWord_4 qi_1 ?_
  refine q_icne C (tgt := 28) dX6_takeWord_5 (by decide) hf (fun hf => ?_) (fun hf => ?_)
  · refine lv_aload_n hx hb dX6_takeWord_28 rfl (lv_at hl 0 rfl) ?_
    refine lv_iconst (v := 1) hx hb dX6_takeWord_29 qi_1 ?_
    refine lv_aload_n hx hb dX6_takeWord_30 rfl (lv_at hl 0 rfl) ?_
    refine q_getI C hj lk_X6_48 dX6_takeWord_31 hf (fun v2 hf => ?_)
    refine q_cVWI C hj cw_X6_81 (As := [.int 1, .int v2]) (rest := []) hf (fun v9 g9 h9 => c_X6_failAt l E h9) rfl hl rfl rfl rfl dX6_takeWord_34 ⟨Nat.zero_le _, Nat.zero_le _⟩ (fun v4 g3 H locs hj hf => ?_)
    exact q_zretW C hj dX6_takeWord_37 hf
  · refine lv_aload_n hx hb dX6_takeWord_8 rfl (lv_at hl 0 rfl) ?_
    refine q_getL C hj lk_X6_54 dX6_takeWord_9 hf (fun v5 hf => ?_)
    refine lv_aload_n hx hb dX6_takeWord_12 rfl (lv_at hl 1 rfl) ?_
    refine q_cSRL C hj cw_X6_120 (As := [.ref (q_sa E a1)]) (rest := [.long v5]) hf (fun v9 h9 => c_X6_codeOf l E h9) rfl hl rfl rfl rfl dX6_takeWord_13 ⟨Nat.zero_le _, Nat.zero_le _⟩ (fun v6 hf => ?_)
    refine q_lcne C (tgt := 28) dX6_takeWord_16 dX6_takeWord_17 (by decide) hf (fun hf => ?_) (fun hf => ?_)
    · refine lv_aload_n hx hb dX6_takeWord_28 rfl (lv_at hl 0 rfl) ?_
      refine lv_iconst (v := 1) hx hb dX6_takeWord_29 qi_1 ?_
      refine lv_aload_n hx hb dX6_takeWord_30 rfl (lv_at hl 0 rfl) ?_
      refine q_getI C hj lk_X6_48 dX6_takeWord_31 hf (fun v7 hf => ?_)
      refine q_cVWI C hj cw_X6_81 (As := [.int 1, .int v7]) (rest := []) hf (fun v9 g9 h9 => c_X6_failAt l E h9) rfl hl rfl rfl rfl dX6_takeWord_34 ⟨Nat.zero_le _, Nat.zero_le _⟩ (fun v9 g8 H locs hj hf => ?_)
      exact q_zretW C hj dX6_takeWord_37 hf
    · refine lv_aload_n hx hb dX6_takeWord_20 rfl (lv_at hl 0 rfl) ?_
      refine lv_iconst (v := 0) hx hb dX6_takeWord_21 qi_0 ?_
      refine q_cVWI C hj cw_X6_85 (As := [.int 0]) (rest := []) hf (fun v9 g9 h9 => c_X6_take l E h9) rfl hl rfl rfl rfl dX6_takeWord_22 ⟨Nat.zero_le _, Nat.zero_le _⟩ (fun v11 g10 H locs hj hf => ?_)
      refine lv_goto (tgt := 37) hx hb dX6_takeWord_25 (by decide) ?_
      exact q_zretW C hj dX6_takeWord_37 hf
def f_X6_takeWhole (g : qS) (a0 : Nat) (a1 : Int32) (a2 : Int32) : Option (Int32 × qS) := (g_C g a0 5).bind fun _ => (g_I g a0 5 7).bind fun v1 => if v1 = 2 then ((g_L g a0 5 10).bind fun v2 => if v2 < a1.toInt64 then ((g_I g a0 5 8).bind fun v3 => q_b2 (f_X6_failAt g a0 4 v3) fun v5 g4 => q_zr v5 (v5, g4)) else ((g_L g a0 5 10).bind fun v6 => if v6 ≤ a2.toInt64 then ((g_L g a0 5 10).bind fun v7 => q_b2 (f_X6_take g a0 v7.toInt32) fun v9 g8 => q_zr v9 (v9, g8)) else ((g_I g a0 5 8).bind fun v10 => q_b2 (f_X6_failAt g a0 4 v10) fun v12 g11 => q_zr v12 (v12, g11)))) else ((g_I g a0 5 8).bind fun v13 => q_b2 (f_X6_failAt g a0 1 v13) fun v15 g14 => q_zr v15 (v15, g14))
set_option maxHeartbeats 4000000 in
set_option maxRecDepth 100000 in
theorem c_X6_takeWhole (l : Launch) (E : qV) {g : qS} {a0 : Nat} {a1 : Int32} {a2 : Int32} {res : (Int32 × qS)} (hf : f_X6_takeWhole g a0 a1 a2 = some res) : q_MW l yX6_takeWhole cX6_takeWhole 3 (some .boolean) 3 72 E [.ref (q_ad E a0), .int a1, .int a2] g (some (.int res.1)) res.2 ∧ ∃ fs, g a0 = some (.inr (5, fs)) := by
  unfold f_X6_takeWhole at hf
  obtain ⟨u9, hu9, hf⟩ := q_ob hf
  refine ⟨q_ofW (by decide) rfl ?_, g_C_sp hu9⟩
  intro p e s m args below meth c ls C hj hl
  have hx := C.1
  have hb := C.2.1
  have C : q_C E p s m args meth c cX6_takeWhole RX6 3 (some .boolean) := C
  have hl : lv_has ls 3 [(0, .ref (q_ad E a0)), (1, .int a1), (2, .int a2)] := hl
  refine lv_aload_n hx hb dX6_takeWhole_0 rfl (lv_at hl 0 rfl) ?_
  refine q_getI C hj lk_X6_45 dX6_takeWhole_1 hf (fun v1 hf => ?_)
  refine lv_iconst (v := 2) hx hb dX6_takeWhole_4 qi_2 ?_
  refine q_iceq C (tgt := 18) dX6_takeWhole_5 (by decide) hf (fun hf => ?_) (fun hf => ?_)
  · refine lv_aload_n hx hb dX6_takeWhole_18 rfl (lv_at hl 0 rfl) ?_
    refine q_getL C hj lk_X6_54 dX6_takeWhole_19 hf (fun v2 hf => ?_)
    refine lv_iload_n hx hb dX6_takeWhole_22 rfl (lv_at hl 1 rfl) ?_
    refine lv_i2l hx hb dX6_takeWhole_23 rfl ?_
    refine q_lclt C (tgt := 38) dX6_takeWhole_24 dX6_takeWhole_25 (by decide) hf (fun hf => ?_) (fun hf => ?_)
    · refine lv_aload_n hx hb dX6_takeWhole_38 rfl (lv_at hl 0 rfl) ?_
      refine lv_iconst (v := 4) hx hb dX6_takeWhole_39 qi_4 ?_
      refine lv_aload_n hx hb dX6_takeWhole_40 rfl (lv_at hl 0 rfl) ?_
      refine q_getI C hj lk_X6_48 dX6_takeWhole_41 hf (fun v3 hf => ?_)
      refine q_cVWI C hj cw_X6_81 (As := [.int 4, .int v3]) (rest := []) hf (fun v9 g9 h9 => c_X6_failAt l E h9) rfl hl rfl rfl rfl dX6_takeWhole_44 ⟨Nat.zero_le _, Nat.zero_le _⟩ (fun v5 g4 H locs hj hf => ?_)
      refine lv_goto (tgt := 59) hx hb dX6_takeWhole_47 (by decide) ?_
      exact q_zretW C hj dX6_takeWhole_59 hf
    · refine lv_aload_n hx hb dX6_takeWhole_28 rfl (lv_at hl 0 rfl) ?_
      refine q_getL C hj lk_X6_54 dX6_takeWhole_29 hf (fun v6 hf => ?_)
      refine lv_iload_n hx hb dX6_takeWhole_32 rfl (lv_at hl 2 rfl) ?_
      refine lv_i2l hx hb dX6_takeWhole_33 rfl ?_
      refine q_lcle C (tgt := 50) dX6_takeWhole_34 dX6_takeWhole_35 (by decide) hf (fun hf => ?_) (fun hf => ?_)
      · refine lv_aload_n hx hb dX6_takeWhole_50 rfl (lv_at hl 0 rfl) ?_
        refine lv_aload_n hx hb dX6_takeWhole_51 rfl (lv_at hl 0 rfl) ?_
        refine q_getL C hj lk_X6_54 dX6_takeWhole_52 hf (fun v7 hf => ?_)
        refine lv_l2i hx hb dX6_takeWhole_55 rfl ?_
        refine q_cVWI C hj cw_X6_85 (As := [.int v7.toInt32]) (rest := []) hf (fun v9 g9 h9 => c_X6_take l E h9) rfl hl rfl rfl rfl dX6_takeWhole_56 ⟨Nat.zero_le _, Nat.zero_le _⟩ (fun v9 g8 H locs hj hf => ?_)
        exact q_zretW C hj dX6_takeWhole_59 hf
      · refine lv_aload_n hx hb dX6_takeWhole_38 rfl (lv_at hl 0 rfl) ?_
        refine lv_iconst (v := 4) hx hb dX6_takeWhole_39 qi_4 ?_
        refine lv_aload_n hx hb dX6_takeWhole_40 rfl (lv_at hl 0 rfl) ?_
        refine q_getI C hj lk_X6_48 dX6_takeWhole_41 hf (fun v10 hf => ?_)
        refine q_cVWI C hj cw_X6_81 (As := [.int 4, .int v10]) (rest := []) hf (fun v9 g9 h9 => c_X6_failAt l E h9) rfl hl rfl rfl rfl dX6_takeWhole_44 ⟨Nat.zero_le _, Nat.zero_le _⟩ (fun v12 g11 H locs hj hf => ?_)
        refine lv_goto (tgt := 59) hx hb dX6_takeWhole_47 (by decide) ?_
        exact q_zretW C hj dX6_takeWhole_59 hf
  · refine lv_aload_n hx hb dX6_takeWhole_8 rfl (lv_at hl 0 rfl) ?_
    refine lv_iconst (v := 1) hx hb dX6_takeWhole_9 qi_1 ?_
    refine lv_aload_n hx hb dX6_takeWhole_10 rfl (lv_at hl 0 rfl) ?_
    refine q_getI C hj lk_X6_48 dX6_takeWhole_11 hf (fun v13 hf => ?_)
    refine q_cVWI C hj cw_X6_81 (As := [.int 1, .int v13]) (rest := []) hf (fun v9 g9 h9 => c_X6_failAt l E h9) rfl hl rfl rfl rfl dX6_takeWhole_14 ⟨Nat.zero_le _, Nat.zero_le _⟩ (fun v15 g14 H locs hj hf => ?_)
    exact q_zretW C hj dX6_takeWhole_17 hf
def f_X6_put (g : qS) (a0 : Nat) (a1 : Nat) (a2 : Int32) (a3 : Int32) : Option (Int32 × qS) := (g_C g a0 5).bind fun _ => (g_I g a0 5 11).bind fun v1 => (f_X8_set g a1 a2 a3 v1).bind fun g2 => some (1, g2)
set_option maxHeartbeats 4000000 in
set_option maxRecDepth 100000 in
theorem c_X6_put (l : Launch) (E : qV) {g : qS} {a0 : Nat} {a1 : Nat} {a2 : Int32} {a3 : Int32} {res : (Int32 × qS)} (hf : f_X6_put g a0 a1 a2 a3 = some res) : q_MW l yX6_put cX6_put 4 (some .boolean) 1 24 E [.ref (q_ad E a0), .ref (q_ad E a1), .int a2, .int a3] g (some (.int res.1)) res.2 ∧ ∃ fs, g a0 = some (.inr (5, fs)) := by
  unfold f_X6_put at hf
  obtain ⟨u9, hu9, hf⟩ := q_ob hf
  refine ⟨q_ofW (by decide) rfl ?_, g_C_sp hu9⟩
  intro p e s m args below meth c ls C hj hl
  have hx := C.1
  have hb := C.2.1
  have C : q_C E p s m args meth c cX6_put RX6 4 (some .boolean) := C
  have hl : lv_has ls 4 [(0, .ref (q_ad E a0)), (1, .ref (q_ad E a1)), (2, .int a2), (3, .int a3)] := hl
  refine lv_aload_n hx hb dX6_put_0 rfl (lv_at hl 1 rfl) ?_
  refine lv_iload_n hx hb dX6_put_1 rfl (lv_at hl 2 rfl) ?_
  refine lv_iload_n hx hb dX6_put_2 rfl (lv_at hl 3 rfl) ?_
  refine lv_aload_n hx hb dX6_put_3 rfl (lv_at hl 0 rfl) ?_
  refine q_getI C hj lk_X6_58 dX6_put_4 hf (fun v1 hf => ?_)
  refine q_cVWV C hj cw_X6_130 (As := [.int a2, .int a3, .int v1]) (rest := []) hf (fun g9 h9 => c_X8_set l E h9) rfl hl rfl rfl rfl dX6_put_7 ⟨Nat.zero_le _, Nat.zero_le _⟩ (fun g2 H locs hj hf => ?_)
  refine lv_iconst (v := 1) hx hb dX6_put_10 qi_1 ?_
  exact q_z1retW C hj dX6_put_11 hf
def f_X6_readCollege (g : qS) (a0 : Nat) : Option (Int32 × qS) := (g_C g a0 5).bind fun _ => q_b2 (f_X6_takeWord g a0 10) fun v2 g1 => if v2 = 0 then (some (0, g1)) else (q_b2 (f_X6_takeWhole g1 a0 2 7) fun v4 g3 => if v4 = 0 then (some (0, g3)) else ((g_R g3 a0 5 2).bind fun v5 => (g_R g3 v5 2 9).bind fun v6 => q_b2 (f_X6_put g3 a0 v6 0 0) fun v8 g7 => if v8 = 0 then (some (0, g7)) else (q_b2 (f_X6_takeWord g7 a0 11) fun v10 g9 => if v10 = 0 then (some (0, g9)) else (q_b2 (f_X6_takeWhole g9 a0 0 100) fun v12 g11 => if v12 = 0 then (some (0, g11)) else ((g_R g11 a0 5 2).bind fun v13 => (g_R g11 v13 2 9).bind fun v14 => q_b2 (f_X6_put g11 a0 v14 0 1) fun v16 g15 => if v16 = 0 then (some (0, g15)) else (some (1, g15)))))))
set_option maxHeartbeats 4000000 in
set_option maxRecDepth 100000 in
theorem c_X6_readCollege (l : Launch) (E : qV) {g : qS} {a0 : Nat} {res : (Int32 × qS)} (hf : f_X6_readCollege g a0 = some res) : q_MW l yX6_readCollege cX6_readCollege 1 (some .boolean) 6 164 E [.ref (q_ad E a0)] g (some (.int res.1)) res.2 ∧ ∃ fs, g a0 = some (.inr (5, fs)) := by
  unfold f_X6_readCollege at hf
  obtain ⟨u9, hu9, hf⟩ := q_ob hf
  refine ⟨q_ofW (by decide) rfl ?_, g_C_sp hu9⟩
  intro p e s m args below meth c ls C hj hl
  have hx := C.1
  have hb := C.2.1
  have C : q_C E p s m args meth c cX6_readCollege RX6 1 (some .boolean) := C
  have hl : lv_has ls 1 [(0, .ref (q_ad E a0))] := hl
  refine lv_aload_n hx hb dX6_readCollege_0 rfl (lv_at hl 0 rfl) ?_
  refine q_ldcS C (i := 10) rfl dX6_readCollege_1 ?_
  refine q_cVWI C hj cw_X6_212 (As := [.ref (q_sa E 10)]) (rest := []) hf (fun v9 g9 h9 => c_X6_takeWord l E h9) rfl hl rfl rfl rfl dX6_readCollege_3 ⟨Nat.zero_le _, Nat.zero_le _⟩ (fun v2 g1 H locs hj hf => ?_)
  refine q_ifeq C (tgt := 74) dX6_readCollege_6 (by decide) hf (fun hf => ?_) (fun hf => ?_)
  · refine lv_iconst (v := 0) hx hb dX6_readCollege_74 qi_0 ?_
    exact q_z0retW C hj dX6_readCollege_75 hf
  · refine lv_aload_n hx hb dX6_readCollege_9 rfl (lv_at hl 0 rfl) ?_
    refine lv_iconst (v := 2) hx hb dX6_readCollege_10 qi_2 ?_
    refine lv_bipush (v := 7) hx hb dX6_readCollege_11 (by decide) ?_
    refine q_cVWI C hj cw_X6_216 (As := [.int 2, .int 7]) (rest := []) hf (fun v9 g9 h9 => c_X6_takeWhole l E h9) rfl hl rfl rfl rfl dX6_readCollege_13 ⟨Nat.zero_le _, Nat.zero_le _⟩ (fun v4 g3 H locs hj hf => ?_)
    refine q_ifeq C (tgt := 74) dX6_readCollege_16 (by decide) hf (fun hf => ?_) (fun hf => ?_)
    · refine lv_iconst (v := 0) hx hb dX6_readCollege_74 qi_0 ?_
      exact q_z0retW C hj dX6_readCollege_75 hf
    · refine lv_aload_n hx hb dX6_readCollege_19 rfl (lv_at hl 0 rfl) ?_
      refine lv_aload_n hx hb dX6_readCollege_20 rfl (lv_at hl 0 rfl) ?_
      refine q_getR C hj lk_X6_22 dX6_readCollege_21 hf (fun v5 hf => ?_)
      refine q_getR C hj lk_X6_204 dX6_readCollege_24 hf (fun v6 hf => ?_)
      refine lv_iconst (v := 0) hx hb dX6_readCollege_27 qi_0 ?_
      refine lv_iconst (v := 0) hx hb dX6_readCollege_28 qi_0 ?_
      refine q_cVWI C hj cw_X6_219 (As := [.ref (q_ad E v6), .int 0, .int 0]) (rest := []) hf (fun v9 g9 h9 => c_X6_put l E h9) rfl hl rfl rfl rfl dX6_readCollege_29 ⟨Nat.zero_le _, Nat.zero_le _⟩ (fun v8 g7 H locs hj hf => ?_)
      refine q_ifeq C (tgt := 74) dX6_readCollege_32 (by decide) hf (fun hf => ?_) (fun hf => ?_)
      · refine lv_iconst (v := 0) hx hb dX6_readCollege_74 qi_0 ?_
        exact q_z0retW C hj dX6_readCollege_75 hf
      · refine lv_aload_n hx hb dX6_readCollege_35 rfl (lv_at hl 0 rfl) ?_
        refine q_ldcS C (i := 11) rfl dX6_readCollege_36 ?_
        refine q_cVWI C hj cw_X6_212 (As := [.ref (q_sa E 11)]) (rest := []) hf (fun v9 g9 h9 => c_X6_takeWord l E h9) rfl hl rfl rfl rfl dX6_readCollege_38 ⟨Nat.zero_le _, Nat.zero_le _⟩ (fun v10 g9 H locs hj hf => ?_)
        refine q_ifeq C (tgt := 74) dX6_readCollege_41 (by decide) hf (fun hf => ?_) (fun hf => ?_)
        · refine lv_iconst (v := 0) hx hb dX6_readCollege_74 qi_0 ?_
          exact q_z0retW C hj dX6_readCollege_75 hf
        · refine lv_aload_n hx hb dX6_readCollege_44 rfl (lv_at hl 0 rfl) ?_
          refine lv_iconst (v := 0) hx hb dX6_readCollege_45 qi_0 ?_
          refine lv_bipush (v := 100) hx hb dX6_readCollege_46 (by decide) ?_
          refine q_cVWI C hj cw_X6_216 (As := [.int 0, .int 100]) (rest := []) hf (fun v9 g9 h9 => c_X6_takeWhole l E h9) rfl hl rfl rfl rfl dX6_readCollege_48 ⟨Nat.zero_le _, Nat.zero_le _⟩ (fun v12 g11 H locs hj hf => ?_)
          refine q_ifeq C (tgt := 74) dX6_readCollege_51 (by decide) hf (fun hf => ?_) (fun hf => ?_)
          · refine lv_iconst (v := 0) hx hb dX6_readCollege_74 qi_0 ?_
            exact q_z0retW C hj dX6_readCollege_75 hf
          · refine lv_aload_n hx hb dX6_readCollege_54 rfl (lv_at hl 0 rfl) ?_
            refine lv_aload_n hx hb dX6_readCollege_55 rfl (lv_at hl 0 rfl) ?_
            refine q_getR C hj lk_X6_22 dX6_readCollege_56 hf (fun v13 hf => ?_)
            refine q_getR C hj lk_X6_204 dX6_readCollege_59 hf (fun v14 hf => ?_)
            refine lv_iconst (v := 0) hx hb dX6_readCollege_62 qi_0 ?_
            refine lv_iconst (v := 1) hx hb dX6_readCollege_63 qi_1 ?_
            refine q_cVWI C hj cw_X6_219 (As := [.ref (q_ad E v14), .int 0, .int 1]) (rest := []) hf (fun v9 g9 h9 => c_X6_put l E h9) rfl hl rfl rfl rfl dX6_readCollege_64 ⟨Nat.zero_le _, Nat.zero_le _⟩ (fun v16 g15 H locs hj hf => ?_)
            refine q_ifeq C (tgt := 74) dX6_readCollege_67 (by decide) hf (fun hf => ?_) (fun hf => ?_)
            · refine lv_iconst (v := 0) hx hb dX6_readCollege_74 qi_0 ?_
              exact q_z0retW C hj dX6_readCollege_75 hf
            · refine lv_iconst (v := 1) hx hb dX6_readCollege_70 qi_1 ?_
              refine lv_goto (tgt := 75) hx hb dX6_readCollege_71 (by decide) ?_
              exact q_z1retW C hj dX6_readCollege_75 hf
def J_X6_isFull_124  (g : qS) (x0 : Nat) : Option Int32 := (g_R g x0 5 2).bind fun v1 => (f_X3_count g v1 6).bind fun v2 => if v2 < 16 then (some 0) else (some 1)
set_option maxHeartbeats 4000000 in
set_option maxRecDepth 100000 in
theorem w_J_X6_isFull_124 {l : Launch} {E : qV} {p : Program} {e : Env} {s : State} {m : MethodId} {args : Array Value} {below : List Frame} {meth : Method} {c : Code}  {g : qS} {res : Int32} (C : q_C E p s m args meth c cX6_isFull RX6 2 (some .boolean))  : ∀ {x0 : Nat} {ls : Array Slot}, q_J E s g s.heap [] → lv_has ls 2 [(0, .ref (q_ad E x0))] → J_X6_isFull_124 g x0 = some res → W p l e (q_rm 2 44) s m args below meth c s.heap [] 0 0 (q_ZR below (some (.int res)) args s) (F0 m 124 ls []) := by
  have hx := C.1
  have hb := C.2.1
  intro x0 ls hj hl hf
  unfold J_X6_isFull_124 at hf
  refine lv_aload_n hx hb dX6_isFull_124 rfl (lv_at hl 0 rfl) ?_
  refine q_getR C hj lk_X6_22 dX6_isFull_125 hf (fun v1 hf => ?_)
  refine lv_bipush (v := 6) hx hb dX6_isFull_128 (by decide) ?_
  refine q_cVRI C hj cw_X6_98 (As := [.int 6]) (rest := []) hf (fun v9 h9 => c_X3_count l E h9) rfl hl rfl rfl rfl dX6_isFull_130 ⟨Nat.zero_le _, Nat.zero_le _⟩ (fun v2 hf => ?_)
  refine lv_bipush (v := 16) hx hb dX6_isFull_133 (by decide) ?_
  refine q_iclt C (tgt := 142) dX6_isFull_135 (by decide) hf (fun hf => ?_) (fun hf => ?_)
  · refine lv_iconst (v := 0) hx hb dX6_isFull_142 qi_0 ?_
    exact q_z0retR C dX6_isFull_143 hf
  · refine lv_iconst (v := 1) hx hb dX6_isFull_138 qi_1 ?_
    refine lv_goto (tgt := 143) hx hb dX6_isFull_139 (by decide) ?_
    exact q_z1retR C dX6_isFull_143 hf
def f_X6_isFull (g : qS) (a0 : Nat) (a1 : Int32) : Option Int32 := (g_C g a0 5).bind fun _ => if a1 = 1 then ((g_R g a0 5 2).bind fun v1 => (f_X3_count g v1 2).bind fun v2 => if v2 < 4 then (some 0) else (some 1)) else (if a1 = 2 then ((g_R g a0 5 2).bind fun v3 => (f_X3_count g v3 3).bind fun v4 => if v4 < 5 then (some 0) else (some 1)) else (if a1 = 3 then ((g_R g a0 5 2).bind fun v5 => (f_X3_count g v5 4).bind fun v6 => if v6 < 4 then (some 0) else (some 1)) else (if a1 = 4 then ((g_R g a0 5 2).bind fun v7 => (f_X3_count g v7 5).bind fun v8 => if v8 < 3 then (some 0) else (some 1)) else (if a1 = 5 then (J_X6_isFull_124 g a0) else (if a1 = 6 then (J_X6_isFull_124 g a0) else (if a1 = 7 then ((g_R g a0 5 2).bind fun v9 => (f_X3_count g v9 7).bind fun v10 => if v10 < 12 then (some 0) else (some 1)) else (if a1 = 8 then (some 0) else (if a1 = 9 then ((g_R g a0 5 2).bind fun v11 => (f_X3_count g v11 9).bind fun v12 => if v12 < 8 then (some 0) else (some 1)) else (some 0)))))))))
set_option maxHeartbeats 4000000 in
set_option maxRecDepth 100000 in
theorem c_X6_isFull (l : Launch) (E : qV) {g : qS} {a0 : Nat} {a1 : Int32} {res : Int32} (hf : f_X6_isFull g a0 a1 = some res) : q_MR l yX6_isFull cX6_isFull 2 (some .boolean) 2 44 E [.ref (q_ad E a0), .int a1] g (some (.int res)) ∧ ∃ fs, g a0 = some (.inr (5, fs)) := by
  unfold f_X6_isFull at hf
  obtain ⟨u9, hu9, hf⟩ := q_ob hf
  refine ⟨q_ofR (by decide) rfl ?_, g_C_sp hu9⟩
  intro p e s m args below meth c ls C hw hl
  have hj : q_J E s g s.heap [] := ⟨hw, va_S.rf⟩
  have hx := C.1
  have hb := C.2.1
  have C : q_C E p s m args meth c cX6_isFull RX6 2 (some .boolean) := C
  have hl : lv_has ls 2 [(0, .ref (q_ad E a0)), (1, .int a1)] := hl
  refine lv_iload_n hx hb dX6_isFull_0 rfl (lv_at hl 1 rfl) ?_
  refine q_it hf (fun c0 hf => ?_) (fun c0 hf => ?_)
  · refine lv_tableIn (tgt := 52) hx hb dX6_isFull_1 (by rw [c0]; decide) (by rw [c0]; decide) (by rw [c0]; rfl) (by decide) ?_
    refine lv_aload_n hx hb dX6_isFull_52 rfl (lv_at hl 0 rfl) ?_
    refine q_getR C hj lk_X6_22 dX6_isFull_53 hf (fun v1 hf => ?_)
    refine lv_iconst (v := 2) hx hb dX6_isFull_56 qi_2 ?_
    refine q_cVRI C hj cw_X6_98 (As := [.int 2]) (rest := []) hf (fun v9 h9 => c_X3_count l E h9) rfl hl rfl rfl rfl dX6_isFull_57 ⟨Nat.zero_le _, Nat.zero_le _⟩ (fun v2 hf => ?_)
    refine lv_iconst (v := 4) hx hb dX6_isFull_60 qi_4 ?_
    refine q_iclt C (tgt := 68) dX6_isFull_61 (by decide) hf (fun hf => ?_) (fun hf => ?_)
    · refine lv_iconst (v := 0) hx hb dX6_isFull_68 qi_0 ?_
      exact q_z0retR C dX6_isFull_69 hf
    · refine lv_iconst (v := 1) hx hb dX6_isFull_64 qi_1 ?_
      refine lv_goto (tgt := 69) hx hb dX6_isFull_65 (by decide) ?_
      exact q_z1retR C dX6_isFull_69 hf
  · refine q_it hf (fun c1 hf => ?_) (fun c1 hf => ?_)
    · refine lv_tableIn (tgt := 70) hx hb dX6_isFull_1 (by rw [c1]; decide) (by rw [c1]; decide) (by rw [c1]; rfl) (by decide) ?_
      refine lv_aload_n hx hb dX6_isFull_70 rfl (lv_at hl 0 rfl) ?_
      refine q_getR C hj lk_X6_22 dX6_isFull_71 hf (fun v3 hf => ?_)
      refine lv_iconst (v := 3) hx hb dX6_isFull_74 qi_3 ?_
      refine q_cVRI C hj cw_X6_98 (As := [.int 3]) (rest := []) hf (fun v9 h9 => c_X3_count l E h9) rfl hl rfl rfl rfl dX6_isFull_75 ⟨Nat.zero_le _, Nat.zero_le _⟩ (fun v4 hf => ?_)
      refine lv_iconst (v := 5) hx hb dX6_isFull_78 qi_5 ?_
      refine q_iclt C (tgt := 86) dX6_isFull_79 (by decide) hf (fun hf => ?_) (fun hf => ?_)
      · refine lv_iconst (v := 0) hx hb dX6_isFull_86 qi_0 ?_
        exact q_z0retR C dX6_isFull_87 hf
      · refine lv_iconst (v := 1) hx hb dX6_isFull_82 qi_1 ?_
        refine lv_goto (tgt := 87) hx hb dX6_isFull_83 (by decide) ?_
        exact q_z1retR C dX6_isFull_87 hf
    · refine q_it hf (fun c2 hf => ?_) (fun c2 hf => ?_)
      · refine lv_tableIn (tgt := 88) hx hb dX6_isFull_1 (by rw [c2]; decide) (by rw [c2]; decide) (by rw [c2]; rfl) (by decide) ?_
        refine lv_aload_n hx hb dX6_isFull_88 rfl (lv_at hl 0 rfl) ?_
        refine q_getR C hj lk_X6_22 dX6_isFull_89 hf (fun v5 hf => ?_)
        refine lv_iconst (v := 4) hx hb dX6_isFull_92 qi_4 ?_
        refine q_cVRI C hj cw_X6_98 (As := [.int 4]) (rest := []) hf (fun v9 h9 => c_X3_count l E h9) rfl hl rfl rfl rfl dX6_isFull_93 ⟨Nat.zero_le _, Nat.zero_le _⟩ (fun v6 hf => ?_)
        refine lv_iconst (v := 4) hx hb dX6_isFull_96 qi_4 ?_
        refine q_iclt C (tgt := 104) dX6_isFull_97 (by decide) hf (fun hf => ?_) (fun hf => ?_)
        · refine lv_iconst (v := 0) hx hb dX6_isFull_104 qi_0 ?_
          exact q_z0retR C dX6_isFull_105 hf
        · refine lv_iconst (v := 1) hx hb dX6_isFull_100 qi_1 ?_
          refine lv_goto (tgt := 105) hx hb dX6_isFull_101 (by decide) ?_
          exact q_z1retR C dX6_isFull_105 hf
      · refine q_it hf (fun c3 hf => ?_) (fun c3 hf => ?_)
        · refine lv_tableIn (tgt := 106) hx hb dX6_isFull_1 (by rw [c3]; decide) (by rw [c3]; decide) (by rw [c3]; rfl) (by decide) ?_
          refine lv_aload_n hx hb dX6_isFull_106 rfl (lv_at hl 0 rfl) ?_
          refine q_getR C hj lk_X6_22 dX6_isFull_107 hf (fun v7 hf => ?_)
          refine lv_iconst (v := 5) hx hb dX6_isFull_110 qi_5 ?_
          refine q_cVRI C hj cw_X6_98 (As := [.int 5]) (rest := []) hf (fun v9 h9 => c_X3_count l E h9) rfl hl rfl rfl rfl dX6_isFull_111 ⟨Nat.zero_le _, Nat.zero_le _⟩ (fun v8 hf => ?_)
          refine lv_iconst (v := 3) hx hb dX6_isFull_114 qi_3 ?_
          refine q_iclt C (tgt := 122) dX6_isFull_115 (by decide) hf (fun hf => ?_) (fun hf => ?_)
          · refine lv_iconst (v := 0) hx hb dX6_isFull_122 qi_0 ?_
            exact q_z0retR C dX6_isFull_123 hf
          · refine lv_iconst (v := 1) hx hb dX6_isFull_118 qi_1 ?_
            refine lv_goto (tgt := 123) hx hb dX6_isFull_119 (by decide) ?_
            exact q_z1retR C dX6_isFull_123 hf
        · refine q_it hf (fun c4 hf => ?_) (fun c4 hf => ?_)
          · refine lv_tableIn (tgt := 124) hx hb dX6_isFull_1 (by rw [c4]; decide) (by rw [c4]; decide) (by rw [c4]; rfl) (by decide) ?_
            refine w_J_X6_isFull_124 C  hj (lv_sub hl [0] rfl) hf
          · refine q_it hf (fun c5 hf => ?_) (fun c5 hf => ?_)
            · refine lv_tableIn (tgt := 124) hx hb dX6_isFull_1 (by rw [c5]; decide) (by rw [c5]; decide) (by rw [c5]; rfl) (by decide) ?_
              refine w_J_X6_isFull_124 C  hj (lv_sub hl [0] rfl) hf
            · refine q_it hf (fun c6 hf => ?_) (fun c6 hf => ?_)
              · refine lv_tableIn (tgt := 144) hx hb dX6_isFull_1 (by rw [c6]; decide) (by rw [c6]; decide) (by rw [c6]; rfl) (by decide) ?_
                refine lv_aload_n hx hb dX6_isFull_144 rfl (lv_at hl 0 rfl) ?_
                refine q_getR C hj lk_X6_22 dX6_isFull_145 hf (fun v9 hf => ?_)
                refine lv_bipush (v := 7) hx hb dX6_isFull_148 (by decide) ?_
                refine q_cVRI C hj cw_X6_98 (As := [.int 7]) (rest := []) hf (fun v9 h9 => c_X3_count l E h9) rfl hl rfl rfl rfl dX6_isFull_150 ⟨Nat.zero_le _, Nat.zero_le _⟩ (fun v10 hf => ?_)
                refine lv_bipush (v := 12) hx hb dX6_isFull_153 (by decide) ?_
                refine q_iclt C (tgt := 162) dX6_isFull_155 (by decide) hf (fun hf => ?_) (fun hf => ?_)
                · refine lv_iconst (v := 0) hx hb dX6_isFull_162 qi_0 ?_
                  exact q_z0retR C dX6_isFull_163 hf
                · refine lv_iconst (v := 1) hx hb dX6_isFull_158 qi_1 ?_
                  refine lv_goto (tgt := 163) hx hb dX6_isFull_159 (by decide) ?_
                  exact q_z1retR C dX6_isFull_163 hf
              · refine q_it hf (fun c7 hf => ?_) (fun c7 hf => ?_)
                · refine lv_tableIn (tgt := 184) hx hb dX6_isFull_1 (by rw [c7]; decide) (by rw [c7]; decide) (by rw [c7]; rfl) (by decide) ?_
                  refine lv_iconst (v := 0) hx hb dX6_isFull_184 qi_0 ?_
                  exact q_z0retR C dX6_isFull_185 hf
                · refine q_it hf (fun c8 hf => ?_) (fun c8 hf => ?_)
                  · refine lv_tableIn (tgt := 164) hx hb dX6_isFull_1 (by rw [c8]; decide) (by rw [c8]; decide) (by rw [c8]; rfl) (by decide) ?_
                    refine lv_aload_n hx hb dX6_isFull_164 rfl (lv_at hl 0 rfl) ?_
                    refine q_getR C hj lk_X6_22 dX6_isFull_165 hf (fun v11 hf => ?_)
                    refine lv_bipush (v := 9) hx hb dX6_isFull_168 (by decide) ?_
                    refine q_cVRI C hj cw_X6_98 (As := [.int 9]) (rest := []) hf (fun v9 h9 => c_X3_count l E h9) rfl hl rfl rfl rfl dX6_isFull_170 ⟨Nat.zero_le _, Nat.zero_le _⟩ (fun v12 hf => ?_)
                    refine lv_bipush (v := 8) hx hb dX6_isFull_173 (by decide) ?_
                    refine q_iclt C (tgt := 182) dX6_isFull_175 (by decide) hf (fun hf => ?_) (fun hf => ?_)
                    · refine lv_iconst (v := 0) hx hb dX6_isFull_182 qi_0 ?_
                      exact q_z0retR C dX6_isFull_183 hf
                    · refine lv_iconst (v := 1) hx hb dX6_isFull_178 qi_1 ?_
                      refine lv_goto (tgt := 183) hx hb dX6_isFull_179 (by decide) ?_
                      exact q_z1retR C dX6_isFull_183 hf
                  · refine lv_tableOut (tgt := 184) hx hb dX6_isFull_1 (by have z0 : a1.toInt ≠ 1 := fun z => c0 (Int32.toInt_inj.mp z); have z1 : a1.toInt ≠ 2 := fun z => c1 (Int32.toInt_inj.mp z); have z2 : a1.toInt ≠ 3 := fun z => c2 (Int32.toInt_inj.mp z); have z3 : a1.toInt ≠ 4 := fun z => c3 (Int32.toInt_inj.mp z); have z4 : a1.toInt ≠ 5 := fun z => c4 (Int32.toInt_inj.mp z); have z5 : a1.toInt ≠ 6 := fun z => c5 (Int32.toInt_inj.mp z); have z6 : a1.toInt ≠ 7 := fun z => c6 (Int32.toInt_inj.mp z); have z7 : a1.toInt ≠ 8 := fun z => c7 (Int32.toInt_inj.mp z); have z8 : a1.toInt ≠ 9 := fun z => c8 (Int32.toInt_inj.mp z); omega) (by decide) ?_
                    refine lv_iconst (v := 0) hx hb dX6_isFull_184 qi_0 ?_
                    exact q_z0retR C dX6_isFull_185 hf
def L_X6_findName_2  (g : qS) : Nat → Nat → Int32 → Option Int32
  | 0, _, _ => none
  | n + 1, x0, x1 => (g_I g x0 5 5).bind fun v1 => if v1 ≤ x1 then (some (-1)) else ((g_R g x0 5 3).bind fun v2 => (a_n g v2).bind fun v3 => if v3 ≤ x1 then (some (-1)) else ((g_R g x0 5 3).bind fun v4 => (a_L g v4 x1).bind fun v5 => (g_L g x0 5 10).bind fun v6 => if v5 = v6 then (some x1) else (L_X6_findName_2 g n x0 (x1 + 1))))
set_option maxHeartbeats 4000000 in
set_option maxRecDepth 100000 in
theorem w_L_X6_findName_2 {l : Launch} {E : qV} {p : Program} {e : Env} {s : State} {m : MethodId} {args : Array Value} {below : List Frame} {meth : Method} {c : Code}  {g : qS} {res : Int32} (C : q_C E p s m args meth c cX6_findName RX6 2 (some .int))  : ∀ {n : Nat} {x0 : Nat} {x1 : Int32} {ls : Array Slot}, q_J E s g s.heap [] → lv_has ls 2 [(0, .ref (q_ad E x0)), (1, .int x1)] → L_X6_findName_2 g n x0 x1 = some res → W p l e (q_rm 0 0) s m args below meth c s.heap [] 0 0 (q_ZR below (some (.int res)) args s) (F0 m 2 ls []) := by
  have hx := C.1
  have hb := C.2.1
  intro n
  induction n with
  | zero =>
    intro x0 x1 ls hj hl hf
    cases hf
  | succ n ih_ =>
    intro x0 x1 ls hj hl hf
    have ih : ∀ (x0 : Nat) (x1 : Int32) (ls : Array Slot), q_J E s g s.heap [] → lv_has ls 2 [(0, .ref (q_ad E x0)), (1, .int x1)] → L_X6_findName_2 g n x0 x1 = some res → W p l e (q_rm 0 0) s m args below meth c s.heap [] 0 0 (q_ZR below (some (.int res)) args s) (F0 m 2 ls []) := fun x0 x1 ls hj hl hf => ih_ hj hl hf
    unfold L_X6_findName_2 at hf
    refine lv_iload_n hx hb dX6_findName_2 rfl (lv_at hl 1 rfl) ?_
    refine lv_aload_n hx hb dX6_findName_3 rfl (lv_at hl 0 rfl) ?_
    refine q_getI C hj lk_X6_39 dX6_findName_4 hf (fun v1 hf => ?_)
    refine q_icge C (tgt := 41) dX6_findName_7 (by decide) hf (fun hf => ?_) (fun hf => ?_)
    · refine lv_iconst (v := -1) hx hb dX6_findName_41 qi_m1 ?_
      exact q_iretR C dX6_findName_42 hf
    · refine lv_iload_n hx hb dX6_findName_10 rfl (lv_at hl 1 rfl) ?_
      refine lv_aload_n hx hb dX6_findName_11 rfl (lv_at hl 0 rfl) ?_
      refine q_getR C hj lk_X6_26 dX6_findName_12 hf (fun v2 hf => ?_)
      refine q_alen C hj dX6_findName_15 hf (fun v3 hf => ?_)
      refine q_icge C (tgt := 41) dX6_findName_16 (by decide) hf (fun hf => ?_) (fun hf => ?_)
      · refine lv_iconst (v := -1) hx hb dX6_findName_41 qi_m1 ?_
        exact q_iretR C dX6_findName_42 hf
      · refine lv_aload_n hx hb dX6_findName_19 rfl (lv_at hl 0 rfl) ?_
        refine q_getR C hj lk_X6_26 dX6_findName_20 hf (fun v4 hf => ?_)
        refine lv_iload_n hx hb dX6_findName_23 rfl (lv_at hl 1 rfl) ?_
        refine q_aldL C hj dX6_findName_24 hf (fun v5 hf => ?_)
        refine lv_aload_n hx hb dX6_findName_25 rfl (lv_at hl 0 rfl) ?_
        refine q_getL C hj lk_X6_54 dX6_findName_26 hf (fun v6 hf => ?_)
        refine q_lcne C (tgt := 35) dX6_findName_29 dX6_findName_30 (by decide) hf (fun hf => ?_) (fun hf => ?_)
        · refine lv_iinc (v := x1 + 1) (lv' := [(1, .int (x1 + 1)), (0, .ref (q_ad E x0))]) hx hb dX6_findName_35 hl (k := 1) rfl (by rw [qi_1]) (by decide) rfl (fun ls hl => ?_)
          refine lv_goto (tgt := 2) hx hb dX6_findName_38 (by decide) ?_
          exact ih _ _  ls hj (lv_sub hl [1, 0] rfl) hf
        · refine lv_iload_n hx hb dX6_findName_33 rfl (lv_at hl 1 rfl) ?_
          exact q_iretR C dX6_findName_34 hf
def f_X6_findName (g : qS) (a0 : Nat) : Option Int32 := (g_C g a0 5).bind fun _ => L_X6_findName_2 g 1000000000 a0 0
set_option maxHeartbeats 4000000 in
set_option maxRecDepth 100000 in
theorem c_X6_findName (l : Launch) (E : qV) {g : qS} {a0 : Nat} {res : Int32} (hf : f_X6_findName g a0 = some res) : q_MR l yX6_findName cX6_findName 2 (some .int) 0 0 E [.ref (q_ad E a0)] g (some (.int res)) ∧ ∃ fs, g a0 = some (.inr (5, fs)) := by
  unfold f_X6_findName at hf
  obtain ⟨u9, hu9, hf⟩ := q_ob hf
  refine ⟨q_ofR (by decide) rfl ?_, g_C_sp hu9⟩
  intro p e s m args below meth c ls C hw hl
  have hj : q_J E s g s.heap [] := ⟨hw, va_S.rf⟩
  have hx := C.1
  have hb := C.2.1
  have C : q_C E p s m args meth c cX6_findName RX6 2 (some .int) := C
  have hl : lv_has ls 2 [(0, .ref (q_ad E a0))] := hl
  refine lv_iconst (v := 0) hx hb dX6_findName_0 qi_0 ?_
  refine lv_istore_n (lv' := [(1, .int 0), (0, .ref (q_ad E a0))]) hx hb dX6_findName_1 rfl hl (by decide) rfl (fun ls hl => ?_)
  refine w_L_X6_findName_2 C  hj (lv_sub hl [1, 0] rfl) hf
def f_X6_takeNewName (g : qS) (a0 : Nat) (a1 : Int32) : Option (Int32 × qS) := (g_C g a0 5).bind fun _ => (g_I g a0 5 7).bind fun v1 => if v1 = 1 then ((f_X6_lineSort g a0).bind fun v5 => if v5 = 10 then ((f_X6_findName g a0).bind fun v6 => if v6 < 0 then ((g_I g a0 5 5).bind fun v7 => if v7 < 0 then (q_b2 (f_X6_take g a0 0) fun v9 g8 => q_zr v9 (v9, g8)) else ((g_I g a0 5 5).bind fun v10 => (g_R g a0 5 3).bind fun v11 => (a_n g v11).bind fun v12 => if v12 ≤ v10 then (q_b2 (f_X6_take g a0 0) fun v14 g13 => q_zr v14 (v14, g13)) else ((g_R g a0 5 3).bind fun v15 => (g_I g a0 5 5).bind fun v16 => (g_L g a0 5 10).bind fun v17 => (s_L g v15 v16 v17).bind fun g18 => (g_R g18 a0 5 4).bind fun v19 => (g_I g18 a0 5 5).bind fun v20 => (f_X8_set g18 v19 v20 0 a1).bind fun g21 => (g_R g21 a0 5 4).bind fun v22 => (g_I g21 a0 5 5).bind fun v23 => (g_R g21 a0 5 2).bind fun v24 => (f_X3_count g21 v24 a1).bind fun v25 => (f_X8_set g21 v22 v23 1 v25).bind fun g26 => (g_I g26 a0 5 5).bind fun v27 => (p_I g26 a0 5 5 (v27 + 1)).bind fun g28 => q_b2 (f_X6_take g28 a0 0) fun v30 g29 => q_zr v30 (v30, g29)))) else ((g_I g a0 5 8).bind fun v31 => q_b2 (f_X6_failAt g a0 3 v31) fun v33 g32 => q_zr v33 (v33, g32))) else ((g_I g a0 5 8).bind fun v34 => q_b2 (f_X6_failAt g a0 1 v34) fun v36 g35 => q_zr v36 (v36, g35))) else ((g_I g a0 5 8).bind fun v2 => q_b2 (f_X6_failAt g a0 1 v2) fun v4 g3 => q_zr v4 (v4, g3))
set_option maxHeartbeats 4000000 in
set_option maxRecDepth 100000 in
theorem c_X6_takeNewName (l : Launch) (E : qV) {g : qS} {a0 : Nat} {a1 : Int32} {res : (Int32 × qS)} (hf : f_X6_takeNewName g a0 a1 = some res) : q_MW l yX6_takeNewName cX6_takeNewName 2 (some .boolean) 6 164 E [.ref (q_ad E a0), .int a1] g (some (.int res.1)) res.2 ∧ ∃ fs, g a0 = some (.inr (5, fs)) := by
  unfold f_X6_takeNewName at hf
  obtain ⟨u9, hu9, hf⟩ := q_ob hf
  refine ⟨q_ofW (by decide) rfl ?_, g_C_sp hu9⟩
  intro p e s m args below meth c ls C hj hl
  have hx := C.1
  have hb := C.2.1
  have C : q_C E p s m args meth c cX6_takeNewName RX6 2 (some .boolean) := C
  have hl : lv_has ls 2 [(0, .ref (q_ad E a0)), (1, .int a1)] := hl
  refine lv_aload_n hx hb dX6_takeNewName_0 rfl (lv_at hl 0 rfl) ?_
  refine q_getI C hj lk_X6_45 dX6_takeNewName_1 hf (fun v1 hf => ?_)
  refine lv_iconst (v := 1) hx hb dX6_takeNewName_4 qi_1 ?_
  refine q_icne C (tgt := 17) dX6_takeNewName_5 (by decide) hf (fun hf => ?_) (fun hf => ?_)
  · refine lv_aload_n hx hb dX6_takeNewName_17 rfl (lv_at hl 0 rfl) ?_
    refine lv_iconst (v := 1) hx hb dX6_takeNewName_18 qi_1 ?_
    refine lv_aload_n hx hb dX6_takeNewName_19 rfl (lv_at hl 0 rfl) ?_
    refine q_getI C hj lk_X6_48 dX6_takeNewName_20 hf (fun v2 hf => ?_)
    refine q_cVWI C hj cw_X6_81 (As := [.int 1, .int v2]) (rest := []) hf (fun v9 g9 h9 => c_X6_failAt l E h9) rfl hl rfl rfl rfl dX6_takeNewName_23 ⟨Nat.zero_le _, Nat.zero_le _⟩ (fun v4 g3 H locs hj hf => ?_)
    exact q_zretW C hj dX6_takeNewName_26 hf
  · refine lv_aload_n hx hb dX6_takeNewName_8 rfl (lv_at hl 0 rfl) ?_
    refine q_cVRI C hj cw_X6_124 (As := []) (rest := []) hf (fun v9 h9 => c_X6_lineSort l E h9) rfl hl rfl rfl rfl dX6_takeNewName_9 ⟨Nat.zero_le _, Nat.zero_le _⟩ (fun v5 hf => ?_)
    refine lv_bipush (v := 10) hx hb dX6_takeNewName_12 (by decide) ?_
    refine q_iceq C (tgt := 27) dX6_takeNewName_14 (by decide) hf (fun hf => ?_) (fun hf => ?_)
    · refine lv_aload_n hx hb dX6_takeNewName_27 rfl (lv_at hl 0 rfl) ?_
      refine q_cVRI C hj cw_X6_127 (As := []) (rest := []) hf (fun v9 h9 => c_X6_findName l E h9) rfl hl rfl rfl rfl dX6_takeNewName_28 ⟨Nat.zero_le _, Nat.zero_le _⟩ (fun v6 hf => ?_)
      refine q_iflt C (tgt := 44) dX6_takeNewName_31 (by decide) hf (fun hf => ?_) (fun hf => ?_)
      · refine lv_aload_n hx hb dX6_takeNewName_44 rfl (lv_at hl 0 rfl) ?_
        refine q_getI C hj lk_X6_39 dX6_takeNewName_45 hf (fun v7 hf => ?_)
        refine q_iflt C (tgt := 119) dX6_takeNewName_48 (by decide) hf (fun hf => ?_) (fun hf => ?_)
        · refine lv_aload_n hx hb dX6_takeNewName_119 rfl (lv_at hl 0 rfl) ?_
          refine lv_iconst (v := 0) hx hb dX6_takeNewName_120 qi_0 ?_
          refine q_cVWI C hj cw_X6_85 (As := [.int 0]) (rest := []) hf (fun v9 g9 h9 => c_X6_take l E h9) rfl hl rfl rfl rfl dX6_takeNewName_121 ⟨Nat.zero_le _, Nat.zero_le _⟩ (fun v9 g8 H locs hj hf => ?_)
          exact q_zretW C hj dX6_takeNewName_124 hf
        · refine lv_aload_n hx hb dX6_takeNewName_51 rfl (lv_at hl 0 rfl) ?_
          refine q_getI C hj lk_X6_39 dX6_takeNewName_52 hf (fun v10 hf => ?_)
          refine lv_aload_n hx hb dX6_takeNewName_55 rfl (lv_at hl 0 rfl) ?_
          refine q_getR C hj lk_X6_26 dX6_takeNewName_56 hf (fun v11 hf => ?_)
          refine q_alen C hj dX6_takeNewName_59 hf (fun v12 hf => ?_)
          refine q_icge C (tgt := 119) dX6_takeNewName_60 (by decide) hf (fun hf => ?_) (fun hf => ?_)
          · refine lv_aload_n hx hb dX6_takeNewName_119 rfl (lv_at hl 0 rfl) ?_
            refine lv_iconst (v := 0) hx hb dX6_takeNewName_120 qi_0 ?_
            refine q_cVWI C hj cw_X6_85 (As := [.int 0]) (rest := []) hf (fun v9 g9 h9 => c_X6_take l E h9) rfl hl rfl rfl rfl dX6_takeNewName_121 ⟨Nat.zero_le _, Nat.zero_le _⟩ (fun v14 g13 H locs hj hf => ?_)
            exact q_zretW C hj dX6_takeNewName_124 hf
          · refine lv_aload_n hx hb dX6_takeNewName_63 rfl (lv_at hl 0 rfl) ?_
            refine q_getR C hj lk_X6_26 dX6_takeNewName_64 hf (fun v15 hf => ?_)
            refine lv_aload_n hx hb dX6_takeNewName_67 rfl (lv_at hl 0 rfl) ?_
            refine q_getI C hj lk_X6_39 dX6_takeNewName_68 hf (fun v16 hf => ?_)
            refine lv_aload_n hx hb dX6_takeNewName_71 rfl (lv_at hl 0 rfl) ?_
            refine q_getL C hj lk_X6_54 dX6_takeNewName_72 hf (fun v17 hf => ?_)
            refine q_astL C hj dX6_takeNewName_75 hf (fun g18 H locs hj hf => ?_)
            refine lv_aload_n hx hb dX6_takeNewName_76 rfl (lv_at hl 0 rfl) ?_
            refine q_getR C hj lk_X6_35 dX6_takeNewName_77 hf (fun v19 hf => ?_)
            refine lv_aload_n hx hb dX6_takeNewName_80 rfl (lv_at hl 0 rfl) ?_
            refine q_getI C hj lk_X6_39 dX6_takeNewName_81 hf (fun v20 hf => ?_)
            refine lv_iconst (v := 0) hx hb dX6_takeNewName_84 qi_0 ?_
            refine lv_iload_n hx hb dX6_takeNewName_85 rfl (lv_at hl 1 rfl) ?_
            refine q_cVWV C hj cw_X6_130 (As := [.int v20, .int 0, .int a1]) (rest := []) hf (fun g9 h9 => c_X8_set l E h9) rfl hl rfl rfl rfl dX6_takeNewName_86 ⟨Nat.zero_le _, Nat.zero_le _⟩ (fun g21 H locs hj hf => ?_)
            refine lv_aload_n hx hb dX6_takeNewName_89 rfl (lv_at hl 0 rfl) ?_
            refine q_getR C hj lk_X6_35 dX6_takeNewName_90 hf (fun v22 hf => ?_)
            refine lv_aload_n hx hb dX6_takeNewName_93 rfl (lv_at hl 0 rfl) ?_
            refine q_getI C hj lk_X6_39 dX6_takeNewName_94 hf (fun v23 hf => ?_)
            refine lv_iconst (v := 1) hx hb dX6_takeNewName_97 qi_1 ?_
            refine lv_aload_n hx hb dX6_takeNewName_98 rfl (lv_at hl 0 rfl) ?_
            refine q_getR C hj lk_X6_22 dX6_takeNewName_99 hf (fun v24 hf => ?_)
            refine lv_iload_n hx hb dX6_takeNewName_102 rfl (lv_at hl 1 rfl) ?_
            refine q_cVRI C hj cw_X6_98 (As := [.int a1]) (rest := [.int 1, .int v23, .ref (q_ad E v22)]) hf (fun v9 h9 => c_X3_count l E h9) rfl hl rfl rfl rfl dX6_takeNewName_103 ⟨Nat.zero_le _, Nat.zero_le _⟩ (fun v25 hf => ?_)
            refine q_cVWV C hj cw_X6_130 (As := [.int v23, .int 1, .int v25]) (rest := []) hf (fun g9 h9 => c_X8_set l E h9) rfl hl rfl rfl rfl dX6_takeNewName_106 ⟨Nat.zero_le _, Nat.zero_le _⟩ (fun g26 H locs hj hf => ?_)
            refine lv_aload_n hx hb dX6_takeNewName_109 rfl (lv_at hl 0 rfl) ?_
            refine lv_dup hx hb dX6_takeNewName_110 rfl ?_
            refine q_getI C hj lk_X6_39 dX6_takeNewName_111 hf (fun v27 hf => ?_)
            refine lv_iconst (v := 1) hx hb dX6_takeNewName_114 qi_1 ?_
            refine lv_iadd hx hb dX6_takeNewName_115 ?_
            refine q_putI C hj fp_X6_39 dX6_takeNewName_116 hf (fun g28 H locs hj hf => ?_)
            refine lv_aload_n hx hb dX6_takeNewName_119 rfl (lv_at hl 0 rfl) ?_
            refine lv_iconst (v := 0) hx hb dX6_takeNewName_120 qi_0 ?_
            refine q_cVWI C hj cw_X6_85 (As := [.int 0]) (rest := []) hf (fun v9 g9 h9 => c_X6_take l E h9) rfl hl rfl rfl rfl dX6_takeNewName_121 ⟨Nat.zero_le _, Nat.zero_le _⟩ (fun v30 g29 H locs hj hf => ?_)
            exact q_zretW C hj dX6_takeNewName_124 hf
      · refine lv_aload_n hx hb dX6_takeNewName_34 rfl (lv_at hl 0 rfl) ?_
        refine lv_iconst (v := 3) hx hb dX6_takeNewName_35 qi_3 ?_
        refine lv_aload_n hx hb dX6_takeNewName_36 rfl (lv_at hl 0 rfl) ?_
        refine q_getI C hj lk_X6_48 dX6_takeNewName_37 hf (fun v31 hf => ?_)
        refine q_cVWI C hj cw_X6_81 (As := [.int 3, .int v31]) (rest := []) hf (fun v9 g9 h9 => c_X6_failAt l E h9) rfl hl rfl rfl rfl dX6_takeNewName_40 ⟨Nat.zero_le _, Nat.zero_le _⟩ (fun v33 g32 H locs hj hf => ?_)
        exact q_zretW C hj dX6_takeNewName_43 hf
    · refine lv_aload_n hx hb dX6_takeNewName_17 rfl (lv_at hl 0 rfl) ?_
      refine lv_iconst (v := 1) hx hb dX6_takeNewName_18 qi_1 ?_
      refine lv_aload_n hx hb dX6_takeNewName_19 rfl (lv_at hl 0 rfl) ?_
      refine q_getI C hj lk_X6_48 dX6_takeNewName_20 hf (fun v34 hf => ?_)
      refine q_cVWI C hj cw_X6_81 (As := [.int 1, .int v34]) (rest := []) hf (fun v9 g9 h9 => c_X6_failAt l E h9) rfl hl rfl rfl rfl dX6_takeNewName_23 ⟨Nat.zero_le _, Nat.zero_le _⟩ (fun v36 g35 H locs hj hf => ?_)
      exact q_zretW C hj dX6_takeNewName_26 hf
def f_X6_takeOneOf (g : qS) (a0 : Nat) (a1 : Nat) (a2 : Nat) (a3 : Nat) (a4 : Nat) : Option (Int32 × qS) := (g_C g a0 5).bind fun _ => (g_I g a0 5 7).bind fun v1 => if v1 = 1 then ((g_L g a0 5 10).bind fun v2 => (f_X6_codeOf g a1).bind fun v3 => if v2 = v3 then (q_b2 (f_X6_take g a0 0) fun v20 g19 => q_zr v20 (v20, g19)) else ((g_L g a0 5 10).bind fun v4 => (f_X6_codeOf g a2).bind fun v5 => if v4 = v5 then (q_b2 (f_X6_take g a0 1) fun v18 g17 => q_zr v18 (v18, g17)) else ((g_L g a0 5 10).bind fun v6 => (f_X6_codeOf g a3).bind fun v7 => if v6 = v7 then (q_b2 (f_X6_take g a0 2) fun v16 g15 => q_zr v16 (v16, g15)) else ((g_L g a0 5 10).bind fun v8 => (f_X6_codeOf g a4).bind fun v9 => if v8 = v9 then (q_b2 (f_X6_take g a0 3) fun v14 g13 => q_zr v14 (v14, g13)) else ((g_I g a0 5 8).bind fun v10 => q_b2 (f_X6_failAt g a0 1 v10) fun v12 g11 => q_zr v12 (v12, g11)))))) else ((g_I g a0 5 8).bind fun v21 => q_b2 (f_X6_failAt g a0 1 v21) fun v23 g22 => q_zr v23 (v23, g22))
set_option maxHeartbeats 4000000 in
set_option maxRecDepth 100000 in
theorem c_X6_takeOneOf (l : Launch) (E : qV) {g : qS} {a0 : Nat} {a1 : Nat} {a2 : Nat} {a3 : Nat} {a4 : Nat} {res : (Int32 × qS)} (hf : f_X6_takeOneOf g a0 a1 a2 a3 a4 = some res) : q_MW l yX6_takeOneOf cX6_takeOneOf 5 (some .boolean) 5 143 E [.ref (q_ad E a0), .ref (q_sa E a1), .ref (q_sa E a2), .ref (q_sa E a3), .ref (q_sa E a4)] g (some (.int res.1)) res.2 ∧ ∃ fs, g a0 = some (.inr (5, fs)) := by
  unfold f_X6_takeOneOf at hf
  obtain ⟨u9, hu9, hf⟩ := q_ob hf
  refine ⟨q_ofW (by decide) rfl ?_, g_C_sp hu9⟩
  intro p e s m args below meth c ls C hj hl
  have hx := C.1
  have hb := C.2.1
  have C : q_C E p s m args meth c cX6_takeOneOf RX6 5 (some .boolean) := C
  have hl : lv_has ls 5 [(0, .ref (q_ad E a0)), (1, .ref (q_sa E a1)), (2, .ref (q_sa E a2)), (3, .ref (q_sa E a3)), (4, .ref (q_sa E a4))] := hl
  refine lv_aload_n hx hb dX6_takeOneOf_0 rfl (lv_at hl 0 rfl) ?_
  refine q_getI C hj lk_X6_45 dX6_takeOneOf_1 hf (fun v1 hf => ?_)
  refine lv_iconst (v := 1) hx hb dX6_takeOneOf_4 qi_1 ?_
  refine q_iceq C (tgt := 18) dX6_takeOneOf_5 (by decide) hf (fun hf => ?_) (fun hf => ?_)
  · refine lv_aload_n hx hb dX6_takeOneOf_18 rfl (lv_at hl 0 rfl) ?_
    refine q_getL C hj lk_X6_54 dX6_takeOneOf_19 hf (fun v2 hf => ?_)
    refine lv_aload_n hx hb dX6_takeOneOf_22 rfl (lv_at hl 1 rfl) ?_
    refine q_cSRL C hj cw_X6_120 (As := [.ref (q_sa E a1)]) (rest := [.long v2]) hf (fun v9 h9 => c_X6_codeOf l E h9) rfl hl rfl rfl rfl dX6_takeOneOf_23 ⟨Nat.zero_le _, Nat.zero_le _⟩ (fun v3 hf => ?_)
    refine q_lcne C (tgt := 36) dX6_takeOneOf_26 dX6_takeOneOf_27 (by decide) hf (fun hf => ?_) (fun hf => ?_)
    · refine lv_aload_n hx hb dX6_takeOneOf_36 rfl (lv_at hl 0 rfl) ?_
      refine q_getL C hj lk_X6_54 dX6_takeOneOf_37 hf (fun v4 hf => ?_)
      refine lv_aload_n hx hb dX6_takeOneOf_40 rfl (lv_at hl 2 rfl) ?_
      refine q_cSRL C hj cw_X6_120 (As := [.ref (q_sa E a2)]) (rest := [.long v4]) hf (fun v9 h9 => c_X6_codeOf l E h9) rfl hl rfl rfl rfl dX6_takeOneOf_41 ⟨Nat.zero_le _, Nat.zero_le _⟩ (fun v5 hf => ?_)
      refine q_lcne C (tgt := 54) dX6_takeOneOf_44 dX6_takeOneOf_45 (by decide) hf (fun hf => ?_) (fun hf => ?_)
      · refine lv_aload_n hx hb dX6_takeOneOf_54 rfl (lv_at hl 0 rfl) ?_
        refine q_getL C hj lk_X6_54 dX6_takeOneOf_55 hf (fun v6 hf => ?_)
        refine lv_aload_n hx hb dX6_takeOneOf_58 rfl (lv_at hl 3 rfl) ?_
        refine q_cSRL C hj cw_X6_120 (As := [.ref (q_sa E a3)]) (rest := [.long v6]) hf (fun v9 h9 => c_X6_codeOf l E h9) rfl hl rfl rfl rfl dX6_takeOneOf_59 ⟨Nat.zero_le _, Nat.zero_le _⟩ (fun v7 hf => ?_)
        refine q_lcne C (tgt := 72) dX6_takeOneOf_62 dX6_takeOneOf_63 (by decide) hf (fun hf => ?_) (fun hf => ?_)
        · refine lv_aload_n hx hb dX6_takeOneOf_72 rfl (lv_at hl 0 rfl) ?_
          refine q_getL C hj lk_X6_54 dX6_takeOneOf_73 hf (fun v8 hf => ?_)
          refine lv_aload hx hb dX6_takeOneOf_76 (lv_at hl 4 rfl) ?_
          refine q_cSRL C hj cw_X6_120 (As := [.ref (q_sa E a4)]) (rest := [.long v8]) hf (fun v9 h9 => c_X6_codeOf l E h9) rfl hl rfl rfl rfl dX6_takeOneOf_78 ⟨Nat.zero_le _, Nat.zero_le _⟩ (fun v9 hf => ?_)
          refine q_lcne C (tgt := 93) dX6_takeOneOf_81 dX6_takeOneOf_82 (by decide) hf (fun hf => ?_) (fun hf => ?_)
          · refine lv_aload_n hx hb dX6_takeOneOf_93 rfl (lv_at hl 0 rfl) ?_
            refine lv_iconst (v := 1) hx hb dX6_takeOneOf_94 qi_1 ?_
            refine lv_aload_n hx hb dX6_takeOneOf_95 rfl (lv_at hl 0 rfl) ?_
            refine q_getI C hj lk_X6_48 dX6_takeOneOf_96 hf (fun v10 hf => ?_)
            refine q_cVWI C hj cw_X6_81 (As := [.int 1, .int v10]) (rest := []) hf (fun v9 g9 h9 => c_X6_failAt l E h9) rfl hl rfl rfl rfl dX6_takeOneOf_99 ⟨Nat.zero_le _, Nat.zero_le _⟩ (fun v12 g11 H locs hj hf => ?_)
            exact q_zretW C hj dX6_takeOneOf_102 hf
          · refine lv_aload_n hx hb dX6_takeOneOf_85 rfl (lv_at hl 0 rfl) ?_
            refine lv_iconst (v := 3) hx hb dX6_takeOneOf_86 qi_3 ?_
            refine q_cVWI C hj cw_X6_85 (As := [.int 3]) (rest := []) hf (fun v9 g9 h9 => c_X6_take l E h9) rfl hl rfl rfl rfl dX6_takeOneOf_87 ⟨Nat.zero_le _, Nat.zero_le _⟩ (fun v14 g13 H locs hj hf => ?_)
            refine lv_goto (tgt := 102) hx hb dX6_takeOneOf_90 (by decide) ?_
            exact q_zretW C hj dX6_takeOneOf_102 hf
        · refine lv_aload_n hx hb dX6_takeOneOf_66 rfl (lv_at hl 0 rfl) ?_
          refine lv_iconst (v := 2) hx hb dX6_takeOneOf_67 qi_2 ?_
          refine q_cVWI C hj cw_X6_85 (As := [.int 2]) (rest := []) hf (fun v9 g9 h9 => c_X6_take l E h9) rfl hl rfl rfl rfl dX6_takeOneOf_68 ⟨Nat.zero_le _, Nat.zero_le _⟩ (fun v16 g15 H locs hj hf => ?_)
          exact q_zretW C hj dX6_takeOneOf_71 hf
      · refine lv_aload_n hx hb dX6_takeOneOf_48 rfl (lv_at hl 0 rfl) ?_
        refine lv_iconst (v := 1) hx hb dX6_takeOneOf_49 qi_1 ?_
        refine q_cVWI C hj cw_X6_85 (As := [.int 1]) (rest := []) hf (fun v9 g9 h9 => c_X6_take l E h9) rfl hl rfl rfl rfl dX6_takeOneOf_50 ⟨Nat.zero_le _, Nat.zero_le _⟩ (fun v18 g17 H locs hj hf => ?_)
        exact q_zretW C hj dX6_takeOneOf_53 hf
    · refine lv_aload_n hx hb dX6_takeOneOf_30 rfl (lv_at hl 0 rfl) ?_
      refine lv_iconst (v := 0) hx hb dX6_takeOneOf_31 qi_0 ?_
      refine q_cVWI C hj cw_X6_85 (As := [.int 0]) (rest := []) hf (fun v9 g9 h9 => c_X6_take l E h9) rfl hl rfl rfl rfl dX6_takeOneOf_32 ⟨Nat.zero_le _, Nat.zero_le _⟩ (fun v20 g19 H locs hj hf => ?_)
      exact q_zretW C hj dX6_takeOneOf_35 hf
  · refine lv_aload_n hx hb dX6_takeOneOf_8 rfl (lv_at hl 0 rfl) ?_
    refine lv_iconst (v := 1) hx hb dX6_takeOneOf_9 qi_1 ?_
    refine lv_aload_n hx hb dX6_takeOneOf_10 rfl (lv_at hl 0 rfl) ?_
    refine q_getI C hj lk_X6_48 dX6_takeOneOf_11 hf (fun v21 hf => ?_)
    refine q_cVWI C hj cw_X6_81 (As := [.int 1, .int v21]) (rest := []) hf (fun v9 g9 h9 => c_X6_failAt l E h9) rfl hl rfl rfl rfl dX6_takeOneOf_14 ⟨Nat.zero_le _, Nat.zero_le _⟩ (fun v23 g22 H locs hj hf => ?_)
    exact q_zretW C hj dX6_takeOneOf_17 hf
def f_X6_readThing (g : qS) (a0 : Nat) : Option (Int32 × qS) := (g_C g a0 5).bind fun _ => (g_R g a0 5 2).bind fun v1 => (f_X3_count g v1 2).bind fun v2 => q_b2 (f_X6_takeNewName g a0 2) fun v4 g3 => if v4 = 0 then (some (0, g3)) else (q_b2 (f_X6_takeOneOf g3 a0 12 13 14 15) fun v6 g5 => if v6 = 0 then (some (0, g5)) else ((g_R g5 a0 5 2).bind fun v7 => (g_R g5 v7 2 0).bind fun v8 => q_b2 (f_X6_put g5 a0 v8 v2 0) fun v10 g9 => if v10 = 0 then (some (0, g9)) else (q_b2 (f_X6_takeWord g9 a0 16) fun v12 g11 => if v12 = 0 then (some (0, g11)) else (q_b2 (f_X6_takeWhole g11 a0 0 50) fun v14 g13 => if v14 = 0 then (some (0, g13)) else ((g_R g13 a0 5 2).bind fun v15 => (g_R g13 v15 2 0).bind fun v16 => q_b2 (f_X6_put g13 a0 v16 v2 1) fun v18 g17 => if v18 = 0 then (some (0, g17)) else (some (1, g17)))))))
set_option maxHeartbeats 4000000 in
set_option maxRecDepth 100000 in
theorem c_X6_readThing (l : Launch) (E : qV) {g : qS} {a0 : Nat} {res : (Int32 × qS)} (hf : f_X6_readThing g a0 = some res) : q_MW l yX6_readThing cX6_readThing 2 (some .boolean) 7 185 E [.ref (q_ad E a0)] g (some (.int res.1)) res.2 ∧ ∃ fs, g a0 = some (.inr (5, fs)) := by
  unfold f_X6_readThing at hf
  obtain ⟨u9, hu9, hf⟩ := q_ob hf
  refine ⟨q_ofW (by decide) rfl ?_, g_C_sp hu9⟩
  intro p e s m args below meth c ls C hj hl
  have hx := C.1
  have hb := C.2.1
  have C : q_C E p s m args meth c cX6_readThing RX6 2 (some .boolean) := C
  have hl : lv_has ls 2 [(0, .ref (q_ad E a0))] := hl
  refine lv_aload_n hx hb dX6_readThing_0 rfl (lv_at hl 0 rfl) ?_
  refine q_getR C hj lk_X6_22 dX6_readThing_1 hf (fun v1 hf => ?_)
  refine lv_iconst (v := 2) hx hb dX6_readThing_4 qi_2 ?_
  refine q_cVRI C hj cw_X6_98 (As := [.int 2]) (rest := []) hf (fun v9 h9 => c_X3_count l E h9) rfl hl rfl rfl rfl dX6_readThing_5 ⟨Nat.zero_le _, Nat.zero_le _⟩ (fun v2 hf => ?_)
  refine lv_istore_n (lv' := [(1, .int v2), (0, .ref (q_ad E a0))]) hx hb dX6_readThing_8 rfl hl (by decide) rfl (fun ls hl => ?_)
  refine lv_aload_n hx hb dX6_readThing_9 rfl (lv_at hl 1 rfl) ?_
  refine lv_iconst (v := 2) hx hb dX6_readThing_10 qi_2 ?_
  refine q_cVWI C hj cw_X6_225 (As := [.int 2]) (rest := []) hf (fun v9 g9 h9 => c_X6_takeNewName l E h9) rfl hl rfl rfl rfl dX6_readThing_11 ⟨Nat.zero_le _, Nat.zero_le _⟩ (fun v4 g3 H locs hj hf => ?_)
  refine q_ifeq C (tgt := 87) dX6_readThing_14 (by decide) hf (fun hf => ?_) (fun hf => ?_)
  · refine lv_iconst (v := 0) hx hb dX6_readThing_87 qi_0 ?_
    exact q_z0retW C hj dX6_readThing_88 hf
  · refine lv_aload_n hx hb dX6_readThing_17 rfl (lv_at hl 1 rfl) ?_
    refine q_ldcS C (i := 12) rfl dX6_readThing_18 ?_
    refine q_ldcS C (i := 13) rfl dX6_readThing_20 ?_
    refine q_ldcS C (i := 14) rfl dX6_readThing_22 ?_
    refine q_ldcS C (i := 15) rfl dX6_readThing_24 ?_
    refine q_cVWI C hj cw_X6_236 (As := [.ref (q_sa E 12), .ref (q_sa E 13), .ref (q_sa E 14), .ref (q_sa E 15)]) (rest := []) hf (fun v9 g9 h9 => c_X6_takeOneOf l E h9) rfl hl rfl rfl rfl dX6_readThing_26 ⟨Nat.zero_le _, Nat.zero_le _⟩ (fun v6 g5 H locs hj hf => ?_)
    refine q_ifeq C (tgt := 87) dX6_readThing_29 (by decide) hf (fun hf => ?_) (fun hf => ?_)
    · refine lv_iconst (v := 0) hx hb dX6_readThing_87 qi_0 ?_
      exact q_z0retW C hj dX6_readThing_88 hf
    · refine lv_aload_n hx hb dX6_readThing_32 rfl (lv_at hl 1 rfl) ?_
      refine lv_aload_n hx hb dX6_readThing_33 rfl (lv_at hl 1 rfl) ?_
      refine q_getR C hj lk_X6_22 dX6_readThing_34 hf (fun v7 hf => ?_)
      refine q_getR C hj lk_X6_240 dX6_readThing_37 hf (fun v8 hf => ?_)
      refine lv_iload_n hx hb dX6_readThing_40 rfl (lv_at hl 0 rfl) ?_
      refine lv_iconst (v := 0) hx hb dX6_readThing_41 qi_0 ?_
      refine q_cVWI C hj cw_X6_219 (As := [.ref (q_ad E v8), .int v2, .int 0]) (rest := []) hf (fun v9 g9 h9 => c_X6_put l E h9) rfl hl rfl rfl rfl dX6_readThing_42 ⟨Nat.zero_le _, Nat.zero_le _⟩ (fun v10 g9 H locs hj hf => ?_)
      refine q_ifeq C (tgt := 87) dX6_readThing_45 (by decide) hf (fun hf => ?_) (fun hf => ?_)
      · refine lv_iconst (v := 0) hx hb dX6_readThing_87 qi_0 ?_
        exact q_z0retW C hj dX6_readThing_88 hf
      · refine lv_aload_n hx hb dX6_readThing_48 rfl (lv_at hl 1 rfl) ?_
        refine q_ldcS C (i := 16) rfl dX6_readThing_49 ?_
        refine q_cVWI C hj cw_X6_212 (As := [.ref (q_sa E 16)]) (rest := []) hf (fun v9 g9 h9 => c_X6_takeWord l E h9) rfl hl rfl rfl rfl dX6_readThing_51 ⟨Nat.zero_le _, Nat.zero_le _⟩ (fun v12 g11 H locs hj hf => ?_)
        refine q_ifeq C (tgt := 87) dX6_readThing_54 (by decide) hf (fun hf => ?_) (fun hf => ?_)
        · refine lv_iconst (v := 0) hx hb dX6_readThing_87 qi_0 ?_
          exact q_z0retW C hj dX6_readThing_88 hf
        · refine lv_aload_n hx hb dX6_readThing_57 rfl (lv_at hl 1 rfl) ?_
          refine lv_iconst (v := 0) hx hb dX6_readThing_58 qi_0 ?_
          refine lv_bipush (v := 50) hx hb dX6_readThing_59 (by decide) ?_
          refine q_cVWI C hj cw_X6_216 (As := [.int 0, .int 50]) (rest := []) hf (fun v9 g9 h9 => c_X6_takeWhole l E h9) rfl hl rfl rfl rfl dX6_readThing_61 ⟨Nat.zero_le _, Nat.zero_le _⟩ (fun v14 g13 H locs hj hf => ?_)
          refine q_ifeq C (tgt := 87) dX6_readThing_64 (by decide) hf (fun hf => ?_) (fun hf => ?_)
          · refine lv_iconst (v := 0) hx hb dX6_readThing_87 qi_0 ?_
            exact q_z0retW C hj dX6_readThing_88 hf
          · refine lv_aload_n hx hb dX6_readThing_67 rfl (lv_at hl 1 rfl) ?_
            refine lv_aload_n hx hb dX6_readThing_68 rfl (lv_at hl 1 rfl) ?_
            refine q_getR C hj lk_X6_22 dX6_readThing_69 hf (fun v15 hf => ?_)
            refine q_getR C hj lk_X6_240 dX6_readThing_72 hf (fun v16 hf => ?_)
            refine lv_iload_n hx hb dX6_readThing_75 rfl (lv_at hl 0 rfl) ?_
            refine lv_iconst (v := 1) hx hb dX6_readThing_76 qi_1 ?_
            refine q_cVWI C hj cw_X6_219 (As := [.ref (q_ad E v16), .int v2, .int 1]) (rest := []) hf (fun v9 g9 h9 => c_X6_put l E h9) rfl hl rfl rfl rfl dX6_readThing_77 ⟨Nat.zero_le _, Nat.zero_le _⟩ (fun v18 g17 H locs hj hf => ?_)
            refine q_ifeq C (tgt := 87) dX6_readThing_80 (by decide) hf (fun hf => ?_) (fun hf => ?_)
            · refine lv_iconst (v := 0) hx hb dX6_readThing_87 qi_0 ?_
              exact q_z0retW C hj dX6_readThing_88 hf
            · refine lv_iconst (v := 1) hx hb dX6_readThing_83 qi_1 ?_
              refine lv_goto (tgt := 88) hx hb dX6_readThing_84 (by decide) ?_
              exact q_z1retW C hj dX6_readThing_88 hf
def f_X6_addTo (g : qS) (a0 : Nat) (a1 : Int32) : Option (Int32 × qS) := (g_C g a0 5).bind fun _ => (g_R g a0 5 2).bind fun v1 => (g_R g v1 2 9).bind fun v2 => (f_X8_add g v2 0 a1 1).bind fun g3 => some (1, g3)
set_option maxHeartbeats 4000000 in
set_option maxRecDepth 100000 in
theorem c_X6_addTo (l : Launch) (E : qV) {g : qS} {a0 : Nat} {a1 : Int32} {res : (Int32 × qS)} (hf : f_X6_addTo g a0 a1 = some res) : q_MW l yX6_addTo cX6_addTo 2 (some .boolean) 2 47 E [.ref (q_ad E a0), .int a1] g (some (.int res.1)) res.2 ∧ ∃ fs, g a0 = some (.inr (5, fs)) := by
  unfold f_X6_addTo at hf
  obtain ⟨u9, hu9, hf⟩ := q_ob hf
  refine ⟨q_ofW (by decide) rfl ?_, g_C_sp hu9⟩
  intro p e s m args below meth c ls C hj hl
  have hx := C.1
  have hb := C.2.1
  have C : q_C E p s m args meth c cX6_addTo RX6 2 (some .boolean) := C
  have hl : lv_has ls 2 [(0, .ref (q_ad E a0)), (1, .int a1)] := hl
  refine lv_aload_n hx hb dX6_addTo_0 rfl (lv_at hl 0 rfl) ?_
  refine q_getR C hj lk_X6_22 dX6_addTo_1 hf (fun v1 hf => ?_)
  refine q_getR C hj lk_X6_204 dX6_addTo_4 hf (fun v2 hf => ?_)
  refine lv_iconst (v := 0) hx hb dX6_addTo_7 qi_0 ?_
  refine lv_iload_n hx hb dX6_addTo_8 rfl (lv_at hl 1 rfl) ?_
  refine lv_iconst (v := 1) hx hb dX6_addTo_9 qi_1 ?_
  refine q_cVWV C hj cw_X6_207 (As := [.int 0, .int a1, .int 1]) (rest := []) hf (fun g9 h9 => c_X8_add l E h9) rfl hl rfl rfl rfl dX6_addTo_10 ⟨Nat.zero_le _, Nat.zero_le _⟩ (fun g3 H locs hj hf => ?_)
  refine lv_iconst (v := 1) hx hb dX6_addTo_13 qi_1 ?_
  exact q_z1retW C hj dX6_addTo_14 hf
def f_X6_readPerson (g : qS) (a0 : Nat) : Option (Int32 × qS) := (g_C g a0 5).bind fun _ => (g_R g a0 5 2).bind fun v1 => (f_X3_count g v1 3).bind fun v2 => q_b2 (f_X6_takeNewName g a0 3) fun v4 g3 => if v4 = 0 then (some (0, g3)) else (q_b2 (f_X6_takeOneOf g3 a0 17 18 19 20) fun v6 g5 => if v6 = 0 then (some (0, g5)) else ((g_R g5 a0 5 2).bind fun v7 => (g_R g5 v7 2 1).bind fun v8 => q_b2 (f_X6_put g5 a0 v8 v2 0) fun v10 g9 => if v10 = 0 then (some (0, g9)) else (q_b2 (f_X6_takeWord g9 a0 21) fun v12 g11 => if v12 = 0 then (some (0, g11)) else (q_b2 (f_X6_takeWhole g11 a0 0 9) fun v14 g13 => if v14 = 0 then (some (0, g13)) else ((g_R g13 a0 5 2).bind fun v15 => (g_R g13 v15 2 1).bind fun v16 => q_b2 (f_X6_put g13 a0 v16 v2 1) fun v18 g17 => if v18 = 0 then (some (0, g17)) else (q_b2 (f_X6_takeWord g17 a0 22) fun v20 g19 => if v20 = 0 then (some (0, g19)) else (q_b2 (f_X6_takeWhole g19 a0 0 99) fun v22 g21 => if v22 = 0 then (some (0, g21)) else ((g_R g21 a0 5 2).bind fun v23 => (g_R g21 v23 2 1).bind fun v24 => q_b2 (f_X6_put g21 a0 v24 v2 2) fun v26 g25 => if v26 = 0 then (some (0, g25)) else (some (1, g25))))))))))
set_option maxHeartbeats 4000000 in
set_option maxRecDepth 100000 in
theorem c_X6_readPerson (l : Launch) (E : qV) {g : qS} {a0 : Nat} {res : (Int32 × qS)} (hf : f_X6_readPerson g a0 = some res) : q_MW l yX6_readPerson cX6_readPerson 2 (some .boolean) 7 185 E [.ref (q_ad E a0)] g (some (.int res.1)) res.2 ∧ ∃ fs, g a0 = some (.inr (5, fs)) := by
  unfold f_X6_readPerson at hf
  obtain ⟨u9, hu9, hf⟩ := q_ob hf
  refine ⟨q_ofW (by decide) rfl ?_, g_C_sp hu9⟩
  intro p e s m args below meth c ls C hj hl
  have hx := C.1
  have hb := C.2.1
  have C : q_C E p s m args meth c cX6_readPerson RX6 2 (some .boolean) := C
  have hl : lv_has ls 2 [(0, .ref (q_ad E a0))] := hl
  refine lv_aload_n hx hb dX6_readPerson_0 rfl (lv_at hl 0 rfl) ?_
  refine q_getR C hj lk_X6_22 dX6_readPerson_1 hf (fun v1 hf => ?_)
  refine lv_iconst (v := 3) hx hb dX6_readPerson_4 qi_3 ?_
  refine q_cVRI C hj cw_X6_98 (As := [.int 3]) (rest := []) hf (fun v9 h9 => c_X3_count l E h9) rfl hl rfl rfl rfl dX6_readPerson_5 ⟨Nat.zero_le _, Nat.zero_le _⟩ (fun v2 hf => ?_)
  refine lv_istore_n (lv' := [(1, .int v2), (0, .ref (q_ad E a0))]) hx hb dX6_readPerson_8 rfl hl (by decide) rfl (fun ls hl => ?_)
  refine lv_aload_n hx hb dX6_readPerson_9 rfl (lv_at hl 1 rfl) ?_
  refine lv_iconst (v := 3) hx hb dX6_readPerson_10 qi_3 ?_
  refine q_cVWI C hj cw_X6_225 (As := [.int 3]) (rest := []) hf (fun v9 g9 h9 => c_X6_takeNewName l E h9) rfl hl rfl rfl rfl dX6_readPerson_11 ⟨Nat.zero_le _, Nat.zero_le _⟩ (fun v4 g3 H locs hj hf => ?_)
  refine q_ifeq C (tgt := 124) dX6_readPerson_14 (by decide) hf (fun hf => ?_) (fun hf => ?_)
  · refine lv_iconst (v := 0) hx hb dX6_readPerson_124 qi_0 ?_
    exact q_z0retW C hj dX6_readPerson_125 hf
  · refine lv_aload_n hx hb dX6_readPerson_17 rfl (lv_at hl 1 rfl) ?_
    refine q_ldcS C (i := 17) rfl dX6_readPerson_18 ?_
    refine q_ldcS C (i := 18) rfl dX6_readPerson_20 ?_
    refine q_ldcS C (i := 19) rfl dX6_readPerson_22 ?_
    refine q_ldcS C (i := 20) rfl dX6_readPerson_24 ?_
    refine q_cVWI C hj cw_X6_236 (As := [.ref (q_sa E 17), .ref (q_sa E 18), .ref (q_sa E 19), .ref (q_sa E 20)]) (rest := []) hf (fun v9 g9 h9 => c_X6_takeOneOf l E h9) rfl hl rfl rfl rfl dX6_readPerson_26 ⟨Nat.zero_le _, Nat.zero_le _⟩ (fun v6 g5 H locs hj hf => ?_)
    refine q_ifeq C (tgt := 124) dX6_readPerson_29 (by decide) hf (fun hf => ?_) (fun hf => ?_)
    · refine lv_iconst (v := 0) hx hb dX6_readPerson_124 qi_0 ?_
      exact q_z0retW C hj dX6_readPerson_125 hf
    · refine lv_aload_n hx hb dX6_readPerson_32 rfl (lv_at hl 1 rfl) ?_
      refine lv_aload_n hx hb dX6_readPerson_33 rfl (lv_at hl 1 rfl) ?_
      refine q_getR C hj lk_X6_22 dX6_readPerson_34 hf (fun v7 hf => ?_)
      refine q_getR C hj lk_X6_253 dX6_readPerson_37 hf (fun v8 hf => ?_)
      refine lv_iload_n hx hb dX6_readPerson_40 rfl (lv_at hl 0 rfl) ?_
      refine lv_iconst (v := 0) hx hb dX6_readPerson_41 qi_0 ?_
      refine q_cVWI C hj cw_X6_219 (As := [.ref (q_ad E v8), .int v2, .int 0]) (rest := []) hf (fun v9 g9 h9 => c_X6_put l E h9) rfl hl rfl rfl rfl dX6_readPerson_42 ⟨Nat.zero_le _, Nat.zero_le _⟩ (fun v10 g9 H locs hj hf => ?_)
      refine q_ifeq C (tgt := 124) dX6_readPerson_45 (by decide) hf (fun hf => ?_) (fun hf => ?_)
      · refine lv_iconst (v := 0) hx hb dX6_readPerson_124 qi_0 ?_
        exact q_z0retW C hj dX6_readPerson_125 hf
      · refine lv_aload_n hx hb dX6_readPerson_48 rfl (lv_at hl 1 rfl) ?_
        refine q_ldcwS C (i := 21) rfl dX6_readPerson_49 ?_
        refine q_cVWI C hj cw_X6_212 (As := [.ref (q_sa E 21)]) (rest := []) hf (fun v9 g9 h9 => c_X6_takeWord l E h9) rfl hl rfl rfl rfl dX6_readPerson_52 ⟨Nat.zero_le _, Nat.zero_le _⟩ (fun v12 g11 H locs hj hf => ?_)
        refine q_ifeq C (tgt := 124) dX6_readPerson_55 (by decide) hf (fun hf => ?_) (fun hf => ?_)
        · refine lv_iconst (v := 0) hx hb dX6_readPerson_124 qi_0 ?_
          exact q_z0retW C hj dX6_readPerson_125 hf
        · refine lv_aload_n hx hb dX6_readPerson_58 rfl (lv_at hl 1 rfl) ?_
          refine lv_iconst (v := 0) hx hb dX6_readPerson_59 qi_0 ?_
          refine lv_bipush (v := 9) hx hb dX6_readPerson_60 (by decide) ?_
          refine q_cVWI C hj cw_X6_216 (As := [.int 0, .int 9]) (rest := []) hf (fun v9 g9 h9 => c_X6_takeWhole l E h9) rfl hl rfl rfl rfl dX6_readPerson_62 ⟨Nat.zero_le _, Nat.zero_le _⟩ (fun v14 g13 H locs hj hf => ?_)
          refine q_ifeq C (tgt := 124) dX6_readPerson_65 (by decide) hf (fun hf => ?_) (fun hf => ?_)
          · refine lv_iconst (v := 0) hx hb dX6_readPerson_124 qi_0 ?_
            exact q_z0retW C hj dX6_readPerson_125 hf
          · refine lv_aload_n hx hb dX6_readPerson_68 rfl (lv_at hl 1 rfl) ?_
            refine lv_aload_n hx hb dX6_readPerson_69 rfl (lv_at hl 1 rfl) ?_
            refine q_getR C hj lk_X6_22 dX6_readPerson_70 hf (fun v15 hf => ?_)
            refine q_getR C hj lk_X6_253 dX6_readPerson_73 hf (fun v16 hf => ?_)
            refine lv_iload_n hx hb dX6_readPerson_76 rfl (lv_at hl 0 rfl) ?_
            refine lv_iconst (v := 1) hx hb dX6_readPerson_77 qi_1 ?_
            refine q_cVWI C hj cw_X6_219 (As := [.ref (q_ad E v16), .int v2, .int 1]) (rest := []) hf (fun v9 g9 h9 => c_X6_put l E h9) rfl hl rfl rfl rfl dX6_readPerson_78 ⟨Nat.zero_le _, Nat.zero_le _⟩ (fun v18 g17 H locs hj hf => ?_)
            refine q_ifeq C (tgt := 124) dX6_readPerson_81 (by decide) hf (fun hf => ?_) (fun hf => ?_)
            · refine lv_iconst (v := 0) hx hb dX6_readPerson_124 qi_0 ?_
              exact q_z0retW C hj dX6_readPerson_125 hf
            · refine lv_aload_n hx hb dX6_readPerson_84 rfl (lv_at hl 1 rfl) ?_
              refine q_ldcwS C (i := 22) rfl dX6_readPerson_85 ?_
              refine q_cVWI C hj cw_X6_212 (As := [.ref (q_sa E 22)]) (rest := []) hf (fun v9 g9 h9 => c_X6_takeWord l E h9) rfl hl rfl rfl rfl dX6_readPerson_88 ⟨Nat.zero_le _, Nat.zero_le _⟩ (fun v20 g19 H locs hj hf => ?_)
              refine q_ifeq C (tgt := 124) dX6_readPerson_91 (by decide) hf (fun hf => ?_) (fun hf => ?_)
              · refine lv_iconst (v := 0) hx hb dX6_readPerson_124 qi_0 ?_
                exact q_z0retW C hj dX6_readPerson_125 hf
              · refine lv_aload_n hx hb dX6_readPerson_94 rfl (lv_at hl 1 rfl) ?_
                refine lv_iconst (v := 0) hx hb dX6_readPerson_95 qi_0 ?_
                refine lv_bipush (v := 99) hx hb dX6_readPerson_96 (by decide) ?_
                refine q_cVWI C hj cw_X6_216 (As := [.int 0, .int 99]) (rest := []) hf (fun v9 g9 h9 => c_X6_takeWhole l E h9) rfl hl rfl rfl rfl dX6_readPerson_98 ⟨Nat.zero_le _, Nat.zero_le _⟩ (fun v22 g21 H locs hj hf => ?_)
                refine q_ifeq C (tgt := 124) dX6_readPerson_101 (by decide) hf (fun hf => ?_) (fun hf => ?_)
                · refine lv_iconst (v := 0) hx hb dX6_readPerson_124 qi_0 ?_
                  exact q_z0retW C hj dX6_readPerson_125 hf
                · refine lv_aload_n hx hb dX6_readPerson_104 rfl (lv_at hl 1 rfl) ?_
                  refine lv_aload_n hx hb dX6_readPerson_105 rfl (lv_at hl 1 rfl) ?_
                  refine q_getR C hj lk_X6_22 dX6_readPerson_106 hf (fun v23 hf => ?_)
                  refine q_getR C hj lk_X6_253 dX6_readPerson_109 hf (fun v24 hf => ?_)
                  refine lv_iload_n hx hb dX6_readPerson_112 rfl (lv_at hl 0 rfl) ?_
                  refine lv_iconst (v := 2) hx hb dX6_readPerson_113 qi_2 ?_
                  refine q_cVWI C hj cw_X6_219 (As := [.ref (q_ad E v24), .int v2, .int 2]) (rest := []) hf (fun v9 g9 h9 => c_X6_put l E h9) rfl hl rfl rfl rfl dX6_readPerson_114 ⟨Nat.zero_le _, Nat.zero_le _⟩ (fun v26 g25 H locs hj hf => ?_)
                  refine q_ifeq C (tgt := 124) dX6_readPerson_117 (by decide) hf (fun hf => ?_) (fun hf => ?_)
                  · refine lv_iconst (v := 0) hx hb dX6_readPerson_124 qi_0 ?_
                    exact q_z0retW C hj dX6_readPerson_125 hf
                  · refine lv_iconst (v := 1) hx hb dX6_readPerson_120 qi_1 ?_
                    refine lv_goto (tgt := 125) hx hb dX6_readPerson_121 (by decide) ?_
                    exact q_z1retW C hj dX6_readPerson_125 hf
def f_X6_readTram (g : qS) (a0 : Nat) : Option (Int32 × qS) := (g_C g a0 5).bind fun _ => (g_R g a0 5 2).bind fun v1 => (f_X3_count g v1 4).bind fun v2 => q_b2 (f_X6_takeNewName g a0 4) fun v4 g3 => if v4 = 0 then (some (0, g3)) else (q_b2 (f_X6_takeWord g3 a0 23) fun v6 g5 => if v6 = 0 then (some (0, g5)) else (q_b2 (f_X6_takeWhole g5 a0 0 60) fun v8 g7 => if v8 = 0 then (some (0, g7)) else ((g_R g7 a0 5 2).bind fun v9 => (g_R g7 v9 2 2).bind fun v10 => q_b2 (f_X6_put g7 a0 v10 v2 0) fun v12 g11 => if v12 = 0 then (some (0, g11)) else (q_b2 (f_X6_takeWord g11 a0 24) fun v14 g13 => if v14 = 0 then (some (0, g13)) else (q_b2 (f_X6_takeWhole g13 a0 1 60) fun v16 g15 => if v16 = 0 then (some (0, g15)) else ((g_R g15 a0 5 2).bind fun v17 => (g_R g15 v17 2 2).bind fun v18 => q_b2 (f_X6_put g15 a0 v18 v2 1) fun v20 g19 => if v20 = 0 then (some (0, g19)) else (some (1, g19))))))))
set_option maxHeartbeats 4000000 in
set_option maxRecDepth 100000 in
theorem c_X6_readTram (l : Launch) (E : qV) {g : qS} {a0 : Nat} {res : (Int32 × qS)} (hf : f_X6_readTram g a0 = some res) : q_MW l yX6_readTram cX6_readTram 2 (some .boolean) 7 185 E [.ref (q_ad E a0)] g (some (.int res.1)) res.2 ∧ ∃ fs, g a0 = some (.inr (5, fs)) := by
  unfold f_X6_readTram at hf
  obtain ⟨u9, hu9, hf⟩ := q_ob hf
  refine ⟨q_ofW (by decide) rfl ?_, g_C_sp hu9⟩
  intro p e s m args below meth c ls C hj hl
  have hx := C.1
  have hb := C.2.1
  have C : q_C E p s m args meth c cX6_readTram RX6 2 (some .boolean) := C
  have hl : lv_has ls 2 [(0, .ref (q_ad E a0))] := hl
  refine lv_aload_n hx hb dX6_readTram_0 rfl (lv_at hl 0 rfl) ?_
  refine q_getR C hj lk_X6_22 dX6_readTram_1 hf (fun v1 hf => ?_)
  refine lv_iconst (v := 4) hx hb dX6_readTram_4 qi_4 ?_
  refine q_cVRI C hj cw_X6_98 (As := [.int 4]) (rest := []) hf (fun v9 h9 => c_X3_count l E h9) rfl hl rfl rfl rfl dX6_readTram_5 ⟨Nat.zero_le _, Nat.zero_le _⟩ (fun v2 hf => ?_)
  refine lv_istore_n (lv' := [(1, .int v2), (0, .ref (q_ad E a0))]) hx hb dX6_readTram_8 rfl hl (by decide) rfl (fun ls hl => ?_)
  refine lv_aload_n hx hb dX6_readTram_9 rfl (lv_at hl 1 rfl) ?_
  refine lv_iconst (v := 4) hx hb dX6_readTram_10 qi_4 ?_
  refine q_cVWI C hj cw_X6_225 (As := [.int 4]) (rest := []) hf (fun v9 g9 h9 => c_X6_takeNewName l E h9) rfl hl rfl rfl rfl dX6_readTram_11 ⟨Nat.zero_le _, Nat.zero_le _⟩ (fun v4 g3 H locs hj hf => ?_)
  refine q_ifeq C (tgt := 93) dX6_readTram_14 (by decide) hf (fun hf => ?_) (fun hf => ?_)
  · refine lv_iconst (v := 0) hx hb dX6_readTram_93 qi_0 ?_
    exact q_z0retW C hj dX6_readTram_94 hf
  · refine lv_aload_n hx hb dX6_readTram_17 rfl (lv_at hl 1 rfl) ?_
    refine q_ldcwS C (i := 23) rfl dX6_readTram_18 ?_
    refine q_cVWI C hj cw_X6_212 (As := [.ref (q_sa E 23)]) (rest := []) hf (fun v9 g9 h9 => c_X6_takeWord l E h9) rfl hl rfl rfl rfl dX6_readTram_21 ⟨Nat.zero_le _, Nat.zero_le _⟩ (fun v6 g5 H locs hj hf => ?_)
    refine q_ifeq C (tgt := 93) dX6_readTram_24 (by decide) hf (fun hf => ?_) (fun hf => ?_)
    · refine lv_iconst (v := 0) hx hb dX6_readTram_93 qi_0 ?_
      exact q_z0retW C hj dX6_readTram_94 hf
    · refine lv_aload_n hx hb dX6_readTram_27 rfl (lv_at hl 1 rfl) ?_
      refine lv_iconst (v := 0) hx hb dX6_readTram_28 qi_0 ?_
      refine lv_bipush (v := 60) hx hb dX6_readTram_29 (by decide) ?_
      refine q_cVWI C hj cw_X6_216 (As := [.int 0, .int 60]) (rest := []) hf (fun v9 g9 h9 => c_X6_takeWhole l E h9) rfl hl rfl rfl rfl dX6_readTram_31 ⟨Nat.zero_le _, Nat.zero_le _⟩ (fun v8 g7 H locs hj hf => ?_)
      refine q_ifeq C (tgt := 93) dX6_readTram_34 (by decide) hf (fun hf => ?_) (fun hf => ?_)
      · refine lv_iconst (v := 0) hx hb dX6_readTram_93 qi_0 ?_
        exact q_z0retW C hj dX6_readTram_94 hf
      · refine lv_aload_n hx hb dX6_readTram_37 rfl (lv_at hl 1 rfl) ?_
        refine lv_aload_n hx hb dX6_readTram_38 rfl (lv_at hl 1 rfl) ?_
        refine q_getR C hj lk_X6_22 dX6_readTram_39 hf (fun v9 hf => ?_)
        refine q_getR C hj lk_X6_262 dX6_readTram_42 hf (fun v10 hf => ?_)
        refine lv_iload_n hx hb dX6_readTram_45 rfl (lv_at hl 0 rfl) ?_
        refine lv_iconst (v := 0) hx hb dX6_readTram_46 qi_0 ?_
        refine q_cVWI C hj cw_X6_219 (As := [.ref (q_ad E v10), .int v2, .int 0]) (rest := []) hf (fun v9 g9 h9 => c_X6_put l E h9) rfl hl rfl rfl rfl dX6_readTram_47 ⟨Nat.zero_le _, Nat.zero_le _⟩ (fun v12 g11 H locs hj hf => ?_)
        refine q_ifeq C (tgt := 93) dX6_readTram_50 (by decide) hf (fun hf => ?_) (fun hf => ?_)
        · refine lv_iconst (v := 0) hx hb dX6_readTram_93 qi_0 ?_
          exact q_z0retW C hj dX6_readTram_94 hf
        · refine lv_aload_n hx hb dX6_readTram_53 rfl (lv_at hl 1 rfl) ?_
          refine q_ldcwS C (i := 24) rfl dX6_readTram_54 ?_
          refine q_cVWI C hj cw_X6_212 (As := [.ref (q_sa E 24)]) (rest := []) hf (fun v9 g9 h9 => c_X6_takeWord l E h9) rfl hl rfl rfl rfl dX6_readTram_57 ⟨Nat.zero_le _, Nat.zero_le _⟩ (fun v14 g13 H locs hj hf => ?_)
          refine q_ifeq C (tgt := 93) dX6_readTram_60 (by decide) hf (fun hf => ?_) (fun hf => ?_)
          · refine lv_iconst (v := 0) hx hb dX6_readTram_93 qi_0 ?_
            exact q_z0retW C hj dX6_readTram_94 hf
          · refine lv_aload_n hx hb dX6_readTram_63 rfl (lv_at hl 1 rfl) ?_
            refine lv_iconst (v := 1) hx hb dX6_readTram_64 qi_1 ?_
            refine lv_bipush (v := 60) hx hb dX6_readTram_65 (by decide) ?_
            refine q_cVWI C hj cw_X6_216 (As := [.int 1, .int 60]) (rest := []) hf (fun v9 g9 h9 => c_X6_takeWhole l E h9) rfl hl rfl rfl rfl dX6_readTram_67 ⟨Nat.zero_le _, Nat.zero_le _⟩ (fun v16 g15 H locs hj hf => ?_)
            refine q_ifeq C (tgt := 93) dX6_readTram_70 (by decide) hf (fun hf => ?_) (fun hf => ?_)
            · refine lv_iconst (v := 0) hx hb dX6_readTram_93 qi_0 ?_
              exact q_z0retW C hj dX6_readTram_94 hf
            · refine lv_aload_n hx hb dX6_readTram_73 rfl (lv_at hl 1 rfl) ?_
              refine lv_aload_n hx hb dX6_readTram_74 rfl (lv_at hl 1 rfl) ?_
              refine q_getR C hj lk_X6_22 dX6_readTram_75 hf (fun v17 hf => ?_)
              refine q_getR C hj lk_X6_262 dX6_readTram_78 hf (fun v18 hf => ?_)
              refine lv_iload_n hx hb dX6_readTram_81 rfl (lv_at hl 0 rfl) ?_
              refine lv_iconst (v := 1) hx hb dX6_readTram_82 qi_1 ?_
              refine q_cVWI C hj cw_X6_219 (As := [.ref (q_ad E v18), .int v2, .int 1]) (rest := []) hf (fun v9 g9 h9 => c_X6_put l E h9) rfl hl rfl rfl rfl dX6_readTram_83 ⟨Nat.zero_le _, Nat.zero_le _⟩ (fun v20 g19 H locs hj hf => ?_)
              refine q_ifeq C (tgt := 93) dX6_readTram_86 (by decide) hf (fun hf => ?_) (fun hf => ?_)
              · refine lv_iconst (v := 0) hx hb dX6_readTram_93 qi_0 ?_
                exact q_z0retW C hj dX6_readTram_94 hf
              · refine lv_iconst (v := 1) hx hb dX6_readTram_89 qi_1 ?_
                refine lv_goto (tgt := 94) hx hb dX6_readTram_90 (by decide) ?_
                exact q_z1retW C hj dX6_readTram_94 hf
