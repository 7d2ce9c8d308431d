def f_J6_bitCount_0f7a4 (g : qS) (a0 : Int32) : Option Int32 := some ((((((((a0 - (((a0.toUInt32 >>> (((1 : Int32)).toUInt32 &&& Int32.toUInt32 31)).toInt32) &&& 1431655765)) &&& 858993459) + ((((a0 - (((a0.toUInt32 >>> (((1 : Int32)).toUInt32 &&& Int32.toUInt32 31)).toInt32) &&& 1431655765)).toUInt32 >>> (((2 : Int32)).toUInt32 &&& Int32.toUInt32 31)).toInt32) &&& 858993459)) + (((((a0 - (((a0.toUInt32 >>> (((1 : Int32)).toUInt32 &&& Int32.toUInt32 31)).toInt32) &&& 1431655765)) &&& 858993459) + ((((a0 - (((a0.toUInt32 >>> (((1 : Int32)).toUInt32 &&& Int32.toUInt32 31)).toInt32) &&& 1431655765)).toUInt32 >>> (((2 : Int32)).toUInt32 &&& Int32.toUInt32 31)).toInt32) &&& 858993459)).toUInt32 >>> (((4 : Int32)).toUInt32 &&& Int32.toUInt32 31)).toInt32)) &&& 252645135) + (((((((a0 - (((a0.toUInt32 >>> (((1 : Int32)).toUInt32 &&& Int32.toUInt32 31)).toInt32) &&& 1431655765)) &&& 858993459) + ((((a0 - (((a0.toUInt32 >>> (((1 : Int32)).toUInt32 &&& Int32.toUInt32 31)).toInt32) &&& 1431655765)).toUInt32 >>> (((2 : Int32)).toUInt32 &&& Int32.toUInt32 31)).toInt32) &&& 858993459)) + (((((a0 - (((a0.toUInt32 >>> (((1 : Int32)).toUInt32 &&& Int32.toUInt32 31)).toInt32) &&& 1431655765)) &&& 858993459) + ((((a0 - (((a0.toUInt32 >>> (((1 : Int32)).toUInt32 &&& Int32.toUInt32 31)).toInt32) &&& 1431655765)).toUInt32 >>> (((2 : Int32)).toUInt32 &&& Int32.toUInt32 31)).toInt32) &&& 858993459)).toUInt32 >>> (((4 : Int32)).toUInt32 &&& Int32.toUInt32 31)).toInt32)) &&& 252645135).toUInt32 >>> (((8 : Int32)).toUInt32 &&& Int32.toUInt32 31)).toInt32)) + ((((((((a0 - (((a0.toUInt32 >>> (((1 : Int32)).toUInt32 &&& Int32.toUInt32 31)).toInt32) &&& 1431655765)) &&& 858993459) + ((((a0 - (((a0.toUInt32 >>> (((1 : Int32)).toUInt32 &&& Int32.toUInt32 31)).toInt32) &&& 1431655765)).toUInt32 >>> (((2 : Int32)).toUInt32 &&& Int32.toUInt32 31)).toInt32) &&& 858993459)) + (((((a0 - (((a0.toUInt32 >>> (((1 : Int32)).toUInt32 &&& Int32.toUInt32 31)).toInt32) &&& 1431655765)) &&& 858993459) + ((((a0 - (((a0.toUInt32 >>> (((1 : Int32)).toUInt32 &&& Int32.toUInt32 31)).toInt32) &&& 1431655765)).toUInt32 >>> (((2 : Int32)).toUInt32 &&& Int32.toUInt32 31)).toInt32) &&& 858993459)).toUInt32 >>> (((4 : Int32)).toUInt32 &&& Int32.toUInt32 31)).toInt32)) &&& 252645135) + (((((((a0 - (((a0.toUInt32 >>> (((1 : Int32)).toUInt32 &&& Int32.toUInt32 31)).toInt32) &&& 1431655765)) &&& 858993459) + ((((a0 - (((a0.toUInt32 >>> (((1 : Int32)).toUInt32 &&& Int32.toUInt32 31)).toInt32) &&& 1431655765)).toUInt32 >>> (((2 : Int32)).toUInt32 &&& Int32.toUInt32 31)).toInt32) &&& 858993459)) + (((((a0 - (((a0.toUInt32 >>> (((1 : Int32)).toUInt32 &&& Int32.toUInt32 31)).toInt32) &&& 1431655765)) &&& 858993459) + ((((a0 - (((a0.toUInt32 >>> (((1 : Int32)).toUInt32 &&& Int32.toUInt32 31)).toInt32) &&& 1431655765)).toUInt32 >>> (((2 : Int32)).toUInt32 &&& Int32.toUInt32 31)).toInt32) &&& 858993459)).toUInt32 >>> (((4 : Int32)).toUInt32 &&& Int32.toUInt32 31)).toInt32)) &&& 252645135).toUInt32 >>> (((8 : Int32)).toUInt32 &&& Int32.toUInt32 31)).toInt32)).toUInt32 >>> (((16 : Int32)).toUInt32 &&& Int32.toUInt32 31)).toInt32)) &&& 63)
set_option maxHeartbeats 4000000 in
set_option maxRecDepth 100000 in
theorem c_J6_bitCount_0f7a4 (l : Launch) (E : qV) {g : qS} {a0 : Int32} {res : Int32} (hf : f_J6_bitCount_0f7a4 g a0 = some res) : q_MR l yJ6_bitCount_0f7a4 cJ6_bitCount_0f7a4 1 (some .int) 0 0 E [.int a0] g (some (.int res)) := by
  unfold f_J6_bitCount_0f7a4 at hf
  refine q_ofR (by decide) rfl ?_
  intro p e s m args below meth c ls C hw hl
  have hj : q_J E s g s.heap [] := ⟨hw, va_S.rf⟩
  have hx := C.1
  have hb := C.2.1
  have C : q_C E p s m args meth c cJ6_bitCount_0f7a4 RJ6 1 (some .int) := C
  have hl : lv_has ls 1 [(0, .int a0)] := hl
  refine lv_iload_n hx hb dJ6_bitCount_0f7a4_0 rfl (lv_at hl 0 rfl) ?_
  refine lv_iload_n hx hb dJ6_bitCount_0f7a4_1 rfl (lv_at hl 0 rfl) ?_
  refine lv_iconst (v := 1) hx hb dJ6_bitCount_0f7a4_2 qi_1 ?_
  refine lv_iushr hx hb dJ6_bitCount_0f7a4_3 rfl ?_
  refine lv_ldcw (v := 1431655765) hx hb C.2.2.2.1 (C.2.2.2.2.1 _ kc_J6_265) dJ6_bitCount_0f7a4_4 ?_
  refine lv_iand hx hb dJ6_bitCount_0f7a4_7 ?_
  refine lv_isub hx hb dJ6_bitCount_0f7a4_8 ?_
  refine lv_istore_n (lv' := [(0, .int (a0 - (((a0.toUInt32 >>> (((1 : Int32)).toUInt32 &&& Int32.toUInt32 31)).toInt32) &&& 1431655765)))]) hx hb dJ6_bitCount_0f7a4_9 rfl hl (by decide) rfl (fun ls hl => ?_)
  refine lv_iload_n hx hb dJ6_bitCount_0f7a4_10 rfl (lv_at hl 0 rfl) ?_
  refine lv_ldcw (v := 858993459) hx hb C.2.2.2.1 (C.2.2.2.2.1 _ kc_J6_266) dJ6_bitCount_0f7a4_11 ?_
  refine lv_iand hx hb dJ6_bitCount_0f7a4_14 ?_
  refine lv_iload_n hx hb dJ6_bitCount_0f7a4_15 rfl (lv_at hl 0 rfl) ?_
  refine lv_iconst (v := 2) hx hb dJ6_bitCount_0f7a4_16 qi_2 ?_
  refine lv_iushr hx hb dJ6_bitCount_0f7a4_17 rfl ?_
  refine lv_ldcw (v := 858993459) hx hb C.2.2.2.1 (C.2.2.2.2.1 _ kc_J6_266) dJ6_bitCount_0f7a4_18 ?_
  refine lv_iand hx hb dJ6_bitCount_0f7a4_21 ?_
  refine lv_iadd hx hb dJ6_bitCount_0f7a4_22 ?_
  refine lv_istore_n (lv' := [(0, .int (((a0 - (((a0.toUInt32 >>> (((1 : Int32)).toUInt32 &&& Int32.toUInt32 31)).toInt32) &&& 1431655765)) &&& 858993459) + ((((a0 - (((a0.toUInt32 >>> (((1 : Int32)).toUInt32 &&& Int32.toUInt32 31)).toInt32) &&& 1431655765)).toUInt32 >>> (((2 : Int32)).toUInt32 &&& Int32.toUInt32 31)).toInt32) &&& 858993459)))]) hx hb dJ6_bitCount_0f7a4_23 rfl hl (by decide) rfl (fun ls hl => ?_)
  refine lv_iload_n hx hb dJ6_bitCount_0f7a4_24 rfl (lv_at hl 0 rfl) ?_
  refine lv_iload_n hx hb dJ6_bitCount_0f7a4_25 rfl (lv_at hl 0 rfl) ?_
  refine lv_iconst (v := 4) hx hb dJ6_bitCount_0f7a4_26 qi_4 ?_
  refine lv_iushr hx hb dJ6_bitCount_0f7a4_27 rfl ?_
  refine lv_iadd hx hb dJ6_bitCount_0f7a4_28 ?_
  refine lv_ldcw (v := 252645135) hx hb C.2.2.2.1 (C.2.2.2.2.1 _ kc_J6_267) dJ6_bitCount_0f7a4_29 ?_
  refine lv_iand hx hb dJ6_bitCount_0f7a4_32 ?_
  refine lv_istore_n (lv' := [(0, .int (((((a0 - (((a0.toUInt32 >>> (((1 : Int32)).toUInt32 &&& Int32.toUInt32 31)).toInt32) &&& 1431655765)) &&& 858993459) + ((((a0 - (((a0.toUInt32 >>> (((1 : Int32)).toUInt32 &&& Int32.toUInt32 31)).toInt32) &&& 1431655765)).toUInt32 >>> (((2 : Int32)).toUInt32 &&& Int32.toUInt32 31)).toInt32) &&& 858993459)) + (((((a0 - (((a0.toUInt32 >>> (((1 : Int32)).toUInt32 &&& Int32.toUInt32 31)).toInt32) &&& 1431655765)) &&& 858993459) + ((((a0 - (((a0.toUInt32 >>> (((1 : Int32)).toUInt32 &&& Int32.toUInt32 31)).toInt32) &&& 1431655765)).toUInt32 >>> (((2 : Int32)).toUInt32 &&& Int32.toUInt32 31)).toInt32) &&& 858993459)).toUInt32 >>> (((4 : Int32)).toUInt32 &&& Int32.toUInt32 31)).toInt32)) &&& 252645135))]) hx hb dJ6_bitCount_0f7a4_33 rfl hl (by decide) rfl (fun ls hl => ?_)
  refine lv_iload_n hx hb dJ6_bitCount_0f7a4_34 rfl (lv_at hl 0 rfl) ?_
  refine lv_iload_n hx hb dJ6_bitCount_0f7a4_35 rfl (lv_at hl 0 rfl) ?_
  refine lv_bipush (v := 8) hx hb dJ6_bitCount_0f7a4_36 (by decide) ?_
  refine lv_iushr hx hb dJ6_bitCount_0f7a4_38 rfl ?_
  refine lv_iadd hx hb dJ6_bitCount_0f7a4_39 ?_
  refine lv_istore_n (lv' := [(0, .int ((((((a0 - (((a0.toUInt32 >>> (((1 : Int32)).toUInt32 &&& Int32.toUInt32 31)).toInt32) &&& 1431655765)) &&& 858993459) + ((((a0 - (((a0.toUInt32 >>> (((1 : Int32)).toUInt32 &&& Int32.toUInt32 31)).toInt32) &&& 1431655765)).toUInt32 >>> (((2 : Int32)).toUInt32 &&& Int32.toUInt32 31)).toInt32) &&& 858993459)) + (((((a0 - (((a0.toUInt32 >>> (((1 : Int32)).toUInt32 &&& Int32.toUInt32 31)).toInt32) &&& 1431655765)) &&& 858993459) + ((((a0 - (((a0.toUInt32 >>> (((1 : Int32)).toUInt32 &&& Int32.toUInt32 31)).toInt32) &&& 1431655765)).toUInt32 >>> (((2 : Int32)).toUInt32 &&& Int32.toUInt32 31)).toInt32) &&& 858993459)).toUInt32 >>> (((4 : Int32)).toUInt32 &&& Int32.toUInt32 31)).toInt32)) &&& 252645135) + (((((((a0 - (((a0.toUInt32 >>> (((1 : Int32)).toUInt32 &&& Int32.toUInt32 31)).toInt32) &&& 1431655765)) &&& 858993459) + ((((a0 - (((a0.toUInt32 >>> (((1 : Int32)).toUInt32 &&& Int32.toUInt32 31)).toInt32) &&& 1431655765)).toUInt32 >>> (((2 : Int32)).toUInt32 &&& Int32.toUInt32 31)).toInt32) &&& 858993459)) + (((((a0 - (((a0.toUInt32 >>> (((1 : Int32)).toUInt32 &&& Int32.toUInt32 31)).toInt32) &&& 1431655765)) &&& 858993459) + ((((a0 - (((a0.toUInt32 >>> (((1 : Int32)).toUInt32 &&& Int32.toUInt32 31)).toInt32) &&& 1431655765)).toUInt32 >>> (((2 : Int32)).toUInt32 &&& Int32.toUInt32 31)).toInt32) &&& 858993459)).toUInt32 >>> (((4 : Int32)).toUInt32 &&& Int32.toUInt32 31)).toInt32)) &&& 252645135).toUInt32 >>> (((8 : Int32)).toUInt32 &&& Int32.toUInt32 31)).toInt32)))]) hx hb dJ6_bitCount_0f7a4_40 rfl hl (by decide) rfl (fun ls hl => ?_)
  refine lv_iload_n hx hb dJ6_bitCount_0f7a4_41 rfl (lv_at hl 0 rfl) ?_
  refine lv_iload_n hx hb dJ6_bitCount_0f7a4_42 rfl (lv_at hl 0 rfl) ?_
  refine lv_bipush (v := 16) hx hb dJ6_bitCount_0f7a4_43 (by decide) ?_
  refine lv_iushr hx hb dJ6_bitCount_0f7a4_45 rfl ?_
  refine lv_iadd hx hb dJ6_bitCount_0f7a4_46 ?_
  refine lv_istore_n (lv' := [(0, .int (((((((a0 - (((a0.toUInt32 >>> (((1 : Int32)).toUInt32 &&& Int32.toUInt32 31)).toInt32) &&& 1431655765)) &&& 858993459) + ((((a0 - (((a0.toUInt32 >>> (((1 : Int32)).toUInt32 &&& Int32.toUInt32 31)).toInt32) &&& 1431655765)).toUInt32 >>> (((2 : Int32)).toUInt32 &&& Int32.toUInt32 31)).toInt32) &&& 858993459)) + (((((a0 - (((a0.toUInt32 >>> (((1 : Int32)).toUInt32 &&& Int32.toUInt32 31)).toInt32) &&& 1431655765)) &&& 858993459) + ((((a0 - (((a0.toUInt32 >>> (((1 : Int32)).toUInt32 &&& Int32.toUInt32 31)).toInt32) &&& 1431655765)).toUInt32 >>> (((2 : Int32)).toUInt32 &&& Int32.toUInt32 31)).toInt32) &&& 858993459)).toUInt32 >>> (((4 : Int32)).toUInt32 &&& Int32.toUInt32 31)).toInt32)) &&& 252645135) + (((((((a0 - (((a0.toUInt32 >>> (((1 : Int32)).toUInt32 &&& Int32.toUInt32 31)).toInt32) &&& 1431655765)) &&& 858993459) + ((((a0 - (((a0.toUInt32 >>> (((1 : Int32)).toUInt32 &&& Int32.toUInt32 31)).toInt32) &&& 1431655765)).toUInt32 >>> (((2 : Int32)).toUInt32 &&& Int32.toUInt32 31)).toInt32) &&& 858993459)) + (((((a0 - (((a0.toUInt32 >>> (((1 : Int32)).toUInt32 &&& Int32.toUInt32 31)).toInt32) &&& 1431655765)) &&& 858993459) + ((((a0 - (((a0.toUInt32 >>> (((1 : Int32)).toUInt32 &&& Int32.toUInt32 31)).toInt32) &&& 1431655765)).toUInt32 >>> (((2 : Int32)).toUInt32 &&& Int32.toUInt32 31)).toInt32) &&& 858993459)).toUInt32 >>> (((4 : Int32)).toUInt32 &&& Int32.toUInt32 31)).toInt32)) &&& 252645135).toUInt32 >>> (((8 : Int32)).toUInt32 &&& Int32.toUInt32 31)).toInt32)) + ((((((((a0 - (((a0.toUInt32 >>> (((1 : Int32)).toUInt32 &&& Int32.toUInt32 31)).toInt32) &&& 1431655765)) &&& 858993459) + ((((a0 - (((a0.toUInt32 >>> (((1 : Int32)).toUInt32 &&& Int32.toUInt32 31)).toInt32) &&& 1431655765)).toUInt32 >>> (((2 : Int32)).toUInt32 &&& Int32.toUInt32 31)).toInt32) &&& 858993459)) + (((((a0 - (((a0.toUInt32 >>> (((1 : Int32)).toUInt32 &&& Int32.toUInt32 31)).toInt32) &&& 1431655765)) &&& 858993459) + ((((a0 - (((a0.toUInt32 >>> (((1 : Int32)).toUInt32 &&& Int32.toUInt32 31)).toInt32) &&& 1431655765)).toUInt32 >>> (((2 : Int32)).toUInt32 &&& Int32.toUInt32 31)).toInt32) &&& 858993459)).toUInt32 >>> (((4 : Int32)).toUInt32 &&& Int32.toUInt32 31)).toInt32)) &&& 252645135) + (((((((a0 - (((a0.toUInt32 >>> (((1 : Int32)).toUInt32 &&& Int32.toUInt32 31)).toInt32) &&& 1431655765)) &&& 858993459) + ((((a0 - (((a0.toUInt32 >>> (((1 : Int32)).toUInt32 &&& Int32.toUInt32 31)).toInt32) &&& 1431655765)).toUInt32 >>> (((2 : Int32)).toUInt32 &&& Int32.toUInt32 31)).toInt32) &&& 858993459)) + (((((a0 - (((a0.toUInt32 >>> (((1 : Int32)).toUInt32 &&& Int32.toUInt32 31)).toInt32) &&& 1431655765)) &&& 858993459) + ((((a0 - (((a0.toUInt32 >>> (((1 : Int32)).toUInt32 &&& Int32.toUInt32 31)).toInt32) &&& 1431655765)).toUInt32 >>> (((2 : Int32)).toUInt32 &&& Int32.toUInt32 31)).toInt32) &&& 858993459)).toUInt32 >>> (((4 : Int32)).toUInt32 &&& Int32.toUInt32 31)).toInt32)) &&& 252645135).toUInt32 >>> (((8 : Int32)).toUInt32 &&& Int32.toUInt32 31)).toInt32)).toUInt32 >>> (((16 : Int32)).toUInt32 &&& Int32.toUInt32 31)).toInt32)))]) hx hb dJ6_bitCount_0f7a4_47 rfl hl (by decide) rfl (fun ls hl => ?_)
  refine lv_iload_n hx hb dJ6_bitCount_0f7a4_48 rfl (lv_at hl 0 rfl) ?_
  refine lv_bipush (v := 63) hx hb dJ6_bitCount_0f7a4_49 (by decide) ?_
  refine lv_iand hx hb dJ6_bitCount_0f7a4_51 ?_
  exact q_iretR C dJ6_bitCount_0f7a4_52 hf
def L_X8_fill_2  : Nat → Nat → Int32 → Int32 → qS → Option qS
  | 0, _, _, _, _ => none
  | n + 1, x0, x1, x2, g => (g_R g x0 7 2).bind fun v1 => (a_n g v1).bind fun v2 => if v2 ≤ x2 then (some g) else ((g_R g x0 7 2).bind fun v3 => (s_I g v3 x2 x1).bind fun g4 => L_X8_fill_2 n x0 x1 (x2 + 1) g4)
set_option maxHeartbeats 4000000 in
set_option maxRecDepth 100000 in
theorem w_L_X8_fill_2 {l : Launch} {E : qV} {p : Program} {e : Env} {s : State} {m : MethodId} {args : Array Value} {below : List Frame} {meth : Method} {c : Code}  {res : qS} (C : q_C E p s m args meth c cX8_fill RX8 3 none)  : ∀ {n : Nat} {x0 : Nat} {x1 : Int32} {x2 : Int32} {g : qS} {H : Heap} {locs : List Loc} {ls : Array Slot}, q_J E s g H locs → lv_has ls 3 [(0, .ref (q_ad E x0)), (1, .int x1), (2, .int x2)] → L_X8_fill_2 n x0 x1 x2 g = some res → W p l e (q_rm 0 0) s m args below meth c H locs 0 0 (q_ZW E below none res args s) (F0 m 2 ls []) := by
  have hx := C.1
  have hb := C.2.1
  intro n
  induction n with
  | zero =>
    intro x0 x1 x2 g H locs ls hj hl hf
    cases hf
  | succ n ih_ =>
    intro x0 x1 x2 g H locs ls hj hl hf
    have ih : ∀ (x0 : Nat) (x1 : Int32) (x2 : Int32) (g : qS) (H : Heap) (locs : List Loc) (ls : Array Slot), q_J E s g H locs → lv_has ls 3 [(0, .ref (q_ad E x0)), (1, .int x1), (2, .int x2)] → L_X8_fill_2 n x0 x1 x2 g = some res → W p l e (q_rm 0 0) s m args below meth c H locs 0 0 (q_ZW E below none res args s) (F0 m 2 ls []) := fun x0 x1 x2 g H locs ls hj hl hf => ih_ hj hl hf
    unfold L_X8_fill_2 at hf
    refine lv_iload_n hx hb dX8_fill_2 rfl (lv_at hl 2 rfl) ?_
    refine lv_aload_n hx hb dX8_fill_3 rfl (lv_at hl 0 rfl) ?_
    refine q_getR C hj lk_X8_25 dX8_fill_4 hf (fun v1 hf => ?_)
    refine q_alen C hj dX8_fill_7 hf (fun v2 hf => ?_)
    refine q_icge C (tgt := 24) dX8_fill_8 (by decide) hf (fun hf => ?_) (fun hf => ?_)
    · exact q_vretW C hj dX8_fill_24 hf
    · refine lv_aload_n hx hb dX8_fill_11 rfl (lv_at hl 0 rfl) ?_
      refine q_getR C hj lk_X8_25 dX8_fill_12 hf (fun v3 hf => ?_)
      refine lv_iload_n hx hb dX8_fill_15 rfl (lv_at hl 2 rfl) ?_
      refine lv_iload_n hx hb dX8_fill_16 rfl (lv_at hl 1 rfl) ?_
      refine q_astI C hj dX8_fill_17 hf (fun g4 H locs hj hf => ?_)
      refine lv_iinc (v := x2 + 1) (lv' := [(2, .int (x2 + 1)), (0, .ref (q_ad E x0)), (1, .int x1)]) hx hb dX8_fill_18 hl (k := 2) rfl (by rw [qi_1]) (by decide) rfl (fun ls hl => ?_)
      refine lv_goto (tgt := 2) hx hb dX8_fill_21 (by decide) ?_
      exact ih _ _ _ _ _ _ ls hj (lv_sub hl [1, 2, 0] rfl) hf
def f_X8_fill (g : qS) (a0 : Nat) (a1 : Int32) : Option qS := (g_C g a0 7).bind fun _ => L_X8_fill_2 1000000000 a0 a1 0 g
set_option maxHeartbeats 4000000 in
set_option maxRecDepth 100000 in
theorem c_X8_fill (l : Launch) (E : qV) {g : qS} {a0 : Nat} {a1 : Int32} {res : qS} (hf : f_X8_fill g a0 a1 = some res) : q_MW l yX8_fill cX8_fill 3 none 0 0 E [.ref (q_ad E a0), .int a1] g none res ∧ ∃ fs, g a0 = some (.inr (7, fs)) := by
  unfold f_X8_fill at hf
  obtain ⟨u9, hu9, hf⟩ := q_ob hf
  refine ⟨q_ofW (by decide) rfl ?_, g_C_sp hu9⟩
  intro p e s m args below meth c ls C hj hl
  have hx := C.1
  have hb := C.2.1
  have C : q_C E p s m args meth c cX8_fill RX8 3 none := C
  have hl : lv_has ls 3 [(0, .ref (q_ad E a0)), (1, .int a1)] := hl
  refine lv_iconst (v := 0) hx hb dX8_fill_0 qi_0 ?_
  refine lv_istore_n (lv' := [(2, .int 0), (0, .ref (q_ad E a0)), (1, .int a1)]) hx hb dX8_fill_1 rfl hl (by decide) rfl (fun ls hl => ?_)
  refine w_L_X8_fill_2 C  hj (lv_sub hl [1, 2, 0] rfl) hf
def f_X8_get (g : qS) (a0 : Nat) (a1 : Int32) (a2 : Int32) : Option Int32 := (g_C g a0 7).bind fun _ => if a1 < 0 then (some 0) else ((g_I g a0 7 0).bind fun v1 => if v1 ≤ a1 then (some 0) else (if a2 < 0 then (some 0) else ((g_I g a0 7 1).bind fun v2 => if a2 < v2 then ((g_I g a0 7 1).bind fun v3 => (g_R g a0 7 2).bind fun v4 => (a_n g v4).bind fun v5 => if v5 ≤ ((a1 * v3) + a2) then (some 0) else ((g_R g a0 7 2).bind fun v6 => (a_I g v6 ((a1 * v3) + a2)).bind fun v7 => some v7)) else (some 0))))
set_option maxHeartbeats 4000000 in
set_option maxRecDepth 100000 in
theorem c_X8_get (l : Launch) (E : qV) {g : qS} {a0 : Nat} {a1 : Int32} {a2 : Int32} {res : Int32} (hf : f_X8_get g a0 a1 a2 = some res) : q_MR l yX8_get cX8_get 4 (some .int) 0 0 E [.ref (q_ad E a0), .int a1, .int a2] g (some (.int res)) ∧ ∃ fs, g a0 = some (.inr (7, fs)) := by
  unfold f_X8_get at hf
  obtain ⟨u9, hu9, hf⟩ := q_ob hf
  refine ⟨q_ofR (by decide) rfl ?_, g_C_sp hu9⟩
  intro p e s m args below meth c ls C hw hl
  have hj : q_J E s g s.heap [] := ⟨hw, va_S.rf⟩
  have hx := C.1
  have hb := C.2.1
  have C : q_C E p s m args meth c cX8_get RX8 4 (some .int) := C
  have hl : lv_has ls 4 [(0, .ref (q_ad E a0)), (1, .int a1), (2, .int a2)] := hl
  refine lv_iload_n hx hb dX8_get_0 rfl (lv_at hl 1 rfl) ?_
  refine q_iflt C (tgt := 24) dX8_get_1 (by decide) hf (fun hf => ?_) (fun hf => ?_)
  · refine lv_iconst (v := 0) hx hb dX8_get_24 qi_0 ?_
    exact q_iretR C dX8_get_25 hf
  · refine lv_iload_n hx hb dX8_get_4 rfl (lv_at hl 1 rfl) ?_
    refine lv_aload_n hx hb dX8_get_5 rfl (lv_at hl 0 rfl) ?_
    refine q_getI C hj lk_X8_18 dX8_get_6 hf (fun v1 hf => ?_)
    refine q_icge C (tgt := 24) dX8_get_9 (by decide) hf (fun hf => ?_) (fun hf => ?_)
    · refine lv_iconst (v := 0) hx hb dX8_get_24 qi_0 ?_
      exact q_iretR C dX8_get_25 hf
    · refine lv_iload_n hx hb dX8_get_12 rfl (lv_at hl 2 rfl) ?_
      refine q_iflt C (tgt := 24) dX8_get_13 (by decide) hf (fun hf => ?_) (fun hf => ?_)
      · refine lv_iconst (v := 0) hx hb dX8_get_24 qi_0 ?_
        exact q_iretR C dX8_get_25 hf
      · refine lv_iload_n hx hb dX8_get_16 rfl (lv_at hl 2 rfl) ?_
        refine lv_aload_n hx hb dX8_get_17 rfl (lv_at hl 0 rfl) ?_
        refine q_getI C hj lk_X8_22 dX8_get_18 hf (fun v2 hf => ?_)
        refine q_iclt C (tgt := 26) dX8_get_21 (by decide) hf (fun hf => ?_) (fun hf => ?_)
        · refine lv_iload_n hx hb dX8_get_26 rfl (lv_at hl 1 rfl) ?_
          refine lv_aload_n hx hb dX8_get_27 rfl (lv_at hl 0 rfl) ?_
          refine q_getI C hj lk_X8_22 dX8_get_28 hf (fun v3 hf => ?_)
          refine lv_imul hx hb dX8_get_31 ?_
          refine lv_iload_n hx hb dX8_get_32 rfl (lv_at hl 2 rfl) ?_
          refine lv_iadd hx hb dX8_get_33 ?_
          refine lv_istore_n (lv' := [(3, .int ((a1 * v3) + a2)), (0, .ref (q_ad E a0)), (1, .int a1), (2, .int a2)]) hx hb dX8_get_34 rfl hl (by decide) rfl (fun ls hl => ?_)
          refine lv_iload_n hx hb dX8_get_35 rfl (lv_at hl 0 rfl) ?_
          refine lv_aload_n hx hb dX8_get_36 rfl (lv_at hl 1 rfl) ?_
          refine q_getR C hj lk_X8_25 dX8_get_37 hf (fun v4 hf => ?_)
          refine q_alen C hj dX8_get_40 hf (fun v5 hf => ?_)
          refine q_icge C (tgt := 53) dX8_get_41 (by decide) hf (fun hf => ?_) (fun hf => ?_)
          · refine lv_iconst (v := 0) hx hb dX8_get_53 qi_0 ?_
            exact q_iretR C dX8_get_54 hf
          · refine lv_aload_n hx hb dX8_get_44 rfl (lv_at hl 1 rfl) ?_
            refine q_getR C hj lk_X8_25 dX8_get_45 hf (fun v6 hf => ?_)
            refine lv_iload_n hx hb dX8_get_48 rfl (lv_at hl 0 rfl) ?_
            refine q_aldI C hj dX8_get_49 hf (fun v7 hf => ?_)
            refine lv_goto (tgt := 54) hx hb dX8_get_50 (by decide) ?_
            exact q_iretR C dX8_get_54 hf
        · refine lv_iconst (v := 0) hx hb dX8_get_24 qi_0 ?_
          exact q_iretR C dX8_get_25 hf
def f_X8_set (g : qS) (a0 : Nat) (a1 : Int32) (a2 : Int32) (a3 : Int32) : Option qS := (g_C g a0 7).bind fun _ => if a1 < 0 then (some g) else ((g_I g a0 7 0).bind fun v1 => if v1 ≤ a1 then (some g) else (if a2 < 0 then (some g) else ((g_I g a0 7 1).bind fun v2 => if a2 < v2 then ((g_I g a0 7 1).bind fun v3 => (g_R g a0 7 2).bind fun v4 => (a_n g v4).bind fun v5 => if v5 ≤ ((a1 * v3) + a2) then (some g) else ((g_R g a0 7 2).bind fun v6 => (s_I g v6 ((a1 * v3) + a2) a3).bind fun g7 => some g7)) else (some g))))
set_option maxHeartbeats 4000000 in
set_option maxRecDepth 100000 in
theorem c_X8_set (l : Launch) (E : qV) {g : qS} {a0 : Nat} {a1 : Int32} {a2 : Int32} {a3 : Int32} {res : qS} (hf : f_X8_set g a0 a1 a2 a3 = some res) : q_MW l yX8_set cX8_set 5 none 0 0 E [.ref (q_ad E a0), .int a1, .int a2, .int a3] g none res ∧ ∃ fs, g a0 = some (.inr (7, fs)) := by
  unfold f_X8_set at hf
  obtain ⟨u9, hu9, hf⟩ := q_ob hf
  refine ⟨q_ofW (by decide) rfl ?_, g_C_sp hu9⟩
  intro p e s m args below meth c ls C hj hl
  have hx := C.1
  have hb := C.2.1
  have C : q_C E p s m args meth c cX8_set RX8 5 none := C
  have hl : lv_has ls 5 [(0, .ref (q_ad E a0)), (1, .int a1), (2, .int a2), (3, .int a3)] := hl
  refine lv_iload_n hx hb dX8_set_0 rfl (lv_at hl 1 rfl) ?_
  refine q_iflt C (tgt := 24) dX8_set_1 (by decide) hf (fun hf => ?_) (fun hf => ?_)
  · exact q_vretW C hj dX8_set_24 hf
  · refine lv_iload_n hx hb dX8_set_4 rfl (lv_at hl 1 rfl) ?_
    refine lv_aload_n hx hb dX8_set_5 rfl (lv_at hl 0 rfl) ?_
    refine q_getI C hj lk_X8_18 dX8_set_6 hf (fun v1 hf => ?_)
    refine q_icge C (tgt := 24) dX8_set_9 (by decide) hf (fun hf => ?_) (fun hf => ?_)
    · exact q_vretW C hj dX8_set_24 hf
    · refine lv_iload_n hx hb dX8_set_12 rfl (lv_at hl 2 rfl) ?_
      refine q_iflt C (tgt := 24) dX8_set_13 (by decide) hf (fun hf => ?_) (fun hf => ?_)
      · exact q_vretW C hj dX8_set_24 hf
      · refine lv_iload_n hx hb dX8_set_16 rfl (lv_at hl 2 rfl) ?_
        refine lv_aload_n hx hb dX8_set_17 rfl (lv_at hl 0 rfl) ?_
        refine q_getI C hj lk_X8_22 dX8_set_18 hf (fun v2 hf => ?_)
        refine q_iclt C (tgt := 25) dX8_set_21 (by decide) hf (fun hf => ?_) (fun hf => ?_)
        · refine lv_iload_n hx hb dX8_set_25 rfl (lv_at hl 1 rfl) ?_
          refine lv_aload_n hx hb dX8_set_26 rfl (lv_at hl 0 rfl) ?_
          refine q_getI C hj lk_X8_22 dX8_set_27 hf (fun v3 hf => ?_)
          refine lv_imul hx hb dX8_set_30 ?_
          refine lv_iload_n hx hb dX8_set_31 rfl (lv_at hl 2 rfl) ?_
          refine lv_iadd hx hb dX8_set_32 ?_
          refine lv_istore (lv' := [(4, .int ((a1 * v3) + a2)), (0, .ref (q_ad E a0)), (1, .int a1), (2, .int a2), (3, .int a3)]) hx hb dX8_set_33 hl (by decide) rfl (fun ls hl => ?_)
          refine lv_iload hx hb dX8_set_35 (lv_at hl 0 rfl) ?_
          refine lv_aload_n hx hb dX8_set_37 rfl (lv_at hl 1 rfl) ?_
          refine q_getR C hj lk_X8_25 dX8_set_38 hf (fun v4 hf => ?_)
          refine q_alen C hj dX8_set_41 hf (fun v5 hf => ?_)
          refine q_icge C (tgt := 53) dX8_set_42 (by decide) hf (fun hf => ?_) (fun hf => ?_)
          · exact q_vretW C hj dX8_set_53 hf
          · refine lv_aload_n hx hb dX8_set_45 rfl (lv_at hl 1 rfl) ?_
            refine q_getR C hj lk_X8_25 dX8_set_46 hf (fun v6 hf => ?_)
            refine lv_iload hx hb dX8_set_49 (lv_at hl 0 rfl) ?_
            refine lv_iload_n hx hb dX8_set_51 rfl (lv_at hl 4 rfl) ?_
            refine q_astI C hj dX8_set_52 hf (fun g7 H locs hj hf => ?_)
            exact q_vretW C hj dX8_set_53 hf
        · exact q_vretW C hj dX8_set_24 hf
def f_X8_add (g : qS) (a0 : Nat) (a1 : Int32) (a2 : Int32) (a3 : Int32) : Option qS := (g_C g a0 7).bind fun _ => (f_X8_get g a0 a1 a2).bind fun v1 => (f_X8_set g a0 a1 a2 (v1 + a3)).bind fun g2 => some g2
set_option maxHeartbeats 4000000 in
set_option maxRecDepth 100000 in
theorem c_X8_add (l : Launch) (E : qV) {g : qS} {a0 : Nat} {a1 : Int32} {a2 : Int32} {a3 : Int32} {res : qS} (hf : f_X8_add g a0 a1 a2 a3 = some res) : q_MW l yX8_add cX8_add 4 none 1 24 E [.ref (q_ad E a0), .int a1, .int a2, .int a3] g none res ∧ ∃ fs, g a0 = some (.inr (7, fs)) := by
  unfold f_X8_add at hf
  obtain ⟨u9, hu9, hf⟩ := q_ob hf
  refine ⟨q_ofW (by decide) rfl ?_, g_C_sp hu9⟩
  intro p e s m args below meth c ls C hj hl
  have hx := C.1
  have hb := C.2.1
  have C : q_C E p s m args meth c cX8_add RX8 4 none := C
  have hl : lv_has ls 4 [(0, .ref (q_ad E a0)), (1, .int a1), (2, .int a2), (3, .int a3)] := hl
  refine lv_aload_n hx hb dX8_add_0 rfl (lv_at hl 0 rfl) ?_
  refine lv_iload_n hx hb dX8_add_1 rfl (lv_at hl 1 rfl) ?_
  refine lv_iload_n hx hb dX8_add_2 rfl (lv_at hl 2 rfl) ?_
  refine lv_aload_n hx hb dX8_add_3 rfl (lv_at hl 0 rfl) ?_
  refine lv_iload_n hx hb dX8_add_4 rfl (lv_at hl 1 rfl) ?_
  refine lv_iload_n hx hb dX8_add_5 rfl (lv_at hl 2 rfl) ?_
  refine q_cVRI C hj cw_X8_29 (As := [.int a1, .int a2]) (rest := [.int a2, .int a1, .ref (q_ad E a0)]) hf (fun v9 h9 => c_X8_get l E h9) rfl hl rfl rfl rfl dX8_add_6 ⟨Nat.zero_le _, Nat.zero_le _⟩ (fun v1 hf => ?_)
  refine lv_iload_n hx hb dX8_add_9 rfl (lv_at hl 3 rfl) ?_
  refine lv_iadd hx hb dX8_add_10 ?_
  refine q_cVWV C hj cw_X8_32 (As := [.int a1, .int a2, .int (v1 + a3)]) (rest := []) hf (fun g9 h9 => c_X8_set l E h9) rfl hl rfl rfl rfl dX8_add_11 ⟨Nat.zero_le _, Nat.zero_le _⟩ (fun g2 H locs hj hf => ?_)
  exact q_vretW C hj dX8_add_14 hf
def L_X8_copyRow_3  : Nat → Nat → Int32 → Nat → Int32 → Int32 → qS → Option qS
  | 0, _, _, _, _, _, _ => none
  | n + 1, x0, x1, x2, x3, x4, g => (g_I g x0 7 1).bind fun v1 => if v1 ≤ x4 then (some g) else ((f_X8_get g x2 x3 x4).bind fun v2 => (f_X8_set g x0 x1 x4 v2).bind fun g3 => L_X8_copyRow_3 n x0 x1 x2 x3 (x4 + 1) g3)
set_option maxHeartbeats 4000000 in
set_option maxRecDepth 100000 in
theorem w_L_X8_copyRow_3 {l : Launch} {E : qV} {p : Program} {e : Env} {s : State} {m : MethodId} {args : Array Value} {below : List Frame} {meth : Method} {c : Code}  {res : qS} (C : q_C E p s m args meth c cX8_copyRow RX8 5 none)  : ∀ {n : Nat} {x0 : Nat} {x1 : Int32} {x2 : Nat} {x3 : Int32} {x4 : Int32} {g : qS} {H : Heap} {locs : List Loc} {ls : Array Slot}, q_J E s g H locs → lv_has ls 5 [(0, .ref (q_ad E x0)), (1, .int x1), (2, .ref (q_ad E x2)), (3, .int x3), (4, .int x4)] → L_X8_copyRow_3 n x0 x1 x2 x3 x4 g = some res → W p l e (q_rm 1 24) s m args below meth c H locs 0 0 (q_ZW E below none res args s) (F0 m 3 ls []) := by
  have hx := C.1
  have hb := C.2.1
  intro n
  induction n with
  | zero =>
    intro x0 x1 x2 x3 x4 g H locs ls hj hl hf
    cases hf
  | succ n ih_ =>
    intro x0 x1 x2 x3 x4 g H locs ls hj hl hf
    have ih : ∀ (x0 : Nat) (x1 : Int32) (x2 : Nat) (x3 : Int32) (x4 : Int32) (g : qS) (H : Heap) (locs : List Loc) (ls : Array Slot), q_J E s g H locs → lv_has ls 5 [(0, .ref (q_ad E x0)), (1, .int x1), (2, .ref (q_ad E x2)), (3, .int x3), (4, .int x4)] → L_X8_copyRow_3 n x0 x1 x2 x3 x4 g = some res → W p l e (q_rm 1 24) s m args below meth c H locs 0 0 (q_ZW E below none res args s) (F0 m 3 ls []) := fun x0 x1 x2 x3 x4 g H locs ls hj hl hf => ih_ hj hl hf
    unfold L_X8_copyRow_3 at hf
    refine lv_iload hx hb dX8_copyRow_3 (lv_at hl 4 rfl) ?_
    refine lv_aload_n hx hb dX8_copyRow_5 rfl (lv_at hl 0 rfl) ?_
    refine q_getI C hj lk_X8_22 dX8_copyRow_6 hf (fun v1 hf => ?_)
    refine q_icge C (tgt := 32) dX8_copyRow_9 (by decide) hf (fun hf => ?_) (fun hf => ?_)
    · exact q_vretW C hj dX8_copyRow_32 hf
    · refine lv_aload_n hx hb dX8_copyRow_12 rfl (lv_at hl 0 rfl) ?_
      refine lv_iload_n hx hb dX8_copyRow_13 rfl (lv_at hl 1 rfl) ?_
      refine lv_iload hx hb dX8_copyRow_14 (lv_at hl 4 rfl) ?_
      refine lv_aload_n hx hb dX8_copyRow_16 rfl (lv_at hl 2 rfl) ?_
      refine lv_iload_n hx hb dX8_copyRow_17 rfl (lv_at hl 3 rfl) ?_
      refine lv_iload hx hb dX8_copyRow_18 (lv_at hl 4 rfl) ?_
      refine q_cVRI C hj cw_X8_29 (As := [.int x3, .int x4]) (rest := [.int x4, .int x1, .ref (q_ad E x0)]) hf (fun v9 h9 => c_X8_get l E h9) rfl hl rfl rfl rfl dX8_copyRow_20 ⟨Nat.zero_le _, Nat.zero_le _⟩ (fun v2 hf => ?_)
      refine q_cVWV C hj cw_X8_32 (As := [.int x1, .int x4, .int v2]) (rest := []) hf (fun g9 h9 => c_X8_set l E h9) rfl hl rfl rfl rfl dX8_copyRow_23 ⟨Nat.zero_le _, Nat.zero_le _⟩ (fun g3 H locs hj hf => ?_)
      refine lv_iinc (v := x4 + 1) (lv' := [(4, .int (x4 + 1)), (0, .ref (q_ad E x0)), (1, .int x1), (2, .ref (q_ad E x2)), (3, .int x3)]) hx hb dX8_copyRow_26 hl (k := 4) rfl (by rw [qi_1]) (by decide) rfl (fun ls hl => ?_)
      refine lv_goto (tgt := 3) hx hb dX8_copyRow_29 (by decide) ?_
      exact ih _ _ _ _ _ _ _ _ ls hj (lv_sub hl [1, 2, 3, 4, 0] rfl) hf
def f_X8_copyRow (g : qS) (a0 : Nat) (a1 : Int32) (a2 : Nat) (a3 : Int32) : Option qS := (g_C g a0 7).bind fun _ => L_X8_copyRow_3 1000000000 a0 a1 a2 a3 0 g
set_option maxHeartbeats 4000000 in
set_option maxRecDepth 100000 in
theorem c_X8_copyRow (l : Launch) (E : qV) {g : qS} {a0 : Nat} {a1 : Int32} {a2 : Nat} {a3 : Int32} {res : qS} (hf : f_X8_copyRow g a0 a1 a2 a3 = some res) : q_MW l yX8_copyRow cX8_copyRow 5 none 1 24 E [.ref (q_ad E a0), .int a1, .ref (q_ad E a2), .int a3] g none res ∧ ∃ fs, g a0 = some (.inr (7, fs)) := by
  unfold f_X8_copyRow at hf
  obtain ⟨u9, hu9, hf⟩ := q_ob hf
  refine ⟨q_ofW (by decide) rfl ?_, g_C_sp hu9⟩
  intro p e s m args below meth c ls C hj hl
  have hx := C.1
  have hb := C.2.1
  have C : q_C E p s m args meth c cX8_copyRow RX8 5 none := C
  have hl : lv_has ls 5 [(0, .ref (q_ad E a0)), (1, .int a1), (2, .ref (q_ad E a2)), (3, .int a3)] := hl
  refine lv_iconst (v := 0) hx hb dX8_copyRow_0 qi_0 ?_
  refine lv_istore (lv' := [(4, .int 0), (0, .ref (q_ad E a0)), (1, .int a1), (2, .ref (q_ad E a2)), (3, .int a3)]) hx hb dX8_copyRow_1 hl (by decide) rfl (fun ls hl => ?_)
  refine w_L_X8_copyRow_3 C  hj (lv_sub hl [1, 2, 3, 4, 0] rfl) hf
