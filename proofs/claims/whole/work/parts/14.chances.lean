def L_X1_rank_15  (g : qS) : Nat → Nat → Int32 → Int32 → Int32 → Int32 → Option Int32
  | 0, _, _, _, _, _ => none
  | n + 1, x0, x1, x2, x3, x4 => (f_X3_count g x0 4).bind fun v1 => if v1 ≤ x4 then (some x2) else ((g_R g x0 2 2).bind fun v2 => (f_X8_get g v2 x4 1).bind fun v3 => if x3 < v3 then (L_X1_rank_15 g n x0 x1 (x2 + 1) x3 (x4 + 1)) else (if v3 = x3 then (if x1 ≤ x4 then (L_X1_rank_15 g n x0 x1 x2 x3 (x4 + 1)) else (L_X1_rank_15 g n x0 x1 (x2 + 1) x3 (x4 + 1))) else (L_X1_rank_15 g n x0 x1 x2 x3 (x4 + 1))))
set_option maxHeartbeats 4000000 in
set_option maxRecDepth 100000 in
theorem w_L_X1_rank_15 {l : Launch} {E : qV} {p : Program} {e : Env} {s : State} {m : MethodId} {args : Array Value} {below : List Frame} {meth : Method} {c : Code}  {g : qS} {res : Int32} (C : q_C E p s m args meth c cX1_rank RX1 6 (some .int))  : ∀ {n : Nat} {x0 : Nat} {x1 : Int32} {x2 : Int32} {x3 : Int32} {x4 : Int32} {ls : Array Slot}, q_J E s g s.heap [] → lv_has ls 6 [(0, .ref (q_ad E x0)), (1, .int x1), (2, .int x2), (3, .int x3), (4, .int x4)] → L_X1_rank_15 g n x0 x1 x2 x3 x4 = some res → W p l e (q_rm 2 44) s m args below meth c s.heap [] 0 0 (q_ZR below (some (.int res)) args s) (F0 m 15 ls []) := by
  have hx := C.1
  have hb := C.2.1
  intro n
  induction n with
  | zero =>
    intro x0 x1 x2 x3 x4 ls hj hl hf
    cases hf
  | succ n ih_ =>
    intro x0 x1 x2 x3 x4 ls hj hl hf
    have ih : ∀ (x0 : Nat) (x1 : Int32) (x2 : Int32) (x3 : Int32) (x4 : Int32) (ls : Array Slot), q_J E s g s.heap [] → lv_has ls 6 [(0, .ref (q_ad E x0)), (1, .int x1), (2, .int x2), (3, .int x3), (4, .int x4)] → L_X1_rank_15 g n x0 x1 x2 x3 x4 = some res → W p l e (q_rm 2 44) s m args below meth c s.heap [] 0 0 (q_ZR below (some (.int res)) args s) (F0 m 15 ls []) := fun x0 x1 x2 x3 x4 ls hj hl hf => ih_ hj hl hf
    unfold L_X1_rank_15 at hf
    refine lv_iload hx hb dX1_rank_15 (lv_at hl 4 rfl) ?_
    refine lv_aload_n hx hb dX1_rank_17 rfl (lv_at hl 0 rfl) ?_
    refine lv_iconst (v := 4) hx hb dX1_rank_18 qi_4 ?_
    refine q_cVRI C hj cw_X1_42 (As := [.int 4]) (rest := [.int x4]) hf (fun v9 h9 => c_X3_count l E h9) rfl hl rfl rfl rfl dX1_rank_19 ⟨Nat.zero_le _, Nat.zero_le _⟩ (fun v1 hf => ?_)
    refine q_icge C (tgt := 64) dX1_rank_22 (by decide) hf (fun hf => ?_) (fun hf => ?_)
    · refine lv_iload_n hx hb dX1_rank_64 rfl (lv_at hl 2 rfl) ?_
      exact q_iretR C dX1_rank_65 hf
    · refine lv_aload_n hx hb dX1_rank_25 rfl (lv_at hl 0 rfl) ?_
      refine q_getR C hj lk_X1_26 dX1_rank_26 hf (fun v2 hf => ?_)
      refine lv_iload hx hb dX1_rank_29 (lv_at hl 4 rfl) ?_
      refine lv_iconst (v := 1) hx hb dX1_rank_31 qi_1 ?_
      refine q_cVRI C hj cw_X1_32 (As := [.int x4, .int 1]) (rest := []) hf (fun v9 h9 => c_X8_get l E h9) rfl hl rfl rfl rfl dX1_rank_32 ⟨Nat.zero_le _, Nat.zero_le _⟩ (fun v3 hf => ?_)
      refine lv_istore (lv' := [(5, .int v3), (0, .ref (q_ad E x0)), (1, .int x1), (2, .int x2), (3, .int x3), (4, .int x4)]) hx hb dX1_rank_35 hl (by decide) rfl (fun ls hl => ?_)
      refine lv_iload hx hb dX1_rank_37 (lv_at hl 0 rfl) ?_
      refine lv_iload_n hx hb dX1_rank_39 rfl (lv_at hl 4 rfl) ?_
      refine q_icgt C (tgt := 55) dX1_rank_40 (by decide) hf (fun hf => ?_) (fun hf => ?_)
      · refine lv_iinc (v := x2 + 1) (lv' := [(2, .int (x2 + 1)), (5, .int v3), (0, .ref (q_ad E x0)), (1, .int x1), (3, .int x3), (4, .int x4)]) hx hb dX1_rank_55 hl (k := 3) rfl (by rw [qi_1]) (by decide) rfl (fun ls hl => ?_)
        refine lv_iinc (v := x4 + 1) (lv' := [(4, .int (x4 + 1)), (2, .int (x2 + 1)), (5, .int v3), (0, .ref (q_ad E x0)), (1, .int x1), (3, .int x3)]) hx hb dX1_rank_58 hl (k := 5) rfl (by rw [qi_1]) (by decide) rfl (fun ls hl => ?_)
        refine lv_goto (tgt := 15) hx hb dX1_rank_61 (by decide) ?_
        exact ih _ _ _ _ _  ls hj (lv_sub hl [3, 4, 1, 5, 0] rfl) hf
      · refine lv_iload hx hb dX1_rank_43 (lv_at hl 0 rfl) ?_
        refine lv_iload_n hx hb dX1_rank_45 rfl (lv_at hl 4 rfl) ?_
        refine q_icne C (tgt := 58) dX1_rank_46 (by decide) hf (fun hf => ?_) (fun hf => ?_)
        · refine lv_iinc (v := x4 + 1) (lv' := [(4, .int (x4 + 1)), (5, .int v3), (0, .ref (q_ad E x0)), (1, .int x1), (2, .int x2), (3, .int x3)]) hx hb dX1_rank_58 hl (k := 5) rfl (by rw [qi_1]) (by decide) rfl (fun ls hl => ?_)
          refine lv_goto (tgt := 15) hx hb dX1_rank_61 (by decide) ?_
          exact ih _ _ _ _ _  ls hj (lv_sub hl [2, 3, 4, 5, 0] rfl) hf
        · refine lv_iload hx hb dX1_rank_49 (lv_at hl 5 rfl) ?_
          refine lv_iload_n hx hb dX1_rank_51 rfl (lv_at hl 2 rfl) ?_
          refine q_icge C (tgt := 58) dX1_rank_52 (by decide) hf (fun hf => ?_) (fun hf => ?_)
          · refine lv_iinc (v := x4 + 1) (lv' := [(4, .int (x4 + 1)), (5, .int v3), (0, .ref (q_ad E x0)), (1, .int x1), (2, .int x2), (3, .int x3)]) hx hb dX1_rank_58 hl (k := 5) rfl (by rw [qi_1]) (by decide) rfl (fun ls hl => ?_)
            refine lv_goto (tgt := 15) hx hb dX1_rank_61 (by decide) ?_
            exact ih _ _ _ _ _  ls hj (lv_sub hl [2, 3, 4, 5, 0] rfl) hf
          · refine lv_iinc (v := x2 + 1) (lv' := [(2, .int (x2 + 1)), (5, .int v3), (0, .ref (q_ad E x0)), (1, .int x1), (3, .int x3), (4, .int x4)]) hx hb dX1_rank_55 hl (k := 3) rfl (by rw [qi_1]) (by decide) rfl (fun ls hl => ?_)
            refine lv_iinc (v := x4 + 1) (lv' := [(4, .int (x4 + 1)), (2, .int (x2 + 1)), (5, .int v3), (0, .ref (q_ad E x0)), (1, .int x1), (3, .int x3)]) hx hb dX1_rank_58 hl (k := 5) rfl (by rw [qi_1]) (by decide) rfl (fun ls hl => ?_)
            refine lv_goto (tgt := 15) hx hb dX1_rank_61 (by decide) ?_
            exact ih _ _ _ _ _  ls hj (lv_sub hl [3, 4, 1, 5, 0] rfl) hf
def f_X1_rank (g : qS) (a0 : Nat) (a1 : Int32) : Option Int32 := (g_R g a0 2 2).bind fun v1 => (f_X8_get g v1 a1 1).bind fun v2 => L_X1_rank_15 g 1000000000 a0 a1 0 v2 0
set_option maxHeartbeats 4000000 in
set_option maxRecDepth 100000 in
theorem c_X1_rank (l : Launch) (E : qV) {g : qS} {a0 : Nat} {a1 : Int32} {res : Int32} (hf : f_X1_rank g a0 a1 = some res) : q_MR l yX1_rank cX1_rank 6 (some .int) 2 44 E [.ref (q_ad E a0), .int a1] g (some (.int res)) := by
  unfold f_X1_rank at hf
  refine q_ofR (by decide) rfl ?_
  intro p e s m args below meth c ls C hw hl
  have hj : q_J E s g s.heap [] := ⟨hw, va_S.rf⟩
  have hx := C.1
  have hb := C.2.1
  have C : q_C E p s m args meth c cX1_rank RX1 6 (some .int) := C
  have hl : lv_has ls 6 [(0, .ref (q_ad E a0)), (1, .int a1)] := hl
  refine lv_iconst (v := 0) hx hb dX1_rank_0 qi_0 ?_
  refine lv_istore_n (lv' := [(2, .int 0), (0, .ref (q_ad E a0)), (1, .int a1)]) hx hb dX1_rank_1 rfl hl (by decide) rfl (fun ls hl => ?_)
  refine lv_aload_n hx hb dX1_rank_2 rfl (lv_at hl 1 rfl) ?_
  refine q_getR C hj lk_X1_26 dX1_rank_3 hf (fun v1 hf => ?_)
  refine lv_iload_n hx hb dX1_rank_6 rfl (lv_at hl 2 rfl) ?_
  refine lv_iconst (v := 1) hx hb dX1_rank_7 qi_1 ?_
  refine q_cVRI C hj cw_X1_32 (As := [.int a1, .int 1]) (rest := []) hf (fun v9 h9 => c_X8_get l E h9) rfl hl rfl rfl rfl dX1_rank_8 ⟨Nat.zero_le _, Nat.zero_le _⟩ (fun v2 hf => ?_)
  refine lv_istore_n (lv' := [(3, .int v2), (2, .int 0), (0, .ref (q_ad E a0)), (1, .int a1)]) hx hb dX1_rank_11 rfl hl (by decide) rfl (fun ls hl => ?_)
  refine lv_iconst (v := 0) hx hb dX1_rank_12 qi_0 ?_
  refine lv_istore (lv' := [(4, .int 0), (3, .int v2), (2, .int 0), (0, .ref (q_ad E a0)), (1, .int a1)]) hx hb dX1_rank_13 hl (by decide) rfl (fun ls hl => ?_)
  refine w_L_X1_rank_15 C  hj (lv_sub hl [3, 4, 2, 1, 0] rfl) hf
def L_X1_product_5  (g : qS) : Nat → Nat → Int32 → Int64 → Int32 → Option Int64
  | 0, _, _, _, _ => none
  | n + 1, x0, x1, x2, x4 => (f_X3_count g x0 4).bind fun v1 => if v1 ≤ x4 then (some x2) else ((f_X1_rank g x0 x4).bind fun v2 => if x1 ≤ v2 then (L_X1_product_5 g n x0 x1 x2 (x4 + 1)) else ((g_R g x0 2 2).bind fun v3 => (f_X8_get g v3 x4 1).bind fun v4 => L_X1_product_5 g n x0 x1 (x2 * v4.toInt64) (x4 + 1)))
set_option maxHeartbeats 4000000 in
set_option maxRecDepth 100000 in
theorem w_L_X1_product_5 {l : Launch} {E : qV} {p : Program} {e : Env} {s : State} {m : MethodId} {args : Array Value} {below : List Frame} {meth : Method} {c : Code}  {g : qS} {res : Int64} (C : q_C E p s m args meth c cX1_product RX1 5 (some .long))  : ∀ {n : Nat} {x0 : Nat} {x1 : Int32} {x2 : Int64} {x4 : Int32} {ls : Array Slot}, q_J E s g s.heap [] → lv_has ls 5 [(0, .ref (q_ad E x0)), (1, .int x1), (2, .long x2), (4, .int x4)] → L_X1_product_5 g n x0 x1 x2 x4 = some res → W p l e (q_rm 3 69) s m args below meth c s.heap [] 0 0 (q_ZR below (some (.long res)) args s) (F0 m 5 ls []) := by
  have hx := C.1
  have hb := C.2.1
  intro n
  induction n with
  | zero =>
    intro x0 x1 x2 x4 ls hj hl hf
    cases hf
  | succ n ih_ =>
    intro x0 x1 x2 x4 ls hj hl hf
    have ih : ∀ (x0 : Nat) (x1 : Int32) (x2 : Int64) (x4 : Int32) (ls : Array Slot), q_J E s g s.heap [] → lv_has ls 5 [(0, .ref (q_ad E x0)), (1, .int x1), (2, .long x2), (4, .int x4)] → L_X1_product_5 g n x0 x1 x2 x4 = some res → W p l e (q_rm 3 69) s m args below meth c s.heap [] 0 0 (q_ZR below (some (.long res)) args s) (F0 m 5 ls []) := fun x0 x1 x2 x4 ls hj hl hf => ih_ hj hl hf
    unfold L_X1_product_5 at hf
    refine lv_iload hx hb dX1_product_5 (lv_at hl 3 rfl) ?_
    refine lv_aload_n hx hb dX1_product_7 rfl (lv_at hl 0 rfl) ?_
    refine lv_iconst (v := 4) hx hb dX1_product_8 qi_4 ?_
    refine q_cVRI C hj cw_X1_42 (As := [.int 4]) (rest := [.int x4]) hf (fun v9 h9 => c_X3_count l E h9) rfl hl rfl rfl rfl dX1_product_9 ⟨Nat.zero_le _, Nat.zero_le _⟩ (fun v1 hf => ?_)
    refine q_icge C (tgt := 45) dX1_product_12 (by decide) hf (fun hf => ?_) (fun hf => ?_)
    · refine lv_lload_n hx hb dX1_product_45 rfl (lv_at hl 2 rfl) ?_
      exact q_lretR C dX1_product_46 hf
    · refine lv_aload_n hx hb dX1_product_15 rfl (lv_at hl 0 rfl) ?_
      refine lv_iload hx hb dX1_product_16 (lv_at hl 3 rfl) ?_
      refine q_cSRI C hj cw_X1_38 (As := [.ref (q_ad E x0), .int x4]) (rest := []) hf (fun v9 h9 => c_X1_rank l E h9) rfl hl rfl rfl rfl dX1_product_18 ⟨Nat.zero_le _, Nat.zero_le _⟩ (fun v2 hf => ?_)
      refine lv_iload_n hx hb dX1_product_21 rfl (lv_at hl 1 rfl) ?_
      refine q_icge C (tgt := 39) dX1_product_22 (by decide) hf (fun hf => ?_) (fun hf => ?_)
      · refine lv_iinc (v := x4 + 1) (lv' := [(4, .int (x4 + 1)), (0, .ref (q_ad E x0)), (1, .int x1), (2, .long x2)]) hx hb dX1_product_39 hl (k := 3) rfl (by rw [qi_1]) (by decide) rfl (fun ls hl => ?_)
        refine lv_goto (tgt := 5) hx hb dX1_product_42 (by decide) ?_
        exact ih _ _ _ _  ls hj (lv_sub hl [1, 2, 3, 0] rfl) hf
      · refine lv_lload_n hx hb dX1_product_25 rfl (lv_at hl 2 rfl) ?_
        refine lv_aload_n hx hb dX1_product_26 rfl (lv_at hl 0 rfl) ?_
        refine q_getR C hj lk_X1_26 dX1_product_27 hf (fun v3 hf => ?_)
        refine lv_iload hx hb dX1_product_30 (lv_at hl 3 rfl) ?_
        refine lv_iconst (v := 1) hx hb dX1_product_32 qi_1 ?_
        refine q_cVRI C hj cw_X1_32 (As := [.int x4, .int 1]) (rest := [.long x2]) hf (fun v9 h9 => c_X8_get l E h9) rfl hl rfl rfl rfl dX1_product_33 ⟨Nat.zero_le _, Nat.zero_le _⟩ (fun v4 hf => ?_)
        refine lv_i2l hx hb dX1_product_36 rfl ?_
        refine lv_lmul hx hb dX1_product_37 ?_
        refine lv_lstore_n (lv' := [(2, .long (x2 * v4.toInt64)), (0, .ref (q_ad E x0)), (1, .int x1), (4, .int x4)]) hx hb dX1_product_38 rfl hl (by decide) rfl (fun ls hl => ?_)
        refine lv_iinc (v := x4 + 1) (lv' := [(4, .int (x4 + 1)), (2, .long (x2 * v4.toInt64)), (0, .ref (q_ad E x0)), (1, .int x1)]) hx hb dX1_product_39 hl (k := 3) rfl (by rw [qi_1]) (by decide) rfl (fun ls hl => ?_)
        refine lv_goto (tgt := 5) hx hb dX1_product_42 (by decide) ?_
        exact ih _ _ _ _  ls hj (lv_sub hl [2, 3, 1, 0] rfl) hf
def f_X1_product (g : qS) (a0 : Nat) (a1 : Int32) : Option Int64 := L_X1_product_5 g 1000000000 a0 a1 1 0
set_option maxHeartbeats 4000000 in
set_option maxRecDepth 100000 in
theorem c_X1_product (l : Launch) (E : qV) {g : qS} {a0 : Nat} {a1 : Int32} {res : Int64} (hf : f_X1_product g a0 a1 = some res) : q_MR l yX1_product cX1_product 5 (some .long) 3 69 E [.ref (q_ad E a0), .int a1] g (some (.long res)) := by
  unfold f_X1_product at hf
  refine q_ofR (by decide) rfl ?_
  intro p e s m args below meth c ls C hw hl
  have hj : q_J E s g s.heap [] := ⟨hw, va_S.rf⟩
  have hx := C.1
  have hb := C.2.1
  have C : q_C E p s m args meth c cX1_product RX1 5 (some .long) := C
  have hl : lv_has ls 5 [(0, .ref (q_ad E a0)), (1, .int a1)] := hl
  refine lv_lconst (v := 1) hx hb dX1_product_0 (by decide) ?_
  refine lv_lstore_n (lv' := [(2, .long 1), (0, .ref (q_ad E a0)), (1, .int a1)]) hx hb dX1_product_1 rfl hl (by decide) rfl (fun ls hl => ?_)
  refine lv_iconst (v := 0) hx hb dX1_product_2 qi_0 ?_
  refine lv_istore (lv' := [(4, .int 0), (2, .long 1), (0, .ref (q_ad E a0)), (1, .int a1)]) hx hb dX1_product_3 hl (by decide) rfl (fun ls hl => ?_)
  refine w_L_X1_product_5 C  hj (lv_sub hl [2, 3, 1, 0] rfl) hf
def L_X1_sum_12  (g : qS) : Nat → Nat → Int32 → Int64 → Int64 → Int32 → Option Int64
  | 0, _, _, _, _, _ => none
  | n + 1, x0, x1, x2, x4, x6 => (f_X3_count g x0 4).bind fun v1 => if v1 ≤ x6 then (some x4) else ((g_R g x0 2 2).bind fun v2 => (f_X8_get g v2 x6 1).bind fun v3 => if v3 ≤ 0 then (L_X1_sum_12 g n x0 x1 x2 x4 (x6 + 1)) else ((f_X1_rank g x0 x6).bind fun v4 => if x1 ≤ v4 then (L_X1_sum_12 g n x0 x1 x2 x4 (x6 + 1)) else (if (v3.toInt64 : Int64) = 0 then none else (L_X1_sum_12 g n x0 x1 x2 (x4 + (x2 / v3.toInt64)) (x6 + 1)))))
set_option maxHeartbeats 4000000 in
set_option maxRecDepth 100000 in
theorem w_L_X1_sum_12 {l : Launch} {E : qV} {p : Program} {e : Env} {s : State} {m : MethodId} {args : Array Value} {below : List Frame} {meth : Method} {c : Code}  {g : qS} {res : Int64} (C : q_C E p s m args meth c cX1_sum RX1 8 (some .long))  : ∀ {n : Nat} {x0 : Nat} {x1 : Int32} {x2 : Int64} {x4 : Int64} {x6 : Int32} {ls : Array Slot}, q_J E s g s.heap [] → lv_has ls 8 [(0, .ref (q_ad E x0)), (1, .int x1), (2, .long x2), (4, .long x4), (6, .int x6)] → L_X1_sum_12 g n x0 x1 x2 x4 x6 = some res → W p l e (q_rm 4 93) s m args below meth c s.heap [] 0 0 (q_ZR below (some (.long res)) args s) (F0 m 12 ls []) := by
  have hx := C.1
  have hb := C.2.1
  intro n
  induction n with
  | zero =>
    intro x0 x1 x2 x4 x6 ls hj hl hf
    cases hf
  | succ n ih_ =>
    intro x0 x1 x2 x4 x6 ls hj hl hf
    have ih : ∀ (x0 : Nat) (x1 : Int32) (x2 : Int64) (x4 : Int64) (x6 : Int32) (ls : Array Slot), q_J E s g s.heap [] → lv_has ls 8 [(0, .ref (q_ad E x0)), (1, .int x1), (2, .long x2), (4, .long x4), (6, .int x6)] → L_X1_sum_12 g n x0 x1 x2 x4 x6 = some res → W p l e (q_rm 4 93) s m args below meth c s.heap [] 0 0 (q_ZR below (some (.long res)) args s) (F0 m 12 ls []) := fun x0 x1 x2 x4 x6 ls hj hl hf => ih_ hj hl hf
    unfold L_X1_sum_12 at hf
    refine lv_iload hx hb dX1_sum_12 (lv_at hl 4 rfl) ?_
    refine lv_aload_n hx hb dX1_sum_14 rfl (lv_at hl 0 rfl) ?_
    refine lv_iconst (v := 4) hx hb dX1_sum_15 qi_4 ?_
    refine q_cVRI C hj cw_X1_42 (As := [.int 4]) (rest := [.int x6]) hf (fun v9 h9 => c_X3_count l E h9) rfl hl rfl rfl rfl dX1_sum_16 ⟨Nat.zero_le _, Nat.zero_le _⟩ (fun v1 hf => ?_)
    refine q_icge C (tgt := 65) dX1_sum_19 (by decide) hf (fun hf => ?_) (fun hf => ?_)
    · refine lv_lload hx hb dX1_sum_65 (lv_at hl 3 rfl) ?_
      exact q_lretR C dX1_sum_67 hf
    · refine lv_aload_n hx hb dX1_sum_22 rfl (lv_at hl 0 rfl) ?_
      refine q_getR C hj lk_X1_26 dX1_sum_23 hf (fun v2 hf => ?_)
      refine lv_iload hx hb dX1_sum_26 (lv_at hl 4 rfl) ?_
      refine lv_iconst (v := 1) hx hb dX1_sum_28 qi_1 ?_
      refine q_cVRI C hj cw_X1_32 (As := [.int x6, .int 1]) (rest := []) hf (fun v9 h9 => c_X8_get l E h9) rfl hl rfl rfl rfl dX1_sum_29 ⟨Nat.zero_le _, Nat.zero_le _⟩ (fun v3 hf => ?_)
      refine lv_istore (lv' := [(7, .int v3), (0, .ref (q_ad E x0)), (1, .int x1), (2, .long x2), (4, .long x4), (6, .int x6)]) hx hb dX1_sum_32 hl (by decide) rfl (fun ls hl => ?_)
      refine lv_iload hx hb dX1_sum_34 (lv_at hl 0 rfl) ?_
      refine q_ifle C (tgt := 59) dX1_sum_36 (by decide) hf (fun hf => ?_) (fun hf => ?_)
      · refine lv_iinc (v := x6 + 1) (lv' := [(6, .int (x6 + 1)), (7, .int v3), (0, .ref (q_ad E x0)), (1, .int x1), (2, .long x2), (4, .long x4)]) hx hb dX1_sum_59 hl (k := 5) rfl (by rw [qi_1]) (by decide) rfl (fun ls hl => ?_)
        refine lv_goto (tgt := 12) hx hb dX1_sum_62 (by decide) ?_
        exact ih _ _ _ _ _  ls hj (lv_sub hl [2, 3, 4, 5, 0] rfl) hf
      · refine lv_aload_n hx hb dX1_sum_39 rfl (lv_at hl 1 rfl) ?_
        refine lv_iload hx hb dX1_sum_40 (lv_at hl 5 rfl) ?_
        refine q_cSRI C hj cw_X1_38 (As := [.ref (q_ad E x0), .int x6]) (rest := []) hf (fun v9 h9 => c_X1_rank l E h9) rfl hl rfl rfl rfl dX1_sum_42 ⟨Nat.zero_le _, Nat.zero_le _⟩ (fun v4 hf => ?_)
        refine lv_iload_n hx hb dX1_sum_45 rfl (lv_at hl 2 rfl) ?_
        refine q_icge C (tgt := 59) dX1_sum_46 (by decide) hf (fun hf => ?_) (fun hf => ?_)
        · refine lv_iinc (v := x6 + 1) (lv' := [(6, .int (x6 + 1)), (7, .int v3), (0, .ref (q_ad E x0)), (1, .int x1), (2, .long x2), (4, .long x4)]) hx hb dX1_sum_59 hl (k := 5) rfl (by rw [qi_1]) (by decide) rfl (fun ls hl => ?_)
          refine lv_goto (tgt := 12) hx hb dX1_sum_62 (by decide) ?_
          exact ih _ _ _ _ _  ls hj (lv_sub hl [2, 3, 4, 5, 0] rfl) hf
        · refine lv_lload hx hb dX1_sum_49 (lv_at hl 4 rfl) ?_
          refine lv_lload_n hx hb dX1_sum_51 rfl (lv_at hl 3 rfl) ?_
          refine lv_iload hx hb dX1_sum_52 (lv_at hl 0 rfl) ?_
          refine lv_i2l hx hb dX1_sum_54 rfl ?_
          refine q_ldiv C dX1_sum_55 hf (fun hf => ?_)
          refine lv_ladd hx hb dX1_sum_56 ?_
          refine lv_lstore (lv' := [(4, .long (x4 + (x2 / v3.toInt64))), (7, .int v3), (0, .ref (q_ad E x0)), (1, .int x1), (2, .long x2), (6, .int x6)]) hx hb dX1_sum_57 hl (by decide) rfl (fun ls hl => ?_)
          refine lv_iinc (v := x6 + 1) (lv' := [(6, .int (x6 + 1)), (4, .long (x4 + (x2 / v3.toInt64))), (7, .int v3), (0, .ref (q_ad E x0)), (1, .int x1), (2, .long x2)]) hx hb dX1_sum_59 hl (k := 5) rfl (by rw [qi_1]) (by decide) rfl (fun ls hl => ?_)
          refine lv_goto (tgt := 12) hx hb dX1_sum_62 (by decide) ?_
          exact ih _ _ _ _ _  ls hj (lv_sub hl [3, 4, 5, 1, 0] rfl) hf
def f_X1_sum (g : qS) (a0 : Nat) (a1 : Int32) : Option Int64 := (f_X1_product g a0 a1).bind fun v1 => L_X1_sum_12 g 1000000000 a0 a1 v1 0 0
set_option maxHeartbeats 4000000 in
set_option maxRecDepth 100000 in
theorem c_X1_sum (l : Launch) (E : qV) {g : qS} {a0 : Nat} {a1 : Int32} {res : Int64} (hf : f_X1_sum g a0 a1 = some res) : q_MR l yX1_sum cX1_sum 8 (some .long) 4 93 E [.ref (q_ad E a0), .int a1] g (some (.long res)) := by
  unfold f_X1_sum at hf
  refine q_ofR (by decide) rfl ?_
  intro p e s m args below meth c ls C hw hl
  have hj : q_J E s g s.heap [] := ⟨hw, va_S.rf⟩
  have hx := C.1
  have hb := C.2.1
  have C : q_C E p s m args meth c cX1_sum RX1 8 (some .long) := C
  have hl : lv_has ls 8 [(0, .ref (q_ad E a0)), (1, .int a1)] := hl
  refine lv_aload_n hx hb dX1_sum_0 rfl (lv_at hl 0 rfl) ?_
  refine lv_iload_n hx hb dX1_sum_1 rfl (lv_at hl 1 rfl) ?_
  refine q_cSRL C hj cw_X1_15 (As := [.ref (q_ad E a0), .int a1]) (rest := []) hf (fun v9 h9 => c_X1_product l E h9) rfl hl rfl rfl rfl dX1_sum_2 ⟨Nat.zero_le _, Nat.zero_le _⟩ (fun v1 hf => ?_)
  refine lv_lstore_n (lv' := [(2, .long v1), (0, .ref (q_ad E a0)), (1, .int a1)]) hx hb dX1_sum_5 rfl hl (by decide) rfl (fun ls hl => ?_)
  refine lv_lconst (v := 0) hx hb dX1_sum_6 (by decide) ?_
  refine lv_lstore (lv' := [(4, .long 0), (2, .long v1), (0, .ref (q_ad E a0)), (1, .int a1)]) hx hb dX1_sum_7 hl (by decide) rfl (fun ls hl => ?_)
  refine lv_iconst (v := 0) hx hb dX1_sum_9 qi_0 ?_
  refine lv_istore (lv' := [(6, .int 0), (4, .long 0), (2, .long v1), (0, .ref (q_ad E a0)), (1, .int a1)]) hx hb dX1_sum_10 hl (by decide) rfl (fun ls hl => ?_)
  refine w_L_X1_sum_12 C  hj (lv_sub hl [3, 4, 2, 1, 0] rfl) hf
def L_X1_bestCount_4  (g : qS) : Nat → Nat → Int32 → Int32 → Option Int32
  | 0, _, _, _ => none
  | n + 1, x0, x1, x2 => (f_X3_count g x0 4).bind fun v1 => if v1 < x2 then (some x1) else ((f_X1_product g x0 x2).bind fun v2 => (f_X1_product g x0 x1).bind fun v3 => (f_X1_sum g x0 x1).bind fun v4 => (f_X1_sum g x0 x2).bind fun v5 => if ((((x2 - 1).toInt64) * v2) * v4) ≤ ((((x1 - 1).toInt64) * v3) * v5) then (L_X1_bestCount_4 g n x0 x1 (x2 + 1)) else (L_X1_bestCount_4 g n x0 x2 (x2 + 1)))
set_option maxHeartbeats 4000000 in
set_option maxRecDepth 100000 in
theorem w_L_X1_bestCount_4 {l : Launch} {E : qV} {p : Program} {e : Env} {s : State} {m : MethodId} {args : Array Value} {below : List Frame} {meth : Method} {c : Code}  {g : qS} {res : Int32} (C : q_C E p s m args meth c cX1_bestCount RX1 7 (some .int))  : ∀ {n : Nat} {x0 : Nat} {x1 : Int32} {x2 : Int32} {ls : Array Slot}, q_J E s g s.heap [] → lv_has ls 7 [(0, .ref (q_ad E x0)), (1, .int x1), (2, .int x2)] → L_X1_bestCount_4 g n x0 x1 x2 = some res → W p l e (q_rm 5 120) s m args below meth c s.heap [] 0 0 (q_ZR below (some (.int res)) args s) (F0 m 4 ls []) := by
  have hx := C.1
  have hb := C.2.1
  intro n
  induction n with
  | zero =>
    intro x0 x1 x2 ls hj hl hf
    cases hf
  | succ n ih_ =>
    intro x0 x1 x2 ls hj hl hf
    have ih : ∀ (x0 : Nat) (x1 : Int32) (x2 : Int32) (ls : Array Slot), q_J E s g s.heap [] → lv_has ls 7 [(0, .ref (q_ad E x0)), (1, .int x1), (2, .int x2)] → L_X1_bestCount_4 g n x0 x1 x2 = some res → W p l e (q_rm 5 120) s m args below meth c s.heap [] 0 0 (q_ZR below (some (.int res)) args s) (F0 m 4 ls []) := fun x0 x1 x2 ls hj hl hf => ih_ hj hl hf
    unfold L_X1_bestCount_4 at hf
    refine lv_iload_n hx hb dX1_bestCount_4 rfl (lv_at hl 2 rfl) ?_
    refine lv_aload_n hx hb dX1_bestCount_5 rfl (lv_at hl 0 rfl) ?_
    refine lv_iconst (v := 4) hx hb dX1_bestCount_6 qi_4 ?_
    refine q_cVRI C hj cw_X1_42 (As := [.int 4]) (rest := [.int x2]) hf (fun v9 h9 => c_X3_count l E h9) rfl hl rfl rfl rfl dX1_bestCount_7 ⟨Nat.zero_le _, Nat.zero_le _⟩ (fun v1 hf => ?_)
    refine q_icgt C (tgt := 63) dX1_bestCount_10 (by decide) hf (fun hf => ?_) (fun hf => ?_)
    · refine lv_iload_n hx hb dX1_bestCount_63 rfl (lv_at hl 1 rfl) ?_
      exact q_iretR C dX1_bestCount_64 hf
    · refine lv_iload_n hx hb dX1_bestCount_13 rfl (lv_at hl 2 rfl) ?_
      refine lv_iconst (v := 1) hx hb dX1_bestCount_14 qi_1 ?_
      refine lv_isub hx hb dX1_bestCount_15 ?_
      refine lv_i2l hx hb dX1_bestCount_16 rfl ?_
      refine lv_aload_n hx hb dX1_bestCount_17 rfl (lv_at hl 0 rfl) ?_
      refine lv_iload_n hx hb dX1_bestCount_18 rfl (lv_at hl 2 rfl) ?_
      refine q_cSRL C hj cw_X1_15 (As := [.ref (q_ad E x0), .int x2]) (rest := [.long ((x2 - 1).toInt64)]) hf (fun v9 h9 => c_X1_product l E h9) rfl hl rfl rfl rfl dX1_bestCount_19 ⟨Nat.zero_le _, Nat.zero_le _⟩ (fun v2 hf => ?_)
      refine lv_lmul hx hb dX1_bestCount_22 ?_
      refine lv_lstore_n (lv' := [(3, .long (((x2 - 1).toInt64) * v2)), (0, .ref (q_ad E x0)), (1, .int x1), (2, .int x2)]) hx hb dX1_bestCount_23 rfl hl (by decide) rfl (fun ls hl => ?_)
      refine lv_iload_n hx hb dX1_bestCount_24 rfl (lv_at hl 2 rfl) ?_
      refine lv_iconst (v := 1) hx hb dX1_bestCount_25 qi_1 ?_
      refine lv_isub hx hb dX1_bestCount_26 ?_
      refine lv_i2l hx hb dX1_bestCount_27 rfl ?_
      refine lv_aload_n hx hb dX1_bestCount_28 rfl (lv_at hl 1 rfl) ?_
      refine lv_iload_n hx hb dX1_bestCount_29 rfl (lv_at hl 2 rfl) ?_
      refine q_cSRL C hj cw_X1_15 (As := [.ref (q_ad E x0), .int x1]) (rest := [.long ((x1 - 1).toInt64)]) hf (fun v9 h9 => c_X1_product l E h9) rfl hl rfl rfl rfl dX1_bestCount_30 ⟨Nat.zero_le _, Nat.zero_le _⟩ (fun v3 hf => ?_)
      refine lv_lmul hx hb dX1_bestCount_33 ?_
      refine lv_lstore (lv' := [(5, .long (((x1 - 1).toInt64) * v3)), (3, .long (((x2 - 1).toInt64) * v2)), (0, .ref (q_ad E x0)), (1, .int x1), (2, .int x2)]) hx hb dX1_bestCount_34 hl (by decide) rfl (fun ls hl => ?_)
      refine lv_lload_n hx hb dX1_bestCount_36 rfl (lv_at hl 1 rfl) ?_
      refine lv_aload_n hx hb dX1_bestCount_37 rfl (lv_at hl 2 rfl) ?_
      refine lv_iload_n hx hb dX1_bestCount_38 rfl (lv_at hl 3 rfl) ?_
      refine q_cSRL C hj cw_X1_19 (As := [.ref (q_ad E x0), .int x1]) (rest := [.long (((x2 - 1).toInt64) * v2)]) hf (fun v9 h9 => c_X1_sum l E h9) rfl hl rfl rfl rfl dX1_bestCount_39 ⟨Nat.zero_le _, Nat.zero_le _⟩ (fun v4 hf => ?_)
      refine lv_lmul hx hb dX1_bestCount_42 ?_
      refine lv_lload hx hb dX1_bestCount_43 (lv_at hl 0 rfl) ?_
      refine lv_aload_n hx hb dX1_bestCount_45 rfl (lv_at hl 2 rfl) ?_
      refine lv_iload_n hx hb dX1_bestCount_46 rfl (lv_at hl 4 rfl) ?_
      refine q_cSRL C hj cw_X1_19 (As := [.ref (q_ad E x0), .int x2]) (rest := [.long (((x1 - 1).toInt64) * v3), .long ((((x2 - 1).toInt64) * v2) * v4)]) hf (fun v9 h9 => c_X1_sum l E h9) rfl hl rfl rfl rfl dX1_bestCount_47 ⟨Nat.zero_le _, Nat.zero_le _⟩ (fun v5 hf => ?_)
      refine lv_lmul hx hb dX1_bestCount_50 ?_
      refine q_lcle C (tgt := 57) dX1_bestCount_51 dX1_bestCount_52 (by decide) hf (fun hf => ?_) (fun hf => ?_)
      · refine lv_iinc (v := x2 + 1) (lv' := [(2, .int (x2 + 1)), (5, .long (((x1 - 1).toInt64) * v3)), (3, .long (((x2 - 1).toInt64) * v2)), (0, .ref (q_ad E x0)), (1, .int x1)]) hx hb dX1_bestCount_57 hl (k := 4) rfl (by rw [qi_1]) (by decide) rfl (fun ls hl => ?_)
        refine lv_goto (tgt := 4) hx hb dX1_bestCount_60 (by decide) ?_
        exact ih _ _ _  ls hj (lv_sub hl [3, 4, 0] rfl) hf
      · refine lv_iload_n hx hb dX1_bestCount_55 rfl (lv_at hl 4 rfl) ?_
        refine lv_istore_n (lv' := [(1, .int x2), (5, .long (((x1 - 1).toInt64) * v3)), (3, .long (((x2 - 1).toInt64) * v2)), (0, .ref (q_ad E x0)), (2, .int x2)]) hx hb dX1_bestCount_56 rfl hl (by decide) rfl (fun ls hl => ?_)
        refine lv_iinc (v := x2 + 1) (lv' := [(2, .int (x2 + 1)), (1, .int x2), (5, .long (((x1 - 1).toInt64) * v3)), (3, .long (((x2 - 1).toInt64) * v2)), (0, .ref (q_ad E x0))]) hx hb dX1_bestCount_57 hl (k := 4) rfl (by rw [qi_1]) (by decide) rfl (fun ls hl => ?_)
        refine lv_goto (tgt := 4) hx hb dX1_bestCount_60 (by decide) ?_
        exact ih _ _ _  ls hj (lv_sub hl [4, 1, 0] rfl) hf
def f_X1_bestCount (g : qS) (a0 : Nat) : Option Int32 := L_X1_bestCount_4 g 1000000000 a0 1 2
set_option maxHeartbeats 4000000 in
set_option maxRecDepth 100000 in
theorem c_X1_bestCount (l : Launch) (E : qV) {g : qS} {a0 : Nat} {res : Int32} (hf : f_X1_bestCount g a0 = some res) : q_MR l yX1_bestCount cX1_bestCount 7 (some .int) 5 120 E [.ref (q_ad E a0)] g (some (.int res)) := by
  unfold f_X1_bestCount at hf
  refine q_ofR (by decide) rfl ?_
  intro p e s m args below meth c ls C hw hl
  have hj : q_J E s g s.heap [] := ⟨hw, va_S.rf⟩
  have hx := C.1
  have hb := C.2.1
  have C : q_C E p s m args meth c cX1_bestCount RX1 7 (some .int) := C
  have hl : lv_has ls 7 [(0, .ref (q_ad E a0))] := hl
  refine lv_iconst (v := 1) hx hb dX1_bestCount_0 qi_1 ?_
  refine lv_istore_n (lv' := [(1, .int 1), (0, .ref (q_ad E a0))]) hx hb dX1_bestCount_1 rfl hl (by decide) rfl (fun ls hl => ?_)
  refine lv_iconst (v := 2) hx hb dX1_bestCount_2 qi_2 ?_
  refine lv_istore_n (lv' := [(2, .int 2), (1, .int 1), (0, .ref (q_ad E a0))]) hx hb dX1_bestCount_3 rfl hl (by decide) rfl (fun ls hl => ?_)
  refine w_L_X1_bestCount_4 C  hj (lv_sub hl [2, 1, 0] rfl) hf
def L_X1_part_9 (k45 : Int64 → Int64 → Int32 → Int64 → Option Int64) (g : qS) : Nat → Int64 → Int64 → Int32 → Int64 → Int64 → Int32 → Option Int64
  | 0, _, _, _, _, _, _ => none
  | n + 1, x0, x2, x4, x5, x7, x9 => if 200 ≤ x9 then (k45 x0 x2 x4 x5) else (if x7 = 0 then (k45 x0 x2 x4 x5) else (if (x7 : Int64) = 0 then none else (L_X1_part_9 k45 g n x0 x2 x4 x7 (x5 - x5 / x7 * x7) (x9 + 1))))
set_option maxHeartbeats 4000000 in
set_option maxRecDepth 100000 in
theorem w_L_X1_part_9 {l : Launch} {E : qV} {p : Program} {e : Env} {s : State} {m : MethodId} {args : Array Value} {below : List Frame} {meth : Method} {c : Code} {k45 : Int64 → Int64 → Int32 → Int64 → Option Int64} {g : qS} {res : Int64} (C : q_C E p s m args meth c cX1_part RX1 12 (some .long)) (hk45 : ∀ (x0 : Int64) (x2 : Int64) (x4 : Int32) (x5 : Int64) (ls : Array Slot), q_J E s g s.heap [] → lv_has ls 12 [(0, .long x0), (2, .long x2), (4, .int x4), (5, .long x5)] → k45 x0 x2 x4 x5 = some res → W p l e (q_rm 0 0) s m args below meth c s.heap [] 0 0 (q_ZR below (some (.long res)) args s) (F0 m 45 ls [])) : ∀ {n : Nat} {x0 : Int64} {x2 : Int64} {x4 : Int32} {x5 : Int64} {x7 : Int64} {x9 : Int32} {ls : Array Slot}, q_J E s g s.heap [] → lv_has ls 12 [(0, .long x0), (2, .long x2), (4, .int x4), (5, .long x5), (7, .long x7), (9, .int x9)] → L_X1_part_9 k45 g n x0 x2 x4 x5 x7 x9 = some res → W p l e (q_rm 0 0) s m args below meth c s.heap [] 0 0 (q_ZR below (some (.long res)) args s) (F0 m 9 ls []) := by
  have hx := C.1
  have hb := C.2.1
  intro n
  induction n with
  | zero =>
    intro x0 x2 x4 x5 x7 x9 ls hj hl hf
    cases hf
  | succ n ih_ =>
    intro x0 x2 x4 x5 x7 x9 ls hj hl hf
    have ih : ∀ (x0 : Int64) (x2 : Int64) (x4 : Int32) (x5 : Int64) (x7 : Int64) (x9 : Int32) (ls : Array Slot), q_J E s g s.heap [] → lv_has ls 12 [(0, .long x0), (2, .long x2), (4, .int x4), (5, .long x5), (7, .long x7), (9, .int x9)] → L_X1_part_9 k45 g n x0 x2 x4 x5 x7 x9 = some res → W p l e (q_rm 0 0) s m args below meth c s.heap [] 0 0 (q_ZR below (some (.long res)) args s) (F0 m 9 ls []) := fun x0 x2 x4 x5 x7 x9 ls hj hl hf => ih_ hj hl hf
    unfold L_X1_part_9 at hf
    refine lv_iload hx hb dX1_part_9 (lv_at hl 5 rfl) ?_
    refine lv_sipush (v := 200) hx hb dX1_part_11 (by decide) ?_
    refine q_icge C (tgt := 45) dX1_part_14 (by decide) hf (fun hf => ?_) (fun hf => ?_)
    · exact hk45 _ _ _ _  ls hj (lv_sub hl [0, 1, 2, 3] rfl) hf
    · refine lv_lload hx hb dX1_part_17 (lv_at hl 4 rfl) ?_
      refine lv_lconst (v := 0) hx hb dX1_part_19 (by decide) ?_
      refine q_lceq C (tgt := 45) dX1_part_20 dX1_part_21 (by decide) hf (fun hf => ?_) (fun hf => ?_)
      · exact hk45 _ _ _ _  ls hj (lv_sub hl [0, 1, 2, 3] rfl) hf
      · refine lv_lload hx hb dX1_part_24 (lv_at hl 3 rfl) ?_
        refine lv_lload hx hb dX1_part_26 (lv_at hl 4 rfl) ?_
        refine q_lrem C dX1_part_28 hf (fun hf => ?_)
        refine lv_lstore (lv' := [(10, .long (x5 - x5 / x7 * x7)), (0, .long x0), (2, .long x2), (4, .int x4), (5, .long x5), (7, .long x7), (9, .int x9)]) hx hb dX1_part_29 hl (by decide) rfl (fun ls hl => ?_)
        refine lv_lload hx hb dX1_part_31 (lv_at hl 5 rfl) ?_
        refine lv_lstore (lv' := [(5, .long x7), (10, .long (x5 - x5 / x7 * x7)), (0, .long x0), (2, .long x2), (4, .int x4), (7, .long x7), (9, .int x9)]) hx hb dX1_part_33 hl (by decide) rfl (fun ls hl => ?_)
        refine lv_lload hx hb dX1_part_35 (lv_at hl 1 rfl) ?_
        refine lv_lstore (lv' := [(7, .long (x5 - x5 / x7 * x7)), (5, .long x7), (10, .long (x5 - x5 / x7 * x7)), (0, .long x0), (2, .long x2), (4, .int x4), (9, .int x9)]) hx hb dX1_part_37 hl (by decide) rfl (fun ls hl => ?_)
        refine lv_iinc (v := x9 + 1) (lv' := [(9, .int (x9 + 1)), (7, .long (x5 - x5 / x7 * x7)), (5, .long x7), (10, .long (x5 - x5 / x7 * x7)), (0, .long x0), (2, .long x2), (4, .int x4)]) hx hb dX1_part_39 hl (k := 6) rfl (by rw [qi_1]) (by decide) rfl (fun ls hl => ?_)
        refine lv_goto (tgt := 9) hx hb dX1_part_42 (by decide) ?_
        exact ih _ _ _ _ _ _  ls hj (lv_sub hl [4, 5, 6, 2, 1, 0] rfl) hf
def J_X1_part_55  (g : qS) (x5 : Int64) (t0 : Int64) : Option Int64 := if x5 = 0 then (some t0) else (if (x5 : Int64) = 0 then none else (some (t0 / x5)))
set_option maxHeartbeats 4000000 in
set_option maxRecDepth 100000 in
theorem w_J_X1_part_55 {l : Launch} {E : qV} {p : Program} {e : Env} {s : State} {m : MethodId} {args : Array Value} {below : List Frame} {meth : Method} {c : Code}  {g : qS} {res : Int64} (C : q_C E p s m args meth c cX1_part RX1 12 (some .long))  : ∀ {x5 : Int64} {t0 : Int64} {ls : Array Slot}, q_J E s g s.heap [] → lv_has ls 12 [(5, .long x5)] → J_X1_part_55 g x5 t0 = some res → W p l e (q_rm 0 0) s m args below meth c s.heap [] 0 0 (q_ZR below (some (.long res)) args s) (F0 m 55 ls [.long t0]) := by
  have hx := C.1
  have hb := C.2.1
  intro x5 t0 ls hj hl hf
  unfold J_X1_part_55 at hf
  refine lv_lstore (lv' := [(9, .long t0), (5, .long x5)]) hx hb dX1_part_55 hl (by decide) rfl (fun ls hl => ?_)
  refine lv_lload hx hb dX1_part_57 (lv_at hl 1 rfl) ?_
  refine lv_lconst (v := 0) hx hb dX1_part_59 (by decide) ?_
  refine q_lcne C (tgt := 69) dX1_part_60 dX1_part_61 (by decide) hf (fun hf => ?_) (fun hf => ?_)
  · refine lv_lload hx hb dX1_part_69 (lv_at hl 0 rfl) ?_
    refine lv_lload hx hb dX1_part_71 (lv_at hl 1 rfl) ?_
    refine q_ldiv C dX1_part_73 hf (fun hf => ?_)
    exact q_lretR C dX1_part_74 hf
  · refine lv_lload hx hb dX1_part_64 (lv_at hl 0 rfl) ?_
    refine lv_goto (tgt := 74) hx hb dX1_part_66 (by decide) ?_
    exact q_lretR C dX1_part_74 hf
def J_X1_part_45  (g : qS) (x0 : Int64) (x2 : Int64) (x4 : Int32) (x5 : Int64) : Option Int64 := if x4 = 0 then (J_X1_part_55 g x5 x0) else (J_X1_part_55 g x5 x2)
set_option maxHeartbeats 4000000 in
set_option maxRecDepth 100000 in
theorem w_J_X1_part_45 {l : Launch} {E : qV} {p : Program} {e : Env} {s : State} {m : MethodId} {args : Array Value} {below : List Frame} {meth : Method} {c : Code}  {g : qS} {res : Int64} (C : q_C E p s m args meth c cX1_part RX1 12 (some .long))  : ∀ {x0 : Int64} {x2 : Int64} {x4 : Int32} {x5 : Int64} {ls : Array Slot}, q_J E s g s.heap [] → lv_has ls 12 [(0, .long x0), (2, .long x2), (4, .int x4), (5, .long x5)] → J_X1_part_45 g x0 x2 x4 x5 = some res → W p l e (q_rm 0 0) s m args below meth c s.heap [] 0 0 (q_ZR below (some (.long res)) args s) (F0 m 45 ls []) := by
  have hx := C.1
  have hb := C.2.1
  intro x0 x2 x4 x5 ls hj hl hf
  unfold J_X1_part_45 at hf
  refine lv_iload hx hb dX1_part_45 (lv_at hl 2 rfl) ?_
  refine q_ifeq C (tgt := 54) dX1_part_47 (by decide) hf (fun hf => ?_) (fun hf => ?_)
  · refine lv_lload_n hx hb dX1_part_54 rfl (lv_at hl 0 rfl) ?_
    refine w_J_X1_part_55 C  hj (lv_sub hl [3] rfl) hf
  · refine lv_lload_n hx hb dX1_part_50 rfl (lv_at hl 1 rfl) ?_
    refine lv_goto (tgt := 55) hx hb dX1_part_51 (by decide) ?_
    refine w_J_X1_part_55 C  hj (lv_sub hl [3] rfl) hf
def f_X1_part (g : qS) (a0 : Int64) (a1 : Int64) (a2 : Int32) : Option Int64 := L_X1_part_9 (fun y1 y2 y3 y4 => J_X1_part_45 g y1 y2 y3 y4) g 1000000000 a0 a1 a2 a0 a1 0
set_option maxHeartbeats 4000000 in
set_option maxRecDepth 100000 in
theorem c_X1_part (l : Launch) (E : qV) {g : qS} {a0 : Int64} {a1 : Int64} {a2 : Int32} {res : Int64} (hf : f_X1_part g a0 a1 a2 = some res) : q_MR l yX1_part cX1_part 12 (some .long) 0 0 E [.long a0, .long a1, .int a2] g (some (.long res)) := by
  unfold f_X1_part at hf
  refine q_ofR (by decide) rfl ?_
  intro p e s m args below meth c ls C hw hl
  have hj : q_J E s g s.heap [] := ⟨hw, va_S.rf⟩
  have hx := C.1
  have hb := C.2.1
  have C : q_C E p s m args meth c cX1_part RX1 12 (some .long) := C
  have hl : lv_has ls 12 [(0, .long a0), (2, .long a1), (4, .int a2)] := hl
  refine lv_lload_n hx hb dX1_part_0 rfl (lv_at hl 0 rfl) ?_
  refine lv_lstore (lv' := [(5, .long a0), (0, .long a0), (2, .long a1), (4, .int a2)]) hx hb dX1_part_1 hl (by decide) rfl (fun ls hl => ?_)
  refine lv_lload_n hx hb dX1_part_3 rfl (lv_at hl 2 rfl) ?_
  refine lv_lstore (lv' := [(7, .long a1), (5, .long a0), (0, .long a0), (2, .long a1), (4, .int a2)]) hx hb dX1_part_4 hl (by decide) rfl (fun ls hl => ?_)
  refine lv_iconst (v := 0) hx hb dX1_part_6 qi_0 ?_
  refine lv_istore (lv' := [(9, .int 0), (7, .long a1), (5, .long a0), (0, .long a0), (2, .long a1), (4, .int a2)]) hx hb dX1_part_7 hl (by decide) rfl (fun ls hl => ?_)
  refine w_L_X1_part_9 C (fun y1 y2 y3 y4 ls hj hl hf => ?_) hj (lv_sub hl [3, 4, 5, 2, 1, 0] rfl) hf
  · refine w_J_X1_part_45 C  hj (lv_sub hl [0, 1, 2, 3] rfl) hf
def f_X1_lotValue (g : qS) (a0 : Nat) (a1 : Int32) : Option Int64 := (f_X1_bestCount g a0).bind fun v1 => (f_X1_product g a0 v1).bind fun v2 => (f_X1_sum g a0 v1).bind fun v3 => (f_X1_part g (((v1 - 1).toInt64) * v2) v3 a1).bind fun v4 => some v4
set_option maxHeartbeats 4000000 in
set_option maxRecDepth 100000 in
theorem c_X1_lotValue (l : Launch) (E : qV) {g : qS} {a0 : Nat} {a1 : Int32} {res : Int64} (hf : f_X1_lotValue g a0 a1 = some res) : q_MR l yX1_lotValue cX1_lotValue 3 (some .long) 6 146 E [.ref (q_ad E a0), .int a1] g (some (.long res)) := by
  unfold f_X1_lotValue at hf
  refine q_ofR (by decide) rfl ?_
  intro p e s m args below meth c ls C hw hl
  have hj : q_J E s g s.heap [] := ⟨hw, va_S.rf⟩
  have hx := C.1
  have hb := C.2.1
  have C : q_C E p s m args meth c cX1_lotValue RX1 3 (some .long) := C
  have hl : lv_has ls 3 [(0, .ref (q_ad E a0)), (1, .int a1)] := hl
  refine lv_aload_n hx hb dX1_lotValue_0 rfl (lv_at hl 0 rfl) ?_
  refine q_cSRI C hj cw_X1_9 (As := [.ref (q_ad E a0)]) (rest := []) hf (fun v9 h9 => c_X1_bestCount l E h9) rfl hl rfl rfl rfl dX1_lotValue_1 ⟨Nat.zero_le _, Nat.zero_le _⟩ (fun v1 hf => ?_)
  refine lv_istore_n (lv' := [(2, .int v1), (0, .ref (q_ad E a0)), (1, .int a1)]) hx hb dX1_lotValue_4 rfl hl (by decide) rfl (fun ls hl => ?_)
  refine lv_iload_n hx hb dX1_lotValue_5 rfl (lv_at hl 0 rfl) ?_
  refine lv_iconst (v := 1) hx hb dX1_lotValue_6 qi_1 ?_
  refine lv_isub hx hb dX1_lotValue_7 ?_
  refine lv_i2l hx hb dX1_lotValue_8 rfl ?_
  refine lv_aload_n hx hb dX1_lotValue_9 rfl (lv_at hl 1 rfl) ?_
  refine lv_iload_n hx hb dX1_lotValue_10 rfl (lv_at hl 0 rfl) ?_
  refine q_cSRL C hj cw_X1_15 (As := [.ref (q_ad E a0), .int v1]) (rest := [.long ((v1 - 1).toInt64)]) hf (fun v9 h9 => c_X1_product l E h9) rfl hl rfl rfl rfl dX1_lotValue_11 ⟨Nat.zero_le _, Nat.zero_le _⟩ (fun v2 hf => ?_)
  refine lv_lmul hx hb dX1_lotValue_14 ?_
  refine lv_aload_n hx hb dX1_lotValue_15 rfl (lv_at hl 1 rfl) ?_
  refine lv_iload_n hx hb dX1_lotValue_16 rfl (lv_at hl 0 rfl) ?_
  refine q_cSRL C hj cw_X1_19 (As := [.ref (q_ad E a0), .int v1]) (rest := [.long (((v1 - 1).toInt64) * v2)]) hf (fun v9 h9 => c_X1_sum l E h9) rfl hl rfl rfl rfl dX1_lotValue_17 ⟨Nat.zero_le _, Nat.zero_le _⟩ (fun v3 hf => ?_)
  refine lv_iload_n hx hb dX1_lotValue_20 rfl (lv_at hl 2 rfl) ?_
  refine q_cSRL C hj cw_X1_22 (As := [.long (((v1 - 1).toInt64) * v2), .long v3, .int a1]) (rest := []) hf (fun v9 h9 => c_X1_part l E h9) rfl hl rfl rfl rfl dX1_lotValue_21 ⟨Nat.zero_le _, Nat.zero_le _⟩ (fun v4 hf => ?_)
  exact q_lretR C dX1_lotValue_24 hf
def f_X1_lotOf (g : qS) (a0 : Nat) (a1 : Int32) (a2 : Int32) : Option Int64 := (f_X1_bestCount g a0).bind fun v1 => (g_R g a0 2 2).bind fun v2 => (f_X8_get g v2 a1 1).bind fun v3 => (f_X1_rank g a0 a1).bind fun v4 => if v1 ≤ v4 then (if a2 = 0 then (some 0) else (some 1)) else (if 0 < v3 then ((f_X1_product g a0 v1).bind fun v5 => if (v3.toInt64 : Int64) = 0 then none else ((f_X1_sum g a0 v1).bind fun v6 => (f_X1_part g (v5 / v3.toInt64) v6 a2).bind fun v7 => some v7)) else (if a2 = 0 then (some 0) else (some 1)))
set_option maxHeartbeats 4000000 in
set_option maxRecDepth 100000 in
theorem c_X1_lotOf (l : Launch) (E : qV) {g : qS} {a0 : Nat} {a1 : Int32} {a2 : Int32} {res : Int64} (hf : f_X1_lotOf g a0 a1 a2 = some res) : q_MR l yX1_lotOf cX1_lotOf 5 (some .long) 6 146 E [.ref (q_ad E a0), .int a1, .int a2] g (some (.long res)) := by
  unfold f_X1_lotOf at hf
  refine q_ofR (by decide) rfl ?_
  intro p e s m args below meth c ls C hw hl
  have hj : q_J E s g s.heap [] := ⟨hw, va_S.rf⟩
  have hx := C.1
  have hb := C.2.1
  have C : q_C E p s m args meth c cX1_lotOf RX1 5 (some .long) := C
  have hl : lv_has ls 5 [(0, .ref (q_ad E a0)), (1, .int a1), (2, .int a2)] := hl
  refine lv_aload_n hx hb dX1_lotOf_0 rfl (lv_at hl 0 rfl) ?_
  refine q_cSRI C hj cw_X1_9 (As := [.ref (q_ad E a0)]) (rest := []) hf (fun v9 h9 => c_X1_bestCount l E h9) rfl hl rfl rfl rfl dX1_lotOf_1 ⟨Nat.zero_le _, Nat.zero_le _⟩ (fun v1 hf => ?_)
  refine lv_istore_n (lv' := [(3, .int v1), (0, .ref (q_ad E a0)), (1, .int a1), (2, .int a2)]) hx hb dX1_lotOf_4 rfl hl (by decide) rfl (fun ls hl => ?_)
  refine lv_aload_n hx hb dX1_lotOf_5 rfl (lv_at hl 1 rfl) ?_
  refine q_getR C hj lk_X1_26 dX1_lotOf_6 hf (fun v2 hf => ?_)
  refine lv_iload_n hx hb dX1_lotOf_9 rfl (lv_at hl 2 rfl) ?_
  refine lv_iconst (v := 1) hx hb dX1_lotOf_10 qi_1 ?_
  refine q_cVRI C hj cw_X1_32 (As := [.int a1, .int 1]) (rest := []) hf (fun v9 h9 => c_X8_get l E h9) rfl hl rfl rfl rfl dX1_lotOf_11 ⟨Nat.zero_le _, Nat.zero_le _⟩ (fun v3 hf => ?_)
  refine lv_istore (lv' := [(4, .int v3), (3, .int v1), (0, .ref (q_ad E a0)), (1, .int a1), (2, .int a2)]) hx hb dX1_lotOf_14 hl (by decide) rfl (fun ls hl => ?_)
  refine lv_aload_n hx hb dX1_lotOf_16 rfl (lv_at hl 2 rfl) ?_
  refine lv_iload_n hx hb dX1_lotOf_17 rfl (lv_at hl 3 rfl) ?_
  refine q_cSRI C hj cw_X1_38 (As := [.ref (q_ad E a0), .int a1]) (rest := []) hf (fun v9 h9 => c_X1_rank l E h9) rfl hl rfl rfl rfl dX1_lotOf_18 ⟨Nat.zero_le _, Nat.zero_le _⟩ (fun v4 hf => ?_)
  refine lv_iload_n hx hb dX1_lotOf_21 rfl (lv_at hl 1 rfl) ?_
  refine q_icge C (tgt := 30) dX1_lotOf_22 (by decide) hf (fun hf => ?_) (fun hf => ?_)
  · refine lv_iload_n hx hb dX1_lotOf_30 rfl (lv_at hl 4 rfl) ?_
    refine q_ifeq C (tgt := 38) dX1_lotOf_31 (by decide) hf (fun hf => ?_) (fun hf => ?_)
    · refine lv_lconst (v := 0) hx hb dX1_lotOf_38 (by decide) ?_
      exact q_lretR C dX1_lotOf_39 hf
    · refine lv_lconst (v := 1) hx hb dX1_lotOf_34 (by decide) ?_
      refine lv_goto (tgt := 39) hx hb dX1_lotOf_35 (by decide) ?_
      exact q_lretR C dX1_lotOf_39 hf
  · refine lv_iload hx hb dX1_lotOf_25 (lv_at hl 0 rfl) ?_
    refine q_ifgt C (tgt := 40) dX1_lotOf_27 (by decide) hf (fun hf => ?_) (fun hf => ?_)
    · refine lv_aload_n hx hb dX1_lotOf_40 rfl (lv_at hl 2 rfl) ?_
      refine lv_iload_n hx hb dX1_lotOf_41 rfl (lv_at hl 1 rfl) ?_
      refine q_cSRL C hj cw_X1_15 (As := [.ref (q_ad E a0), .int v1]) (rest := []) hf (fun v9 h9 => c_X1_product l E h9) rfl hl rfl rfl rfl dX1_lotOf_42 ⟨Nat.zero_le _, Nat.zero_le _⟩ (fun v5 hf => ?_)
      refine lv_iload hx hb dX1_lotOf_45 (lv_at hl 0 rfl) ?_
      refine lv_i2l hx hb dX1_lotOf_47 rfl ?_
      refine q_ldiv C dX1_lotOf_48 hf (fun hf => ?_)
      refine lv_aload_n hx hb dX1_lotOf_49 rfl (lv_at hl 2 rfl) ?_
      refine lv_iload_n hx hb dX1_lotOf_50 rfl (lv_at hl 1 rfl) ?_
      refine q_cSRL C hj cw_X1_19 (As := [.ref (q_ad E a0), .int v1]) (rest := [.long (v5 / v3.toInt64)]) hf (fun v9 h9 => c_X1_sum l E h9) rfl hl rfl rfl rfl dX1_lotOf_51 ⟨Nat.zero_le _, Nat.zero_le _⟩ (fun v6 hf => ?_)
      refine lv_iload_n hx hb dX1_lotOf_54 rfl (lv_at hl 4 rfl) ?_
      refine q_cSRL C hj cw_X1_22 (As := [.long (v5 / v3.toInt64), .long v6, .int a2]) (rest := []) hf (fun v9 h9 => c_X1_part l E h9) rfl hl rfl rfl rfl dX1_lotOf_55 ⟨Nat.zero_le _, Nat.zero_le _⟩ (fun v7 hf => ?_)
      exact q_lretR C dX1_lotOf_58 hf
    · refine lv_iload_n hx hb dX1_lotOf_30 rfl (lv_at hl 4 rfl) ?_
      refine q_ifeq C (tgt := 38) dX1_lotOf_31 (by decide) hf (fun hf => ?_) (fun hf => ?_)
      · refine lv_lconst (v := 0) hx hb dX1_lotOf_38 (by decide) ?_
        exact q_lretR C dX1_lotOf_39 hf
      · refine lv_lconst (v := 1) hx hb dX1_lotOf_34 (by decide) ?_
        refine lv_goto (tgt := 39) hx hb dX1_lotOf_35 (by decide) ?_
        exact q_lretR C dX1_lotOf_39 hf
def L_X2_countGivers_10  : Nat → Nat → Nat → Int32 → Int32 → qS → Option qS
  | 0, _, _, _, _, _ => none
  | n + 1, x0, x1, x2, x3, g => (f_X3_count g x1 5).bind fun v1 => if v1 ≤ x3 then (some g) else ((g_R g x0 1 0).bind fun v2 => (g_R g x1 2 8).bind fun v3 => (f_X8_get g v3 x3 x2).bind fun v4 => (f_X8_add g v2 0 v4 1).bind fun g5 => L_X2_countGivers_10 n x0 x1 x2 (x3 + 1) g5)
set_option maxHeartbeats 4000000 in
set_option maxRecDepth 100000 in
theorem w_L_X2_countGivers_10 {l : Launch} {E : qV} {p : Program} {e : Env} {s : State} {m : MethodId} {args : Array Value} {below : List Frame} {meth : Method} {c : Code}  {res : qS} (C : q_C E p s m args meth c cX2_countGivers RX2 4 none)  : ∀ {n : Nat} {x0 : Nat} {x1 : Nat} {x2 : Int32} {x3 : Int32} {g : qS} {H : Heap} {locs : List Loc} {ls : Array Slot}, q_J E s g H locs → lv_has ls 4 [(0, .ref (q_ad E x0)), (1, .ref (q_ad E x1)), (2, .int x2), (3, .int x3)] → L_X2_countGivers_10 n x0 x1 x2 x3 g = some res → W p l e (q_rm 2 47) s m args below meth c H locs 0 0 (q_ZW E below none res args s) (F0 m 10 ls []) := by
  have hx := C.1
  have hb := C.2.1
  intro n
  induction n with
  | zero =>
    intro x0 x1 x2 x3 g H locs ls hj hl hf
    cases hf
  | succ n ih_ =>
    intro x0 x1 x2 x3 g H locs ls hj hl hf
    have ih : ∀ (x0 : Nat) (x1 : Nat) (x2 : Int32) (x3 : Int32) (g : qS) (H : Heap) (locs : List Loc) (ls : Array Slot), q_J E s g H locs → lv_has ls 4 [(0, .ref (q_ad E x0)), (1, .ref (q_ad E x1)), (2, .int x2), (3, .int x3)] → L_X2_countGivers_10 n x0 x1 x2 x3 g = some res → W p l e (q_rm 2 47) s m args below meth c H locs 0 0 (q_ZW E below none res args s) (F0 m 10 ls []) := fun x0 x1 x2 x3 g H locs ls hj hl hf => ih_ hj hl hf
    unfold L_X2_countGivers_10 at hf
    refine lv_iload_n hx hb dX2_countGivers_10 rfl (lv_at hl 3 rfl) ?_
    refine lv_aload_n hx hb dX2_countGivers_11 rfl (lv_at hl 1 rfl) ?_
    refine lv_iconst (v := 5) hx hb dX2_countGivers_12 qi_5 ?_
    refine q_cVRI C hj cw_X2_30 (As := [.int 5]) (rest := [.int x3]) hf (fun v9 h9 => c_X3_count l E h9) rfl hl rfl rfl rfl dX2_countGivers_13 ⟨Nat.zero_le _, Nat.zero_le _⟩ (fun v1 hf => ?_)
    refine q_icge C (tgt := 43) dX2_countGivers_16 (by decide) hf (fun hf => ?_) (fun hf => ?_)
    · exact q_vretW C hj dX2_countGivers_43 hf
    · refine lv_aload_n hx hb dX2_countGivers_19 rfl (lv_at hl 0 rfl) ?_
      refine q_getR C hj lk_X2_14 dX2_countGivers_20 hf (fun v2 hf => ?_)
      refine lv_iconst (v := 0) hx hb dX2_countGivers_23 qi_0 ?_
      refine lv_aload_n hx hb dX2_countGivers_24 rfl (lv_at hl 1 rfl) ?_
      refine q_getR C hj lk_X2_51 dX2_countGivers_25 hf (fun v3 hf => ?_)
      refine lv_iload_n hx hb dX2_countGivers_28 rfl (lv_at hl 3 rfl) ?_
      refine lv_iload_n hx hb dX2_countGivers_29 rfl (lv_at hl 2 rfl) ?_
      refine q_cVRI C hj cw_X2_54 (As := [.int x3, .int x2]) (rest := [.int 0, .ref (q_ad E v2)]) hf (fun v9 h9 => c_X8_get l E h9) rfl hl rfl rfl rfl dX2_countGivers_30 ⟨Nat.zero_le _, Nat.zero_le _⟩ (fun v4 hf => ?_)
      refine lv_iconst (v := 1) hx hb dX2_countGivers_33 qi_1 ?_
      refine q_cVWV C hj cw_X2_58 (As := [.int 0, .int v4, .int 1]) (rest := []) hf (fun g9 h9 => c_X8_add l E h9) rfl hl rfl rfl rfl dX2_countGivers_34 ⟨Nat.zero_le _, Nat.zero_le _⟩ (fun g5 H locs hj hf => ?_)
      refine lv_iinc (v := x3 + 1) (lv' := [(3, .int (x3 + 1)), (0, .ref (q_ad E x0)), (1, .ref (q_ad E x1)), (2, .int x2)]) hx hb dX2_countGivers_37 hl (k := 3) rfl (by rw [qi_1]) (by decide) rfl (fun ls hl => ?_)
      refine lv_goto (tgt := 10) hx hb dX2_countGivers_40 (by decide) ?_
      exact ih _ _ _ _ _ _ _ ls hj (lv_sub hl [1, 2, 3, 0] rfl) hf
def f_X2_countGivers (g : qS) (a0 : Nat) (a1 : Nat) (a2 : Int32) : Option qS := (g_C g a0 1).bind fun _ => (g_R g a0 1 0).bind fun v1 => (f_X8_fill g v1 0).bind fun g2 => L_X2_countGivers_10 1000000000 a0 a1 a2 0 g2
set_option maxHeartbeats 4000000 in
set_option maxRecDepth 100000 in
theorem c_X2_countGivers (l : Launch) (E : qV) {g : qS} {a0 : Nat} {a1 : Nat} {a2 : Int32} {res : qS} (hf : f_X2_countGivers g a0 a1 a2 = some res) : q_MW l yX2_countGivers cX2_countGivers 4 none 2 47 E [.ref (q_ad E a0), .ref (q_ad E a1), .int a2] g none res ∧ ∃ fs, g a0 = some (.inr (1, fs)) := by
  unfold f_X2_countGivers at hf
  obtain ⟨u9, hu9, hf⟩ := q_ob hf
  refine ⟨q_ofW (by decide) rfl ?_, g_C_sp hu9⟩
  intro p e s m args below meth c ls C hj hl
  have hx := C.1
  have hb := C.2.1
  have C : q_C E p s m args meth c cX2_countGivers RX2 4 none := C
  have hl : lv_has ls 4 [(0, .ref (q_ad E a0)), (1, .ref (q_ad E a1)), (2, .int a2)] := hl
  refine lv_aload_n hx hb dX2_countGivers_0 rfl (lv_at hl 0 rfl) ?_
  refine q_getR C hj lk_X2_14 dX2_countGivers_1 hf (fun v1 hf => ?_)
  refine lv_iconst (v := 0) hx hb dX2_countGivers_4 qi_0 ?_
  refine q_cVWV C hj cw_X2_47 (As := [.int 0]) (rest := []) hf (fun g9 h9 => c_X8_fill l E h9) rfl hl rfl rfl rfl dX2_countGivers_5 ⟨Nat.zero_le _, Nat.zero_le _⟩ (fun g2 H locs hj hf => ?_)
  refine lv_iconst (v := 0) hx hb dX2_countGivers_8 qi_0 ?_
  refine lv_istore_n (lv' := [(3, .int 0), (0, .ref (q_ad E a0)), (1, .ref (q_ad E a1)), (2, .int a2)]) hx hb dX2_countGivers_9 rfl hl (by decide) rfl (fun ls hl => ?_)
  refine w_L_X2_countGivers_10 C  hj (lv_sub hl [1, 2, 3, 0] rfl) hf
def L_X2_seat_25  : Nat → Nat → Nat → Int32 → Int32 → Int32 → qS → Option qS
  | 0, _, _, _, _, _, _ => none
  | n + 1, x0, x1, x3, x4, x5, g => (f_X3_count g x1 3).bind fun v1 => if v1 ≤ x5 then (some g) else ((g_R g x0 1 1).bind fun v2 => if (x3 : Int32) = 0 then none else ((f_X8_add g v2 0 (x4 - x4 / x3 * x3) 1).bind fun g3 => if (x3 : Int32) = 0 then none else (L_X2_seat_25 n x0 x1 x3 (x4 / x3) (x5 + 1) g3)))
set_option maxHeartbeats 4000000 in
set_option maxRecDepth 100000 in
theorem w_L_X2_seat_25 {l : Launch} {E : qV} {p : Program} {e : Env} {s : State} {m : MethodId} {args : Array Value} {below : List Frame} {meth : Method} {c : Code}  {res : qS} (C : q_C E p s m args meth c cX2_seat RX2 6 none)  : ∀ {n : Nat} {x0 : Nat} {x1 : Nat} {x3 : Int32} {x4 : Int32} {x5 : Int32} {g : qS} {H : Heap} {locs : List Loc} {ls : Array Slot}, q_J E s g H locs → lv_has ls 6 [(0, .ref (q_ad E x0)), (1, .ref (q_ad E x1)), (3, .int x3), (4, .int x4), (5, .int x5)] → L_X2_seat_25 n x0 x1 x3 x4 x5 g = some res → W p l e (q_rm 2 47) s m args below meth c H locs 0 0 (q_ZW E below none res args s) (F0 m 25 ls []) := by
  have hx := C.1
  have hb := C.2.1
  intro n
  induction n with
  | zero =>
    intro x0 x1 x3 x4 x5 g H locs ls hj hl hf
    cases hf
  | succ n ih_ =>
    intro x0 x1 x3 x4 x5 g H locs ls hj hl hf
    have ih : ∀ (x0 : Nat) (x1 : Nat) (x3 : Int32) (x4 : Int32) (x5 : Int32) (g : qS) (H : Heap) (locs : List Loc) (ls : Array Slot), q_J E s g H locs → lv_has ls 6 [(0, .ref (q_ad E x0)), (1, .ref (q_ad E x1)), (3, .int x3), (4, .int x4), (5, .int x5)] → L_X2_seat_25 n x0 x1 x3 x4 x5 g = some res → W p l e (q_rm 2 47) s m args below meth c H locs 0 0 (q_ZW E below none res args s) (F0 m 25 ls []) := fun x0 x1 x3 x4 x5 g H locs ls hj hl hf => ih_ hj hl hf
    unfold L_X2_seat_25 at hf
    refine lv_iload hx hb dX2_seat_25 (lv_at hl 4 rfl) ?_
    refine lv_aload_n hx hb dX2_seat_27 rfl (lv_at hl 1 rfl) ?_
    refine lv_iconst (v := 3) hx hb dX2_seat_28 qi_3 ?_
    refine q_cVRI C hj cw_X2_30 (As := [.int 3]) (rest := [.int x5]) hf (fun v9 h9 => c_X3_count l E h9) rfl hl rfl rfl rfl dX2_seat_29 ⟨Nat.zero_le _, Nat.zero_le _⟩ (fun v1 hf => ?_)
    refine q_icge C (tgt := 60) dX2_seat_32 (by decide) hf (fun hf => ?_) (fun hf => ?_)
    · exact q_vretW C hj dX2_seat_60 hf
    · refine lv_aload_n hx hb dX2_seat_35 rfl (lv_at hl 0 rfl) ?_
      refine q_getR C hj lk_X2_20 dX2_seat_36 hf (fun v2 hf => ?_)
      refine lv_iconst (v := 0) hx hb dX2_seat_39 qi_0 ?_
      refine lv_iload hx hb dX2_seat_40 (lv_at hl 3 rfl) ?_
      refine lv_iload_n hx hb dX2_seat_42 rfl (lv_at hl 2 rfl) ?_
      refine q_irem C dX2_seat_43 hf (fun hf => ?_)
      refine lv_iconst (v := 1) hx hb dX2_seat_44 qi_1 ?_
      refine q_cVWV C hj cw_X2_58 (As := [.int 0, .int (x4 - x4 / x3 * x3), .int 1]) (rest := []) hf (fun g9 h9 => c_X8_add l E h9) rfl hl rfl rfl rfl dX2_seat_45 ⟨Nat.zero_le _, Nat.zero_le _⟩ (fun g3 H locs hj hf => ?_)
      refine lv_iload hx hb dX2_seat_48 (lv_at hl 3 rfl) ?_
      refine lv_iload_n hx hb dX2_seat_50 rfl (lv_at hl 2 rfl) ?_
      refine q_idiv C dX2_seat_51 hf (fun hf => ?_)
      refine lv_istore (lv' := [(4, .int (x4 / x3)), (0, .ref (q_ad E x0)), (1, .ref (q_ad E x1)), (3, .int x3), (5, .int x5)]) hx hb dX2_seat_52 hl (by decide) rfl (fun ls hl => ?_)
      refine lv_iinc (v := x5 + 1) (lv' := [(5, .int (x5 + 1)), (4, .int (x4 / x3)), (0, .ref (q_ad E x0)), (1, .ref (q_ad E x1)), (3, .int x3)]) hx hb dX2_seat_54 hl (k := 4) rfl (by rw [qi_1]) (by decide) rfl (fun ls hl => ?_)
      refine lv_goto (tgt := 25) hx hb dX2_seat_57 (by decide) ?_
      exact ih _ _ _ _ _ _ _ _ ls hj (lv_sub hl [2, 3, 4, 1, 0] rfl) hf
def f_X2_seat (g : qS) (a0 : Nat) (a1 : Nat) (a2 : Int32) : Option qS := (g_C g a0 1).bind fun _ => (f_X3_count g a1 4).bind fun v1 => if 0 < v1 then ((g_R g a0 1 1).bind fun v2 => (f_X8_fill g v2 0).bind fun g3 => L_X2_seat_25 1000000000 a0 a1 v1 a2 0 g3) else (some g)
set_option maxHeartbeats 4000000 in
set_option maxRecDepth 100000 in
theorem c_X2_seat (l : Launch) (E : qV) {g : qS} {a0 : Nat} {a1 : Nat} {a2 : Int32} {res : qS} (hf : f_X2_seat g a0 a1 a2 = some res) : q_MW l yX2_seat cX2_seat 6 none 2 47 E [.ref (q_ad E a0), .ref (q_ad E a1), .int a2] g none res ∧ ∃ fs, g a0 = some (.inr (1, fs)) := by
  unfold f_X2_seat at hf
  obtain ⟨u9, hu9, hf⟩ := q_ob hf
  refine ⟨q_ofW (by decide) rfl ?_, g_C_sp hu9⟩
  intro p e s m args below meth c ls C hj hl
  have hx := C.1
  have hb := C.2.1
  have C : q_C E p s m args meth c cX2_seat RX2 6 none := C
  have hl : lv_has ls 6 [(0, .ref (q_ad E a0)), (1, .ref (q_ad E a1)), (2, .int a2)] := hl
  refine lv_aload_n hx hb dX2_seat_0 rfl (lv_at hl 1 rfl) ?_
  refine lv_iconst (v := 4) hx hb dX2_seat_1 qi_4 ?_
  refine q_cVRI C hj cw_X2_30 (As := [.int 4]) (rest := []) hf (fun v9 h9 => c_X3_count l E h9) rfl hl rfl rfl rfl dX2_seat_2 ⟨Nat.zero_le _, Nat.zero_le _⟩ (fun v1 hf => ?_)
  refine lv_istore_n (lv' := [(3, .int v1), (0, .ref (q_ad E a0)), (1, .ref (q_ad E a1)), (2, .int a2)]) hx hb dX2_seat_5 rfl hl (by decide) rfl (fun ls hl => ?_)
  refine lv_iload_n hx hb dX2_seat_6 rfl (lv_at hl 0 rfl) ?_
  refine q_ifgt C (tgt := 11) dX2_seat_7 (by decide) hf (fun hf => ?_) (fun hf => ?_)
  · refine lv_aload_n hx hb dX2_seat_11 rfl (lv_at hl 1 rfl) ?_
    refine q_getR C hj lk_X2_20 dX2_seat_12 hf (fun v2 hf => ?_)
    refine lv_iconst (v := 0) hx hb dX2_seat_15 qi_0 ?_
    refine q_cVWV C hj cw_X2_47 (As := [.int 0]) (rest := []) hf (fun g9 h9 => c_X8_fill l E h9) rfl hl rfl rfl rfl dX2_seat_16 ⟨Nat.zero_le _, Nat.zero_le _⟩ (fun g3 H locs hj hf => ?_)
    refine lv_iload_n hx hb dX2_seat_19 rfl (lv_at hl 3 rfl) ?_
    refine lv_istore (lv' := [(4, .int a2), (3, .int v1), (0, .ref (q_ad E a0)), (1, .ref (q_ad E a1)), (2, .int a2)]) hx hb dX2_seat_20 hl (by decide) rfl (fun ls hl => ?_)
    refine lv_iconst (v := 0) hx hb dX2_seat_22 qi_0 ?_
    refine lv_istore (lv' := [(5, .int 0), (4, .int a2), (3, .int v1), (0, .ref (q_ad E a0)), (1, .ref (q_ad E a1)), (2, .int a2)]) hx hb dX2_seat_23 hl (by decide) rfl (fun ls hl => ?_)
    refine w_L_X2_seat_25 C  hj (lv_sub hl [3, 4, 2, 1, 0] rfl) hf
  · exact q_vretW C hj dX2_seat_10 hf
def f_X2_share (g : qS) (a0 : Nat) (a1 : Int32) (a2 : Int32) : Option Int32 := (g_C g a0 1).bind fun _ => if 0 < a2 then ((g_R g a0 1 0).bind fun v1 => (f_X8_get g v1 0 a1).bind fun v2 => if (a2 : Int32) = 0 then none else (some ((60 * v2) / a2))) else (some 0)
set_option maxHeartbeats 4000000 in
set_option maxRecDepth 100000 in
theorem c_X2_share (l : Launch) (E : qV) {g : qS} {a0 : Nat} {a1 : Int32} {a2 : Int32} {res : Int32} (hf : f_X2_share g a0 a1 a2 = some res) : q_MR l yX2_share cX2_share 3 (some .int) 1 23 E [.ref (q_ad E a0), .int a1, .int a2] g (some (.int res)) ∧ ∃ fs, g a0 = some (.inr (1, fs)) := by
  unfold f_X2_share at hf
  obtain ⟨u9, hu9, hf⟩ := q_ob hf
  refine ⟨q_ofR (by decide) rfl ?_, g_C_sp hu9⟩
  intro p e s m args below meth c ls C hw hl
  have hj : q_J E s g s.heap [] := ⟨hw, va_S.rf⟩
  have hx := C.1
  have hb := C.2.1
  have C : q_C E p s m args meth c cX2_share RX2 3 (some .int) := C
  have hl : lv_has ls 3 [(0, .ref (q_ad E a0)), (1, .int a1), (2, .int a2)] := hl
  refine lv_iload_n hx hb dX2_share_0 rfl (lv_at hl 2 rfl) ?_
  refine q_ifgt C (tgt := 8) dX2_share_1 (by decide) hf (fun hf => ?_) (fun hf => ?_)
  · refine lv_bipush (v := 60) hx hb dX2_share_8 (by decide) ?_
    refine lv_aload_n hx hb dX2_share_10 rfl (lv_at hl 0 rfl) ?_
    refine q_getR C hj lk_X2_14 dX2_share_11 hf (fun v1 hf => ?_)
    refine lv_iconst (v := 0) hx hb dX2_share_14 qi_0 ?_
    refine lv_iload_n hx hb dX2_share_15 rfl (lv_at hl 1 rfl) ?_
    refine q_cVRI C hj cw_X2_54 (As := [.int 0, .int a1]) (rest := [.int 60]) hf (fun v9 h9 => c_X8_get l E h9) rfl hl rfl rfl rfl dX2_share_16 ⟨Nat.zero_le _, Nat.zero_le _⟩ (fun v2 hf => ?_)
    refine lv_imul hx hb dX2_share_19 ?_
    refine lv_iload_n hx hb dX2_share_20 rfl (lv_at hl 2 rfl) ?_
    refine q_idiv C dX2_share_21 hf (fun hf => ?_)
    exact q_iretR C dX2_share_22 hf
  · refine lv_iconst (v := 0) hx hb dX2_share_4 qi_0 ?_
    refine lv_goto (tgt := 22) hx hb dX2_share_5 (by decide) ?_
    exact q_iretR C dX2_share_22 hf
def J_X2_isRest_45 (k9 : Nat → Int32 → Int32 → Int32 → Int32 → Option Int32) (g : qS) (x0 : Nat) (x1 : Int32) (x2 : Int32) (x3 : Int32) (x4 : Int32) (x5 : Int32) : Option Int32 := (f_X2_share g x0 x4 (x5 + 1)).bind fun v1 => k9 x0 x1 x2 (q_mx x3 v1) (x4 + 1)
set_option maxHeartbeats 4000000 in
set_option maxRecDepth 100000 in
theorem w_J_X2_isRest_45 {l : Launch} {E : qV} {p : Program} {e : Env} {s : State} {m : MethodId} {args : Array Value} {below : List Frame} {meth : Method} {c : Code} {k9 : Nat → Int32 → Int32 → Int32 → Int32 → Option Int32} {g : qS} {res : Int32} (C : q_C E p s m args meth c cX2_isRest RX2 6 (some .boolean)) (hk9 : ∀ (x0 : Nat) (x1 : Int32) (x2 : Int32) (x3 : Int32) (x4 : Int32) (ls : Array Slot), q_J E s g s.heap [] → lv_has ls 6 [(0, .ref (q_ad E x0)), (1, .int x1), (2, .int x2), (3, .int x3), (4, .int x4)] → k9 x0 x1 x2 x3 x4 = some res → W p l e (q_rm 2 45) s m args below meth c s.heap [] 0 0 (q_ZR below (some (.int res)) args s) (F0 m 9 ls [])) : ∀ {x0 : Nat} {x1 : Int32} {x2 : Int32} {x3 : Int32} {x4 : Int32} {x5 : Int32} {ls : Array Slot}, q_J E s g s.heap [] → lv_has ls 6 [(0, .ref (q_ad E x0)), (1, .int x1), (2, .int x2), (3, .int x3), (4, .int x4), (5, .int x5)] → J_X2_isRest_45 k9 g x0 x1 x2 x3 x4 x5 = some res → W p l e (q_rm 2 45) s m args below meth c s.heap [] 0 0 (q_ZR below (some (.int res)) args s) (F0 m 45 ls []) := by
  have hx := C.1
  have hb := C.2.1
  intro x0 x1 x2 x3 x4 x5 ls hj hl hf
  unfold J_X2_isRest_45 at hf
  refine lv_iload_n hx hb dX2_isRest_45 rfl (lv_at hl 3 rfl) ?_
  refine lv_aload_n hx hb dX2_isRest_46 rfl (lv_at hl 0 rfl) ?_
  refine lv_iload hx hb dX2_isRest_47 (lv_at hl 4 rfl) ?_
  refine lv_iload hx hb dX2_isRest_49 (lv_at hl 5 rfl) ?_
  refine lv_iconst (v := 1) hx hb dX2_isRest_51 qi_1 ?_
  refine lv_iadd hx hb dX2_isRest_52 ?_
  refine q_cVRI C hj cw_X2_62 (As := [.int x4, .int (x5 + 1)]) (rest := [.int x3]) hf (fun v9 h9 => c_X2_share l E h9) rfl hl rfl rfl rfl dX2_isRest_53 ⟨Nat.zero_le _, Nat.zero_le _⟩ (fun v1 hf => ?_)
  refine q_max C (q_ml_X2_70) rfl hl dX2_isRest_56 ?_
  refine lv_istore_n (lv' := [(3, .int (q_mx x3 v1)), (0, .ref (q_ad E x0)), (1, .int x1), (2, .int x2), (4, .int x4), (5, .int x5)]) hx hb dX2_isRest_59 rfl hl (by decide) rfl (fun ls hl => ?_)
  refine lv_iinc (v := x4 + 1) (lv' := [(4, .int (x4 + 1)), (3, .int (q_mx x3 v1)), (0, .ref (q_ad E x0)), (1, .int x1), (2, .int x2), (5, .int x5)]) hx hb dX2_isRest_60 hl (k := 4) rfl (by rw [qi_1]) (by decide) rfl (fun ls hl => ?_)
  refine lv_goto (tgt := 9) hx hb dX2_isRest_63 (by decide) ?_
  exact hk9 _ _ _ _ _  ls hj (lv_sub hl [2, 3, 4, 1, 0] rfl) hf
def L_X2_isRest_9  (g : qS) : Nat → Nat → Int32 → Int32 → Int32 → Int32 → Option Int32
  | 0, _, _, _, _, _ => none
  | n + 1, x0, x1, x2, x3, x4 => if x1 ≤ x4 then (if x2 < x3 then (some 0) else (some 1)) else ((g_R g x0 1 1).bind fun v1 => (f_X8_get g v1 0 x4).bind fun v2 => if v2 ≤ 0 then (J_X2_isRest_45 (L_X2_isRest_9 g n) g x0 x1 x2 x3 x4 v2) else ((f_X2_share g x0 x4 v2).bind fun v8 => J_X2_isRest_45 (L_X2_isRest_9 g n) g x0 x1 (q_mn x2 v8) x3 x4 v2))
set_option maxHeartbeats 4000000 in
set_option maxRecDepth 100000 in
theorem w_L_X2_isRest_9 {l : Launch} {E : qV} {p : Program} {e : Env} {s : State} {m : MethodId} {args : Array Value} {below : List Frame} {meth : Method} {c : Code}  {g : qS} {res : Int32} (C : q_C E p s m args meth c cX2_isRest RX2 6 (some .boolean))  : ∀ {n : Nat} {x0 : Nat} {x1 : Int32} {x2 : Int32} {x3 : Int32} {x4 : Int32} {ls : Array Slot}, q_J E s g s.heap [] → lv_has ls 6 [(0, .ref (q_ad E x0)), (1, .int x1), (2, .int x2), (3, .int x3), (4, .int x4)] → L_X2_isRest_9 g n x0 x1 x2 x3 x4 = some res → W p l e (q_rm 2 45) s m args below meth c s.heap [] 0 0 (q_ZR below (some (.int res)) args s) (F0 m 9 ls []) := by
  have hx := C.1
  have hb := C.2.1
  intro n
  induction n with
  | zero =>
    intro x0 x1 x2 x3 x4 ls hj hl hf
    cases hf
  | succ n ih_ =>
    intro x0 x1 x2 x3 x4 ls hj hl hf
    have ih : ∀ (x0 : Nat) (x1 : Int32) (x2 : Int32) (x3 : Int32) (x4 : Int32) (ls : Array Slot), q_J E s g s.heap [] → lv_has ls 6 [(0, .ref (q_ad E x0)), (1, .int x1), (2, .int x2), (3, .int x3), (4, .int x4)] → L_X2_isRest_9 g n x0 x1 x2 x3 x4 = some res → W p l e (q_rm 2 45) s m args below meth c s.heap [] 0 0 (q_ZR below (some (.int res)) args s) (F0 m 9 ls []) := fun x0 x1 x2 x3 x4 ls hj hl hf => ih_ hj hl hf
    unfold L_X2_isRest_9 at hf
    refine lv_iload hx hb dX2_isRest_9 (lv_at hl 4 rfl) ?_
    refine lv_iload_n hx hb dX2_isRest_11 rfl (lv_at hl 1 rfl) ?_
    refine q_icge C (tgt := 66) dX2_isRest_12 (by decide) hf (fun hf => ?_) (fun hf => ?_)
    · refine lv_iload_n hx hb dX2_isRest_66 rfl (lv_at hl 2 rfl) ?_
      refine lv_iload_n hx hb dX2_isRest_67 rfl (lv_at hl 3 rfl) ?_
      refine q_iclt C (tgt := 75) dX2_isRest_68 (by decide) hf (fun hf => ?_) (fun hf => ?_)
      · refine lv_iconst (v := 0) hx hb dX2_isRest_75 qi_0 ?_
        exact q_z0retR C dX2_isRest_76 hf
      · refine lv_iconst (v := 1) hx hb dX2_isRest_71 qi_1 ?_
        refine lv_goto (tgt := 76) hx hb dX2_isRest_72 (by decide) ?_
        exact q_z1retR C dX2_isRest_76 hf
    · refine lv_aload_n hx hb dX2_isRest_15 rfl (lv_at hl 0 rfl) ?_
      refine q_getR C hj lk_X2_20 dX2_isRest_16 hf (fun v1 hf => ?_)
      refine lv_iconst (v := 0) hx hb dX2_isRest_19 qi_0 ?_
      refine lv_iload hx hb dX2_isRest_20 (lv_at hl 4 rfl) ?_
      refine q_cVRI C hj cw_X2_54 (As := [.int 0, .int x4]) (rest := []) hf (fun v9 h9 => c_X8_get l E h9) rfl hl rfl rfl rfl dX2_isRest_22 ⟨Nat.zero_le _, Nat.zero_le _⟩ (fun v2 hf => ?_)
      refine lv_istore (lv' := [(5, .int v2), (0, .ref (q_ad E x0)), (1, .int x1), (2, .int x2), (3, .int x3), (4, .int x4)]) hx hb dX2_isRest_25 hl (by decide) rfl (fun ls hl => ?_)
      refine lv_iload hx hb dX2_isRest_27 (lv_at hl 0 rfl) ?_
      refine q_ifle C (tgt := 45) dX2_isRest_29 (by decide) hf (fun hf => ?_) (fun hf => ?_)
      · refine w_J_X2_isRest_45 C ih hj (lv_sub hl [1, 2, 3, 4, 5, 0] rfl) hf
      · refine lv_iload_n hx hb dX2_isRest_32 rfl (lv_at hl 3 rfl) ?_
        refine lv_aload_n hx hb dX2_isRest_33 rfl (lv_at hl 1 rfl) ?_
        refine lv_iload hx hb dX2_isRest_34 (lv_at hl 5 rfl) ?_
        refine lv_iload hx hb dX2_isRest_36 (lv_at hl 0 rfl) ?_
        refine q_cVRI C hj cw_X2_62 (As := [.int x4, .int v2]) (rest := [.int x2]) hf (fun v9 h9 => c_X2_share l E h9) rfl hl rfl rfl rfl dX2_isRest_38 ⟨Nat.zero_le _, Nat.zero_le _⟩ (fun v8 hf => ?_)
        refine q_min C (q_ml_X2_65) rfl hl dX2_isRest_41 ?_
        refine lv_istore_n (lv' := [(2, .int (q_mn x2 v8)), (5, .int v2), (0, .ref (q_ad E x0)), (1, .int x1), (3, .int x3), (4, .int x4)]) hx hb dX2_isRest_44 rfl hl (by decide) rfl (fun ls hl => ?_)
        refine w_J_X2_isRest_45 C ih hj (lv_sub hl [2, 3, 0, 4, 5, 1] rfl) hf
def f_X2_isRest (g : qS) (a0 : Nat) (a1 : Int32) : Option Int32 := (g_C g a0 1).bind fun _ => L_X2_isRest_9 g 1000000000 a0 a1 180 0 0
set_option maxHeartbeats 4000000 in
set_option maxRecDepth 100000 in
theorem c_X2_isRest (l : Launch) (E : qV) {g : qS} {a0 : Nat} {a1 : Int32} {res : Int32} (hf : f_X2_isRest g a0 a1 = some res) : q_MR l yX2_isRest cX2_isRest 6 (some .boolean) 2 45 E [.ref (q_ad E a0), .int a1] g (some (.int res)) ∧ ∃ fs, g a0 = some (.inr (1, fs)) := by
  unfold f_X2_isRest at hf
  obtain ⟨u9, hu9, hf⟩ := q_ob hf
  refine ⟨q_ofR (by decide) rfl ?_, g_C_sp hu9⟩
  intro p e s m args below meth c ls C hw hl
  have hj : q_J E s g s.heap [] := ⟨hw, va_S.rf⟩
  have hx := C.1
  have hb := C.2.1
  have C : q_C E p s m args meth c cX2_isRest RX2 6 (some .boolean) := C
  have hl : lv_has ls 6 [(0, .ref (q_ad E a0)), (1, .int a1)] := hl
  refine lv_sipush (v := 180) hx hb dX2_isRest_0 (by decide) ?_
  refine lv_istore_n (lv' := [(2, .int 180), (0, .ref (q_ad E a0)), (1, .int a1)]) hx hb dX2_isRest_3 rfl hl (by decide) rfl (fun ls hl => ?_)
  refine lv_iconst (v := 0) hx hb dX2_isRest_4 qi_0 ?_
  refine lv_istore_n (lv' := [(3, .int 0), (2, .int 180), (0, .ref (q_ad E a0)), (1, .int a1)]) hx hb dX2_isRest_5 rfl hl (by decide) rfl (fun ls hl => ?_)
  refine lv_iconst (v := 0) hx hb dX2_isRest_6 qi_0 ?_
  refine lv_istore (lv' := [(4, .int 0), (3, .int 0), (2, .int 180), (0, .ref (q_ad E a0)), (1, .int a1)]) hx hb dX2_isRest_7 hl (by decide) rfl (fun ls hl => ?_)
  refine w_L_X2_isRest_9 C  hj (lv_sub hl [3, 4, 2, 1, 0] rfl) hf
def L_X2_find_21 (k45 : Nat → Nat → Int32 → qS → Option qS) : Nat → Nat → Nat → Int32 → Int32 → qS → Option qS
  | 0, _, _, _, _, _ => none
  | n + 1, x0, x1, x3, x4, g => (f_X3_count g x1 3).bind fun v1 => if v1 ≤ x4 then (k45 x0 x1 x3 g) else ((f_X3_count g x1 4).bind fun v2 => L_X2_find_21 k45 n x0 x1 (x3 * v2) (x4 + 1) g)
set_option maxHeartbeats 4000000 in
set_option maxRecDepth 100000 in
theorem w_L_X2_find_21 {l : Launch} {E : qV} {p : Program} {e : Env} {s : State} {m : MethodId} {args : Array Value} {below : List Frame} {meth : Method} {c : Code} {k45 : Nat → Nat → Int32 → qS → Option qS} {res : qS} (C : q_C E p s m args meth c cX2_find RX2 5 none) (hk45 : ∀ (x0 : Nat) (x1 : Nat) (x3 : Int32) (g : qS) (H : Heap) (locs : List Loc) (ls : Array Slot), q_J E s g H locs → lv_has ls 5 [(0, .ref (q_ad E x0)), (1, .ref (q_ad E x1)), (3, .int x3)] → k45 x0 x1 x3 g = some res → W p l e (q_rm 3 72) s m args below meth c H locs 0 0 (q_ZW E below none res args s) (F0 m 45 ls [])) : ∀ {n : Nat} {x0 : Nat} {x1 : Nat} {x3 : Int32} {x4 : Int32} {g : qS} {H : Heap} {locs : List Loc} {ls : Array Slot}, q_J E s g H locs → lv_has ls 5 [(0, .ref (q_ad E x0)), (1, .ref (q_ad E x1)), (3, .int x3), (4, .int x4)] → L_X2_find_21 k45 n x0 x1 x3 x4 g = some res → W p l e (q_rm 3 72) s m args below meth c H locs 0 0 (q_ZW E below none res args s) (F0 m 21 ls []) := by
  have hx := C.1
  have hb := C.2.1
  intro n
  induction n with
  | zero =>
    intro x0 x1 x3 x4 g H locs ls hj hl hf
    cases hf
  | succ n ih_ =>
    intro x0 x1 x3 x4 g H locs ls hj hl hf
    have ih : ∀ (x0 : Nat) (x1 : Nat) (x3 : Int32) (x4 : Int32) (g : qS) (H : Heap) (locs : List Loc) (ls : Array Slot), q_J E s g H locs → lv_has ls 5 [(0, .ref (q_ad E x0)), (1, .ref (q_ad E x1)), (3, .int x3), (4, .int x4)] → L_X2_find_21 k45 n x0 x1 x3 x4 g = some res → W p l e (q_rm 3 72) s m args below meth c H locs 0 0 (q_ZW E below none res args s) (F0 m 21 ls []) := fun x0 x1 x3 x4 g H locs ls hj hl hf => ih_ hj hl hf
    unfold L_X2_find_21 at hf
    refine lv_iload hx hb dX2_find_21 (lv_at hl 3 rfl) ?_
    refine lv_aload_n hx hb dX2_find_23 rfl (lv_at hl 1 rfl) ?_
    refine lv_iconst (v := 3) hx hb dX2_find_24 qi_3 ?_
    refine q_cVRI C hj cw_X2_30 (As := [.int 3]) (rest := [.int x4]) hf (fun v9 h9 => c_X3_count l E h9) rfl hl rfl rfl rfl dX2_find_25 ⟨Nat.zero_le _, Nat.zero_le _⟩ (fun v1 hf => ?_)
    refine q_icge C (tgt := 45) dX2_find_28 (by decide) hf (fun hf => ?_) (fun hf => ?_)
    · exact hk45 _ _ _ _ _ _ ls hj (lv_sub hl [0, 1, 2] rfl) hf
    · refine lv_iload_n hx hb dX2_find_31 rfl (lv_at hl 2 rfl) ?_
      refine lv_aload_n hx hb dX2_find_32 rfl (lv_at hl 1 rfl) ?_
      refine lv_iconst (v := 4) hx hb dX2_find_33 qi_4 ?_
      refine q_cVRI C hj cw_X2_30 (As := [.int 4]) (rest := [.int x3]) hf (fun v9 h9 => c_X3_count l E h9) rfl hl rfl rfl rfl dX2_find_34 ⟨Nat.zero_le _, Nat.zero_le _⟩ (fun v2 hf => ?_)
      refine lv_imul hx hb dX2_find_37 ?_
      refine lv_istore_n (lv' := [(3, .int (x3 * v2)), (0, .ref (q_ad E x0)), (1, .ref (q_ad E x1)), (4, .int x4)]) hx hb dX2_find_38 rfl hl (by decide) rfl (fun ls hl => ?_)
      refine lv_iinc (v := x4 + 1) (lv' := [(4, .int (x4 + 1)), (3, .int (x3 * v2)), (0, .ref (q_ad E x0)), (1, .ref (q_ad E x1))]) hx hb dX2_find_39 hl (k := 3) rfl (by rw [qi_1]) (by decide) rfl (fun ls hl => ?_)
      refine lv_goto (tgt := 21) hx hb dX2_find_42 (by decide) ?_
      exact ih _ _ _ _ _ _ _ ls hj (lv_sub hl [2, 3, 1, 0] rfl) hf
def L_X2_find_48  : Nat → Nat → Nat → Int32 → Int32 → qS → Option qS
  | 0, _, _, _, _, _ => none
  | n + 1, x0, x1, x3, x4, g => if x3 ≤ x4 then (some g) else ((f_X2_seat g x0 x1 x4).bind fun g1 => (f_X3_count g1 x1 4).bind fun v2 => (f_X2_isRest g1 x0 v2).bind fun v3 => if v3 = 0 then (L_X2_find_48 n x0 x1 x3 (x4 + 1) g1) else ((g_I g1 x0 1 2).bind fun v4 => (p_I g1 x0 1 2 (v4 + 1)).bind fun g5 => (g_I g5 x0 1 3).bind fun v6 => if 0 ≤ v6 then ((g_I g5 x0 1 3).bind fun v7 => (p_I g5 x0 1 3 v7).bind fun g8 => L_X2_find_48 n x0 x1 x3 (x4 + 1) g8) else ((p_I g5 x0 1 3 x4).bind fun g9 => L_X2_find_48 n x0 x1 x3 (x4 + 1) g9)))
set_option maxHeartbeats 4000000 in
set_option maxRecDepth 100000 in
theorem w_L_X2_find_48 {l : Launch} {E : qV} {p : Program} {e : Env} {s : State} {m : MethodId} {args : Array Value} {below : List Frame} {meth : Method} {c : Code}  {res : qS} (C : q_C E p s m args meth c cX2_find RX2 5 none)  : ∀ {n : Nat} {x0 : Nat} {x1 : Nat} {x3 : Int32} {x4 : Int32} {g : qS} {H : Heap} {locs : List Loc} {ls : Array Slot}, q_J E s g H locs → lv_has ls 5 [(0, .ref (q_ad E x0)), (1, .ref (q_ad E x1)), (3, .int x3), (4, .int x4)] → L_X2_find_48 n x0 x1 x3 x4 g = some res → W p l e (q_rm 3 72) s m args below meth c H locs 0 0 (q_ZW E below none res args s) (F0 m 48 ls []) := by
  have hx := C.1
  have hb := C.2.1
  intro n
  induction n with
  | zero =>
    intro x0 x1 x3 x4 g H locs ls hj hl hf
    cases hf
  | succ n ih_ =>
    intro x0 x1 x3 x4 g H locs ls hj hl hf
    have ih : ∀ (x0 : Nat) (x1 : Nat) (x3 : Int32) (x4 : Int32) (g : qS) (H : Heap) (locs : List Loc) (ls : Array Slot), q_J E s g H locs → lv_has ls 5 [(0, .ref (q_ad E x0)), (1, .ref (q_ad E x1)), (3, .int x3), (4, .int x4)] → L_X2_find_48 n x0 x1 x3 x4 g = some res → W p l e (q_rm 3 72) s m args below meth c H locs 0 0 (q_ZW E below none res args s) (F0 m 48 ls []) := fun x0 x1 x3 x4 g H locs ls hj hl hf => ih_ hj hl hf
    unfold L_X2_find_48 at hf
    refine lv_iload hx hb dX2_find_48 (lv_at hl 3 rfl) ?_
    refine lv_iload_n hx hb dX2_find_50 rfl (lv_at hl 2 rfl) ?_
    refine q_icge C (tgt := 109) dX2_find_51 (by decide) hf (fun hf => ?_) (fun hf => ?_)
    · exact q_vretW C hj dX2_find_109 hf
    · refine lv_aload_n hx hb dX2_find_54 rfl (lv_at hl 0 rfl) ?_
      refine lv_aload_n hx hb dX2_find_55 rfl (lv_at hl 1 rfl) ?_
      refine lv_iload hx hb dX2_find_56 (lv_at hl 3 rfl) ?_
      refine q_cVWV C hj cw_X2_40 (As := [.ref (q_ad E x1), .int x4]) (rest := []) hf (fun g9 h9 => c_X2_seat l E h9) rfl hl rfl rfl rfl dX2_find_58 ⟨Nat.zero_le _, Nat.zero_le _⟩ (fun g1 H locs hj hf => ?_)
      refine lv_aload_n hx hb dX2_find_61 rfl (lv_at hl 0 rfl) ?_
      refine lv_aload_n hx hb dX2_find_62 rfl (lv_at hl 1 rfl) ?_
      refine lv_iconst (v := 4) hx hb dX2_find_63 qi_4 ?_
      refine q_cVRI C hj cw_X2_30 (As := [.int 4]) (rest := [.ref (q_ad E x0)]) hf (fun v9 h9 => c_X3_count l E h9) rfl hl rfl rfl rfl dX2_find_64 ⟨Nat.zero_le _, Nat.zero_le _⟩ (fun v2 hf => ?_)
      refine q_cVRI C hj cw_X2_43 (As := [.int v2]) (rest := []) hf (fun v9 h9 => c_X2_isRest l E h9) rfl hl rfl rfl rfl dX2_find_67 ⟨Nat.zero_le _, Nat.zero_le _⟩ (fun v3 hf => ?_)
      refine q_ifeq C (tgt := 103) dX2_find_70 (by decide) hf (fun hf => ?_) (fun hf => ?_)
      · refine lv_iinc (v := x4 + 1) (lv' := [(4, .int (x4 + 1)), (0, .ref (q_ad E x0)), (1, .ref (q_ad E x1)), (3, .int x3)]) hx hb dX2_find_103 hl (k := 3) rfl (by rw [qi_1]) (by decide) rfl (fun ls hl => ?_)
        refine lv_goto (tgt := 48) hx hb dX2_find_106 (by decide) ?_
        exact ih _ _ _ _ _ _ _ ls hj (lv_sub hl [1, 2, 3, 0] rfl) hf
      · refine lv_aload_n hx hb dX2_find_73 rfl (lv_at hl 0 rfl) ?_
        refine lv_dup hx hb dX2_find_74 rfl ?_
        refine q_getI C hj lk_X2_23 dX2_find_75 hf (fun v4 hf => ?_)
        refine lv_iconst (v := 1) hx hb dX2_find_78 qi_1 ?_
        refine lv_iadd hx hb dX2_find_79 ?_
        refine q_putI C hj fp_X2_23 dX2_find_80 hf (fun g5 H locs hj hf => ?_)
        refine lv_aload_n hx hb dX2_find_83 rfl (lv_at hl 0 rfl) ?_
        refine lv_aload_n hx hb dX2_find_84 rfl (lv_at hl 0 rfl) ?_
        refine q_getI C hj lk_X2_27 dX2_find_85 hf (fun v6 hf => ?_)
        refine q_ifge C (tgt := 96) dX2_find_88 (by decide) hf (fun hf => ?_) (fun hf => ?_)
        · refine lv_aload_n hx hb dX2_find_96 rfl (lv_at hl 0 rfl) ?_
          refine q_getI C hj lk_X2_27 dX2_find_97 hf (fun v7 hf => ?_)
          refine q_putI C hj fp_X2_27 dX2_find_100 hf (fun g8 H locs hj hf => ?_)
          refine lv_iinc (v := x4 + 1) (lv' := [(4, .int (x4 + 1)), (0, .ref (q_ad E x0)), (1, .ref (q_ad E x1)), (3, .int x3)]) hx hb dX2_find_103 hl (k := 3) rfl (by rw [qi_1]) (by decide) rfl (fun ls hl => ?_)
          refine lv_goto (tgt := 48) hx hb dX2_find_106 (by decide) ?_
          exact ih _ _ _ _ _ _ _ ls hj (lv_sub hl [1, 2, 3, 0] rfl) hf
        · refine lv_iload hx hb dX2_find_91 (lv_at hl 3 rfl) ?_
          refine lv_goto (tgt := 100) hx hb dX2_find_93 (by decide) ?_
          refine q_putI C hj fp_X2_27 dX2_find_100 hf (fun g9 H locs hj hf => ?_)
          refine lv_iinc (v := x4 + 1) (lv' := [(4, .int (x4 + 1)), (0, .ref (q_ad E x0)), (1, .ref (q_ad E x1)), (3, .int x3)]) hx hb dX2_find_103 hl (k := 3) rfl (by rw [qi_1]) (by decide) rfl (fun ls hl => ?_)
          refine lv_goto (tgt := 48) hx hb dX2_find_106 (by decide) ?_
          exact ih _ _ _ _ _ _ _ ls hj (lv_sub hl [1, 2, 3, 0] rfl) hf
def f_X2_find (g : qS) (a0 : Nat) (a1 : Nat) (a2 : Int32) : Option qS := (g_C g a0 1).bind fun _ => (p_I g a0 1 2 0).bind fun g1 => (p_I g1 a0 1 3 (-1)).bind fun g2 => (f_X2_countGivers g2 a0 a1 a2).bind fun g3 => L_X2_find_21 (fun y4 y5 y6 g7 => L_X2_find_48 1000000000 y4 y5 y6 0 g7) 1000000000 a0 a1 1 0 g3
set_option maxHeartbeats 4000000 in
set_option maxRecDepth 100000 in
theorem c_X2_find (l : Launch) (E : qV) {g : qS} {a0 : Nat} {a1 : Nat} {a2 : Int32} {res : qS} (hf : f_X2_find g a0 a1 a2 = some res) : q_MW l yX2_find cX2_find 5 none 3 72 E [.ref (q_ad E a0), .ref (q_ad E a1), .int a2] g none res ∧ ∃ fs, g a0 = some (.inr (1, fs)) := by
  unfold f_X2_find at hf
  obtain ⟨u9, hu9, hf⟩ := q_ob hf
  refine ⟨q_ofW (by decide) rfl ?_, g_C_sp hu9⟩
  intro p e s m args below meth c ls C hj hl
  have hx := C.1
  have hb := C.2.1
  have C : q_C E p s m args meth c cX2_find RX2 5 none := C
  have hl : lv_has ls 5 [(0, .ref (q_ad E a0)), (1, .ref (q_ad E a1)), (2, .int a2)] := hl
  refine lv_aload_n hx hb dX2_find_0 rfl (lv_at hl 0 rfl) ?_
  refine lv_iconst (v := 0) hx hb dX2_find_1 qi_0 ?_
  refine q_putI C hj fp_X2_23 dX2_find_2 hf (fun g1 H locs hj hf => ?_)
  refine lv_aload_n hx hb dX2_find_5 rfl (lv_at hl 0 rfl) ?_
  refine lv_iconst (v := -1) hx hb dX2_find_6 qi_m1 ?_
  refine q_putI C hj fp_X2_27 dX2_find_7 hf (fun g2 H locs hj hf => ?_)
  refine lv_aload_n hx hb dX2_find_10 rfl (lv_at hl 0 rfl) ?_
  refine lv_aload_n hx hb dX2_find_11 rfl (lv_at hl 1 rfl) ?_
  refine lv_iload_n hx hb dX2_find_12 rfl (lv_at hl 2 rfl) ?_
  refine q_cVWV C hj cw_X2_36 (As := [.ref (q_ad E a1), .int a2]) (rest := []) hf (fun g9 h9 => c_X2_countGivers l E h9) rfl hl rfl rfl rfl dX2_find_13 ⟨Nat.zero_le _, Nat.zero_le _⟩ (fun g3 H locs hj hf => ?_)
  refine lv_iconst (v := 1) hx hb dX2_find_16 qi_1 ?_
  refine lv_istore_n (lv' := [(3, .int 1), (0, .ref (q_ad E a0)), (1, .ref (q_ad E a1)), (2, .int a2)]) hx hb dX2_find_17 rfl hl (by decide) rfl (fun ls hl => ?_)
  refine lv_iconst (v := 0) hx hb dX2_find_18 qi_0 ?_
  refine lv_istore (lv' := [(4, .int 0), (3, .int 1), (0, .ref (q_ad E a0)), (1, .ref (q_ad E a1)), (2, .int a2)]) hx hb dX2_find_19 hl (by decide) rfl (fun ls hl => ?_)
  refine w_L_X2_find_21 C (fun y4 y5 y6 g7 H locs ls hj hl hf => ?_) hj (lv_sub hl [2, 3, 1, 0] rfl) hf
  · refine lv_iconst (v := 0) hx hb dX2_find_45 qi_0 ?_
    refine lv_istore (lv' := [(4, .int 0), (0, .ref (q_ad E y4)), (1, .ref (q_ad E y5)), (3, .int y6)]) hx hb dX2_find_46 hl (by decide) rfl (fun ls hl => ?_)
    refine w_L_X2_find_48 C  hj (lv_sub hl [1, 2, 3, 0] rfl) hf
def f_X2_rowCount (g : qS) (a0 : Nat) : Option Int32 := (g_C g a0 1).bind fun _ => (g_I g a0 1 2).bind fun v1 => some v1
set_option maxHeartbeats 4000000 in
set_option maxRecDepth 100000 in
theorem c_X2_rowCount (l : Launch) (E : qV) {g : qS} {a0 : Nat} {res : Int32} (hf : f_X2_rowCount g a0 = some res) : q_MR l yX2_rowCount cX2_rowCount 1 (some .int) 0 0 E [.ref (q_ad E a0)] g (some (.int res)) ∧ ∃ fs, g a0 = some (.inr (1, fs)) := by
  unfold f_X2_rowCount at hf
  obtain ⟨u9, hu9, hf⟩ := q_ob hf
  refine ⟨q_ofR (by decide) rfl ?_, g_C_sp hu9⟩
  intro p e s m args below meth c ls C hw hl
  have hj : q_J E s g s.heap [] := ⟨hw, va_S.rf⟩
  have hx := C.1
  have hb := C.2.1
  have C : q_C E p s m args meth c cX2_rowCount RX2 1 (some .int) := C
  have hl : lv_has ls 1 [(0, .ref (q_ad E a0))] := hl
  refine lv_aload_n hx hb dX2_rowCount_0 rfl (lv_at hl 0 rfl) ?_
  refine q_getI C hj lk_X2_23 dX2_rowCount_1 hf (fun v1 hf => ?_)
  exact q_iretR C dX2_rowCount_4 hf
def L_X2_firstTramOf_35  (g : qS) : Nat → Int32 → Int32 → Int32 → Int32 → Option Int32
  | 0, _, _, _, _ => none
  | n + 1, x2, x3, x4, x5 => if x5 ≤ x2 then (if (x3 : Int32) = 0 then none else (some (x4 - x4 / x3 * x3))) else (if (x3 : Int32) = 0 then none else (L_X2_firstTramOf_35 g n x2 x3 (x4 / x3) (x5 + (-1))))
set_option maxHeartbeats 4000000 in
set_option maxRecDepth 100000 in
theorem w_L_X2_firstTramOf_35 {l : Launch} {E : qV} {p : Program} {e : Env} {s : State} {m : MethodId} {args : Array Value} {below : List Frame} {meth : Method} {c : Code}  {g : qS} {res : Int32} (C : q_C E p s m args meth c cX2_firstTramOf RX2 6 (some .int))  : ∀ {n : Nat} {x2 : Int32} {x3 : Int32} {x4 : Int32} {x5 : Int32} {ls : Array Slot}, q_J E s g s.heap [] → lv_has ls 6 [(2, .int x2), (3, .int x3), (4, .int x4), (5, .int x5)] → L_X2_firstTramOf_35 g n x2 x3 x4 x5 = some res → W p l e (q_rm 2 44) s m args below meth c s.heap [] 0 0 (q_ZR below (some (.int res)) args s) (F0 m 35 ls []) := by
  have hx := C.1
  have hb := C.2.1
  intro n
  induction n with
  | zero =>
    intro x2 x3 x4 x5 ls hj hl hf
    cases hf
  | succ n ih_ =>
    intro x2 x3 x4 x5 ls hj hl hf
    have ih : ∀ (x2 : Int32) (x3 : Int32) (x4 : Int32) (x5 : Int32) (ls : Array Slot), q_J E s g s.heap [] → lv_has ls 6 [(2, .int x2), (3, .int x3), (4, .int x4), (5, .int x5)] → L_X2_firstTramOf_35 g n x2 x3 x4 x5 = some res → W p l e (q_rm 2 44) s m args below meth c s.heap [] 0 0 (q_ZR below (some (.int res)) args s) (F0 m 35 ls []) := fun x2 x3 x4 x5 ls hj hl hf => ih_ hj hl hf
    unfold L_X2_firstTramOf_35 at hf
    refine lv_iload hx hb dX2_firstTramOf_35 (lv_at hl 3 rfl) ?_
    refine lv_iload_n hx hb dX2_firstTramOf_37 rfl (lv_at hl 0 rfl) ?_
    refine q_icle C (tgt := 53) dX2_firstTramOf_38 (by decide) hf (fun hf => ?_) (fun hf => ?_)
    · refine lv_iload hx hb dX2_firstTramOf_53 (lv_at hl 2 rfl) ?_
      refine lv_iload_n hx hb dX2_firstTramOf_55 rfl (lv_at hl 1 rfl) ?_
      refine q_irem C dX2_firstTramOf_56 hf (fun hf => ?_)
      exact q_iretR C dX2_firstTramOf_57 hf
    · refine lv_iload hx hb dX2_firstTramOf_41 (lv_at hl 2 rfl) ?_
      refine lv_iload_n hx hb dX2_firstTramOf_43 rfl (lv_at hl 1 rfl) ?_
      refine q_idiv C dX2_firstTramOf_44 hf (fun hf => ?_)
      refine lv_istore (lv' := [(4, .int (x4 / x3)), (2, .int x2), (3, .int x3), (5, .int x5)]) hx hb dX2_firstTramOf_45 hl (by decide) rfl (fun ls hl => ?_)
      refine lv_iinc (v := x5 + (-1)) (lv' := [(5, .int (x5 + (-1))), (4, .int (x4 / x3)), (2, .int x2), (3, .int x3)]) hx hb dX2_firstTramOf_47 hl (k := 3) rfl (by rw [qi_m1]) (by decide) rfl (fun ls hl => ?_)
      refine lv_goto (tgt := 35) hx hb dX2_firstTramOf_50 (by decide) ?_
      exact ih _ _ _ _  ls hj (lv_sub hl [2, 3, 1, 0] rfl) hf
def f_X2_firstTramOf (g : qS) (a0 : Nat) (a1 : Nat) (a2 : Int32) : Option Int32 := (g_C g a0 1).bind fun _ => (f_X3_count g a1 4).bind fun v1 => (g_I g a0 1 3).bind fun v2 => if v2 < 0 then (some (-2)) else (if 0 < v1 then ((g_I g a0 1 3).bind fun v3 => (f_X3_count g a1 3).bind fun v4 => L_X2_firstTramOf_35 g 1000000000 a2 v1 v3 (v4 - 1)) else (some (-2)))
set_option maxHeartbeats 4000000 in
set_option maxRecDepth 100000 in
theorem c_X2_firstTramOf (l : Launch) (E : qV) {g : qS} {a0 : Nat} {a1 : Nat} {a2 : Int32} {res : Int32} (hf : f_X2_firstTramOf g a0 a1 a2 = some res) : q_MR l yX2_firstTramOf cX2_firstTramOf 6 (some .int) 2 44 E [.ref (q_ad E a0), .ref (q_ad E a1), .int a2] g (some (.int res)) ∧ ∃ fs, g a0 = some (.inr (1, fs)) := by
  unfold f_X2_firstTramOf at hf
  obtain ⟨u9, hu9, hf⟩ := q_ob hf
  refine ⟨q_ofR (by decide) rfl ?_, g_C_sp hu9⟩
  intro p e s m args below meth c ls C hw hl
  have hj : q_J E s g s.heap [] := ⟨hw, va_S.rf⟩
  have hx := C.1
  have hb := C.2.1
  have C : q_C E p s m args meth c cX2_firstTramOf RX2 6 (some .int) := C
  have hl : lv_has ls 6 [(0, .ref (q_ad E a0)), (1, .ref (q_ad E a1)), (2, .int a2)] := hl
  refine lv_aload_n hx hb dX2_firstTramOf_0 rfl (lv_at hl 1 rfl) ?_
  refine lv_iconst (v := 4) hx hb dX2_firstTramOf_1 qi_4 ?_
  refine q_cVRI C hj cw_X2_30 (As := [.int 4]) (rest := []) hf (fun v9 h9 => c_X3_count l E h9) rfl hl rfl rfl rfl dX2_firstTramOf_2 ⟨Nat.zero_le _, Nat.zero_le _⟩ (fun v1 hf => ?_)
  refine lv_istore_n (lv' := [(3, .int v1), (0, .ref (q_ad E a0)), (1, .ref (q_ad E a1)), (2, .int a2)]) hx hb dX2_firstTramOf_5 rfl hl (by decide) rfl (fun ls hl => ?_)
  refine lv_aload_n hx hb dX2_firstTramOf_6 rfl (lv_at hl 1 rfl) ?_
  refine q_getI C hj lk_X2_27 dX2_firstTramOf_7 hf (fun v2 hf => ?_)
  refine q_iflt C (tgt := 17) dX2_firstTramOf_10 (by decide) hf (fun hf => ?_) (fun hf => ?_)
  · refine lv_bipush (v := -2) hx hb dX2_firstTramOf_17 (by decide) ?_
    exact q_iretR C dX2_firstTramOf_19 hf
  · refine lv_iload_n hx hb dX2_firstTramOf_13 rfl (lv_at hl 0 rfl) ?_
    refine q_ifgt C (tgt := 20) dX2_firstTramOf_14 (by decide) hf (fun hf => ?_) (fun hf => ?_)
    · refine lv_aload_n hx hb dX2_firstTramOf_20 rfl (lv_at hl 1 rfl) ?_
      refine q_getI C hj lk_X2_27 dX2_firstTramOf_21 hf (fun v3 hf => ?_)
      refine lv_istore (lv' := [(4, .int v3), (3, .int v1), (0, .ref (q_ad E a0)), (1, .ref (q_ad E a1)), (2, .int a2)]) hx hb dX2_firstTramOf_24 hl (by decide) rfl (fun ls hl => ?_)
      refine lv_aload_n hx hb dX2_firstTramOf_26 rfl (lv_at hl 3 rfl) ?_
      refine lv_iconst (v := 3) hx hb dX2_firstTramOf_27 qi_3 ?_
      refine q_cVRI C hj cw_X2_30 (As := [.int 3]) (rest := []) hf (fun v9 h9 => c_X3_count l E h9) rfl hl rfl rfl rfl dX2_firstTramOf_28 ⟨Nat.zero_le _, Nat.zero_le _⟩ (fun v4 hf => ?_)
      refine lv_iconst (v := 1) hx hb dX2_firstTramOf_31 qi_1 ?_
      refine lv_isub hx hb dX2_firstTramOf_32 ?_
      refine lv_istore (lv' := [(5, .int (v4 - 1)), (4, .int v3), (3, .int v1), (0, .ref (q_ad E a0)), (1, .ref (q_ad E a1)), (2, .int a2)]) hx hb dX2_firstTramOf_33 hl (by decide) rfl (fun ls hl => ?_)
      refine w_L_X2_firstTramOf_35 C  hj (lv_sub hl [5, 2, 1, 0] rfl) hf
    · refine lv_bipush (v := -2) hx hb dX2_firstTramOf_17 (by decide) ?_
      exact q_iretR C dX2_firstTramOf_19 hf
def L_X1_power_5  (g : qS) : Nat → Int64 → Int32 → Int64 → Int32 → Option Int64
  | 0, _, _, _, _ => none
  | n + 1, x0, x2, x3, x5 => if x2 ≤ x5 then (some x3) else (L_X1_power_5 g n x0 x2 (x3 * x0) (x5 + 1))
set_option maxHeartbeats 4000000 in
set_option maxRecDepth 100000 in
theorem w_L_X1_power_5 {l : Launch} {E : qV} {p : Program} {e : Env} {s : State} {m : MethodId} {args : Array Value} {below : List Frame} {meth : Method} {c : Code}  {g : qS} {res : Int64} (C : q_C E p s m args meth c cX1_power RX1 6 (some .long))  : ∀ {n : Nat} {x0 : Int64} {x2 : Int32} {x3 : Int64} {x5 : Int32} {ls : Array Slot}, q_J E s g s.heap [] → lv_has ls 6 [(0, .long x0), (2, .int x2), (3, .long x3), (5, .int x5)] → L_X1_power_5 g n x0 x2 x3 x5 = some res → W p l e (q_rm 0 0) s m args below meth c s.heap [] 0 0 (q_ZR below (some (.long res)) args s) (F0 m 5 ls []) := by
  have hx := C.1
  have hb := C.2.1
  intro n
  induction n with
  | zero =>
    intro x0 x2 x3 x5 ls hj hl hf
    cases hf
  | succ n ih_ =>
    intro x0 x2 x3 x5 ls hj hl hf
    have ih : ∀ (x0 : Int64) (x2 : Int32) (x3 : Int64) (x5 : Int32) (ls : Array Slot), q_J E s g s.heap [] → lv_has ls 6 [(0, .long x0), (2, .int x2), (3, .long x3), (5, .int x5)] → L_X1_power_5 g n x0 x2 x3 x5 = some res → W p l e (q_rm 0 0) s m args below meth c s.heap [] 0 0 (q_ZR below (some (.long res)) args s) (F0 m 5 ls []) := fun x0 x2 x3 x5 ls hj hl hf => ih_ hj hl hf
    unfold L_X1_power_5 at hf
    refine lv_iload hx hb dX1_power_5 (lv_at hl 3 rfl) ?_
    refine lv_iload_n hx hb dX1_power_7 rfl (lv_at hl 1 rfl) ?_
    refine q_icge C (tgt := 21) dX1_power_8 (by decide) hf (fun hf => ?_) (fun hf => ?_)
    · refine lv_lload_n hx hb dX1_power_21 rfl (lv_at hl 2 rfl) ?_
      exact q_lretR C dX1_power_22 hf
    · refine lv_lload_n hx hb dX1_power_11 rfl (lv_at hl 2 rfl) ?_
      refine lv_lload_n hx hb dX1_power_12 rfl (lv_at hl 0 rfl) ?_
      refine lv_lmul hx hb dX1_power_13 ?_
      refine lv_lstore_n (lv' := [(3, .long (x3 * x0)), (0, .long x0), (2, .int x2), (5, .int x5)]) hx hb dX1_power_14 rfl hl (by decide) rfl (fun ls hl => ?_)
      refine lv_iinc (v := x5 + 1) (lv' := [(5, .int (x5 + 1)), (3, .long (x3 * x0)), (0, .long x0), (2, .int x2)]) hx hb dX1_power_15 hl (k := 3) rfl (by rw [qi_1]) (by decide) rfl (fun ls hl => ?_)
      refine lv_goto (tgt := 5) hx hb dX1_power_18 (by decide) ?_
      exact ih _ _ _ _  ls hj (lv_sub hl [2, 3, 1, 0] rfl) hf
def f_X1_power (g : qS) (a0 : Int64) (a1 : Int32) : Option Int64 := L_X1_power_5 g 1000000000 a0 a1 1 0
set_option maxHeartbeats 4000000 in
set_option maxRecDepth 100000 in
theorem c_X1_power (l : Launch) (E : qV) {g : qS} {a0 : Int64} {a1 : Int32} {res : Int64} (hf : f_X1_power g a0 a1 = some res) : q_MR l yX1_power cX1_power 6 (some .long) 0 0 E [.long a0, .int a1] g (some (.long res)) := by
  unfold f_X1_power at hf
  refine q_ofR (by decide) rfl ?_
  intro p e s m args below meth c ls C hw hl
  have hj : q_J E s g s.heap [] := ⟨hw, va_S.rf⟩
  have hx := C.1
  have hb := C.2.1
  have C : q_C E p s m args meth c cX1_power RX1 6 (some .long) := C
  have hl : lv_has ls 6 [(0, .long a0), (2, .int a1)] := hl
  refine lv_lconst (v := 1) hx hb dX1_power_0 (by decide) ?_
  refine lv_lstore_n (lv' := [(3, .long 1), (0, .long a0), (2, .int a1)]) hx hb dX1_power_1 rfl hl (by decide) rfl (fun ls hl => ?_)
  refine lv_iconst (v := 0) hx hb dX1_power_2 qi_0 ?_
  refine lv_istore (lv' := [(5, .int 0), (3, .long 1), (0, .long a0), (2, .int a1)]) hx hb dX1_power_3 hl (by decide) rfl (fun ls hl => ?_)
  refine w_L_X1_power_5 C  hj (lv_sub hl [2, 3, 1, 0] rfl) hf
def f_X1_scaledMean (g : qS) (a0 : Int32) (a1 : Int32) : Option Int64 := (f_X1_power g ((100 - a1).toInt64) a0).bind fun v1 => (f_X1_power g 100 (8 - a0)).bind fun v2 => some ((a0.toInt64 * v1) * v2)
set_option maxHeartbeats 4000000 in
set_option maxRecDepth 100000 in
theorem c_X1_scaledMean (l : Launch) (E : qV) {g : qS} {a0 : Int32} {a1 : Int32} {res : Int64} (hf : f_X1_scaledMean g a0 a1 = some res) : q_MR l yX1_scaledMean cX1_scaledMean 2 (some .long) 1 25 E [.int a0, .int a1] g (some (.long res)) := by
  unfold f_X1_scaledMean at hf
  refine q_ofR (by decide) rfl ?_
  intro p e s m args below meth c ls C hw hl
  have hj : q_J E s g s.heap [] := ⟨hw, va_S.rf⟩
  have hx := C.1
  have hb := C.2.1
  have C : q_C E p s m args meth c cX1_scaledMean RX1 2 (some .long) := C
  have hl : lv_has ls 2 [(0, .int a0), (1, .int a1)] := hl
  refine lv_iload_n hx hb dX1_scaledMean_0 rfl (lv_at hl 0 rfl) ?_
  refine lv_i2l hx hb dX1_scaledMean_1 rfl ?_
  refine lv_bipush (v := 100) hx hb dX1_scaledMean_2 (by decide) ?_
  refine lv_iload_n hx hb dX1_scaledMean_4 rfl (lv_at hl 1 rfl) ?_
  refine lv_isub hx hb dX1_scaledMean_5 ?_
  refine lv_i2l hx hb dX1_scaledMean_6 rfl ?_
  refine lv_iload_n hx hb dX1_scaledMean_7 rfl (lv_at hl 0 rfl) ?_
  refine q_cSRL C hj cw_X1_53 (As := [.long ((100 - a1).toInt64), .int a0]) (rest := [.long a0.toInt64]) hf (fun v9 h9 => c_X1_power l E h9) rfl hl rfl rfl rfl dX1_scaledMean_8 ⟨Nat.zero_le _, Nat.zero_le _⟩ (fun v1 hf => ?_)
  refine lv_lmul hx hb dX1_scaledMean_11 ?_
  refine lv_ldc2 (v := 100) hx hb C.2.2.2.1 (C.2.2.2.2.1 _ kc_X1_57) dX1_scaledMean_12 ?_
  refine lv_bipush (v := 8) hx hb dX1_scaledMean_15 (by decide) ?_
  refine lv_iload_n hx hb dX1_scaledMean_17 rfl (lv_at hl 0 rfl) ?_
  refine lv_isub hx hb dX1_scaledMean_18 ?_
  refine q_cSRL C hj cw_X1_53 (As := [.long 100, .int (8 - a0)]) (rest := [.long (a0.toInt64 * v1)]) hf (fun v9 h9 => c_X1_power l E h9) rfl hl rfl rfl rfl dX1_scaledMean_19 ⟨Nat.zero_le _, Nat.zero_le _⟩ (fun v2 hf => ?_)
  refine lv_lmul hx hb dX1_scaledMean_22 ?_
  exact q_lretR C dX1_scaledMean_23 hf
def L_X1_bestSteps_4  (g : qS) : Nat → Int32 → Int32 → Int32 → Option Int32
  | 0, _, _, _ => none
  | n + 1, x0, x1, x2 => if 8 < x2 then (some x1) else ((f_X1_scaledMean g x2 x0).bind fun v1 => (f_X1_scaledMean g x1 x0).bind fun v2 => if v1 ≤ v2 then (L_X1_bestSteps_4 g n x0 x1 (x2 + 1)) else (L_X1_bestSteps_4 g n x0 x2 (x2 + 1)))
set_option maxHeartbeats 4000000 in
set_option maxRecDepth 100000 in
theorem w_L_X1_bestSteps_4 {l : Launch} {E : qV} {p : Program} {e : Env} {s : State} {m : MethodId} {args : Array Value} {below : List Frame} {meth : Method} {c : Code}  {g : qS} {res : Int32} (C : q_C E p s m args meth c cX1_bestSteps RX1 3 (some .int))  : ∀ {n : Nat} {x0 : Int32} {x1 : Int32} {x2 : Int32} {ls : Array Slot}, q_J E s g s.heap [] → lv_has ls 3 [(0, .int x0), (1, .int x1), (2, .int x2)] → L_X1_bestSteps_4 g n x0 x1 x2 = some res → W p l e (q_rm 2 46) s m args below meth c s.heap [] 0 0 (q_ZR below (some (.int res)) args s) (F0 m 4 ls []) := by
  have hx := C.1
  have hb := C.2.1
  intro n
  induction n with
  | zero =>
    intro x0 x1 x2 ls hj hl hf
    cases hf
  | succ n ih_ =>
    intro x0 x1 x2 ls hj hl hf
    have ih : ∀ (x0 : Int32) (x1 : Int32) (x2 : Int32) (ls : Array Slot), q_J E s g s.heap [] → lv_has ls 3 [(0, .int x0), (1, .int x1), (2, .int x2)] → L_X1_bestSteps_4 g n x0 x1 x2 = some res → W p l e (q_rm 2 46) s m args below meth c s.heap [] 0 0 (q_ZR below (some (.int res)) args s) (F0 m 4 ls []) := fun x0 x1 x2 ls hj hl hf => ih_ hj hl hf
    unfold L_X1_bestSteps_4 at hf
    refine lv_iload_n hx hb dX1_bestSteps_4 rfl (lv_at hl 2 rfl) ?_
    refine lv_bipush (v := 8) hx hb dX1_bestSteps_5 (by decide) ?_
    refine q_icgt C (tgt := 32) dX1_bestSteps_7 (by decide) hf (fun hf => ?_) (fun hf => ?_)
    · refine lv_iload_n hx hb dX1_bestSteps_32 rfl (lv_at hl 1 rfl) ?_
      exact q_iretR C dX1_bestSteps_33 hf
    · refine lv_iload_n hx hb dX1_bestSteps_10 rfl (lv_at hl 2 rfl) ?_
      refine lv_iload_n hx hb dX1_bestSteps_11 rfl (lv_at hl 0 rfl) ?_
      refine q_cSRL C hj cw_X1_46 (As := [.int x2, .int x0]) (rest := []) hf (fun v9 h9 => c_X1_scaledMean l E h9) rfl hl rfl rfl rfl dX1_bestSteps_12 ⟨Nat.zero_le _, Nat.zero_le _⟩ (fun v1 hf => ?_)
      refine lv_iload_n hx hb dX1_bestSteps_15 rfl (lv_at hl 1 rfl) ?_
      refine lv_iload_n hx hb dX1_bestSteps_16 rfl (lv_at hl 0 rfl) ?_
      refine q_cSRL C hj cw_X1_46 (As := [.int x1, .int x0]) (rest := [.long v1]) hf (fun v9 h9 => c_X1_scaledMean l E h9) rfl hl rfl rfl rfl dX1_bestSteps_17 ⟨Nat.zero_le _, Nat.zero_le _⟩ (fun v2 hf => ?_)
      refine q_lcle C (tgt := 26) dX1_bestSteps_20 dX1_bestSteps_21 (by decide) hf (fun hf => ?_) (fun hf => ?_)
      · refine lv_iinc (v := x2 + 1) (lv' := [(2, .int (x2 + 1)), (0, .int x0), (1, .int x1)]) hx hb dX1_bestSteps_26 hl (k := 2) rfl (by rw [qi_1]) (by decide) rfl (fun ls hl => ?_)
        refine lv_goto (tgt := 4) hx hb dX1_bestSteps_29 (by decide) ?_
        exact ih _ _ _  ls hj (lv_sub hl [1, 2, 0] rfl) hf
      · refine lv_iload_n hx hb dX1_bestSteps_24 rfl (lv_at hl 2 rfl) ?_
        refine lv_istore_n (lv' := [(1, .int x2), (0, .int x0), (2, .int x2)]) hx hb dX1_bestSteps_25 rfl hl (by decide) rfl (fun ls hl => ?_)
        refine lv_iinc (v := x2 + 1) (lv' := [(2, .int (x2 + 1)), (1, .int x2), (0, .int x0)]) hx hb dX1_bestSteps_26 hl (k := 2) rfl (by rw [qi_1]) (by decide) rfl (fun ls hl => ?_)
        refine lv_goto (tgt := 4) hx hb dX1_bestSteps_29 (by decide) ?_
        exact ih _ _ _  ls hj (lv_sub hl [2, 1, 0] rfl) hf
def f_X1_bestSteps (g : qS) (a0 : Int32) : Option Int32 := L_X1_bestSteps_4 g 1000000000 a0 0 1
set_option maxHeartbeats 4000000 in
set_option maxRecDepth 100000 in
theorem c_X1_bestSteps (l : Launch) (E : qV) {g : qS} {a0 : Int32} {res : Int32} (hf : f_X1_bestSteps g a0 = some res) : q_MR l yX1_bestSteps cX1_bestSteps 3 (some .int) 2 46 E [.int a0] g (some (.int res)) := by
  unfold f_X1_bestSteps at hf
  refine q_ofR (by decide) rfl ?_
  intro p e s m args below meth c ls C hw hl
  have hj : q_J E s g s.heap [] := ⟨hw, va_S.rf⟩
  have hx := C.1
  have hb := C.2.1
  have C : q_C E p s m args meth c cX1_bestSteps RX1 3 (some .int) := C
  have hl : lv_has ls 3 [(0, .int a0)] := hl
  refine lv_iconst (v := 0) hx hb dX1_bestSteps_0 qi_0 ?_
  refine lv_istore_n (lv' := [(1, .int 0), (0, .int a0)]) hx hb dX1_bestSteps_1 rfl hl (by decide) rfl (fun ls hl => ?_)
  refine lv_iconst (v := 1) hx hb dX1_bestSteps_2 qi_1 ?_
  refine lv_istore_n (lv' := [(2, .int 1), (1, .int 0), (0, .int a0)]) hx hb dX1_bestSteps_3 rfl hl (by decide) rfl (fun ls hl => ?_)
  refine w_L_X1_bestSteps_4 C  hj (lv_sub hl [2, 1, 0] rfl) hf
def f_X1_bestMean (g : qS) (a0 : Int32) (a1 : Int32) : Option Int64 := (f_X1_bestSteps g a0).bind fun v1 => (f_X1_power g ((100 - a0).toInt64) v1).bind fun v2 => (f_X1_power g 100 v1).bind fun v3 => (f_X1_part g (v1.toInt64 * v2) v3 a1).bind fun v4 => some v4
set_option maxHeartbeats 4000000 in
set_option maxRecDepth 100000 in
theorem c_X1_bestMean (l : Launch) (E : qV) {g : qS} {a0 : Int32} {a1 : Int32} {res : Int64} (hf : f_X1_bestMean g a0 a1 = some res) : q_MR l yX1_bestMean cX1_bestMean 3 (some .long) 3 68 E [.int a0, .int a1] g (some (.long res)) := by
  unfold f_X1_bestMean at hf
  refine q_ofR (by decide) rfl ?_
  intro p e s m args below meth c ls C hw hl
  have hj : q_J E s g s.heap [] := ⟨hw, va_S.rf⟩
  have hx := C.1
  have hb := C.2.1
  have C : q_C E p s m args meth c cX1_bestMean RX1 3 (some .long) := C
  have hl : lv_has ls 3 [(0, .int a0), (1, .int a1)] := hl
  refine lv_iload_n hx hb dX1_bestMean_0 rfl (lv_at hl 0 rfl) ?_
  refine q_cSRI C hj cw_X1_50 (As := [.int a0]) (rest := []) hf (fun v9 h9 => c_X1_bestSteps l E h9) rfl hl rfl rfl rfl dX1_bestMean_1 ⟨Nat.zero_le _, Nat.zero_le _⟩ (fun v1 hf => ?_)
  refine lv_istore_n (lv' := [(2, .int v1), (0, .int a0), (1, .int a1)]) hx hb dX1_bestMean_4 rfl hl (by decide) rfl (fun ls hl => ?_)
  refine lv_iload_n hx hb dX1_bestMean_5 rfl (lv_at hl 0 rfl) ?_
  refine lv_i2l hx hb dX1_bestMean_6 rfl ?_
  refine lv_bipush (v := 100) hx hb dX1_bestMean_7 (by decide) ?_
  refine lv_iload_n hx hb dX1_bestMean_9 rfl (lv_at hl 1 rfl) ?_
  refine lv_isub hx hb dX1_bestMean_10 ?_
  refine lv_i2l hx hb dX1_bestMean_11 rfl ?_
  refine lv_iload_n hx hb dX1_bestMean_12 rfl (lv_at hl 0 rfl) ?_
  refine q_cSRL C hj cw_X1_53 (As := [.long ((100 - a0).toInt64), .int v1]) (rest := [.long v1.toInt64]) hf (fun v9 h9 => c_X1_power l E h9) rfl hl rfl rfl rfl dX1_bestMean_13 ⟨Nat.zero_le _, Nat.zero_le _⟩ (fun v2 hf => ?_)
  refine lv_lmul hx hb dX1_bestMean_16 ?_
  refine lv_ldc2 (v := 100) hx hb C.2.2.2.1 (C.2.2.2.2.1 _ kc_X1_57) dX1_bestMean_17 ?_
  refine lv_iload_n hx hb dX1_bestMean_20 rfl (lv_at hl 0 rfl) ?_
  refine q_cSRL C hj cw_X1_53 (As := [.long 100, .int v1]) (rest := [.long (v1.toInt64 * v2)]) hf (fun v9 h9 => c_X1_power l E h9) rfl hl rfl rfl rfl dX1_bestMean_21 ⟨Nat.zero_le _, Nat.zero_le _⟩ (fun v3 hf => ?_)
  refine lv_iload_n hx hb dX1_bestMean_24 rfl (lv_at hl 2 rfl) ?_
  refine q_cSRL C hj cw_X1_22 (As := [.long (v1.toInt64 * v2), .long v3, .int a1]) (rest := []) hf (fun v9 h9 => c_X1_part l E h9) rfl hl rfl rfl rfl dX1_bestMean_25 ⟨Nat.zero_le _, Nat.zero_le _⟩ (fun v4 hf => ?_)
  exact q_lretR C dX1_bestMean_28 hf
