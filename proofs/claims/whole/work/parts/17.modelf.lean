def L_X12_dares_7  (g : qS) : Nat → Int32 → Int32 → Int64 → Int32 → Option Int32
  | 0, _, _, _, _ => none
  | n + 1, x1, x2, x3, x5 => if 8 < x5 then (some x2) else ((f_X12_power g (100 - x1.toInt64) x5).bind fun v1 => (f_X12_power g 100 (8 - x5)).bind fun v2 => if ((x5.toInt64 * v1) * v2) ≤ x3 then (L_X12_dares_7 g n x1 x2 x3 (x5 + 1)) else (L_X12_dares_7 g n x1 x5 ((x5.toInt64 * v1) * v2) (x5 + 1)))
set_option maxHeartbeats 4000000 in
set_option maxRecDepth 100000 in
theorem w_L_X12_dares_7 {l : Launch} {E : qV} {p : Program} {e : Env} {s : State} {m : MethodId} {args : Array Value} {below : List Frame} {meth : Method} {c : Code}  {g : qS} {res : Int32} (C : q_C E p s m args meth c cX12_dares RX12 8 (some .int))  : ∀ {n : Nat} {x1 : Int32} {x2 : Int32} {x3 : Int64} {x5 : Int32} {ls : Array Slot}, q_J E s g s.heap [] → lv_has ls 8 [(1, .int x1), (2, .int x2), (3, .long x3), (5, .int x5)] → L_X12_dares_7 g n x1 x2 x3 x5 = some res → W p l e (q_rm 1 25) s m args below meth c s.heap [] 0 0 (q_ZR below (some (.int res)) args s) (F0 m 7 ls []) := by
  have hx := C.1
  have hb := C.2.1
  intro n
  induction n with
  | zero =>
    intro x1 x2 x3 x5 ls hj hl hf
    cases hf
  | succ n ih_ =>
    intro x1 x2 x3 x5 ls hj hl hf
    have ih : ∀ (x1 : Int32) (x2 : Int32) (x3 : Int64) (x5 : Int32) (ls : Array Slot), q_J E s g s.heap [] → lv_has ls 8 [(1, .int x1), (2, .int x2), (3, .long x3), (5, .int x5)] → L_X12_dares_7 g n x1 x2 x3 x5 = some res → W p l e (q_rm 1 25) s m args below meth c s.heap [] 0 0 (q_ZR below (some (.int res)) args s) (F0 m 7 ls []) := fun x1 x2 x3 x5 ls hj hl hf => ih_ hj hl hf
    unfold L_X12_dares_7 at hf
    refine lv_iload hx hb dX12_dares_7 (lv_at hl 3 rfl) ?_
    refine lv_bipush (v := 8) hx hb dX12_dares_9 (by decide) ?_
    refine q_icgt C (tgt := 65) dX12_dares_11 (by decide) hf (fun hf => ?_) (fun hf => ?_)
    · refine lv_iload_n hx hb dX12_dares_65 rfl (lv_at hl 1 rfl) ?_
      exact q_iretR C dX12_dares_66 hf
    · refine lv_iload hx hb dX12_dares_14 (lv_at hl 3 rfl) ?_
      refine lv_i2l hx hb dX12_dares_16 rfl ?_
      refine lv_ldc2 (v := 100) hx hb C.2.2.2.1 (C.2.2.2.2.1 _ kc_X12_520) dX12_dares_17 ?_
      refine lv_iload_n hx hb dX12_dares_20 rfl (lv_at hl 0 rfl) ?_
      refine lv_i2l hx hb dX12_dares_21 rfl ?_
      refine lv_lsub hx hb dX12_dares_22 ?_
      refine lv_iload hx hb dX12_dares_23 (lv_at hl 3 rfl) ?_
      refine q_cSRL C hj cw_X12_522 (As := [.long (100 - x1.toInt64), .int x5]) (rest := [.long x5.toInt64]) hf (fun v9 h9 => c_X12_power l E h9) rfl hl rfl rfl rfl dX12_dares_25 ⟨Nat.zero_le _, Nat.zero_le _⟩ (fun v1 hf => ?_)
      refine lv_lmul hx hb dX12_dares_28 ?_
      refine lv_ldc2 (v := 100) hx hb C.2.2.2.1 (C.2.2.2.2.1 _ kc_X12_520) dX12_dares_29 ?_
      refine lv_bipush (v := 8) hx hb dX12_dares_32 (by decide) ?_
      refine lv_iload hx hb dX12_dares_34 (lv_at hl 3 rfl) ?_
      refine lv_isub hx hb dX12_dares_36 ?_
      refine q_cSRL C hj cw_X12_522 (As := [.long 100, .int (8 - x5)]) (rest := [.long (x5.toInt64 * v1)]) hf (fun v9 h9 => c_X12_power l E h9) rfl hl rfl rfl rfl dX12_dares_37 ⟨Nat.zero_le _, Nat.zero_le _⟩ (fun v2 hf => ?_)
      refine lv_lmul hx hb dX12_dares_40 ?_
      refine lv_lstore (lv' := [(6, .long ((x5.toInt64 * v1) * v2)), (1, .int x1), (2, .int x2), (3, .long x3), (5, .int x5)]) hx hb dX12_dares_41 hl (by decide) rfl (fun ls hl => ?_)
      refine lv_lload hx hb dX12_dares_43 (lv_at hl 0 rfl) ?_
      refine lv_lload_n hx hb dX12_dares_45 rfl (lv_at hl 3 rfl) ?_
      refine q_lcgt C (tgt := 53) dX12_dares_46 dX12_dares_47 (by decide) hf (fun hf => ?_) (fun hf => ?_)
      · refine lv_lload hx hb dX12_dares_53 (lv_at hl 0 rfl) ?_
        refine lv_lstore_n (lv' := [(3, .long ((x5.toInt64 * v1) * v2)), (6, .long ((x5.toInt64 * v1) * v2)), (1, .int x1), (2, .int x2), (5, .int x5)]) hx hb dX12_dares_55 rfl hl (by decide) rfl (fun ls hl => ?_)
        refine lv_iload hx hb dX12_dares_56 (lv_at hl 4 rfl) ?_
        refine lv_istore_n (lv' := [(2, .int x5), (3, .long ((x5.toInt64 * v1) * v2)), (6, .long ((x5.toInt64 * v1) * v2)), (1, .int x1), (5, .int x5)]) hx hb dX12_dares_58 rfl hl (by decide) rfl (fun ls hl => ?_)
        refine lv_iinc (v := x5 + 1) (lv' := [(5, .int (x5 + 1)), (2, .int x5), (3, .long ((x5.toInt64 * v1) * v2)), (6, .long ((x5.toInt64 * v1) * v2)), (1, .int x1)]) hx hb dX12_dares_59 hl (k := 4) rfl (by rw [qi_1]) (by decide) rfl (fun ls hl => ?_)
        refine lv_goto (tgt := 7) hx hb dX12_dares_62 (by decide) ?_
        exact ih _ _ _ _  ls hj (lv_sub hl [4, 1, 2, 0] rfl) hf
      · refine lv_goto (tgt := 59) hx hb dX12_dares_50 (by decide) ?_
        refine lv_iinc (v := x5 + 1) (lv' := [(5, .int (x5 + 1)), (6, .long ((x5.toInt64 * v1) * v2)), (1, .int x1), (2, .int x2), (3, .long x3)]) hx hb dX12_dares_59 hl (k := 4) rfl (by rw [qi_1]) (by decide) rfl (fun ls hl => ?_)
        refine lv_goto (tgt := 7) hx hb dX12_dares_62 (by decide) ?_
        exact ih _ _ _ _  ls hj (lv_sub hl [2, 3, 4, 0] rfl) hf
def f_X12_dares (g : qS) (a0 : Nat) (a1 : Int32) : Option Int32 := (g_C g a0 11).bind fun _ => L_X12_dares_7 g 1000000000 a1 0 0 1
set_option maxHeartbeats 4000000 in
set_option maxRecDepth 100000 in
theorem c_X12_dares (l : Launch) (E : qV) {g : qS} {a0 : Nat} {a1 : Int32} {res : Int32} (hf : f_X12_dares g a0 a1 = some res) : q_MR l yX12_dares cX12_dares 8 (some .int) 1 25 E [.ref (q_ad E a0), .int a1] g (some (.int res)) ∧ ∃ fs, g a0 = some (.inr (11, fs)) := by
  unfold f_X12_dares at hf
  obtain ⟨u9, hu9, hf⟩ := q_ob hf
  refine ⟨q_ofR (by decide) rfl ?_, g_C_sp hu9⟩
  intro p e s m args below meth c ls C hw hl
  have hj : q_J E s g s.heap [] := ⟨hw, va_S.rf⟩
  have hx := C.1
  have hb := C.2.1
  have C : q_C E p s m args meth c cX12_dares RX12 8 (some .int) := C
  have hl : lv_has ls 8 [(0, .ref (q_ad E a0)), (1, .int a1)] := hl
  refine lv_iconst (v := 0) hx hb dX12_dares_0 qi_0 ?_
  refine lv_istore_n (lv' := [(2, .int 0), (0, .ref (q_ad E a0)), (1, .int a1)]) hx hb dX12_dares_1 rfl hl (by decide) rfl (fun ls hl => ?_)
  refine lv_lconst (v := 0) hx hb dX12_dares_2 (by decide) ?_
  refine lv_lstore_n (lv' := [(3, .long 0), (2, .int 0), (0, .ref (q_ad E a0)), (1, .int a1)]) hx hb dX12_dares_3 rfl hl (by decide) rfl (fun ls hl => ?_)
  refine lv_iconst (v := 1) hx hb dX12_dares_4 qi_1 ?_
  refine lv_istore (lv' := [(5, .int 1), (3, .long 0), (2, .int 0), (0, .ref (q_ad E a0)), (1, .int a1)]) hx hb dX12_dares_5 hl (by decide) rfl (fun ls hl => ?_)
  refine w_L_X12_dares_7 C  hj (lv_sub hl [4, 2, 1, 0] rfl) hf
def f_X12_refusesDare (g : qS) (a0 : Nat) (a1 : Int32) : Option Int32 := (g_C g a0 11).bind fun _ => (g_Q g a0 11 3).bind fun o => if o = none then (some 1) else ((f_X12_in g a1 0 100).bind fun v1 => if v1 = 0 then (some 2) else (some 0))
set_option maxHeartbeats 4000000 in
set_option maxRecDepth 100000 in
theorem c_X12_refusesDare (l : Launch) (E : qV) {g : qS} {a0 : Nat} {a1 : Int32} {res : Int32} (hf : f_X12_refusesDare g a0 a1 = some res) : q_MR l yX12_refusesDare cX12_refusesDare 2 (some .int) 1 22 E [.ref (q_ad E a0), .int a1] g (some (.int res)) ∧ ∃ fs, g a0 = some (.inr (11, fs)) := by
  unfold f_X12_refusesDare at hf
  obtain ⟨u9, hu9, hf⟩ := q_ob hf
  refine ⟨q_ofR (by decide) rfl ?_, g_C_sp hu9⟩
  intro p e s m args below meth c ls C hw hl
  have hj : q_J E s g s.heap [] := ⟨hw, va_S.rf⟩
  have hx := C.1
  have hb := C.2.1
  have C : q_C E p s m args meth c cX12_refusesDare RX12 2 (some .int) := C
  have hl : lv_has ls 2 [(0, .ref (q_ad E a0)), (1, .int a1)] := hl
  refine lv_aload_n hx hb dX12_refusesDare_0 rfl (lv_at hl 0 rfl) ?_
  refine q_gnnull C hj lk_X12_369 dX12_refusesDare_1 (tgt := 11) dX12_refusesDare_4 (by decide) hf (fun hf => ?_) (fun hf => ?_)
  · refine lv_iload_n hx hb dX12_refusesDare_11 rfl (lv_at hl 1 rfl) ?_
    refine lv_iconst (v := 0) hx hb dX12_refusesDare_12 qi_0 ?_
    refine lv_bipush (v := 100) hx hb dX12_refusesDare_13 (by decide) ?_
    refine q_cSRI C hj cw_X12_127 (As := [.int a1, .int 0, .int 100]) (rest := []) hf (fun v9 h9 => c_X12_in l E h9) rfl hl rfl rfl rfl dX12_refusesDare_15 ⟨Nat.zero_le _, Nat.zero_le _⟩ (fun v1 hf => ?_)
    refine q_ifeq C (tgt := 25) dX12_refusesDare_18 (by decide) hf (fun hf => ?_) (fun hf => ?_)
    · refine lv_iconst (v := 2) hx hb dX12_refusesDare_25 qi_2 ?_
      exact q_iretR C dX12_refusesDare_26 hf
    · refine lv_iconst (v := 0) hx hb dX12_refusesDare_21 qi_0 ?_
      refine lv_goto (tgt := 26) hx hb dX12_refusesDare_22 (by decide) ?_
      exact q_iretR C dX12_refusesDare_26 hf
  · refine lv_iconst (v := 1) hx hb dX12_refusesDare_7 qi_1 ?_
    refine lv_goto (tgt := 26) hx hb dX12_refusesDare_8 (by decide) ?_
    exact q_iretR C dX12_refusesDare_26 hf
def f_X12_dare (g : qS) (a0 : Nat) (a1 : Int32) : Option (Int32 × qS) := (g_C g a0 11).bind fun _ => (p_I g a0 11 0 0).bind fun g1 => (f_X12_refusesDare g1 a0 a1).bind fun v2 => if v2 ≤ 0 then ((f_X12_dares g1 a0 a1).bind fun v3 => q_b2 (f_X12_good g1 a0 v3) fun v5 g4 => some (v5, g4)) else (q_b2 (f_X12_refused g1 a0 v2) fun v7 g6 => some (v7, g6))
set_option maxHeartbeats 4000000 in
set_option maxRecDepth 100000 in
theorem c_X12_dare (l : Launch) (E : qV) {g : qS} {a0 : Nat} {a1 : Int32} {res : (Int32 × qS)} (hf : f_X12_dare g a0 a1 = some res) : q_MW l yX12_dare cX12_dare 3 (some .int) 2 52 E [.ref (q_ad E a0), .int a1] g (some (.int res.1)) res.2 ∧ ∃ fs, g a0 = some (.inr (11, fs)) := by
  unfold f_X12_dare at hf
  obtain ⟨u9, hu9, hf⟩ := q_ob hf
  refine ⟨q_ofW (by decide) rfl ?_, g_C_sp hu9⟩
  intro p e s m args below meth c ls C hj hl
  have hx := C.1
  have hb := C.2.1
  have C : q_C E p s m args meth c cX12_dare RX12 3 (some .int) := C
  have hl : lv_has ls 3 [(0, .ref (q_ad E a0)), (1, .int a1)] := hl
  refine lv_aload_n hx hb dX12_dare_0 rfl (lv_at hl 0 rfl) ?_
  refine lv_iconst (v := 0) hx hb dX12_dare_1 qi_0 ?_
  refine q_putI C hj fp_X12_48 dX12_dare_2 hf (fun g1 H locs hj hf => ?_)
  refine lv_aload_n hx hb dX12_dare_5 rfl (lv_at hl 0 rfl) ?_
  refine lv_iload_n hx hb dX12_dare_6 rfl (lv_at hl 1 rfl) ?_
  refine q_cVRI C hj cw_X12_526 (As := [.int a1]) (rest := []) hf (fun v9 h9 => c_X12_refusesDare l E h9) rfl hl rfl rfl rfl dX12_dare_7 ⟨Nat.zero_le _, Nat.zero_le _⟩ (fun v2 hf => ?_)
  refine lv_istore_n (lv' := [(2, .int v2), (0, .ref (q_ad E a0)), (1, .int a1)]) hx hb dX12_dare_10 rfl hl (by decide) rfl (fun ls hl => ?_)
  refine lv_iload_n hx hb dX12_dare_11 rfl (lv_at hl 0 rfl) ?_
  refine q_ifle C (tgt := 23) dX12_dare_12 (by decide) hf (fun hf => ?_) (fun hf => ?_)
  · refine lv_aload_n hx hb dX12_dare_23 rfl (lv_at hl 1 rfl) ?_
    refine lv_aload_n hx hb dX12_dare_24 rfl (lv_at hl 1 rfl) ?_
    refine lv_iload_n hx hb dX12_dare_25 rfl (lv_at hl 2 rfl) ?_
    refine q_cVRI C hj cw_X12_529 (As := [.int a1]) (rest := [.ref (q_ad E a0)]) hf (fun v9 h9 => c_X12_dares l E h9) rfl hl rfl rfl rfl dX12_dare_26 ⟨Nat.zero_le _, Nat.zero_le _⟩ (fun v3 hf => ?_)
    refine q_cVWI C hj cw_X12_58 (As := [.int v3]) (rest := []) hf (fun v9 g9 h9 => c_X12_good l E h9) rfl hl rfl rfl rfl dX12_dare_29 ⟨Nat.zero_le _, Nat.zero_le _⟩ (fun v5 g4 H locs hj hf => ?_)
    exact q_iretW C hj dX12_dare_32 hf
  · refine lv_aload_n hx hb dX12_dare_15 rfl (lv_at hl 1 rfl) ?_
    refine lv_iload_n hx hb dX12_dare_16 rfl (lv_at hl 0 rfl) ?_
    refine q_cVWI C hj cw_X12_54 (As := [.int v2]) (rest := []) hf (fun v9 g9 h9 => c_X12_refused l E h9) rfl hl rfl rfl rfl dX12_dare_17 ⟨Nat.zero_le _, Nat.zero_le _⟩ (fun v7 g6 H locs hj hf => ?_)
    refine lv_goto (tgt := 32) hx hb dX12_dare_20 (by decide) ?_
    exact q_iretW C hj dX12_dare_32 hf
def f_X12_honours (g : qS) (a0 : Nat) (a1 : Int32) (a2 : Int32) : Option (Int64 × qS) := (g_C g a0 11).bind fun _ => (p_I g a0 11 0 0).bind fun g1 => (f_X12_refusesDare g1 a0 a1).bind fun v2 => if v2 ≤ 0 then ((f_X12_dares g1 a0 a1).bind fun v3 => (f_X12_power g1 (100 - a1.toInt64) v3).bind fun v4 => (f_X12_power g1 100 v3).bind fun v5 => q_b2 (f_X12_fraction g1 a0 (v3.toInt64 * v4) v5 a2) fun v7 g6 => some (v7, g6)) else (q_b2 (f_X12_refused g1 a0 v2) fun v9 g8 => some (v9.toInt64, g8))
set_option maxHeartbeats 4000000 in
set_option maxRecDepth 100000 in
theorem c_X12_honours (l : Launch) (E : qV) {g : qS} {a0 : Nat} {a1 : Int32} {a2 : Int32} {res : (Int64 × qS)} (hf : f_X12_honours g a0 a1 a2 = some res) : q_MW l yX12_honours cX12_honours 5 (some .long) 2 54 E [.ref (q_ad E a0), .int a1, .int a2] g (some (.long res.1)) res.2 ∧ ∃ fs, g a0 = some (.inr (11, fs)) := by
  unfold f_X12_honours at hf
  obtain ⟨u9, hu9, hf⟩ := q_ob hf
  refine ⟨q_ofW (by decide) rfl ?_, g_C_sp hu9⟩
  intro p e s m args below meth c ls C hj hl
  have hx := C.1
  have hb := C.2.1
  have C : q_C E p s m args meth c cX12_honours RX12 5 (some .long) := C
  have hl : lv_has ls 5 [(0, .ref (q_ad E a0)), (1, .int a1), (2, .int a2)] := hl
  refine lv_aload_n hx hb dX12_honours_0 rfl (lv_at hl 0 rfl) ?_
  refine lv_iconst (v := 0) hx hb dX12_honours_1 qi_0 ?_
  refine q_putI C hj fp_X12_48 dX12_honours_2 hf (fun g1 H locs hj hf => ?_)
  refine lv_aload_n hx hb dX12_honours_5 rfl (lv_at hl 0 rfl) ?_
  refine lv_iload_n hx hb dX12_honours_6 rfl (lv_at hl 1 rfl) ?_
  refine q_cVRI C hj cw_X12_526 (As := [.int a1]) (rest := []) hf (fun v9 h9 => c_X12_refusesDare l E h9) rfl hl rfl rfl rfl dX12_honours_7 ⟨Nat.zero_le _, Nat.zero_le _⟩ (fun v2 hf => ?_)
  refine lv_istore_n (lv' := [(3, .int v2), (0, .ref (q_ad E a0)), (1, .int a1), (2, .int a2)]) hx hb dX12_honours_10 rfl hl (by decide) rfl (fun ls hl => ?_)
  refine lv_iload_n hx hb dX12_honours_11 rfl (lv_at hl 0 rfl) ?_
  refine q_ifle C (tgt := 22) dX12_honours_12 (by decide) hf (fun hf => ?_) (fun hf => ?_)
  · refine lv_aload_n hx hb dX12_honours_22 rfl (lv_at hl 1 rfl) ?_
    refine lv_iload_n hx hb dX12_honours_23 rfl (lv_at hl 2 rfl) ?_
    refine q_cVRI C hj cw_X12_529 (As := [.int a1]) (rest := []) hf (fun v9 h9 => c_X12_dares l E h9) rfl hl rfl rfl rfl dX12_honours_24 ⟨Nat.zero_le _, Nat.zero_le _⟩ (fun v3 hf => ?_)
    refine lv_istore (lv' := [(4, .int v3), (3, .int v2), (0, .ref (q_ad E a0)), (1, .int a1), (2, .int a2)]) hx hb dX12_honours_27 hl (by decide) rfl (fun ls hl => ?_)
    refine lv_aload_n hx hb dX12_honours_29 rfl (lv_at hl 2 rfl) ?_
    refine lv_iload hx hb dX12_honours_30 (lv_at hl 0 rfl) ?_
    refine lv_i2l hx hb dX12_honours_32 rfl ?_
    refine lv_ldc2 (v := 100) hx hb C.2.2.2.1 (C.2.2.2.2.1 _ kc_X12_520) dX12_honours_33 ?_
    refine lv_iload_n hx hb dX12_honours_36 rfl (lv_at hl 3 rfl) ?_
    refine lv_i2l hx hb dX12_honours_37 rfl ?_
    refine lv_lsub hx hb dX12_honours_38 ?_
    refine lv_iload hx hb dX12_honours_39 (lv_at hl 0 rfl) ?_
    refine q_cSRL C hj cw_X12_522 (As := [.long (100 - a1.toInt64), .int v3]) (rest := [.long v3.toInt64, .ref (q_ad E a0)]) hf (fun v9 h9 => c_X12_power l E h9) rfl hl rfl rfl rfl dX12_honours_41 ⟨Nat.zero_le _, Nat.zero_le _⟩ (fun v4 hf => ?_)
    refine lv_lmul hx hb dX12_honours_44 ?_
    refine lv_ldc2 (v := 100) hx hb C.2.2.2.1 (C.2.2.2.2.1 _ kc_X12_520) dX12_honours_45 ?_
    refine lv_iload hx hb dX12_honours_48 (lv_at hl 0 rfl) ?_
    refine q_cSRL C hj cw_X12_522 (As := [.long 100, .int v3]) (rest := [.long (v3.toInt64 * v4), .ref (q_ad E a0)]) hf (fun v9 h9 => c_X12_power l E h9) rfl hl rfl rfl rfl dX12_honours_50 ⟨Nat.zero_le _, Nat.zero_le _⟩ (fun v5 hf => ?_)
    refine lv_iload_n hx hb dX12_honours_53 rfl (lv_at hl 4 rfl) ?_
    refine q_cVWL C hj cw_X12_495 (As := [.long (v3.toInt64 * v4), .long v5, .int a2]) (rest := []) hf (fun v9 g9 h9 => c_X12_fraction l E h9) rfl hl rfl rfl rfl dX12_honours_54 ⟨Nat.zero_le _, Nat.zero_le _⟩ (fun v7 g6 H locs hj hf => ?_)
    exact q_lretW C hj dX12_honours_57 hf
  · refine lv_aload_n hx hb dX12_honours_15 rfl (lv_at hl 1 rfl) ?_
    refine lv_iload_n hx hb dX12_honours_16 rfl (lv_at hl 0 rfl) ?_
    refine q_cVWI C hj cw_X12_54 (As := [.int v2]) (rest := []) hf (fun v9 g9 h9 => c_X12_refused l E h9) rfl hl rfl rfl rfl dX12_honours_17 ⟨Nat.zero_le _, Nat.zero_le _⟩ (fun v9 g8 H locs hj hf => ?_)
    refine lv_i2l hx hb dX12_honours_20 rfl ?_
    exact q_lretW C hj dX12_honours_21 hf
def L_X12_draws_8 (k29 : Nat → Int32 → qS → Option (Int32 × qS)) : Nat → Nat → Int32 → Int32 → qS → Option (Int32 × qS)
  | 0, _, _, _, _ => none
  | n + 1, x0, x1, x2, g => if 3 ≤ x2 then (k29 x0 x1 g) else ((g_R g x0 11 16).bind fun v1 => (s_I g v1 (12 + x2) 0).bind fun g2 => L_X12_draws_8 k29 n x0 x1 (x2 + 1) g2)
set_option maxHeartbeats 4000000 in
set_option maxRecDepth 100000 in
theorem w_L_X12_draws_8 {l : Launch} {E : qV} {p : Program} {e : Env} {s : State} {m : MethodId} {args : Array Value} {below : List Frame} {meth : Method} {c : Code} {k29 : Nat → Int32 → qS → Option (Int32 × qS)} {res : (Int32 × qS)} (C : q_C E p s m args meth c cX12_draws RX12 8 (some .int)) (hk29 : ∀ (x0 : Nat) (x1 : Int32) (g : qS) (H : Heap) (locs : List Loc) (ls : Array Slot), q_J E s g H locs → lv_has ls 8 [(0, .ref (q_ad E x0)), (1, .int x1)] → k29 x0 x1 g = some res → W p l e (q_rm 3 69) s m args below meth c H locs 0 0 (q_ZW E below (some (.int res.1)) res.2 args s) (F0 m 29 ls [])) : ∀ {n : Nat} {x0 : Nat} {x1 : Int32} {x2 : Int32} {g : qS} {H : Heap} {locs : List Loc} {ls : Array Slot}, q_J E s g H locs → lv_has ls 8 [(0, .ref (q_ad E x0)), (1, .int x1), (2, .int x2)] → L_X12_draws_8 k29 n x0 x1 x2 g = some res → W p l e (q_rm 3 69) s m args below meth c H locs 0 0 (q_ZW E below (some (.int res.1)) res.2 args s) (F0 m 8 ls []) := by
  have hx := C.1
  have hb := C.2.1
  intro n
  induction n with
  | zero =>
    intro x0 x1 x2 g H locs ls hj hl hf
    cases hf
  | succ n ih_ =>
    intro x0 x1 x2 g H locs ls hj hl hf
    have ih : ∀ (x0 : Nat) (x1 : Int32) (x2 : Int32) (g : qS) (H : Heap) (locs : List Loc) (ls : Array Slot), q_J E s g H locs → lv_has ls 8 [(0, .ref (q_ad E x0)), (1, .int x1), (2, .int x2)] → L_X12_draws_8 k29 n x0 x1 x2 g = some res → W p l e (q_rm 3 69) s m args below meth c H locs 0 0 (q_ZW E below (some (.int res.1)) res.2 args s) (F0 m 8 ls []) := fun x0 x1 x2 g H locs ls hj hl hf => ih_ hj hl hf
    unfold L_X12_draws_8 at hf
    refine lv_iload_n hx hb dX12_draws_8 rfl (lv_at hl 2 rfl) ?_
    refine lv_iconst (v := 3) hx hb dX12_draws_9 qi_3 ?_
    refine q_icge C (tgt := 29) dX12_draws_10 (by decide) hf (fun hf => ?_) (fun hf => ?_)
    · exact hk29 _ _ _ _ _ ls hj (lv_sub hl [0, 1] rfl) hf
    · refine lv_aload_n hx hb dX12_draws_13 rfl (lv_at hl 0 rfl) ?_
      refine q_getR C hj lk_X12_21 dX12_draws_14 hf (fun v1 hf => ?_)
      refine lv_bipush (v := 12) hx hb dX12_draws_17 (by decide) ?_
      refine lv_iload_n hx hb dX12_draws_19 rfl (lv_at hl 2 rfl) ?_
      refine lv_iadd hx hb dX12_draws_20 ?_
      refine lv_iconst (v := 0) hx hb dX12_draws_21 qi_0 ?_
      refine q_astI C hj dX12_draws_22 hf (fun g2 H locs hj hf => ?_)
      refine lv_iinc (v := x2 + 1) (lv' := [(2, .int (x2 + 1)), (0, .ref (q_ad E x0)), (1, .int x1)]) hx hb dX12_draws_23 hl (k := 2) rfl (by rw [qi_1]) (by decide) rfl (fun ls hl => ?_)
      refine lv_goto (tgt := 8) hx hb dX12_draws_26 (by decide) ?_
      exact ih _ _ _ _ _ _ ls hj (lv_sub hl [1, 2, 0] rfl) hf
def J_X12_draws_188 (k44 : Nat → Int32 → Int32 → Int32 → qS → Option (Int32 × qS)) (x0 : Nat) (x1 : Int32) (x2 : Int32) (x3 : Int32) (x4 : Int32) (x5 : Int32) (x6 : Int32) (t0 : Int32) (g : qS) : Option (Int32 × qS) := (g_R g x0 11 16).bind fun v1 => (f_X12_does g x0 v1 t0 x4 x5 x6).bind fun g2 => if t0 = 0 then (k44 x0 (x1 + 1) x2 (x3 + 1) g2) else (k44 x0 (x1 + 0) x2 (x3 + 1) g2)
set_option maxHeartbeats 4000000 in
set_option maxRecDepth 100000 in
theorem w_J_X12_draws_188 {l : Launch} {E : qV} {p : Program} {e : Env} {s : State} {m : MethodId} {args : Array Value} {below : List Frame} {meth : Method} {c : Code} {k44 : Nat → Int32 → Int32 → Int32 → qS → Option (Int32 × qS)} {res : (Int32 × qS)} (C : q_C E p s m args meth c cX12_draws RX12 8 (some .int)) (hk44 : ∀ (x0 : Nat) (x1 : Int32) (x2 : Int32) (x3 : Int32) (g : qS) (H : Heap) (locs : List Loc) (ls : Array Slot), q_J E s g H locs → lv_has ls 8 [(0, .ref (q_ad E x0)), (1, .int x1), (2, .int x2), (3, .int x3)] → k44 x0 x1 x2 x3 g = some res → W p l e (q_rm 3 69) s m args below meth c H locs 0 0 (q_ZW E below (some (.int res.1)) res.2 args s) (F0 m 44 ls [])) : ∀ {x0 : Nat} {x1 : Int32} {x2 : Int32} {x3 : Int32} {x4 : Int32} {x5 : Int32} {x6 : Int32} {t0 : Int32} {g : qS} {H : Heap} {locs : List Loc} {ls : Array Slot}, q_J E s g H locs → lv_has ls 8 [(0, .ref (q_ad E x0)), (1, .int x1), (2, .int x2), (3, .int x3), (4, .int x4), (5, .int x5), (6, .int x6)] → J_X12_draws_188 k44 x0 x1 x2 x3 x4 x5 x6 t0 g = some res → W p l e (q_rm 3 69) s m args below meth c H locs 0 0 (q_ZW E below (some (.int res.1)) res.2 args s) (F0 m 188 ls [.int t0]) := by
  have hx := C.1
  have hb := C.2.1
  intro x0 x1 x2 x3 x4 x5 x6 t0 g H locs ls hj hl hf
  unfold J_X12_draws_188 at hf
  refine lv_istore (lv' := [(7, .int t0), (0, .ref (q_ad E x0)), (1, .int x1), (2, .int x2), (3, .int x3), (4, .int x4), (5, .int x5), (6, .int x6)]) hx hb dX12_draws_188 hl (by decide) rfl (fun ls hl => ?_)
  refine lv_aload_n hx hb dX12_draws_190 rfl (lv_at hl 1 rfl) ?_
  refine lv_aload_n hx hb dX12_draws_191 rfl (lv_at hl 1 rfl) ?_
  refine q_getR C hj lk_X12_21 dX12_draws_192 hf (fun v1 hf => ?_)
  refine lv_iload hx hb dX12_draws_195 (lv_at hl 0 rfl) ?_
  refine lv_iload hx hb dX12_draws_197 (lv_at hl 5 rfl) ?_
  refine lv_iload hx hb dX12_draws_199 (lv_at hl 6 rfl) ?_
  refine lv_iload hx hb dX12_draws_201 (lv_at hl 7 rfl) ?_
  refine q_cVWV C hj cw_X12_439 (As := [.ref (q_ad E v1), .int t0, .int x4, .int x5, .int x6]) (rest := []) hf (fun g9 h9 => c_X12_does l E h9) rfl hl rfl rfl rfl dX12_draws_203 ⟨Nat.zero_le _, Nat.zero_le _⟩ (fun g2 H locs hj hf => ?_)
  refine lv_iload_n hx hb dX12_draws_206 rfl (lv_at hl 2 rfl) ?_
  refine lv_iload hx hb dX12_draws_207 (lv_at hl 0 rfl) ?_
  refine q_ifne C (tgt := 216) dX12_draws_209 (by decide) hf (fun hf => ?_) (fun hf => ?_)
  · refine lv_iconst (v := 0) hx hb dX12_draws_216 qi_0 ?_
    refine lv_iadd hx hb dX12_draws_217 ?_
    refine lv_istore_n (lv' := [(1, .int (x1 + 0)), (7, .int t0), (0, .ref (q_ad E x0)), (2, .int x2), (3, .int x3), (4, .int x4), (5, .int x5), (6, .int x6)]) hx hb dX12_draws_218 rfl hl (by decide) rfl (fun ls hl => ?_)
    refine lv_iinc (v := x3 + 1) (lv' := [(3, .int (x3 + 1)), (1, .int (x1 + 0)), (7, .int t0), (0, .ref (q_ad E x0)), (2, .int x2), (4, .int x4), (5, .int x5), (6, .int x6)]) hx hb dX12_draws_219 hl (k := 4) rfl (by rw [qi_1]) (by decide) rfl (fun ls hl => ?_)
    refine lv_goto (tgt := 44) hx hb dX12_draws_222 (by decide) ?_
    exact hk44 _ _ _ _ _ _ _ ls hj (lv_sub hl [3, 1, 4, 0] rfl) hf
  · refine lv_iconst (v := 1) hx hb dX12_draws_212 qi_1 ?_
    refine lv_goto (tgt := 217) hx hb dX12_draws_213 (by decide) ?_
    refine lv_iadd hx hb dX12_draws_217 ?_
    refine lv_istore_n (lv' := [(1, .int (x1 + 1)), (7, .int t0), (0, .ref (q_ad E x0)), (2, .int x2), (3, .int x3), (4, .int x4), (5, .int x5), (6, .int x6)]) hx hb dX12_draws_218 rfl hl (by decide) rfl (fun ls hl => ?_)
    refine lv_iinc (v := x3 + 1) (lv' := [(3, .int (x3 + 1)), (1, .int (x1 + 1)), (7, .int t0), (0, .ref (q_ad E x0)), (2, .int x2), (4, .int x4), (5, .int x5), (6, .int x6)]) hx hb dX12_draws_219 hl (k := 4) rfl (by rw [qi_1]) (by decide) rfl (fun ls hl => ?_)
    refine lv_goto (tgt := 44) hx hb dX12_draws_222 (by decide) ?_
    exact hk44 _ _ _ _ _ _ _ ls hj (lv_sub hl [3, 1, 4, 0] rfl) hf
def L_X12_draws_44 (k225 : Nat → Int32 → Int32 → qS → Option (Int32 × qS)) : Nat → Nat → Int32 → Int32 → Int32 → qS → Option (Int32 × qS)
  | 0, _, _, _, _, _ => none
  | n + 1, x0, x1, x2, x3, g => (g_R g x0 11 3).bind fun v1 => (g_I g v1 10 7).bind fun v2 => if v2 ≤ x3 then (k225 x0 x1 x2 g) else ((g_R g x0 11 3).bind fun v3 => (g_R g v3 10 26).bind fun v4 => (a_I g v4 x3).bind fun v5 => if v5 = x2 then ((g_R g x0 11 3).bind fun v6 => (g_R g v6 10 23).bind fun v7 => (a_I g v7 x3).bind fun v8 => (g_R g x0 11 3).bind fun v9 => (g_R g v9 10 24).bind fun v10 => (a_I g v10 x3).bind fun v11 => (g_R g x0 11 3).bind fun v12 => (g_R g v12 10 25).bind fun v13 => (a_I g v13 x3).bind fun v14 => (g_R g x0 11 16).bind fun v15 => (f_X12_hinders g x0 v15 v8 v11 v14 x2).bind fun v16 => if v16 = 0 then ((g_I g x0 11 31).bind fun v17 => if (65537 : Int64) = 0 then none else ((p_I g x0 11 31 ((((75 * v17.toInt64) + 74) - ((75 * v17.toInt64) + 74) / 65537 * 65537).toInt32)).bind fun g18 => (g_I g18 x0 11 31).bind fun v19 => if (100 : Int32) = 0 then none else ((g_R g18 x0 11 16).bind fun v20 => (g_R g18 x0 11 3).bind fun v21 => (f_X11_together g18 v21 v8 v14 x2).bind fun v22 => (f_X12_nearIn g18 x0 v20 v8 v11 v14 v22).bind fun v23 => if v23 ≤ (v19 - v19 / 100 * 100) then (J_X12_draws_188 (L_X12_draws_44 k225 n) x0 x1 x2 x3 v8 v11 v14 0 g18) else (J_X12_draws_188 (L_X12_draws_44 k225 n) x0 x1 x2 x3 v8 v11 v14 1 g18)))) else (L_X12_draws_44 k225 n x0 x1 x2 (x3 + 1) g)) else (L_X12_draws_44 k225 n x0 x1 x2 (x3 + 1) g))
set_option maxHeartbeats 4000000 in
set_option maxRecDepth 100000 in
theorem w_L_X12_draws_44 {l : Launch} {E : qV} {p : Program} {e : Env} {s : State} {m : MethodId} {args : Array Value} {below : List Frame} {meth : Method} {c : Code} {k225 : Nat → Int32 → Int32 → qS → Option (Int32 × qS)} {res : (Int32 × qS)} (C : q_C E p s m args meth c cX12_draws RX12 8 (some .int)) (hk225 : ∀ (x0 : Nat) (x1 : Int32) (x2 : Int32) (g : qS) (H : Heap) (locs : List Loc) (ls : Array Slot), q_J E s g H locs → lv_has ls 8 [(0, .ref (q_ad E x0)), (1, .int x1), (2, .int x2)] → k225 x0 x1 x2 g = some res → W p l e (q_rm 3 69) s m args below meth c H locs 0 0 (q_ZW E below (some (.int res.1)) res.2 args s) (F0 m 225 ls [])) : ∀ {n : Nat} {x0 : Nat} {x1 : Int32} {x2 : Int32} {x3 : Int32} {g : qS} {H : Heap} {locs : List Loc} {ls : Array Slot}, q_J E s g H locs → lv_has ls 8 [(0, .ref (q_ad E x0)), (1, .int x1), (2, .int x2), (3, .int x3)] → L_X12_draws_44 k225 n x0 x1 x2 x3 g = some res → W p l e (q_rm 3 69) s m args below meth c H locs 0 0 (q_ZW E below (some (.int res.1)) res.2 args s) (F0 m 44 ls []) := by
  have hx := C.1
  have hb := C.2.1
  intro n
  induction n with
  | zero =>
    intro x0 x1 x2 x3 g H locs ls hj hl hf
    cases hf
  | succ n ih_ =>
    intro x0 x1 x2 x3 g H locs ls hj hl hf
    have ih : ∀ (x0 : Nat) (x1 : Int32) (x2 : Int32) (x3 : Int32) (g : qS) (H : Heap) (locs : List Loc) (ls : Array Slot), q_J E s g H locs → lv_has ls 8 [(0, .ref (q_ad E x0)), (1, .int x1), (2, .int x2), (3, .int x3)] → L_X12_draws_44 k225 n x0 x1 x2 x3 g = some res → W p l e (q_rm 3 69) s m args below meth c H locs 0 0 (q_ZW E below (some (.int res.1)) res.2 args s) (F0 m 44 ls []) := fun x0 x1 x2 x3 g H locs ls hj hl hf => ih_ hj hl hf
    unfold L_X12_draws_44 at hf
    refine lv_iload_n hx hb dX12_draws_44 rfl (lv_at hl 3 rfl) ?_
    refine lv_aload_n hx hb dX12_draws_45 rfl (lv_at hl 0 rfl) ?_
    refine q_getR C hj lk_X12_369 dX12_draws_46 hf (fun v1 hf => ?_)
    refine q_getI C hj lk_X12_318 dX12_draws_49 hf (fun v2 hf => ?_)
    refine q_icge C (tgt := 225) dX12_draws_52 (by decide) hf (fun hf => ?_) (fun hf => ?_)
    · exact hk225 _ _ _ _ _ _ ls hj (lv_sub hl [0, 1, 2] rfl) hf
    · refine lv_aload_n hx hb dX12_draws_55 rfl (lv_at hl 0 rfl) ?_
      refine q_getR C hj lk_X12_369 dX12_draws_56 hf (fun v3 hf => ?_)
      refine q_getR C hj lk_X12_330 dX12_draws_59 hf (fun v4 hf => ?_)
      refine lv_iload_n hx hb dX12_draws_62 rfl (lv_at hl 3 rfl) ?_
      refine q_aldI C hj dX12_draws_63 hf (fun v5 hf => ?_)
      refine lv_iload_n hx hb dX12_draws_64 rfl (lv_at hl 2 rfl) ?_
      refine q_iceq C (tgt := 71) dX12_draws_65 (by decide) hf (fun hf => ?_) (fun hf => ?_)
      · refine lv_aload_n hx hb dX12_draws_71 rfl (lv_at hl 0 rfl) ?_
        refine q_getR C hj lk_X12_369 dX12_draws_72 hf (fun v6 hf => ?_)
        refine q_getR C hj lk_X12_321 dX12_draws_75 hf (fun v7 hf => ?_)
        refine lv_iload_n hx hb dX12_draws_78 rfl (lv_at hl 3 rfl) ?_
        refine q_aldI C hj dX12_draws_79 hf (fun v8 hf => ?_)
        refine lv_istore (lv' := [(4, .int v8), (0, .ref (q_ad E x0)), (1, .int x1), (2, .int x2), (3, .int x3)]) hx hb dX12_draws_80 hl (by decide) rfl (fun ls hl => ?_)
        refine lv_aload_n hx hb dX12_draws_82 rfl (lv_at hl 1 rfl) ?_
        refine q_getR C hj lk_X12_369 dX12_draws_83 hf (fun v9 hf => ?_)
        refine q_getR C hj lk_X12_324 dX12_draws_86 hf (fun v10 hf => ?_)
        refine lv_iload_n hx hb dX12_draws_89 rfl (lv_at hl 4 rfl) ?_
        refine q_aldI C hj dX12_draws_90 hf (fun v11 hf => ?_)
        refine lv_istore (lv' := [(5, .int v11), (4, .int v8), (0, .ref (q_ad E x0)), (1, .int x1), (2, .int x2), (3, .int x3)]) hx hb dX12_draws_91 hl (by decide) rfl (fun ls hl => ?_)
        refine lv_aload_n hx hb dX12_draws_93 rfl (lv_at hl 2 rfl) ?_
        refine q_getR C hj lk_X12_369 dX12_draws_94 hf (fun v12 hf => ?_)
        refine q_getR C hj lk_X12_327 dX12_draws_97 hf (fun v13 hf => ?_)
        refine lv_iload_n hx hb dX12_draws_100 rfl (lv_at hl 5 rfl) ?_
        refine q_aldI C hj dX12_draws_101 hf (fun v14 hf => ?_)
        refine lv_istore (lv' := [(6, .int v14), (5, .int v11), (4, .int v8), (0, .ref (q_ad E x0)), (1, .int x1), (2, .int x2), (3, .int x3)]) hx hb dX12_draws_102 hl (by decide) rfl (fun ls hl => ?_)
        refine lv_aload_n hx hb dX12_draws_104 rfl (lv_at hl 3 rfl) ?_
        refine lv_aload_n hx hb dX12_draws_105 rfl (lv_at hl 3 rfl) ?_
        refine q_getR C hj lk_X12_21 dX12_draws_106 hf (fun v15 hf => ?_)
        refine lv_iload hx hb dX12_draws_109 (lv_at hl 2 rfl) ?_
        refine lv_iload hx hb dX12_draws_111 (lv_at hl 1 rfl) ?_
        refine lv_iload hx hb dX12_draws_113 (lv_at hl 0 rfl) ?_
        refine lv_iload_n hx hb dX12_draws_115 rfl (lv_at hl 5 rfl) ?_
        refine q_cVRI C hj cw_X12_395 (As := [.ref (q_ad E v15), .int v8, .int v11, .int v14, .int x2]) (rest := []) hf (fun v9 h9 => c_X12_hinders l E h9) rfl hl rfl rfl rfl dX12_draws_116 ⟨Nat.zero_le _, Nat.zero_le _⟩ (fun v16 hf => ?_)
        refine q_ifeq C (tgt := 125) dX12_draws_119 (by decide) hf (fun hf => ?_) (fun hf => ?_)
        · refine lv_aload_n hx hb dX12_draws_125 rfl (lv_at hl 3 rfl) ?_
          refine lv_ldc2 (v := 75) hx hb C.2.2.2.1 (C.2.2.2.2.1 _ kc_X12_532) dX12_draws_126 ?_
          refine lv_aload_n hx hb dX12_draws_129 rfl (lv_at hl 3 rfl) ?_
          refine q_getI C hj lk_X12_534 dX12_draws_130 hf (fun v17 hf => ?_)
          refine lv_i2l hx hb dX12_draws_133 rfl ?_
          refine lv_lmul hx hb dX12_draws_134 ?_
          refine lv_ldc2 (v := 74) hx hb C.2.2.2.1 (C.2.2.2.2.1 _ kc_X12_537) dX12_draws_135 ?_
          refine lv_ladd hx hb dX12_draws_138 ?_
          refine lv_ldc2 (v := 65537) hx hb C.2.2.2.1 (C.2.2.2.2.1 _ kc_X12_539) dX12_draws_139 ?_
          refine q_lrem C dX12_draws_142 hf (fun hf => ?_)
          refine lv_l2i hx hb dX12_draws_143 rfl ?_
          refine q_putI C hj fp_X12_534 dX12_draws_144 hf (fun g18 H locs hj hf => ?_)
          refine lv_aload_n hx hb dX12_draws_147 rfl (lv_at hl 3 rfl) ?_
          refine q_getI C hj lk_X12_534 dX12_draws_148 hf (fun v19 hf => ?_)
          refine lv_bipush (v := 100) hx hb dX12_draws_151 (by decide) ?_
          refine q_irem C dX12_draws_153 hf (fun hf => ?_)
          refine lv_aload_n hx hb dX12_draws_154 rfl (lv_at hl 3 rfl) ?_
          refine lv_aload_n hx hb dX12_draws_155 rfl (lv_at hl 3 rfl) ?_
          refine q_getR C hj lk_X12_21 dX12_draws_156 hf (fun v20 hf => ?_)
          refine lv_iload hx hb dX12_draws_159 (lv_at hl 2 rfl) ?_
          refine lv_iload hx hb dX12_draws_161 (lv_at hl 1 rfl) ?_
          refine lv_iload hx hb dX12_draws_163 (lv_at hl 0 rfl) ?_
          refine lv_aload_n hx hb dX12_draws_165 rfl (lv_at hl 3 rfl) ?_
          refine q_getR C hj lk_X12_369 dX12_draws_166 hf (fun v21 hf => ?_)
          refine lv_iload hx hb dX12_draws_169 (lv_at hl 2 rfl) ?_
          refine lv_iload hx hb dX12_draws_171 (lv_at hl 0 rfl) ?_
          refine lv_iload_n hx hb dX12_draws_173 rfl (lv_at hl 5 rfl) ?_
          refine q_cVRI C hj cw_X12_388 (As := [.int v8, .int v14, .int x2]) (rest := [.int v14, .int v11, .int v8, .ref (q_ad E v20), .ref (q_ad E x0), .int (v19 - v19 / 100 * 100)]) hf (fun v9 h9 => c_X11_together l E h9) rfl hl rfl rfl rfl dX12_draws_174 ⟨Nat.zero_le _, Nat.zero_le _⟩ (fun v22 hf => ?_)
          refine q_cVRI C hj cw_X12_399 (As := [.ref (q_ad E v20), .int v8, .int v11, .int v14, .int v22]) (rest := [.int (v19 - v19 / 100 * 100)]) hf (fun v9 h9 => c_X12_nearIn l E h9) rfl hl rfl rfl rfl dX12_draws_177 ⟨Nat.zero_le _, Nat.zero_le _⟩ (fun v23 hf => ?_)
          refine q_icge C (tgt := 187) dX12_draws_180 (by decide) hf (fun hf => ?_) (fun hf => ?_)
          · refine lv_iconst (v := 0) hx hb dX12_draws_187 qi_0 ?_
            refine w_J_X12_draws_188 C ih hj (lv_sub hl [3, 4, 5, 6, 2, 1, 0] rfl) hf
          · refine lv_iconst (v := 1) hx hb dX12_draws_183 qi_1 ?_
            refine lv_goto (tgt := 188) hx hb dX12_draws_184 (by decide) ?_
            refine w_J_X12_draws_188 C ih hj (lv_sub hl [3, 4, 5, 6, 2, 1, 0] rfl) hf
        · refine lv_goto (tgt := 219) hx hb dX12_draws_122 (by decide) ?_
          refine lv_iinc (v := x3 + 1) (lv' := [(3, .int (x3 + 1)), (6, .int v14), (5, .int v11), (4, .int v8), (0, .ref (q_ad E x0)), (1, .int x1), (2, .int x2)]) hx hb dX12_draws_219 hl (k := 6) rfl (by rw [qi_1]) (by decide) rfl (fun ls hl => ?_)
          refine lv_goto (tgt := 44) hx hb dX12_draws_222 (by decide) ?_
          exact ih _ _ _ _ _ _ _ ls hj (lv_sub hl [4, 5, 6, 0] rfl) hf
      · refine lv_goto (tgt := 219) hx hb dX12_draws_68 (by decide) ?_
        refine lv_iinc (v := x3 + 1) (lv' := [(3, .int (x3 + 1)), (0, .ref (q_ad E x0)), (1, .int x1), (2, .int x2)]) hx hb dX12_draws_219 hl (k := 3) rfl (by rw [qi_1]) (by decide) rfl (fun ls hl => ?_)
        refine lv_goto (tgt := 44) hx hb dX12_draws_222 (by decide) ?_
        exact ih _ _ _ _ _ _ _ ls hj (lv_sub hl [1, 2, 3, 0] rfl) hf
def L_X12_draws_31  : Nat → Nat → Int32 → Int32 → qS → Option (Int32 × qS)
  | 0, _, _, _, _ => none
  | n + 1, x0, x1, x2, g => (g_R g x0 11 3).bind fun v1 => (g_I g v1 10 0).bind fun v2 => if v2 ≤ x2 then (some (x1, g)) else (L_X12_draws_44 (fun y3 y4 y5 g6 => L_X12_draws_31 n y3 y4 (y5 + 1) g6) 1000000000 x0 x1 x2 0 g)
set_option maxHeartbeats 4000000 in
set_option maxRecDepth 100000 in
theorem w_L_X12_draws_31 {l : Launch} {E : qV} {p : Program} {e : Env} {s : State} {m : MethodId} {args : Array Value} {below : List Frame} {meth : Method} {c : Code}  {res : (Int32 × qS)} (C : q_C E p s m args meth c cX12_draws RX12 8 (some .int))  : ∀ {n : Nat} {x0 : Nat} {x1 : Int32} {x2 : Int32} {g : qS} {H : Heap} {locs : List Loc} {ls : Array Slot}, q_J E s g H locs → lv_has ls 8 [(0, .ref (q_ad E x0)), (1, .int x1), (2, .int x2)] → L_X12_draws_31 n x0 x1 x2 g = some res → W p l e (q_rm 3 69) s m args below meth c H locs 0 0 (q_ZW E below (some (.int res.1)) res.2 args s) (F0 m 31 ls []) := by
  have hx := C.1
  have hb := C.2.1
  intro n
  induction n with
  | zero =>
    intro x0 x1 x2 g H locs ls hj hl hf
    cases hf
  | succ n ih_ =>
    intro x0 x1 x2 g H locs ls hj hl hf
    have ih : ∀ (x0 : Nat) (x1 : Int32) (x2 : Int32) (g : qS) (H : Heap) (locs : List Loc) (ls : Array Slot), q_J E s g H locs → lv_has ls 8 [(0, .ref (q_ad E x0)), (1, .int x1), (2, .int x2)] → L_X12_draws_31 n x0 x1 x2 g = some res → W p l e (q_rm 3 69) s m args below meth c H locs 0 0 (q_ZW E below (some (.int res.1)) res.2 args s) (F0 m 31 ls []) := fun x0 x1 x2 g H locs ls hj hl hf => ih_ hj hl hf
    unfold L_X12_draws_31 at hf
    refine lv_iload_n hx hb dX12_draws_31 rfl (lv_at hl 2 rfl) ?_
    refine lv_aload_n hx hb dX12_draws_32 rfl (lv_at hl 0 rfl) ?_
    refine q_getR C hj lk_X12_369 dX12_draws_33 hf (fun v1 hf => ?_)
    refine q_getI C hj lk_X12_166 dX12_draws_36 hf (fun v2 hf => ?_)
    refine q_icge C (tgt := 231) dX12_draws_39 (by decide) hf (fun hf => ?_) (fun hf => ?_)
    · refine lv_iload_n hx hb dX12_draws_231 rfl (lv_at hl 1 rfl) ?_
      exact q_iretW C hj dX12_draws_232 hf
    · refine lv_iconst (v := 0) hx hb dX12_draws_42 qi_0 ?_
      refine lv_istore_n (lv' := [(3, .int 0), (0, .ref (q_ad E x0)), (1, .int x1), (2, .int x2)]) hx hb dX12_draws_43 rfl hl (by decide) rfl (fun ls hl => ?_)
      refine w_L_X12_draws_44 C (fun y3 y4 y5 g6 H locs ls hj hl hf => ?_) hj (lv_sub hl [1, 2, 3, 0] rfl) hf
      · refine lv_iinc (v := y5 + 1) (lv' := [(2, .int (y5 + 1)), (0, .ref (q_ad E y3)), (1, .int y4)]) hx hb dX12_draws_225 hl (k := 2) rfl (by rw [qi_1]) (by decide) rfl (fun ls hl => ?_)
        refine lv_goto (tgt := 31) hx hb dX12_draws_228 (by decide) ?_
        exact ih _ _ _ _ _ _ ls hj (lv_sub hl [1, 2, 0] rfl) hf
def f_X12_draws (g : qS) (a0 : Nat) : Option (Int32 × qS) := (g_C g a0 11).bind fun _ => (f_X12_starts g a0).bind fun g1 => L_X12_draws_8 (fun y2 y3 g4 => L_X12_draws_31 1000000000 y2 y3 0 g4) 1000000000 a0 0 0 g1
set_option maxHeartbeats 4000000 in
set_option maxRecDepth 100000 in
theorem c_X12_draws (l : Launch) (E : qV) {g : qS} {a0 : Nat} {res : (Int32 × qS)} (hf : f_X12_draws g a0 = some res) : q_MW l yX12_draws cX12_draws 8 (some .int) 3 69 E [.ref (q_ad E a0)] g (some (.int res.1)) res.2 ∧ ∃ fs, g a0 = some (.inr (11, fs)) := by
  unfold f_X12_draws at hf
  obtain ⟨u9, hu9, hf⟩ := q_ob hf
  refine ⟨q_ofW (by decide) rfl ?_, g_C_sp hu9⟩
  intro p e s m args below meth c ls C hj hl
  have hx := C.1
  have hb := C.2.1
  have C : q_C E p s m args meth c cX12_draws RX12 8 (some .int) := C
  have hl : lv_has ls 8 [(0, .ref (q_ad E a0))] := hl
  refine lv_iconst (v := 0) hx hb dX12_draws_0 qi_0 ?_
  refine lv_istore_n (lv' := [(1, .int 0), (0, .ref (q_ad E a0))]) hx hb dX12_draws_1 rfl hl (by decide) rfl (fun ls hl => ?_)
  refine lv_aload_n hx hb dX12_draws_2 rfl (lv_at hl 1 rfl) ?_
  refine q_cVWV C hj cw_X12_436 (As := []) (rest := []) hf (fun g9 h9 => c_X12_starts l E h9) rfl hl rfl rfl rfl dX12_draws_3 ⟨Nat.zero_le _, Nat.zero_le _⟩ (fun g1 H locs hj hf => ?_)
  refine lv_iconst (v := 0) hx hb dX12_draws_6 qi_0 ?_
  refine lv_istore_n (lv' := [(2, .int 0), (1, .int 0), (0, .ref (q_ad E a0))]) hx hb dX12_draws_7 rfl hl (by decide) rfl (fun ls hl => ?_)
  refine w_L_X12_draws_8 C (fun y2 y3 g4 H locs ls hj hl hf => ?_) hj (lv_sub hl [2, 1, 0] rfl) hf
  · refine lv_iconst (v := 0) hx hb dX12_draws_29 qi_0 ?_
    refine lv_istore_n (lv' := [(2, .int 0), (0, .ref (q_ad E y2)), (1, .int y3)]) hx hb dX12_draws_30 rfl hl (by decide) rfl (fun ls hl => ?_)
    refine w_L_X12_draws_31 C  hj (lv_sub hl [1, 2, 0] rfl) hf
def f_X12_drawn (g : qS) (a0 : Nat) (a1 : Int32) : Option (Int32 × qS) := (g_C g a0 11).bind fun _ => (p_I g a0 11 0 0).bind fun g1 => (g_Q g1 a0 11 3).bind fun o => if o = none then (q_b2 (f_X12_refused g1 a0 1) fun v11 g10 => some (v11, g10)) else ((f_X12_in g1 a1 0 65536).bind fun v2 => if v2 = 0 then (q_b2 (f_X12_refused g1 a0 2) fun v9 g8 => some (v9, g8)) else ((p_I g1 a0 11 31 a1).bind fun g3 => q_b2 (f_X12_draws g3 a0) fun v5 g4 => q_b2 (f_X12_good g4 a0 v5) fun v7 g6 => some (v7, g6)))
set_option maxHeartbeats 4000000 in
set_option maxRecDepth 100000 in
theorem c_X12_drawn (l : Launch) (E : qV) {g : qS} {a0 : Nat} {a1 : Int32} {res : (Int32 × qS)} (hf : f_X12_drawn g a0 a1 = some res) : q_MW l yX12_drawn cX12_drawn 2 (some .int) 4 96 E [.ref (q_ad E a0), .int a1] g (some (.int res.1)) res.2 ∧ ∃ fs, g a0 = some (.inr (11, fs)) := by
  unfold f_X12_drawn at hf
  obtain ⟨u9, hu9, hf⟩ := q_ob hf
  refine ⟨q_ofW (by decide) rfl ?_, g_C_sp hu9⟩
  intro p e s m args below meth c ls C hj hl
  have hx := C.1
  have hb := C.2.1
  have C : q_C E p s m args meth c cX12_drawn RX12 2 (some .int) := C
  have hl : lv_has ls 2 [(0, .ref (q_ad E a0)), (1, .int a1)] := hl
  refine lv_aload_n hx hb dX12_drawn_0 rfl (lv_at hl 0 rfl) ?_
  refine lv_iconst (v := 0) hx hb dX12_drawn_1 qi_0 ?_
  refine q_putI C hj fp_X12_48 dX12_drawn_2 hf (fun g1 H locs hj hf => ?_)
  refine lv_aload_n hx hb dX12_drawn_5 rfl (lv_at hl 0 rfl) ?_
  refine q_gnnull C hj lk_X12_369 dX12_drawn_6 (tgt := 18) dX12_drawn_9 (by decide) hf (fun hf => ?_) (fun hf => ?_)
  · refine lv_iload_n hx hb dX12_drawn_18 rfl (lv_at hl 1 rfl) ?_
    refine lv_iconst (v := 0) hx hb dX12_drawn_19 qi_0 ?_
    refine lv_ldcw (v := 65536) hx hb C.2.2.2.1 (C.2.2.2.2.1 _ kc_X12_541) dX12_drawn_20 ?_
    refine q_cSRI C hj cw_X12_127 (As := [.int a1, .int 0, .int 65536]) (rest := []) hf (fun v9 h9 => c_X12_in l E h9) rfl hl rfl rfl rfl dX12_drawn_23 ⟨Nat.zero_le _, Nat.zero_le _⟩ (fun v2 hf => ?_)
    refine q_ifne C (tgt := 35) dX12_drawn_26 (by decide) hf (fun hf => ?_) (fun hf => ?_)
    · refine lv_aload_n hx hb dX12_drawn_35 rfl (lv_at hl 0 rfl) ?_
      refine lv_iload_n hx hb dX12_drawn_36 rfl (lv_at hl 1 rfl) ?_
      refine q_putI C hj fp_X12_534 dX12_drawn_37 hf (fun g3 H locs hj hf => ?_)
      refine lv_aload_n hx hb dX12_drawn_40 rfl (lv_at hl 0 rfl) ?_
      refine lv_aload_n hx hb dX12_drawn_41 rfl (lv_at hl 0 rfl) ?_
      refine q_cVWI C hj cw_X12_542 (As := []) (rest := [.ref (q_ad E a0)]) hf (fun v9 g9 h9 => c_X12_draws l E h9) rfl hl rfl rfl rfl dX12_drawn_42 ⟨Nat.zero_le _, Nat.zero_le _⟩ (fun v5 g4 H locs hj hf => ?_)
      refine q_cVWI C hj cw_X12_58 (As := [.int v5]) (rest := []) hf (fun v9 g9 h9 => c_X12_good l E h9) rfl hl rfl rfl rfl dX12_drawn_45 ⟨Nat.zero_le _, Nat.zero_le _⟩ (fun v7 g6 H locs hj hf => ?_)
      exact q_iretW C hj dX12_drawn_48 hf
    · refine lv_aload_n hx hb dX12_drawn_29 rfl (lv_at hl 0 rfl) ?_
      refine lv_iconst (v := 2) hx hb dX12_drawn_30 qi_2 ?_
      refine q_cVWI C hj cw_X12_54 (As := [.int 2]) (rest := []) hf (fun v9 g9 h9 => c_X12_refused l E h9) rfl hl rfl rfl rfl dX12_drawn_31 ⟨Nat.zero_le _, Nat.zero_le _⟩ (fun v9 g8 H locs hj hf => ?_)
      exact q_iretW C hj dX12_drawn_34 hf
  · refine lv_aload_n hx hb dX12_drawn_12 rfl (lv_at hl 0 rfl) ?_
    refine lv_iconst (v := 1) hx hb dX12_drawn_13 qi_1 ?_
    refine q_cVWI C hj cw_X12_54 (As := [.int 1]) (rest := []) hf (fun v9 g9 h9 => c_X12_refused l E h9) rfl hl rfl rfl rfl dX12_drawn_14 ⟨Nat.zero_le _, Nat.zero_le _⟩ (fun v11 g10 H locs hj hf => ?_)
    exact q_iretW C hj dX12_drawn_17 hf
def L_X12_caught_57  : Nat → Nat → Int32 → Int32 → Int32 → Int32 → qS → Option (Int32 × qS)
  | 0, _, _, _, _, _, _ => none
  | n + 1, x0, x1, x3, x4, x5, g => if x3 ≤ x5 then (q_b2 (f_X12_good g x0 x4) fun v2 g1 => some (v2, g1)) else (q_b2 (f_X12_draws g x0) fun v4 g3 => (g_R g3 x0 11 16).bind fun v5 => (a_I g3 v5 (12 + x1)).bind fun v6 => L_X12_caught_57 n x0 x1 x3 (x4 + v6) (x5 + 1) g3)
set_option maxHeartbeats 4000000 in
set_option maxRecDepth 100000 in
theorem w_L_X12_caught_57 {l : Launch} {E : qV} {p : Program} {e : Env} {s : State} {m : MethodId} {args : Array Value} {below : List Frame} {meth : Method} {c : Code}  {res : (Int32 × qS)} (C : q_C E p s m args meth c cX12_caught RX12 6 (some .int))  : ∀ {n : Nat} {x0 : Nat} {x1 : Int32} {x3 : Int32} {x4 : Int32} {x5 : Int32} {g : qS} {H : Heap} {locs : List Loc} {ls : Array Slot}, q_J E s g H locs → lv_has ls 6 [(0, .ref (q_ad E x0)), (1, .int x1), (3, .int x3), (4, .int x4), (5, .int x5)] → L_X12_caught_57 n x0 x1 x3 x4 x5 g = some res → W p l e (q_rm 4 96) s m args below meth c H locs 0 0 (q_ZW E below (some (.int res.1)) res.2 args s) (F0 m 57 ls []) := by
  have hx := C.1
  have hb := C.2.1
  intro n
  induction n with
  | zero =>
    intro x0 x1 x3 x4 x5 g H locs ls hj hl hf
    cases hf
  | succ n ih_ =>
    intro x0 x1 x3 x4 x5 g H locs ls hj hl hf
    have ih : ∀ (x0 : Nat) (x1 : Int32) (x3 : Int32) (x4 : Int32) (x5 : Int32) (g : qS) (H : Heap) (locs : List Loc) (ls : Array Slot), q_J E s g H locs → lv_has ls 6 [(0, .ref (q_ad E x0)), (1, .int x1), (3, .int x3), (4, .int x4), (5, .int x5)] → L_X12_caught_57 n x0 x1 x3 x4 x5 g = some res → W p l e (q_rm 4 96) s m args below meth c H locs 0 0 (q_ZW E below (some (.int res.1)) res.2 args s) (F0 m 57 ls []) := fun x0 x1 x3 x4 x5 g H locs ls hj hl hf => ih_ hj hl hf
    unfold L_X12_caught_57 at hf
    refine lv_iload hx hb dX12_caught_57 (lv_at hl 4 rfl) ?_
    refine lv_iload_n hx hb dX12_caught_59 rfl (lv_at hl 2 rfl) ?_
    refine q_icge C (tgt := 88) dX12_caught_60 (by decide) hf (fun hf => ?_) (fun hf => ?_)
    · refine lv_aload_n hx hb dX12_caught_88 rfl (lv_at hl 0 rfl) ?_
      refine lv_iload hx hb dX12_caught_89 (lv_at hl 3 rfl) ?_
      refine q_cVWI C hj cw_X12_58 (As := [.int x4]) (rest := []) hf (fun v9 g9 h9 => c_X12_good l E h9) rfl hl rfl rfl rfl dX12_caught_91 ⟨Nat.zero_le _, Nat.zero_le _⟩ (fun v2 g1 H locs hj hf => ?_)
      exact q_iretW C hj dX12_caught_94 hf
    · refine lv_aload_n hx hb dX12_caught_63 rfl (lv_at hl 0 rfl) ?_
      refine q_cVWI C hj cw_X12_542 (As := []) (rest := []) hf (fun v9 g9 h9 => c_X12_draws l E h9) rfl hl rfl rfl rfl dX12_caught_64 ⟨Nat.zero_le _, Nat.zero_le _⟩ (fun v4 g3 H locs hj hf => ?_)
      refine lv_pop hx hb dX12_caught_67 rfl ?_
      refine lv_iload hx hb dX12_caught_68 (lv_at hl 3 rfl) ?_
      refine lv_aload_n hx hb dX12_caught_70 rfl (lv_at hl 0 rfl) ?_
      refine q_getR C hj lk_X12_21 dX12_caught_71 hf (fun v5 hf => ?_)
      refine lv_bipush (v := 12) hx hb dX12_caught_74 (by decide) ?_
      refine lv_iload_n hx hb dX12_caught_76 rfl (lv_at hl 1 rfl) ?_
      refine lv_iadd hx hb dX12_caught_77 ?_
      refine q_aldI C hj dX12_caught_78 hf (fun v6 hf => ?_)
      refine lv_iadd hx hb dX12_caught_79 ?_
      refine lv_istore (lv' := [(4, .int (x4 + v6)), (0, .ref (q_ad E x0)), (1, .int x1), (3, .int x3), (5, .int x5)]) hx hb dX12_caught_80 hl (by decide) rfl (fun ls hl => ?_)
      refine lv_iinc (v := x5 + 1) (lv' := [(5, .int (x5 + 1)), (4, .int (x4 + v6)), (0, .ref (q_ad E x0)), (1, .int x1), (3, .int x3)]) hx hb dX12_caught_82 hl (k := 4) rfl (by rw [qi_1]) (by decide) rfl (fun ls hl => ?_)
      refine lv_goto (tgt := 57) hx hb dX12_caught_85 (by decide) ?_
      exact ih _ _ _ _ _ _ _ _ ls hj (lv_sub hl [2, 3, 4, 1, 0] rfl) hf
def f_X12_caught (g : qS) (a0 : Nat) (a1 : Int32) (a2 : Int32) (a3 : Int32) : Option (Int32 × qS) := (g_C g a0 11).bind fun _ => (p_I g a0 11 0 0).bind fun g1 => (f_X12_isGiver g1 a0 a1).bind fun v2 => if v2 = 0 then (q_b2 (f_X12_refused g1 a0 1) fun v11 g10 => some (v11, g10)) else ((f_X12_in g1 a2 0 65536).bind fun v3 => if v3 = 0 then (q_b2 (f_X12_refused g1 a0 2) fun v5 g4 => some (v5, g4)) else ((f_X12_in g1 a3 1 50).bind fun v6 => if v6 = 0 then (q_b2 (f_X12_refused g1 a0 2) fun v9 g8 => some (v9, g8)) else ((p_I g1 a0 11 31 a2).bind fun g7 => L_X12_caught_57 1000000000 a0 a1 a3 0 0 g7)))
set_option maxHeartbeats 4000000 in
set_option maxRecDepth 100000 in
theorem c_X12_caught (l : Launch) (E : qV) {g : qS} {a0 : Nat} {a1 : Int32} {a2 : Int32} {a3 : Int32} {res : (Int32 × qS)} (hf : f_X12_caught g a0 a1 a2 a3 = some res) : q_MW l yX12_caught cX12_caught 6 (some .int) 4 96 E [.ref (q_ad E a0), .int a1, .int a2, .int a3] g (some (.int res.1)) res.2 ∧ ∃ fs, g a0 = some (.inr (11, fs)) := by
  unfold f_X12_caught at hf
  obtain ⟨u9, hu9, hf⟩ := q_ob hf
  refine ⟨q_ofW (by decide) rfl ?_, g_C_sp hu9⟩
  intro p e s m args below meth c ls C hj hl
  have hx := C.1
  have hb := C.2.1
  have C : q_C E p s m args meth c cX12_caught RX12 6 (some .int) := C
  have hl : lv_has ls 6 [(0, .ref (q_ad E a0)), (1, .int a1), (2, .int a2), (3, .int a3)] := hl
  refine lv_aload_n hx hb dX12_caught_0 rfl (lv_at hl 0 rfl) ?_
  refine lv_iconst (v := 0) hx hb dX12_caught_1 qi_0 ?_
  refine q_putI C hj fp_X12_48 dX12_caught_2 hf (fun g1 H locs hj hf => ?_)
  refine lv_aload_n hx hb dX12_caught_5 rfl (lv_at hl 0 rfl) ?_
  refine lv_iload_n hx hb dX12_caught_6 rfl (lv_at hl 1 rfl) ?_
  refine q_cVRI C hj cw_X12_414 (As := [.int a1]) (rest := []) hf (fun v9 h9 => c_X12_isGiver l E h9) rfl hl rfl rfl rfl dX12_caught_7 ⟨Nat.zero_le _, Nat.zero_le _⟩ (fun v2 hf => ?_)
  refine q_ifne C (tgt := 19) dX12_caught_10 (by decide) hf (fun hf => ?_) (fun hf => ?_)
  · refine lv_iload_n hx hb dX12_caught_19 rfl (lv_at hl 2 rfl) ?_
    refine lv_iconst (v := 0) hx hb dX12_caught_20 qi_0 ?_
    refine lv_ldcw (v := 65536) hx hb C.2.2.2.1 (C.2.2.2.2.1 _ kc_X12_541) dX12_caught_21 ?_
    refine q_cSRI C hj cw_X12_127 (As := [.int a2, .int 0, .int 65536]) (rest := []) hf (fun v9 h9 => c_X12_in l E h9) rfl hl rfl rfl rfl dX12_caught_24 ⟨Nat.zero_le _, Nat.zero_le _⟩ (fun v3 hf => ?_)
    refine q_ifeq C (tgt := 40) dX12_caught_27 (by decide) hf (fun hf => ?_) (fun hf => ?_)
    · refine lv_aload_n hx hb dX12_caught_40 rfl (lv_at hl 0 rfl) ?_
      refine lv_iconst (v := 2) hx hb dX12_caught_41 qi_2 ?_
      refine q_cVWI C hj cw_X12_54 (As := [.int 2]) (rest := []) hf (fun v9 g9 h9 => c_X12_refused l E h9) rfl hl rfl rfl rfl dX12_caught_42 ⟨Nat.zero_le _, Nat.zero_le _⟩ (fun v5 g4 H locs hj hf => ?_)
      exact q_iretW C hj dX12_caught_45 hf
    · refine lv_iload_n hx hb dX12_caught_30 rfl (lv_at hl 3 rfl) ?_
      refine lv_iconst (v := 1) hx hb dX12_caught_31 qi_1 ?_
      refine lv_bipush (v := 50) hx hb dX12_caught_32 (by decide) ?_
      refine q_cSRI C hj cw_X12_127 (As := [.int a3, .int 1, .int 50]) (rest := []) hf (fun v9 h9 => c_X12_in l E h9) rfl hl rfl rfl rfl dX12_caught_34 ⟨Nat.zero_le _, Nat.zero_le _⟩ (fun v6 hf => ?_)
      refine q_ifne C (tgt := 46) dX12_caught_37 (by decide) hf (fun hf => ?_) (fun hf => ?_)
      · refine lv_aload_n hx hb dX12_caught_46 rfl (lv_at hl 0 rfl) ?_
        refine lv_iload_n hx hb dX12_caught_47 rfl (lv_at hl 2 rfl) ?_
        refine q_putI C hj fp_X12_534 dX12_caught_48 hf (fun g7 H locs hj hf => ?_)
        refine lv_iconst (v := 0) hx hb dX12_caught_51 qi_0 ?_
        refine lv_istore (lv' := [(4, .int 0), (0, .ref (q_ad E a0)), (1, .int a1), (2, .int a2), (3, .int a3)]) hx hb dX12_caught_52 hl (by decide) rfl (fun ls hl => ?_)
        refine lv_iconst (v := 0) hx hb dX12_caught_54 qi_0 ?_
        refine lv_istore (lv' := [(5, .int 0), (4, .int 0), (0, .ref (q_ad E a0)), (1, .int a1), (2, .int a2), (3, .int a3)]) hx hb dX12_caught_55 hl (by decide) rfl (fun ls hl => ?_)
        refine w_L_X12_caught_57 C  hj (lv_sub hl [2, 3, 5, 1, 0] rfl) hf
      · refine lv_aload_n hx hb dX12_caught_40 rfl (lv_at hl 0 rfl) ?_
        refine lv_iconst (v := 2) hx hb dX12_caught_41 qi_2 ?_
        refine q_cVWI C hj cw_X12_54 (As := [.int 2]) (rest := []) hf (fun v9 g9 h9 => c_X12_refused l E h9) rfl hl rfl rfl rfl dX12_caught_42 ⟨Nat.zero_le _, Nat.zero_le _⟩ (fun v9 g8 H locs hj hf => ?_)
        exact q_iretW C hj dX12_caught_45 hf
  · refine lv_aload_n hx hb dX12_caught_13 rfl (lv_at hl 0 rfl) ?_
    refine lv_iconst (v := 1) hx hb dX12_caught_14 qi_1 ?_
    refine q_cVWI C hj cw_X12_54 (As := [.int 1]) (rest := []) hf (fun v9 g9 h9 => c_X12_refused l E h9) rfl hl rfl rfl rfl dX12_caught_15 ⟨Nat.zero_le _, Nat.zero_le _⟩ (fun v11 g10 H locs hj hf => ?_)
    exact q_iretW C hj dX12_caught_18 hf
def L_X12_remembers_51  : Nat → Nat → Int32 → qS → Option qS
  | 0, _, _, _ => none
  | n + 1, x0, x1, g => if 16 ≤ x1 then ((g_I g x0 11 19).bind fun v1 => (p_I g x0 11 19 (v1 + 1)).bind fun g2 => some g2) else ((g_R g x0 11 17).bind fun v3 => (g_I g x0 11 19).bind fun v4 => (g_R g x0 11 15).bind fun v5 => (a_I g v5 x1).bind fun v6 => (s_I g v3 ((16 * v4) + x1) v6).bind fun g7 => L_X12_remembers_51 n x0 (x1 + 1) g7)
set_option maxHeartbeats 4000000 in
set_option maxRecDepth 100000 in
theorem w_L_X12_remembers_51 {l : Launch} {E : qV} {p : Program} {e : Env} {s : State} {m : MethodId} {args : Array Value} {below : List Frame} {meth : Method} {c : Code}  {res : qS} (C : q_C E p s m args meth c cX12_remembers RX12 2 none)  : ∀ {n : Nat} {x0 : Nat} {x1 : Int32} {g : qS} {H : Heap} {locs : List Loc} {ls : Array Slot}, q_J E s g H locs → lv_has ls 2 [(0, .ref (q_ad E x0)), (1, .int x1)] → L_X12_remembers_51 n x0 x1 g = some res → W p l e (q_rm 0 0) s m args below meth c H locs 0 0 (q_ZW E below none res args s) (F0 m 51 ls []) := by
  have hx := C.1
  have hb := C.2.1
  intro n
  induction n with
  | zero =>
    intro x0 x1 g H locs ls hj hl hf
    cases hf
  | succ n ih_ =>
    intro x0 x1 g H locs ls hj hl hf
    have ih : ∀ (x0 : Nat) (x1 : Int32) (g : qS) (H : Heap) (locs : List Loc) (ls : Array Slot), q_J E s g H locs → lv_has ls 2 [(0, .ref (q_ad E x0)), (1, .int x1)] → L_X12_remembers_51 n x0 x1 g = some res → W p l e (q_rm 0 0) s m args below meth c H locs 0 0 (q_ZW E below none res args s) (F0 m 51 ls []) := fun x0 x1 g H locs ls hj hl hf => ih_ hj hl hf
    unfold L_X12_remembers_51 at hf
    refine lv_iload_n hx hb dX12_remembers_51 rfl (lv_at hl 1 rfl) ?_
    refine lv_bipush (v := 16) hx hb dX12_remembers_52 (by decide) ?_
    refine q_icge C (tgt := 83) dX12_remembers_54 (by decide) hf (fun hf => ?_) (fun hf => ?_)
    · refine lv_aload_n hx hb dX12_remembers_83 rfl (lv_at hl 0 rfl) ?_
      refine lv_dup hx hb dX12_remembers_84 rfl ?_
      refine q_getI C hj lk_X12_371 dX12_remembers_85 hf (fun v1 hf => ?_)
      refine lv_iconst (v := 1) hx hb dX12_remembers_88 qi_1 ?_
      refine lv_iadd hx hb dX12_remembers_89 ?_
      refine q_putI C hj fp_X12_371 dX12_remembers_90 hf (fun g2 H locs hj hf => ?_)
      exact q_vretW C hj dX12_remembers_93 hf
    · refine lv_aload_n hx hb dX12_remembers_57 rfl (lv_at hl 0 rfl) ?_
      refine q_getR C hj lk_X12_24 dX12_remembers_58 hf (fun v3 hf => ?_)
      refine lv_bipush (v := 16) hx hb dX12_remembers_61 (by decide) ?_
      refine lv_aload_n hx hb dX12_remembers_63 rfl (lv_at hl 0 rfl) ?_
      refine q_getI C hj lk_X12_371 dX12_remembers_64 hf (fun v4 hf => ?_)
      refine lv_imul hx hb dX12_remembers_67 ?_
      refine lv_iload_n hx hb dX12_remembers_68 rfl (lv_at hl 1 rfl) ?_
      refine lv_iadd hx hb dX12_remembers_69 ?_
      refine lv_aload_n hx hb dX12_remembers_70 rfl (lv_at hl 0 rfl) ?_
      refine q_getR C hj lk_X12_17 dX12_remembers_71 hf (fun v5 hf => ?_)
      refine lv_iload_n hx hb dX12_remembers_74 rfl (lv_at hl 1 rfl) ?_
      refine q_aldI C hj dX12_remembers_75 hf (fun v6 hf => ?_)
      refine q_astI C hj dX12_remembers_76 hf (fun g7 H locs hj hf => ?_)
      refine lv_iinc (v := x1 + 1) (lv' := [(1, .int (x1 + 1)), (0, .ref (q_ad E x0))]) hx hb dX12_remembers_77 hl (k := 1) rfl (by rw [qi_1]) (by decide) rfl (fun ls hl => ?_)
      refine lv_goto (tgt := 51) hx hb dX12_remembers_80 (by decide) ?_
      exact ih _ _ _ _ _ ls hj (lv_sub hl [1, 0] rfl) hf
def L_X12_remembers_11 (k39 : Nat → qS → Option qS) : Nat → Nat → Int32 → qS → Option qS
  | 0, _, _, _ => none
  | n + 1, x0, x1, g => if 240 ≤ x1 then (k39 x0 g) else ((g_R g x0 11 17).bind fun v1 => (g_R g x0 11 17).bind fun v2 => (a_I g v2 (x1 + 16)).bind fun v3 => (s_I g v1 x1 v3).bind fun g4 => L_X12_remembers_11 k39 n x0 (x1 + 1) g4)
set_option maxHeartbeats 4000000 in
set_option maxRecDepth 100000 in
theorem w_L_X12_remembers_11 {l : Launch} {E : qV} {p : Program} {e : Env} {s : State} {m : MethodId} {args : Array Value} {below : List Frame} {meth : Method} {c : Code} {k39 : Nat → qS → Option qS} {res : qS} (C : q_C E p s m args meth c cX12_remembers RX12 2 none) (hk39 : ∀ (x0 : Nat) (g : qS) (H : Heap) (locs : List Loc) (ls : Array Slot), q_J E s g H locs → lv_has ls 2 [(0, .ref (q_ad E x0))] → k39 x0 g = some res → W p l e (q_rm 0 0) s m args below meth c H locs 0 0 (q_ZW E below none res args s) (F0 m 39 ls [])) : ∀ {n : Nat} {x0 : Nat} {x1 : Int32} {g : qS} {H : Heap} {locs : List Loc} {ls : Array Slot}, q_J E s g H locs → lv_has ls 2 [(0, .ref (q_ad E x0)), (1, .int x1)] → L_X12_remembers_11 k39 n x0 x1 g = some res → W p l e (q_rm 0 0) s m args below meth c H locs 0 0 (q_ZW E below none res args s) (F0 m 11 ls []) := by
  have hx := C.1
  have hb := C.2.1
  intro n
  induction n with
  | zero =>
    intro x0 x1 g H locs ls hj hl hf
    cases hf
  | succ n ih_ =>
    intro x0 x1 g H locs ls hj hl hf
    have ih : ∀ (x0 : Nat) (x1 : Int32) (g : qS) (H : Heap) (locs : List Loc) (ls : Array Slot), q_J E s g H locs → lv_has ls 2 [(0, .ref (q_ad E x0)), (1, .int x1)] → L_X12_remembers_11 k39 n x0 x1 g = some res → W p l e (q_rm 0 0) s m args below meth c H locs 0 0 (q_ZW E below none res args s) (F0 m 11 ls []) := fun x0 x1 g H locs ls hj hl hf => ih_ hj hl hf
    unfold L_X12_remembers_11 at hf
    refine lv_iload_n hx hb dX12_remembers_11 rfl (lv_at hl 1 rfl) ?_
    refine lv_sipush (v := 240) hx hb dX12_remembers_12 (by decide) ?_
    refine q_icge C (tgt := 39) dX12_remembers_15 (by decide) hf (fun hf => ?_) (fun hf => ?_)
    · exact hk39 _ _ _ _ ls hj (lv_sub hl [0] rfl) hf
    · refine lv_aload_n hx hb dX12_remembers_18 rfl (lv_at hl 0 rfl) ?_
      refine q_getR C hj lk_X12_24 dX12_remembers_19 hf (fun v1 hf => ?_)
      refine lv_iload_n hx hb dX12_remembers_22 rfl (lv_at hl 1 rfl) ?_
      refine lv_aload_n hx hb dX12_remembers_23 rfl (lv_at hl 0 rfl) ?_
      refine q_getR C hj lk_X12_24 dX12_remembers_24 hf (fun v2 hf => ?_)
      refine lv_iload_n hx hb dX12_remembers_27 rfl (lv_at hl 1 rfl) ?_
      refine lv_bipush (v := 16) hx hb dX12_remembers_28 (by decide) ?_
      refine lv_iadd hx hb dX12_remembers_30 ?_
      refine q_aldI C hj dX12_remembers_31 hf (fun v3 hf => ?_)
      refine q_astI C hj dX12_remembers_32 hf (fun g4 H locs hj hf => ?_)
      refine lv_iinc (v := x1 + 1) (lv' := [(1, .int (x1 + 1)), (0, .ref (q_ad E x0))]) hx hb dX12_remembers_33 hl (k := 1) rfl (by rw [qi_1]) (by decide) rfl (fun ls hl => ?_)
      refine lv_goto (tgt := 11) hx hb dX12_remembers_36 (by decide) ?_
      exact ih _ _ _ _ _ ls hj (lv_sub hl [1, 0] rfl) hf
def f_X12_remembers (g : qS) (a0 : Nat) : Option qS := (g_C g a0 11).bind fun _ => (g_I g a0 11 19).bind fun v1 => if v1 = 16 then (L_X12_remembers_11 (fun y2 g3 => (g_I g3 y2 11 19).bind fun v4 => (p_I g3 y2 11 19 (v4 - 1)).bind fun g5 => L_X12_remembers_51 1000000000 y2 0 g5) 1000000000 a0 0 g) else (L_X12_remembers_51 1000000000 a0 0 g)
set_option maxHeartbeats 4000000 in
set_option maxRecDepth 100000 in
theorem c_X12_remembers (l : Launch) (E : qV) {g : qS} {a0 : Nat} {res : qS} (hf : f_X12_remembers g a0 = some res) : q_MW l yX12_remembers cX12_remembers 2 none 0 0 E [.ref (q_ad E a0)] g none res ∧ ∃ fs, g a0 = some (.inr (11, fs)) := by
  unfold f_X12_remembers at hf
  obtain ⟨u9, hu9, hf⟩ := q_ob hf
  refine ⟨q_ofW (by decide) rfl ?_, g_C_sp hu9⟩
  intro p e s m args below meth c ls C hj hl
  have hx := C.1
  have hb := C.2.1
  have C : q_C E p s m args meth c cX12_remembers RX12 2 none := C
  have hl : lv_has ls 2 [(0, .ref (q_ad E a0))] := hl
  refine lv_aload_n hx hb dX12_remembers_0 rfl (lv_at hl 0 rfl) ?_
  refine q_getI C hj lk_X12_371 dX12_remembers_1 hf (fun v1 hf => ?_)
  refine lv_bipush (v := 16) hx hb dX12_remembers_4 (by decide) ?_
  refine q_icne C (tgt := 49) dX12_remembers_6 (by decide) hf (fun hf => ?_) (fun hf => ?_)
  · refine lv_iconst (v := 0) hx hb dX12_remembers_49 qi_0 ?_
    refine lv_istore_n (lv' := [(1, .int 0), (0, .ref (q_ad E a0))]) hx hb dX12_remembers_50 rfl hl (by decide) rfl (fun ls hl => ?_)
    refine w_L_X12_remembers_51 C  hj (lv_sub hl [1, 0] rfl) hf
  · refine lv_iconst (v := 0) hx hb dX12_remembers_9 qi_0 ?_
    refine lv_istore_n (lv' := [(1, .int 0), (0, .ref (q_ad E a0))]) hx hb dX12_remembers_10 rfl hl (by decide) rfl (fun ls hl => ?_)
    refine w_L_X12_remembers_11 C (fun y2 g3 H locs ls hj hl hf => ?_) hj (lv_sub hl [1, 0] rfl) hf
    · refine lv_aload_n hx hb dX12_remembers_39 rfl (lv_at hl 0 rfl) ?_
      refine lv_dup hx hb dX12_remembers_40 rfl ?_
      refine q_getI C hj lk_X12_371 dX12_remembers_41 hf (fun v4 hf => ?_)
      refine lv_iconst (v := 1) hx hb dX12_remembers_44 qi_1 ?_
      refine lv_isub hx hb dX12_remembers_45 ?_
      refine q_putI C hj fp_X12_371 dX12_remembers_46 hf (fun g5 H locs hj hf => ?_)
      refine lv_iconst (v := 0) hx hb dX12_remembers_49 qi_0 ?_
      refine lv_istore_n (lv' := [(1, .int 0), (0, .ref (q_ad E y2))]) hx hb dX12_remembers_50 rfl hl (by decide) rfl (fun ls hl => ?_)
      refine w_L_X12_remembers_51 C  hj (lv_sub hl [1, 0] rfl) hf
def f_X12_give (g : qS) (a0 : Nat) (a1 : Int32) (a2 : Int32) (a3 : Int32) : Option (Int32 × qS) := (g_C g a0 11).bind fun _ => (p_I g a0 11 0 0).bind fun g1 => (f_X12_isGiver g1 a0 a1).bind fun v2 => if v2 = 0 then (q_b2 (f_X12_refused g1 a0 1) fun v4 g3 => some (v4, g3)) else ((f_X12_isThing g1 a0 a2).bind fun v5 => if v5 = 0 then (q_b2 (f_X12_refused g1 a0 1) fun v7 g6 => some (v7, g6)) else ((f_X12_isPerson g1 a0 a3).bind fun v8 => if v8 = 0 then (q_b2 (f_X12_refused g1 a0 1) fun v21 g20 => some (v21, g20)) else ((g_R g1 a0 11 15).bind fun v9 => (g_R g1 a0 11 15).bind fun v10 => (a_I g1 v10 15).bind fun v11 => (f_X12_comes g1 a0 v9 a1 a2 a3 v11).bind fun v12 => if v12 ≤ 1 then ((f_X12_remembers g1 a0).bind fun g13 => (g_R g13 a0 11 15).bind fun v14 => (f_X12_does g13 a0 v14 v12 a1 a2 a3).bind fun g15 => q_b2 (f_X12_good g15 a0 v12) fun v17 g16 => some (v17, g16)) else (q_b2 (f_X12_refused g1 a0 5) fun v19 g18 => some (v19, g18)))))
set_option maxHeartbeats 4000000 in
set_option maxRecDepth 100000 in
theorem c_X12_give (l : Launch) (E : qV) {g : qS} {a0 : Nat} {a1 : Int32} {a2 : Int32} {a3 : Int32} {res : (Int32 × qS)} (hf : f_X12_give g a0 a1 a2 a3 = some res) : q_MW l yX12_give cX12_give 5 (some .int) 4 95 E [.ref (q_ad E a0), .int a1, .int a2, .int a3] g (some (.int res.1)) res.2 ∧ ∃ fs, g a0 = some (.inr (11, fs)) := by
  unfold f_X12_give at hf
  obtain ⟨u9, hu9, hf⟩ := q_ob hf
  refine ⟨q_ofW (by decide) rfl ?_, g_C_sp hu9⟩
  intro p e s m args below meth c ls C hj hl
  have hx := C.1
  have hb := C.2.1
  have C : q_C E p s m args meth c cX12_give RX12 5 (some .int) := C
  have hl : lv_has ls 5 [(0, .ref (q_ad E a0)), (1, .int a1), (2, .int a2), (3, .int a3)] := hl
  refine lv_aload_n hx hb dX12_give_0 rfl (lv_at hl 0 rfl) ?_
  refine lv_iconst (v := 0) hx hb dX12_give_1 qi_0 ?_
  refine q_putI C hj fp_X12_48 dX12_give_2 hf (fun g1 H locs hj hf => ?_)
  refine lv_aload_n hx hb dX12_give_5 rfl (lv_at hl 0 rfl) ?_
  refine lv_iload_n hx hb dX12_give_6 rfl (lv_at hl 1 rfl) ?_
  refine q_cVRI C hj cw_X12_414 (As := [.int a1]) (rest := []) hf (fun v9 h9 => c_X12_isGiver l E h9) rfl hl rfl rfl rfl dX12_give_7 ⟨Nat.zero_le _, Nat.zero_le _⟩ (fun v2 hf => ?_)
  refine q_ifeq C (tgt := 29) dX12_give_10 (by decide) hf (fun hf => ?_) (fun hf => ?_)
  · refine lv_aload_n hx hb dX12_give_29 rfl (lv_at hl 0 rfl) ?_
    refine lv_iconst (v := 1) hx hb dX12_give_30 qi_1 ?_
    refine q_cVWI C hj cw_X12_54 (As := [.int 1]) (rest := []) hf (fun v9 g9 h9 => c_X12_refused l E h9) rfl hl rfl rfl rfl dX12_give_31 ⟨Nat.zero_le _, Nat.zero_le _⟩ (fun v4 g3 H locs hj hf => ?_)
    exact q_iretW C hj dX12_give_34 hf
  · refine lv_aload_n hx hb dX12_give_13 rfl (lv_at hl 0 rfl) ?_
    refine lv_iload_n hx hb dX12_give_14 rfl (lv_at hl 2 rfl) ?_
    refine q_cVRI C hj cw_X12_405 (As := [.int a2]) (rest := []) hf (fun v9 h9 => c_X12_isThing l E h9) rfl hl rfl rfl rfl dX12_give_15 ⟨Nat.zero_le _, Nat.zero_le _⟩ (fun v5 hf => ?_)
    refine q_ifeq C (tgt := 29) dX12_give_18 (by decide) hf (fun hf => ?_) (fun hf => ?_)
    · refine lv_aload_n hx hb dX12_give_29 rfl (lv_at hl 0 rfl) ?_
      refine lv_iconst (v := 1) hx hb dX12_give_30 qi_1 ?_
      refine q_cVWI C hj cw_X12_54 (As := [.int 1]) (rest := []) hf (fun v9 g9 h9 => c_X12_refused l E h9) rfl hl rfl rfl rfl dX12_give_31 ⟨Nat.zero_le _, Nat.zero_le _⟩ (fun v7 g6 H locs hj hf => ?_)
      exact q_iretW C hj dX12_give_34 hf
    · refine lv_aload_n hx hb dX12_give_21 rfl (lv_at hl 0 rfl) ?_
      refine lv_iload_n hx hb dX12_give_22 rfl (lv_at hl 3 rfl) ?_
      refine q_cVRI C hj cw_X12_408 (As := [.int a3]) (rest := []) hf (fun v9 h9 => c_X12_isPerson l E h9) rfl hl rfl rfl rfl dX12_give_23 ⟨Nat.zero_le _, Nat.zero_le _⟩ (fun v8 hf => ?_)
      refine q_ifne C (tgt := 35) dX12_give_26 (by decide) hf (fun hf => ?_) (fun hf => ?_)
      · refine lv_aload_n hx hb dX12_give_35 rfl (lv_at hl 0 rfl) ?_
        refine lv_aload_n hx hb dX12_give_36 rfl (lv_at hl 0 rfl) ?_
        refine q_getR C hj lk_X12_17 dX12_give_37 hf (fun v9 hf => ?_)
        refine lv_iload_n hx hb dX12_give_40 rfl (lv_at hl 1 rfl) ?_
        refine lv_iload_n hx hb dX12_give_41 rfl (lv_at hl 2 rfl) ?_
        refine lv_iload_n hx hb dX12_give_42 rfl (lv_at hl 3 rfl) ?_
        refine lv_aload_n hx hb dX12_give_43 rfl (lv_at hl 0 rfl) ?_
        refine q_getR C hj lk_X12_17 dX12_give_44 hf (fun v10 hf => ?_)
        refine lv_bipush (v := 15) hx hb dX12_give_47 (by decide) ?_
        refine q_aldI C hj dX12_give_49 hf (fun v11 hf => ?_)
        refine q_cVRI C hj cw_X12_424 (As := [.ref (q_ad E v9), .int a1, .int a2, .int a3, .int v11]) (rest := []) hf (fun v9 h9 => c_X12_comes l E h9) rfl hl rfl rfl rfl dX12_give_50 ⟨Nat.zero_le _, Nat.zero_le _⟩ (fun v12 hf => ?_)
        refine lv_istore (lv' := [(4, .int v12), (0, .ref (q_ad E a0)), (1, .int a1), (2, .int a2), (3, .int a3)]) hx hb dX12_give_53 hl (by decide) rfl (fun ls hl => ?_)
        refine lv_iload hx hb dX12_give_55 (lv_at hl 0 rfl) ?_
        refine lv_iconst (v := 1) hx hb dX12_give_57 qi_1 ?_
        refine q_icle C (tgt := 67) dX12_give_58 (by decide) hf (fun hf => ?_) (fun hf => ?_)
        · refine lv_aload_n hx hb dX12_give_67 rfl (lv_at hl 1 rfl) ?_
          refine q_cVWV C hj cw_X12_545 (As := []) (rest := []) hf (fun g9 h9 => c_X12_remembers l E h9) rfl hl rfl rfl rfl dX12_give_68 ⟨Nat.zero_le _, Nat.zero_le _⟩ (fun g13 H locs hj hf => ?_)
          refine lv_aload_n hx hb dX12_give_71 rfl (lv_at hl 1 rfl) ?_
          refine lv_aload_n hx hb dX12_give_72 rfl (lv_at hl 1 rfl) ?_
          refine q_getR C hj lk_X12_17 dX12_give_73 hf (fun v14 hf => ?_)
          refine lv_iload hx hb dX12_give_76 (lv_at hl 0 rfl) ?_
          refine lv_iload_n hx hb dX12_give_78 rfl (lv_at hl 2 rfl) ?_
          refine lv_iload_n hx hb dX12_give_79 rfl (lv_at hl 3 rfl) ?_
          refine lv_iload_n hx hb dX12_give_80 rfl (lv_at hl 4 rfl) ?_
          refine q_cVWV C hj cw_X12_439 (As := [.ref (q_ad E v14), .int v12, .int a1, .int a2, .int a3]) (rest := []) hf (fun g9 h9 => c_X12_does l E h9) rfl hl rfl rfl rfl dX12_give_81 ⟨Nat.zero_le _, Nat.zero_le _⟩ (fun g15 H locs hj hf => ?_)
          refine lv_aload_n hx hb dX12_give_84 rfl (lv_at hl 1 rfl) ?_
          refine lv_iload hx hb dX12_give_85 (lv_at hl 0 rfl) ?_
          refine q_cVWI C hj cw_X12_58 (As := [.int v12]) (rest := []) hf (fun v9 g9 h9 => c_X12_good l E h9) rfl hl rfl rfl rfl dX12_give_87 ⟨Nat.zero_le _, Nat.zero_le _⟩ (fun v17 g16 H locs hj hf => ?_)
          exact q_iretW C hj dX12_give_90 hf
        · refine lv_aload_n hx hb dX12_give_61 rfl (lv_at hl 1 rfl) ?_
          refine lv_iconst (v := 5) hx hb dX12_give_62 qi_5 ?_
          refine q_cVWI C hj cw_X12_54 (As := [.int 5]) (rest := []) hf (fun v9 g9 h9 => c_X12_refused l E h9) rfl hl rfl rfl rfl dX12_give_63 ⟨Nat.zero_le _, Nat.zero_le _⟩ (fun v19 g18 H locs hj hf => ?_)
          exact q_iretW C hj dX12_give_66 hf
      · refine lv_aload_n hx hb dX12_give_29 rfl (lv_at hl 0 rfl) ?_
        refine lv_iconst (v := 1) hx hb dX12_give_30 qi_1 ?_
        refine q_cVWI C hj cw_X12_54 (As := [.int 1]) (rest := []) hf (fun v9 g9 h9 => c_X12_refused l E h9) rfl hl rfl rfl rfl dX12_give_31 ⟨Nat.zero_le _, Nat.zero_le _⟩ (fun v21 g20 H locs hj hf => ?_)
        exact q_iretW C hj dX12_give_34 hf
def f_X12_day (g : qS) (a0 : Nat) : Option (Int32 × qS) := (g_C g a0 11).bind fun _ => (p_I g a0 11 0 0).bind fun g1 => (g_Q g1 a0 11 3).bind fun o => if o = none then (q_b2 (f_X12_refused g1 a0 1) fun v14 g13 => some (v14, g13)) else ((f_X12_remembers g1 a0).bind fun g2 => (g_R g2 a0 11 15).bind fun v3 => (g_R g2 a0 11 15).bind fun v4 => (a_I g2 v4 15).bind fun v5 => (g_R g2 a0 11 3).bind fun v6 => (g_I g2 v6 10 0).bind fun v7 => if (v7 : Int32) = 0 then none else ((s_I g2 v3 15 ((v5 + 1) - (v5 + 1) / v7 * v7)).bind fun g8 => (g_R g8 a0 11 15).bind fun v9 => (a_I g8 v9 15).bind fun v10 => q_b2 (f_X12_good g8 a0 v10) fun v12 g11 => some (v12, g11)))
set_option maxHeartbeats 4000000 in
set_option maxRecDepth 100000 in
theorem c_X12_day (l : Launch) (E : qV) {g : qS} {a0 : Nat} {res : (Int32 × qS)} (hf : f_X12_day g a0 = some res) : q_MW l yX12_day cX12_day 1 (some .int) 1 21 E [.ref (q_ad E a0)] g (some (.int res.1)) res.2 ∧ ∃ fs, g a0 = some (.inr (11, fs)) := by
  unfold f_X12_day at hf
  obtain ⟨u9, hu9, hf⟩ := q_ob hf
  refine ⟨q_ofW (by decide) rfl ?_, g_C_sp hu9⟩
  intro p e s m args below meth c ls C hj hl
  have hx := C.1
  have hb := C.2.1
  have C : q_C E p s m args meth c cX12_day RX12 1 (some .int) := C
  have hl : lv_has ls 1 [(0, .ref (q_ad E a0))] := hl
  refine lv_aload_n hx hb dX12_day_0 rfl (lv_at hl 0 rfl) ?_
  refine lv_iconst (v := 0) hx hb dX12_day_1 qi_0 ?_
  refine q_putI C hj fp_X12_48 dX12_day_2 hf (fun g1 H locs hj hf => ?_)
  refine lv_aload_n hx hb dX12_day_5 rfl (lv_at hl 0 rfl) ?_
  refine q_gnnull C hj lk_X12_369 dX12_day_6 (tgt := 18) dX12_day_9 (by decide) hf (fun hf => ?_) (fun hf => ?_)
  · refine lv_aload_n hx hb dX12_day_18 rfl (lv_at hl 0 rfl) ?_
    refine q_cVWV C hj cw_X12_545 (As := []) (rest := []) hf (fun g9 h9 => c_X12_remembers l E h9) rfl hl rfl rfl rfl dX12_day_19 ⟨Nat.zero_le _, Nat.zero_le _⟩ (fun g2 H locs hj hf => ?_)
    refine lv_aload_n hx hb dX12_day_22 rfl (lv_at hl 0 rfl) ?_
    refine q_getR C hj lk_X12_17 dX12_day_23 hf (fun v3 hf => ?_)
    refine lv_bipush (v := 15) hx hb dX12_day_26 (by decide) ?_
    refine lv_aload_n hx hb dX12_day_28 rfl (lv_at hl 0 rfl) ?_
    refine q_getR C hj lk_X12_17 dX12_day_29 hf (fun v4 hf => ?_)
    refine lv_bipush (v := 15) hx hb dX12_day_32 (by decide) ?_
    refine q_aldI C hj dX12_day_34 hf (fun v5 hf => ?_)
    refine lv_iconst (v := 1) hx hb dX12_day_35 qi_1 ?_
    refine lv_iadd hx hb dX12_day_36 ?_
    refine lv_aload_n hx hb dX12_day_37 rfl (lv_at hl 0 rfl) ?_
    refine q_getR C hj lk_X12_369 dX12_day_38 hf (fun v6 hf => ?_)
    refine q_getI C hj lk_X12_166 dX12_day_41 hf (fun v7 hf => ?_)
    refine q_irem C dX12_day_44 hf (fun hf => ?_)
    refine q_astI C hj dX12_day_45 hf (fun g8 H locs hj hf => ?_)
    refine lv_aload_n hx hb dX12_day_46 rfl (lv_at hl 0 rfl) ?_
    refine lv_aload_n hx hb dX12_day_47 rfl (lv_at hl 0 rfl) ?_
    refine q_getR C hj lk_X12_17 dX12_day_48 hf (fun v9 hf => ?_)
    refine lv_bipush (v := 15) hx hb dX12_day_51 (by decide) ?_
    refine q_aldI C hj dX12_day_53 hf (fun v10 hf => ?_)
    refine q_cVWI C hj cw_X12_58 (As := [.int v10]) (rest := []) hf (fun v9 g9 h9 => c_X12_good l E h9) rfl hl rfl rfl rfl dX12_day_54 ⟨Nat.zero_le _, Nat.zero_le _⟩ (fun v12 g11 H locs hj hf => ?_)
    exact q_iretW C hj dX12_day_57 hf
  · refine lv_aload_n hx hb dX12_day_12 rfl (lv_at hl 0 rfl) ?_
    refine lv_iconst (v := 1) hx hb dX12_day_13 qi_1 ?_
    refine q_cVWI C hj cw_X12_54 (As := [.int 1]) (rest := []) hf (fun v9 g9 h9 => c_X12_refused l E h9) rfl hl rfl rfl rfl dX12_day_14 ⟨Nat.zero_le _, Nat.zero_le _⟩ (fun v14 g13 H locs hj hf => ?_)
    exact q_iretW C hj dX12_day_17 hf
def f_X12_sew (g : qS) (a0 : Nat) (a1 : Int32) : Option (Int32 × qS) := (g_C g a0 11).bind fun _ => (p_I g a0 11 0 0).bind fun g1 => (f_X12_isPerson g1 a0 a1).bind fun v2 => if v2 = 0 then (q_b2 (f_X12_denied g1 a0 1) fun v14 g13 => q_zr v14 (v14, g13)) else ((g_R g1 a0 11 15).bind fun v3 => (f_X12_roomIn g1 a0 v3 a1).bind fun v4 => if v4 = 0 then (q_b2 (f_X12_denied g1 a0 5) fun v12 g11 => q_zr v12 (v12, g11)) else ((f_X12_remembers g1 a0).bind fun g5 => (g_R g5 a0 11 15).bind fun v6 => (a_I g5 v6 (4 + a1)).bind fun v7 => (s_I g5 v6 (4 + a1) (v7 + 1)).bind fun g8 => q_b2 (f_X12_granted g8 a0) fun v10 g9 => q_zr v10 (v10, g9)))
set_option maxHeartbeats 4000000 in
set_option maxRecDepth 100000 in
theorem c_X12_sew (l : Launch) (E : qV) {g : qS} {a0 : Nat} {a1 : Int32} {res : (Int32 × qS)} (hf : f_X12_sew g a0 a1 = some res) : q_MW l yX12_sew cX12_sew 2 (some .boolean) 2 44 E [.ref (q_ad E a0), .int a1] g (some (.int res.1)) res.2 ∧ ∃ fs, g a0 = some (.inr (11, fs)) := by
  unfold f_X12_sew at hf
  obtain ⟨u9, hu9, hf⟩ := q_ob hf
  refine ⟨q_ofW (by decide) rfl ?_, g_C_sp hu9⟩
  intro p e s m args below meth c ls C hj hl
  have hx := C.1
  have hb := C.2.1
  have C : q_C E p s m args meth c cX12_sew RX12 2 (some .boolean) := C
  have hl : lv_has ls 2 [(0, .ref (q_ad E a0)), (1, .int a1)] := hl
  refine lv_aload_n hx hb dX12_sew_0 rfl (lv_at hl 0 rfl) ?_
  refine lv_iconst (v := 0) hx hb dX12_sew_1 qi_0 ?_
  refine q_putI C hj fp_X12_48 dX12_sew_2 hf (fun g1 H locs hj hf => ?_)
  refine lv_aload_n hx hb dX12_sew_5 rfl (lv_at hl 0 rfl) ?_
  refine lv_iload_n hx hb dX12_sew_6 rfl (lv_at hl 1 rfl) ?_
  refine q_cVRI C hj cw_X12_408 (As := [.int a1]) (rest := []) hf (fun v9 h9 => c_X12_isPerson l E h9) rfl hl rfl rfl rfl dX12_sew_7 ⟨Nat.zero_le _, Nat.zero_le _⟩ (fun v2 hf => ?_)
  refine q_ifne C (tgt := 19) dX12_sew_10 (by decide) hf (fun hf => ?_) (fun hf => ?_)
  · refine lv_aload_n hx hb dX12_sew_19 rfl (lv_at hl 0 rfl) ?_
    refine lv_aload_n hx hb dX12_sew_20 rfl (lv_at hl 0 rfl) ?_
    refine q_getR C hj lk_X12_17 dX12_sew_21 hf (fun v3 hf => ?_)
    refine lv_iload_n hx hb dX12_sew_24 rfl (lv_at hl 1 rfl) ?_
    refine q_cVRI C hj cw_X12_392 (As := [.ref (q_ad E v3), .int a1]) (rest := []) hf (fun v9 h9 => c_X12_roomIn l E h9) rfl hl rfl rfl rfl dX12_sew_25 ⟨Nat.zero_le _, Nat.zero_le _⟩ (fun v4 hf => ?_)
    refine q_ifne C (tgt := 37) dX12_sew_28 (by decide) hf (fun hf => ?_) (fun hf => ?_)
    · refine lv_aload_n hx hb dX12_sew_37 rfl (lv_at hl 0 rfl) ?_
      refine q_cVWV C hj cw_X12_545 (As := []) (rest := []) hf (fun g9 h9 => c_X12_remembers l E h9) rfl hl rfl rfl rfl dX12_sew_38 ⟨Nat.zero_le _, Nat.zero_le _⟩ (fun g5 H locs hj hf => ?_)
      refine lv_aload_n hx hb dX12_sew_41 rfl (lv_at hl 0 rfl) ?_
      refine q_getR C hj lk_X12_17 dX12_sew_42 hf (fun v6 hf => ?_)
      refine lv_iconst (v := 4) hx hb dX12_sew_45 qi_4 ?_
      refine lv_iload_n hx hb dX12_sew_46 rfl (lv_at hl 1 rfl) ?_
      refine lv_iadd hx hb dX12_sew_47 ?_
      refine lv_dup2_11 hx hb dX12_sew_48 rfl rfl ?_
      refine q_aldI C hj dX12_sew_49 hf (fun v7 hf => ?_)
      refine lv_iconst (v := 1) hx hb dX12_sew_50 qi_1 ?_
      refine lv_iadd hx hb dX12_sew_51 ?_
      refine q_astI C hj dX12_sew_52 hf (fun g8 H locs hj hf => ?_)
      refine lv_aload_n hx hb dX12_sew_53 rfl (lv_at hl 0 rfl) ?_
      refine q_cVWI C hj cw_X12_551 (As := []) (rest := []) hf (fun v9 g9 h9 => c_X12_granted l E h9) rfl hl rfl rfl rfl dX12_sew_54 ⟨Nat.zero_le _, Nat.zero_le _⟩ (fun v10 g9 H locs hj hf => ?_)
      exact q_zretW C hj dX12_sew_57 hf
    · refine lv_aload_n hx hb dX12_sew_31 rfl (lv_at hl 0 rfl) ?_
      refine lv_iconst (v := 5) hx hb dX12_sew_32 qi_5 ?_
      refine q_cVWI C hj cw_X12_548 (As := [.int 5]) (rest := []) hf (fun v9 g9 h9 => c_X12_denied l E h9) rfl hl rfl rfl rfl dX12_sew_33 ⟨Nat.zero_le _, Nat.zero_le _⟩ (fun v12 g11 H locs hj hf => ?_)
      exact q_zretW C hj dX12_sew_36 hf
  · refine lv_aload_n hx hb dX12_sew_13 rfl (lv_at hl 0 rfl) ?_
    refine lv_iconst (v := 1) hx hb dX12_sew_14 qi_1 ?_
    refine q_cVWI C hj cw_X12_548 (As := [.int 1]) (rest := []) hf (fun v9 g9 h9 => c_X12_denied l E h9) rfl hl rfl rfl rfl dX12_sew_15 ⟨Nat.zero_le _, Nat.zero_le _⟩ (fun v14 g13 H locs hj hf => ?_)
    exact q_zretW C hj dX12_sew_18 hf
def L_X12_undo_38  : Nat → Nat → Int32 → qS → Option (Int32 × qS)
  | 0, _, _, _ => none
  | n + 1, x0, x1, g => if 16 ≤ x1 then (q_b2 (f_X12_granted g x0) fun v2 g1 => q_zr v2 (v2, g1)) else ((g_R g x0 11 15).bind fun v3 => (g_R g x0 11 17).bind fun v4 => (g_I g x0 11 19).bind fun v5 => (a_I g v4 ((16 * v5) + x1)).bind fun v6 => (s_I g v3 x1 v6).bind fun g7 => L_X12_undo_38 n x0 (x1 + 1) g7)
set_option maxHeartbeats 4000000 in
set_option maxRecDepth 100000 in
theorem w_L_X12_undo_38 {l : Launch} {E : qV} {p : Program} {e : Env} {s : State} {m : MethodId} {args : Array Value} {below : List Frame} {meth : Method} {c : Code}  {res : (Int32 × qS)} (C : q_C E p s m args meth c cX12_undo RX12 2 (some .boolean))  : ∀ {n : Nat} {x0 : Nat} {x1 : Int32} {g : qS} {H : Heap} {locs : List Loc} {ls : Array Slot}, q_J E s g H locs → lv_has ls 2 [(0, .ref (q_ad E x0)), (1, .int x1)] → L_X12_undo_38 n x0 x1 g = some res → W p l e (q_rm 2 42) s m args below meth c H locs 0 0 (q_ZW E below (some (.int res.1)) res.2 args s) (F0 m 38 ls []) := by
  have hx := C.1
  have hb := C.2.1
  intro n
  induction n with
  | zero =>
    intro x0 x1 g H locs ls hj hl hf
    cases hf
  | succ n ih_ =>
    intro x0 x1 g H locs ls hj hl hf
    have ih : ∀ (x0 : Nat) (x1 : Int32) (g : qS) (H : Heap) (locs : List Loc) (ls : Array Slot), q_J E s g H locs → lv_has ls 2 [(0, .ref (q_ad E x0)), (1, .int x1)] → L_X12_undo_38 n x0 x1 g = some res → W p l e (q_rm 2 42) s m args below meth c H locs 0 0 (q_ZW E below (some (.int res.1)) res.2 args s) (F0 m 38 ls []) := fun x0 x1 g H locs ls hj hl hf => ih_ hj hl hf
    unfold L_X12_undo_38 at hf
    refine lv_iload_n hx hb dX12_undo_38 rfl (lv_at hl 1 rfl) ?_
    refine lv_bipush (v := 16) hx hb dX12_undo_39 (by decide) ?_
    refine q_icge C (tgt := 70) dX12_undo_41 (by decide) hf (fun hf => ?_) (fun hf => ?_)
    · refine lv_aload_n hx hb dX12_undo_70 rfl (lv_at hl 0 rfl) ?_
      refine q_cVWI C hj cw_X12_551 (As := []) (rest := []) hf (fun v9 g9 h9 => c_X12_granted l E h9) rfl hl rfl rfl rfl dX12_undo_71 ⟨Nat.zero_le _, Nat.zero_le _⟩ (fun v2 g1 H locs hj hf => ?_)
      exact q_zretW C hj dX12_undo_74 hf
    · refine lv_aload_n hx hb dX12_undo_44 rfl (lv_at hl 0 rfl) ?_
      refine q_getR C hj lk_X12_17 dX12_undo_45 hf (fun v3 hf => ?_)
      refine lv_iload_n hx hb dX12_undo_48 rfl (lv_at hl 1 rfl) ?_
      refine lv_aload_n hx hb dX12_undo_49 rfl (lv_at hl 0 rfl) ?_
      refine q_getR C hj lk_X12_24 dX12_undo_50 hf (fun v4 hf => ?_)
      refine lv_bipush (v := 16) hx hb dX12_undo_53 (by decide) ?_
      refine lv_aload_n hx hb dX12_undo_55 rfl (lv_at hl 0 rfl) ?_
      refine q_getI C hj lk_X12_371 dX12_undo_56 hf (fun v5 hf => ?_)
      refine lv_imul hx hb dX12_undo_59 ?_
      refine lv_iload_n hx hb dX12_undo_60 rfl (lv_at hl 1 rfl) ?_
      refine lv_iadd hx hb dX12_undo_61 ?_
      refine q_aldI C hj dX12_undo_62 hf (fun v6 hf => ?_)
      refine q_astI C hj dX12_undo_63 hf (fun g7 H locs hj hf => ?_)
      refine lv_iinc (v := x1 + 1) (lv' := [(1, .int (x1 + 1)), (0, .ref (q_ad E x0))]) hx hb dX12_undo_64 hl (k := 1) rfl (by rw [qi_1]) (by decide) rfl (fun ls hl => ?_)
      refine lv_goto (tgt := 38) hx hb dX12_undo_67 (by decide) ?_
      exact ih _ _ _ _ _ ls hj (lv_sub hl [1, 0] rfl) hf
def f_X12_undo (g : qS) (a0 : Nat) : Option (Int32 × qS) := (g_C g a0 11).bind fun _ => (p_I g a0 11 0 0).bind fun g1 => (g_Q g1 a0 11 3).bind fun o => if o = none then (q_b2 (f_X12_denied g1 a0 6) fun v3 g2 => q_zr v3 (v3, g2)) else ((g_I g1 a0 11 19).bind fun v4 => if v4 = 0 then (q_b2 (f_X12_denied g1 a0 6) fun v8 g7 => q_zr v8 (v8, g7)) else ((g_I g1 a0 11 19).bind fun v5 => (p_I g1 a0 11 19 (v5 - 1)).bind fun g6 => L_X12_undo_38 1000000000 a0 0 g6))
set_option maxHeartbeats 4000000 in
set_option maxRecDepth 100000 in
theorem c_X12_undo (l : Launch) (E : qV) {g : qS} {a0 : Nat} {res : (Int32 × qS)} (hf : f_X12_undo g a0 = some res) : q_MW l yX12_undo cX12_undo 2 (some .boolean) 2 42 E [.ref (q_ad E a0)] g (some (.int res.1)) res.2 ∧ ∃ fs, g a0 = some (.inr (11, fs)) := by
  unfold f_X12_undo at hf
  obtain ⟨u9, hu9, hf⟩ := q_ob hf
  refine ⟨q_ofW (by decide) rfl ?_, g_C_sp hu9⟩
  intro p e s m args below meth c ls C hj hl
  have hx := C.1
  have hb := C.2.1
  have C : q_C E p s m args meth c cX12_undo RX12 2 (some .boolean) := C
  have hl : lv_has ls 2 [(0, .ref (q_ad E a0))] := hl
  refine lv_aload_n hx hb dX12_undo_0 rfl (lv_at hl 0 rfl) ?_
  refine lv_iconst (v := 0) hx hb dX12_undo_1 qi_0 ?_
  refine q_putI C hj fp_X12_48 dX12_undo_2 hf (fun g1 H locs hj hf => ?_)
  refine lv_aload_n hx hb dX12_undo_5 rfl (lv_at hl 0 rfl) ?_
  refine q_gnull C hj lk_X12_369 dX12_undo_6 (tgt := 19) dX12_undo_9 (by decide) hf (fun hf => ?_) (fun hf => ?_)
  · refine lv_aload_n hx hb dX12_undo_19 rfl (lv_at hl 0 rfl) ?_
    refine lv_bipush (v := 6) hx hb dX12_undo_20 (by decide) ?_
    refine q_cVWI C hj cw_X12_548 (As := [.int 6]) (rest := []) hf (fun v9 g9 h9 => c_X12_denied l E h9) rfl hl rfl rfl rfl dX12_undo_22 ⟨Nat.zero_le _, Nat.zero_le _⟩ (fun v3 g2 H locs hj hf => ?_)
    exact q_zretW C hj dX12_undo_25 hf
  · refine lv_aload_n hx hb dX12_undo_12 rfl (lv_at hl 0 rfl) ?_
    refine q_getI C hj lk_X12_371 dX12_undo_13 hf (fun v4 hf => ?_)
    refine q_ifne C (tgt := 26) dX12_undo_16 (by decide) hf (fun hf => ?_) (fun hf => ?_)
    · refine lv_aload_n hx hb dX12_undo_26 rfl (lv_at hl 0 rfl) ?_
      refine lv_dup hx hb dX12_undo_27 rfl ?_
      refine q_getI C hj lk_X12_371 dX12_undo_28 hf (fun v5 hf => ?_)
      refine lv_iconst (v := 1) hx hb dX12_undo_31 qi_1 ?_
      refine lv_isub hx hb dX12_undo_32 ?_
      refine q_putI C hj fp_X12_371 dX12_undo_33 hf (fun g6 H locs hj hf => ?_)
      refine lv_iconst (v := 0) hx hb dX12_undo_36 qi_0 ?_
      refine lv_istore_n (lv' := [(1, .int 0), (0, .ref (q_ad E a0))]) hx hb dX12_undo_37 rfl hl (by decide) rfl (fun ls hl => ?_)
      refine w_L_X12_undo_38 C  hj (lv_sub hl [1, 0] rfl) hf
    · refine lv_aload_n hx hb dX12_undo_19 rfl (lv_at hl 0 rfl) ?_
      refine lv_bipush (v := 6) hx hb dX12_undo_20 (by decide) ?_
      refine q_cVWI C hj cw_X12_548 (As := [.int 6]) (rest := []) hf (fun v9 g9 h9 => c_X12_denied l E h9) rfl hl rfl rfl rfl dX12_undo_22 ⟨Nat.zero_le _, Nat.zero_le _⟩ (fun v8 g7 H locs hj hf => ?_)
      exact q_zretW C hj dX12_undo_25 hf
def L_X12_mark_34 (k66 : Nat → qS → Option (Int32 × qS)) : Nat → Nat → Int32 → qS → Option (Int32 × qS)
  | 0, _, _, _ => none
  | n + 1, x0, x1, g => if 16 ≤ x1 then (k66 x0 g) else ((g_R g x0 11 18).bind fun v1 => (g_I g x0 11 20).bind fun v2 => (g_R g x0 11 15).bind fun v3 => (a_I g v3 x1).bind fun v4 => (s_I g v1 ((16 * v2) + x1) v4).bind fun g5 => L_X12_mark_34 k66 n x0 (x1 + 1) g5)
set_option maxHeartbeats 4000000 in
set_option maxRecDepth 100000 in
theorem w_L_X12_mark_34 {l : Launch} {E : qV} {p : Program} {e : Env} {s : State} {m : MethodId} {args : Array Value} {below : List Frame} {meth : Method} {c : Code} {k66 : Nat → qS → Option (Int32 × qS)} {res : (Int32 × qS)} (C : q_C E p s m args meth c cX12_mark RX12 2 (some .int)) (hk66 : ∀ (x0 : Nat) (g : qS) (H : Heap) (locs : List Loc) (ls : Array Slot), q_J E s g H locs → lv_has ls 2 [(0, .ref (q_ad E x0))] → k66 x0 g = some res → W p l e (q_rm 1 21) s m args below meth c H locs 0 0 (q_ZW E below (some (.int res.1)) res.2 args s) (F0 m 66 ls [])) : ∀ {n : Nat} {x0 : Nat} {x1 : Int32} {g : qS} {H : Heap} {locs : List Loc} {ls : Array Slot}, q_J E s g H locs → lv_has ls 2 [(0, .ref (q_ad E x0)), (1, .int x1)] → L_X12_mark_34 k66 n x0 x1 g = some res → W p l e (q_rm 1 21) s m args below meth c H locs 0 0 (q_ZW E below (some (.int res.1)) res.2 args s) (F0 m 34 ls []) := by
  have hx := C.1
  have hb := C.2.1
  intro n
  induction n with
  | zero =>
    intro x0 x1 g H locs ls hj hl hf
    cases hf
  | succ n ih_ =>
    intro x0 x1 g H locs ls hj hl hf
    have ih : ∀ (x0 : Nat) (x1 : Int32) (g : qS) (H : Heap) (locs : List Loc) (ls : Array Slot), q_J E s g H locs → lv_has ls 2 [(0, .ref (q_ad E x0)), (1, .int x1)] → L_X12_mark_34 k66 n x0 x1 g = some res → W p l e (q_rm 1 21) s m args below meth c H locs 0 0 (q_ZW E below (some (.int res.1)) res.2 args s) (F0 m 34 ls []) := fun x0 x1 g H locs ls hj hl hf => ih_ hj hl hf
    unfold L_X12_mark_34 at hf
    refine lv_iload_n hx hb dX12_mark_34 rfl (lv_at hl 1 rfl) ?_
    refine lv_bipush (v := 16) hx hb dX12_mark_35 (by decide) ?_
    refine q_icge C (tgt := 66) dX12_mark_37 (by decide) hf (fun hf => ?_) (fun hf => ?_)
    · exact hk66 _ _ _ _ ls hj (lv_sub hl [0] rfl) hf
    · refine lv_aload_n hx hb dX12_mark_40 rfl (lv_at hl 0 rfl) ?_
      refine q_getR C hj lk_X12_27 dX12_mark_41 hf (fun v1 hf => ?_)
      refine lv_bipush (v := 16) hx hb dX12_mark_44 (by decide) ?_
      refine lv_aload_n hx hb dX12_mark_46 rfl (lv_at hl 0 rfl) ?_
      refine q_getI C hj lk_X12_374 dX12_mark_47 hf (fun v2 hf => ?_)
      refine lv_imul hx hb dX12_mark_50 ?_
      refine lv_iload_n hx hb dX12_mark_51 rfl (lv_at hl 1 rfl) ?_
      refine lv_iadd hx hb dX12_mark_52 ?_
      refine lv_aload_n hx hb dX12_mark_53 rfl (lv_at hl 0 rfl) ?_
      refine q_getR C hj lk_X12_17 dX12_mark_54 hf (fun v3 hf => ?_)
      refine lv_iload_n hx hb dX12_mark_57 rfl (lv_at hl 1 rfl) ?_
      refine q_aldI C hj dX12_mark_58 hf (fun v4 hf => ?_)
      refine q_astI C hj dX12_mark_59 hf (fun g5 H locs hj hf => ?_)
      refine lv_iinc (v := x1 + 1) (lv' := [(1, .int (x1 + 1)), (0, .ref (q_ad E x0))]) hx hb dX12_mark_60 hl (k := 1) rfl (by rw [qi_1]) (by decide) rfl (fun ls hl => ?_)
      refine lv_goto (tgt := 34) hx hb dX12_mark_63 (by decide) ?_
      exact ih _ _ _ _ _ ls hj (lv_sub hl [1, 0] rfl) hf
def f_X12_mark (g : qS) (a0 : Nat) : Option (Int32 × qS) := (g_C g a0 11).bind fun _ => (p_I g a0 11 0 0).bind fun g1 => (g_Q g1 a0 11 3).bind fun o => if o = none then (q_b2 (f_X12_refused g1 a0 1) fun v13 g12 => some (v13, g12)) else ((g_I g1 a0 11 20).bind fun v2 => if v2 = 3 then (q_b2 (f_X12_refused g1 a0 3) fun v11 g10 => some (v11, g10)) else (L_X12_mark_34 (fun y3 g4 => (g_I g4 y3 11 20).bind fun v5 => (p_I g4 y3 11 20 (v5 + 1)).bind fun g6 => (g_I g6 y3 11 20).bind fun v7 => q_b2 (f_X12_good g6 y3 (v7 - 1)) fun v9 g8 => some (v9, g8)) 1000000000 a0 0 g1))
set_option maxHeartbeats 4000000 in
set_option maxRecDepth 100000 in
theorem c_X12_mark (l : Launch) (E : qV) {g : qS} {a0 : Nat} {res : (Int32 × qS)} (hf : f_X12_mark g a0 = some res) : q_MW l yX12_mark cX12_mark 2 (some .int) 1 21 E [.ref (q_ad E a0)] g (some (.int res.1)) res.2 ∧ ∃ fs, g a0 = some (.inr (11, fs)) := by
  unfold f_X12_mark at hf
  obtain ⟨u9, hu9, hf⟩ := q_ob hf
  refine ⟨q_ofW (by decide) rfl ?_, g_C_sp hu9⟩
  intro p e s m args below meth c ls C hj hl
  have hx := C.1
  have hb := C.2.1
  have C : q_C E p s m args meth c cX12_mark RX12 2 (some .int) := C
  have hl : lv_has ls 2 [(0, .ref (q_ad E a0))] := hl
  refine lv_aload_n hx hb dX12_mark_0 rfl (lv_at hl 0 rfl) ?_
  refine lv_iconst (v := 0) hx hb dX12_mark_1 qi_0 ?_
  refine q_putI C hj fp_X12_48 dX12_mark_2 hf (fun g1 H locs hj hf => ?_)
  refine lv_aload_n hx hb dX12_mark_5 rfl (lv_at hl 0 rfl) ?_
  refine q_gnnull C hj lk_X12_369 dX12_mark_6 (tgt := 18) dX12_mark_9 (by decide) hf (fun hf => ?_) (fun hf => ?_)
  · refine lv_aload_n hx hb dX12_mark_18 rfl (lv_at hl 0 rfl) ?_
    refine q_getI C hj lk_X12_374 dX12_mark_19 hf (fun v2 hf => ?_)
    refine lv_iconst (v := 3) hx hb dX12_mark_22 qi_3 ?_
    refine q_icne C (tgt := 32) dX12_mark_23 (by decide) hf (fun hf => ?_) (fun hf => ?_)
    · refine lv_iconst (v := 0) hx hb dX12_mark_32 qi_0 ?_
      refine lv_istore_n (lv' := [(1, .int 0), (0, .ref (q_ad E a0))]) hx hb dX12_mark_33 rfl hl (by decide) rfl (fun ls hl => ?_)
      refine w_L_X12_mark_34 C (fun y3 g4 H locs ls hj hl hf => ?_) hj (lv_sub hl [1, 0] rfl) hf
      · refine lv_aload_n hx hb dX12_mark_66 rfl (lv_at hl 0 rfl) ?_
        refine lv_dup hx hb dX12_mark_67 rfl ?_
        refine q_getI C hj lk_X12_374 dX12_mark_68 hf (fun v5 hf => ?_)
        refine lv_iconst (v := 1) hx hb dX12_mark_71 qi_1 ?_
        refine lv_iadd hx hb dX12_mark_72 ?_
        refine q_putI C hj fp_X12_374 dX12_mark_73 hf (fun g6 H locs hj hf => ?_)
        refine lv_aload_n hx hb dX12_mark_76 rfl (lv_at hl 0 rfl) ?_
        refine lv_aload_n hx hb dX12_mark_77 rfl (lv_at hl 0 rfl) ?_
        refine q_getI C hj lk_X12_374 dX12_mark_78 hf (fun v7 hf => ?_)
        refine lv_iconst (v := 1) hx hb dX12_mark_81 qi_1 ?_
        refine lv_isub hx hb dX12_mark_82 ?_
        refine q_cVWI C hj cw_X12_58 (As := [.int (v7 - 1)]) (rest := []) hf (fun v9 g9 h9 => c_X12_good l E h9) rfl hl rfl rfl rfl dX12_mark_83 ⟨Nat.zero_le _, Nat.zero_le _⟩ (fun v9 g8 H locs hj hf => ?_)
        exact q_iretW C hj dX12_mark_86 hf
    · refine lv_aload_n hx hb dX12_mark_26 rfl (lv_at hl 0 rfl) ?_
      refine lv_iconst (v := 3) hx hb dX12_mark_27 qi_3 ?_
      refine q_cVWI C hj cw_X12_54 (As := [.int 3]) (rest := []) hf (fun v9 g9 h9 => c_X12_refused l E h9) rfl hl rfl rfl rfl dX12_mark_28 ⟨Nat.zero_le _, Nat.zero_le _⟩ (fun v11 g10 H locs hj hf => ?_)
      exact q_iretW C hj dX12_mark_31 hf
  · refine lv_aload_n hx hb dX12_mark_12 rfl (lv_at hl 0 rfl) ?_
    refine lv_iconst (v := 1) hx hb dX12_mark_13 qi_1 ?_
    refine q_cVWI C hj cw_X12_54 (As := [.int 1]) (rest := []) hf (fun v9 g9 h9 => c_X12_refused l E h9) rfl hl rfl rfl rfl dX12_mark_14 ⟨Nat.zero_le _, Nat.zero_le _⟩ (fun v13 g12 H locs hj hf => ?_)
    exact q_iretW C hj dX12_mark_17 hf
def L_X12_back_32  : Nat → Nat → Int32 → Int32 → qS → Option (Int32 × qS)
  | 0, _, _, _, _ => none
  | n + 1, x0, x1, x2, g => if 16 ≤ x2 then ((p_I g x0 11 19 0).bind fun g1 => q_b2 (f_X12_granted g1 x0) fun v3 g2 => q_zr v3 (v3, g2)) else ((g_R g x0 11 15).bind fun v4 => (g_R g x0 11 18).bind fun v5 => (a_I g v5 ((16 * x1) + x2)).bind fun v6 => (s_I g v4 x2 v6).bind fun g7 => L_X12_back_32 n x0 x1 (x2 + 1) g7)
set_option maxHeartbeats 4000000 in
set_option maxRecDepth 100000 in
theorem w_L_X12_back_32 {l : Launch} {E : qV} {p : Program} {e : Env} {s : State} {m : MethodId} {args : Array Value} {below : List Frame} {meth : Method} {c : Code}  {res : (Int32 × qS)} (C : q_C E p s m args meth c cX12_back RX12 3 (some .boolean))  : ∀ {n : Nat} {x0 : Nat} {x1 : Int32} {x2 : Int32} {g : qS} {H : Heap} {locs : List Loc} {ls : Array Slot}, q_J E s g H locs → lv_has ls 3 [(0, .ref (q_ad E x0)), (1, .int x1), (2, .int x2)] → L_X12_back_32 n x0 x1 x2 g = some res → W p l e (q_rm 2 42) s m args below meth c H locs 0 0 (q_ZW E below (some (.int res.1)) res.2 args s) (F0 m 32 ls []) := by
  have hx := C.1
  have hb := C.2.1
  intro n
  induction n with
  | zero =>
    intro x0 x1 x2 g H locs ls hj hl hf
    cases hf
  | succ n ih_ =>
    intro x0 x1 x2 g H locs ls hj hl hf
    have ih : ∀ (x0 : Nat) (x1 : Int32) (x2 : Int32) (g : qS) (H : Heap) (locs : List Loc) (ls : Array Slot), q_J E s g H locs → lv_has ls 3 [(0, .ref (q_ad E x0)), (1, .int x1), (2, .int x2)] → L_X12_back_32 n x0 x1 x2 g = some res → W p l e (q_rm 2 42) s m args below meth c H locs 0 0 (q_ZW E below (some (.int res.1)) res.2 args s) (F0 m 32 ls []) := fun x0 x1 x2 g H locs ls hj hl hf => ih_ hj hl hf
    unfold L_X12_back_32 at hf
    refine lv_iload_n hx hb dX12_back_32 rfl (lv_at hl 2 rfl) ?_
    refine lv_bipush (v := 16) hx hb dX12_back_33 (by decide) ?_
    refine q_icge C (tgt := 61) dX12_back_35 (by decide) hf (fun hf => ?_) (fun hf => ?_)
    · refine lv_aload_n hx hb dX12_back_61 rfl (lv_at hl 0 rfl) ?_
      refine lv_iconst (v := 0) hx hb dX12_back_62 qi_0 ?_
      refine q_putI C hj fp_X12_371 dX12_back_63 hf (fun g1 H locs hj hf => ?_)
      refine lv_aload_n hx hb dX12_back_66 rfl (lv_at hl 0 rfl) ?_
      refine q_cVWI C hj cw_X12_551 (As := []) (rest := []) hf (fun v9 g9 h9 => c_X12_granted l E h9) rfl hl rfl rfl rfl dX12_back_67 ⟨Nat.zero_le _, Nat.zero_le _⟩ (fun v3 g2 H locs hj hf => ?_)
      exact q_zretW C hj dX12_back_70 hf
    · refine lv_aload_n hx hb dX12_back_38 rfl (lv_at hl 0 rfl) ?_
      refine q_getR C hj lk_X12_17 dX12_back_39 hf (fun v4 hf => ?_)
      refine lv_iload_n hx hb dX12_back_42 rfl (lv_at hl 2 rfl) ?_
      refine lv_aload_n hx hb dX12_back_43 rfl (lv_at hl 0 rfl) ?_
      refine q_getR C hj lk_X12_27 dX12_back_44 hf (fun v5 hf => ?_)
      refine lv_bipush (v := 16) hx hb dX12_back_47 (by decide) ?_
      refine lv_iload_n hx hb dX12_back_49 rfl (lv_at hl 1 rfl) ?_
      refine lv_imul hx hb dX12_back_50 ?_
      refine lv_iload_n hx hb dX12_back_51 rfl (lv_at hl 2 rfl) ?_
      refine lv_iadd hx hb dX12_back_52 ?_
      refine q_aldI C hj dX12_back_53 hf (fun v6 hf => ?_)
      refine q_astI C hj dX12_back_54 hf (fun g7 H locs hj hf => ?_)
      refine lv_iinc (v := x2 + 1) (lv' := [(2, .int (x2 + 1)), (0, .ref (q_ad E x0)), (1, .int x1)]) hx hb dX12_back_55 hl (k := 2) rfl (by rw [qi_1]) (by decide) rfl (fun ls hl => ?_)
      refine lv_goto (tgt := 32) hx hb dX12_back_58 (by decide) ?_
      exact ih _ _ _ _ _ _ ls hj (lv_sub hl [1, 2, 0] rfl) hf
def f_X12_back (g : qS) (a0 : Nat) (a1 : Int32) : Option (Int32 × qS) := (g_C g a0 11).bind fun _ => (p_I g a0 11 0 0).bind fun g1 => (g_Q g1 a0 11 3).bind fun o => if o = none then (q_b2 (f_X12_denied g1 a0 1) fun v3 g2 => q_zr v3 (v3, g2)) else (if a1 < 0 then (q_b2 (f_X12_denied g1 a0 1) fun v5 g4 => q_zr v5 (v5, g4)) else ((g_I g1 a0 11 20).bind fun v6 => if a1 < v6 then (L_X12_back_32 1000000000 a0 a1 0 g1) else (q_b2 (f_X12_denied g1 a0 1) fun v8 g7 => q_zr v8 (v8, g7))))
set_option maxHeartbeats 4000000 in
set_option maxRecDepth 100000 in
theorem c_X12_back (l : Launch) (E : qV) {g : qS} {a0 : Nat} {a1 : Int32} {res : (Int32 × qS)} (hf : f_X12_back g a0 a1 = some res) : q_MW l yX12_back cX12_back 3 (some .boolean) 2 42 E [.ref (q_ad E a0), .int a1] g (some (.int res.1)) res.2 ∧ ∃ fs, g a0 = some (.inr (11, fs)) := by
  unfold f_X12_back at hf
  obtain ⟨u9, hu9, hf⟩ := q_ob hf
  refine ⟨q_ofW (by decide) rfl ?_, g_C_sp hu9⟩
  intro p e s m args below meth c ls C hj hl
  have hx := C.1
  have hb := C.2.1
  have C : q_C E p s m args meth c cX12_back RX12 3 (some .boolean) := C
  have hl : lv_has ls 3 [(0, .ref (q_ad E a0)), (1, .int a1)] := hl
  refine lv_aload_n hx hb dX12_back_0 rfl (lv_at hl 0 rfl) ?_
  refine lv_iconst (v := 0) hx hb dX12_back_1 qi_0 ?_
  refine q_putI C hj fp_X12_48 dX12_back_2 hf (fun g1 H locs hj hf => ?_)
  refine lv_aload_n hx hb dX12_back_5 rfl (lv_at hl 0 rfl) ?_
  refine q_gnull C hj lk_X12_369 dX12_back_6 (tgt := 24) dX12_back_9 (by decide) hf (fun hf => ?_) (fun hf => ?_)
  · refine lv_aload_n hx hb dX12_back_24 rfl (lv_at hl 0 rfl) ?_
    refine lv_iconst (v := 1) hx hb dX12_back_25 qi_1 ?_
    refine q_cVWI C hj cw_X12_548 (As := [.int 1]) (rest := []) hf (fun v9 g9 h9 => c_X12_denied l E h9) rfl hl rfl rfl rfl dX12_back_26 ⟨Nat.zero_le _, Nat.zero_le _⟩ (fun v3 g2 H locs hj hf => ?_)
    exact q_zretW C hj dX12_back_29 hf
  · refine lv_iload_n hx hb dX12_back_12 rfl (lv_at hl 1 rfl) ?_
    refine q_iflt C (tgt := 24) dX12_back_13 (by decide) hf (fun hf => ?_) (fun hf => ?_)
    · refine lv_aload_n hx hb dX12_back_24 rfl (lv_at hl 0 rfl) ?_
      refine lv_iconst (v := 1) hx hb dX12_back_25 qi_1 ?_
      refine q_cVWI C hj cw_X12_548 (As := [.int 1]) (rest := []) hf (fun v9 g9 h9 => c_X12_denied l E h9) rfl hl rfl rfl rfl dX12_back_26 ⟨Nat.zero_le _, Nat.zero_le _⟩ (fun v5 g4 H locs hj hf => ?_)
      exact q_zretW C hj dX12_back_29 hf
    · refine lv_iload_n hx hb dX12_back_16 rfl (lv_at hl 1 rfl) ?_
      refine lv_aload_n hx hb dX12_back_17 rfl (lv_at hl 0 rfl) ?_
      refine q_getI C hj lk_X12_374 dX12_back_18 hf (fun v6 hf => ?_)
      refine q_iclt C (tgt := 30) dX12_back_21 (by decide) hf (fun hf => ?_) (fun hf => ?_)
      · refine lv_iconst (v := 0) hx hb dX12_back_30 qi_0 ?_
        refine lv_istore_n (lv' := [(2, .int 0), (0, .ref (q_ad E a0)), (1, .int a1)]) hx hb dX12_back_31 rfl hl (by decide) rfl (fun ls hl => ?_)
        refine w_L_X12_back_32 C  hj (lv_sub hl [1, 2, 0] rfl) hf
      · refine lv_aload_n hx hb dX12_back_24 rfl (lv_at hl 0 rfl) ?_
        refine lv_iconst (v := 1) hx hb dX12_back_25 qi_1 ?_
        refine q_cVWI C hj cw_X12_548 (As := [.int 1]) (rest := []) hf (fun v9 g9 h9 => c_X12_denied l E h9) rfl hl rfl rfl rfl dX12_back_26 ⟨Nat.zero_le _, Nat.zero_le _⟩ (fun v8 g7 H locs hj hf => ?_)
        exact q_zretW C hj dX12_back_29 hf
def L_X12_led_9  : Nat → Nat → Int32 → Int32 → Int32 → qS → Option (Int32 × qS)
  | 0, _, _, _, _, _ => none
  | n + 1, x0, x1, x2, x3, g => (g_Q g x0 11 3).bind fun o => if o = none then ((p_I g x0 11 0 1).bind fun g1 => some (0, g1)) else ((g_R g x0 11 3).bind fun v2 => (g_I g v2 10 2).bind fun v3 => if v3 ≤ x3 then ((p_I g x0 11 0 1).bind fun g4 => some (0, g4)) else ((g_R g x0 11 15).bind fun v5 => (a_I g v5 (0 + x3)).bind fun v6 => if v6 = (-2) then (if x2 = x1 then (some (x3, g)) else (L_X12_led_9 n x0 x1 (x2 + 1) (x3 + 1) g)) else (L_X12_led_9 n x0 x1 x2 (x3 + 1) g)))
set_option maxHeartbeats 4000000 in
set_option maxRecDepth 100000 in
theorem w_L_X12_led_9 {l : Launch} {E : qV} {p : Program} {e : Env} {s : State} {m : MethodId} {args : Array Value} {below : List Frame} {meth : Method} {c : Code}  {res : (Int32 × qS)} (C : q_C E p s m args meth c cX12_led RX12 4 (some .int))  : ∀ {n : Nat} {x0 : Nat} {x1 : Int32} {x2 : Int32} {x3 : Int32} {g : qS} {H : Heap} {locs : List Loc} {ls : Array Slot}, q_J E s g H locs → lv_has ls 4 [(0, .ref (q_ad E x0)), (1, .int x1), (2, .int x2), (3, .int x3)] → L_X12_led_9 n x0 x1 x2 x3 g = some res → W p l e (q_rm 0 0) s m args below meth c H locs 0 0 (q_ZW E below (some (.int res.1)) res.2 args s) (F0 m 9 ls []) := by
  have hx := C.1
  have hb := C.2.1
  intro n
  induction n with
  | zero =>
    intro x0 x1 x2 x3 g H locs ls hj hl hf
    cases hf
  | succ n ih_ =>
    intro x0 x1 x2 x3 g H locs ls hj hl hf
    have ih : ∀ (x0 : Nat) (x1 : Int32) (x2 : Int32) (x3 : Int32) (g : qS) (H : Heap) (locs : List Loc) (ls : Array Slot), q_J E s g H locs → lv_has ls 4 [(0, .ref (q_ad E x0)), (1, .int x1), (2, .int x2), (3, .int x3)] → L_X12_led_9 n x0 x1 x2 x3 g = some res → W p l e (q_rm 0 0) s m args below meth c H locs 0 0 (q_ZW E below (some (.int res.1)) res.2 args s) (F0 m 9 ls []) := fun x0 x1 x2 x3 g H locs ls hj hl hf => ih_ hj hl hf
    unfold L_X12_led_9 at hf
    refine lv_aload_n hx hb dX12_led_9 rfl (lv_at hl 0 rfl) ?_
    refine q_gnull C hj lk_X12_369 dX12_led_10 (tgt := 59) dX12_led_13 (by decide) hf (fun hf => ?_) (fun hf => ?_)
    · refine lv_aload_n hx hb dX12_led_59 rfl (lv_at hl 0 rfl) ?_
      refine lv_iconst (v := 1) hx hb dX12_led_60 qi_1 ?_
      refine q_putI C hj fp_X12_48 dX12_led_61 hf (fun g1 H locs hj hf => ?_)
      refine lv_iconst (v := 0) hx hb dX12_led_64 qi_0 ?_
      exact q_iretW C hj dX12_led_65 hf
    · refine lv_iload_n hx hb dX12_led_16 rfl (lv_at hl 3 rfl) ?_
      refine lv_aload_n hx hb dX12_led_17 rfl (lv_at hl 0 rfl) ?_
      refine q_getR C hj lk_X12_369 dX12_led_18 hf (fun v2 hf => ?_)
      refine q_getI C hj lk_X12_201 dX12_led_21 hf (fun v3 hf => ?_)
      refine q_icge C (tgt := 59) dX12_led_24 (by decide) hf (fun hf => ?_) (fun hf => ?_)
      · refine lv_aload_n hx hb dX12_led_59 rfl (lv_at hl 0 rfl) ?_
        refine lv_iconst (v := 1) hx hb dX12_led_60 qi_1 ?_
        refine q_putI C hj fp_X12_48 dX12_led_61 hf (fun g4 H locs hj hf => ?_)
        refine lv_iconst (v := 0) hx hb dX12_led_64 qi_0 ?_
        exact q_iretW C hj dX12_led_65 hf
      · refine lv_aload_n hx hb dX12_led_27 rfl (lv_at hl 0 rfl) ?_
        refine q_getR C hj lk_X12_17 dX12_led_28 hf (fun v5 hf => ?_)
        refine lv_iconst (v := 0) hx hb dX12_led_31 qi_0 ?_
        refine lv_iload_n hx hb dX12_led_32 rfl (lv_at hl 3 rfl) ?_
        refine lv_iadd hx hb dX12_led_33 ?_
        refine q_aldI C hj dX12_led_34 hf (fun v6 hf => ?_)
        refine lv_bipush (v := -2) hx hb dX12_led_35 (by decide) ?_
        refine q_iceq C (tgt := 43) dX12_led_37 (by decide) hf (fun hf => ?_) (fun hf => ?_)
        · refine lv_iload_n hx hb dX12_led_43 rfl (lv_at hl 2 rfl) ?_
          refine lv_iload_n hx hb dX12_led_44 rfl (lv_at hl 1 rfl) ?_
          refine q_icne C (tgt := 50) dX12_led_45 (by decide) hf (fun hf => ?_) (fun hf => ?_)
          · refine lv_iinc (v := x2 + 1) (lv' := [(2, .int (x2 + 1)), (0, .ref (q_ad E x0)), (1, .int x1), (3, .int x3)]) hx hb dX12_led_50 hl (k := 2) rfl (by rw [qi_1]) (by decide) rfl (fun ls hl => ?_)
            refine lv_iinc (v := x3 + 1) (lv' := [(3, .int (x3 + 1)), (2, .int (x2 + 1)), (0, .ref (q_ad E x0)), (1, .int x1)]) hx hb dX12_led_53 hl (k := 3) rfl (by rw [qi_1]) (by decide) rfl (fun ls hl => ?_)
            refine lv_goto (tgt := 9) hx hb dX12_led_56 (by decide) ?_
            exact ih _ _ _ _ _ _ _ ls hj (lv_sub hl [2, 3, 1, 0] rfl) hf
          · refine lv_iload_n hx hb dX12_led_48 rfl (lv_at hl 3 rfl) ?_
            exact q_iretW C hj dX12_led_49 hf
        · refine lv_goto (tgt := 53) hx hb dX12_led_40 (by decide) ?_
          refine lv_iinc (v := x3 + 1) (lv' := [(3, .int (x3 + 1)), (0, .ref (q_ad E x0)), (1, .int x1), (2, .int x2)]) hx hb dX12_led_53 hl (k := 3) rfl (by rw [qi_1]) (by decide) rfl (fun ls hl => ?_)
          refine lv_goto (tgt := 9) hx hb dX12_led_56 (by decide) ?_
          exact ih _ _ _ _ _ _ _ ls hj (lv_sub hl [1, 2, 3, 0] rfl) hf
def f_X12_led (g : qS) (a0 : Nat) (a1 : Int32) : Option (Int32 × qS) := (g_C g a0 11).bind fun _ => (p_I g a0 11 0 0).bind fun g1 => L_X12_led_9 1000000000 a0 a1 0 0 g1
set_option maxHeartbeats 4000000 in
set_option maxRecDepth 100000 in
theorem c_X12_led (l : Launch) (E : qV) {g : qS} {a0 : Nat} {a1 : Int32} {res : (Int32 × qS)} (hf : f_X12_led g a0 a1 = some res) : q_MW l yX12_led cX12_led 4 (some .int) 0 0 E [.ref (q_ad E a0), .int a1] g (some (.int res.1)) res.2 ∧ ∃ fs, g a0 = some (.inr (11, fs)) := by
  unfold f_X12_led at hf
  obtain ⟨u9, hu9, hf⟩ := q_ob hf
  refine ⟨q_ofW (by decide) rfl ?_, g_C_sp hu9⟩
  intro p e s m args below meth c ls C hj hl
  have hx := C.1
  have hb := C.2.1
  have C : q_C E p s m args meth c cX12_led RX12 4 (some .int) := C
  have hl : lv_has ls 4 [(0, .ref (q_ad E a0)), (1, .int a1)] := hl
  refine lv_aload_n hx hb dX12_led_0 rfl (lv_at hl 0 rfl) ?_
  refine lv_iconst (v := 0) hx hb dX12_led_1 qi_0 ?_
  refine q_putI C hj fp_X12_48 dX12_led_2 hf (fun g1 H locs hj hf => ?_)
  refine lv_iconst (v := 0) hx hb dX12_led_5 qi_0 ?_
  refine lv_istore_n (lv' := [(2, .int 0), (0, .ref (q_ad E a0)), (1, .int a1)]) hx hb dX12_led_6 rfl hl (by decide) rfl (fun ls hl => ?_)
  refine lv_iconst (v := 0) hx hb dX12_led_7 qi_0 ?_
  refine lv_istore_n (lv' := [(3, .int 0), (2, .int 0), (0, .ref (q_ad E a0)), (1, .int a1)]) hx hb dX12_led_8 rfl hl (by decide) rfl (fun ls hl => ?_)
  refine w_L_X12_led_9 C  hj (lv_sub hl [2, 3, 1, 0] rfl) hf
def f_X12_size (g : qS) (a0 : Nat) (a1 : Int32) : Option (Int32 × qS) := (g_C g a0 11).bind fun _ => (p_I g a0 11 0 0).bind fun g1 => if a1 = 13 then ((g_I g1 a0 11 6).bind fun v27 => some (v27, g1)) else ((f_X12_in g1 a1 0 12).bind fun v2 => if v2 = 0 then (some (-1, g1)) else ((g_Q g1 a0 11 3).bind fun o => if o = none then (some (0, g1)) else (if a1 = 0 then ((g_R g1 a0 11 3).bind fun v3 => (g_I g1 v3 10 0).bind fun v4 => some (v4, g1)) else (if a1 = 1 then ((g_R g1 a0 11 3).bind fun v5 => (g_I g1 v5 10 1).bind fun v6 => some (v6, g1)) else (if a1 = 2 then ((g_R g1 a0 11 3).bind fun v7 => (g_I g1 v7 10 2).bind fun v8 => some (v8, g1)) else (if a1 = 3 then ((g_R g1 a0 11 3).bind fun v9 => (g_I g1 v9 10 3).bind fun v10 => some (v10, g1)) else (if a1 = 4 then ((g_R g1 a0 11 3).bind fun v11 => (g_I g1 v11 10 4).bind fun v12 => some (v12, g1)) else (if a1 = 5 then ((g_R g1 a0 11 3).bind fun v13 => (g_I g1 v13 10 5).bind fun v14 => some (v14, g1)) else (if a1 = 6 then ((g_R g1 a0 11 3).bind fun v15 => (g_I g1 v15 10 6).bind fun v16 => some (v16, g1)) else (if a1 = 7 then ((g_R g1 a0 11 3).bind fun v17 => (g_I g1 v17 10 7).bind fun v18 => some (v18, g1)) else (if a1 = 8 then ((g_R g1 a0 11 3).bind fun v19 => (g_I g1 v19 10 8).bind fun v20 => some (v20, g1)) else (if a1 = 9 then ((g_R g1 a0 11 3).bind fun v21 => (g_I g1 v21 10 9).bind fun v22 => some (v22, g1)) else (if a1 = 10 then ((g_R g1 a0 11 15).bind fun v23 => (a_I g1 v23 15).bind fun v24 => some (v24, g1)) else (if a1 = 11 then ((g_I g1 a0 11 19).bind fun v25 => some (v25, g1)) else ((g_I g1 a0 11 20).bind fun v26 => some (v26, g1))))))))))))))))
set_option maxHeartbeats 4000000 in
set_option maxRecDepth 100000 in
theorem c_X12_size (l : Launch) (E : qV) {g : qS} {a0 : Nat} {a1 : Int32} {res : (Int32 × qS)} (hf : f_X12_size g a0 a1 = some res) : q_MW l yX12_size cX12_size 2 (some .int) 1 22 E [.ref (q_ad E a0), .int a1] g (some (.int res.1)) res.2 ∧ ∃ fs, g a0 = some (.inr (11, fs)) := by
  unfold f_X12_size at hf
  obtain ⟨u9, hu9, hf⟩ := q_ob hf
  refine ⟨q_ofW (by decide) rfl ?_, g_C_sp hu9⟩
  intro p e s m args below meth c ls C hj hl
  have hx := C.1
  have hb := C.2.1
  have C : q_C E p s m args meth c cX12_size RX12 2 (some .int) := C
  have hl : lv_has ls 2 [(0, .ref (q_ad E a0)), (1, .int a1)] := hl
  refine lv_aload_n hx hb dX12_size_0 rfl (lv_at hl 0 rfl) ?_
  refine lv_iconst (v := 0) hx hb dX12_size_1 qi_0 ?_
  refine q_putI C hj fp_X12_48 dX12_size_2 hf (fun g1 H locs hj hf => ?_)
  refine lv_iload_n hx hb dX12_size_5 rfl (lv_at hl 1 rfl) ?_
  refine lv_bipush (v := 13) hx hb dX12_size_6 (by decide) ?_
  refine q_icne C (tgt := 16) dX12_size_8 (by decide) hf (fun hf => ?_) (fun hf => ?_)
  · refine lv_iload_n hx hb dX12_size_16 rfl (lv_at hl 1 rfl) ?_
    refine lv_iconst (v := 0) hx hb dX12_size_17 qi_0 ?_
    refine lv_bipush (v := 12) hx hb dX12_size_18 (by decide) ?_
    refine q_cSRI C hj cw_X12_127 (As := [.int a1, .int 0, .int 12]) (rest := []) hf (fun v9 h9 => c_X12_in l E h9) rfl hl rfl rfl rfl dX12_size_20 ⟨Nat.zero_le _, Nat.zero_le _⟩ (fun v2 hf => ?_)
    refine q_ifne C (tgt := 28) dX12_size_23 (by decide) hf (fun hf => ?_) (fun hf => ?_)
    · refine lv_aload_n hx hb dX12_size_28 rfl (lv_at hl 0 rfl) ?_
      refine q_gnnull C hj lk_X12_369 dX12_size_29 (tgt := 37) dX12_size_32 (by decide) hf (fun hf => ?_) (fun hf => ?_)
      · refine lv_iload_n hx hb dX12_size_37 rfl (lv_at hl 1 rfl) ?_
        refine q_it hf (fun c0 hf => ?_) (fun c0 hf => ?_)
        · refine lv_tableIn (tgt := 100) hx hb dX12_size_38 (by rw [c0]; decide) (by rw [c0]; decide) (by rw [c0]; rfl) (by decide) ?_
          refine lv_aload_n hx hb dX12_size_100 rfl (lv_at hl 0 rfl) ?_
          refine q_getR C hj lk_X12_369 dX12_size_101 hf (fun v3 hf => ?_)
          refine q_getI C hj lk_X12_166 dX12_size_104 hf (fun v4 hf => ?_)
          exact q_iretW C hj dX12_size_107 hf
        · refine q_it hf (fun c1 hf => ?_) (fun c1 hf => ?_)
          · refine lv_tableIn (tgt := 108) hx hb dX12_size_38 (by rw [c1]; decide) (by rw [c1]; decide) (by rw [c1]; rfl) (by decide) ?_
            refine lv_aload_n hx hb dX12_size_108 rfl (lv_at hl 0 rfl) ?_
            refine q_getR C hj lk_X12_369 dX12_size_109 hf (fun v5 hf => ?_)
            refine q_getI C hj lk_X12_249 dX12_size_112 hf (fun v6 hf => ?_)
            exact q_iretW C hj dX12_size_115 hf
          · refine q_it hf (fun c2 hf => ?_) (fun c2 hf => ?_)
            · refine lv_tableIn (tgt := 116) hx hb dX12_size_38 (by rw [c2]; decide) (by rw [c2]; decide) (by rw [c2]; rfl) (by decide) ?_
              refine lv_aload_n hx hb dX12_size_116 rfl (lv_at hl 0 rfl) ?_
              refine q_getR C hj lk_X12_369 dX12_size_117 hf (fun v7 hf => ?_)
              refine q_getI C hj lk_X12_201 dX12_size_120 hf (fun v8 hf => ?_)
              exact q_iretW C hj dX12_size_123 hf
            · refine q_it hf (fun c3 hf => ?_) (fun c3 hf => ?_)
              · refine lv_tableIn (tgt := 124) hx hb dX12_size_38 (by rw [c3]; decide) (by rw [c3]; decide) (by rw [c3]; rfl) (by decide) ?_
                refine lv_aload_n hx hb dX12_size_124 rfl (lv_at hl 0 rfl) ?_
                refine q_getR C hj lk_X12_369 dX12_size_125 hf (fun v9 hf => ?_)
                refine q_getI C hj lk_X12_204 dX12_size_128 hf (fun v10 hf => ?_)
                exact q_iretW C hj dX12_size_131 hf
              · refine q_it hf (fun c4 hf => ?_) (fun c4 hf => ?_)
                · refine lv_tableIn (tgt := 132) hx hb dX12_size_38 (by rw [c4]; decide) (by rw [c4]; decide) (by rw [c4]; rfl) (by decide) ?_
                  refine lv_aload_n hx hb dX12_size_132 rfl (lv_at hl 0 rfl) ?_
                  refine q_getR C hj lk_X12_369 dX12_size_133 hf (fun v11 hf => ?_)
                  refine q_getI C hj lk_X12_297 dX12_size_136 hf (fun v12 hf => ?_)
                  exact q_iretW C hj dX12_size_139 hf
                · refine q_it hf (fun c5 hf => ?_) (fun c5 hf => ?_)
                  · refine lv_tableIn (tgt := 140) hx hb dX12_size_38 (by rw [c5]; decide) (by rw [c5]; decide) (by rw [c5]; rfl) (by decide) ?_
                    refine lv_aload_n hx hb dX12_size_140 rfl (lv_at hl 0 rfl) ?_
                    refine q_getR C hj lk_X12_369 dX12_size_141 hf (fun v13 hf => ?_)
                    refine q_getI C hj lk_X12_207 dX12_size_144 hf (fun v14 hf => ?_)
                    exact q_iretW C hj dX12_size_147 hf
                  · refine q_it hf (fun c6 hf => ?_) (fun c6 hf => ?_)
                    · refine lv_tableIn (tgt := 148) hx hb dX12_size_38 (by rw [c6]; decide) (by rw [c6]; decide) (by rw [c6]; rfl) (by decide) ?_
                      refine lv_aload_n hx hb dX12_size_148 rfl (lv_at hl 0 rfl) ?_
                      refine q_getR C hj lk_X12_369 dX12_size_149 hf (fun v15 hf => ?_)
                      refine q_getI C hj lk_X12_312 dX12_size_152 hf (fun v16 hf => ?_)
                      exact q_iretW C hj dX12_size_155 hf
                    · refine q_it hf (fun c7 hf => ?_) (fun c7 hf => ?_)
                      · refine lv_tableIn (tgt := 156) hx hb dX12_size_38 (by rw [c7]; decide) (by rw [c7]; decide) (by rw [c7]; rfl) (by decide) ?_
                        refine lv_aload_n hx hb dX12_size_156 rfl (lv_at hl 0 rfl) ?_
                        refine q_getR C hj lk_X12_369 dX12_size_157 hf (fun v17 hf => ?_)
                        refine q_getI C hj lk_X12_318 dX12_size_160 hf (fun v18 hf => ?_)
                        exact q_iretW C hj dX12_size_163 hf
                      · refine q_it hf (fun c8 hf => ?_) (fun c8 hf => ?_)
                        · refine lv_tableIn (tgt := 164) hx hb dX12_size_38 (by rw [c8]; decide) (by rw [c8]; decide) (by rw [c8]; rfl) (by decide) ?_
                          refine lv_aload_n hx hb dX12_size_164 rfl (lv_at hl 0 rfl) ?_
                          refine q_getR C hj lk_X12_369 dX12_size_165 hf (fun v19 hf => ?_)
                          refine q_getI C hj lk_X12_336 dX12_size_168 hf (fun v20 hf => ?_)
                          exact q_iretW C hj dX12_size_171 hf
                        · refine q_it hf (fun c9 hf => ?_) (fun c9 hf => ?_)
                          · refine lv_tableIn (tgt := 172) hx hb dX12_size_38 (by rw [c9]; decide) (by rw [c9]; decide) (by rw [c9]; rfl) (by decide) ?_
                            refine lv_aload_n hx hb dX12_size_172 rfl (lv_at hl 0 rfl) ?_
                            refine q_getR C hj lk_X12_369 dX12_size_173 hf (fun v21 hf => ?_)
                            refine q_getI C hj lk_X12_339 dX12_size_176 hf (fun v22 hf => ?_)
                            exact q_iretW C hj dX12_size_179 hf
                          · refine q_it hf (fun c10 hf => ?_) (fun c10 hf => ?_)
                            · refine lv_tableIn (tgt := 180) hx hb dX12_size_38 (by rw [c10]; decide) (by rw [c10]; decide) (by rw [c10]; rfl) (by decide) ?_
                              refine lv_aload_n hx hb dX12_size_180 rfl (lv_at hl 0 rfl) ?_
                              refine q_getR C hj lk_X12_17 dX12_size_181 hf (fun v23 hf => ?_)
                              refine lv_bipush (v := 15) hx hb dX12_size_184 (by decide) ?_
                              refine q_aldI C hj dX12_size_186 hf (fun v24 hf => ?_)
                              exact q_iretW C hj dX12_size_187 hf
                            · refine q_it hf (fun c11 hf => ?_) (fun c11 hf => ?_)
                              · refine lv_tableIn (tgt := 188) hx hb dX12_size_38 (by rw [c11]; decide) (by rw [c11]; decide) (by rw [c11]; rfl) (by decide) ?_
                                refine lv_aload_n hx hb dX12_size_188 rfl (lv_at hl 0 rfl) ?_
                                refine q_getI C hj lk_X12_371 dX12_size_189 hf (fun v25 hf => ?_)
                                exact q_iretW C hj dX12_size_192 hf
                              · refine lv_tableOut (tgt := 193) hx hb dX12_size_38 (by have z0 : a1.toInt ≠ 0 := fun z => c0 (Int32.toInt_inj.mp z); have z1 : a1.toInt ≠ 1 := fun z => c1 (Int32.toInt_inj.mp z); have z2 : a1.toInt ≠ 2 := fun z => c2 (Int32.toInt_inj.mp z); have z3 : a1.toInt ≠ 3 := fun z => c3 (Int32.toInt_inj.mp z); have z4 : a1.toInt ≠ 4 := fun z => c4 (Int32.toInt_inj.mp z); have z5 : a1.toInt ≠ 5 := fun z => c5 (Int32.toInt_inj.mp z); have z6 : a1.toInt ≠ 6 := fun z => c6 (Int32.toInt_inj.mp z); have z7 : a1.toInt ≠ 7 := fun z => c7 (Int32.toInt_inj.mp z); have z8 : a1.toInt ≠ 8 := fun z => c8 (Int32.toInt_inj.mp z); have z9 : a1.toInt ≠ 9 := fun z => c9 (Int32.toInt_inj.mp z); have z10 : a1.toInt ≠ 10 := fun z => c10 (Int32.toInt_inj.mp z); have z11 : a1.toInt ≠ 11 := fun z => c11 (Int32.toInt_inj.mp z); omega) (by decide) ?_
                                refine lv_aload_n hx hb dX12_size_193 rfl (lv_at hl 0 rfl) ?_
                                refine q_getI C hj lk_X12_374 dX12_size_194 hf (fun v26 hf => ?_)
                                exact q_iretW C hj dX12_size_197 hf
      · refine lv_iconst (v := 0) hx hb dX12_size_35 qi_0 ?_
        exact q_iretW C hj dX12_size_36 hf
    · refine lv_iconst (v := -1) hx hb dX12_size_26 qi_m1 ?_
      exact q_iretW C hj dX12_size_27 hf
  · refine lv_aload_n hx hb dX12_size_11 rfl (lv_at hl 0 rfl) ?_
    refine q_getI C hj lk_X12_362 dX12_size_12 hf (fun v27 hf => ?_)
    exact q_iretW C hj dX12_size_15 hf
def f_X12_trouble (g : qS) (a0 : Nat) : Option (Int32 × qS) := (g_C g a0 11).bind fun _ => (p_I g a0 11 0 0).bind fun g1 => (g_I g1 a0 11 1).bind fun v2 => some (v2, g1)
set_option maxHeartbeats 4000000 in
set_option maxRecDepth 100000 in
theorem c_X12_trouble (l : Launch) (E : qV) {g : qS} {a0 : Nat} {res : (Int32 × qS)} (hf : f_X12_trouble g a0 = some res) : q_MW l yX12_trouble cX12_trouble 1 (some .int) 0 0 E [.ref (q_ad E a0)] g (some (.int res.1)) res.2 ∧ ∃ fs, g a0 = some (.inr (11, fs)) := by
  unfold f_X12_trouble at hf
  obtain ⟨u9, hu9, hf⟩ := q_ob hf
  refine ⟨q_ofW (by decide) rfl ?_, g_C_sp hu9⟩
  intro p e s m args below meth c ls C hj hl
  have hx := C.1
  have hb := C.2.1
  have C : q_C E p s m args meth c cX12_trouble RX12 1 (some .int) := C
  have hl : lv_has ls 1 [(0, .ref (q_ad E a0))] := hl
  refine lv_aload_n hx hb dX12_trouble_0 rfl (lv_at hl 0 rfl) ?_
  refine lv_iconst (v := 0) hx hb dX12_trouble_1 qi_0 ?_
  refine q_putI C hj fp_X12_48 dX12_trouble_2 hf (fun g1 H locs hj hf => ?_)
  refine lv_aload_n hx hb dX12_trouble_5 rfl (lv_at hl 0 rfl) ?_
  refine q_getI C hj lk_X12_51 dX12_trouble_6 hf (fun v2 hf => ?_)
  exact q_iretW C hj dX12_trouble_9 hf
