def f_X0_forget (g : qS) (a0 : Nat) : Option qS := (g_C g a0 0).bind fun _ => (p_Z g a0 0 1 0).bind fun g1 => some g1
set_option maxHeartbeats 4000000 in
set_option maxRecDepth 100000 in
theorem c_X0_forget (l : Launch) (E : qV) {g : qS} {a0 : Nat} {res : qS} (hf : f_X0_forget g a0 = some res) : q_MW l yX0_forget cX0_forget 1 none 0 0 E [.ref (q_ad E a0)] g none res ∧ ∃ fs, g a0 = some (.inr (0, fs)) := by
  unfold f_X0_forget at hf
  obtain ⟨u9, hu9, hf⟩ := q_ob hf
  refine ⟨q_ofW (by decide) rfl ?_, g_C_sp hu9⟩
  intro p e s m args below meth c ls C hj hl
  have hx := C.1
  have hb := C.2.1
  have C : q_C E p s m args meth c cX0_forget RX0 1 none := C
  have hl : lv_has ls 1 [(0, .ref (q_ad E a0))] := hl
  refine lv_aload_n hx hb dX0_forget_0 rfl (lv_at hl 0 rfl) ?_
  refine lv_iconst (v := 0) hx hb dX0_forget_1 qi_0 ?_
  refine q_putZ C hj fp_X0_20 dX0_forget_2 hf (fun g1 H locs hj hf => ?_)
  exact q_vretW C hj dX0_forget_5 hf
def f_X9_forget (g : qS) (a0 : Nat) : Option qS := (g_C g a0 8).bind fun _ => (p_Z g a0 8 2 0).bind fun g1 => some g1
set_option maxHeartbeats 4000000 in
set_option maxRecDepth 100000 in
theorem c_X9_forget (l : Launch) (E : qV) {g : qS} {a0 : Nat} {res : qS} (hf : f_X9_forget g a0 = some res) : q_MW l yX9_forget cX9_forget 1 none 0 0 E [.ref (q_ad E a0)] g none res ∧ ∃ fs, g a0 = some (.inr (8, fs)) := by
  unfold f_X9_forget at hf
  obtain ⟨u9, hu9, hf⟩ := q_ob hf
  refine ⟨q_ofW (by decide) rfl ?_, g_C_sp hu9⟩
  intro p e s m args below meth c ls C hj hl
  have hx := C.1
  have hb := C.2.1
  have C : q_C E p s m args meth c cX9_forget RX9 1 none := C
  have hl : lv_has ls 1 [(0, .ref (q_ad E a0))] := hl
  refine lv_aload_n hx hb dX9_forget_0 rfl (lv_at hl 0 rfl) ?_
  refine lv_iconst (v := 0) hx hb dX9_forget_1 qi_0 ?_
  refine q_putZ C hj fp_X9_23 dX9_forget_2 hf (fun g1 H locs hj hf => ?_)
  exact q_vretW C hj dX9_forget_5 hf
def f_X0_choose (g : qS) (a0 : Nat) (a1 : Int32) (a2 : Int32) (a3 : Int32) (a4 : Int32) : Option qS := (g_C g a0 0).bind fun _ => (g_R g a0 0 0).bind fun v1 => (f_X8_set g v1 a1 0 a2).bind fun g2 => (g_R g2 a0 0 0).bind fun v3 => (f_X8_set g2 v3 a1 1 a3).bind fun g4 => (g_R g4 a0 0 0).bind fun v5 => (f_X8_set g4 v5 a1 2 a4).bind fun g6 => some g6
set_option maxHeartbeats 4000000 in
set_option maxRecDepth 100000 in
theorem c_X0_choose (l : Launch) (E : qV) {g : qS} {a0 : Nat} {a1 : Int32} {a2 : Int32} {a3 : Int32} {a4 : Int32} {res : qS} (hf : f_X0_choose g a0 a1 a2 a3 a4 = some res) : q_MW l yX0_choose cX0_choose 5 none 1 24 E [.ref (q_ad E a0), .int a1, .int a2, .int a3, .int a4] g none res ∧ ∃ fs, g a0 = some (.inr (0, fs)) := by
  unfold f_X0_choose at hf
  obtain ⟨u9, hu9, hf⟩ := q_ob hf
  refine ⟨q_ofW (by decide) rfl ?_, g_C_sp hu9⟩
  intro p e s m args below meth c ls C hj hl
  have hx := C.1
  have hb := C.2.1
  have C : q_C E p s m args meth c cX0_choose RX0 5 none := C
  have hl : lv_has ls 5 [(0, .ref (q_ad E a0)), (1, .int a1), (2, .int a2), (3, .int a3), (4, .int a4)] := hl
  refine lv_aload_n hx hb dX0_choose_0 rfl (lv_at hl 0 rfl) ?_
  refine q_getR C hj lk_X0_14 dX0_choose_1 hf (fun v1 hf => ?_)
  refine lv_iload_n hx hb dX0_choose_4 rfl (lv_at hl 1 rfl) ?_
  refine lv_iconst (v := 0) hx hb dX0_choose_5 qi_0 ?_
  refine lv_iload_n hx hb dX0_choose_6 rfl (lv_at hl 2 rfl) ?_
  refine q_cVWV C hj cw_X0_61 (As := [.int a1, .int 0, .int a2]) (rest := []) hf (fun g9 h9 => c_X8_set l E h9) rfl hl rfl rfl rfl dX0_choose_7 ⟨Nat.zero_le _, Nat.zero_le _⟩ (fun g2 H locs hj hf => ?_)
  refine lv_aload_n hx hb dX0_choose_10 rfl (lv_at hl 0 rfl) ?_
  refine q_getR C hj lk_X0_14 dX0_choose_11 hf (fun v3 hf => ?_)
  refine lv_iload_n hx hb dX0_choose_14 rfl (lv_at hl 1 rfl) ?_
  refine lv_iconst (v := 1) hx hb dX0_choose_15 qi_1 ?_
  refine lv_iload_n hx hb dX0_choose_16 rfl (lv_at hl 3 rfl) ?_
  refine q_cVWV C hj cw_X0_61 (As := [.int a1, .int 1, .int a3]) (rest := []) hf (fun g9 h9 => c_X8_set l E h9) rfl hl rfl rfl rfl dX0_choose_17 ⟨Nat.zero_le _, Nat.zero_le _⟩ (fun g4 H locs hj hf => ?_)
  refine lv_aload_n hx hb dX0_choose_20 rfl (lv_at hl 0 rfl) ?_
  refine q_getR C hj lk_X0_14 dX0_choose_21 hf (fun v5 hf => ?_)
  refine lv_iload_n hx hb dX0_choose_24 rfl (lv_at hl 1 rfl) ?_
  refine lv_iconst (v := 2) hx hb dX0_choose_25 qi_2 ?_
  refine lv_iload hx hb dX0_choose_26 (lv_at hl 4 rfl) ?_
  refine q_cVWV C hj cw_X0_61 (As := [.int a1, .int 2, .int a4]) (rest := []) hf (fun g9 h9 => c_X8_set l E h9) rfl hl rfl rfl rfl dX0_choose_28 ⟨Nat.zero_le _, Nat.zero_le _⟩ (fun g6 H locs hj hf => ?_)
  exact q_vretW C hj dX0_choose_31 hf
def J_X0_stands_71 (k28 : Nat → Nat → Int32 → Int32 → Int32 → Int32 → Int32 → Int32 → Option Int32) (g : qS) (x0 : Nat) (x1 : Nat) (x2 : Int32) (x3 : Int32) (x4 : Int32) (x5 : Int32) (x6 : Int32) (x7 : Int32) (t0 : Int32) : Option Int32 := if t0 = 0 then (k28 x0 x1 x2 x3 x4 x5 x6 (x7 + 1)) else ((g_R g x0 0 0).bind fun v1 => (f_X8_get g v1 x7 2).bind fun v2 => if v2 = x5 then (k28 x0 x1 x2 x3 x4 x5 (x6 + 1) (x7 + 1)) else (k28 x0 x1 x2 x3 x4 x5 x6 (x7 + 1)))
set_option maxHeartbeats 4000000 in
set_option maxRecDepth 100000 in
theorem w_J_X0_stands_71 {l : Launch} {E : qV} {p : Program} {e : Env} {s : State} {m : MethodId} {args : Array Value} {below : List Frame} {meth : Method} {c : Code} {k28 : Nat → Nat → Int32 → Int32 → Int32 → Int32 → Int32 → Int32 → Option Int32} {g : qS} {res : Int32} (C : q_C E p s m args meth c cX0_stands RX0 10 (some .boolean)) (hk28 : ∀ (x0 : Nat) (x1 : Nat) (x2 : Int32) (x3 : Int32) (x4 : Int32) (x5 : Int32) (x6 : Int32) (x7 : Int32) (ls : Array Slot), q_J E s g s.heap [] → lv_has ls 10 [(0, .ref (q_ad E x0)), (1, .ref (q_ad E x1)), (2, .int x2), (3, .int x3), (4, .int x4), (5, .int x5), (6, .int x6), (7, .int x7)] → k28 x0 x1 x2 x3 x4 x5 x6 x7 = some res → W p l e (q_rm 3 78) s m args below meth c s.heap [] 0 0 (q_ZR below (some (.int res)) args s) (F0 m 28 ls [])) : ∀ {x0 : Nat} {x1 : Nat} {x2 : Int32} {x3 : Int32} {x4 : Int32} {x5 : Int32} {x6 : Int32} {x7 : Int32} {t0 : Int32} {ls : Array Slot}, q_J E s g s.heap [] → lv_has ls 10 [(0, .ref (q_ad E x0)), (1, .ref (q_ad E x1)), (2, .int x2), (3, .int x3), (4, .int x4), (5, .int x5), (6, .int x6), (7, .int x7)] → J_X0_stands_71 k28 g x0 x1 x2 x3 x4 x5 x6 x7 t0 = some res → W p l e (q_rm 3 78) s m args below meth c s.heap [] 0 0 (q_ZR below (some (.int res)) args s) (F0 m 71 ls [.int t0]) := by
  have hx := C.1
  have hb := C.2.1
  intro x0 x1 x2 x3 x4 x5 x6 x7 t0 ls hj hl hf
  unfold J_X0_stands_71 at hf
  refine lv_istore (lv' := [(9, .int t0), (0, .ref (q_ad E x0)), (1, .ref (q_ad E x1)), (2, .int x2), (3, .int x3), (4, .int x4), (5, .int x5), (6, .int x6), (7, .int x7)]) hx hb dX0_stands_71 hl (by decide) rfl (fun ls hl => ?_)
  refine lv_iload hx hb dX0_stands_73 (lv_at hl 0 rfl) ?_
  refine q_ifeq C (tgt := 96) dX0_stands_75 (by decide) hf (fun hf => ?_) (fun hf => ?_)
  · refine lv_iinc (v := x7 + 1) (lv' := [(7, .int (x7 + 1)), (9, .int t0), (0, .ref (q_ad E x0)), (1, .ref (q_ad E x1)), (2, .int x2), (3, .int x3), (4, .int x4), (5, .int x5), (6, .int x6)]) hx hb dX0_stands_96 hl (k := 8) rfl (by rw [qi_1]) (by decide) rfl (fun ls hl => ?_)
    refine lv_goto (tgt := 28) hx hb dX0_stands_99 (by decide) ?_
    exact hk28 _ _ _ _ _ _ _ _  ls hj (lv_sub hl [2, 3, 4, 5, 6, 7, 8, 0] rfl) hf
  · refine lv_aload_n hx hb dX0_stands_78 rfl (lv_at hl 1 rfl) ?_
    refine q_getR C hj lk_X0_14 dX0_stands_79 hf (fun v1 hf => ?_)
    refine lv_iload hx hb dX0_stands_82 (lv_at hl 8 rfl) ?_
    refine lv_iconst (v := 2) hx hb dX0_stands_84 qi_2 ?_
    refine q_cVRI C hj cw_X0_28 (As := [.int x7, .int 2]) (rest := []) hf (fun v9 h9 => c_X8_get l E h9) rfl hl rfl rfl rfl dX0_stands_85 ⟨Nat.zero_le _, Nat.zero_le _⟩ (fun v2 hf => ?_)
    refine lv_iload hx hb dX0_stands_88 (lv_at hl 6 rfl) ?_
    refine q_icne C (tgt := 96) dX0_stands_90 (by decide) hf (fun hf => ?_) (fun hf => ?_)
    · refine lv_iinc (v := x7 + 1) (lv' := [(7, .int (x7 + 1)), (9, .int t0), (0, .ref (q_ad E x0)), (1, .ref (q_ad E x1)), (2, .int x2), (3, .int x3), (4, .int x4), (5, .int x5), (6, .int x6)]) hx hb dX0_stands_96 hl (k := 8) rfl (by rw [qi_1]) (by decide) rfl (fun ls hl => ?_)
      refine lv_goto (tgt := 28) hx hb dX0_stands_99 (by decide) ?_
      exact hk28 _ _ _ _ _ _ _ _  ls hj (lv_sub hl [2, 3, 4, 5, 6, 7, 8, 0] rfl) hf
    · refine lv_iinc (v := x6 + 1) (lv' := [(6, .int (x6 + 1)), (9, .int t0), (0, .ref (q_ad E x0)), (1, .ref (q_ad E x1)), (2, .int x2), (3, .int x3), (4, .int x4), (5, .int x5), (7, .int x7)]) hx hb dX0_stands_93 hl (k := 7) rfl (by rw [qi_1]) (by decide) rfl (fun ls hl => ?_)
      refine lv_iinc (v := x7 + 1) (lv' := [(7, .int (x7 + 1)), (6, .int (x6 + 1)), (9, .int t0), (0, .ref (q_ad E x0)), (1, .ref (q_ad E x1)), (2, .int x2), (3, .int x3), (4, .int x4), (5, .int x5)]) hx hb dX0_stands_96 hl (k := 8) rfl (by rw [qi_1]) (by decide) rfl (fun ls hl => ?_)
      refine lv_goto (tgt := 28) hx hb dX0_stands_99 (by decide) ?_
      exact hk28 _ _ _ _ _ _ _ _  ls hj (lv_sub hl [3, 4, 5, 6, 7, 8, 1, 0] rfl) hf
def J_X0_stands_66 (k28 : Nat → Nat → Int32 → Int32 → Int32 → Int32 → Int32 → Int32 → Option Int32) (g : qS) (x0 : Nat) (x1 : Nat) (x2 : Int32) (x3 : Int32) (x4 : Int32) (x5 : Int32) (x6 : Int32) (x7 : Int32) : Option Int32 := J_X0_stands_71 k28 g x0 x1 x2 x3 x4 x5 x6 x7 1
set_option maxHeartbeats 4000000 in
set_option maxRecDepth 100000 in
theorem w_J_X0_stands_66 {l : Launch} {E : qV} {p : Program} {e : Env} {s : State} {m : MethodId} {args : Array Value} {below : List Frame} {meth : Method} {c : Code} {k28 : Nat → Nat → Int32 → Int32 → Int32 → Int32 → Int32 → Int32 → Option Int32} {g : qS} {res : Int32} (C : q_C E p s m args meth c cX0_stands RX0 10 (some .boolean)) (hk28 : ∀ (x0 : Nat) (x1 : Nat) (x2 : Int32) (x3 : Int32) (x4 : Int32) (x5 : Int32) (x6 : Int32) (x7 : Int32) (ls : Array Slot), q_J E s g s.heap [] → lv_has ls 10 [(0, .ref (q_ad E x0)), (1, .ref (q_ad E x1)), (2, .int x2), (3, .int x3), (4, .int x4), (5, .int x5), (6, .int x6), (7, .int x7)] → k28 x0 x1 x2 x3 x4 x5 x6 x7 = some res → W p l e (q_rm 3 78) s m args below meth c s.heap [] 0 0 (q_ZR below (some (.int res)) args s) (F0 m 28 ls [])) : ∀ {x0 : Nat} {x1 : Nat} {x2 : Int32} {x3 : Int32} {x4 : Int32} {x5 : Int32} {x6 : Int32} {x7 : Int32} {ls : Array Slot}, q_J E s g s.heap [] → lv_has ls 10 [(0, .ref (q_ad E x0)), (1, .ref (q_ad E x1)), (2, .int x2), (3, .int x3), (4, .int x4), (5, .int x5), (6, .int x6), (7, .int x7)] → J_X0_stands_66 k28 g x0 x1 x2 x3 x4 x5 x6 x7 = some res → W p l e (q_rm 3 78) s m args below meth c s.heap [] 0 0 (q_ZR below (some (.int res)) args s) (F0 m 66 ls []) := by
  have hx := C.1
  have hb := C.2.1
  intro x0 x1 x2 x3 x4 x5 x6 x7 ls hj hl hf
  unfold J_X0_stands_66 at hf
  refine lv_iconst (v := 1) hx hb dX0_stands_66 qi_1 ?_
  refine lv_goto (tgt := 71) hx hb dX0_stands_67 (by decide) ?_
  refine w_J_X0_stands_71 C hk28 hj (lv_sub hl [0, 1, 2, 3, 4, 5, 6, 7] rfl) hf
def J_X0_stands_70 (k28 : Nat → Nat → Int32 → Int32 → Int32 → Int32 → Int32 → Int32 → Option Int32) (g : qS) (x0 : Nat) (x1 : Nat) (x2 : Int32) (x3 : Int32) (x4 : Int32) (x5 : Int32) (x6 : Int32) (x7 : Int32) : Option Int32 := J_X0_stands_71 k28 g x0 x1 x2 x3 x4 x5 x6 x7 0
set_option maxHeartbeats 4000000 in
set_option maxRecDepth 100000 in
theorem w_J_X0_stands_70 {l : Launch} {E : qV} {p : Program} {e : Env} {s : State} {m : MethodId} {args : Array Value} {below : List Frame} {meth : Method} {c : Code} {k28 : Nat → Nat → Int32 → Int32 → Int32 → Int32 → Int32 → Int32 → Option Int32} {g : qS} {res : Int32} (C : q_C E p s m args meth c cX0_stands RX0 10 (some .boolean)) (hk28 : ∀ (x0 : Nat) (x1 : Nat) (x2 : Int32) (x3 : Int32) (x4 : Int32) (x5 : Int32) (x6 : Int32) (x7 : Int32) (ls : Array Slot), q_J E s g s.heap [] → lv_has ls 10 [(0, .ref (q_ad E x0)), (1, .ref (q_ad E x1)), (2, .int x2), (3, .int x3), (4, .int x4), (5, .int x5), (6, .int x6), (7, .int x7)] → k28 x0 x1 x2 x3 x4 x5 x6 x7 = some res → W p l e (q_rm 3 78) s m args below meth c s.heap [] 0 0 (q_ZR below (some (.int res)) args s) (F0 m 28 ls [])) : ∀ {x0 : Nat} {x1 : Nat} {x2 : Int32} {x3 : Int32} {x4 : Int32} {x5 : Int32} {x6 : Int32} {x7 : Int32} {ls : Array Slot}, q_J E s g s.heap [] → lv_has ls 10 [(0, .ref (q_ad E x0)), (1, .ref (q_ad E x1)), (2, .int x2), (3, .int x3), (4, .int x4), (5, .int x5), (6, .int x6), (7, .int x7)] → J_X0_stands_70 k28 g x0 x1 x2 x3 x4 x5 x6 x7 = some res → W p l e (q_rm 3 78) s m args below meth c s.heap [] 0 0 (q_ZR below (some (.int res)) args s) (F0 m 70 ls []) := by
  have hx := C.1
  have hb := C.2.1
  intro x0 x1 x2 x3 x4 x5 x6 x7 ls hj hl hf
  unfold J_X0_stands_70 at hf
  refine lv_iconst (v := 0) hx hb dX0_stands_70 qi_0 ?_
  refine w_J_X0_stands_71 C hk28 hj (lv_sub hl [0, 1, 2, 3, 4, 5, 6, 7] rfl) hf
def L_X0_stands_28  (g : qS) : Nat → Nat → Nat → Int32 → Int32 → Int32 → Int32 → Int32 → Int32 → Option Int32
  | 0, _, _, _, _, _, _, _, _ => none
  | n + 1, x0, x1, x2, x3, x4, x5, x6, x7 => if x3 < x7 then ((g_R g x0 0 0).bind fun v1 => (f_X8_get g v1 x2 1).bind fun v2 => (f_X3_canGive g x1 x4 v2 x2 x5 x6).bind fun v3 => q_zr v3 v3) else ((g_R g x0 0 0).bind fun v4 => (f_X8_get g v4 x7 0).bind fun v5 => if v5 < x4 then (J_X0_stands_66 (L_X0_stands_28 g n) g x0 x1 x2 x3 x4 x5 x6 x7) else (if v5 = x4 then (if x2 ≤ x7 then (J_X0_stands_70 (L_X0_stands_28 g n) g x0 x1 x2 x3 x4 x5 x6 x7) else (J_X0_stands_66 (L_X0_stands_28 g n) g x0 x1 x2 x3 x4 x5 x6 x7)) else (J_X0_stands_70 (L_X0_stands_28 g n) g x0 x1 x2 x3 x4 x5 x6 x7)))
set_option maxHeartbeats 4000000 in
set_option maxRecDepth 100000 in
theorem w_L_X0_stands_28 {l : Launch} {E : qV} {p : Program} {e : Env} {s : State} {m : MethodId} {args : Array Value} {below : List Frame} {meth : Method} {c : Code}  {g : qS} {res : Int32} (C : q_C E p s m args meth c cX0_stands RX0 10 (some .boolean))  : ∀ {n : Nat} {x0 : Nat} {x1 : Nat} {x2 : Int32} {x3 : Int32} {x4 : Int32} {x5 : Int32} {x6 : Int32} {x7 : Int32} {ls : Array Slot}, q_J E s g s.heap [] → lv_has ls 10 [(0, .ref (q_ad E x0)), (1, .ref (q_ad E x1)), (2, .int x2), (3, .int x3), (4, .int x4), (5, .int x5), (6, .int x6), (7, .int x7)] → L_X0_stands_28 g n x0 x1 x2 x3 x4 x5 x6 x7 = some res → W p l e (q_rm 3 78) s m args below meth c s.heap [] 0 0 (q_ZR below (some (.int res)) args s) (F0 m 28 ls []) := by
  have hx := C.1
  have hb := C.2.1
  intro n
  induction n with
  | zero =>
    intro x0 x1 x2 x3 x4 x5 x6 x7 ls hj hl hf
    cases hf
  | succ n ih_ =>
    intro x0 x1 x2 x3 x4 x5 x6 x7 ls hj hl hf
    have ih : ∀ (x0 : Nat) (x1 : Nat) (x2 : Int32) (x3 : Int32) (x4 : Int32) (x5 : Int32) (x6 : Int32) (x7 : Int32) (ls : Array Slot), q_J E s g s.heap [] → lv_has ls 10 [(0, .ref (q_ad E x0)), (1, .ref (q_ad E x1)), (2, .int x2), (3, .int x3), (4, .int x4), (5, .int x5), (6, .int x6), (7, .int x7)] → L_X0_stands_28 g n x0 x1 x2 x3 x4 x5 x6 x7 = some res → W p l e (q_rm 3 78) s m args below meth c s.heap [] 0 0 (q_ZR below (some (.int res)) args s) (F0 m 28 ls []) := fun x0 x1 x2 x3 x4 x5 x6 x7 ls hj hl hf => ih_ hj hl hf
    unfold L_X0_stands_28 at hf
    refine lv_iload hx hb dX0_stands_28 (lv_at hl 7 rfl) ?_
    refine lv_iload_n hx hb dX0_stands_30 rfl (lv_at hl 3 rfl) ?_
    refine q_icgt C (tgt := 102) dX0_stands_31 (by decide) hf (fun hf => ?_) (fun hf => ?_)
    · refine lv_aload_n hx hb dX0_stands_102 rfl (lv_at hl 1 rfl) ?_
      refine lv_iload hx hb dX0_stands_103 (lv_at hl 4 rfl) ?_
      refine lv_aload_n hx hb dX0_stands_105 rfl (lv_at hl 0 rfl) ?_
      refine q_getR C hj lk_X0_14 dX0_stands_106 hf (fun v1 hf => ?_)
      refine lv_iload_n hx hb dX0_stands_109 rfl (lv_at hl 2 rfl) ?_
      refine lv_iconst (v := 1) hx hb dX0_stands_110 qi_1 ?_
      refine q_cVRI C hj cw_X0_28 (As := [.int x2, .int 1]) (rest := [.int x4, .ref (q_ad E x1)]) hf (fun v9 h9 => c_X8_get l E h9) rfl hl rfl rfl rfl dX0_stands_111 ⟨Nat.zero_le _, Nat.zero_le _⟩ (fun v2 hf => ?_)
      refine lv_iload_n hx hb dX0_stands_114 rfl (lv_at hl 2 rfl) ?_
      refine lv_iload hx hb dX0_stands_115 (lv_at hl 5 rfl) ?_
      refine lv_iload hx hb dX0_stands_117 (lv_at hl 6 rfl) ?_
      refine q_cVRI C hj cw_X0_69 (As := [.int x4, .int v2, .int x2, .int x5, .int x6]) (rest := []) hf (fun v9 h9 => c_X3_canGive l E h9) rfl hl rfl rfl rfl dX0_stands_119 ⟨Nat.zero_le _, Nat.zero_le _⟩ (fun v3 hf => ?_)
      exact q_zretR C dX0_stands_122 hf
    · refine lv_aload_n hx hb dX0_stands_34 rfl (lv_at hl 0 rfl) ?_
      refine q_getR C hj lk_X0_14 dX0_stands_35 hf (fun v4 hf => ?_)
      refine lv_iload hx hb dX0_stands_38 (lv_at hl 7 rfl) ?_
      refine lv_iconst (v := 0) hx hb dX0_stands_40 qi_0 ?_
      refine q_cVRI C hj cw_X0_28 (As := [.int x7, .int 0]) (rest := []) hf (fun v9 h9 => c_X8_get l E h9) rfl hl rfl rfl rfl dX0_stands_41 ⟨Nat.zero_le _, Nat.zero_le _⟩ (fun v5 hf => ?_)
      refine lv_istore (lv' := [(8, .int v5), (0, .ref (q_ad E x0)), (1, .ref (q_ad E x1)), (2, .int x2), (3, .int x3), (4, .int x4), (5, .int x5), (6, .int x6), (7, .int x7)]) hx hb dX0_stands_44 hl (by decide) rfl (fun ls hl => ?_)
      refine lv_iload hx hb dX0_stands_46 (lv_at hl 0 rfl) ?_
      refine lv_iload hx hb dX0_stands_48 (lv_at hl 5 rfl) ?_
      refine q_iclt C (tgt := 66) dX0_stands_50 (by decide) hf (fun hf => ?_) (fun hf => ?_)
      · refine w_J_X0_stands_66 C ih hj (lv_sub hl [1, 2, 3, 4, 5, 6, 7, 8] rfl) hf
      · refine lv_iload hx hb dX0_stands_53 (lv_at hl 0 rfl) ?_
        refine lv_iload hx hb dX0_stands_55 (lv_at hl 5 rfl) ?_
        refine q_icne C (tgt := 70) dX0_stands_57 (by decide) hf (fun hf => ?_) (fun hf => ?_)
        · refine w_J_X0_stands_70 C ih hj (lv_sub hl [1, 2, 3, 4, 5, 6, 7, 8] rfl) hf
        · refine lv_iload hx hb dX0_stands_60 (lv_at hl 8 rfl) ?_
          refine lv_iload_n hx hb dX0_stands_62 rfl (lv_at hl 3 rfl) ?_
          refine q_icge C (tgt := 70) dX0_stands_63 (by decide) hf (fun hf => ?_) (fun hf => ?_)
          · refine w_J_X0_stands_70 C ih hj (lv_sub hl [1, 2, 3, 4, 5, 6, 7, 8] rfl) hf
          · refine w_J_X0_stands_66 C ih hj (lv_sub hl [1, 2, 3, 4, 5, 6, 7, 8] rfl) hf
def f_X0_stands (g : qS) (a0 : Nat) (a1 : Nat) (a2 : Int32) (a3 : Int32) : Option Int32 := (g_C g a0 0).bind fun _ => (g_R g a0 0 0).bind fun v1 => (f_X8_get g v1 a2 0).bind fun v2 => (g_R g a0 0 0).bind fun v3 => (f_X8_get g v3 a2 2).bind fun v4 => L_X0_stands_28 g 1000000000 a0 a1 a2 a3 v2 v4 0 0
set_option maxHeartbeats 4000000 in
set_option maxRecDepth 100000 in
theorem c_X0_stands (l : Launch) (E : qV) {g : qS} {a0 : Nat} {a1 : Nat} {a2 : Int32} {a3 : Int32} {res : Int32} (hf : f_X0_stands g a0 a1 a2 a3 = some res) : q_MR l yX0_stands cX0_stands 10 (some .boolean) 3 78 E [.ref (q_ad E a0), .ref (q_ad E a1), .int a2, .int a3] g (some (.int res)) ∧ ∃ fs, g a0 = some (.inr (0, fs)) := by
  unfold f_X0_stands at hf
  obtain ⟨u9, hu9, hf⟩ := q_ob hf
  refine ⟨q_ofR (by decide) rfl ?_, g_C_sp hu9⟩
  intro p e s m args below meth c ls C hw hl
  have hj : q_J E s g s.heap [] := ⟨hw, va_S.rf⟩
  have hx := C.1
  have hb := C.2.1
  have C : q_C E p s m args meth c cX0_stands RX0 10 (some .boolean) := C
  have hl : lv_has ls 10 [(0, .ref (q_ad E a0)), (1, .ref (q_ad E a1)), (2, .int a2), (3, .int a3)] := hl
  refine lv_aload_n hx hb dX0_stands_0 rfl (lv_at hl 0 rfl) ?_
  refine q_getR C hj lk_X0_14 dX0_stands_1 hf (fun v1 hf => ?_)
  refine lv_iload_n hx hb dX0_stands_4 rfl (lv_at hl 2 rfl) ?_
  refine lv_iconst (v := 0) hx hb dX0_stands_5 qi_0 ?_
  refine q_cVRI C hj cw_X0_28 (As := [.int a2, .int 0]) (rest := []) hf (fun v9 h9 => c_X8_get l E h9) rfl hl rfl rfl rfl dX0_stands_6 ⟨Nat.zero_le _, Nat.zero_le _⟩ (fun v2 hf => ?_)
  refine lv_istore (lv' := [(4, .int v2), (0, .ref (q_ad E a0)), (1, .ref (q_ad E a1)), (2, .int a2), (3, .int a3)]) hx hb dX0_stands_9 hl (by decide) rfl (fun ls hl => ?_)
  refine lv_aload_n hx hb dX0_stands_11 rfl (lv_at hl 1 rfl) ?_
  refine q_getR C hj lk_X0_14 dX0_stands_12 hf (fun v3 hf => ?_)
  refine lv_iload_n hx hb dX0_stands_15 rfl (lv_at hl 3 rfl) ?_
  refine lv_iconst (v := 2) hx hb dX0_stands_16 qi_2 ?_
  refine q_cVRI C hj cw_X0_28 (As := [.int a2, .int 2]) (rest := []) hf (fun v9 h9 => c_X8_get l E h9) rfl hl rfl rfl rfl dX0_stands_17 ⟨Nat.zero_le _, Nat.zero_le _⟩ (fun v4 hf => ?_)
  refine lv_istore (lv' := [(5, .int v4), (4, .int v2), (0, .ref (q_ad E a0)), (1, .ref (q_ad E a1)), (2, .int a2), (3, .int a3)]) hx hb dX0_stands_20 hl (by decide) rfl (fun ls hl => ?_)
  refine lv_iconst (v := 0) hx hb dX0_stands_22 qi_0 ?_
  refine lv_istore (lv' := [(6, .int 0), (5, .int v4), (4, .int v2), (0, .ref (q_ad E a0)), (1, .ref (q_ad E a1)), (2, .int a2), (3, .int a3)]) hx hb dX0_stands_23 hl (by decide) rfl (fun ls hl => ?_)
  refine lv_iconst (v := 0) hx hb dX0_stands_25 qi_0 ?_
  refine lv_istore (lv' := [(7, .int 0), (6, .int 0), (5, .int v4), (4, .int v2), (0, .ref (q_ad E a0)), (1, .ref (q_ad E a1)), (2, .int a2), (3, .int a3)]) hx hb dX0_stands_26 hl (by decide) rfl (fun ls hl => ?_)
  refine w_L_X0_stands_28 C  hj (lv_sub hl [4, 5, 6, 7, 3, 2, 1, 0] rfl) hf
def L_X0_standsBy_2  (g : qS) : Nat → Nat → Nat → Int32 → Int32 → Option Int32
  | 0, _, _, _, _ => none
  | n + 1, x0, x1, x2, x3 => if x3 < 0 then (some 1) else ((g_R g x0 0 0).bind fun v1 => (f_X8_get g v1 x3 2).bind fun v2 => (g_R g x0 0 0).bind fun v3 => (f_X8_get g v3 x2 2).bind fun v4 => if v2 = v4 then ((f_X0_stands g x0 x1 x3 x2).bind fun v5 => if v5 = 0 then (some 0) else (L_X0_standsBy_2 g n x0 x1 x2 (x3 + (-1)))) else (L_X0_standsBy_2 g n x0 x1 x2 (x3 + (-1))))
set_option maxHeartbeats 4000000 in
set_option maxRecDepth 100000 in
theorem w_L_X0_standsBy_2 {l : Launch} {E : qV} {p : Program} {e : Env} {s : State} {m : MethodId} {args : Array Value} {below : List Frame} {meth : Method} {c : Code}  {g : qS} {res : Int32} (C : q_C E p s m args meth c cX0_standsBy RX0 4 (some .boolean))  : ∀ {n : Nat} {x0 : Nat} {x1 : Nat} {x2 : Int32} {x3 : Int32} {ls : Array Slot}, q_J E s g s.heap [] → lv_has ls 4 [(0, .ref (q_ad E x0)), (1, .ref (q_ad E x1)), (2, .int x2), (3, .int x3)] → L_X0_standsBy_2 g n x0 x1 x2 x3 = some res → W p l e (q_rm 4 107) s m args below meth c s.heap [] 0 0 (q_ZR below (some (.int res)) args s) (F0 m 2 ls []) := by
  have hx := C.1
  have hb := C.2.1
  intro n
  induction n with
  | zero =>
    intro x0 x1 x2 x3 ls hj hl hf
    cases hf
  | succ n ih_ =>
    intro x0 x1 x2 x3 ls hj hl hf
    have ih : ∀ (x0 : Nat) (x1 : Nat) (x2 : Int32) (x3 : Int32) (ls : Array Slot), q_J E s g s.heap [] → lv_has ls 4 [(0, .ref (q_ad E x0)), (1, .ref (q_ad E x1)), (2, .int x2), (3, .int x3)] → L_X0_standsBy_2 g n x0 x1 x2 x3 = some res → W p l e (q_rm 4 107) s m args below meth c s.heap [] 0 0 (q_ZR below (some (.int res)) args s) (F0 m 2 ls []) := fun x0 x1 x2 x3 ls hj hl hf => ih_ hj hl hf
    unfold L_X0_standsBy_2 at hf
    refine lv_iload_n hx hb dX0_standsBy_2 rfl (lv_at hl 3 rfl) ?_
    refine q_iflt C (tgt := 45) dX0_standsBy_3 (by decide) hf (fun hf => ?_) (fun hf => ?_)
    · refine lv_iconst (v := 1) hx hb dX0_standsBy_45 qi_1 ?_
      exact q_z1retR C dX0_standsBy_46 hf
    · refine lv_aload_n hx hb dX0_standsBy_6 rfl (lv_at hl 0 rfl) ?_
      refine q_getR C hj lk_X0_14 dX0_standsBy_7 hf (fun v1 hf => ?_)
      refine lv_iload_n hx hb dX0_standsBy_10 rfl (lv_at hl 3 rfl) ?_
      refine lv_iconst (v := 2) hx hb dX0_standsBy_11 qi_2 ?_
      refine q_cVRI C hj cw_X0_28 (As := [.int x3, .int 2]) (rest := []) hf (fun v9 h9 => c_X8_get l E h9) rfl hl rfl rfl rfl dX0_standsBy_12 ⟨Nat.zero_le _, Nat.zero_le _⟩ (fun v2 hf => ?_)
      refine lv_aload_n hx hb dX0_standsBy_15 rfl (lv_at hl 0 rfl) ?_
      refine q_getR C hj lk_X0_14 dX0_standsBy_16 hf (fun v3 hf => ?_)
      refine lv_iload_n hx hb dX0_standsBy_19 rfl (lv_at hl 2 rfl) ?_
      refine lv_iconst (v := 2) hx hb dX0_standsBy_20 qi_2 ?_
      refine q_cVRI C hj cw_X0_28 (As := [.int x2, .int 2]) (rest := [.int v2]) hf (fun v9 h9 => c_X8_get l E h9) rfl hl rfl rfl rfl dX0_standsBy_21 ⟨Nat.zero_le _, Nat.zero_le _⟩ (fun v4 hf => ?_)
      refine q_icne C (tgt := 39) dX0_standsBy_24 (by decide) hf (fun hf => ?_) (fun hf => ?_)
      · refine lv_iinc (v := x3 + (-1)) (lv' := [(3, .int (x3 + (-1))), (0, .ref (q_ad E x0)), (1, .ref (q_ad E x1)), (2, .int x2)]) hx hb dX0_standsBy_39 hl (k := 3) rfl (by rw [qi_m1]) (by decide) rfl (fun ls hl => ?_)
        refine lv_goto (tgt := 2) hx hb dX0_standsBy_42 (by decide) ?_
        exact ih _ _ _ _  ls hj (lv_sub hl [1, 2, 3, 0] rfl) hf
      · refine lv_aload_n hx hb dX0_standsBy_27 rfl (lv_at hl 0 rfl) ?_
        refine lv_aload_n hx hb dX0_standsBy_28 rfl (lv_at hl 1 rfl) ?_
        refine lv_iload_n hx hb dX0_standsBy_29 rfl (lv_at hl 3 rfl) ?_
        refine lv_iload_n hx hb dX0_standsBy_30 rfl (lv_at hl 2 rfl) ?_
        refine q_cVRI C hj cw_X0_65 (As := [.ref (q_ad E x1), .int x3, .int x2]) (rest := []) hf (fun v9 h9 => c_X0_stands l E h9) rfl hl rfl rfl rfl dX0_standsBy_31 ⟨Nat.zero_le _, Nat.zero_le _⟩ (fun v5 hf => ?_)
        refine q_ifne C (tgt := 39) dX0_standsBy_34 (by decide) hf (fun hf => ?_) (fun hf => ?_)
        · refine lv_iinc (v := x3 + (-1)) (lv' := [(3, .int (x3 + (-1))), (0, .ref (q_ad E x0)), (1, .ref (q_ad E x1)), (2, .int x2)]) hx hb dX0_standsBy_39 hl (k := 3) rfl (by rw [qi_m1]) (by decide) rfl (fun ls hl => ?_)
          refine lv_goto (tgt := 2) hx hb dX0_standsBy_42 (by decide) ?_
          exact ih _ _ _ _  ls hj (lv_sub hl [1, 2, 3, 0] rfl) hf
        · refine lv_iconst (v := 0) hx hb dX0_standsBy_37 qi_0 ?_
          exact q_z0retR C dX0_standsBy_38 hf
def f_X0_standsBy (g : qS) (a0 : Nat) (a1 : Nat) (a2 : Int32) : Option Int32 := (g_C g a0 0).bind fun _ => L_X0_standsBy_2 g 1000000000 a0 a1 a2 a2
set_option maxHeartbeats 4000000 in
set_option maxRecDepth 100000 in
theorem c_X0_standsBy (l : Launch) (E : qV) {g : qS} {a0 : Nat} {a1 : Nat} {a2 : Int32} {res : Int32} (hf : f_X0_standsBy g a0 a1 a2 = some res) : q_MR l yX0_standsBy cX0_standsBy 4 (some .boolean) 4 107 E [.ref (q_ad E a0), .ref (q_ad E a1), .int a2] g (some (.int res)) ∧ ∃ fs, g a0 = some (.inr (0, fs)) := by
  unfold f_X0_standsBy at hf
  obtain ⟨u9, hu9, hf⟩ := q_ob hf
  refine ⟨q_ofR (by decide) rfl ?_, g_C_sp hu9⟩
  intro p e s m args below meth c ls C hw hl
  have hj : q_J E s g s.heap [] := ⟨hw, va_S.rf⟩
  have hx := C.1
  have hb := C.2.1
  have C : q_C E p s m args meth c cX0_standsBy RX0 4 (some .boolean) := C
  have hl : lv_has ls 4 [(0, .ref (q_ad E a0)), (1, .ref (q_ad E a1)), (2, .int a2)] := hl
  refine lv_iload_n hx hb dX0_standsBy_0 rfl (lv_at hl 2 rfl) ?_
  refine lv_istore_n (lv' := [(3, .int a2), (0, .ref (q_ad E a0)), (1, .ref (q_ad E a1)), (2, .int a2)]) hx hb dX0_standsBy_1 rfl hl (by decide) rfl (fun ls hl => ?_)
  refine w_L_X0_standsBy_2 C  hj (lv_sub hl [1, 2, 3, 0] rfl) hf
def L_X0_place_84 (fr : qS → Nat → Nat → Int32 → Int32 → Int32 → Option (Int32 × qS)) (k139 : Nat → Nat → Int32 → Int32 → Int32 → Int32 → Int32 → qS → Option (Int32 × qS)) : Nat → Nat → Nat → Int32 → Int32 → Int32 → Int32 → Int32 → Int32 → Int32 → qS → Option (Int32 × qS)
  | 0, _, _, _, _, _, _, _, _, _, _ => none
  | n + 1, x0, x1, x2, x3, x4, x5, x6, x7, x8, g => (f_X3_count g x1 3).bind fun v1 => if v1 ≤ x8 then (k139 x0 x1 x2 x3 x4 x5 x6 g) else ((f_X0_choose g x0 x2 x5 x6 x8).bind fun g2 => (f_X0_standsBy g2 x0 x1 x2).bind fun v3 => if v3 = 0 then (L_X0_place_84 fr k139 n x0 x1 x2 x3 x4 x5 x6 x7 (x8 + 1) g2) else (q_b2 (fr g2 x0 x1 (x2 + 1) x3 (x4 ||| x7)) fun v5 g4 => if v5 = 0 then (L_X0_place_84 fr k139 n x0 x1 x2 x3 x4 x5 x6 x7 (x8 + 1) g4) else (some (1, g4))))
set_option maxHeartbeats 4000000 in
set_option maxRecDepth 100000 in
theorem w_L_X0_place_84 {l : Launch} {E : qV} {p : Program} {e : Env} {s : State} {m : MethodId} {args : Array Value} {below : List Frame} {meth : Method} {c : Code} {d : Nat} {fr : qS → Nat → Nat → Int32 → Int32 → Int32 → Option (Int32 × qS)} {k139 : Nat → Nat → Int32 → Int32 → Int32 → Int32 → Int32 → qS → Option (Int32 × qS)} {res : (Int32 × qS)} (C : q_C E p s m args meth c cX0_place RX0 9 (some .boolean)) (hr : ∀ {g : qS} {a0 : Nat} {a1 : Nat} {a2 : Int32} {a3 : Int32} {a4 : Int32} {res : (Int32 × qS)}, fr g a0 a1 a2 a3 a4 = some res → q_MW l yX0_place cX0_place 9 (some .boolean) (d + 5) (d * 28 + 130) E [.ref (q_ad E a0), .ref (q_ad E a1), .int a2, .int a3, .int a4] g (some (.int res.1)) res.2 ∧ ∃ fs, g a0 = some (.inr (0, fs))) (hk139 : ∀ (x0 : Nat) (x1 : Nat) (x2 : Int32) (x3 : Int32) (x4 : Int32) (x5 : Int32) (x6 : Int32) (g : qS) (H : Heap) (locs : List Loc) (ls : Array Slot), q_J E s g H locs → lv_has ls 9 [(0, .ref (q_ad E x0)), (1, .ref (q_ad E x1)), (2, .int x2), (3, .int x3), (4, .int x4), (5, .int x5), (6, .int x6)] → k139 x0 x1 x2 x3 x4 x5 x6 g = some res → W p l e (q_rm (d + 1 + 5) ((d + 1) * 28 + 130)) s m args below meth c H locs 0 0 (q_ZW E below (some (.int res.1)) res.2 args s) (F0 m 139 ls [])) : ∀ {n : Nat} {x0 : Nat} {x1 : Nat} {x2 : Int32} {x3 : Int32} {x4 : Int32} {x5 : Int32} {x6 : Int32} {x7 : Int32} {x8 : Int32} {g : qS} {H : Heap} {locs : List Loc} {ls : Array Slot}, q_J E s g H locs → lv_has ls 9 [(0, .ref (q_ad E x0)), (1, .ref (q_ad E x1)), (2, .int x2), (3, .int x3), (4, .int x4), (5, .int x5), (6, .int x6), (7, .int x7), (8, .int x8)] → L_X0_place_84 fr k139 n x0 x1 x2 x3 x4 x5 x6 x7 x8 g = some res → W p l e (q_rm (d + 1 + 5) ((d + 1) * 28 + 130)) s m args below meth c H locs 0 0 (q_ZW E below (some (.int res.1)) res.2 args s) (F0 m 84 ls []) := by
  have hx := C.1
  have hb := C.2.1
  intro n
  induction n with
  | zero =>
    intro x0 x1 x2 x3 x4 x5 x6 x7 x8 g H locs ls hj hl hf
    cases hf
  | succ n ih_ =>
    intro x0 x1 x2 x3 x4 x5 x6 x7 x8 g H locs ls hj hl hf
    have ih : ∀ (x0 : Nat) (x1 : Nat) (x2 : Int32) (x3 : Int32) (x4 : Int32) (x5 : Int32) (x6 : Int32) (x7 : Int32) (x8 : Int32) (g : qS) (H : Heap) (locs : List Loc) (ls : Array Slot), q_J E s g H locs → lv_has ls 9 [(0, .ref (q_ad E x0)), (1, .ref (q_ad E x1)), (2, .int x2), (3, .int x3), (4, .int x4), (5, .int x5), (6, .int x6), (7, .int x7), (8, .int x8)] → L_X0_place_84 fr k139 n x0 x1 x2 x3 x4 x5 x6 x7 x8 g = some res → W p l e (q_rm (d + 1 + 5) ((d + 1) * 28 + 130)) s m args below meth c H locs 0 0 (q_ZW E below (some (.int res.1)) res.2 args s) (F0 m 84 ls []) := fun x0 x1 x2 x3 x4 x5 x6 x7 x8 g H locs ls hj hl hf => ih_ hj hl hf
    unfold L_X0_place_84 at hf
    refine lv_iload hx hb dX0_place_84 (lv_at hl 8 rfl) ?_
    refine lv_aload_n hx hb dX0_place_86 rfl (lv_at hl 1 rfl) ?_
    refine lv_iconst (v := 3) hx hb dX0_place_87 qi_3 ?_
    refine q_cVRI C hj cw_X0_38 (As := [.int 3]) (rest := [.int x8]) hf (fun v9 h9 => c_X3_count l E h9) (q_rb1 _ _ rfl rfl) hl rfl rfl rfl dX0_place_88 ⟨Nat.zero_le _, Nat.zero_le _⟩ (fun v1 hf => ?_)
    refine q_icge C (tgt := 139) dX0_place_91 (by decide) hf (fun hf => ?_) (fun hf => ?_)
    · exact hk139 _ _ _ _ _ _ _ _ _ _ ls hj (lv_sub hl [0, 1, 2, 3, 4, 5, 6] rfl) hf
    · refine lv_aload_n hx hb dX0_place_94 rfl (lv_at hl 0 rfl) ?_
      refine lv_iload_n hx hb dX0_place_95 rfl (lv_at hl 2 rfl) ?_
      refine lv_iload hx hb dX0_place_96 (lv_at hl 5 rfl) ?_
      refine lv_iload hx hb dX0_place_98 (lv_at hl 6 rfl) ?_
      refine lv_iload hx hb dX0_place_100 (lv_at hl 8 rfl) ?_
      refine q_cVWV C hj cw_X0_53 (As := [.int x2, .int x5, .int x6, .int x8]) (rest := []) hf (fun g9 h9 => c_X0_choose l E h9) (q_rb1 _ _ rfl rfl) hl rfl rfl rfl dX0_place_102 ⟨Nat.zero_le _, Nat.zero_le _⟩ (fun g2 H locs hj hf => ?_)
      refine lv_aload_n hx hb dX0_place_105 rfl (lv_at hl 0 rfl) ?_
      refine lv_aload_n hx hb dX0_place_106 rfl (lv_at hl 1 rfl) ?_
      refine lv_iload_n hx hb dX0_place_107 rfl (lv_at hl 2 rfl) ?_
      refine q_cVRI C hj cw_X0_57 (As := [.ref (q_ad E x1), .int x2]) (rest := []) hf (fun v9 h9 => c_X0_standsBy l E h9) (q_rb1 _ _ rfl rfl) hl rfl rfl rfl dX0_place_108 ⟨Nat.zero_le _, Nat.zero_le _⟩ (fun v3 hf => ?_)
      refine q_ifeq C (tgt := 133) dX0_place_111 (by decide) hf (fun hf => ?_) (fun hf => ?_)
      · refine lv_iinc (v := x8 + 1) (lv' := [(8, .int (x8 + 1)), (0, .ref (q_ad E x0)), (1, .ref (q_ad E x1)), (2, .int x2), (3, .int x3), (4, .int x4), (5, .int x5), (6, .int x6), (7, .int x7)]) hx hb dX0_place_133 hl (k := 8) rfl (by rw [qi_1]) (by decide) rfl (fun ls hl => ?_)
        refine lv_goto (tgt := 84) hx hb dX0_place_136 (by decide) ?_
        exact ih _ _ _ _ _ _ _ _ _ _ _ _ ls hj (lv_sub hl [1, 2, 3, 4, 5, 6, 7, 8, 0] rfl) hf
      · refine lv_aload_n hx hb dX0_place_114 rfl (lv_at hl 0 rfl) ?_
        refine lv_aload_n hx hb dX0_place_115 rfl (lv_at hl 1 rfl) ?_
        refine lv_iload_n hx hb dX0_place_116 rfl (lv_at hl 2 rfl) ?_
        refine lv_iconst (v := 1) hx hb dX0_place_117 qi_1 ?_
        refine lv_iadd hx hb dX0_place_118 ?_
        refine lv_iload_n hx hb dX0_place_119 rfl (lv_at hl 3 rfl) ?_
        refine lv_iload hx hb dX0_place_120 (lv_at hl 4 rfl) ?_
        refine lv_iload hx hb dX0_place_122 (lv_at hl 7 rfl) ?_
        refine lv_ior hx hb dX0_place_124 ?_
        refine q_cVWI C hj cw_X0_46 (As := [.ref (q_ad E x1), .int (x2 + 1), .int x3, .int (x4 ||| x7)]) (rest := []) hf (fun v9 g9 h9 => hr h9) (q_rb2 _ _ _ _) hl rfl rfl rfl dX0_place_125 ⟨Nat.zero_le _, Nat.zero_le _⟩ (fun v5 g4 H locs hj hf => ?_)
        refine q_ifeq C (tgt := 133) dX0_place_128 (by decide) hf (fun hf => ?_) (fun hf => ?_)
        · refine lv_iinc (v := x8 + 1) (lv' := [(8, .int (x8 + 1)), (0, .ref (q_ad E x0)), (1, .ref (q_ad E x1)), (2, .int x2), (3, .int x3), (4, .int x4), (5, .int x5), (6, .int x6), (7, .int x7)]) hx hb dX0_place_133 hl (k := 8) rfl (by rw [qi_1]) (by decide) rfl (fun ls hl => ?_)
          refine lv_goto (tgt := 84) hx hb dX0_place_136 (by decide) ?_
          exact ih _ _ _ _ _ _ _ _ _ _ _ _ ls hj (lv_sub hl [1, 2, 3, 4, 5, 6, 7, 8, 0] rfl) hf
        · refine lv_iconst (v := 1) hx hb dX0_place_131 qi_1 ?_
          exact q_z1retW C hj dX0_place_132 hf
def L_X0_place_35 (fr : qS → Nat → Nat → Int32 → Int32 → Int32 → Option (Int32 × qS)) (k145 : Nat → Nat → Int32 → Int32 → Int32 → Int32 → qS → Option (Int32 × qS)) : Nat → Nat → Nat → Int32 → Int32 → Int32 → Int32 → Int32 → qS → Option (Int32 × qS)
  | 0, _, _, _, _, _, _, _, _ => none
  | n + 1, x0, x1, x2, x3, x4, x5, x6, g => (f_X3_count g x1 5).bind fun v1 => if v1 ≤ x6 then (k145 x0 x1 x2 x3 x4 x5 g) else (if (x4 &&& (1 <<< (((x5 * 3) + x6) &&& 31))) = 0 then ((g_R g x1 2 8).bind fun v2 => (f_X8_get g v2 x6 x5).bind fun v3 => if 0 ≤ v3 then (L_X0_place_84 fr (fun y4 y5 y6 y7 y8 y9 y10 g11 => L_X0_place_35 fr k145 n y4 y5 y6 y7 y8 y9 (y10 + 1) g11) 1000000000 x0 x1 x2 x3 x4 x5 x6 (1 <<< (((x5 * 3) + x6) &&& 31)) 0 g) else (L_X0_place_35 fr k145 n x0 x1 x2 x3 x4 x5 (x6 + 1) g)) else (L_X0_place_35 fr k145 n x0 x1 x2 x3 x4 x5 (x6 + 1) g))
set_option maxHeartbeats 4000000 in
set_option maxRecDepth 100000 in
theorem w_L_X0_place_35 {l : Launch} {E : qV} {p : Program} {e : Env} {s : State} {m : MethodId} {args : Array Value} {below : List Frame} {meth : Method} {c : Code} {d : Nat} {fr : qS → Nat → Nat → Int32 → Int32 → Int32 → Option (Int32 × qS)} {k145 : Nat → Nat → Int32 → Int32 → Int32 → Int32 → qS → Option (Int32 × qS)} {res : (Int32 × qS)} (C : q_C E p s m args meth c cX0_place RX0 9 (some .boolean)) (hr : ∀ {g : qS} {a0 : Nat} {a1 : Nat} {a2 : Int32} {a3 : Int32} {a4 : Int32} {res : (Int32 × qS)}, fr g a0 a1 a2 a3 a4 = some res → q_MW l yX0_place cX0_place 9 (some .boolean) (d + 5) (d * 28 + 130) E [.ref (q_ad E a0), .ref (q_ad E a1), .int a2, .int a3, .int a4] g (some (.int res.1)) res.2 ∧ ∃ fs, g a0 = some (.inr (0, fs))) (hk145 : ∀ (x0 : Nat) (x1 : Nat) (x2 : Int32) (x3 : Int32) (x4 : Int32) (x5 : Int32) (g : qS) (H : Heap) (locs : List Loc) (ls : Array Slot), q_J E s g H locs → lv_has ls 9 [(0, .ref (q_ad E x0)), (1, .ref (q_ad E x1)), (2, .int x2), (3, .int x3), (4, .int x4), (5, .int x5)] → k145 x0 x1 x2 x3 x4 x5 g = some res → W p l e (q_rm (d + 1 + 5) ((d + 1) * 28 + 130)) s m args below meth c H locs 0 0 (q_ZW E below (some (.int res.1)) res.2 args s) (F0 m 145 ls [])) : ∀ {n : Nat} {x0 : Nat} {x1 : Nat} {x2 : Int32} {x3 : Int32} {x4 : Int32} {x5 : Int32} {x6 : Int32} {g : qS} {H : Heap} {locs : List Loc} {ls : Array Slot}, q_J E s g H locs → lv_has ls 9 [(0, .ref (q_ad E x0)), (1, .ref (q_ad E x1)), (2, .int x2), (3, .int x3), (4, .int x4), (5, .int x5), (6, .int x6)] → L_X0_place_35 fr k145 n x0 x1 x2 x3 x4 x5 x6 g = some res → W p l e (q_rm (d + 1 + 5) ((d + 1) * 28 + 130)) s m args below meth c H locs 0 0 (q_ZW E below (some (.int res.1)) res.2 args s) (F0 m 35 ls []) := by
  have hx := C.1
  have hb := C.2.1
  intro n
  induction n with
  | zero =>
    intro x0 x1 x2 x3 x4 x5 x6 g H locs ls hj hl hf
    cases hf
  | succ n ih_ =>
    intro x0 x1 x2 x3 x4 x5 x6 g H locs ls hj hl hf
    have ih : ∀ (x0 : Nat) (x1 : Nat) (x2 : Int32) (x3 : Int32) (x4 : Int32) (x5 : Int32) (x6 : Int32) (g : qS) (H : Heap) (locs : List Loc) (ls : Array Slot), q_J E s g H locs → lv_has ls 9 [(0, .ref (q_ad E x0)), (1, .ref (q_ad E x1)), (2, .int x2), (3, .int x3), (4, .int x4), (5, .int x5), (6, .int x6)] → L_X0_place_35 fr k145 n x0 x1 x2 x3 x4 x5 x6 g = some res → W p l e (q_rm (d + 1 + 5) ((d + 1) * 28 + 130)) s m args below meth c H locs 0 0 (q_ZW E below (some (.int res.1)) res.2 args s) (F0 m 35 ls []) := fun x0 x1 x2 x3 x4 x5 x6 g H locs ls hj hl hf => ih_ hj hl hf
    unfold L_X0_place_35 at hf
    refine lv_iload hx hb dX0_place_35 (lv_at hl 6 rfl) ?_
    refine lv_aload_n hx hb dX0_place_37 rfl (lv_at hl 1 rfl) ?_
    refine lv_iconst (v := 5) hx hb dX0_place_38 qi_5 ?_
    refine q_cVRI C hj cw_X0_38 (As := [.int 5]) (rest := [.int x6]) hf (fun v9 h9 => c_X3_count l E h9) (q_rb1 _ _ rfl rfl) hl rfl rfl rfl dX0_place_39 ⟨Nat.zero_le _, Nat.zero_le _⟩ (fun v1 hf => ?_)
    refine q_icge C (tgt := 145) dX0_place_42 (by decide) hf (fun hf => ?_) (fun hf => ?_)
    · exact hk145 _ _ _ _ _ _ _ _ _ ls hj (lv_sub hl [0, 1, 2, 3, 4, 5] rfl) hf
    · refine lv_iconst (v := 1) hx hb dX0_place_45 qi_1 ?_
      refine lv_iload hx hb dX0_place_46 (lv_at hl 5 rfl) ?_
      refine lv_iconst (v := 3) hx hb dX0_place_48 qi_3 ?_
      refine lv_imul hx hb dX0_place_49 ?_
      refine lv_iload hx hb dX0_place_50 (lv_at hl 6 rfl) ?_
      refine lv_iadd hx hb dX0_place_52 ?_
      refine lv_ishl hx hb dX0_place_53 ?_
      refine lv_istore (lv' := [(7, .int (1 <<< (((x5 * 3) + x6) &&& 31))), (0, .ref (q_ad E x0)), (1, .ref (q_ad E x1)), (2, .int x2), (3, .int x3), (4, .int x4), (5, .int x5), (6, .int x6)]) hx hb dX0_place_54 hl (by decide) rfl (fun ls hl => ?_)
      refine lv_iload hx hb dX0_place_56 (lv_at hl 5 rfl) ?_
      refine lv_iload hx hb dX0_place_58 (lv_at hl 0 rfl) ?_
      refine lv_iand hx hb dX0_place_60 ?_
      refine q_ifne C (tgt := 139) dX0_place_61 (by decide) hf (fun hf => ?_) (fun hf => ?_)
      · refine lv_iinc (v := x6 + 1) (lv' := [(6, .int (x6 + 1)), (7, .int (1 <<< (((x5 * 3) + x6) &&& 31))), (0, .ref (q_ad E x0)), (1, .ref (q_ad E x1)), (2, .int x2), (3, .int x3), (4, .int x4), (5, .int x5)]) hx hb dX0_place_139 hl (k := 7) rfl (by rw [qi_1]) (by decide) rfl (fun ls hl => ?_)
        refine lv_goto (tgt := 35) hx hb dX0_place_142 (by decide) ?_
        exact ih _ _ _ _ _ _ _ _ _ _ ls hj (lv_sub hl [2, 3, 4, 5, 6, 7, 0] rfl) hf
      · refine lv_aload_n hx hb dX0_place_64 rfl (lv_at hl 2 rfl) ?_
        refine q_getR C hj lk_X0_50 dX0_place_65 hf (fun v2 hf => ?_)
        refine lv_iload hx hb dX0_place_68 (lv_at hl 7 rfl) ?_
        refine lv_iload hx hb dX0_place_70 (lv_at hl 6 rfl) ?_
        refine q_cVRI C hj cw_X0_28 (As := [.int x6, .int x5]) (rest := []) hf (fun v9 h9 => c_X8_get l E h9) (q_rb1 _ _ rfl rfl) hl rfl rfl rfl dX0_place_72 ⟨Nat.zero_le _, Nat.zero_le _⟩ (fun v3 hf => ?_)
        refine q_ifge C (tgt := 81) dX0_place_75 (by decide) hf (fun hf => ?_) (fun hf => ?_)
        · refine lv_iconst (v := 0) hx hb dX0_place_81 qi_0 ?_
          refine lv_istore (lv' := [(8, .int 0), (7, .int (1 <<< (((x5 * 3) + x6) &&& 31))), (0, .ref (q_ad E x0)), (1, .ref (q_ad E x1)), (2, .int x2), (3, .int x3), (4, .int x4), (5, .int x5), (6, .int x6)]) hx hb dX0_place_82 hl (by decide) rfl (fun ls hl => ?_)
          refine w_L_X0_place_84 C hr (fun y4 y5 y6 y7 y8 y9 y10 g11 H locs ls hj hl hf => ?_) hj (lv_sub hl [2, 3, 4, 5, 6, 7, 8, 1, 0] rfl) hf
          · refine lv_iinc (v := y10 + 1) (lv' := [(6, .int (y10 + 1)), (0, .ref (q_ad E y4)), (1, .ref (q_ad E y5)), (2, .int y6), (3, .int y7), (4, .int y8), (5, .int y9)]) hx hb dX0_place_139 hl (k := 6) rfl (by rw [qi_1]) (by decide) rfl (fun ls hl => ?_)
            refine lv_goto (tgt := 35) hx hb dX0_place_142 (by decide) ?_
            exact ih _ _ _ _ _ _ _ _ _ _ ls hj (lv_sub hl [1, 2, 3, 4, 5, 6, 0] rfl) hf
        · refine lv_goto (tgt := 139) hx hb dX0_place_78 (by decide) ?_
          refine lv_iinc (v := x6 + 1) (lv' := [(6, .int (x6 + 1)), (7, .int (1 <<< (((x5 * 3) + x6) &&& 31))), (0, .ref (q_ad E x0)), (1, .ref (q_ad E x1)), (2, .int x2), (3, .int x3), (4, .int x4), (5, .int x5)]) hx hb dX0_place_139 hl (k := 7) rfl (by rw [qi_1]) (by decide) rfl (fun ls hl => ?_)
          refine lv_goto (tgt := 35) hx hb dX0_place_142 (by decide) ?_
          exact ih _ _ _ _ _ _ _ _ _ _ ls hj (lv_sub hl [2, 3, 4, 5, 6, 7, 0] rfl) hf
def L_X0_place_19 (fr : qS → Nat → Nat → Int32 → Int32 → Int32 → Option (Int32 × qS)) : Nat → Nat → Nat → Int32 → Int32 → Int32 → Int32 → qS → Option (Int32 × qS)
  | 0, _, _, _, _, _, _, _ => none
  | n + 1, x0, x1, x2, x3, x4, x5, g => if x3 < x5 then (some (0, g)) else (if 7 ≤ x5 then (some (0, g)) else (L_X0_place_35 fr (fun y1 y2 y3 y4 y5 y6 g7 => L_X0_place_19 fr n y1 y2 y3 y4 y5 (y6 + 1) g7) 1000000000 x0 x1 x2 x3 x4 x5 0 g))
set_option maxHeartbeats 4000000 in
set_option maxRecDepth 100000 in
theorem w_L_X0_place_19 {l : Launch} {E : qV} {p : Program} {e : Env} {s : State} {m : MethodId} {args : Array Value} {below : List Frame} {meth : Method} {c : Code} {d : Nat} {fr : qS → Nat → Nat → Int32 → Int32 → Int32 → Option (Int32 × qS)} {res : (Int32 × qS)} (C : q_C E p s m args meth c cX0_place RX0 9 (some .boolean)) (hr : ∀ {g : qS} {a0 : Nat} {a1 : Nat} {a2 : Int32} {a3 : Int32} {a4 : Int32} {res : (Int32 × qS)}, fr g a0 a1 a2 a3 a4 = some res → q_MW l yX0_place cX0_place 9 (some .boolean) (d + 5) (d * 28 + 130) E [.ref (q_ad E a0), .ref (q_ad E a1), .int a2, .int a3, .int a4] g (some (.int res.1)) res.2 ∧ ∃ fs, g a0 = some (.inr (0, fs))) : ∀ {n : Nat} {x0 : Nat} {x1 : Nat} {x2 : Int32} {x3 : Int32} {x4 : Int32} {x5 : Int32} {g : qS} {H : Heap} {locs : List Loc} {ls : Array Slot}, q_J E s g H locs → lv_has ls 9 [(0, .ref (q_ad E x0)), (1, .ref (q_ad E x1)), (2, .int x2), (3, .int x3), (4, .int x4), (5, .int x5)] → L_X0_place_19 fr n x0 x1 x2 x3 x4 x5 g = some res → W p l e (q_rm (d + 1 + 5) ((d + 1) * 28 + 130)) s m args below meth c H locs 0 0 (q_ZW E below (some (.int res.1)) res.2 args s) (F0 m 19 ls []) := by
  have hx := C.1
  have hb := C.2.1
  intro n
  induction n with
  | zero =>
    intro x0 x1 x2 x3 x4 x5 g H locs ls hj hl hf
    cases hf
  | succ n ih_ =>
    intro x0 x1 x2 x3 x4 x5 g H locs ls hj hl hf
    have ih : ∀ (x0 : Nat) (x1 : Nat) (x2 : Int32) (x3 : Int32) (x4 : Int32) (x5 : Int32) (g : qS) (H : Heap) (locs : List Loc) (ls : Array Slot), q_J E s g H locs → lv_has ls 9 [(0, .ref (q_ad E x0)), (1, .ref (q_ad E x1)), (2, .int x2), (3, .int x3), (4, .int x4), (5, .int x5)] → L_X0_place_19 fr n x0 x1 x2 x3 x4 x5 g = some res → W p l e (q_rm (d + 1 + 5) ((d + 1) * 28 + 130)) s m args below meth c H locs 0 0 (q_ZW E below (some (.int res.1)) res.2 args s) (F0 m 19 ls []) := fun x0 x1 x2 x3 x4 x5 g H locs ls hj hl hf => ih_ hj hl hf
    unfold L_X0_place_19 at hf
    refine lv_iload hx hb dX0_place_19 (lv_at hl 5 rfl) ?_
    refine lv_iload_n hx hb dX0_place_21 rfl (lv_at hl 3 rfl) ?_
    refine q_icgt C (tgt := 151) dX0_place_22 (by decide) hf (fun hf => ?_) (fun hf => ?_)
    · refine lv_iconst (v := 0) hx hb dX0_place_151 qi_0 ?_
      exact q_z0retW C hj dX0_place_152 hf
    · refine lv_iload hx hb dX0_place_25 (lv_at hl 5 rfl) ?_
      refine lv_bipush (v := 7) hx hb dX0_place_27 (by decide) ?_
      refine q_icge C (tgt := 151) dX0_place_29 (by decide) hf (fun hf => ?_) (fun hf => ?_)
      · refine lv_iconst (v := 0) hx hb dX0_place_151 qi_0 ?_
        exact q_z0retW C hj dX0_place_152 hf
      · refine lv_iconst (v := 0) hx hb dX0_place_32 qi_0 ?_
        refine lv_istore (lv' := [(6, .int 0), (0, .ref (q_ad E x0)), (1, .ref (q_ad E x1)), (2, .int x2), (3, .int x3), (4, .int x4), (5, .int x5)]) hx hb dX0_place_33 hl (by decide) rfl (fun ls hl => ?_)
        refine w_L_X0_place_35 C hr (fun y1 y2 y3 y4 y5 y6 g7 H locs ls hj hl hf => ?_) hj (lv_sub hl [1, 2, 3, 4, 5, 6, 0] rfl) hf
        · refine lv_iinc (v := y6 + 1) (lv' := [(5, .int (y6 + 1)), (0, .ref (q_ad E y1)), (1, .ref (q_ad E y2)), (2, .int y3), (3, .int y4), (4, .int y5)]) hx hb dX0_place_145 hl (k := 5) rfl (by rw [qi_1]) (by decide) rfl (fun ls hl => ?_)
          refine lv_goto (tgt := 19) hx hb dX0_place_148 (by decide) ?_
          exact ih _ _ _ _ _ _ _ _ _ ls hj (lv_sub hl [1, 2, 3, 4, 5, 0] rfl) hf
def f_X0_place : Nat → qS → Nat → Nat → Int32 → Int32 → Int32 → Option (Int32 × qS)
  | 0, _, _, _, _, _, _ => none
  | d + 1, g, a0, a1, a2, a3, a4 => (g_C g a0 0).bind fun _ => (f_X3_count g a1 2).bind fun v1 => if v1 ≤ a2 then (some (1, g)) else (if a2 < 4 then (L_X0_place_19 (f_X0_place d) 1000000000 a0 a1 a2 a3 a4 0 g) else (some (1, g)))
set_option maxHeartbeats 4000000 in
set_option maxRecDepth 100000 in
theorem c_X0_place (l : Launch) (E : qV) : ∀ {d : Nat} {g : qS} {a0 : Nat} {a1 : Nat} {a2 : Int32} {a3 : Int32} {a4 : Int32} {res : (Int32 × qS)}, f_X0_place d g a0 a1 a2 a3 a4 = some res → q_MW l yX0_place cX0_place 9 (some .boolean) (d + 5) (d * 28 + 130) E [.ref (q_ad E a0), .ref (q_ad E a1), .int a2, .int a3, .int a4] g (some (.int res.1)) res.2 ∧ ∃ fs, g a0 = some (.inr (0, fs)) := by
  intro d
  induction d with
  | zero =>
    intro g a0 a1 a2 a3 a4 res hf
    cases hf
  | succ d hr =>
    intro g a0 a1 a2 a3 a4 res hf
    unfold f_X0_place at hf
    obtain ⟨u9, hu9, hf⟩ := q_ob hf
    refine ⟨q_ofW (by decide) rfl ?_, g_C_sp hu9⟩
    intro p e s m args below meth c ls C hj hl
    have hx := C.1
    have hb := C.2.1
    have C : q_C E p s m args meth c cX0_place RX0 9 (some .boolean) := C
    have hl : lv_has ls 9 [(0, .ref (q_ad E a0)), (1, .ref (q_ad E a1)), (2, .int a2), (3, .int a3), (4, .int a4)] := hl
    refine lv_iload_n hx hb dX0_place_0 rfl (lv_at hl 2 rfl) ?_
    refine lv_aload_n hx hb dX0_place_1 rfl (lv_at hl 1 rfl) ?_
    refine lv_iconst (v := 2) hx hb dX0_place_2 qi_2 ?_
    refine q_cVRI C hj cw_X0_38 (As := [.int 2]) (rest := [.int a2]) hf (fun v9 h9 => c_X3_count l E h9) (q_rb1 _ _ rfl rfl) hl rfl rfl rfl dX0_place_3 ⟨Nat.zero_le _, Nat.zero_le _⟩ (fun v1 hf => ?_)
    refine q_icge C (tgt := 14) dX0_place_6 (by decide) hf (fun hf => ?_) (fun hf => ?_)
    · refine lv_iconst (v := 1) hx hb dX0_place_14 qi_1 ?_
      exact q_z1retW C hj dX0_place_15 hf
    · refine lv_iload_n hx hb dX0_place_9 rfl (lv_at hl 2 rfl) ?_
      refine lv_iconst (v := 4) hx hb dX0_place_10 qi_4 ?_
      refine q_iclt C (tgt := 16) dX0_place_11 (by decide) hf (fun hf => ?_) (fun hf => ?_)
      · refine lv_iconst (v := 0) hx hb dX0_place_16 qi_0 ?_
        refine lv_istore (lv' := [(5, .int 0), (0, .ref (q_ad E a0)), (1, .ref (q_ad E a1)), (2, .int a2), (3, .int a3), (4, .int a4)]) hx hb dX0_place_17 hl (by decide) rfl (fun ls hl => ?_)
        refine w_L_X0_place_19 C hr  hj (lv_sub hl [1, 2, 3, 4, 5, 0] rfl) hf
      · refine lv_iconst (v := 1) hx hb dX0_place_14 qi_1 ?_
        exact q_z1retW C hj dX0_place_15 hf
def L_X0_find_29  : Nat → Nat → Nat → Int32 → qS → Option qS
  | 0, _, _, _, _ => none
  | n + 1, x0, x1, x2, g => (f_X3_count g x1 0).bind fun v1 => if v1 ≤ x2 then (some g) else ((f_X3_anybodyTogether g x1 x2).bind fun v2 => if v2 = 0 then (L_X0_find_29 n x0 x1 (x2 + 1) g) else (q_b2 (f_X0_place 6 g x0 x1 0 x2 0) fun v4 g3 => if v4 = 0 then (L_X0_find_29 n x0 x1 (x2 + 1) g3) else ((p_I g3 x0 0 2 x2).bind fun g5 => some g5)))
set_option maxHeartbeats 4000000 in
set_option maxRecDepth 100000 in
theorem w_L_X0_find_29 {l : Launch} {E : qV} {p : Program} {e : Env} {s : State} {m : MethodId} {args : Array Value} {below : List Frame} {meth : Method} {c : Code}  {res : qS} (C : q_C E p s m args meth c cX0_find RX0 3 none)  : ∀ {n : Nat} {x0 : Nat} {x1 : Nat} {x2 : Int32} {g : qS} {H : Heap} {locs : List Loc} {ls : Array Slot}, q_J E s g H locs → lv_has ls 3 [(0, .ref (q_ad E x0)), (1, .ref (q_ad E x1)), (2, .int x2)] → L_X0_find_29 n x0 x1 x2 g = some res → W p l e (q_rm 12 326) s m args below meth c H locs 0 0 (q_ZW E below none res args s) (F0 m 29 ls []) := by
  have hx := C.1
  have hb := C.2.1
  intro n
  induction n with
  | zero =>
    intro x0 x1 x2 g H locs ls hj hl hf
    cases hf
  | succ n ih_ =>
    intro x0 x1 x2 g H locs ls hj hl hf
    have ih : ∀ (x0 : Nat) (x1 : Nat) (x2 : Int32) (g : qS) (H : Heap) (locs : List Loc) (ls : Array Slot), q_J E s g H locs → lv_has ls 3 [(0, .ref (q_ad E x0)), (1, .ref (q_ad E x1)), (2, .int x2)] → L_X0_find_29 n x0 x1 x2 g = some res → W p l e (q_rm 12 326) s m args below meth c H locs 0 0 (q_ZW E below none res args s) (F0 m 29 ls []) := fun x0 x1 x2 g H locs ls hj hl hf => ih_ hj hl hf
    unfold L_X0_find_29 at hf
    refine lv_iload_n hx hb dX0_find_29 rfl (lv_at hl 2 rfl) ?_
    refine lv_aload_n hx hb dX0_find_30 rfl (lv_at hl 1 rfl) ?_
    refine lv_iconst (v := 0) hx hb dX0_find_31 qi_0 ?_
    refine q_cVRI C hj cw_X0_38 (As := [.int 0]) (rest := [.int x2]) hf (fun v9 h9 => c_X3_count l E h9) rfl hl rfl rfl rfl dX0_find_32 ⟨Nat.zero_le _, Nat.zero_le _⟩ (fun v1 hf => ?_)
    refine q_icge C (tgt := 69) dX0_find_35 (by decide) hf (fun hf => ?_) (fun hf => ?_)
    · exact q_vretW C hj dX0_find_69 hf
    · refine lv_aload_n hx hb dX0_find_38 rfl (lv_at hl 1 rfl) ?_
      refine lv_iload_n hx hb dX0_find_39 rfl (lv_at hl 2 rfl) ?_
      refine q_cVRI C hj cw_X0_42 (As := [.int x2]) (rest := []) hf (fun v9 h9 => c_X3_anybodyTogether l E h9) rfl hl rfl rfl rfl dX0_find_40 ⟨Nat.zero_le _, Nat.zero_le _⟩ (fun v2 hf => ?_)
      refine q_ifeq C (tgt := 63) dX0_find_43 (by decide) hf (fun hf => ?_) (fun hf => ?_)
      · refine lv_iinc (v := x2 + 1) (lv' := [(2, .int (x2 + 1)), (0, .ref (q_ad E x0)), (1, .ref (q_ad E x1))]) hx hb dX0_find_63 hl (k := 2) rfl (by rw [qi_1]) (by decide) rfl (fun ls hl => ?_)
        refine lv_goto (tgt := 29) hx hb dX0_find_66 (by decide) ?_
        exact ih _ _ _ _ _ _ ls hj (lv_sub hl [1, 2, 0] rfl) hf
      · refine lv_aload_n hx hb dX0_find_46 rfl (lv_at hl 0 rfl) ?_
        refine lv_aload_n hx hb dX0_find_47 rfl (lv_at hl 1 rfl) ?_
        refine lv_iconst (v := 0) hx hb dX0_find_48 qi_0 ?_
        refine lv_iload_n hx hb dX0_find_49 rfl (lv_at hl 2 rfl) ?_
        refine lv_iconst (v := 0) hx hb dX0_find_50 qi_0 ?_
        refine q_cVWI C hj cw_X0_46 (As := [.ref (q_ad E x1), .int 0, .int x2, .int 0]) (rest := []) hf (fun v9 g9 h9 => c_X0_place l E h9) rfl hl rfl rfl rfl dX0_find_51 ⟨Nat.zero_le _, Nat.zero_le _⟩ (fun v4 g3 H locs hj hf => ?_)
        refine q_ifeq C (tgt := 63) dX0_find_54 (by decide) hf (fun hf => ?_) (fun hf => ?_)
        · refine lv_iinc (v := x2 + 1) (lv' := [(2, .int (x2 + 1)), (0, .ref (q_ad E x0)), (1, .ref (q_ad E x1))]) hx hb dX0_find_63 hl (k := 2) rfl (by rw [qi_1]) (by decide) rfl (fun ls hl => ?_)
          refine lv_goto (tgt := 29) hx hb dX0_find_66 (by decide) ?_
          exact ih _ _ _ _ _ _ ls hj (lv_sub hl [1, 2, 0] rfl) hf
        · refine lv_aload_n hx hb dX0_find_57 rfl (lv_at hl 0 rfl) ?_
          refine lv_iload_n hx hb dX0_find_58 rfl (lv_at hl 2 rfl) ?_
          refine q_putI C hj fp_X0_24 dX0_find_59 hf (fun g5 H locs hj hf => ?_)
          exact q_vretW C hj dX0_find_62 hf
def f_X0_find (g : qS) (a0 : Nat) (a1 : Nat) : Option qS := (g_C g a0 0).bind fun _ => (g_I g a0 0 1).bind fun v1 => if v1 = 0 then ((p_Z g a0 0 1 1).bind fun g2 => (p_I g2 a0 0 2 (-2)).bind fun g3 => (f_X3_neverGiven g3 a1).bind fun v4 => if v4 = 0 then (L_X0_find_29 1000000000 a0 a1 0 g3) else (some g3)) else (some g)
set_option maxHeartbeats 4000000 in
set_option maxRecDepth 100000 in
theorem c_X0_find (l : Launch) (E : qV) {g : qS} {a0 : Nat} {a1 : Nat} {res : qS} (hf : f_X0_find g a0 a1 = some res) : q_MW l yX0_find cX0_find 3 none 12 326 E [.ref (q_ad E a0), .ref (q_ad E a1)] g none res ∧ ∃ fs, g a0 = some (.inr (0, fs)) := by
  unfold f_X0_find at hf
  obtain ⟨u9, hu9, hf⟩ := q_ob hf
  refine ⟨q_ofW (by decide) rfl ?_, g_C_sp hu9⟩
  intro p e s m args below meth c ls C hj hl
  have hx := C.1
  have hb := C.2.1
  have C : q_C E p s m args meth c cX0_find RX0 3 none := C
  have hl : lv_has ls 3 [(0, .ref (q_ad E a0)), (1, .ref (q_ad E a1))] := hl
  refine lv_aload_n hx hb dX0_find_0 rfl (lv_at hl 0 rfl) ?_
  refine q_getI C hj lk_X0_20 dX0_find_1 hf (fun v1 hf => ?_)
  refine q_ifeq C (tgt := 8) dX0_find_4 (by decide) hf (fun hf => ?_) (fun hf => ?_)
  · refine lv_aload_n hx hb dX0_find_8 rfl (lv_at hl 0 rfl) ?_
    refine lv_iconst (v := 1) hx hb dX0_find_9 qi_1 ?_
    refine q_putZ C hj fp_X0_20 dX0_find_10 hf (fun g2 H locs hj hf => ?_)
    refine lv_aload_n hx hb dX0_find_13 rfl (lv_at hl 0 rfl) ?_
    refine lv_bipush (v := -2) hx hb dX0_find_14 (by decide) ?_
    refine q_putI C hj fp_X0_24 dX0_find_16 hf (fun g3 H locs hj hf => ?_)
    refine lv_aload_n hx hb dX0_find_19 rfl (lv_at hl 1 rfl) ?_
    refine q_cVRI C hj cw_X0_32 (As := []) (rest := []) hf (fun v9 h9 => c_X3_neverGiven l E h9) rfl hl rfl rfl rfl dX0_find_20 ⟨Nat.zero_le _, Nat.zero_le _⟩ (fun v4 hf => ?_)
    refine q_ifeq C (tgt := 27) dX0_find_23 (by decide) hf (fun hf => ?_) (fun hf => ?_)
    · refine lv_iconst (v := 0) hx hb dX0_find_27 qi_0 ?_
      refine lv_istore_n (lv' := [(2, .int 0), (0, .ref (q_ad E a0)), (1, .ref (q_ad E a1))]) hx hb dX0_find_28 rfl hl (by decide) rfl (fun ls hl => ?_)
      refine w_L_X0_find_29 C  hj (lv_sub hl [1, 2, 0] rfl) hf
    · exact q_vretW C hj dX0_find_26 hf
  · exact q_vretW C hj dX0_find_7 hf
def f_X0_lastDay (g : qS) (a0 : Nat) : Option Int32 := (g_C g a0 0).bind fun _ => (g_I g a0 0 2).bind fun v1 => some v1
set_option maxHeartbeats 4000000 in
set_option maxRecDepth 100000 in
theorem c_X0_lastDay (l : Launch) (E : qV) {g : qS} {a0 : Nat} {res : Int32} (hf : f_X0_lastDay g a0 = some res) : q_MR l yX0_lastDay cX0_lastDay 1 (some .int) 0 0 E [.ref (q_ad E a0)] g (some (.int res)) ∧ ∃ fs, g a0 = some (.inr (0, fs)) := by
  unfold f_X0_lastDay at hf
  obtain ⟨u9, hu9, hf⟩ := q_ob hf
  refine ⟨q_ofR (by decide) rfl ?_, g_C_sp hu9⟩
  intro p e s m args below meth c ls C hw hl
  have hj : q_J E s g s.heap [] := ⟨hw, va_S.rf⟩
  have hx := C.1
  have hb := C.2.1
  have C : q_C E p s m args meth c cX0_lastDay RX0 1 (some .int) := C
  have hl : lv_has ls 1 [(0, .ref (q_ad E a0))] := hl
  refine lv_aload_n hx hb dX0_lastDay_0 rfl (lv_at hl 0 rfl) ?_
  refine q_getI C hj lk_X0_24 dX0_lastDay_1 hf (fun v1 hf => ?_)
  exact q_iretR C dX0_lastDay_4 hf
def f_X0_giftOf (g : qS) (a0 : Nat) (a1 : Int32) : Option Int32 := (g_C g a0 0).bind fun _ => (g_R g a0 0 0).bind fun v1 => (f_X8_get g v1 a1 0).bind fun v2 => (g_R g a0 0 0).bind fun v3 => (f_X8_get g v3 a1 1).bind fun v4 => (g_R g a0 0 0).bind fun v5 => (f_X8_get g v5 a1 2).bind fun v6 => some (((100 * v2) + (10 * v4)) + v6)
set_option maxHeartbeats 4000000 in
set_option maxRecDepth 100000 in
theorem c_X0_giftOf (l : Launch) (E : qV) {g : qS} {a0 : Nat} {a1 : Int32} {res : Int32} (hf : f_X0_giftOf g a0 a1 = some res) : q_MR l yX0_giftOf cX0_giftOf 2 (some .int) 1 23 E [.ref (q_ad E a0), .int a1] g (some (.int res)) ∧ ∃ fs, g a0 = some (.inr (0, fs)) := by
  unfold f_X0_giftOf at hf
  obtain ⟨u9, hu9, hf⟩ := q_ob hf
  refine ⟨q_ofR (by decide) rfl ?_, g_C_sp hu9⟩
  intro p e s m args below meth c ls C hw hl
  have hj : q_J E s g s.heap [] := ⟨hw, va_S.rf⟩
  have hx := C.1
  have hb := C.2.1
  have C : q_C E p s m args meth c cX0_giftOf RX0 2 (some .int) := C
  have hl : lv_has ls 2 [(0, .ref (q_ad E a0)), (1, .int a1)] := hl
  refine lv_bipush (v := 100) hx hb dX0_giftOf_0 (by decide) ?_
  refine lv_aload_n hx hb dX0_giftOf_2 rfl (lv_at hl 0 rfl) ?_
  refine q_getR C hj lk_X0_14 dX0_giftOf_3 hf (fun v1 hf => ?_)
  refine lv_iload_n hx hb dX0_giftOf_6 rfl (lv_at hl 1 rfl) ?_
  refine lv_iconst (v := 0) hx hb dX0_giftOf_7 qi_0 ?_
  refine q_cVRI C hj cw_X0_28 (As := [.int a1, .int 0]) (rest := [.int 100]) hf (fun v9 h9 => c_X8_get l E h9) rfl hl rfl rfl rfl dX0_giftOf_8 ⟨Nat.zero_le _, Nat.zero_le _⟩ (fun v2 hf => ?_)
  refine lv_imul hx hb dX0_giftOf_11 ?_
  refine lv_bipush (v := 10) hx hb dX0_giftOf_12 (by decide) ?_
  refine lv_aload_n hx hb dX0_giftOf_14 rfl (lv_at hl 0 rfl) ?_
  refine q_getR C hj lk_X0_14 dX0_giftOf_15 hf (fun v3 hf => ?_)
  refine lv_iload_n hx hb dX0_giftOf_18 rfl (lv_at hl 1 rfl) ?_
  refine lv_iconst (v := 1) hx hb dX0_giftOf_19 qi_1 ?_
  refine q_cVRI C hj cw_X0_28 (As := [.int a1, .int 1]) (rest := [.int 10, .int (100 * v2)]) hf (fun v9 h9 => c_X8_get l E h9) rfl hl rfl rfl rfl dX0_giftOf_20 ⟨Nat.zero_le _, Nat.zero_le _⟩ (fun v4 hf => ?_)
  refine lv_imul hx hb dX0_giftOf_23 ?_
  refine lv_iadd hx hb dX0_giftOf_24 ?_
  refine lv_aload_n hx hb dX0_giftOf_25 rfl (lv_at hl 0 rfl) ?_
  refine q_getR C hj lk_X0_14 dX0_giftOf_26 hf (fun v5 hf => ?_)
  refine lv_iload_n hx hb dX0_giftOf_29 rfl (lv_at hl 1 rfl) ?_
  refine lv_iconst (v := 2) hx hb dX0_giftOf_30 qi_2 ?_
  refine q_cVRI C hj cw_X0_28 (As := [.int a1, .int 2]) (rest := [.int ((100 * v2) + (10 * v4))]) hf (fun v9 h9 => c_X8_get l E h9) rfl hl rfl rfl rfl dX0_giftOf_31 ⟨Nat.zero_le _, Nat.zero_le _⟩ (fun v6 hf => ?_)
  refine lv_iadd hx hb dX0_giftOf_34 ?_
  exact q_iretR C dX0_giftOf_35 hf
def L_X9_countRow_12  : Nat → Nat → Nat → Int32 → qS → Option qS
  | 0, _, _, _, _ => none
  | n + 1, x0, x1, x2, g => (f_X3_count g x1 8).bind fun v1 => if v1 ≤ x2 then (some g) else ((g_R g x1 2 5).bind fun v2 => (f_X8_get g v2 x2 0).bind fun v3 => (g_R g x0 8 1).bind fun v4 => (g_R g x0 8 1).bind fun v5 => (f_X8_get g v5 0 v3).bind fun v6 => (g_R g x0 8 0).bind fun v7 => (f_X8_get g v7 0 x2).bind fun v8 => (f_X8_set g v4 0 v3 (v6 ||| (1 <<< (v8 &&& 31)))).bind fun g9 => L_X9_countRow_12 n x0 x1 (x2 + 1) g9)
set_option maxHeartbeats 4000000 in
set_option maxRecDepth 100000 in
theorem w_L_X9_countRow_12 {l : Launch} {E : qV} {p : Program} {e : Env} {s : State} {m : MethodId} {args : Array Value} {below : List Frame} {meth : Method} {c : Code}  {res : qS} (C : q_C E p s m args meth c cX9_countRow RX9 4 none)  : ∀ {n : Nat} {x0 : Nat} {x1 : Nat} {x2 : Int32} {g : qS} {H : Heap} {locs : List Loc} {ls : Array Slot}, q_J E s g H locs → lv_has ls 4 [(0, .ref (q_ad E x0)), (1, .ref (q_ad E x1)), (2, .int x2)] → L_X9_countRow_12 n x0 x1 x2 g = some res → W p l e (q_rm 2 44) s m args below meth c H locs 0 0 (q_ZW E below none res args s) (F0 m 12 ls []) := by
  have hx := C.1
  have hb := C.2.1
  intro n
  induction n with
  | zero =>
    intro x0 x1 x2 g H locs ls hj hl hf
    cases hf
  | succ n ih_ =>
    intro x0 x1 x2 g H locs ls hj hl hf
    have ih : ∀ (x0 : Nat) (x1 : Nat) (x2 : Int32) (g : qS) (H : Heap) (locs : List Loc) (ls : Array Slot), q_J E s g H locs → lv_has ls 4 [(0, .ref (q_ad E x0)), (1, .ref (q_ad E x1)), (2, .int x2)] → L_X9_countRow_12 n x0 x1 x2 g = some res → W p l e (q_rm 2 44) s m args below meth c H locs 0 0 (q_ZW E below none res args s) (F0 m 12 ls []) := fun x0 x1 x2 g H locs ls hj hl hf => ih_ hj hl hf
    unfold L_X9_countRow_12 at hf
    refine lv_iload_n hx hb dX9_countRow_12 rfl (lv_at hl 2 rfl) ?_
    refine lv_aload_n hx hb dX9_countRow_13 rfl (lv_at hl 1 rfl) ?_
    refine lv_bipush (v := 8) hx hb dX9_countRow_14 (by decide) ?_
    refine q_cVRI C hj cw_X9_47 (As := [.int 8]) (rest := [.int x2]) hf (fun v9 h9 => c_X3_count l E h9) rfl hl rfl rfl rfl dX9_countRow_16 ⟨Nat.zero_le _, Nat.zero_le _⟩ (fun v1 hf => ?_)
    refine q_icge C (tgt := 68) dX9_countRow_19 (by decide) hf (fun hf => ?_) (fun hf => ?_)
    · exact q_vretW C hj dX9_countRow_68 hf
    · refine lv_aload_n hx hb dX9_countRow_22 rfl (lv_at hl 1 rfl) ?_
      refine q_getR C hj lk_X9_56 dX9_countRow_23 hf (fun v2 hf => ?_)
      refine lv_iload_n hx hb dX9_countRow_26 rfl (lv_at hl 2 rfl) ?_
      refine lv_iconst (v := 0) hx hb dX9_countRow_27 qi_0 ?_
      refine q_cVRI C hj cw_X9_31 (As := [.int x2, .int 0]) (rest := []) hf (fun v9 h9 => c_X8_get l E h9) rfl hl rfl rfl rfl dX9_countRow_28 ⟨Nat.zero_le _, Nat.zero_le _⟩ (fun v3 hf => ?_)
      refine lv_istore_n (lv' := [(3, .int v3), (0, .ref (q_ad E x0)), (1, .ref (q_ad E x1)), (2, .int x2)]) hx hb dX9_countRow_31 rfl hl (by decide) rfl (fun ls hl => ?_)
      refine lv_aload_n hx hb dX9_countRow_32 rfl (lv_at hl 1 rfl) ?_
      refine q_getR C hj lk_X9_20 dX9_countRow_33 hf (fun v4 hf => ?_)
      refine lv_iconst (v := 0) hx hb dX9_countRow_36 qi_0 ?_
      refine lv_iload_n hx hb dX9_countRow_37 rfl (lv_at hl 0 rfl) ?_
      refine lv_aload_n hx hb dX9_countRow_38 rfl (lv_at hl 1 rfl) ?_
      refine q_getR C hj lk_X9_20 dX9_countRow_39 hf (fun v5 hf => ?_)
      refine lv_iconst (v := 0) hx hb dX9_countRow_42 qi_0 ?_
      refine lv_iload_n hx hb dX9_countRow_43 rfl (lv_at hl 0 rfl) ?_
      refine q_cVRI C hj cw_X9_31 (As := [.int 0, .int v3]) (rest := [.int v3, .int 0, .ref (q_ad E v4)]) hf (fun v9 h9 => c_X8_get l E h9) rfl hl rfl rfl rfl dX9_countRow_44 ⟨Nat.zero_le _, Nat.zero_le _⟩ (fun v6 hf => ?_)
      refine lv_iconst (v := 1) hx hb dX9_countRow_47 qi_1 ?_
      refine lv_aload_n hx hb dX9_countRow_48 rfl (lv_at hl 1 rfl) ?_
      refine q_getR C hj lk_X9_14 dX9_countRow_49 hf (fun v7 hf => ?_)
      refine lv_iconst (v := 0) hx hb dX9_countRow_52 qi_0 ?_
      refine lv_iload_n hx hb dX9_countRow_53 rfl (lv_at hl 3 rfl) ?_
      refine q_cVRI C hj cw_X9_31 (As := [.int 0, .int x2]) (rest := [.int 1, .int v6, .int v3, .int 0, .ref (q_ad E v4)]) hf (fun v9 h9 => c_X8_get l E h9) rfl hl rfl rfl rfl dX9_countRow_54 ⟨Nat.zero_le _, Nat.zero_le _⟩ (fun v8 hf => ?_)
      refine lv_ishl hx hb dX9_countRow_57 ?_
      refine lv_ior hx hb dX9_countRow_58 ?_
      refine q_cVWV C hj cw_X9_63 (As := [.int 0, .int v3, .int (v6 ||| (1 <<< (v8 &&& 31)))]) (rest := []) hf (fun g9 h9 => c_X8_set l E h9) rfl hl rfl rfl rfl dX9_countRow_59 ⟨Nat.zero_le _, Nat.zero_le _⟩ (fun g9 H locs hj hf => ?_)
      refine lv_iinc (v := x2 + 1) (lv' := [(2, .int (x2 + 1)), (3, .int v3), (0, .ref (q_ad E x0)), (1, .ref (q_ad E x1))]) hx hb dX9_countRow_62 hl (k := 3) rfl (by rw [qi_1]) (by decide) rfl (fun ls hl => ?_)
      refine lv_goto (tgt := 12) hx hb dX9_countRow_65 (by decide) ?_
      exact ih _ _ _ _ _ _ ls hj (lv_sub hl [2, 3, 0] rfl) hf
def f_X9_countRow (g : qS) (a0 : Nat) (a1 : Nat) : Option qS := (g_C g a0 8).bind fun _ => (g_I g a0 8 3).bind fun v1 => (p_I g a0 8 3 (v1 + 1)).bind fun g2 => L_X9_countRow_12 1000000000 a0 a1 0 g2
set_option maxHeartbeats 4000000 in
set_option maxRecDepth 100000 in
theorem c_X9_countRow (l : Launch) (E : qV) {g : qS} {a0 : Nat} {a1 : Nat} {res : qS} (hf : f_X9_countRow g a0 a1 = some res) : q_MW l yX9_countRow cX9_countRow 4 none 2 44 E [.ref (q_ad E a0), .ref (q_ad E a1)] g none res ∧ ∃ fs, g a0 = some (.inr (8, fs)) := by
  unfold f_X9_countRow at hf
  obtain ⟨u9, hu9, hf⟩ := q_ob hf
  refine ⟨q_ofW (by decide) rfl ?_, g_C_sp hu9⟩
  intro p e s m args below meth c ls C hj hl
  have hx := C.1
  have hb := C.2.1
  have C : q_C E p s m args meth c cX9_countRow RX9 4 none := C
  have hl : lv_has ls 4 [(0, .ref (q_ad E a0)), (1, .ref (q_ad E a1))] := hl
  refine lv_aload_n hx hb dX9_countRow_0 rfl (lv_at hl 0 rfl) ?_
  refine lv_dup hx hb dX9_countRow_1 rfl ?_
  refine q_getI C hj lk_X9_27 dX9_countRow_2 hf (fun v1 hf => ?_)
  refine lv_iconst (v := 1) hx hb dX9_countRow_5 qi_1 ?_
  refine lv_iadd hx hb dX9_countRow_6 ?_
  refine q_putI C hj fp_X9_27 dX9_countRow_7 hf (fun g2 H locs hj hf => ?_)
  refine lv_iconst (v := 0) hx hb dX9_countRow_10 qi_0 ?_
  refine lv_istore_n (lv' := [(2, .int 0), (0, .ref (q_ad E a0)), (1, .ref (q_ad E a1))]) hx hb dX9_countRow_11 rfl hl (by decide) rfl (fun ls hl => ?_)
  refine w_L_X9_countRow_12 C  hj (lv_sub hl [1, 2, 0] rfl) hf
def L_X9_choose_59 (fr : qS → Nat → Nat → Int32 → Int32 → Option qS) (k132 : Nat → Nat → Int32 → Int32 → Int32 → Int32 → Int32 → qS → Option qS) : Nat → Nat → Nat → Int32 → Int32 → Int32 → Int32 → Int32 → Int32 → qS → Option qS
  | 0, _, _, _, _, _, _, _, _, _ => none
  | n + 1, x0, x1, x2, x3, x4, x5, x6, x7, g => (f_X3_count g x1 5).bind fun v1 => if v1 ≤ x7 then (k132 x0 x1 x2 x3 x4 x5 x6 g) else (if (x3 &&& (1 <<< (((x6 * 3) + x7) &&& 31))) = 0 then ((f_X3_canGive g x1 x6 x7 x4 x5 0).bind fun v2 => if v2 = 0 then (L_X9_choose_59 fr k132 n x0 x1 x2 x3 x4 x5 x6 (x7 + 1) g) else ((g_R g x0 8 0).bind fun v3 => (f_X8_set g v3 0 x2 x7).bind fun g4 => (fr g4 x0 x1 (x2 + 1) (x3 ||| (1 <<< (((x6 * 3) + x7) &&& 31)))).bind fun g5 => L_X9_choose_59 fr k132 n x0 x1 x2 x3 x4 x5 x6 (x7 + 1) g5)) else (L_X9_choose_59 fr k132 n x0 x1 x2 x3 x4 x5 x6 (x7 + 1) g))
set_option maxHeartbeats 4000000 in
set_option maxRecDepth 100000 in
theorem w_L_X9_choose_59 {l : Launch} {E : qV} {p : Program} {e : Env} {s : State} {m : MethodId} {args : Array Value} {below : List Frame} {meth : Method} {c : Code} {d : Nat} {fr : qS → Nat → Nat → Int32 → Int32 → Option qS} {k132 : Nat → Nat → Int32 → Int32 → Int32 → Int32 → Int32 → qS → Option qS} {res : qS} (C : q_C E p s m args meth c cX9_choose RX9 9 none) (hr : ∀ {g : qS} {a0 : Nat} {a1 : Nat} {a2 : Int32} {a3 : Int32} {res : qS}, fr g a0 a1 a2 a3 = some res → q_MW l yX9_choose cX9_choose 9 none (d + 3) (d * 28 + 78) E [.ref (q_ad E a0), .ref (q_ad E a1), .int a2, .int a3] g none res ∧ ∃ fs, g a0 = some (.inr (8, fs))) (hk132 : ∀ (x0 : Nat) (x1 : Nat) (x2 : Int32) (x3 : Int32) (x4 : Int32) (x5 : Int32) (x6 : Int32) (g : qS) (H : Heap) (locs : List Loc) (ls : Array Slot), q_J E s g H locs → lv_has ls 9 [(0, .ref (q_ad E x0)), (1, .ref (q_ad E x1)), (2, .int x2), (3, .int x3), (4, .int x4), (5, .int x5), (6, .int x6)] → k132 x0 x1 x2 x3 x4 x5 x6 g = some res → W p l e (q_rm (d + 1 + 3) ((d + 1) * 28 + 78)) s m args below meth c H locs 0 0 (q_ZW E below none res args s) (F0 m 132 ls [])) : ∀ {n : Nat} {x0 : Nat} {x1 : Nat} {x2 : Int32} {x3 : Int32} {x4 : Int32} {x5 : Int32} {x6 : Int32} {x7 : Int32} {g : qS} {H : Heap} {locs : List Loc} {ls : Array Slot}, q_J E s g H locs → lv_has ls 9 [(0, .ref (q_ad E x0)), (1, .ref (q_ad E x1)), (2, .int x2), (3, .int x3), (4, .int x4), (5, .int x5), (6, .int x6), (7, .int x7)] → L_X9_choose_59 fr k132 n x0 x1 x2 x3 x4 x5 x6 x7 g = some res → W p l e (q_rm (d + 1 + 3) ((d + 1) * 28 + 78)) s m args below meth c H locs 0 0 (q_ZW E below none res args s) (F0 m 59 ls []) := by
  have hx := C.1
  have hb := C.2.1
  intro n
  induction n with
  | zero =>
    intro x0 x1 x2 x3 x4 x5 x6 x7 g H locs ls hj hl hf
    cases hf
  | succ n ih_ =>
    intro x0 x1 x2 x3 x4 x5 x6 x7 g H locs ls hj hl hf
    have ih : ∀ (x0 : Nat) (x1 : Nat) (x2 : Int32) (x3 : Int32) (x4 : Int32) (x5 : Int32) (x6 : Int32) (x7 : Int32) (g : qS) (H : Heap) (locs : List Loc) (ls : Array Slot), q_J E s g H locs → lv_has ls 9 [(0, .ref (q_ad E x0)), (1, .ref (q_ad E x1)), (2, .int x2), (3, .int x3), (4, .int x4), (5, .int x5), (6, .int x6), (7, .int x7)] → L_X9_choose_59 fr k132 n x0 x1 x2 x3 x4 x5 x6 x7 g = some res → W p l e (q_rm (d + 1 + 3) ((d + 1) * 28 + 78)) s m args below meth c H locs 0 0 (q_ZW E below none res args s) (F0 m 59 ls []) := fun x0 x1 x2 x3 x4 x5 x6 x7 g H locs ls hj hl hf => ih_ hj hl hf
    unfold L_X9_choose_59 at hf
    refine lv_iload hx hb dX9_choose_59 (lv_at hl 7 rfl) ?_
    refine lv_aload_n hx hb dX9_choose_61 rfl (lv_at hl 1 rfl) ?_
    refine lv_iconst (v := 5) hx hb dX9_choose_62 qi_5 ?_
    refine q_cVRI C hj cw_X9_47 (As := [.int 5]) (rest := [.int x7]) hf (fun v9 h9 => c_X3_count l E h9) (q_rb1 _ _ rfl rfl) hl rfl rfl rfl dX9_choose_63 ⟨Nat.zero_le _, Nat.zero_le _⟩ (fun v1 hf => ?_)
    refine q_icge C (tgt := 132) dX9_choose_66 (by decide) hf (fun hf => ?_) (fun hf => ?_)
    · exact hk132 _ _ _ _ _ _ _ _ _ _ ls hj (lv_sub hl [0, 1, 2, 3, 4, 5, 6] rfl) hf
    · refine lv_iconst (v := 1) hx hb dX9_choose_69 qi_1 ?_
      refine lv_iload hx hb dX9_choose_70 (lv_at hl 6 rfl) ?_
      refine lv_iconst (v := 3) hx hb dX9_choose_72 qi_3 ?_
      refine lv_imul hx hb dX9_choose_73 ?_
      refine lv_iload hx hb dX9_choose_74 (lv_at hl 7 rfl) ?_
      refine lv_iadd hx hb dX9_choose_76 ?_
      refine lv_ishl hx hb dX9_choose_77 ?_
      refine lv_istore (lv' := [(8, .int (1 <<< (((x6 * 3) + x7) &&& 31))), (0, .ref (q_ad E x0)), (1, .ref (q_ad E x1)), (2, .int x2), (3, .int x3), (4, .int x4), (5, .int x5), (6, .int x6), (7, .int x7)]) hx hb dX9_choose_78 hl (by decide) rfl (fun ls hl => ?_)
      refine lv_iload_n hx hb dX9_choose_80 rfl (lv_at hl 4 rfl) ?_
      refine lv_iload hx hb dX9_choose_81 (lv_at hl 0 rfl) ?_
      refine lv_iand hx hb dX9_choose_83 ?_
      refine q_ifne C (tgt := 126) dX9_choose_84 (by decide) hf (fun hf => ?_) (fun hf => ?_)
      · refine lv_iinc (v := x7 + 1) (lv' := [(7, .int (x7 + 1)), (8, .int (1 <<< (((x6 * 3) + x7) &&& 31))), (0, .ref (q_ad E x0)), (1, .ref (q_ad E x1)), (2, .int x2), (3, .int x3), (4, .int x4), (5, .int x5), (6, .int x6)]) hx hb dX9_choose_126 hl (k := 8) rfl (by rw [qi_1]) (by decide) rfl (fun ls hl => ?_)
        refine lv_goto (tgt := 59) hx hb dX9_choose_129 (by decide) ?_
        exact ih _ _ _ _ _ _ _ _ _ _ _ ls hj (lv_sub hl [2, 3, 4, 5, 6, 7, 8, 0] rfl) hf
      · refine lv_aload_n hx hb dX9_choose_87 rfl (lv_at hl 2 rfl) ?_
        refine lv_iload hx hb dX9_choose_88 (lv_at hl 7 rfl) ?_
        refine lv_iload hx hb dX9_choose_90 (lv_at hl 8 rfl) ?_
        refine lv_iload hx hb dX9_choose_92 (lv_at hl 5 rfl) ?_
        refine lv_iload hx hb dX9_choose_94 (lv_at hl 6 rfl) ?_
        refine lv_iconst (v := 0) hx hb dX9_choose_96 qi_0 ?_
        refine q_cVRI C hj cw_X9_59 (As := [.int x6, .int x7, .int x4, .int x5, .int 0]) (rest := []) hf (fun v9 h9 => c_X3_canGive l E h9) (q_rb1 _ _ rfl rfl) hl rfl rfl rfl dX9_choose_97 ⟨Nat.zero_le _, Nat.zero_le _⟩ (fun v2 hf => ?_)
        refine q_ifeq C (tgt := 126) dX9_choose_100 (by decide) hf (fun hf => ?_) (fun hf => ?_)
        · refine lv_iinc (v := x7 + 1) (lv' := [(7, .int (x7 + 1)), (8, .int (1 <<< (((x6 * 3) + x7) &&& 31))), (0, .ref (q_ad E x0)), (1, .ref (q_ad E x1)), (2, .int x2), (3, .int x3), (4, .int x4), (5, .int x5), (6, .int x6)]) hx hb dX9_choose_126 hl (k := 8) rfl (by rw [qi_1]) (by decide) rfl (fun ls hl => ?_)
          refine lv_goto (tgt := 59) hx hb dX9_choose_129 (by decide) ?_
          exact ih _ _ _ _ _ _ _ _ _ _ _ ls hj (lv_sub hl [2, 3, 4, 5, 6, 7, 8, 0] rfl) hf
        · refine lv_aload_n hx hb dX9_choose_103 rfl (lv_at hl 1 rfl) ?_
          refine q_getR C hj lk_X9_14 dX9_choose_104 hf (fun v3 hf => ?_)
          refine lv_iconst (v := 0) hx hb dX9_choose_107 qi_0 ?_
          refine lv_iload_n hx hb dX9_choose_108 rfl (lv_at hl 3 rfl) ?_
          refine lv_iload hx hb dX9_choose_109 (lv_at hl 8 rfl) ?_
          refine q_cVWV C hj cw_X9_63 (As := [.int 0, .int x2, .int x7]) (rest := []) hf (fun g9 h9 => c_X8_set l E h9) (q_rb1 _ _ rfl rfl) hl rfl rfl rfl dX9_choose_111 ⟨Nat.zero_le _, Nat.zero_le _⟩ (fun g4 H locs hj hf => ?_)
          refine lv_aload_n hx hb dX9_choose_114 rfl (lv_at hl 1 rfl) ?_
          refine lv_aload_n hx hb dX9_choose_115 rfl (lv_at hl 2 rfl) ?_
          refine lv_iload_n hx hb dX9_choose_116 rfl (lv_at hl 3 rfl) ?_
          refine lv_iconst (v := 1) hx hb dX9_choose_117 qi_1 ?_
          refine lv_iadd hx hb dX9_choose_118 ?_
          refine lv_iload_n hx hb dX9_choose_119 rfl (lv_at hl 4 rfl) ?_
          refine lv_iload hx hb dX9_choose_120 (lv_at hl 0 rfl) ?_
          refine lv_ior hx hb dX9_choose_122 ?_
          refine q_cVWV C hj cw_X9_43 (As := [.ref (q_ad E x1), .int (x2 + 1), .int (x3 ||| (1 <<< (((x6 * 3) + x7) &&& 31)))]) (rest := []) hf (fun g9 h9 => hr h9) (q_rb2 _ _ _ _) hl rfl rfl rfl dX9_choose_123 ⟨Nat.zero_le _, Nat.zero_le _⟩ (fun g5 H locs hj hf => ?_)
          refine lv_iinc (v := x7 + 1) (lv' := [(7, .int (x7 + 1)), (8, .int (1 <<< (((x6 * 3) + x7) &&& 31))), (0, .ref (q_ad E x0)), (1, .ref (q_ad E x1)), (2, .int x2), (3, .int x3), (4, .int x4), (5, .int x5), (6, .int x6)]) hx hb dX9_choose_126 hl (k := 8) rfl (by rw [qi_1]) (by decide) rfl (fun ls hl => ?_)
          refine lv_goto (tgt := 59) hx hb dX9_choose_129 (by decide) ?_
          exact ih _ _ _ _ _ _ _ _ _ _ _ ls hj (lv_sub hl [2, 3, 4, 5, 6, 7, 8, 0] rfl) hf
def L_X9_choose_46 (fr : qS → Nat → Nat → Int32 → Int32 → Option qS) : Nat → Nat → Nat → Int32 → Int32 → Int32 → Int32 → Int32 → qS → Option qS
  | 0, _, _, _, _, _, _, _, _ => none
  | n + 1, x0, x1, x2, x3, x4, x5, x6, g => (f_X3_count g x1 0).bind fun v1 => if v1 ≤ x6 then (some g) else (L_X9_choose_59 fr (fun y2 y3 y4 y5 y6 y7 y8 g9 => L_X9_choose_46 fr n y2 y3 y4 y5 y6 y7 (y8 + 1) g9) 1000000000 x0 x1 x2 x3 x4 x5 x6 0 g)
set_option maxHeartbeats 4000000 in
set_option maxRecDepth 100000 in
theorem w_L_X9_choose_46 {l : Launch} {E : qV} {p : Program} {e : Env} {s : State} {m : MethodId} {args : Array Value} {below : List Frame} {meth : Method} {c : Code} {d : Nat} {fr : qS → Nat → Nat → Int32 → Int32 → Option qS} {res : qS} (C : q_C E p s m args meth c cX9_choose RX9 9 none) (hr : ∀ {g : qS} {a0 : Nat} {a1 : Nat} {a2 : Int32} {a3 : Int32} {res : qS}, fr g a0 a1 a2 a3 = some res → q_MW l yX9_choose cX9_choose 9 none (d + 3) (d * 28 + 78) E [.ref (q_ad E a0), .ref (q_ad E a1), .int a2, .int a3] g none res ∧ ∃ fs, g a0 = some (.inr (8, fs))) : ∀ {n : Nat} {x0 : Nat} {x1 : Nat} {x2 : Int32} {x3 : Int32} {x4 : Int32} {x5 : Int32} {x6 : Int32} {g : qS} {H : Heap} {locs : List Loc} {ls : Array Slot}, q_J E s g H locs → lv_has ls 9 [(0, .ref (q_ad E x0)), (1, .ref (q_ad E x1)), (2, .int x2), (3, .int x3), (4, .int x4), (5, .int x5), (6, .int x6)] → L_X9_choose_46 fr n x0 x1 x2 x3 x4 x5 x6 g = some res → W p l e (q_rm (d + 1 + 3) ((d + 1) * 28 + 78)) s m args below meth c H locs 0 0 (q_ZW E below none res args s) (F0 m 46 ls []) := by
  have hx := C.1
  have hb := C.2.1
  intro n
  induction n with
  | zero =>
    intro x0 x1 x2 x3 x4 x5 x6 g H locs ls hj hl hf
    cases hf
  | succ n ih_ =>
    intro x0 x1 x2 x3 x4 x5 x6 g H locs ls hj hl hf
    have ih : ∀ (x0 : Nat) (x1 : Nat) (x2 : Int32) (x3 : Int32) (x4 : Int32) (x5 : Int32) (x6 : Int32) (g : qS) (H : Heap) (locs : List Loc) (ls : Array Slot), q_J E s g H locs → lv_has ls 9 [(0, .ref (q_ad E x0)), (1, .ref (q_ad E x1)), (2, .int x2), (3, .int x3), (4, .int x4), (5, .int x5), (6, .int x6)] → L_X9_choose_46 fr n x0 x1 x2 x3 x4 x5 x6 g = some res → W p l e (q_rm (d + 1 + 3) ((d + 1) * 28 + 78)) s m args below meth c H locs 0 0 (q_ZW E below none res args s) (F0 m 46 ls []) := fun x0 x1 x2 x3 x4 x5 x6 g H locs ls hj hl hf => ih_ hj hl hf
    unfold L_X9_choose_46 at hf
    refine lv_iload hx hb dX9_choose_46 (lv_at hl 6 rfl) ?_
    refine lv_aload_n hx hb dX9_choose_48 rfl (lv_at hl 1 rfl) ?_
    refine lv_iconst (v := 0) hx hb dX9_choose_49 qi_0 ?_
    refine q_cVRI C hj cw_X9_47 (As := [.int 0]) (rest := [.int x6]) hf (fun v9 h9 => c_X3_count l E h9) (q_rb1 _ _ rfl rfl) hl rfl rfl rfl dX9_choose_50 ⟨Nat.zero_le _, Nat.zero_le _⟩ (fun v1 hf => ?_)
    refine q_icge C (tgt := 138) dX9_choose_53 (by decide) hf (fun hf => ?_) (fun hf => ?_)
    · exact q_vretW C hj dX9_choose_138 hf
    · refine lv_iconst (v := 0) hx hb dX9_choose_56 qi_0 ?_
      refine lv_istore (lv' := [(7, .int 0), (0, .ref (q_ad E x0)), (1, .ref (q_ad E x1)), (2, .int x2), (3, .int x3), (4, .int x4), (5, .int x5), (6, .int x6)]) hx hb dX9_choose_57 hl (by decide) rfl (fun ls hl => ?_)
      refine w_L_X9_choose_59 C hr (fun y2 y3 y4 y5 y6 y7 y8 g9 H locs ls hj hl hf => ?_) hj (lv_sub hl [1, 2, 3, 4, 5, 6, 7, 0] rfl) hf
      · refine lv_iinc (v := y8 + 1) (lv' := [(6, .int (y8 + 1)), (0, .ref (q_ad E y2)), (1, .ref (q_ad E y3)), (2, .int y4), (3, .int y5), (4, .int y6), (5, .int y7)]) hx hb dX9_choose_132 hl (k := 6) rfl (by rw [qi_1]) (by decide) rfl (fun ls hl => ?_)
        refine lv_goto (tgt := 46) hx hb dX9_choose_135 (by decide) ?_
        exact ih _ _ _ _ _ _ _ _ _ _ ls hj (lv_sub hl [1, 2, 3, 4, 5, 6, 0] rfl) hf
def f_X9_choose : Nat → qS → Nat → Nat → Int32 → Int32 → Option qS
  | 0, _, _, _, _, _ => none
  | d + 1, g, a0, a1, a2, a3 => (g_C g a0 8).bind fun _ => (f_X3_count g a1 8).bind fun v1 => if v1 ≤ a2 then ((f_X9_countRow g a0 a1).bind fun g2 => some g2) else (if a2 < 4 then ((g_R g a1 2 5).bind fun v3 => (f_X8_get g v3 a2 0).bind fun v4 => (g_R g a1 2 5).bind fun v5 => (f_X8_get g v5 a2 1).bind fun v6 => L_X9_choose_46 (f_X9_choose d) 1000000000 a0 a1 a2 a3 v4 v6 0 g) else ((f_X9_countRow g a0 a1).bind fun g7 => some g7))
set_option maxHeartbeats 4000000 in
set_option maxRecDepth 100000 in
theorem c_X9_choose (l : Launch) (E : qV) : ∀ {d : Nat} {g : qS} {a0 : Nat} {a1 : Nat} {a2 : Int32} {a3 : Int32} {res : qS}, f_X9_choose d g a0 a1 a2 a3 = some res → q_MW l yX9_choose cX9_choose 9 none (d + 3) (d * 28 + 78) E [.ref (q_ad E a0), .ref (q_ad E a1), .int a2, .int a3] g none res ∧ ∃ fs, g a0 = some (.inr (8, fs)) := by
  intro d
  induction d with
  | zero =>
    intro g a0 a1 a2 a3 res hf
    cases hf
  | succ d hr =>
    intro g a0 a1 a2 a3 res hf
    unfold f_X9_choose at hf
    obtain ⟨u9, hu9, hf⟩ := q_ob hf
    refine ⟨q_ofW (by decide) rfl ?_, g_C_sp hu9⟩
    intro p e s m args below meth c ls C hj hl
    have hx := C.1
    have hb := C.2.1
    have C : q_C E p s m args meth c cX9_choose RX9 9 none := C
    have hl : lv_has ls 9 [(0, .ref (q_ad E a0)), (1, .ref (q_ad E a1)), (2, .int a2), (3, .int a3)] := hl
    refine lv_iload_n hx hb dX9_choose_0 rfl (lv_at hl 2 rfl) ?_
    refine lv_aload_n hx hb dX9_choose_1 rfl (lv_at hl 1 rfl) ?_
    refine lv_bipush (v := 8) hx hb dX9_choose_2 (by decide) ?_
    refine q_cVRI C hj cw_X9_47 (As := [.int 8]) (rest := [.int a2]) hf (fun v9 h9 => c_X3_count l E h9) (q_rb1 _ _ rfl rfl) hl rfl rfl rfl dX9_choose_4 ⟨Nat.zero_le _, Nat.zero_le _⟩ (fun v1 hf => ?_)
    refine q_icge C (tgt := 15) dX9_choose_7 (by decide) hf (fun hf => ?_) (fun hf => ?_)
    · refine lv_aload_n hx hb dX9_choose_15 rfl (lv_at hl 0 rfl) ?_
      refine lv_aload_n hx hb dX9_choose_16 rfl (lv_at hl 1 rfl) ?_
      refine q_cVWV C hj cw_X9_52 (As := [.ref (q_ad E a1)]) (rest := []) hf (fun g9 h9 => c_X9_countRow l E h9) (q_rb1 _ _ rfl rfl) hl rfl rfl rfl dX9_choose_17 ⟨Nat.zero_le _, Nat.zero_le _⟩ (fun g2 H locs hj hf => ?_)
      exact q_vretW C hj dX9_choose_20 hf
    · refine lv_iload_n hx hb dX9_choose_10 rfl (lv_at hl 2 rfl) ?_
      refine lv_iconst (v := 4) hx hb dX9_choose_11 qi_4 ?_
      refine q_iclt C (tgt := 21) dX9_choose_12 (by decide) hf (fun hf => ?_) (fun hf => ?_)
      · refine lv_aload_n hx hb dX9_choose_21 rfl (lv_at hl 1 rfl) ?_
        refine q_getR C hj lk_X9_56 dX9_choose_22 hf (fun v3 hf => ?_)
        refine lv_iload_n hx hb dX9_choose_25 rfl (lv_at hl 2 rfl) ?_
        refine lv_iconst (v := 0) hx hb dX9_choose_26 qi_0 ?_
        refine q_cVRI C hj cw_X9_31 (As := [.int a2, .int 0]) (rest := []) hf (fun v9 h9 => c_X8_get l E h9) (q_rb1 _ _ rfl rfl) hl rfl rfl rfl dX9_choose_27 ⟨Nat.zero_le _, Nat.zero_le _⟩ (fun v4 hf => ?_)
        refine lv_istore (lv' := [(4, .int v4), (0, .ref (q_ad E a0)), (1, .ref (q_ad E a1)), (2, .int a2), (3, .int a3)]) hx hb dX9_choose_30 hl (by decide) rfl (fun ls hl => ?_)
        refine lv_aload_n hx hb dX9_choose_32 rfl (lv_at hl 2 rfl) ?_
        refine q_getR C hj lk_X9_56 dX9_choose_33 hf (fun v5 hf => ?_)
        refine lv_iload_n hx hb dX9_choose_36 rfl (lv_at hl 3 rfl) ?_
        refine lv_iconst (v := 1) hx hb dX9_choose_37 qi_1 ?_
        refine q_cVRI C hj cw_X9_31 (As := [.int a2, .int 1]) (rest := []) hf (fun v9 h9 => c_X8_get l E h9) (q_rb1 _ _ rfl rfl) hl rfl rfl rfl dX9_choose_38 ⟨Nat.zero_le _, Nat.zero_le _⟩ (fun v6 hf => ?_)
        refine lv_istore (lv' := [(5, .int v6), (4, .int v4), (0, .ref (q_ad E a0)), (1, .ref (q_ad E a1)), (2, .int a2), (3, .int a3)]) hx hb dX9_choose_41 hl (by decide) rfl (fun ls hl => ?_)
        refine lv_iconst (v := 0) hx hb dX9_choose_43 qi_0 ?_
        refine lv_istore (lv' := [(6, .int 0), (5, .int v6), (4, .int v4), (0, .ref (q_ad E a0)), (1, .ref (q_ad E a1)), (2, .int a2), (3, .int a3)]) hx hb dX9_choose_44 hl (by decide) rfl (fun ls hl => ?_)
        refine w_L_X9_choose_46 C hr  hj (lv_sub hl [3, 4, 5, 6, 2, 1, 0] rfl) hf
      · refine lv_aload_n hx hb dX9_choose_15 rfl (lv_at hl 0 rfl) ?_
        refine lv_aload_n hx hb dX9_choose_16 rfl (lv_at hl 1 rfl) ?_
        refine q_cVWV C hj cw_X9_52 (As := [.ref (q_ad E a1)]) (rest := []) hf (fun g9 h9 => c_X9_countRow l E h9) (q_rb1 _ _ rfl rfl) hl rfl rfl rfl dX9_choose_17 ⟨Nat.zero_le _, Nat.zero_le _⟩ (fun g7 H locs hj hf => ?_)
        exact q_vretW C hj dX9_choose_20 hf
def f_X9_find (g : qS) (a0 : Nat) (a1 : Nat) : Option qS := (g_C g a0 8).bind fun _ => (g_I g a0 8 2).bind fun v1 => if v1 = 0 then ((p_Z g a0 8 2 1).bind fun g2 => (p_I g2 a0 8 3 0).bind fun g3 => (g_R g3 a0 8 1).bind fun v4 => (f_X8_fill g3 v4 0).bind fun g5 => (f_X9_choose 6 g5 a0 a1 0 0).bind fun g6 => some g6) else (some g)
set_option maxHeartbeats 4000000 in
set_option maxRecDepth 100000 in
theorem c_X9_find (l : Launch) (E : qV) {g : qS} {a0 : Nat} {a1 : Nat} {res : qS} (hf : f_X9_find g a0 a1 = some res) : q_MW l yX9_find cX9_find 2 none 10 274 E [.ref (q_ad E a0), .ref (q_ad E a1)] g none res ∧ ∃ fs, g a0 = some (.inr (8, fs)) := by
  unfold f_X9_find at hf
  obtain ⟨u9, hu9, hf⟩ := q_ob hf
  refine ⟨q_ofW (by decide) rfl ?_, g_C_sp hu9⟩
  intro p e s m args below meth c ls C hj hl
  have hx := C.1
  have hb := C.2.1
  have C : q_C E p s m args meth c cX9_find RX9 2 none := C
  have hl : lv_has ls 2 [(0, .ref (q_ad E a0)), (1, .ref (q_ad E a1))] := hl
  refine lv_aload_n hx hb dX9_find_0 rfl (lv_at hl 0 rfl) ?_
  refine q_getI C hj lk_X9_23 dX9_find_1 hf (fun v1 hf => ?_)
  refine q_ifeq C (tgt := 8) dX9_find_4 (by decide) hf (fun hf => ?_) (fun hf => ?_)
  · refine lv_aload_n hx hb dX9_find_8 rfl (lv_at hl 0 rfl) ?_
    refine lv_iconst (v := 1) hx hb dX9_find_9 qi_1 ?_
    refine q_putZ C hj fp_X9_23 dX9_find_10 hf (fun g2 H locs hj hf => ?_)
    refine lv_aload_n hx hb dX9_find_13 rfl (lv_at hl 0 rfl) ?_
    refine lv_iconst (v := 0) hx hb dX9_find_14 qi_0 ?_
    refine q_putI C hj fp_X9_27 dX9_find_15 hf (fun g3 H locs hj hf => ?_)
    refine lv_aload_n hx hb dX9_find_18 rfl (lv_at hl 0 rfl) ?_
    refine q_getR C hj lk_X9_20 dX9_find_19 hf (fun v4 hf => ?_)
    refine lv_iconst (v := 0) hx hb dX9_find_22 qi_0 ?_
    refine q_cVWV C hj cw_X9_39 (As := [.int 0]) (rest := []) hf (fun g9 h9 => c_X8_fill l E h9) rfl hl rfl rfl rfl dX9_find_23 ⟨Nat.zero_le _, Nat.zero_le _⟩ (fun g5 H locs hj hf => ?_)
    refine lv_aload_n hx hb dX9_find_26 rfl (lv_at hl 0 rfl) ?_
    refine lv_aload_n hx hb dX9_find_27 rfl (lv_at hl 1 rfl) ?_
    refine lv_iconst (v := 0) hx hb dX9_find_28 qi_0 ?_
    refine lv_iconst (v := 0) hx hb dX9_find_29 qi_0 ?_
    refine q_cVWV C hj cw_X9_43 (As := [.ref (q_ad E a1), .int 0, .int 0]) (rest := []) hf (fun g9 h9 => c_X9_choose l E h9) rfl hl rfl rfl rfl dX9_find_30 ⟨Nat.zero_le _, Nat.zero_le _⟩ (fun g6 H locs hj hf => ?_)
    exact q_vretW C hj dX9_find_33 hf
  · exact q_vretW C hj dX9_find_7 hf
def f_X9_rowCount (g : qS) (a0 : Nat) : Option Int32 := (g_C g a0 8).bind fun _ => (g_I g a0 8 3).bind fun v1 => some v1
set_option maxHeartbeats 4000000 in
set_option maxRecDepth 100000 in
theorem c_X9_rowCount (l : Launch) (E : qV) {g : qS} {a0 : Nat} {res : Int32} (hf : f_X9_rowCount g a0 = some res) : q_MR l yX9_rowCount cX9_rowCount 1 (some .int) 0 0 E [.ref (q_ad E a0)] g (some (.int res)) ∧ ∃ fs, g a0 = some (.inr (8, fs)) := by
  unfold f_X9_rowCount at hf
  obtain ⟨u9, hu9, hf⟩ := q_ob hf
  refine ⟨q_ofR (by decide) rfl ?_, g_C_sp hu9⟩
  intro p e s m args below meth c ls C hw hl
  have hj : q_J E s g s.heap [] := ⟨hw, va_S.rf⟩
  have hx := C.1
  have hb := C.2.1
  have C : q_C E p s m args meth c cX9_rowCount RX9 1 (some .int) := C
  have hl : lv_has ls 1 [(0, .ref (q_ad E a0))] := hl
  refine lv_aload_n hx hb dX9_rowCount_0 rfl (lv_at hl 0 rfl) ?_
  refine q_getI C hj lk_X9_27 dX9_rowCount_1 hf (fun v1 hf => ?_)
  exact q_iretR C dX9_rowCount_4 hf
def f_X9_giversOf (g : qS) (a0 : Nat) (a1 : Int32) : Option Int32 := (g_C g a0 8).bind fun _ => (g_R g a0 8 1).bind fun v1 => (f_X8_get g v1 0 a1).bind fun v2 => some v2
set_option maxHeartbeats 4000000 in
set_option maxRecDepth 100000 in
theorem c_X9_giversOf (l : Launch) (E : qV) {g : qS} {a0 : Nat} {a1 : Int32} {res : Int32} (hf : f_X9_giversOf g a0 a1 = some res) : q_MR l yX9_giversOf cX9_giversOf 2 (some .int) 1 23 E [.ref (q_ad E a0), .int a1] g (some (.int res)) ∧ ∃ fs, g a0 = some (.inr (8, fs)) := by
  unfold f_X9_giversOf at hf
  obtain ⟨u9, hu9, hf⟩ := q_ob hf
  refine ⟨q_ofR (by decide) rfl ?_, g_C_sp hu9⟩
  intro p e s m args below meth c ls C hw hl
  have hj : q_J E s g s.heap [] := ⟨hw, va_S.rf⟩
  have hx := C.1
  have hb := C.2.1
  have C : q_C E p s m args meth c cX9_giversOf RX9 2 (some .int) := C
  have hl : lv_has ls 2 [(0, .ref (q_ad E a0)), (1, .int a1)] := hl
  refine lv_aload_n hx hb dX9_giversOf_0 rfl (lv_at hl 0 rfl) ?_
  refine q_getR C hj lk_X9_20 dX9_giversOf_1 hf (fun v1 hf => ?_)
  refine lv_iconst (v := 0) hx hb dX9_giversOf_4 qi_0 ?_
  refine lv_iload_n hx hb dX9_giversOf_5 rfl (lv_at hl 1 rfl) ?_
  refine q_cVRI C hj cw_X9_31 (As := [.int 0, .int a1]) (rest := []) hf (fun v9 h9 => c_X8_get l E h9) rfl hl rfl rfl rfl dX9_giversOf_6 ⟨Nat.zero_le _, Nat.zero_le _⟩ (fun v2 hf => ?_)
  exact q_iretR C dX9_giversOf_9 hf
def L_X9_onlyGiverOf_2  (g : qS) : Nat → Nat → Int32 → Int32 → Option Int32
  | 0, _, _, _ => none
  | n + 1, x0, x1, x2 => if 3 ≤ x2 then (some (-2)) else ((f_X9_giversOf g x0 x1).bind fun v1 => if v1 = (1 <<< (x2 &&& 31)) then (some x2) else (L_X9_onlyGiverOf_2 g n x0 x1 (x2 + 1)))
set_option maxHeartbeats 4000000 in
set_option maxRecDepth 100000 in
theorem w_L_X9_onlyGiverOf_2 {l : Launch} {E : qV} {p : Program} {e : Env} {s : State} {m : MethodId} {args : Array Value} {below : List Frame} {meth : Method} {c : Code}  {g : qS} {res : Int32} (C : q_C E p s m args meth c cX9_onlyGiverOf RX9 3 (some .int))  : ∀ {n : Nat} {x0 : Nat} {x1 : Int32} {x2 : Int32} {ls : Array Slot}, q_J E s g s.heap [] → lv_has ls 3 [(0, .ref (q_ad E x0)), (1, .int x1), (2, .int x2)] → L_X9_onlyGiverOf_2 g n x0 x1 x2 = some res → W p l e (q_rm 2 44) s m args below meth c s.heap [] 0 0 (q_ZR below (some (.int res)) args s) (F0 m 2 ls []) := by
  have hx := C.1
  have hb := C.2.1
  intro n
  induction n with
  | zero =>
    intro x0 x1 x2 ls hj hl hf
    cases hf
  | succ n ih_ =>
    intro x0 x1 x2 ls hj hl hf
    have ih : ∀ (x0 : Nat) (x1 : Int32) (x2 : Int32) (ls : Array Slot), q_J E s g s.heap [] → lv_has ls 3 [(0, .ref (q_ad E x0)), (1, .int x1), (2, .int x2)] → L_X9_onlyGiverOf_2 g n x0 x1 x2 = some res → W p l e (q_rm 2 44) s m args below meth c s.heap [] 0 0 (q_ZR below (some (.int res)) args s) (F0 m 2 ls []) := fun x0 x1 x2 ls hj hl hf => ih_ hj hl hf
    unfold L_X9_onlyGiverOf_2 at hf
    refine lv_iload_n hx hb dX9_onlyGiverOf_2 rfl (lv_at hl 2 rfl) ?_
    refine lv_iconst (v := 3) hx hb dX9_onlyGiverOf_3 qi_3 ?_
    refine q_icge C (tgt := 26) dX9_onlyGiverOf_4 (by decide) hf (fun hf => ?_) (fun hf => ?_)
    · refine lv_bipush (v := -2) hx hb dX9_onlyGiverOf_26 (by decide) ?_
      exact q_iretR C dX9_onlyGiverOf_28 hf
    · refine lv_aload_n hx hb dX9_onlyGiverOf_7 rfl (lv_at hl 0 rfl) ?_
      refine lv_iload_n hx hb dX9_onlyGiverOf_8 rfl (lv_at hl 1 rfl) ?_
      refine q_cVRI C hj cw_X9_35 (As := [.int x1]) (rest := []) hf (fun v9 h9 => c_X9_giversOf l E h9) rfl hl rfl rfl rfl dX9_onlyGiverOf_9 ⟨Nat.zero_le _, Nat.zero_le _⟩ (fun v1 hf => ?_)
      refine lv_iconst (v := 1) hx hb dX9_onlyGiverOf_12 qi_1 ?_
      refine lv_iload_n hx hb dX9_onlyGiverOf_13 rfl (lv_at hl 2 rfl) ?_
      refine lv_ishl hx hb dX9_onlyGiverOf_14 ?_
      refine q_icne C (tgt := 20) dX9_onlyGiverOf_15 (by decide) hf (fun hf => ?_) (fun hf => ?_)
      · refine lv_iinc (v := x2 + 1) (lv' := [(2, .int (x2 + 1)), (0, .ref (q_ad E x0)), (1, .int x1)]) hx hb dX9_onlyGiverOf_20 hl (k := 2) rfl (by rw [qi_1]) (by decide) rfl (fun ls hl => ?_)
        refine lv_goto (tgt := 2) hx hb dX9_onlyGiverOf_23 (by decide) ?_
        exact ih _ _ _  ls hj (lv_sub hl [1, 2, 0] rfl) hf
      · refine lv_iload_n hx hb dX9_onlyGiverOf_18 rfl (lv_at hl 2 rfl) ?_
        exact q_iretR C dX9_onlyGiverOf_19 hf
def f_X9_onlyGiverOf (g : qS) (a0 : Nat) (a1 : Int32) : Option Int32 := (g_C g a0 8).bind fun _ => L_X9_onlyGiverOf_2 g 1000000000 a0 a1 0
set_option maxHeartbeats 4000000 in
set_option maxRecDepth 100000 in
theorem c_X9_onlyGiverOf (l : Launch) (E : qV) {g : qS} {a0 : Nat} {a1 : Int32} {res : Int32} (hf : f_X9_onlyGiverOf g a0 a1 = some res) : q_MR l yX9_onlyGiverOf cX9_onlyGiverOf 3 (some .int) 2 44 E [.ref (q_ad E a0), .int a1] g (some (.int res)) ∧ ∃ fs, g a0 = some (.inr (8, fs)) := by
  unfold f_X9_onlyGiverOf at hf
  obtain ⟨u9, hu9, hf⟩ := q_ob hf
  refine ⟨q_ofR (by decide) rfl ?_, g_C_sp hu9⟩
  intro p e s m args below meth c ls C hw hl
  have hj : q_J E s g s.heap [] := ⟨hw, va_S.rf⟩
  have hx := C.1
  have hb := C.2.1
  have C : q_C E p s m args meth c cX9_onlyGiverOf RX9 3 (some .int) := C
  have hl : lv_has ls 3 [(0, .ref (q_ad E a0)), (1, .int a1)] := hl
  refine lv_iconst (v := 0) hx hb dX9_onlyGiverOf_0 qi_0 ?_
  refine lv_istore_n (lv' := [(2, .int 0), (0, .ref (q_ad E a0)), (1, .int a1)]) hx hb dX9_onlyGiverOf_1 rfl hl (by decide) rfl (fun ls hl => ?_)
  refine w_L_X9_onlyGiverOf_2 C  hj (lv_sub hl [1, 2, 0] rfl) hf
