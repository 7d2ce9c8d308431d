def f_X12_isFoundThing (g : qS) (a0 : Nat) (a1 : Int32) : Option Int32 := (g_C g a0 11).bind fun _ => (f_X12_isThing g a0 a1).bind fun v1 => if v1 = 0 then (some 0) else ((g_R g a0 11 3).bind fun v2 => (g_R g v2 10 13).bind fun v3 => (a_I g v3 a1).bind fun v4 => if v4 = (-2) then (some 0) else (some 1))
set_option maxHeartbeats 4000000 in
set_option maxRecDepth 100000 in
theorem c_X12_isFoundThing (l : Launch) (E : qV) {g : qS} {a0 : Nat} {a1 : Int32} {res : Int32} (hf : f_X12_isFoundThing g a0 a1 = some res) : q_MR l yX12_isFoundThing cX12_isFoundThing 2 (some .boolean) 1 21 E [.ref (q_ad E a0), .int a1] g (some (.int res)) ∧ ∃ fs, g a0 = some (.inr (11, fs)) := by
  unfold f_X12_isFoundThing at hf
  obtain ⟨u9, hu9, hf⟩ := q_ob hf
  refine ⟨q_ofR (by decide) rfl ?_, g_C_sp hu9⟩
  intro p e s m args below meth c ls C hw hl
  have hj : q_J E s g s.heap [] := ⟨hw, va_S.rf⟩
  have hx := C.1
  have hb := C.2.1
  have C : q_C E p s m args meth c cX12_isFoundThing RX12 2 (some .boolean) := C
  have hl : lv_has ls 2 [(0, .ref (q_ad E a0)), (1, .int a1)] := hl
  refine lv_aload_n hx hb dX12_isFoundThing_0 rfl (lv_at hl 0 rfl) ?_
  refine lv_iload_n hx hb dX12_isFoundThing_1 rfl (lv_at hl 1 rfl) ?_
  refine q_cVRI C hj cw_X12_405 (As := [.int a1]) (rest := []) hf (fun v9 h9 => c_X12_isThing l E h9) rfl hl rfl rfl rfl dX12_isFoundThing_2 ⟨Nat.zero_le _, Nat.zero_le _⟩ (fun v1 hf => ?_)
  refine q_ifeq C (tgt := 26) dX12_isFoundThing_5 (by decide) hf (fun hf => ?_) (fun hf => ?_)
  · refine lv_iconst (v := 0) hx hb dX12_isFoundThing_26 qi_0 ?_
    exact q_z0retR C dX12_isFoundThing_27 hf
  · refine lv_aload_n hx hb dX12_isFoundThing_8 rfl (lv_at hl 0 rfl) ?_
    refine q_getR C hj lk_X12_369 dX12_isFoundThing_9 hf (fun v2 hf => ?_)
    refine q_getR C hj lk_X12_251 dX12_isFoundThing_12 hf (fun v3 hf => ?_)
    refine lv_iload_n hx hb dX12_isFoundThing_15 rfl (lv_at hl 1 rfl) ?_
    refine q_aldI C hj dX12_isFoundThing_16 hf (fun v4 hf => ?_)
    refine lv_bipush (v := -2) hx hb dX12_isFoundThing_17 (by decide) ?_
    refine q_iceq C (tgt := 26) dX12_isFoundThing_19 (by decide) hf (fun hf => ?_) (fun hf => ?_)
    · refine lv_iconst (v := 0) hx hb dX12_isFoundThing_26 qi_0 ?_
      exact q_z0retR C dX12_isFoundThing_27 hf
    · refine lv_iconst (v := 1) hx hb dX12_isFoundThing_22 qi_1 ?_
      refine lv_goto (tgt := 27) hx hb dX12_isFoundThing_23 (by decide) ?_
      exact q_z1retR C dX12_isFoundThing_27 hf
def f_X12_could (g : qS) (a0 : Nat) (a1 : Int32) : Option (Int32 × qS) := (g_C g a0 11).bind fun _ => (p_I g a0 11 0 0).bind fun g1 => (f_X12_isFoundThing g1 a0 a1).bind fun v2 => if v2 = 0 then (q_b2 (f_X12_refused g1 a0 1) fun v9 g8 => some (v9, g8)) else ((f_X12_fitting g1 a0).bind fun g3 => (g_R g3 a0 11 23).bind fun v4 => (a_I g3 v4 a1).bind fun v5 => q_b2 (f_X12_good g3 a0 v5) fun v7 g6 => some (v7, g6))
set_option maxHeartbeats 4000000 in
set_option maxRecDepth 100000 in
theorem c_X12_could (l : Launch) (E : qV) {g : qS} {a0 : Nat} {a1 : Int32} {res : (Int32 × qS)} (hf : f_X12_could g a0 a1 = some res) : q_MW l yX12_could cX12_could 2 (some .int) 7 164 E [.ref (q_ad E a0), .int a1] g (some (.int res.1)) res.2 ∧ ∃ fs, g a0 = some (.inr (11, fs)) := by
  unfold f_X12_could at hf
  obtain ⟨u9, hu9, hf⟩ := q_ob hf
  refine ⟨q_ofW (by decide) rfl ?_, g_C_sp hu9⟩
  intro p e s m args below meth c ls C hj hl
  have hx := C.1
  have hb := C.2.1
  have C : q_C E p s m args meth c cX12_could RX12 2 (some .int) := C
  have hl : lv_has ls 2 [(0, .ref (q_ad E a0)), (1, .int a1)] := hl
  refine lv_aload_n hx hb dX12_could_0 rfl (lv_at hl 0 rfl) ?_
  refine lv_iconst (v := 0) hx hb dX12_could_1 qi_0 ?_
  refine q_putI C hj fp_X12_48 dX12_could_2 hf (fun g1 H locs hj hf => ?_)
  refine lv_aload_n hx hb dX12_could_5 rfl (lv_at hl 0 rfl) ?_
  refine lv_iload_n hx hb dX12_could_6 rfl (lv_at hl 1 rfl) ?_
  refine q_cVRI C hj cw_X12_470 (As := [.int a1]) (rest := []) hf (fun v9 h9 => c_X12_isFoundThing l E h9) rfl hl rfl rfl rfl dX12_could_7 ⟨Nat.zero_le _, Nat.zero_le _⟩ (fun v2 hf => ?_)
  refine q_ifne C (tgt := 19) dX12_could_10 (by decide) hf (fun hf => ?_) (fun hf => ?_)
  · refine lv_aload_n hx hb dX12_could_19 rfl (lv_at hl 0 rfl) ?_
    refine q_cVWV C hj cw_X12_467 (As := []) (rest := []) hf (fun g9 h9 => c_X12_fitting l E h9) rfl hl rfl rfl rfl dX12_could_20 ⟨Nat.zero_le _, Nat.zero_le _⟩ (fun g3 H locs hj hf => ?_)
    refine lv_aload_n hx hb dX12_could_23 rfl (lv_at hl 0 rfl) ?_
    refine lv_aload_n hx hb dX12_could_24 rfl (lv_at hl 0 rfl) ?_
    refine q_getR C hj lk_X12_36 dX12_could_25 hf (fun v4 hf => ?_)
    refine lv_iload_n hx hb dX12_could_28 rfl (lv_at hl 1 rfl) ?_
    refine q_aldI C hj dX12_could_29 hf (fun v5 hf => ?_)
    refine q_cVWI C hj cw_X12_58 (As := [.int v5]) (rest := []) hf (fun v9 g9 h9 => c_X12_good l E h9) rfl hl rfl rfl rfl dX12_could_30 ⟨Nat.zero_le _, Nat.zero_le _⟩ (fun v7 g6 H locs hj hf => ?_)
    exact q_iretW C hj dX12_could_33 hf
  · refine lv_aload_n hx hb dX12_could_13 rfl (lv_at hl 0 rfl) ?_
    refine lv_iconst (v := 1) hx hb dX12_could_14 qi_1 ?_
    refine q_cVWI C hj cw_X12_54 (As := [.int 1]) (rest := []) hf (fun v9 g9 h9 => c_X12_refused l E h9) rfl hl rfl rfl rfl dX12_could_15 ⟨Nat.zero_le _, Nat.zero_le _⟩ (fun v9 g8 H locs hj hf => ?_)
    exact q_iretW C hj dX12_could_18 hf
def L_X12_surely_25  : Nat → Nat → Int32 → Int32 → qS → Option (Int32 × qS)
  | 0, _, _, _, _ => none
  | n + 1, x0, x1, x2, g => (g_R g x0 11 3).bind fun v1 => (g_I g v1 10 5).bind fun v2 => if v2 ≤ x2 then (q_b2 (f_X12_good g x0 (-2)) fun v4 g3 => some (v4, g3)) else ((g_R g x0 11 23).bind fun v5 => (a_I g v5 x1).bind fun v6 => if v6 = (1 <<< (x2 &&& 31)) then (q_b2 (f_X12_good g x0 x2) fun v8 g7 => some (v8, g7)) else (L_X12_surely_25 n x0 x1 (x2 + 1) g))
set_option maxHeartbeats 4000000 in
set_option maxRecDepth 100000 in
theorem w_L_X12_surely_25 {l : Launch} {E : qV} {p : Program} {e : Env} {s : State} {m : MethodId} {args : Array Value} {below : List Frame} {meth : Method} {c : Code}  {res : (Int32 × qS)} (C : q_C E p s m args meth c cX12_surely RX12 3 (some .int))  : ∀ {n : Nat} {x0 : Nat} {x1 : Int32} {x2 : Int32} {g : qS} {H : Heap} {locs : List Loc} {ls : Array Slot}, q_J E s g H locs → lv_has ls 3 [(0, .ref (q_ad E x0)), (1, .int x1), (2, .int x2)] → L_X12_surely_25 n x0 x1 x2 g = some res → W p l e (q_rm 7 164) s m args below meth c H locs 0 0 (q_ZW E below (some (.int res.1)) res.2 args s) (F0 m 25 ls []) := by
  have hx := C.1
  have hb := C.2.1
  intro n
  induction n with
  | zero =>
    intro x0 x1 x2 g H locs ls hj hl hf
    cases hf
  | succ n ih_ =>
    intro x0 x1 x2 g H locs ls hj hl hf
    have ih : ∀ (x0 : Nat) (x1 : Int32) (x2 : Int32) (g : qS) (H : Heap) (locs : List Loc) (ls : Array Slot), q_J E s g H locs → lv_has ls 3 [(0, .ref (q_ad E x0)), (1, .int x1), (2, .int x2)] → L_X12_surely_25 n x0 x1 x2 g = some res → W p l e (q_rm 7 164) s m args below meth c H locs 0 0 (q_ZW E below (some (.int res.1)) res.2 args s) (F0 m 25 ls []) := fun x0 x1 x2 g H locs ls hj hl hf => ih_ hj hl hf
    unfold L_X12_surely_25 at hf
    refine lv_iload_n hx hb dX12_surely_25 rfl (lv_at hl 2 rfl) ?_
    refine lv_aload_n hx hb dX12_surely_26 rfl (lv_at hl 0 rfl) ?_
    refine q_getR C hj lk_X12_369 dX12_surely_27 hf (fun v1 hf => ?_)
    refine q_getI C hj lk_X12_207 dX12_surely_30 hf (fun v2 hf => ?_)
    refine q_icge C (tgt := 60) dX12_surely_33 (by decide) hf (fun hf => ?_) (fun hf => ?_)
    · refine lv_aload_n hx hb dX12_surely_60 rfl (lv_at hl 0 rfl) ?_
      refine lv_bipush (v := -2) hx hb dX12_surely_61 (by decide) ?_
      refine q_cVWI C hj cw_X12_58 (As := [.int (-2)]) (rest := []) hf (fun v9 g9 h9 => c_X12_good l E h9) rfl hl rfl rfl rfl dX12_surely_63 ⟨Nat.zero_le _, Nat.zero_le _⟩ (fun v4 g3 H locs hj hf => ?_)
      exact q_iretW C hj dX12_surely_66 hf
    · refine lv_aload_n hx hb dX12_surely_36 rfl (lv_at hl 0 rfl) ?_
      refine q_getR C hj lk_X12_36 dX12_surely_37 hf (fun v5 hf => ?_)
      refine lv_iload_n hx hb dX12_surely_40 rfl (lv_at hl 1 rfl) ?_
      refine q_aldI C hj dX12_surely_41 hf (fun v6 hf => ?_)
      refine lv_iconst (v := 1) hx hb dX12_surely_42 qi_1 ?_
      refine lv_iload_n hx hb dX12_surely_43 rfl (lv_at hl 2 rfl) ?_
      refine lv_ishl hx hb dX12_surely_44 ?_
      refine q_icne C (tgt := 54) dX12_surely_45 (by decide) hf (fun hf => ?_) (fun hf => ?_)
      · refine lv_iinc (v := x2 + 1) (lv' := [(2, .int (x2 + 1)), (0, .ref (q_ad E x0)), (1, .int x1)]) hx hb dX12_surely_54 hl (k := 2) rfl (by rw [qi_1]) (by decide) rfl (fun ls hl => ?_)
        refine lv_goto (tgt := 25) hx hb dX12_surely_57 (by decide) ?_
        exact ih _ _ _ _ _ _ ls hj (lv_sub hl [1, 2, 0] rfl) hf
      · refine lv_aload_n hx hb dX12_surely_48 rfl (lv_at hl 0 rfl) ?_
        refine lv_iload_n hx hb dX12_surely_49 rfl (lv_at hl 2 rfl) ?_
        refine q_cVWI C hj cw_X12_58 (As := [.int x2]) (rest := []) hf (fun v9 g9 h9 => c_X12_good l E h9) rfl hl rfl rfl rfl dX12_surely_50 ⟨Nat.zero_le _, Nat.zero_le _⟩ (fun v8 g7 H locs hj hf => ?_)
        exact q_iretW C hj dX12_surely_53 hf
def f_X12_surely (g : qS) (a0 : Nat) (a1 : Int32) : Option (Int32 × qS) := (g_C g a0 11).bind fun _ => (p_I g a0 11 0 0).bind fun g1 => (f_X12_isFoundThing g1 a0 a1).bind fun v2 => if v2 = 0 then (q_b2 (f_X12_refused g1 a0 1) fun v5 g4 => some (v5, g4)) else ((f_X12_fitting g1 a0).bind fun g3 => L_X12_surely_25 1000000000 a0 a1 0 g3)
set_option maxHeartbeats 4000000 in
set_option maxRecDepth 100000 in
theorem c_X12_surely (l : Launch) (E : qV) {g : qS} {a0 : Nat} {a1 : Int32} {res : (Int32 × qS)} (hf : f_X12_surely g a0 a1 = some res) : q_MW l yX12_surely cX12_surely 3 (some .int) 7 164 E [.ref (q_ad E a0), .int a1] g (some (.int res.1)) res.2 ∧ ∃ fs, g a0 = some (.inr (11, fs)) := by
  unfold f_X12_surely at hf
  obtain ⟨u9, hu9, hf⟩ := q_ob hf
  refine ⟨q_ofW (by decide) rfl ?_, g_C_sp hu9⟩
  intro p e s m args below meth c ls C hj hl
  have hx := C.1
  have hb := C.2.1
  have C : q_C E p s m args meth c cX12_surely RX12 3 (some .int) := C
  have hl : lv_has ls 3 [(0, .ref (q_ad E a0)), (1, .int a1)] := hl
  refine lv_aload_n hx hb dX12_surely_0 rfl (lv_at hl 0 rfl) ?_
  refine lv_iconst (v := 0) hx hb dX12_surely_1 qi_0 ?_
  refine q_putI C hj fp_X12_48 dX12_surely_2 hf (fun g1 H locs hj hf => ?_)
  refine lv_aload_n hx hb dX12_surely_5 rfl (lv_at hl 0 rfl) ?_
  refine lv_iload_n hx hb dX12_surely_6 rfl (lv_at hl 1 rfl) ?_
  refine q_cVRI C hj cw_X12_470 (As := [.int a1]) (rest := []) hf (fun v9 h9 => c_X12_isFoundThing l E h9) rfl hl rfl rfl rfl dX12_surely_7 ⟨Nat.zero_le _, Nat.zero_le _⟩ (fun v2 hf => ?_)
  refine q_ifne C (tgt := 19) dX12_surely_10 (by decide) hf (fun hf => ?_) (fun hf => ?_)
  · refine lv_aload_n hx hb dX12_surely_19 rfl (lv_at hl 0 rfl) ?_
    refine q_cVWV C hj cw_X12_467 (As := []) (rest := []) hf (fun g9 h9 => c_X12_fitting l E h9) rfl hl rfl rfl rfl dX12_surely_20 ⟨Nat.zero_le _, Nat.zero_le _⟩ (fun g3 H locs hj hf => ?_)
    refine lv_iconst (v := 0) hx hb dX12_surely_23 qi_0 ?_
    refine lv_istore_n (lv' := [(2, .int 0), (0, .ref (q_ad E a0)), (1, .int a1)]) hx hb dX12_surely_24 rfl hl (by decide) rfl (fun ls hl => ?_)
    refine w_L_X12_surely_25 C  hj (lv_sub hl [1, 2, 0] rfl) hf
  · refine lv_aload_n hx hb dX12_surely_13 rfl (lv_at hl 0 rfl) ?_
    refine lv_iconst (v := 1) hx hb dX12_surely_14 qi_1 ?_
    refine q_cVWI C hj cw_X12_54 (As := [.int 1]) (rest := []) hf (fun v9 g9 h9 => c_X12_refused l E h9) rfl hl rfl rfl rfl dX12_surely_15 ⟨Nat.zero_le _, Nat.zero_le _⟩ (fun v5 g4 H locs hj hf => ?_)
    exact q_iretW C hj dX12_surely_18 hf
def L_X12_ranks_15 (k67 : Nat → Int32 → Int32 → qS → Option qS) : Nat → Nat → Int32 → Int32 → qS → Option qS
  | 0, _, _, _, _ => none
  | n + 1, x0, x1, x2, g => if x2 ≤ 0 then (k67 x0 x1 x2 g) else ((g_R g x0 11 3).bind fun v1 => (g_R g v1 10 20).bind fun v2 => (g_R g x0 11 25).bind fun v3 => (a_I g v3 (x2 - 1)).bind fun v4 => (a_I g v2 v4).bind fun v5 => (g_R g x0 11 3).bind fun v6 => (g_R g v6 10 20).bind fun v7 => (a_I g v7 x1).bind fun v8 => if v8 ≤ v5 then (k67 x0 x1 x2 g) else ((g_R g x0 11 25).bind fun v9 => (g_R g x0 11 25).bind fun v10 => (a_I g v10 (x2 - 1)).bind fun v11 => (s_I g v9 x2 v11).bind fun g12 => L_X12_ranks_15 k67 n x0 x1 (x2 + (-1)) g12))
set_option maxHeartbeats 4000000 in
set_option maxRecDepth 100000 in
theorem w_L_X12_ranks_15 {l : Launch} {E : qV} {p : Program} {e : Env} {s : State} {m : MethodId} {args : Array Value} {below : List Frame} {meth : Method} {c : Code} {k67 : Nat → Int32 → Int32 → qS → Option qS} {res : qS} (C : q_C E p s m args meth c cX12_ranks RX12 3 none) (hk67 : ∀ (x0 : Nat) (x1 : Int32) (x2 : Int32) (g : qS) (H : Heap) (locs : List Loc) (ls : Array Slot), q_J E s g H locs → lv_has ls 3 [(0, .ref (q_ad E x0)), (1, .int x1), (2, .int x2)] → k67 x0 x1 x2 g = some res → W p l e (q_rm 0 0) s m args below meth c H locs 0 0 (q_ZW E below none res args s) (F0 m 67 ls [])) : ∀ {n : Nat} {x0 : Nat} {x1 : Int32} {x2 : Int32} {g : qS} {H : Heap} {locs : List Loc} {ls : Array Slot}, q_J E s g H locs → lv_has ls 3 [(0, .ref (q_ad E x0)), (1, .int x1), (2, .int x2)] → L_X12_ranks_15 k67 n x0 x1 x2 g = some res → W p l e (q_rm 0 0) s m args below meth c H locs 0 0 (q_ZW E below none res args s) (F0 m 15 ls []) := by
  have hx := C.1
  have hb := C.2.1
  intro n
  induction n with
  | zero =>
    intro x0 x1 x2 g H locs ls hj hl hf
    cases hf
  | succ n ih_ =>
    intro x0 x1 x2 g H locs ls hj hl hf
    have ih : ∀ (x0 : Nat) (x1 : Int32) (x2 : Int32) (g : qS) (H : Heap) (locs : List Loc) (ls : Array Slot), q_J E s g H locs → lv_has ls 3 [(0, .ref (q_ad E x0)), (1, .int x1), (2, .int x2)] → L_X12_ranks_15 k67 n x0 x1 x2 g = some res → W p l e (q_rm 0 0) s m args below meth c H locs 0 0 (q_ZW E below none res args s) (F0 m 15 ls []) := fun x0 x1 x2 g H locs ls hj hl hf => ih_ hj hl hf
    unfold L_X12_ranks_15 at hf
    refine lv_iload_n hx hb dX12_ranks_15 rfl (lv_at hl 2 rfl) ?_
    refine q_ifle C (tgt := 67) dX12_ranks_16 (by decide) hf (fun hf => ?_) (fun hf => ?_)
    · exact hk67 _ _ _ _ _ _ ls hj (lv_sub hl [0, 1, 2] rfl) hf
    · refine lv_aload_n hx hb dX12_ranks_19 rfl (lv_at hl 0 rfl) ?_
      refine q_getR C hj lk_X12_369 dX12_ranks_20 hf (fun v1 hf => ?_)
      refine q_getR C hj lk_X12_306 dX12_ranks_23 hf (fun v2 hf => ?_)
      refine lv_aload_n hx hb dX12_ranks_26 rfl (lv_at hl 0 rfl) ?_
      refine q_getR C hj lk_X12_39 dX12_ranks_27 hf (fun v3 hf => ?_)
      refine lv_iload_n hx hb dX12_ranks_30 rfl (lv_at hl 2 rfl) ?_
      refine lv_iconst (v := 1) hx hb dX12_ranks_31 qi_1 ?_
      refine lv_isub hx hb dX12_ranks_32 ?_
      refine q_aldI C hj dX12_ranks_33 hf (fun v4 hf => ?_)
      refine q_aldI C hj dX12_ranks_34 hf (fun v5 hf => ?_)
      refine lv_aload_n hx hb dX12_ranks_35 rfl (lv_at hl 0 rfl) ?_
      refine q_getR C hj lk_X12_369 dX12_ranks_36 hf (fun v6 hf => ?_)
      refine q_getR C hj lk_X12_306 dX12_ranks_39 hf (fun v7 hf => ?_)
      refine lv_iload_n hx hb dX12_ranks_42 rfl (lv_at hl 1 rfl) ?_
      refine q_aldI C hj dX12_ranks_43 hf (fun v8 hf => ?_)
      refine q_icge C (tgt := 67) dX12_ranks_44 (by decide) hf (fun hf => ?_) (fun hf => ?_)
      · exact hk67 _ _ _ _ _ _ ls hj (lv_sub hl [0, 1, 2] rfl) hf
      · refine lv_aload_n hx hb dX12_ranks_47 rfl (lv_at hl 0 rfl) ?_
        refine q_getR C hj lk_X12_39 dX12_ranks_48 hf (fun v9 hf => ?_)
        refine lv_iload_n hx hb dX12_ranks_51 rfl (lv_at hl 2 rfl) ?_
        refine lv_aload_n hx hb dX12_ranks_52 rfl (lv_at hl 0 rfl) ?_
        refine q_getR C hj lk_X12_39 dX12_ranks_53 hf (fun v10 hf => ?_)
        refine lv_iload_n hx hb dX12_ranks_56 rfl (lv_at hl 2 rfl) ?_
        refine lv_iconst (v := 1) hx hb dX12_ranks_57 qi_1 ?_
        refine lv_isub hx hb dX12_ranks_58 ?_
        refine q_aldI C hj dX12_ranks_59 hf (fun v11 hf => ?_)
        refine q_astI C hj dX12_ranks_60 hf (fun g12 H locs hj hf => ?_)
        refine lv_iinc (v := x2 + (-1)) (lv' := [(2, .int (x2 + (-1))), (0, .ref (q_ad E x0)), (1, .int x1)]) hx hb dX12_ranks_61 hl (k := 2) rfl (by rw [qi_m1]) (by decide) rfl (fun ls hl => ?_)
        refine lv_goto (tgt := 15) hx hb dX12_ranks_64 (by decide) ?_
        exact ih _ _ _ _ _ _ ls hj (lv_sub hl [1, 2, 0] rfl) hf
def L_X12_ranks_2  : Nat → Nat → Int32 → qS → Option qS
  | 0, _, _, _ => none
  | n + 1, x0, x1, g => (g_R g x0 11 3).bind fun v1 => (g_I g v1 10 4).bind fun v2 => if v2 ≤ x1 then (some g) else (L_X12_ranks_15 (fun y3 y4 y5 g6 => (g_R g6 y3 11 25).bind fun v7 => (s_I g6 v7 y5 y4).bind fun g8 => L_X12_ranks_2 n y3 (y4 + 1) g8) 1000000000 x0 x1 x1 g)
set_option maxHeartbeats 4000000 in
set_option maxRecDepth 100000 in
theorem w_L_X12_ranks_2 {l : Launch} {E : qV} {p : Program} {e : Env} {s : State} {m : MethodId} {args : Array Value} {below : List Frame} {meth : Method} {c : Code}  {res : qS} (C : q_C E p s m args meth c cX12_ranks RX12 3 none)  : ∀ {n : Nat} {x0 : Nat} {x1 : Int32} {g : qS} {H : Heap} {locs : List Loc} {ls : Array Slot}, q_J E s g H locs → lv_has ls 3 [(0, .ref (q_ad E x0)), (1, .int x1)] → L_X12_ranks_2 n x0 x1 g = some res → W p l e (q_rm 0 0) s m args below meth c H locs 0 0 (q_ZW E below none res args s) (F0 m 2 ls []) := by
  have hx := C.1
  have hb := C.2.1
  intro n
  induction n with
  | zero =>
    intro x0 x1 g H locs ls hj hl hf
    cases hf
  | succ n ih_ =>
    intro x0 x1 g H locs ls hj hl hf
    have ih : ∀ (x0 : Nat) (x1 : Int32) (g : qS) (H : Heap) (locs : List Loc) (ls : Array Slot), q_J E s g H locs → lv_has ls 3 [(0, .ref (q_ad E x0)), (1, .int x1)] → L_X12_ranks_2 n x0 x1 g = some res → W p l e (q_rm 0 0) s m args below meth c H locs 0 0 (q_ZW E below none res args s) (F0 m 2 ls []) := fun x0 x1 g H locs ls hj hl hf => ih_ hj hl hf
    unfold L_X12_ranks_2 at hf
    refine lv_iload_n hx hb dX12_ranks_2 rfl (lv_at hl 1 rfl) ?_
    refine lv_aload_n hx hb dX12_ranks_3 rfl (lv_at hl 0 rfl) ?_
    refine q_getR C hj lk_X12_369 dX12_ranks_4 hf (fun v1 hf => ?_)
    refine q_getI C hj lk_X12_297 dX12_ranks_7 hf (fun v2 hf => ?_)
    refine q_icge C (tgt := 80) dX12_ranks_10 (by decide) hf (fun hf => ?_) (fun hf => ?_)
    · exact q_vretW C hj dX12_ranks_80 hf
    · refine lv_iload_n hx hb dX12_ranks_13 rfl (lv_at hl 1 rfl) ?_
      refine lv_istore_n (lv' := [(2, .int x1), (0, .ref (q_ad E x0)), (1, .int x1)]) hx hb dX12_ranks_14 rfl hl (by decide) rfl (fun ls hl => ?_)
      refine w_L_X12_ranks_15 C (fun y3 y4 y5 g6 H locs ls hj hl hf => ?_) hj (lv_sub hl [1, 2, 0] rfl) hf
      · refine lv_aload_n hx hb dX12_ranks_67 rfl (lv_at hl 0 rfl) ?_
        refine q_getR C hj lk_X12_39 dX12_ranks_68 hf (fun v7 hf => ?_)
        refine lv_iload_n hx hb dX12_ranks_71 rfl (lv_at hl 2 rfl) ?_
        refine lv_iload_n hx hb dX12_ranks_72 rfl (lv_at hl 1 rfl) ?_
        refine q_astI C hj dX12_ranks_73 hf (fun g8 H locs hj hf => ?_)
        refine lv_iinc (v := y4 + 1) (lv' := [(1, .int (y4 + 1)), (0, .ref (q_ad E y3)), (2, .int y5)]) hx hb dX12_ranks_74 hl (k := 1) rfl (by rw [qi_1]) (by decide) rfl (fun ls hl => ?_)
        refine lv_goto (tgt := 2) hx hb dX12_ranks_77 (by decide) ?_
        exact ih _ _ _ _ _ ls hj (lv_sub hl [1, 0] rfl) hf
def f_X12_ranks (g : qS) (a0 : Nat) : Option qS := (g_C g a0 11).bind fun _ => L_X12_ranks_2 1000000000 a0 0 g
set_option maxHeartbeats 4000000 in
set_option maxRecDepth 100000 in
theorem c_X12_ranks (l : Launch) (E : qV) {g : qS} {a0 : Nat} {res : qS} (hf : f_X12_ranks g a0 = some res) : q_MW l yX12_ranks cX12_ranks 3 none 0 0 E [.ref (q_ad E a0)] g none res ∧ ∃ fs, g a0 = some (.inr (11, fs)) := by
  unfold f_X12_ranks at hf
  obtain ⟨u9, hu9, hf⟩ := q_ob hf
  refine ⟨q_ofW (by decide) rfl ?_, g_C_sp hu9⟩
  intro p e s m args below meth c ls C hj hl
  have hx := C.1
  have hb := C.2.1
  have C : q_C E p s m args meth c cX12_ranks RX12 3 none := C
  have hl : lv_has ls 3 [(0, .ref (q_ad E a0))] := hl
  refine lv_iconst (v := 0) hx hb dX12_ranks_0 qi_0 ?_
  refine lv_istore_n (lv' := [(1, .int 0), (0, .ref (q_ad E a0))]) hx hb dX12_ranks_1 rfl hl (by decide) rfl (fun ls hl => ?_)
  refine w_L_X12_ranks_2 C  hj (lv_sub hl [1, 0] rfl) hf
def L_X12_productOf_5  (g : qS) : Nat → Nat → Int32 → Int64 → Int32 → Option Int64
  | 0, _, _, _, _ => none
  | n + 1, x0, x1, x2, x4 => if x1 ≤ x4 then (some x2) else ((g_R g x0 11 3).bind fun v1 => (g_R g v1 10 20).bind fun v2 => (g_R g x0 11 25).bind fun v3 => (a_I g v3 x4).bind fun v4 => (a_I g v2 v4).bind fun v5 => L_X12_productOf_5 g n x0 x1 (x2 * v5.toInt64) (x4 + 1))
set_option maxHeartbeats 4000000 in
set_option maxRecDepth 100000 in
theorem w_L_X12_productOf_5 {l : Launch} {E : qV} {p : Program} {e : Env} {s : State} {m : MethodId} {args : Array Value} {below : List Frame} {meth : Method} {c : Code}  {g : qS} {res : Int64} (C : q_C E p s m args meth c cX12_productOf RX12 5 (some .long))  : ∀ {n : Nat} {x0 : Nat} {x1 : Int32} {x2 : Int64} {x4 : Int32} {ls : Array Slot}, q_J E s g s.heap [] → lv_has ls 5 [(0, .ref (q_ad E x0)), (1, .int x1), (2, .long x2), (4, .int x4)] → L_X12_productOf_5 g n x0 x1 x2 x4 = some res → W p l e (q_rm 0 0) s m args below meth c s.heap [] 0 0 (q_ZR below (some (.long res)) args s) (F0 m 5 ls []) := by
  have hx := C.1
  have hb := C.2.1
  intro n
  induction n with
  | zero =>
    intro x0 x1 x2 x4 ls hj hl hf
    cases hf
  | succ n ih_ =>
    intro x0 x1 x2 x4 ls hj hl hf
    have ih : ∀ (x0 : Nat) (x1 : Int32) (x2 : Int64) (x4 : Int32) (ls : Array Slot), q_J E s g s.heap [] → lv_has ls 5 [(0, .ref (q_ad E x0)), (1, .int x1), (2, .long x2), (4, .int x4)] → L_X12_productOf_5 g n x0 x1 x2 x4 = some res → W p l e (q_rm 0 0) s m args below meth c s.heap [] 0 0 (q_ZR below (some (.long res)) args s) (F0 m 5 ls []) := fun x0 x1 x2 x4 ls hj hl hf => ih_ hj hl hf
    unfold L_X12_productOf_5 at hf
    refine lv_iload hx hb dX12_productOf_5 (lv_at hl 3 rfl) ?_
    refine lv_iload_n hx hb dX12_productOf_7 rfl (lv_at hl 1 rfl) ?_
    refine q_icge C (tgt := 36) dX12_productOf_8 (by decide) hf (fun hf => ?_) (fun hf => ?_)
    · refine lv_lload_n hx hb dX12_productOf_36 rfl (lv_at hl 2 rfl) ?_
      exact q_lretR C dX12_productOf_37 hf
    · refine lv_lload_n hx hb dX12_productOf_11 rfl (lv_at hl 2 rfl) ?_
      refine lv_aload_n hx hb dX12_productOf_12 rfl (lv_at hl 0 rfl) ?_
      refine q_getR C hj lk_X12_369 dX12_productOf_13 hf (fun v1 hf => ?_)
      refine q_getR C hj lk_X12_306 dX12_productOf_16 hf (fun v2 hf => ?_)
      refine lv_aload_n hx hb dX12_productOf_19 rfl (lv_at hl 0 rfl) ?_
      refine q_getR C hj lk_X12_39 dX12_productOf_20 hf (fun v3 hf => ?_)
      refine lv_iload hx hb dX12_productOf_23 (lv_at hl 3 rfl) ?_
      refine q_aldI C hj dX12_productOf_25 hf (fun v4 hf => ?_)
      refine q_aldI C hj dX12_productOf_26 hf (fun v5 hf => ?_)
      refine lv_i2l hx hb dX12_productOf_27 rfl ?_
      refine lv_lmul hx hb dX12_productOf_28 ?_
      refine lv_lstore_n (lv' := [(2, .long (x2 * v5.toInt64)), (0, .ref (q_ad E x0)), (1, .int x1), (4, .int x4)]) hx hb dX12_productOf_29 rfl hl (by decide) rfl (fun ls hl => ?_)
      refine lv_iinc (v := x4 + 1) (lv' := [(4, .int (x4 + 1)), (2, .long (x2 * v5.toInt64)), (0, .ref (q_ad E x0)), (1, .int x1)]) hx hb dX12_productOf_30 hl (k := 3) rfl (by rw [qi_1]) (by decide) rfl (fun ls hl => ?_)
      refine lv_goto (tgt := 5) hx hb dX12_productOf_33 (by decide) ?_
      exact ih _ _ _ _  ls hj (lv_sub hl [2, 3, 1, 0] rfl) hf
def f_X12_productOf (g : qS) (a0 : Nat) (a1 : Int32) : Option Int64 := (g_C g a0 11).bind fun _ => L_X12_productOf_5 g 1000000000 a0 a1 1 0
set_option maxHeartbeats 4000000 in
set_option maxRecDepth 100000 in
theorem c_X12_productOf (l : Launch) (E : qV) {g : qS} {a0 : Nat} {a1 : Int32} {res : Int64} (hf : f_X12_productOf g a0 a1 = some res) : q_MR l yX12_productOf cX12_productOf 5 (some .long) 0 0 E [.ref (q_ad E a0), .int a1] g (some (.long res)) ∧ ∃ fs, g a0 = some (.inr (11, fs)) := by
  unfold f_X12_productOf at hf
  obtain ⟨u9, hu9, hf⟩ := q_ob hf
  refine ⟨q_ofR (by decide) rfl ?_, g_C_sp hu9⟩
  intro p e s m args below meth c ls C hw hl
  have hj : q_J E s g s.heap [] := ⟨hw, va_S.rf⟩
  have hx := C.1
  have hb := C.2.1
  have C : q_C E p s m args meth c cX12_productOf RX12 5 (some .long) := C
  have hl : lv_has ls 5 [(0, .ref (q_ad E a0)), (1, .int a1)] := hl
  refine lv_lconst (v := 1) hx hb dX12_productOf_0 (by decide) ?_
  refine lv_lstore_n (lv' := [(2, .long 1), (0, .ref (q_ad E a0)), (1, .int a1)]) hx hb dX12_productOf_1 rfl hl (by decide) rfl (fun ls hl => ?_)
  refine lv_iconst (v := 0) hx hb dX12_productOf_2 qi_0 ?_
  refine lv_istore (lv' := [(4, .int 0), (2, .long 1), (0, .ref (q_ad E a0)), (1, .int a1)]) hx hb dX12_productOf_3 hl (by decide) rfl (fun ls hl => ?_)
  refine w_L_X12_productOf_5 C  hj (lv_sub hl [2, 3, 1, 0] rfl) hf
def L_X12_sumOf_5  (g : qS) : Nat → Nat → Int32 → Int64 → Int32 → Option Int64
  | 0, _, _, _, _ => none
  | n + 1, x0, x1, x2, x4 => if x1 ≤ x4 then (some x2) else ((f_X12_productOf g x0 x1).bind fun v1 => (g_R g x0 11 3).bind fun v2 => (g_R g v2 10 20).bind fun v3 => (g_R g x0 11 25).bind fun v4 => (a_I g v4 x4).bind fun v5 => (a_I g v3 v5).bind fun v6 => if (v6.toInt64 : Int64) = 0 then none else (L_X12_sumOf_5 g n x0 x1 (x2 + (v1 / v6.toInt64)) (x4 + 1)))
set_option maxHeartbeats 4000000 in
set_option maxRecDepth 100000 in
theorem w_L_X12_sumOf_5 {l : Launch} {E : qV} {p : Program} {e : Env} {s : State} {m : MethodId} {args : Array Value} {below : List Frame} {meth : Method} {c : Code}  {g : qS} {res : Int64} (C : q_C E p s m args meth c cX12_sumOf RX12 5 (some .long))  : ∀ {n : Nat} {x0 : Nat} {x1 : Int32} {x2 : Int64} {x4 : Int32} {ls : Array Slot}, q_J E s g s.heap [] → lv_has ls 5 [(0, .ref (q_ad E x0)), (1, .int x1), (2, .long x2), (4, .int x4)] → L_X12_sumOf_5 g n x0 x1 x2 x4 = some res → W p l e (q_rm 1 24) s m args below meth c s.heap [] 0 0 (q_ZR below (some (.long res)) args s) (F0 m 5 ls []) := by
  have hx := C.1
  have hb := C.2.1
  intro n
  induction n with
  | zero =>
    intro x0 x1 x2 x4 ls hj hl hf
    cases hf
  | succ n ih_ =>
    intro x0 x1 x2 x4 ls hj hl hf
    have ih : ∀ (x0 : Nat) (x1 : Int32) (x2 : Int64) (x4 : Int32) (ls : Array Slot), q_J E s g s.heap [] → lv_has ls 5 [(0, .ref (q_ad E x0)), (1, .int x1), (2, .long x2), (4, .int x4)] → L_X12_sumOf_5 g n x0 x1 x2 x4 = some res → W p l e (q_rm 1 24) s m args below meth c s.heap [] 0 0 (q_ZR below (some (.long res)) args s) (F0 m 5 ls []) := fun x0 x1 x2 x4 ls hj hl hf => ih_ hj hl hf
    unfold L_X12_sumOf_5 at hf
    refine lv_iload hx hb dX12_sumOf_5 (lv_at hl 3 rfl) ?_
    refine lv_iload_n hx hb dX12_sumOf_7 rfl (lv_at hl 1 rfl) ?_
    refine q_icge C (tgt := 42) dX12_sumOf_8 (by decide) hf (fun hf => ?_) (fun hf => ?_)
    · refine lv_lload_n hx hb dX12_sumOf_42 rfl (lv_at hl 2 rfl) ?_
      exact q_lretR C dX12_sumOf_43 hf
    · refine lv_lload_n hx hb dX12_sumOf_11 rfl (lv_at hl 2 rfl) ?_
      refine lv_aload_n hx hb dX12_sumOf_12 rfl (lv_at hl 0 rfl) ?_
      refine lv_iload_n hx hb dX12_sumOf_13 rfl (lv_at hl 1 rfl) ?_
      refine q_cVRL C hj cw_X12_473 (As := [.int x1]) (rest := [.long x2]) hf (fun v9 h9 => c_X12_productOf l E h9) rfl hl rfl rfl rfl dX12_sumOf_14 ⟨Nat.zero_le _, Nat.zero_le _⟩ (fun v1 hf => ?_)
      refine lv_aload_n hx hb dX12_sumOf_17 rfl (lv_at hl 0 rfl) ?_
      refine q_getR C hj lk_X12_369 dX12_sumOf_18 hf (fun v2 hf => ?_)
      refine q_getR C hj lk_X12_306 dX12_sumOf_21 hf (fun v3 hf => ?_)
      refine lv_aload_n hx hb dX12_sumOf_24 rfl (lv_at hl 0 rfl) ?_
      refine q_getR C hj lk_X12_39 dX12_sumOf_25 hf (fun v4 hf => ?_)
      refine lv_iload hx hb dX12_sumOf_28 (lv_at hl 3 rfl) ?_
      refine q_aldI C hj dX12_sumOf_30 hf (fun v5 hf => ?_)
      refine q_aldI C hj dX12_sumOf_31 hf (fun v6 hf => ?_)
      refine lv_i2l hx hb dX12_sumOf_32 rfl ?_
      refine q_ldiv C dX12_sumOf_33 hf (fun hf => ?_)
      refine lv_ladd hx hb dX12_sumOf_34 ?_
      refine lv_lstore_n (lv' := [(2, .long (x2 + (v1 / v6.toInt64))), (0, .ref (q_ad E x0)), (1, .int x1), (4, .int x4)]) hx hb dX12_sumOf_35 rfl hl (by decide) rfl (fun ls hl => ?_)
      refine lv_iinc (v := x4 + 1) (lv' := [(4, .int (x4 + 1)), (2, .long (x2 + (v1 / v6.toInt64))), (0, .ref (q_ad E x0)), (1, .int x1)]) hx hb dX12_sumOf_36 hl (k := 3) rfl (by rw [qi_1]) (by decide) rfl (fun ls hl => ?_)
      refine lv_goto (tgt := 5) hx hb dX12_sumOf_39 (by decide) ?_
      exact ih _ _ _ _  ls hj (lv_sub hl [2, 3, 1, 0] rfl) hf
def f_X12_sumOf (g : qS) (a0 : Nat) (a1 : Int32) : Option Int64 := (g_C g a0 11).bind fun _ => L_X12_sumOf_5 g 1000000000 a0 a1 0 0
set_option maxHeartbeats 4000000 in
set_option maxRecDepth 100000 in
theorem c_X12_sumOf (l : Launch) (E : qV) {g : qS} {a0 : Nat} {a1 : Int32} {res : Int64} (hf : f_X12_sumOf g a0 a1 = some res) : q_MR l yX12_sumOf cX12_sumOf 5 (some .long) 1 24 E [.ref (q_ad E a0), .int a1] g (some (.long res)) ∧ ∃ fs, g a0 = some (.inr (11, fs)) := by
  unfold f_X12_sumOf at hf
  obtain ⟨u9, hu9, hf⟩ := q_ob hf
  refine ⟨q_ofR (by decide) rfl ?_, g_C_sp hu9⟩
  intro p e s m args below meth c ls C hw hl
  have hj : q_J E s g s.heap [] := ⟨hw, va_S.rf⟩
  have hx := C.1
  have hb := C.2.1
  have C : q_C E p s m args meth c cX12_sumOf RX12 5 (some .long) := C
  have hl : lv_has ls 5 [(0, .ref (q_ad E a0)), (1, .int a1)] := hl
  refine lv_lconst (v := 0) hx hb dX12_sumOf_0 (by decide) ?_
  refine lv_lstore_n (lv' := [(2, .long 0), (0, .ref (q_ad E a0)), (1, .int a1)]) hx hb dX12_sumOf_1 rfl hl (by decide) rfl (fun ls hl => ?_)
  refine lv_iconst (v := 0) hx hb dX12_sumOf_2 qi_0 ?_
  refine lv_istore (lv' := [(4, .int 0), (2, .long 0), (0, .ref (q_ad E a0)), (1, .int a1)]) hx hb dX12_sumOf_3 hl (by decide) rfl (fun ls hl => ?_)
  refine w_L_X12_sumOf_5 C  hj (lv_sub hl [2, 3, 1, 0] rfl) hf
def L_X12_lots_21  : Nat → Nat → Int32 → qS → Option qS
  | 0, _, _, _ => none
  | n + 1, x0, x1, g => (g_R g x0 11 3).bind fun v1 => (g_I g v1 10 4).bind fun v2 => if v2 < x1 then (some g) else ((f_X12_productOf g x0 x1).bind fun v3 => (f_X12_sumOf g x0 x1).bind fun v4 => (g_L g x0 11 28).bind fun v5 => (g_L g x0 11 27).bind fun v6 => if ((((x1 - 1).toInt64) * v3) * v5) ≤ (v6 * v4) then (L_X12_lots_21 n x0 (x1 + 1) g) else ((p_I g x0 11 26 x1).bind fun g7 => (p_L g7 x0 11 27 (((x1 - 1).toInt64) * v3)).bind fun g8 => (p_L g8 x0 11 28 v4).bind fun g9 => L_X12_lots_21 n x0 (x1 + 1) g9))
set_option maxHeartbeats 4000000 in
set_option maxRecDepth 100000 in
theorem w_L_X12_lots_21 {l : Launch} {E : qV} {p : Program} {e : Env} {s : State} {m : MethodId} {args : Array Value} {below : List Frame} {meth : Method} {c : Code}  {res : qS} (C : q_C E p s m args meth c cX12_lots RX12 6 none)  : ∀ {n : Nat} {x0 : Nat} {x1 : Int32} {g : qS} {H : Heap} {locs : List Loc} {ls : Array Slot}, q_J E s g H locs → lv_has ls 6 [(0, .ref (q_ad E x0)), (1, .int x1)] → L_X12_lots_21 n x0 x1 g = some res → W p l e (q_rm 2 48) s m args below meth c H locs 0 0 (q_ZW E below none res args s) (F0 m 21 ls []) := by
  have hx := C.1
  have hb := C.2.1
  intro n
  induction n with
  | zero =>
    intro x0 x1 g H locs ls hj hl hf
    cases hf
  | succ n ih_ =>
    intro x0 x1 g H locs ls hj hl hf
    have ih : ∀ (x0 : Nat) (x1 : Int32) (g : qS) (H : Heap) (locs : List Loc) (ls : Array Slot), q_J E s g H locs → lv_has ls 6 [(0, .ref (q_ad E x0)), (1, .int x1)] → L_X12_lots_21 n x0 x1 g = some res → W p l e (q_rm 2 48) s m args below meth c H locs 0 0 (q_ZW E below none res args s) (F0 m 21 ls []) := fun x0 x1 g H locs ls hj hl hf => ih_ hj hl hf
    unfold L_X12_lots_21 at hf
    refine lv_iload_n hx hb dX12_lots_21 rfl (lv_at hl 1 rfl) ?_
    refine lv_aload_n hx hb dX12_lots_22 rfl (lv_at hl 0 rfl) ?_
    refine q_getR C hj lk_X12_369 dX12_lots_23 hf (fun v1 hf => ?_)
    refine q_getI C hj lk_X12_297 dX12_lots_26 hf (fun v2 hf => ?_)
    refine q_icgt C (tgt := 92) dX12_lots_29 (by decide) hf (fun hf => ?_) (fun hf => ?_)
    · exact q_vretW C hj dX12_lots_92 hf
    · refine lv_iload_n hx hb dX12_lots_32 rfl (lv_at hl 1 rfl) ?_
      refine lv_iconst (v := 1) hx hb dX12_lots_33 qi_1 ?_
      refine lv_isub hx hb dX12_lots_34 ?_
      refine lv_i2l hx hb dX12_lots_35 rfl ?_
      refine lv_aload_n hx hb dX12_lots_36 rfl (lv_at hl 0 rfl) ?_
      refine lv_iload_n hx hb dX12_lots_37 rfl (lv_at hl 1 rfl) ?_
      refine q_cVRL C hj cw_X12_473 (As := [.int x1]) (rest := [.long ((x1 - 1).toInt64)]) hf (fun v9 h9 => c_X12_productOf l E h9) rfl hl rfl rfl rfl dX12_lots_38 ⟨Nat.zero_le _, Nat.zero_le _⟩ (fun v3 hf => ?_)
      refine lv_lmul hx hb dX12_lots_41 ?_
      refine lv_lstore_n (lv' := [(2, .long (((x1 - 1).toInt64) * v3)), (0, .ref (q_ad E x0)), (1, .int x1)]) hx hb dX12_lots_42 rfl hl (by decide) rfl (fun ls hl => ?_)
      refine lv_aload_n hx hb dX12_lots_43 rfl (lv_at hl 1 rfl) ?_
      refine lv_iload_n hx hb dX12_lots_44 rfl (lv_at hl 2 rfl) ?_
      refine q_cVRL C hj cw_X12_489 (As := [.int x1]) (rest := []) hf (fun v9 h9 => c_X12_sumOf l E h9) rfl hl rfl rfl rfl dX12_lots_45 ⟨Nat.zero_le _, Nat.zero_le _⟩ (fun v4 hf => ?_)
      refine lv_lstore (lv' := [(4, .long v4), (2, .long (((x1 - 1).toInt64) * v3)), (0, .ref (q_ad E x0)), (1, .int x1)]) hx hb dX12_lots_48 hl (by decide) rfl (fun ls hl => ?_)
      refine lv_lload_n hx hb dX12_lots_50 rfl (lv_at hl 1 rfl) ?_
      refine lv_aload_n hx hb dX12_lots_51 rfl (lv_at hl 2 rfl) ?_
      refine q_getL C hj lk_X12_486 dX12_lots_52 hf (fun v5 hf => ?_)
      refine lv_lmul hx hb dX12_lots_55 ?_
      refine lv_aload_n hx hb dX12_lots_56 rfl (lv_at hl 2 rfl) ?_
      refine q_getL C hj lk_X12_483 dX12_lots_57 hf (fun v6 hf => ?_)
      refine lv_lload hx hb dX12_lots_60 (lv_at hl 0 rfl) ?_
      refine lv_lmul hx hb dX12_lots_62 ?_
      refine q_lcgt C (tgt := 70) dX12_lots_63 dX12_lots_64 (by decide) hf (fun hf => ?_) (fun hf => ?_)
      · refine lv_aload_n hx hb dX12_lots_70 rfl (lv_at hl 2 rfl) ?_
        refine lv_iload_n hx hb dX12_lots_71 rfl (lv_at hl 3 rfl) ?_
        refine q_putI C hj fp_X12_480 dX12_lots_72 hf (fun g7 H locs hj hf => ?_)
        refine lv_aload_n hx hb dX12_lots_75 rfl (lv_at hl 2 rfl) ?_
        refine lv_lload_n hx hb dX12_lots_76 rfl (lv_at hl 1 rfl) ?_
        refine q_putL C hj fp_X12_483 dX12_lots_77 hf (fun g8 H locs hj hf => ?_)
        refine lv_aload_n hx hb dX12_lots_80 rfl (lv_at hl 2 rfl) ?_
        refine lv_lload hx hb dX12_lots_81 (lv_at hl 0 rfl) ?_
        refine q_putL C hj fp_X12_486 dX12_lots_83 hf (fun g9 H locs hj hf => ?_)
        refine lv_iinc (v := x1 + 1) (lv' := [(1, .int (x1 + 1)), (4, .long v4), (2, .long (((x1 - 1).toInt64) * v3)), (0, .ref (q_ad E x0))]) hx hb dX12_lots_86 hl (k := 3) rfl (by rw [qi_1]) (by decide) rfl (fun ls hl => ?_)
        refine lv_goto (tgt := 21) hx hb dX12_lots_89 (by decide) ?_
        exact ih _ _ _ _ _ ls hj (lv_sub hl [3, 0] rfl) hf
      · refine lv_goto (tgt := 86) hx hb dX12_lots_67 (by decide) ?_
        refine lv_iinc (v := x1 + 1) (lv' := [(1, .int (x1 + 1)), (4, .long v4), (2, .long (((x1 - 1).toInt64) * v3)), (0, .ref (q_ad E x0))]) hx hb dX12_lots_86 hl (k := 3) rfl (by rw [qi_1]) (by decide) rfl (fun ls hl => ?_)
        refine lv_goto (tgt := 21) hx hb dX12_lots_89 (by decide) ?_
        exact ih _ _ _ _ _ ls hj (lv_sub hl [3, 0] rfl) hf
def f_X12_lots (g : qS) (a0 : Nat) : Option qS := (g_C g a0 11).bind fun _ => (f_X12_ranks g a0).bind fun g1 => (p_I g1 a0 11 26 1).bind fun g2 => (p_L g2 a0 11 27 0).bind fun g3 => (p_L g3 a0 11 28 1).bind fun g4 => L_X12_lots_21 1000000000 a0 2 g4
set_option maxHeartbeats 4000000 in
set_option maxRecDepth 100000 in
theorem c_X12_lots (l : Launch) (E : qV) {g : qS} {a0 : Nat} {res : qS} (hf : f_X12_lots g a0 = some res) : q_MW l yX12_lots cX12_lots 6 none 2 48 E [.ref (q_ad E a0)] g none res ∧ ∃ fs, g a0 = some (.inr (11, fs)) := by
  unfold f_X12_lots at hf
  obtain ⟨u9, hu9, hf⟩ := q_ob hf
  refine ⟨q_ofW (by decide) rfl ?_, g_C_sp hu9⟩
  intro p e s m args below meth c ls C hj hl
  have hx := C.1
  have hb := C.2.1
  have C : q_C E p s m args meth c cX12_lots RX12 6 none := C
  have hl : lv_has ls 6 [(0, .ref (q_ad E a0))] := hl
  refine lv_aload_n hx hb dX12_lots_0 rfl (lv_at hl 0 rfl) ?_
  refine q_cVWV C hj cw_X12_477 (As := []) (rest := []) hf (fun g9 h9 => c_X12_ranks l E h9) rfl hl rfl rfl rfl dX12_lots_1 ⟨Nat.zero_le _, Nat.zero_le _⟩ (fun g1 H locs hj hf => ?_)
  refine lv_aload_n hx hb dX12_lots_4 rfl (lv_at hl 0 rfl) ?_
  refine lv_iconst (v := 1) hx hb dX12_lots_5 qi_1 ?_
  refine q_putI C hj fp_X12_480 dX12_lots_6 hf (fun g2 H locs hj hf => ?_)
  refine lv_aload_n hx hb dX12_lots_9 rfl (lv_at hl 0 rfl) ?_
  refine lv_lconst (v := 0) hx hb dX12_lots_10 (by decide) ?_
  refine q_putL C hj fp_X12_483 dX12_lots_11 hf (fun g3 H locs hj hf => ?_)
  refine lv_aload_n hx hb dX12_lots_14 rfl (lv_at hl 0 rfl) ?_
  refine lv_lconst (v := 1) hx hb dX12_lots_15 (by decide) ?_
  refine q_putL C hj fp_X12_486 dX12_lots_16 hf (fun g4 H locs hj hf => ?_)
  refine lv_iconst (v := 2) hx hb dX12_lots_19 qi_2 ?_
  refine lv_istore_n (lv' := [(1, .int 2), (0, .ref (q_ad E a0))]) hx hb dX12_lots_20 rfl hl (by decide) rfl (fun ls hl => ?_)
  refine w_L_X12_lots_21 C  hj (lv_sub hl [1, 0] rfl) hf
def f_X12_value (g : qS) (a0 : Nat) (a1 : Int32) : Option (Int64 × qS) := (g_C g a0 11).bind fun _ => (p_I g a0 11 0 0).bind fun g1 => (g_Q g1 a0 11 3).bind fun o => if o = none then (q_b2 (f_X12_refused g1 a0 1) fun v12 g11 => some (v12.toInt64, g11)) else ((g_R g1 a0 11 3).bind fun v2 => (g_I g1 v2 10 4).bind fun v3 => if v3 = 0 then (q_b2 (f_X12_refused g1 a0 6) fun v10 g9 => some (v10.toInt64, g9)) else ((f_X12_lots g1 a0).bind fun g4 => (g_L g4 a0 11 27).bind fun v5 => (g_L g4 a0 11 28).bind fun v6 => q_b2 (f_X12_fraction g4 a0 v5 v6 a1) fun v8 g7 => some (v8, g7)))
set_option maxHeartbeats 4000000 in
set_option maxRecDepth 100000 in
theorem c_X12_value (l : Launch) (E : qV) {g : qS} {a0 : Nat} {a1 : Int32} {res : (Int64 × qS)} (hf : f_X12_value g a0 a1 = some res) : q_MW l yX12_value cX12_value 2 (some .long) 3 73 E [.ref (q_ad E a0), .int a1] g (some (.long res.1)) res.2 ∧ ∃ fs, g a0 = some (.inr (11, fs)) := by
  unfold f_X12_value at hf
  obtain ⟨u9, hu9, hf⟩ := q_ob hf
  refine ⟨q_ofW (by decide) rfl ?_, g_C_sp hu9⟩
  intro p e s m args below meth c ls C hj hl
  have hx := C.1
  have hb := C.2.1
  have C : q_C E p s m args meth c cX12_value RX12 2 (some .long) := C
  have hl : lv_has ls 2 [(0, .ref (q_ad E a0)), (1, .int a1)] := hl
  refine lv_aload_n hx hb dX12_value_0 rfl (lv_at hl 0 rfl) ?_
  refine lv_iconst (v := 0) hx hb dX12_value_1 qi_0 ?_
  refine q_putI C hj fp_X12_48 dX12_value_2 hf (fun g1 H locs hj hf => ?_)
  refine lv_aload_n hx hb dX12_value_5 rfl (lv_at hl 0 rfl) ?_
  refine q_gnnull C hj lk_X12_369 dX12_value_6 (tgt := 19) dX12_value_9 (by decide) hf (fun hf => ?_) (fun hf => ?_)
  · refine lv_aload_n hx hb dX12_value_19 rfl (lv_at hl 0 rfl) ?_
    refine q_getR C hj lk_X12_369 dX12_value_20 hf (fun v2 hf => ?_)
    refine q_getI C hj lk_X12_297 dX12_value_23 hf (fun v3 hf => ?_)
    refine q_ifne C (tgt := 37) dX12_value_26 (by decide) hf (fun hf => ?_) (fun hf => ?_)
    · refine lv_aload_n hx hb dX12_value_37 rfl (lv_at hl 0 rfl) ?_
      refine q_cVWV C hj cw_X12_492 (As := []) (rest := []) hf (fun g9 h9 => c_X12_lots l E h9) rfl hl rfl rfl rfl dX12_value_38 ⟨Nat.zero_le _, Nat.zero_le _⟩ (fun g4 H locs hj hf => ?_)
      refine lv_aload_n hx hb dX12_value_41 rfl (lv_at hl 0 rfl) ?_
      refine lv_aload_n hx hb dX12_value_42 rfl (lv_at hl 0 rfl) ?_
      refine q_getL C hj lk_X12_483 dX12_value_43 hf (fun v5 hf => ?_)
      refine lv_aload_n hx hb dX12_value_46 rfl (lv_at hl 0 rfl) ?_
      refine q_getL C hj lk_X12_486 dX12_value_47 hf (fun v6 hf => ?_)
      refine lv_iload_n hx hb dX12_value_50 rfl (lv_at hl 1 rfl) ?_
      refine q_cVWL C hj cw_X12_495 (As := [.long v5, .long v6, .int a1]) (rest := []) hf (fun v9 g9 h9 => c_X12_fraction l E h9) rfl hl rfl rfl rfl dX12_value_51 ⟨Nat.zero_le _, Nat.zero_le _⟩ (fun v8 g7 H locs hj hf => ?_)
      exact q_lretW C hj dX12_value_54 hf
    · refine lv_aload_n hx hb dX12_value_29 rfl (lv_at hl 0 rfl) ?_
      refine lv_bipush (v := 6) hx hb dX12_value_30 (by decide) ?_
      refine q_cVWI C hj cw_X12_54 (As := [.int 6]) (rest := []) hf (fun v9 g9 h9 => c_X12_refused l E h9) rfl hl rfl rfl rfl dX12_value_32 ⟨Nat.zero_le _, Nat.zero_le _⟩ (fun v10 g9 H locs hj hf => ?_)
      refine lv_i2l hx hb dX12_value_35 rfl ?_
      exact q_lretW C hj dX12_value_36 hf
  · refine lv_aload_n hx hb dX12_value_12 rfl (lv_at hl 0 rfl) ?_
    refine lv_iconst (v := 1) hx hb dX12_value_13 qi_1 ?_
    refine q_cVWI C hj cw_X12_54 (As := [.int 1]) (rest := []) hf (fun v9 g9 h9 => c_X12_refused l E h9) rfl hl rfl rfl rfl dX12_value_14 ⟨Nat.zero_le _, Nat.zero_le _⟩ (fun v12 g11 H locs hj hf => ?_)
    refine lv_i2l hx hb dX12_value_17 rfl ?_
    exact q_lretW C hj dX12_value_18 hf
def L_X12_lot_26 (k44 : Nat → Int32 → Int32 → qS → Option (Int64 × qS)) : Nat → Nat → Int32 → Int32 → Int32 → qS → Option (Int64 × qS)
  | 0, _, _, _, _, _ => none
  | n + 1, x0, x1, x2, x3, g => (g_I g x0 11 26).bind fun v1 => if v1 ≤ x3 then (q_b2 (f_X12_fraction g x0 0 1 x2) fun v3 g2 => some (v3, g2)) else ((g_R g x0 11 25).bind fun v4 => (a_I g v4 x3).bind fun v5 => if v5 = x1 then (k44 x0 x1 x2 g) else (L_X12_lot_26 k44 n x0 x1 x2 (x3 + 1) g))
set_option maxHeartbeats 4000000 in
set_option maxRecDepth 100000 in
theorem w_L_X12_lot_26 {l : Launch} {E : qV} {p : Program} {e : Env} {s : State} {m : MethodId} {args : Array Value} {below : List Frame} {meth : Method} {c : Code} {k44 : Nat → Int32 → Int32 → qS → Option (Int64 × qS)} {res : (Int64 × qS)} (C : q_C E p s m args meth c cX12_lot RX12 4 (some .long)) (hk44 : ∀ (x0 : Nat) (x1 : Int32) (x2 : Int32) (g : qS) (H : Heap) (locs : List Loc) (ls : Array Slot), q_J E s g H locs → lv_has ls 4 [(0, .ref (q_ad E x0)), (1, .int x1), (2, .int x2)] → k44 x0 x1 x2 g = some res → W p l e (q_rm 3 73) s m args below meth c H locs 0 0 (q_ZW E below (some (.long res.1)) res.2 args s) (F0 m 44 ls [])) : ∀ {n : Nat} {x0 : Nat} {x1 : Int32} {x2 : Int32} {x3 : Int32} {g : qS} {H : Heap} {locs : List Loc} {ls : Array Slot}, q_J E s g H locs → lv_has ls 4 [(0, .ref (q_ad E x0)), (1, .int x1), (2, .int x2), (3, .int x3)] → L_X12_lot_26 k44 n x0 x1 x2 x3 g = some res → W p l e (q_rm 3 73) s m args below meth c H locs 0 0 (q_ZW E below (some (.long res.1)) res.2 args s) (F0 m 26 ls []) := by
  have hx := C.1
  have hb := C.2.1
  intro n
  induction n with
  | zero =>
    intro x0 x1 x2 x3 g H locs ls hj hl hf
    cases hf
  | succ n ih_ =>
    intro x0 x1 x2 x3 g H locs ls hj hl hf
    have ih : ∀ (x0 : Nat) (x1 : Int32) (x2 : Int32) (x3 : Int32) (g : qS) (H : Heap) (locs : List Loc) (ls : Array Slot), q_J E s g H locs → lv_has ls 4 [(0, .ref (q_ad E x0)), (1, .int x1), (2, .int x2), (3, .int x3)] → L_X12_lot_26 k44 n x0 x1 x2 x3 g = some res → W p l e (q_rm 3 73) s m args below meth c H locs 0 0 (q_ZW E below (some (.long res.1)) res.2 args s) (F0 m 26 ls []) := fun x0 x1 x2 x3 g H locs ls hj hl hf => ih_ hj hl hf
    unfold L_X12_lot_26 at hf
    refine lv_iload_n hx hb dX12_lot_26 rfl (lv_at hl 3 rfl) ?_
    refine lv_aload_n hx hb dX12_lot_27 rfl (lv_at hl 0 rfl) ?_
    refine q_getI C hj lk_X12_480 dX12_lot_28 hf (fun v1 hf => ?_)
    refine q_icge C (tgt := 83) dX12_lot_31 (by decide) hf (fun hf => ?_) (fun hf => ?_)
    · refine lv_aload_n hx hb dX12_lot_83 rfl (lv_at hl 0 rfl) ?_
      refine lv_lconst (v := 0) hx hb dX12_lot_84 (by decide) ?_
      refine lv_lconst (v := 1) hx hb dX12_lot_85 (by decide) ?_
      refine lv_iload_n hx hb dX12_lot_86 rfl (lv_at hl 2 rfl) ?_
      refine q_cVWL C hj cw_X12_495 (As := [.long 0, .long 1, .int x2]) (rest := []) hf (fun v9 g9 h9 => c_X12_fraction l E h9) rfl hl rfl rfl rfl dX12_lot_87 ⟨Nat.zero_le _, Nat.zero_le _⟩ (fun v3 g2 H locs hj hf => ?_)
      exact q_lretW C hj dX12_lot_90 hf
    · refine lv_aload_n hx hb dX12_lot_34 rfl (lv_at hl 0 rfl) ?_
      refine q_getR C hj lk_X12_39 dX12_lot_35 hf (fun v4 hf => ?_)
      refine lv_iload_n hx hb dX12_lot_38 rfl (lv_at hl 3 rfl) ?_
      refine q_aldI C hj dX12_lot_39 hf (fun v5 hf => ?_)
      refine lv_iload_n hx hb dX12_lot_40 rfl (lv_at hl 1 rfl) ?_
      refine q_icne C (tgt := 77) dX12_lot_41 (by decide) hf (fun hf => ?_) (fun hf => ?_)
      · refine lv_iinc (v := x3 + 1) (lv' := [(3, .int (x3 + 1)), (0, .ref (q_ad E x0)), (1, .int x1), (2, .int x2)]) hx hb dX12_lot_77 hl (k := 3) rfl (by rw [qi_1]) (by decide) rfl (fun ls hl => ?_)
        refine lv_goto (tgt := 26) hx hb dX12_lot_80 (by decide) ?_
        exact ih _ _ _ _ _ _ _ ls hj (lv_sub hl [1, 2, 3, 0] rfl) hf
      · exact hk44 _ _ _ _ _ _ ls hj (lv_sub hl [0, 1, 2] rfl) hf
def f_X12_lot (g : qS) (a0 : Nat) (a1 : Int32) (a2 : Int32) : Option (Int64 × qS) := (g_C g a0 11).bind fun _ => (p_I g a0 11 0 0).bind fun g1 => (f_X12_isTram g1 a0 a1).bind fun v2 => if v2 = 0 then (q_b2 (f_X12_refused g1 a0 1) fun v18 g17 => some (v18.toInt64, g17)) else ((f_X12_lots g1 a0).bind fun g3 => L_X12_lot_26 (fun y4 y5 y6 g7 => (g_I g7 y4 11 26).bind fun v8 => (f_X12_productOf g7 y4 v8).bind fun v9 => (g_R g7 y4 11 3).bind fun v10 => (g_R g7 v10 10 20).bind fun v11 => (a_I g7 v11 y5).bind fun v12 => if (v12.toInt64 : Int64) = 0 then none else ((g_I g7 y4 11 26).bind fun v13 => (f_X12_sumOf g7 y4 v13).bind fun v14 => q_b2 (f_X12_fraction g7 y4 (v9 / v12.toInt64) v14 y6) fun v16 g15 => some (v16, g15))) 1000000000 a0 a1 a2 0 g3)
set_option maxHeartbeats 4000000 in
set_option maxRecDepth 100000 in
theorem c_X12_lot (l : Launch) (E : qV) {g : qS} {a0 : Nat} {a1 : Int32} {a2 : Int32} {res : (Int64 × qS)} (hf : f_X12_lot g a0 a1 a2 = some res) : q_MW l yX12_lot cX12_lot 4 (some .long) 3 73 E [.ref (q_ad E a0), .int a1, .int a2] g (some (.long res.1)) res.2 ∧ ∃ fs, g a0 = some (.inr (11, fs)) := by
  unfold f_X12_lot at hf
  obtain ⟨u9, hu9, hf⟩ := q_ob hf
  refine ⟨q_ofW (by decide) rfl ?_, g_C_sp hu9⟩
  intro p e s m args below meth c ls C hj hl
  have hx := C.1
  have hb := C.2.1
  have C : q_C E p s m args meth c cX12_lot RX12 4 (some .long) := C
  have hl : lv_has ls 4 [(0, .ref (q_ad E a0)), (1, .int a1), (2, .int a2)] := hl
  refine lv_aload_n hx hb dX12_lot_0 rfl (lv_at hl 0 rfl) ?_
  refine lv_iconst (v := 0) hx hb dX12_lot_1 qi_0 ?_
  refine q_putI C hj fp_X12_48 dX12_lot_2 hf (fun g1 H locs hj hf => ?_)
  refine lv_aload_n hx hb dX12_lot_5 rfl (lv_at hl 0 rfl) ?_
  refine lv_iload_n hx hb dX12_lot_6 rfl (lv_at hl 1 rfl) ?_
  refine q_cVRI C hj cw_X12_421 (As := [.int a1]) (rest := []) hf (fun v9 h9 => c_X12_isTram l E h9) rfl hl rfl rfl rfl dX12_lot_7 ⟨Nat.zero_le _, Nat.zero_le _⟩ (fun v2 hf => ?_)
  refine q_ifne C (tgt := 20) dX12_lot_10 (by decide) hf (fun hf => ?_) (fun hf => ?_)
  · refine lv_aload_n hx hb dX12_lot_20 rfl (lv_at hl 0 rfl) ?_
    refine q_cVWV C hj cw_X12_492 (As := []) (rest := []) hf (fun g9 h9 => c_X12_lots l E h9) rfl hl rfl rfl rfl dX12_lot_21 ⟨Nat.zero_le _, Nat.zero_le _⟩ (fun g3 H locs hj hf => ?_)
    refine lv_iconst (v := 0) hx hb dX12_lot_24 qi_0 ?_
    refine lv_istore_n (lv' := [(3, .int 0), (0, .ref (q_ad E a0)), (1, .int a1), (2, .int a2)]) hx hb dX12_lot_25 rfl hl (by decide) rfl (fun ls hl => ?_)
    refine w_L_X12_lot_26 C (fun y4 y5 y6 g7 H locs ls hj hl hf => ?_) hj (lv_sub hl [1, 2, 3, 0] rfl) hf
    · refine lv_aload_n hx hb dX12_lot_44 rfl (lv_at hl 0 rfl) ?_
      refine lv_aload_n hx hb dX12_lot_45 rfl (lv_at hl 0 rfl) ?_
      refine lv_aload_n hx hb dX12_lot_46 rfl (lv_at hl 0 rfl) ?_
      refine q_getI C hj lk_X12_480 dX12_lot_47 hf (fun v8 hf => ?_)
      refine q_cVRL C hj cw_X12_473 (As := [.int v8]) (rest := [.ref (q_ad E y4)]) hf (fun v9 h9 => c_X12_productOf l E h9) rfl hl rfl rfl rfl dX12_lot_50 ⟨Nat.zero_le _, Nat.zero_le _⟩ (fun v9 hf => ?_)
      refine lv_aload_n hx hb dX12_lot_53 rfl (lv_at hl 0 rfl) ?_
      refine q_getR C hj lk_X12_369 dX12_lot_54 hf (fun v10 hf => ?_)
      refine q_getR C hj lk_X12_306 dX12_lot_57 hf (fun v11 hf => ?_)
      refine lv_iload_n hx hb dX12_lot_60 rfl (lv_at hl 1 rfl) ?_
      refine q_aldI C hj dX12_lot_61 hf (fun v12 hf => ?_)
      refine lv_i2l hx hb dX12_lot_62 rfl ?_
      refine q_ldiv C dX12_lot_63 hf (fun hf => ?_)
      refine lv_aload_n hx hb dX12_lot_64 rfl (lv_at hl 0 rfl) ?_
      refine lv_aload_n hx hb dX12_lot_65 rfl (lv_at hl 0 rfl) ?_
      refine q_getI C hj lk_X12_480 dX12_lot_66 hf (fun v13 hf => ?_)
      refine q_cVRL C hj cw_X12_489 (As := [.int v13]) (rest := [.long (v9 / v12.toInt64), .ref (q_ad E y4)]) hf (fun v9 h9 => c_X12_sumOf l E h9) rfl hl rfl rfl rfl dX12_lot_69 ⟨Nat.zero_le _, Nat.zero_le _⟩ (fun v14 hf => ?_)
      refine lv_iload_n hx hb dX12_lot_72 rfl (lv_at hl 2 rfl) ?_
      refine q_cVWL C hj cw_X12_495 (As := [.long (v9 / v12.toInt64), .long v14, .int y6]) (rest := []) hf (fun v9 g9 h9 => c_X12_fraction l E h9) rfl hl rfl rfl rfl dX12_lot_73 ⟨Nat.zero_le _, Nat.zero_le _⟩ (fun v16 g15 H locs hj hf => ?_)
      exact q_lretW C hj dX12_lot_76 hf
  · refine lv_aload_n hx hb dX12_lot_13 rfl (lv_at hl 0 rfl) ?_
    refine lv_iconst (v := 1) hx hb dX12_lot_14 qi_1 ?_
    refine q_cVWI C hj cw_X12_54 (As := [.int 1]) (rest := []) hf (fun v9 g9 h9 => c_X12_refused l E h9) rfl hl rfl rfl rfl dX12_lot_15 ⟨Nat.zero_le _, Nat.zero_le _⟩ (fun v18 g17 H locs hj hf => ?_)
    refine lv_i2l hx hb dX12_lot_18 rfl ?_
    exact q_lretW C hj dX12_lot_19 hf
def L_X12_shareOf_6  (g : qS) : Nat → Nat → Int32 → Int32 → Int32 → Int32 → Int32 → Option Int32
  | 0, _, _, _, _, _, _ => none
  | n + 1, x0, x1, x2, x3, x4, x5 => (g_R g x0 11 3).bind fun v1 => (g_I g v1 10 5).bind fun v2 => if v2 ≤ x5 then (if (x3 : Int32) = 0 then none else (some ((60 * x4) / x3))) else ((g_R g x0 11 3).bind fun v3 => (g_R g v3 10 22).bind fun v4 => (a_I g v4 ((7 * x5) + x2)).bind fun v5 => if v5 = x1 then (L_X12_shareOf_6 g n x0 x1 x2 x3 (x4 + 1) (x5 + 1)) else (L_X12_shareOf_6 g n x0 x1 x2 x3 (x4 + 0) (x5 + 1)))
set_option maxHeartbeats 4000000 in
set_option maxRecDepth 100000 in
theorem w_L_X12_shareOf_6 {l : Launch} {E : qV} {p : Program} {e : Env} {s : State} {m : MethodId} {args : Array Value} {below : List Frame} {meth : Method} {c : Code}  {g : qS} {res : Int32} (C : q_C E p s m args meth c cX12_shareOf RX12 6 (some .int))  : ∀ {n : Nat} {x0 : Nat} {x1 : Int32} {x2 : Int32} {x3 : Int32} {x4 : Int32} {x5 : Int32} {ls : Array Slot}, q_J E s g s.heap [] → lv_has ls 6 [(0, .ref (q_ad E x0)), (1, .int x1), (2, .int x2), (3, .int x3), (4, .int x4), (5, .int x5)] → L_X12_shareOf_6 g n x0 x1 x2 x3 x4 x5 = some res → W p l e (q_rm 0 0) s m args below meth c s.heap [] 0 0 (q_ZR below (some (.int res)) args s) (F0 m 6 ls []) := by
  have hx := C.1
  have hb := C.2.1
  intro n
  induction n with
  | zero =>
    intro x0 x1 x2 x3 x4 x5 ls hj hl hf
    cases hf
  | succ n ih_ =>
    intro x0 x1 x2 x3 x4 x5 ls hj hl hf
    have ih : ∀ (x0 : Nat) (x1 : Int32) (x2 : Int32) (x3 : Int32) (x4 : Int32) (x5 : Int32) (ls : Array Slot), q_J E s g s.heap [] → lv_has ls 6 [(0, .ref (q_ad E x0)), (1, .int x1), (2, .int x2), (3, .int x3), (4, .int x4), (5, .int x5)] → L_X12_shareOf_6 g n x0 x1 x2 x3 x4 x5 = some res → W p l e (q_rm 0 0) s m args below meth c s.heap [] 0 0 (q_ZR below (some (.int res)) args s) (F0 m 6 ls []) := fun x0 x1 x2 x3 x4 x5 ls hj hl hf => ih_ hj hl hf
    unfold L_X12_shareOf_6 at hf
    refine lv_iload hx hb dX12_shareOf_6 (lv_at hl 5 rfl) ?_
    refine lv_aload_n hx hb dX12_shareOf_8 rfl (lv_at hl 0 rfl) ?_
    refine q_getR C hj lk_X12_369 dX12_shareOf_9 hf (fun v1 hf => ?_)
    refine q_getI C hj lk_X12_207 dX12_shareOf_12 hf (fun v2 hf => ?_)
    refine q_icge C (tgt := 53) dX12_shareOf_15 (by decide) hf (fun hf => ?_) (fun hf => ?_)
    · refine lv_bipush (v := 60) hx hb dX12_shareOf_53 (by decide) ?_
      refine lv_iload hx hb dX12_shareOf_55 (lv_at hl 4 rfl) ?_
      refine lv_imul hx hb dX12_shareOf_57 ?_
      refine lv_iload_n hx hb dX12_shareOf_58 rfl (lv_at hl 3 rfl) ?_
      refine q_idiv C dX12_shareOf_59 hf (fun hf => ?_)
      exact q_iretR C dX12_shareOf_60 hf
    · refine lv_iload hx hb dX12_shareOf_18 (lv_at hl 4 rfl) ?_
      refine lv_aload_n hx hb dX12_shareOf_20 rfl (lv_at hl 0 rfl) ?_
      refine q_getR C hj lk_X12_369 dX12_shareOf_21 hf (fun v3 hf => ?_)
      refine q_getR C hj lk_X12_231 dX12_shareOf_24 hf (fun v4 hf => ?_)
      refine lv_bipush (v := 7) hx hb dX12_shareOf_27 (by decide) ?_
      refine lv_iload hx hb dX12_shareOf_29 (lv_at hl 5 rfl) ?_
      refine lv_imul hx hb dX12_shareOf_31 ?_
      refine lv_iload_n hx hb dX12_shareOf_32 rfl (lv_at hl 2 rfl) ?_
      refine lv_iadd hx hb dX12_shareOf_33 ?_
      refine q_aldI C hj dX12_shareOf_34 hf (fun v5 hf => ?_)
      refine lv_iload_n hx hb dX12_shareOf_35 rfl (lv_at hl 1 rfl) ?_
      refine q_icne C (tgt := 43) dX12_shareOf_36 (by decide) hf (fun hf => ?_) (fun hf => ?_)
      · refine lv_iconst (v := 0) hx hb dX12_shareOf_43 qi_0 ?_
        refine lv_iadd hx hb dX12_shareOf_44 ?_
        refine lv_istore (lv' := [(4, .int (x4 + 0)), (0, .ref (q_ad E x0)), (1, .int x1), (2, .int x2), (3, .int x3), (5, .int x5)]) hx hb dX12_shareOf_45 hl (by decide) rfl (fun ls hl => ?_)
        refine lv_iinc (v := x5 + 1) (lv' := [(5, .int (x5 + 1)), (4, .int (x4 + 0)), (0, .ref (q_ad E x0)), (1, .int x1), (2, .int x2), (3, .int x3)]) hx hb dX12_shareOf_47 hl (k := 5) rfl (by rw [qi_1]) (by decide) rfl (fun ls hl => ?_)
        refine lv_goto (tgt := 6) hx hb dX12_shareOf_50 (by decide) ?_
        exact ih _ _ _ _ _ _  ls hj (lv_sub hl [2, 3, 4, 5, 1, 0] rfl) hf
      · refine lv_iconst (v := 1) hx hb dX12_shareOf_39 qi_1 ?_
        refine lv_goto (tgt := 44) hx hb dX12_shareOf_40 (by decide) ?_
        refine lv_iadd hx hb dX12_shareOf_44 ?_
        refine lv_istore (lv' := [(4, .int (x4 + 1)), (0, .ref (q_ad E x0)), (1, .int x1), (2, .int x2), (3, .int x3), (5, .int x5)]) hx hb dX12_shareOf_45 hl (by decide) rfl (fun ls hl => ?_)
        refine lv_iinc (v := x5 + 1) (lv' := [(5, .int (x5 + 1)), (4, .int (x4 + 1)), (0, .ref (q_ad E x0)), (1, .int x1), (2, .int x2), (3, .int x3)]) hx hb dX12_shareOf_47 hl (k := 5) rfl (by rw [qi_1]) (by decide) rfl (fun ls hl => ?_)
        refine lv_goto (tgt := 6) hx hb dX12_shareOf_50 (by decide) ?_
        exact ih _ _ _ _ _ _  ls hj (lv_sub hl [2, 3, 4, 5, 1, 0] rfl) hf
def f_X12_shareOf (g : qS) (a0 : Nat) (a1 : Int32) (a2 : Int32) (a3 : Int32) : Option Int32 := (g_C g a0 11).bind fun _ => L_X12_shareOf_6 g 1000000000 a0 a1 a2 a3 0 0
set_option maxHeartbeats 4000000 in
set_option maxRecDepth 100000 in
theorem c_X12_shareOf (l : Launch) (E : qV) {g : qS} {a0 : Nat} {a1 : Int32} {a2 : Int32} {a3 : Int32} {res : Int32} (hf : f_X12_shareOf g a0 a1 a2 a3 = some res) : q_MR l yX12_shareOf cX12_shareOf 6 (some .int) 0 0 E [.ref (q_ad E a0), .int a1, .int a2, .int a3] g (some (.int res)) ∧ ∃ fs, g a0 = some (.inr (11, fs)) := by
  unfold f_X12_shareOf at hf
  obtain ⟨u9, hu9, hf⟩ := q_ob hf
  refine ⟨q_ofR (by decide) rfl ?_, g_C_sp hu9⟩
  intro p e s m args below meth c ls C hw hl
  have hj : q_J E s g s.heap [] := ⟨hw, va_S.rf⟩
  have hx := C.1
  have hb := C.2.1
  have C : q_C E p s m args meth c cX12_shareOf RX12 6 (some .int) := C
  have hl : lv_has ls 6 [(0, .ref (q_ad E a0)), (1, .int a1), (2, .int a2), (3, .int a3)] := hl
  refine lv_iconst (v := 0) hx hb dX12_shareOf_0 qi_0 ?_
  refine lv_istore (lv' := [(4, .int 0), (0, .ref (q_ad E a0)), (1, .int a1), (2, .int a2), (3, .int a3)]) hx hb dX12_shareOf_1 hl (by decide) rfl (fun ls hl => ?_)
  refine lv_iconst (v := 0) hx hb dX12_shareOf_3 qi_0 ?_
  refine lv_istore (lv' := [(5, .int 0), (4, .int 0), (0, .ref (q_ad E a0)), (1, .int a1), (2, .int a2), (3, .int a3)]) hx hb dX12_shareOf_4 hl (by decide) rfl (fun ls hl => ?_)
  refine w_L_X12_shareOf_6 C  hj (lv_sub hl [2, 3, 4, 5, 1, 0] rfl) hf
def L_X12_ridersOf_4  (g : qS) : Nat → Nat → Int32 → Int32 → Int32 → Option Int32
  | 0, _, _, _, _ => none
  | n + 1, x0, x1, x2, x3 => (g_R g x0 11 3).bind fun v1 => (g_I g v1 10 3).bind fun v2 => if v2 ≤ x3 then (some x2) else ((g_R g x0 11 29).bind fun v3 => (a_I g v3 x3).bind fun v4 => if v4 = x1 then (L_X12_ridersOf_4 g n x0 x1 (x2 + 1) (x3 + 1)) else (L_X12_ridersOf_4 g n x0 x1 (x2 + 0) (x3 + 1)))
set_option maxHeartbeats 4000000 in
set_option maxRecDepth 100000 in
theorem w_L_X12_ridersOf_4 {l : Launch} {E : qV} {p : Program} {e : Env} {s : State} {m : MethodId} {args : Array Value} {below : List Frame} {meth : Method} {c : Code}  {g : qS} {res : Int32} (C : q_C E p s m args meth c cX12_ridersOf RX12 4 (some .int))  : ∀ {n : Nat} {x0 : Nat} {x1 : Int32} {x2 : Int32} {x3 : Int32} {ls : Array Slot}, q_J E s g s.heap [] → lv_has ls 4 [(0, .ref (q_ad E x0)), (1, .int x1), (2, .int x2), (3, .int x3)] → L_X12_ridersOf_4 g n x0 x1 x2 x3 = some res → W p l e (q_rm 0 0) s m args below meth c s.heap [] 0 0 (q_ZR below (some (.int res)) args s) (F0 m 4 ls []) := by
  have hx := C.1
  have hb := C.2.1
  intro n
  induction n with
  | zero =>
    intro x0 x1 x2 x3 ls hj hl hf
    cases hf
  | succ n ih_ =>
    intro x0 x1 x2 x3 ls hj hl hf
    have ih : ∀ (x0 : Nat) (x1 : Int32) (x2 : Int32) (x3 : Int32) (ls : Array Slot), q_J E s g s.heap [] → lv_has ls 4 [(0, .ref (q_ad E x0)), (1, .int x1), (2, .int x2), (3, .int x3)] → L_X12_ridersOf_4 g n x0 x1 x2 x3 = some res → W p l e (q_rm 0 0) s m args below meth c s.heap [] 0 0 (q_ZR below (some (.int res)) args s) (F0 m 4 ls []) := fun x0 x1 x2 x3 ls hj hl hf => ih_ hj hl hf
    unfold L_X12_ridersOf_4 at hf
    refine lv_iload_n hx hb dX12_ridersOf_4 rfl (lv_at hl 3 rfl) ?_
    refine lv_aload_n hx hb dX12_ridersOf_5 rfl (lv_at hl 0 rfl) ?_
    refine q_getR C hj lk_X12_369 dX12_ridersOf_6 hf (fun v1 hf => ?_)
    refine q_getI C hj lk_X12_204 dX12_ridersOf_9 hf (fun v2 hf => ?_)
    refine q_icge C (tgt := 39) dX12_ridersOf_12 (by decide) hf (fun hf => ?_) (fun hf => ?_)
    · refine lv_iload_n hx hb dX12_ridersOf_39 rfl (lv_at hl 2 rfl) ?_
      exact q_iretR C dX12_ridersOf_40 hf
    · refine lv_iload_n hx hb dX12_ridersOf_15 rfl (lv_at hl 2 rfl) ?_
      refine lv_aload_n hx hb dX12_ridersOf_16 rfl (lv_at hl 0 rfl) ?_
      refine q_getR C hj lk_X12_42 dX12_ridersOf_17 hf (fun v3 hf => ?_)
      refine lv_iload_n hx hb dX12_ridersOf_20 rfl (lv_at hl 3 rfl) ?_
      refine q_aldI C hj dX12_ridersOf_21 hf (fun v4 hf => ?_)
      refine lv_iload_n hx hb dX12_ridersOf_22 rfl (lv_at hl 1 rfl) ?_
      refine q_icne C (tgt := 30) dX12_ridersOf_23 (by decide) hf (fun hf => ?_) (fun hf => ?_)
      · refine lv_iconst (v := 0) hx hb dX12_ridersOf_30 qi_0 ?_
        refine lv_iadd hx hb dX12_ridersOf_31 ?_
        refine lv_istore_n (lv' := [(2, .int (x2 + 0)), (0, .ref (q_ad E x0)), (1, .int x1), (3, .int x3)]) hx hb dX12_ridersOf_32 rfl hl (by decide) rfl (fun ls hl => ?_)
        refine lv_iinc (v := x3 + 1) (lv' := [(3, .int (x3 + 1)), (2, .int (x2 + 0)), (0, .ref (q_ad E x0)), (1, .int x1)]) hx hb dX12_ridersOf_33 hl (k := 3) rfl (by rw [qi_1]) (by decide) rfl (fun ls hl => ?_)
        refine lv_goto (tgt := 4) hx hb dX12_ridersOf_36 (by decide) ?_
        exact ih _ _ _ _  ls hj (lv_sub hl [2, 3, 1, 0] rfl) hf
      · refine lv_iconst (v := 1) hx hb dX12_ridersOf_26 qi_1 ?_
        refine lv_goto (tgt := 31) hx hb dX12_ridersOf_27 (by decide) ?_
        refine lv_iadd hx hb dX12_ridersOf_31 ?_
        refine lv_istore_n (lv' := [(2, .int (x2 + 1)), (0, .ref (q_ad E x0)), (1, .int x1), (3, .int x3)]) hx hb dX12_ridersOf_32 rfl hl (by decide) rfl (fun ls hl => ?_)
        refine lv_iinc (v := x3 + 1) (lv' := [(3, .int (x3 + 1)), (2, .int (x2 + 1)), (0, .ref (q_ad E x0)), (1, .int x1)]) hx hb dX12_ridersOf_33 hl (k := 3) rfl (by rw [qi_1]) (by decide) rfl (fun ls hl => ?_)
        refine lv_goto (tgt := 4) hx hb dX12_ridersOf_36 (by decide) ?_
        exact ih _ _ _ _  ls hj (lv_sub hl [2, 3, 1, 0] rfl) hf
def f_X12_ridersOf (g : qS) (a0 : Nat) (a1 : Int32) : Option Int32 := (g_C g a0 11).bind fun _ => L_X12_ridersOf_4 g 1000000000 a0 a1 0 0
set_option maxHeartbeats 4000000 in
set_option maxRecDepth 100000 in
theorem c_X12_ridersOf (l : Launch) (E : qV) {g : qS} {a0 : Nat} {a1 : Int32} {res : Int32} (hf : f_X12_ridersOf g a0 a1 = some res) : q_MR l yX12_ridersOf cX12_ridersOf 4 (some .int) 0 0 E [.ref (q_ad E a0), .int a1] g (some (.int res)) ∧ ∃ fs, g a0 = some (.inr (11, fs)) := by
  unfold f_X12_ridersOf at hf
  obtain ⟨u9, hu9, hf⟩ := q_ob hf
  refine ⟨q_ofR (by decide) rfl ?_, g_C_sp hu9⟩
  intro p e s m args below meth c ls C hw hl
  have hj : q_J E s g s.heap [] := ⟨hw, va_S.rf⟩
  have hx := C.1
  have hb := C.2.1
  have C : q_C E p s m args meth c cX12_ridersOf RX12 4 (some .int) := C
  have hl : lv_has ls 4 [(0, .ref (q_ad E a0)), (1, .int a1)] := hl
  refine lv_iconst (v := 0) hx hb dX12_ridersOf_0 qi_0 ?_
  refine lv_istore_n (lv' := [(2, .int 0), (0, .ref (q_ad E a0)), (1, .int a1)]) hx hb dX12_ridersOf_1 rfl hl (by decide) rfl (fun ls hl => ?_)
  refine lv_iconst (v := 0) hx hb dX12_ridersOf_2 qi_0 ?_
  refine lv_istore_n (lv' := [(3, .int 0), (2, .int 0), (0, .ref (q_ad E a0)), (1, .int a1)]) hx hb dX12_ridersOf_3 rfl hl (by decide) rfl (fun ls hl => ?_)
  refine w_L_X12_ridersOf_4 C  hj (lv_sub hl [2, 3, 1, 0] rfl) hf
def L_X12_isRest_38 (k88 : Nat → Int32 → Int32 → Option Int32) (g : qS) : Nat → Nat → Int32 → Int32 → Int32 → Int32 → Option Int32
  | 0, _, _, _, _, _ => none
  | n + 1, x0, x1, x2, x3, x4 => (g_R g x0 11 3).bind fun v1 => (g_I g v1 10 4).bind fun v2 => if v2 ≤ x4 then (k88 x0 x1 x2) else ((g_R g x0 11 29).bind fun v3 => (a_I g v3 x2).bind fun v4 => if x4 = v4 then (L_X12_isRest_38 k88 g n x0 x1 x2 x3 (x4 + 1)) else ((f_X12_ridersOf g x0 x4).bind fun v5 => (f_X12_shareOf g x0 x4 x1 (v5 + 1)).bind fun v6 => if v6 ≤ x3 then (L_X12_isRest_38 k88 g n x0 x1 x2 x3 (x4 + 1)) else (some 0)))
set_option maxHeartbeats 4000000 in
set_option maxRecDepth 100000 in
theorem w_L_X12_isRest_38 {l : Launch} {E : qV} {p : Program} {e : Env} {s : State} {m : MethodId} {args : Array Value} {below : List Frame} {meth : Method} {c : Code} {k88 : Nat → Int32 → Int32 → Option Int32} {g : qS} {res : Int32} (C : q_C E p s m args meth c cX12_isRest RX12 5 (some .boolean)) (hk88 : ∀ (x0 : Nat) (x1 : Int32) (x2 : Int32) (ls : Array Slot), q_J E s g s.heap [] → lv_has ls 5 [(0, .ref (q_ad E x0)), (1, .int x1), (2, .int x2)] → k88 x0 x1 x2 = some res → W p l e (q_rm 1 25) s m args below meth c s.heap [] 0 0 (q_ZR below (some (.int res)) args s) (F0 m 88 ls [])) : ∀ {n : Nat} {x0 : Nat} {x1 : Int32} {x2 : Int32} {x3 : Int32} {x4 : Int32} {ls : Array Slot}, q_J E s g s.heap [] → lv_has ls 5 [(0, .ref (q_ad E x0)), (1, .int x1), (2, .int x2), (3, .int x3), (4, .int x4)] → L_X12_isRest_38 k88 g n x0 x1 x2 x3 x4 = some res → W p l e (q_rm 1 25) s m args below meth c s.heap [] 0 0 (q_ZR below (some (.int res)) args s) (F0 m 38 ls []) := by
  have hx := C.1
  have hb := C.2.1
  intro n
  induction n with
  | zero =>
    intro x0 x1 x2 x3 x4 ls hj hl hf
    cases hf
  | succ n ih_ =>
    intro x0 x1 x2 x3 x4 ls hj hl hf
    have ih : ∀ (x0 : Nat) (x1 : Int32) (x2 : Int32) (x3 : Int32) (x4 : Int32) (ls : Array Slot), q_J E s g s.heap [] → lv_has ls 5 [(0, .ref (q_ad E x0)), (1, .int x1), (2, .int x2), (3, .int x3), (4, .int x4)] → L_X12_isRest_38 k88 g n x0 x1 x2 x3 x4 = some res → W p l e (q_rm 1 25) s m args below meth c s.heap [] 0 0 (q_ZR below (some (.int res)) args s) (F0 m 38 ls []) := fun x0 x1 x2 x3 x4 ls hj hl hf => ih_ hj hl hf
    unfold L_X12_isRest_38 at hf
    refine lv_iload hx hb dX12_isRest_38 (lv_at hl 4 rfl) ?_
    refine lv_aload_n hx hb dX12_isRest_40 rfl (lv_at hl 0 rfl) ?_
    refine q_getR C hj lk_X12_369 dX12_isRest_41 hf (fun v1 hf => ?_)
    refine q_getI C hj lk_X12_297 dX12_isRest_44 hf (fun v2 hf => ?_)
    refine q_icge C (tgt := 88) dX12_isRest_47 (by decide) hf (fun hf => ?_) (fun hf => ?_)
    · exact hk88 _ _ _  ls hj (lv_sub hl [0, 1, 2] rfl) hf
    · refine lv_iload hx hb dX12_isRest_50 (lv_at hl 4 rfl) ?_
      refine lv_aload_n hx hb dX12_isRest_52 rfl (lv_at hl 0 rfl) ?_
      refine q_getR C hj lk_X12_42 dX12_isRest_53 hf (fun v3 hf => ?_)
      refine lv_iload_n hx hb dX12_isRest_56 rfl (lv_at hl 2 rfl) ?_
      refine q_aldI C hj dX12_isRest_57 hf (fun v4 hf => ?_)
      refine q_iceq C (tgt := 82) dX12_isRest_58 (by decide) hf (fun hf => ?_) (fun hf => ?_)
      · refine lv_iinc (v := x4 + 1) (lv' := [(4, .int (x4 + 1)), (0, .ref (q_ad E x0)), (1, .int x1), (2, .int x2), (3, .int x3)]) hx hb dX12_isRest_82 hl (k := 4) rfl (by rw [qi_1]) (by decide) rfl (fun ls hl => ?_)
        refine lv_goto (tgt := 38) hx hb dX12_isRest_85 (by decide) ?_
        exact ih _ _ _ _ _  ls hj (lv_sub hl [1, 2, 3, 4, 0] rfl) hf
      · refine lv_aload_n hx hb dX12_isRest_61 rfl (lv_at hl 0 rfl) ?_
        refine lv_iload hx hb dX12_isRest_62 (lv_at hl 4 rfl) ?_
        refine lv_iload_n hx hb dX12_isRest_64 rfl (lv_at hl 1 rfl) ?_
        refine lv_aload_n hx hb dX12_isRest_65 rfl (lv_at hl 0 rfl) ?_
        refine lv_iload hx hb dX12_isRest_66 (lv_at hl 4 rfl) ?_
        refine q_cVRI C hj cw_X12_499 (As := [.int x4]) (rest := [.int x1, .int x4, .ref (q_ad E x0)]) hf (fun v9 h9 => c_X12_ridersOf l E h9) rfl hl rfl rfl rfl dX12_isRest_68 ⟨Nat.zero_le _, Nat.zero_le _⟩ (fun v5 hf => ?_)
        refine lv_iconst (v := 1) hx hb dX12_isRest_71 qi_1 ?_
        refine lv_iadd hx hb dX12_isRest_72 ?_
        refine q_cVRI C hj cw_X12_502 (As := [.int x4, .int x1, .int (v5 + 1)]) (rest := []) hf (fun v9 h9 => c_X12_shareOf l E h9) rfl hl rfl rfl rfl dX12_isRest_73 ⟨Nat.zero_le _, Nat.zero_le _⟩ (fun v6 hf => ?_)
        refine lv_iload_n hx hb dX12_isRest_76 rfl (lv_at hl 3 rfl) ?_
        refine q_icle C (tgt := 82) dX12_isRest_77 (by decide) hf (fun hf => ?_) (fun hf => ?_)
        · refine lv_iinc (v := x4 + 1) (lv' := [(4, .int (x4 + 1)), (0, .ref (q_ad E x0)), (1, .int x1), (2, .int x2), (3, .int x3)]) hx hb dX12_isRest_82 hl (k := 4) rfl (by rw [qi_1]) (by decide) rfl (fun ls hl => ?_)
          refine lv_goto (tgt := 38) hx hb dX12_isRest_85 (by decide) ?_
          exact ih _ _ _ _ _  ls hj (lv_sub hl [1, 2, 3, 4, 0] rfl) hf
        · refine lv_iconst (v := 0) hx hb dX12_isRest_80 qi_0 ?_
          exact q_z0retR C dX12_isRest_81 hf
def L_X12_isRest_2  (g : qS) : Nat → Nat → Int32 → Int32 → Option Int32
  | 0, _, _, _ => none
  | n + 1, x0, x1, x2 => (g_R g x0 11 3).bind fun v1 => (g_I g v1 10 3).bind fun v2 => if v2 ≤ x2 then (some 1) else ((g_R g x0 11 29).bind fun v3 => (a_I g v3 x2).bind fun v4 => (g_R g x0 11 29).bind fun v5 => (a_I g v5 x2).bind fun v6 => (f_X12_ridersOf g x0 v6).bind fun v7 => (f_X12_shareOf g x0 v4 x1 v7).bind fun v8 => L_X12_isRest_38 (fun y9 y10 y11 => L_X12_isRest_2 g n y9 y10 (y11 + 1)) g 1000000000 x0 x1 x2 v8 0)
set_option maxHeartbeats 4000000 in
set_option maxRecDepth 100000 in
theorem w_L_X12_isRest_2 {l : Launch} {E : qV} {p : Program} {e : Env} {s : State} {m : MethodId} {args : Array Value} {below : List Frame} {meth : Method} {c : Code}  {g : qS} {res : Int32} (C : q_C E p s m args meth c cX12_isRest RX12 5 (some .boolean))  : ∀ {n : Nat} {x0 : Nat} {x1 : Int32} {x2 : Int32} {ls : Array Slot}, q_J E s g s.heap [] → lv_has ls 5 [(0, .ref (q_ad E x0)), (1, .int x1), (2, .int x2)] → L_X12_isRest_2 g n x0 x1 x2 = some res → W p l e (q_rm 1 25) s m args below meth c s.heap [] 0 0 (q_ZR below (some (.int res)) args s) (F0 m 2 ls []) := by
  have hx := C.1
  have hb := C.2.1
  intro n
  induction n with
  | zero =>
    intro x0 x1 x2 ls hj hl hf
    cases hf
  | succ n ih_ =>
    intro x0 x1 x2 ls hj hl hf
    have ih : ∀ (x0 : Nat) (x1 : Int32) (x2 : Int32) (ls : Array Slot), q_J E s g s.heap [] → lv_has ls 5 [(0, .ref (q_ad E x0)), (1, .int x1), (2, .int x2)] → L_X12_isRest_2 g n x0 x1 x2 = some res → W p l e (q_rm 1 25) s m args below meth c s.heap [] 0 0 (q_ZR below (some (.int res)) args s) (F0 m 2 ls []) := fun x0 x1 x2 ls hj hl hf => ih_ hj hl hf
    unfold L_X12_isRest_2 at hf
    refine lv_iload_n hx hb dX12_isRest_2 rfl (lv_at hl 2 rfl) ?_
    refine lv_aload_n hx hb dX12_isRest_3 rfl (lv_at hl 0 rfl) ?_
    refine q_getR C hj lk_X12_369 dX12_isRest_4 hf (fun v1 hf => ?_)
    refine q_getI C hj lk_X12_204 dX12_isRest_7 hf (fun v2 hf => ?_)
    refine q_icge C (tgt := 94) dX12_isRest_10 (by decide) hf (fun hf => ?_) (fun hf => ?_)
    · refine lv_iconst (v := 1) hx hb dX12_isRest_94 qi_1 ?_
      exact q_z1retR C dX12_isRest_95 hf
    · refine lv_aload_n hx hb dX12_isRest_13 rfl (lv_at hl 0 rfl) ?_
      refine lv_aload_n hx hb dX12_isRest_14 rfl (lv_at hl 0 rfl) ?_
      refine q_getR C hj lk_X12_42 dX12_isRest_15 hf (fun v3 hf => ?_)
      refine lv_iload_n hx hb dX12_isRest_18 rfl (lv_at hl 2 rfl) ?_
      refine q_aldI C hj dX12_isRest_19 hf (fun v4 hf => ?_)
      refine lv_iload_n hx hb dX12_isRest_20 rfl (lv_at hl 1 rfl) ?_
      refine lv_aload_n hx hb dX12_isRest_21 rfl (lv_at hl 0 rfl) ?_
      refine lv_aload_n hx hb dX12_isRest_22 rfl (lv_at hl 0 rfl) ?_
      refine q_getR C hj lk_X12_42 dX12_isRest_23 hf (fun v5 hf => ?_)
      refine lv_iload_n hx hb dX12_isRest_26 rfl (lv_at hl 2 rfl) ?_
      refine q_aldI C hj dX12_isRest_27 hf (fun v6 hf => ?_)
      refine q_cVRI C hj cw_X12_499 (As := [.int v6]) (rest := [.int x1, .int v4, .ref (q_ad E x0)]) hf (fun v9 h9 => c_X12_ridersOf l E h9) rfl hl rfl rfl rfl dX12_isRest_28 ⟨Nat.zero_le _, Nat.zero_le _⟩ (fun v7 hf => ?_)
      refine q_cVRI C hj cw_X12_502 (As := [.int v4, .int x1, .int v7]) (rest := []) hf (fun v9 h9 => c_X12_shareOf l E h9) rfl hl rfl rfl rfl dX12_isRest_31 ⟨Nat.zero_le _, Nat.zero_le _⟩ (fun v8 hf => ?_)
      refine lv_istore_n (lv' := [(3, .int v8), (0, .ref (q_ad E x0)), (1, .int x1), (2, .int x2)]) hx hb dX12_isRest_34 rfl hl (by decide) rfl (fun ls hl => ?_)
      refine lv_iconst (v := 0) hx hb dX12_isRest_35 qi_0 ?_
      refine lv_istore (lv' := [(4, .int 0), (3, .int v8), (0, .ref (q_ad E x0)), (1, .int x1), (2, .int x2)]) hx hb dX12_isRest_36 hl (by decide) rfl (fun ls hl => ?_)
      refine w_L_X12_isRest_38 C (fun y9 y10 y11 ls hj hl hf => ?_) hj (lv_sub hl [2, 3, 4, 1, 0] rfl) hf
      · refine lv_iinc (v := y11 + 1) (lv' := [(2, .int (y11 + 1)), (0, .ref (q_ad E y9)), (1, .int y10)]) hx hb dX12_isRest_88 hl (k := 2) rfl (by rw [qi_1]) (by decide) rfl (fun ls hl => ?_)
        refine lv_goto (tgt := 2) hx hb dX12_isRest_91 (by decide) ?_
        exact ih _ _ _  ls hj (lv_sub hl [1, 2, 0] rfl) hf
def f_X12_isRest (g : qS) (a0 : Nat) (a1 : Int32) : Option Int32 := (g_C g a0 11).bind fun _ => L_X12_isRest_2 g 1000000000 a0 a1 0
set_option maxHeartbeats 4000000 in
set_option maxRecDepth 100000 in
theorem c_X12_isRest (l : Launch) (E : qV) {g : qS} {a0 : Nat} {a1 : Int32} {res : Int32} (hf : f_X12_isRest g a0 a1 = some res) : q_MR l yX12_isRest cX12_isRest 5 (some .boolean) 1 25 E [.ref (q_ad E a0), .int a1] g (some (.int res)) ∧ ∃ fs, g a0 = some (.inr (11, fs)) := by
  unfold f_X12_isRest at hf
  obtain ⟨u9, hu9, hf⟩ := q_ob hf
  refine ⟨q_ofR (by decide) rfl ?_, g_C_sp hu9⟩
  intro p e s m args below meth c ls C hw hl
  have hj : q_J E s g s.heap [] := ⟨hw, va_S.rf⟩
  have hx := C.1
  have hb := C.2.1
  have C : q_C E p s m args meth c cX12_isRest RX12 5 (some .boolean) := C
  have hl : lv_has ls 5 [(0, .ref (q_ad E a0)), (1, .int a1)] := hl
  refine lv_iconst (v := 0) hx hb dX12_isRest_0 qi_0 ?_
  refine lv_istore_n (lv' := [(2, .int 0), (0, .ref (q_ad E a0)), (1, .int a1)]) hx hb dX12_isRest_1 rfl hl (by decide) rfl (fun ls hl => ?_)
  refine w_L_X12_isRest_2 C  hj (lv_sub hl [1, 2, 0] rfl) hf
def L_X12_nextChoice_10  : Nat → Nat → Int32 → qS → Option (Int32 × qS)
  | 0, _, _, _ => none
  | n + 1, x0, x1, g => if x1 < 0 then (some (0, g)) else ((g_R g x0 11 29).bind fun v1 => (a_I g v1 x1).bind fun v2 => (s_I g v1 x1 (v2 + 1)).bind fun g3 => (g_R g3 x0 11 29).bind fun v4 => (a_I g3 v4 x1).bind fun v5 => (g_R g3 x0 11 3).bind fun v6 => (g_I g3 v6 10 4).bind fun v7 => if v7 ≤ v5 then ((g_R g3 x0 11 29).bind fun v8 => (s_I g3 v8 x1 0).bind fun g9 => L_X12_nextChoice_10 n x0 (x1 + (-1)) g9) else (some (1, g3)))
set_option maxHeartbeats 4000000 in
set_option maxRecDepth 100000 in
theorem w_L_X12_nextChoice_10 {l : Launch} {E : qV} {p : Program} {e : Env} {s : State} {m : MethodId} {args : Array Value} {below : List Frame} {meth : Method} {c : Code}  {res : (Int32 × qS)} (C : q_C E p s m args meth c cX12_nextChoice RX12 2 (some .boolean))  : ∀ {n : Nat} {x0 : Nat} {x1 : Int32} {g : qS} {H : Heap} {locs : List Loc} {ls : Array Slot}, q_J E s g H locs → lv_has ls 2 [(0, .ref (q_ad E x0)), (1, .int x1)] → L_X12_nextChoice_10 n x0 x1 g = some res → W p l e (q_rm 0 0) s m args below meth c H locs 0 0 (q_ZW E below (some (.int res.1)) res.2 args s) (F0 m 10 ls []) := by
  have hx := C.1
  have hb := C.2.1
  intro n
  induction n with
  | zero =>
    intro x0 x1 g H locs ls hj hl hf
    cases hf
  | succ n ih_ =>
    intro x0 x1 g H locs ls hj hl hf
    have ih : ∀ (x0 : Nat) (x1 : Int32) (g : qS) (H : Heap) (locs : List Loc) (ls : Array Slot), q_J E s g H locs → lv_has ls 2 [(0, .ref (q_ad E x0)), (1, .int x1)] → L_X12_nextChoice_10 n x0 x1 g = some res → W p l e (q_rm 0 0) s m args below meth c H locs 0 0 (q_ZW E below (some (.int res.1)) res.2 args s) (F0 m 10 ls []) := fun x0 x1 g H locs ls hj hl hf => ih_ hj hl hf
    unfold L_X12_nextChoice_10 at hf
    refine lv_iload_n hx hb dX12_nextChoice_10 rfl (lv_at hl 1 rfl) ?_
    refine q_iflt C (tgt := 55) dX12_nextChoice_11 (by decide) hf (fun hf => ?_) (fun hf => ?_)
    · refine lv_iconst (v := 0) hx hb dX12_nextChoice_55 qi_0 ?_
      exact q_z0retW C hj dX12_nextChoice_56 hf
    · refine lv_aload_n hx hb dX12_nextChoice_14 rfl (lv_at hl 0 rfl) ?_
      refine q_getR C hj lk_X12_42 dX12_nextChoice_15 hf (fun v1 hf => ?_)
      refine lv_iload_n hx hb dX12_nextChoice_18 rfl (lv_at hl 1 rfl) ?_
      refine lv_dup2_11 hx hb dX12_nextChoice_19 rfl rfl ?_
      refine q_aldI C hj dX12_nextChoice_20 hf (fun v2 hf => ?_)
      refine lv_iconst (v := 1) hx hb dX12_nextChoice_21 qi_1 ?_
      refine lv_iadd hx hb dX12_nextChoice_22 ?_
      refine q_astI C hj dX12_nextChoice_23 hf (fun g3 H locs hj hf => ?_)
      refine lv_aload_n hx hb dX12_nextChoice_24 rfl (lv_at hl 0 rfl) ?_
      refine q_getR C hj lk_X12_42 dX12_nextChoice_25 hf (fun v4 hf => ?_)
      refine lv_iload_n hx hb dX12_nextChoice_28 rfl (lv_at hl 1 rfl) ?_
      refine q_aldI C hj dX12_nextChoice_29 hf (fun v5 hf => ?_)
      refine lv_aload_n hx hb dX12_nextChoice_30 rfl (lv_at hl 0 rfl) ?_
      refine q_getR C hj lk_X12_369 dX12_nextChoice_31 hf (fun v6 hf => ?_)
      refine q_getI C hj lk_X12_297 dX12_nextChoice_34 hf (fun v7 hf => ?_)
      refine q_icge C (tgt := 42) dX12_nextChoice_37 (by decide) hf (fun hf => ?_) (fun hf => ?_)
      · refine lv_aload_n hx hb dX12_nextChoice_42 rfl (lv_at hl 0 rfl) ?_
        refine q_getR C hj lk_X12_42 dX12_nextChoice_43 hf (fun v8 hf => ?_)
        refine lv_iload_n hx hb dX12_nextChoice_46 rfl (lv_at hl 1 rfl) ?_
        refine lv_iconst (v := 0) hx hb dX12_nextChoice_47 qi_0 ?_
        refine q_astI C hj dX12_nextChoice_48 hf (fun g9 H locs hj hf => ?_)
        refine lv_iinc (v := x1 + (-1)) (lv' := [(1, .int (x1 + (-1))), (0, .ref (q_ad E x0))]) hx hb dX12_nextChoice_49 hl (k := 1) rfl (by rw [qi_m1]) (by decide) rfl (fun ls hl => ?_)
        refine lv_goto (tgt := 10) hx hb dX12_nextChoice_52 (by decide) ?_
        exact ih _ _ _ _ _ ls hj (lv_sub hl [1, 0] rfl) hf
      · refine lv_iconst (v := 1) hx hb dX12_nextChoice_40 qi_1 ?_
        exact q_z1retW C hj dX12_nextChoice_41 hf
def f_X12_nextChoice (g : qS) (a0 : Nat) : Option (Int32 × qS) := (g_C g a0 11).bind fun _ => (g_R g a0 11 3).bind fun v1 => (g_I g v1 10 3).bind fun v2 => L_X12_nextChoice_10 1000000000 a0 (v2 - 1) g
set_option maxHeartbeats 4000000 in
set_option maxRecDepth 100000 in
theorem c_X12_nextChoice (l : Launch) (E : qV) {g : qS} {a0 : Nat} {res : (Int32 × qS)} (hf : f_X12_nextChoice g a0 = some res) : q_MW l yX12_nextChoice cX12_nextChoice 2 (some .boolean) 0 0 E [.ref (q_ad E a0)] g (some (.int res.1)) res.2 ∧ ∃ fs, g a0 = some (.inr (11, fs)) := by
  unfold f_X12_nextChoice at hf
  obtain ⟨u9, hu9, hf⟩ := q_ob hf
  refine ⟨q_ofW (by decide) rfl ?_, g_C_sp hu9⟩
  intro p e s m args below meth c ls C hj hl
  have hx := C.1
  have hb := C.2.1
  have C : q_C E p s m args meth c cX12_nextChoice RX12 2 (some .boolean) := C
  have hl : lv_has ls 2 [(0, .ref (q_ad E a0))] := hl
  refine lv_aload_n hx hb dX12_nextChoice_0 rfl (lv_at hl 0 rfl) ?_
  refine q_getR C hj lk_X12_369 dX12_nextChoice_1 hf (fun v1 hf => ?_)
  refine q_getI C hj lk_X12_204 dX12_nextChoice_4 hf (fun v2 hf => ?_)
  refine lv_iconst (v := 1) hx hb dX12_nextChoice_7 qi_1 ?_
  refine lv_isub hx hb dX12_nextChoice_8 ?_
  refine lv_istore_n (lv' := [(1, .int (v2 - 1)), (0, .ref (q_ad E a0))]) hx hb dX12_nextChoice_9 rfl hl (by decide) rfl (fun ls hl => ?_)
  refine w_L_X12_nextChoice_10 C  hj (lv_sub hl [1, 0] rfl) hf
def L_X12_resting_4 (k22 : Nat → Int32 → Int32 → qS → Option (Int32 × qS)) : Nat → Nat → Int32 → Int32 → Int32 → qS → Option (Int32 × qS)
  | 0, _, _, _, _, _ => none
  | n + 1, x0, x1, x2, x3, g => if 5 ≤ x3 then (k22 x0 x1 x2 g) else ((g_R g x0 11 29).bind fun v1 => (s_I g v1 x3 0).bind fun g2 => L_X12_resting_4 k22 n x0 x1 x2 (x3 + 1) g2)
set_option maxHeartbeats 4000000 in
set_option maxRecDepth 100000 in
theorem w_L_X12_resting_4 {l : Launch} {E : qV} {p : Program} {e : Env} {s : State} {m : MethodId} {args : Array Value} {below : List Frame} {meth : Method} {c : Code} {k22 : Nat → Int32 → Int32 → qS → Option (Int32 × qS)} {res : (Int32 × qS)} (C : q_C E p s m args meth c cX12_resting RX12 5 (some .int)) (hk22 : ∀ (x0 : Nat) (x1 : Int32) (x2 : Int32) (g : qS) (H : Heap) (locs : List Loc) (ls : Array Slot), q_J E s g H locs → lv_has ls 5 [(0, .ref (q_ad E x0)), (1, .int x1), (2, .int x2)] → k22 x0 x1 x2 g = some res → W p l e (q_rm 2 49) s m args below meth c H locs 0 0 (q_ZW E below (some (.int res.1)) res.2 args s) (F0 m 22 ls [])) : ∀ {n : Nat} {x0 : Nat} {x1 : Int32} {x2 : Int32} {x3 : Int32} {g : qS} {H : Heap} {locs : List Loc} {ls : Array Slot}, q_J E s g H locs → lv_has ls 5 [(0, .ref (q_ad E x0)), (1, .int x1), (2, .int x2), (3, .int x3)] → L_X12_resting_4 k22 n x0 x1 x2 x3 g = some res → W p l e (q_rm 2 49) s m args below meth c H locs 0 0 (q_ZW E below (some (.int res.1)) res.2 args s) (F0 m 4 ls []) := by
  have hx := C.1
  have hb := C.2.1
  intro n
  induction n with
  | zero =>
    intro x0 x1 x2 x3 g H locs ls hj hl hf
    cases hf
  | succ n ih_ =>
    intro x0 x1 x2 x3 g H locs ls hj hl hf
    have ih : ∀ (x0 : Nat) (x1 : Int32) (x2 : Int32) (x3 : Int32) (g : qS) (H : Heap) (locs : List Loc) (ls : Array Slot), q_J E s g H locs → lv_has ls 5 [(0, .ref (q_ad E x0)), (1, .int x1), (2, .int x2), (3, .int x3)] → L_X12_resting_4 k22 n x0 x1 x2 x3 g = some res → W p l e (q_rm 2 49) s m args below meth c H locs 0 0 (q_ZW E below (some (.int res.1)) res.2 args s) (F0 m 4 ls []) := fun x0 x1 x2 x3 g H locs ls hj hl hf => ih_ hj hl hf
    unfold L_X12_resting_4 at hf
    refine lv_iload_n hx hb dX12_resting_4 rfl (lv_at hl 3 rfl) ?_
    refine lv_iconst (v := 5) hx hb dX12_resting_5 qi_5 ?_
    refine q_icge C (tgt := 22) dX12_resting_6 (by decide) hf (fun hf => ?_) (fun hf => ?_)
    · exact hk22 _ _ _ _ _ _ ls hj (lv_sub hl [0, 1, 2] rfl) hf
    · refine lv_aload_n hx hb dX12_resting_9 rfl (lv_at hl 0 rfl) ?_
      refine q_getR C hj lk_X12_42 dX12_resting_10 hf (fun v1 hf => ?_)
      refine lv_iload_n hx hb dX12_resting_13 rfl (lv_at hl 3 rfl) ?_
      refine lv_iconst (v := 0) hx hb dX12_resting_14 qi_0 ?_
      refine q_astI C hj dX12_resting_15 hf (fun g2 H locs hj hf => ?_)
      refine lv_iinc (v := x3 + 1) (lv' := [(3, .int (x3 + 1)), (0, .ref (q_ad E x0)), (1, .int x1), (2, .int x2)]) hx hb dX12_resting_16 hl (k := 3) rfl (by rw [qi_1]) (by decide) rfl (fun ls hl => ?_)
      refine lv_goto (tgt := 4) hx hb dX12_resting_19 (by decide) ?_
      exact ih _ _ _ _ _ _ _ ls hj (lv_sub hl [1, 2, 3, 0] rfl) hf
def L_X12_resting_39 (k69 : Nat → Int32 → Int32 → qS → Option (Int32 × qS)) : Nat → Nat → Int32 → Int32 → Int32 → qS → Option (Int32 × qS)
  | 0, _, _, _, _, _ => none
  | n + 1, x0, x1, x2, x4, g => if 5 ≤ x4 then (k69 x0 x1 x2 g) else (if x2 = 0 then ((g_R g x0 11 30).bind fun v1 => (g_R g x0 11 29).bind fun v2 => (a_I g v2 x4).bind fun v3 => (s_I g v1 x4 v3).bind fun g4 => L_X12_resting_39 k69 n x0 x1 x2 (x4 + 1) g4) else (k69 x0 x1 x2 g))
set_option maxHeartbeats 4000000 in
set_option maxRecDepth 100000 in
theorem w_L_X12_resting_39 {l : Launch} {E : qV} {p : Program} {e : Env} {s : State} {m : MethodId} {args : Array Value} {below : List Frame} {meth : Method} {c : Code} {k69 : Nat → Int32 → Int32 → qS → Option (Int32 × qS)} {res : (Int32 × qS)} (C : q_C E p s m args meth c cX12_resting RX12 5 (some .int)) (hk69 : ∀ (x0 : Nat) (x1 : Int32) (x2 : Int32) (g : qS) (H : Heap) (locs : List Loc) (ls : Array Slot), q_J E s g H locs → lv_has ls 5 [(0, .ref (q_ad E x0)), (1, .int x1), (2, .int x2)] → k69 x0 x1 x2 g = some res → W p l e (q_rm 2 49) s m args below meth c H locs 0 0 (q_ZW E below (some (.int res.1)) res.2 args s) (F0 m 69 ls [])) : ∀ {n : Nat} {x0 : Nat} {x1 : Int32} {x2 : Int32} {x4 : Int32} {g : qS} {H : Heap} {locs : List Loc} {ls : Array Slot}, q_J E s g H locs → lv_has ls 5 [(0, .ref (q_ad E x0)), (1, .int x1), (2, .int x2), (4, .int x4)] → L_X12_resting_39 k69 n x0 x1 x2 x4 g = some res → W p l e (q_rm 2 49) s m args below meth c H locs 0 0 (q_ZW E below (some (.int res.1)) res.2 args s) (F0 m 39 ls []) := by
  have hx := C.1
  have hb := C.2.1
  intro n
  induction n with
  | zero =>
    intro x0 x1 x2 x4 g H locs ls hj hl hf
    cases hf
  | succ n ih_ =>
    intro x0 x1 x2 x4 g H locs ls hj hl hf
    have ih : ∀ (x0 : Nat) (x1 : Int32) (x2 : Int32) (x4 : Int32) (g : qS) (H : Heap) (locs : List Loc) (ls : Array Slot), q_J E s g H locs → lv_has ls 5 [(0, .ref (q_ad E x0)), (1, .int x1), (2, .int x2), (4, .int x4)] → L_X12_resting_39 k69 n x0 x1 x2 x4 g = some res → W p l e (q_rm 2 49) s m args below meth c H locs 0 0 (q_ZW E below (some (.int res.1)) res.2 args s) (F0 m 39 ls []) := fun x0 x1 x2 x4 g H locs ls hj hl hf => ih_ hj hl hf
    unfold L_X12_resting_39 at hf
    refine lv_iload hx hb dX12_resting_39 (lv_at hl 3 rfl) ?_
    refine lv_iconst (v := 5) hx hb dX12_resting_41 qi_5 ?_
    refine q_icge C (tgt := 69) dX12_resting_42 (by decide) hf (fun hf => ?_) (fun hf => ?_)
    · exact hk69 _ _ _ _ _ _ ls hj (lv_sub hl [0, 1, 2] rfl) hf
    · refine lv_iload_n hx hb dX12_resting_45 rfl (lv_at hl 2 rfl) ?_
      refine q_ifne C (tgt := 69) dX12_resting_46 (by decide) hf (fun hf => ?_) (fun hf => ?_)
      · exact hk69 _ _ _ _ _ _ ls hj (lv_sub hl [0, 1, 2] rfl) hf
      · refine lv_aload_n hx hb dX12_resting_49 rfl (lv_at hl 0 rfl) ?_
        refine q_getR C hj lk_X12_45 dX12_resting_50 hf (fun v1 hf => ?_)
        refine lv_iload hx hb dX12_resting_53 (lv_at hl 3 rfl) ?_
        refine lv_aload_n hx hb dX12_resting_55 rfl (lv_at hl 0 rfl) ?_
        refine q_getR C hj lk_X12_42 dX12_resting_56 hf (fun v2 hf => ?_)
        refine lv_iload hx hb dX12_resting_59 (lv_at hl 3 rfl) ?_
        refine q_aldI C hj dX12_resting_61 hf (fun v3 hf => ?_)
        refine q_astI C hj dX12_resting_62 hf (fun g4 H locs hj hf => ?_)
        refine lv_iinc (v := x4 + 1) (lv' := [(4, .int (x4 + 1)), (0, .ref (q_ad E x0)), (1, .int x1), (2, .int x2)]) hx hb dX12_resting_63 hl (k := 3) rfl (by rw [qi_1]) (by decide) rfl (fun ls hl => ?_)
        refine lv_goto (tgt := 39) hx hb dX12_resting_66 (by decide) ?_
        exact ih _ _ _ _ _ _ _ ls hj (lv_sub hl [1, 2, 3, 0] rfl) hf
def L_X12_resting_24  : Nat → Nat → Int32 → Int32 → Int32 → qS → Option (Int32 × qS)
  | 0, _, _, _, _, _ => none
  | n + 1, x0, x1, x2, x3, g => if x3 = 0 then (some (x2, g)) else ((f_X12_isRest g x0 x1).bind fun v1 => if v1 = 0 then (q_b2 (f_X12_nextChoice g x0) fun v3 g2 => L_X12_resting_24 n x0 x1 x2 v3 g2) else (L_X12_resting_39 (fun y4 y5 y6 g7 => q_b2 (f_X12_nextChoice g7 y4) fun v9 g8 => L_X12_resting_24 n y4 y5 (y6 + 1) v9 g8) 1000000000 x0 x1 x2 0 g))
set_option maxHeartbeats 4000000 in
set_option maxRecDepth 100000 in
theorem w_L_X12_resting_24 {l : Launch} {E : qV} {p : Program} {e : Env} {s : State} {m : MethodId} {args : Array Value} {below : List Frame} {meth : Method} {c : Code}  {res : (Int32 × qS)} (C : q_C E p s m args meth c cX12_resting RX12 5 (some .int))  : ∀ {n : Nat} {x0 : Nat} {x1 : Int32} {x2 : Int32} {x3 : Int32} {g : qS} {H : Heap} {locs : List Loc} {ls : Array Slot}, q_J E s g H locs → lv_has ls 5 [(0, .ref (q_ad E x0)), (1, .int x1), (2, .int x2), (3, .int x3)] → L_X12_resting_24 n x0 x1 x2 x3 g = some res → W p l e (q_rm 2 49) s m args below meth c H locs 0 0 (q_ZW E below (some (.int res.1)) res.2 args s) (F0 m 24 ls []) := by
  have hx := C.1
  have hb := C.2.1
  intro n
  induction n with
  | zero =>
    intro x0 x1 x2 x3 g H locs ls hj hl hf
    cases hf
  | succ n ih_ =>
    intro x0 x1 x2 x3 g H locs ls hj hl hf
    have ih : ∀ (x0 : Nat) (x1 : Int32) (x2 : Int32) (x3 : Int32) (g : qS) (H : Heap) (locs : List Loc) (ls : Array Slot), q_J E s g H locs → lv_has ls 5 [(0, .ref (q_ad E x0)), (1, .int x1), (2, .int x2), (3, .int x3)] → L_X12_resting_24 n x0 x1 x2 x3 g = some res → W p l e (q_rm 2 49) s m args below meth c H locs 0 0 (q_ZW E below (some (.int res.1)) res.2 args s) (F0 m 24 ls []) := fun x0 x1 x2 x3 g H locs ls hj hl hf => ih_ hj hl hf
    unfold L_X12_resting_24 at hf
    refine lv_iload_n hx hb dX12_resting_24 rfl (lv_at hl 3 rfl) ?_
    refine q_ifeq C (tgt := 80) dX12_resting_25 (by decide) hf (fun hf => ?_) (fun hf => ?_)
    · refine lv_iload_n hx hb dX12_resting_80 rfl (lv_at hl 2 rfl) ?_
      exact q_iretW C hj dX12_resting_81 hf
    · refine lv_aload_n hx hb dX12_resting_28 rfl (lv_at hl 0 rfl) ?_
      refine lv_iload_n hx hb dX12_resting_29 rfl (lv_at hl 1 rfl) ?_
      refine q_cVRI C hj cw_X12_505 (As := [.int x1]) (rest := []) hf (fun v9 h9 => c_X12_isRest l E h9) rfl hl rfl rfl rfl dX12_resting_30 ⟨Nat.zero_le _, Nat.zero_le _⟩ (fun v1 hf => ?_)
      refine q_ifeq C (tgt := 72) dX12_resting_33 (by decide) hf (fun hf => ?_) (fun hf => ?_)
      · refine lv_aload_n hx hb dX12_resting_72 rfl (lv_at hl 0 rfl) ?_
        refine q_cVWI C hj cw_X12_508 (As := []) (rest := []) hf (fun v9 g9 h9 => c_X12_nextChoice l E h9) rfl hl rfl rfl rfl dX12_resting_73 ⟨Nat.zero_le _, Nat.zero_le _⟩ (fun v3 g2 H locs hj hf => ?_)
        refine lv_istore_n (lv' := [(3, .int v3), (0, .ref (q_ad E x0)), (1, .int x1), (2, .int x2)]) hx hb dX12_resting_76 rfl hl (by decide) rfl (fun ls hl => ?_)
        refine lv_goto (tgt := 24) hx hb dX12_resting_77 (by decide) ?_
        exact ih _ _ _ _ _ _ _ ls hj (lv_sub hl [1, 2, 3, 0] rfl) hf
      · refine lv_iconst (v := 0) hx hb dX12_resting_36 qi_0 ?_
        refine lv_istore (lv' := [(4, .int 0), (0, .ref (q_ad E x0)), (1, .int x1), (2, .int x2), (3, .int x3)]) hx hb dX12_resting_37 hl (by decide) rfl (fun ls hl => ?_)
        refine w_L_X12_resting_39 C (fun y4 y5 y6 g7 H locs ls hj hl hf => ?_) hj (lv_sub hl [1, 2, 3, 0] rfl) hf
        · refine lv_iinc (v := y6 + 1) (lv' := [(2, .int (y6 + 1)), (0, .ref (q_ad E y4)), (1, .int y5)]) hx hb dX12_resting_69 hl (k := 2) rfl (by rw [qi_1]) (by decide) rfl (fun ls hl => ?_)
          refine lv_aload_n hx hb dX12_resting_72 rfl (lv_at hl 1 rfl) ?_
          refine q_cVWI C hj cw_X12_508 (As := []) (rest := []) hf (fun v9 g9 h9 => c_X12_nextChoice l E h9) rfl hl rfl rfl rfl dX12_resting_73 ⟨Nat.zero_le _, Nat.zero_le _⟩ (fun v9 g8 H locs hj hf => ?_)
          refine lv_istore_n (lv' := [(3, .int v9), (2, .int (y6 + 1)), (0, .ref (q_ad E y4)), (1, .int y5)]) hx hb dX12_resting_76 rfl hl (by decide) rfl (fun ls hl => ?_)
          refine lv_goto (tgt := 24) hx hb dX12_resting_77 (by decide) ?_
          exact ih _ _ _ _ _ _ _ ls hj (lv_sub hl [2, 3, 1, 0] rfl) hf
def f_X12_resting (g : qS) (a0 : Nat) (a1 : Int32) : Option (Int32 × qS) := (g_C g a0 11).bind fun _ => L_X12_resting_4 (fun y1 y2 y3 g4 => L_X12_resting_24 1000000000 y1 y2 y3 1 g4) 1000000000 a0 a1 0 0 g
set_option maxHeartbeats 4000000 in
set_option maxRecDepth 100000 in
theorem c_X12_resting (l : Launch) (E : qV) {g : qS} {a0 : Nat} {a1 : Int32} {res : (Int32 × qS)} (hf : f_X12_resting g a0 a1 = some res) : q_MW l yX12_resting cX12_resting 5 (some .int) 2 49 E [.ref (q_ad E a0), .int a1] g (some (.int res.1)) res.2 ∧ ∃ fs, g a0 = some (.inr (11, fs)) := by
  unfold f_X12_resting at hf
  obtain ⟨u9, hu9, hf⟩ := q_ob hf
  refine ⟨q_ofW (by decide) rfl ?_, g_C_sp hu9⟩
  intro p e s m args below meth c ls C hj hl
  have hx := C.1
  have hb := C.2.1
  have C : q_C E p s m args meth c cX12_resting RX12 5 (some .int) := C
  have hl : lv_has ls 5 [(0, .ref (q_ad E a0)), (1, .int a1)] := hl
  refine lv_iconst (v := 0) hx hb dX12_resting_0 qi_0 ?_
  refine lv_istore_n (lv' := [(2, .int 0), (0, .ref (q_ad E a0)), (1, .int a1)]) hx hb dX12_resting_1 rfl hl (by decide) rfl (fun ls hl => ?_)
  refine lv_iconst (v := 0) hx hb dX12_resting_2 qi_0 ?_
  refine lv_istore_n (lv' := [(3, .int 0), (2, .int 0), (0, .ref (q_ad E a0)), (1, .int a1)]) hx hb dX12_resting_3 rfl hl (by decide) rfl (fun ls hl => ?_)
  refine w_L_X12_resting_4 C (fun y1 y2 y3 g4 H locs ls hj hl hf => ?_) hj (lv_sub hl [2, 3, 1, 0] rfl) hf
  · refine lv_iconst (v := 1) hx hb dX12_resting_22 qi_1 ?_
    refine lv_istore_n (lv' := [(3, .int 1), (0, .ref (q_ad E y1)), (1, .int y2), (2, .int y3)]) hx hb dX12_resting_23 rfl hl (by decide) rfl (fun ls hl => ?_)
    refine w_L_X12_resting_24 C  hj (lv_sub hl [1, 2, 3, 0] rfl) hf
def f_X12_refusesRests (g : qS) (a0 : Nat) (a1 : Int32) (a2 : Int32) : Option Int32 := (g_C g a0 11).bind fun _ => if a1 = 0 then (some 1) else ((g_R g a0 11 3).bind fun v1 => (g_I g v1 10 4).bind fun v2 => if v2 = 0 then (some 6) else ((f_X12_isDay g a0 a2).bind fun v3 => if v3 = 0 then (some 2) else (some 0)))
set_option maxHeartbeats 4000000 in
set_option maxRecDepth 100000 in
theorem c_X12_refusesRests (l : Launch) (E : qV) {g : qS} {a0 : Nat} {a1 : Int32} {a2 : Int32} {res : Int32} (hf : f_X12_refusesRests g a0 a1 a2 = some res) : q_MR l yX12_refusesRests cX12_refusesRests 3 (some .int) 1 21 E [.ref (q_ad E a0), .int a1, .int a2] g (some (.int res)) ∧ ∃ fs, g a0 = some (.inr (11, fs)) := by
  unfold f_X12_refusesRests at hf
  obtain ⟨u9, hu9, hf⟩ := q_ob hf
  refine ⟨q_ofR (by decide) rfl ?_, g_C_sp hu9⟩
  intro p e s m args below meth c ls C hw hl
  have hj : q_J E s g s.heap [] := ⟨hw, va_S.rf⟩
  have hx := C.1
  have hb := C.2.1
  have C : q_C E p s m args meth c cX12_refusesRests RX12 3 (some .int) := C
  have hl : lv_has ls 3 [(0, .ref (q_ad E a0)), (1, .int a1), (2, .int a2)] := hl
  refine lv_iload_n hx hb dX12_refusesRests_0 rfl (lv_at hl 1 rfl) ?_
  refine q_ifne C (tgt := 8) dX12_refusesRests_1 (by decide) hf (fun hf => ?_) (fun hf => ?_)
  · refine lv_aload_n hx hb dX12_refusesRests_8 rfl (lv_at hl 0 rfl) ?_
    refine q_getR C hj lk_X12_369 dX12_refusesRests_9 hf (fun v1 hf => ?_)
    refine q_getI C hj lk_X12_297 dX12_refusesRests_12 hf (fun v2 hf => ?_)
    refine q_ifne C (tgt := 23) dX12_refusesRests_15 (by decide) hf (fun hf => ?_) (fun hf => ?_)
    · refine lv_aload_n hx hb dX12_refusesRests_23 rfl (lv_at hl 0 rfl) ?_
      refine lv_iload_n hx hb dX12_refusesRests_24 rfl (lv_at hl 2 rfl) ?_
      refine q_cVRI C hj cw_X12_402 (As := [.int a2]) (rest := []) hf (fun v9 h9 => c_X12_isDay l E h9) rfl hl rfl rfl rfl dX12_refusesRests_25 ⟨Nat.zero_le _, Nat.zero_le _⟩ (fun v3 hf => ?_)
      refine q_ifeq C (tgt := 35) dX12_refusesRests_28 (by decide) hf (fun hf => ?_) (fun hf => ?_)
      · refine lv_iconst (v := 2) hx hb dX12_refusesRests_35 qi_2 ?_
        exact q_iretR C dX12_refusesRests_36 hf
      · refine lv_iconst (v := 0) hx hb dX12_refusesRests_31 qi_0 ?_
        refine lv_goto (tgt := 36) hx hb dX12_refusesRests_32 (by decide) ?_
        exact q_iretR C dX12_refusesRests_36 hf
    · refine lv_bipush (v := 6) hx hb dX12_refusesRests_18 (by decide) ?_
      refine lv_goto (tgt := 36) hx hb dX12_refusesRests_20 (by decide) ?_
      exact q_iretR C dX12_refusesRests_36 hf
  · refine lv_iconst (v := 1) hx hb dX12_refusesRests_4 qi_1 ?_
    refine lv_goto (tgt := 36) hx hb dX12_refusesRests_5 (by decide) ?_
    exact q_iretR C dX12_refusesRests_36 hf
def J_X12_rests_18  (x0 : Nat) (x1 : Int32) (t0 : Int32) (t1 : Nat) (g : qS) : Option (Int32 × qS) := (f_X12_refusesRests g t1 t0 x1).bind fun v1 => if v1 ≤ 0 then (q_b2 (f_X12_resting g x0 x1) fun v3 g2 => q_b2 (f_X12_good g2 x0 v3) fun v5 g4 => some (v5, g4)) else (q_b2 (f_X12_refused g x0 v1) fun v7 g6 => some (v7, g6))
set_option maxHeartbeats 4000000 in
set_option maxRecDepth 100000 in
theorem w_J_X12_rests_18 {l : Launch} {E : qV} {p : Program} {e : Env} {s : State} {m : MethodId} {args : Array Value} {below : List Frame} {meth : Method} {c : Code}  {res : (Int32 × qS)} (C : q_C E p s m args meth c cX12_rests RX12 3 (some .int))  : ∀ {x0 : Nat} {x1 : Int32} {t0 : Int32} {t1 : Nat} {g : qS} {H : Heap} {locs : List Loc} {ls : Array Slot}, q_J E s g H locs → lv_has ls 3 [(0, .ref (q_ad E x0)), (1, .int x1)] → J_X12_rests_18 x0 x1 t0 t1 g = some res → W p l e (q_rm 3 73) s m args below meth c H locs 0 0 (q_ZW E below (some (.int res.1)) res.2 args s) (F0 m 18 ls [.int t0, .ref (q_ad E t1)]) := by
  have hx := C.1
  have hb := C.2.1
  intro x0 x1 t0 t1 g H locs ls hj hl hf
  unfold J_X12_rests_18 at hf
  refine lv_iload_n hx hb dX12_rests_18 rfl (lv_at hl 1 rfl) ?_
  refine q_cVRI C hj cw_X12_511 (As := [.int t0, .int x1]) (rest := []) hf (fun v9 h9 => c_X12_refusesRests l E h9) rfl hl rfl rfl rfl dX12_rests_19 ⟨Nat.zero_le _, Nat.zero_le _⟩ (fun v1 hf => ?_)
  refine lv_istore_n (lv' := [(2, .int v1), (0, .ref (q_ad E x0)), (1, .int x1)]) hx hb dX12_rests_22 rfl hl (by decide) rfl (fun ls hl => ?_)
  refine lv_iload_n hx hb dX12_rests_23 rfl (lv_at hl 0 rfl) ?_
  refine q_ifle C (tgt := 35) dX12_rests_24 (by decide) hf (fun hf => ?_) (fun hf => ?_)
  · refine lv_aload_n hx hb dX12_rests_35 rfl (lv_at hl 1 rfl) ?_
    refine lv_aload_n hx hb dX12_rests_36 rfl (lv_at hl 1 rfl) ?_
    refine lv_iload_n hx hb dX12_rests_37 rfl (lv_at hl 2 rfl) ?_
    refine q_cVWI C hj cw_X12_514 (As := [.int x1]) (rest := [.ref (q_ad E x0)]) hf (fun v9 g9 h9 => c_X12_resting l E h9) rfl hl rfl rfl rfl dX12_rests_38 ⟨Nat.zero_le _, Nat.zero_le _⟩ (fun v3 g2 H locs hj hf => ?_)
    refine q_cVWI C hj cw_X12_58 (As := [.int v3]) (rest := []) hf (fun v9 g9 h9 => c_X12_good l E h9) rfl hl rfl rfl rfl dX12_rests_41 ⟨Nat.zero_le _, Nat.zero_le _⟩ (fun v5 g4 H locs hj hf => ?_)
    exact q_iretW C hj dX12_rests_44 hf
  · refine lv_aload_n hx hb dX12_rests_27 rfl (lv_at hl 1 rfl) ?_
    refine lv_iload_n hx hb dX12_rests_28 rfl (lv_at hl 0 rfl) ?_
    refine q_cVWI C hj cw_X12_54 (As := [.int v1]) (rest := []) hf (fun v9 g9 h9 => c_X12_refused l E h9) rfl hl rfl rfl rfl dX12_rests_29 ⟨Nat.zero_le _, Nat.zero_le _⟩ (fun v7 g6 H locs hj hf => ?_)
    refine lv_goto (tgt := 44) hx hb dX12_rests_32 (by decide) ?_
    exact q_iretW C hj dX12_rests_44 hf
def f_X12_rests (g : qS) (a0 : Nat) (a1 : Int32) : Option (Int32 × qS) := (g_C g a0 11).bind fun _ => (p_I g a0 11 0 0).bind fun g1 => (g_Q g1 a0 11 3).bind fun o => if o = none then (J_X12_rests_18 a0 a1 0 a0 g1) else (J_X12_rests_18 a0 a1 1 a0 g1)
set_option maxHeartbeats 4000000 in
set_option maxRecDepth 100000 in
theorem c_X12_rests (l : Launch) (E : qV) {g : qS} {a0 : Nat} {a1 : Int32} {res : (Int32 × qS)} (hf : f_X12_rests g a0 a1 = some res) : q_MW l yX12_rests cX12_rests 3 (some .int) 3 73 E [.ref (q_ad E a0), .int a1] g (some (.int res.1)) res.2 ∧ ∃ fs, g a0 = some (.inr (11, fs)) := by
  unfold f_X12_rests at hf
  obtain ⟨u9, hu9, hf⟩ := q_ob hf
  refine ⟨q_ofW (by decide) rfl ?_, g_C_sp hu9⟩
  intro p e s m args below meth c ls C hj hl
  have hx := C.1
  have hb := C.2.1
  have C : q_C E p s m args meth c cX12_rests RX12 3 (some .int) := C
  have hl : lv_has ls 3 [(0, .ref (q_ad E a0)), (1, .int a1)] := hl
  refine lv_aload_n hx hb dX12_rests_0 rfl (lv_at hl 0 rfl) ?_
  refine lv_iconst (v := 0) hx hb dX12_rests_1 qi_0 ?_
  refine q_putI C hj fp_X12_48 dX12_rests_2 hf (fun g1 H locs hj hf => ?_)
  refine lv_aload_n hx hb dX12_rests_5 rfl (lv_at hl 0 rfl) ?_
  refine lv_aload_n hx hb dX12_rests_6 rfl (lv_at hl 0 rfl) ?_
  refine q_gnull C hj lk_X12_369 dX12_rests_7 (tgt := 17) dX12_rests_10 (by decide) hf (fun hf => ?_) (fun hf => ?_)
  · refine lv_iconst (v := 0) hx hb dX12_rests_17 qi_0 ?_
    refine w_J_X12_rests_18 C  hj (lv_sub hl [0, 1] rfl) hf
  · refine lv_iconst (v := 1) hx hb dX12_rests_13 qi_1 ?_
    refine lv_goto (tgt := 18) hx hb dX12_rests_14 (by decide) ?_
    refine w_J_X12_rests_18 C  hj (lv_sub hl [0, 1] rfl) hf
def f_X12_restOf (g : qS) (a0 : Nat) (a1 : Int32) (a2 : Int32) : Option (Int32 × qS) := (g_C g a0 11).bind fun _ => (p_I g a0 11 0 0).bind fun g1 => (f_X12_isPerson g1 a0 a2).bind fun v2 => (f_X12_refusesRests g1 a0 v2 a1).bind fun v3 => if v3 ≤ 0 then (q_b2 (f_X12_resting g1 a0 a1) fun v5 g4 => if v5 = 0 then (q_b2 (f_X12_good g4 a0 (-2)) fun v11 g10 => some (v11, g10)) else ((g_R g4 a0 11 30).bind fun v6 => (a_I g4 v6 a2).bind fun v7 => q_b2 (f_X12_good g4 a0 v7) fun v9 g8 => some (v9, g8))) else (q_b2 (f_X12_refused g1 a0 v3) fun v13 g12 => some (v13, g12))
set_option maxHeartbeats 4000000 in
set_option maxRecDepth 100000 in
theorem c_X12_restOf (l : Launch) (E : qV) {g : qS} {a0 : Nat} {a1 : Int32} {a2 : Int32} {res : (Int32 × qS)} (hf : f_X12_restOf g a0 a1 a2 = some res) : q_MW l yX12_restOf cX12_restOf 4 (some .int) 3 73 E [.ref (q_ad E a0), .int a1, .int a2] g (some (.int res.1)) res.2 ∧ ∃ fs, g a0 = some (.inr (11, fs)) := by
  unfold f_X12_restOf at hf
  obtain ⟨u9, hu9, hf⟩ := q_ob hf
  refine ⟨q_ofW (by decide) rfl ?_, g_C_sp hu9⟩
  intro p e s m args below meth c ls C hj hl
  have hx := C.1
  have hb := C.2.1
  have C : q_C E p s m args meth c cX12_restOf RX12 4 (some .int) := C
  have hl : lv_has ls 4 [(0, .ref (q_ad E a0)), (1, .int a1), (2, .int a2)] := hl
  refine lv_aload_n hx hb dX12_restOf_0 rfl (lv_at hl 0 rfl) ?_
  refine lv_iconst (v := 0) hx hb dX12_restOf_1 qi_0 ?_
  refine q_putI C hj fp_X12_48 dX12_restOf_2 hf (fun g1 H locs hj hf => ?_)
  refine lv_aload_n hx hb dX12_restOf_5 rfl (lv_at hl 0 rfl) ?_
  refine lv_aload_n hx hb dX12_restOf_6 rfl (lv_at hl 0 rfl) ?_
  refine lv_iload_n hx hb dX12_restOf_7 rfl (lv_at hl 2 rfl) ?_
  refine q_cVRI C hj cw_X12_408 (As := [.int a2]) (rest := [.ref (q_ad E a0)]) hf (fun v9 h9 => c_X12_isPerson l E h9) rfl hl rfl rfl rfl dX12_restOf_8 ⟨Nat.zero_le _, Nat.zero_le _⟩ (fun v2 hf => ?_)
  refine lv_iload_n hx hb dX12_restOf_11 rfl (lv_at hl 1 rfl) ?_
  refine q_cVRI C hj cw_X12_511 (As := [.int v2, .int a1]) (rest := []) hf (fun v9 h9 => c_X12_refusesRests l E h9) rfl hl rfl rfl rfl dX12_restOf_12 ⟨Nat.zero_le _, Nat.zero_le _⟩ (fun v3 hf => ?_)
  refine lv_istore_n (lv' := [(3, .int v3), (0, .ref (q_ad E a0)), (1, .int a1), (2, .int a2)]) hx hb dX12_restOf_15 rfl hl (by decide) rfl (fun ls hl => ?_)
  refine lv_iload_n hx hb dX12_restOf_16 rfl (lv_at hl 0 rfl) ?_
  refine q_ifle C (tgt := 26) dX12_restOf_17 (by decide) hf (fun hf => ?_) (fun hf => ?_)
  · refine lv_aload_n hx hb dX12_restOf_26 rfl (lv_at hl 1 rfl) ?_
    refine lv_aload_n hx hb dX12_restOf_27 rfl (lv_at hl 1 rfl) ?_
    refine lv_iload_n hx hb dX12_restOf_28 rfl (lv_at hl 2 rfl) ?_
    refine q_cVWI C hj cw_X12_514 (As := [.int a1]) (rest := [.ref (q_ad E a0)]) hf (fun v9 g9 h9 => c_X12_resting l E h9) rfl hl rfl rfl rfl dX12_restOf_29 ⟨Nat.zero_le _, Nat.zero_le _⟩ (fun v5 g4 H locs hj hf => ?_)
    refine q_ifne C (tgt := 40) dX12_restOf_32 (by decide) hf (fun hf => ?_) (fun hf => ?_)
    · refine lv_aload_n hx hb dX12_restOf_40 rfl (lv_at hl 1 rfl) ?_
      refine q_getR C hj lk_X12_45 dX12_restOf_41 hf (fun v6 hf => ?_)
      refine lv_iload_n hx hb dX12_restOf_44 rfl (lv_at hl 3 rfl) ?_
      refine q_aldI C hj dX12_restOf_45 hf (fun v7 hf => ?_)
      refine q_cVWI C hj cw_X12_58 (As := [.int v7]) (rest := []) hf (fun v9 g9 h9 => c_X12_good l E h9) rfl hl rfl rfl rfl dX12_restOf_46 ⟨Nat.zero_le _, Nat.zero_le _⟩ (fun v9 g8 H locs hj hf => ?_)
      exact q_iretW C hj dX12_restOf_49 hf
    · refine lv_bipush (v := -2) hx hb dX12_restOf_35 (by decide) ?_
      refine lv_goto (tgt := 46) hx hb dX12_restOf_37 (by decide) ?_
      refine q_cVWI C hj cw_X12_58 (As := [.int (-2)]) (rest := []) hf (fun v9 g9 h9 => c_X12_good l E h9) rfl hl rfl rfl rfl dX12_restOf_46 ⟨Nat.zero_le _, Nat.zero_le _⟩ (fun v11 g10 H locs hj hf => ?_)
      exact q_iretW C hj dX12_restOf_49 hf
  · refine lv_aload_n hx hb dX12_restOf_20 rfl (lv_at hl 1 rfl) ?_
    refine lv_iload_n hx hb dX12_restOf_21 rfl (lv_at hl 0 rfl) ?_
    refine q_cVWI C hj cw_X12_54 (As := [.int v3]) (rest := []) hf (fun v9 g9 h9 => c_X12_refused l E h9) rfl hl rfl rfl rfl dX12_restOf_22 ⟨Nat.zero_le _, Nat.zero_le _⟩ (fun v13 g12 H locs hj hf => ?_)
    exact q_iretW C hj dX12_restOf_25 hf
def J_X12_isLimit_68 (k2 : Nat → Int32 → Int32 → Option Int32) (g : qS) (x0 : Nat) (x1 : Int32) (x2 : Int32) (t0 : Int32) : Option Int32 := (g_R g x0 11 3).bind fun v1 => (g_R g v1 10 31).bind fun v2 => (a_Z g v2 x2).bind fun v3 => if t0 = v3 then (k2 x0 x1 (x2 + 1)) else (some 0)
set_option maxHeartbeats 4000000 in
set_option maxRecDepth 100000 in
theorem w_J_X12_isLimit_68 {l : Launch} {E : qV} {p : Program} {e : Env} {s : State} {m : MethodId} {args : Array Value} {below : List Frame} {meth : Method} {c : Code} {k2 : Nat → Int32 → Int32 → Option Int32} {g : qS} {res : Int32} (C : q_C E p s m args meth c cX12_isLimit RX12 4 (some .boolean)) (hk2 : ∀ (x0 : Nat) (x1 : Int32) (x2 : Int32) (ls : Array Slot), q_J E s g s.heap [] → lv_has ls 4 [(0, .ref (q_ad E x0)), (1, .int x1), (2, .int x2)] → k2 x0 x1 x2 = some res → W p l e (q_rm 1 26) s m args below meth c s.heap [] 0 0 (q_ZR below (some (.int res)) args s) (F0 m 2 ls [])) : ∀ {x0 : Nat} {x1 : Int32} {x2 : Int32} {t0 : Int32} {ls : Array Slot}, q_J E s g s.heap [] → lv_has ls 4 [(0, .ref (q_ad E x0)), (1, .int x1), (2, .int x2)] → J_X12_isLimit_68 k2 g x0 x1 x2 t0 = some res → W p l e (q_rm 1 26) s m args below meth c s.heap [] 0 0 (q_ZR below (some (.int res)) args s) (F0 m 68 ls [.int t0]) := by
  have hx := C.1
  have hb := C.2.1
  intro x0 x1 x2 t0 ls hj hl hf
  unfold J_X12_isLimit_68 at hf
  refine lv_aload_n hx hb dX12_isLimit_68 rfl (lv_at hl 0 rfl) ?_
  refine q_getR C hj lk_X12_369 dX12_isLimit_69 hf (fun v1 hf => ?_)
  refine q_getR C hj lk_X12_358 dX12_isLimit_72 hf (fun v2 hf => ?_)
  refine lv_iload_n hx hb dX12_isLimit_75 rfl (lv_at hl 2 rfl) ?_
  refine q_aldZ C hj dX12_isLimit_76 hf (fun v3 hf => ?_)
  refine q_iceq C (tgt := 82) dX12_isLimit_77 (by decide) hf (fun hf => ?_) (fun hf => ?_)
  · refine lv_iinc (v := x2 + 1) (lv' := [(2, .int (x2 + 1)), (0, .ref (q_ad E x0)), (1, .int x1)]) hx hb dX12_isLimit_82 hl (k := 2) rfl (by rw [qi_1]) (by decide) rfl (fun ls hl => ?_)
    refine lv_goto (tgt := 2) hx hb dX12_isLimit_85 (by decide) ?_
    exact hk2 _ _ _  ls hj (lv_sub hl [1, 2, 0] rfl) hf
  · refine lv_iconst (v := 0) hx hb dX12_isLimit_80 qi_0 ?_
    exact q_z0retR C dX12_isLimit_81 hf
def L_X12_isLimit_2  (g : qS) : Nat → Nat → Int32 → Int32 → Option Int32
  | 0, _, _, _ => none
  | n + 1, x0, x1, x2 => (g_R g x0 11 3).bind fun v1 => (g_I g v1 10 9).bind fun v2 => if v2 ≤ x2 then (some 1) else ((g_R g x0 11 3).bind fun v3 => (g_R g x0 11 3).bind fun v4 => (g_R g v4 10 27).bind fun v5 => (a_I g v5 x2).bind fun v6 => (g_R g x0 11 3).bind fun v7 => (g_R g v7 10 28).bind fun v8 => (a_I g v8 x2).bind fun v9 => (g_R g x0 11 3).bind fun v10 => (g_R g v10 10 29).bind fun v11 => (a_I g v11 x2).bind fun v12 => (g_R g x0 11 3).bind fun v13 => (g_R g v13 10 30).bind fun v14 => (a_I g v14 x2).bind fun v15 => (f_X11_near g v3 v6 v9 v12 v15 0).bind fun v16 => if v16 ≤ x1 then (J_X12_isLimit_68 (L_X12_isLimit_2 g n) g x0 x1 x2 0) else (J_X12_isLimit_68 (L_X12_isLimit_2 g n) g x0 x1 x2 1))
set_option maxHeartbeats 4000000 in
set_option maxRecDepth 100000 in
theorem w_L_X12_isLimit_2 {l : Launch} {E : qV} {p : Program} {e : Env} {s : State} {m : MethodId} {args : Array Value} {below : List Frame} {meth : Method} {c : Code}  {g : qS} {res : Int32} (C : q_C E p s m args meth c cX12_isLimit RX12 4 (some .boolean))  : ∀ {n : Nat} {x0 : Nat} {x1 : Int32} {x2 : Int32} {ls : Array Slot}, q_J E s g s.heap [] → lv_has ls 4 [(0, .ref (q_ad E x0)), (1, .int x1), (2, .int x2)] → L_X12_isLimit_2 g n x0 x1 x2 = some res → W p l e (q_rm 1 26) s m args below meth c s.heap [] 0 0 (q_ZR below (some (.int res)) args s) (F0 m 2 ls []) := by
  have hx := C.1
  have hb := C.2.1
  intro n
  induction n with
  | zero =>
    intro x0 x1 x2 ls hj hl hf
    cases hf
  | succ n ih_ =>
    intro x0 x1 x2 ls hj hl hf
    have ih : ∀ (x0 : Nat) (x1 : Int32) (x2 : Int32) (ls : Array Slot), q_J E s g s.heap [] → lv_has ls 4 [(0, .ref (q_ad E x0)), (1, .int x1), (2, .int x2)] → L_X12_isLimit_2 g n x0 x1 x2 = some res → W p l e (q_rm 1 26) s m args below meth c s.heap [] 0 0 (q_ZR below (some (.int res)) args s) (F0 m 2 ls []) := fun x0 x1 x2 ls hj hl hf => ih_ hj hl hf
    unfold L_X12_isLimit_2 at hf
    refine lv_iload_n hx hb dX12_isLimit_2 rfl (lv_at hl 2 rfl) ?_
    refine lv_aload_n hx hb dX12_isLimit_3 rfl (lv_at hl 0 rfl) ?_
    refine q_getR C hj lk_X12_369 dX12_isLimit_4 hf (fun v1 hf => ?_)
    refine q_getI C hj lk_X12_339 dX12_isLimit_7 hf (fun v2 hf => ?_)
    refine q_icge C (tgt := 88) dX12_isLimit_10 (by decide) hf (fun hf => ?_) (fun hf => ?_)
    · refine lv_iconst (v := 1) hx hb dX12_isLimit_88 qi_1 ?_
      exact q_z1retR C dX12_isLimit_89 hf
    · refine lv_aload_n hx hb dX12_isLimit_13 rfl (lv_at hl 0 rfl) ?_
      refine q_getR C hj lk_X12_369 dX12_isLimit_14 hf (fun v3 hf => ?_)
      refine lv_aload_n hx hb dX12_isLimit_17 rfl (lv_at hl 0 rfl) ?_
      refine q_getR C hj lk_X12_369 dX12_isLimit_18 hf (fun v4 hf => ?_)
      refine q_getR C hj lk_X12_346 dX12_isLimit_21 hf (fun v5 hf => ?_)
      refine lv_iload_n hx hb dX12_isLimit_24 rfl (lv_at hl 2 rfl) ?_
      refine q_aldI C hj dX12_isLimit_25 hf (fun v6 hf => ?_)
      refine lv_aload_n hx hb dX12_isLimit_26 rfl (lv_at hl 0 rfl) ?_
      refine q_getR C hj lk_X12_369 dX12_isLimit_27 hf (fun v7 hf => ?_)
      refine q_getR C hj lk_X12_349 dX12_isLimit_30 hf (fun v8 hf => ?_)
      refine lv_iload_n hx hb dX12_isLimit_33 rfl (lv_at hl 2 rfl) ?_
      refine q_aldI C hj dX12_isLimit_34 hf (fun v9 hf => ?_)
      refine lv_aload_n hx hb dX12_isLimit_35 rfl (lv_at hl 0 rfl) ?_
      refine q_getR C hj lk_X12_369 dX12_isLimit_36 hf (fun v10 hf => ?_)
      refine q_getR C hj lk_X12_352 dX12_isLimit_39 hf (fun v11 hf => ?_)
      refine lv_iload_n hx hb dX12_isLimit_42 rfl (lv_at hl 2 rfl) ?_
      refine q_aldI C hj dX12_isLimit_43 hf (fun v12 hf => ?_)
      refine lv_aload_n hx hb dX12_isLimit_44 rfl (lv_at hl 0 rfl) ?_
      refine q_getR C hj lk_X12_369 dX12_isLimit_45 hf (fun v13 hf => ?_)
      refine q_getR C hj lk_X12_355 dX12_isLimit_48 hf (fun v14 hf => ?_)
      refine lv_iload_n hx hb dX12_isLimit_51 rfl (lv_at hl 2 rfl) ?_
      refine q_aldI C hj dX12_isLimit_52 hf (fun v15 hf => ?_)
      refine lv_iconst (v := 0) hx hb dX12_isLimit_53 qi_0 ?_
      refine q_cVRI C hj cw_X12_384 (As := [.int v6, .int v9, .int v12, .int v15, .int 0]) (rest := []) hf (fun v9 h9 => c_X11_near l E h9) rfl hl rfl rfl rfl dX12_isLimit_54 ⟨Nat.zero_le _, Nat.zero_le _⟩ (fun v16 hf => ?_)
      refine lv_istore_n (lv' := [(3, .int v16), (0, .ref (q_ad E x0)), (1, .int x1), (2, .int x2)]) hx hb dX12_isLimit_57 rfl hl (by decide) rfl (fun ls hl => ?_)
      refine lv_iload_n hx hb dX12_isLimit_58 rfl (lv_at hl 0 rfl) ?_
      refine lv_iload_n hx hb dX12_isLimit_59 rfl (lv_at hl 2 rfl) ?_
      refine q_icle C (tgt := 67) dX12_isLimit_60 (by decide) hf (fun hf => ?_) (fun hf => ?_)
      · refine lv_iconst (v := 0) hx hb dX12_isLimit_67 qi_0 ?_
        refine w_J_X12_isLimit_68 C ih hj (lv_sub hl [1, 2, 3] rfl) hf
      · refine lv_iconst (v := 1) hx hb dX12_isLimit_63 qi_1 ?_
        refine lv_goto (tgt := 68) hx hb dX12_isLimit_64 (by decide) ?_
        refine w_J_X12_isLimit_68 C ih hj (lv_sub hl [1, 2, 3] rfl) hf
def f_X12_isLimit (g : qS) (a0 : Nat) (a1 : Int32) : Option Int32 := (g_C g a0 11).bind fun _ => L_X12_isLimit_2 g 1000000000 a0 a1 0
set_option maxHeartbeats 4000000 in
set_option maxRecDepth 100000 in
theorem c_X12_isLimit (l : Launch) (E : qV) {g : qS} {a0 : Nat} {a1 : Int32} {res : Int32} (hf : f_X12_isLimit g a0 a1 = some res) : q_MR l yX12_isLimit cX12_isLimit 4 (some .boolean) 1 26 E [.ref (q_ad E a0), .int a1] g (some (.int res)) ∧ ∃ fs, g a0 = some (.inr (11, fs)) := by
  unfold f_X12_isLimit at hf
  obtain ⟨u9, hu9, hf⟩ := q_ob hf
  refine ⟨q_ofR (by decide) rfl ?_, g_C_sp hu9⟩
  intro p e s m args below meth c ls C hw hl
  have hj : q_J E s g s.heap [] := ⟨hw, va_S.rf⟩
  have hx := C.1
  have hb := C.2.1
  have C : q_C E p s m args meth c cX12_isLimit RX12 4 (some .boolean) := C
  have hl : lv_has ls 4 [(0, .ref (q_ad E a0)), (1, .int a1)] := hl
  refine lv_iconst (v := 0) hx hb dX12_isLimit_0 qi_0 ?_
  refine lv_istore_n (lv' := [(2, .int 0), (0, .ref (q_ad E a0)), (1, .int a1)]) hx hb dX12_isLimit_1 rfl hl (by decide) rfl (fun ls hl => ?_)
  refine w_L_X12_isLimit_2 C  hj (lv_sub hl [1, 2, 0] rfl) hf
def L_X12_limit_23  : Nat → Nat → Int32 → Int32 → Int32 → qS → Option (Int32 × qS)
  | 0, _, _, _, _, _ => none
  | n + 1, x0, x1, x2, x3, g => if 100 < x3 then (q_b2 (f_X12_good g x0 x2) fun v2 g1 => some (v2, g1)) else ((f_X12_isLimit g x0 x3).bind fun v3 => if v3 = 0 then (L_X12_limit_23 n x0 x1 x2 (x3 + 1) g) else (if x1 = 0 then (if x2 = (-2) then (L_X12_limit_23 n x0 x1 x3 (x3 + 1) g) else (L_X12_limit_23 n x0 x1 x2 (x3 + 1) g)) else (L_X12_limit_23 n x0 x1 x3 (x3 + 1) g)))
set_option maxHeartbeats 4000000 in
set_option maxRecDepth 100000 in
theorem w_L_X12_limit_23 {l : Launch} {E : qV} {p : Program} {e : Env} {s : State} {m : MethodId} {args : Array Value} {below : List Frame} {meth : Method} {c : Code}  {res : (Int32 × qS)} (C : q_C E p s m args meth c cX12_limit RX12 4 (some .int))  : ∀ {n : Nat} {x0 : Nat} {x1 : Int32} {x2 : Int32} {x3 : Int32} {g : qS} {H : Heap} {locs : List Loc} {ls : Array Slot}, q_J E s g H locs → lv_has ls 4 [(0, .ref (q_ad E x0)), (1, .int x1), (2, .int x2), (3, .int x3)] → L_X12_limit_23 n x0 x1 x2 x3 g = some res → W p l e (q_rm 2 49) s m args below meth c H locs 0 0 (q_ZW E below (some (.int res.1)) res.2 args s) (F0 m 23 ls []) := by
  have hx := C.1
  have hb := C.2.1
  intro n
  induction n with
  | zero =>
    intro x0 x1 x2 x3 g H locs ls hj hl hf
    cases hf
  | succ n ih_ =>
    intro x0 x1 x2 x3 g H locs ls hj hl hf
    have ih : ∀ (x0 : Nat) (x1 : Int32) (x2 : Int32) (x3 : Int32) (g : qS) (H : Heap) (locs : List Loc) (ls : Array Slot), q_J E s g H locs → lv_has ls 4 [(0, .ref (q_ad E x0)), (1, .int x1), (2, .int x2), (3, .int x3)] → L_X12_limit_23 n x0 x1 x2 x3 g = some res → W p l e (q_rm 2 49) s m args below meth c H locs 0 0 (q_ZW E below (some (.int res.1)) res.2 args s) (F0 m 23 ls []) := fun x0 x1 x2 x3 g H locs ls hj hl hf => ih_ hj hl hf
    unfold L_X12_limit_23 at hf
    refine lv_iload_n hx hb dX12_limit_23 rfl (lv_at hl 3 rfl) ?_
    refine lv_bipush (v := 100) hx hb dX12_limit_24 (by decide) ?_
    refine q_icgt C (tgt := 55) dX12_limit_26 (by decide) hf (fun hf => ?_) (fun hf => ?_)
    · refine lv_aload_n hx hb dX12_limit_55 rfl (lv_at hl 0 rfl) ?_
      refine lv_iload_n hx hb dX12_limit_56 rfl (lv_at hl 2 rfl) ?_
      refine q_cVWI C hj cw_X12_58 (As := [.int x2]) (rest := []) hf (fun v9 g9 h9 => c_X12_good l E h9) rfl hl rfl rfl rfl dX12_limit_57 ⟨Nat.zero_le _, Nat.zero_le _⟩ (fun v2 g1 H locs hj hf => ?_)
      exact q_iretW C hj dX12_limit_60 hf
    · refine lv_aload_n hx hb dX12_limit_29 rfl (lv_at hl 0 rfl) ?_
      refine lv_iload_n hx hb dX12_limit_30 rfl (lv_at hl 3 rfl) ?_
      refine q_cVRI C hj cw_X12_517 (As := [.int x3]) (rest := []) hf (fun v9 h9 => c_X12_isLimit l E h9) rfl hl rfl rfl rfl dX12_limit_31 ⟨Nat.zero_le _, Nat.zero_le _⟩ (fun v3 hf => ?_)
      refine q_ifeq C (tgt := 49) dX12_limit_34 (by decide) hf (fun hf => ?_) (fun hf => ?_)
      · refine lv_iinc (v := x3 + 1) (lv' := [(3, .int (x3 + 1)), (0, .ref (q_ad E x0)), (1, .int x1), (2, .int x2)]) hx hb dX12_limit_49 hl (k := 3) rfl (by rw [qi_1]) (by decide) rfl (fun ls hl => ?_)
        refine lv_goto (tgt := 23) hx hb dX12_limit_52 (by decide) ?_
        exact ih _ _ _ _ _ _ _ ls hj (lv_sub hl [1, 2, 3, 0] rfl) hf
      · refine lv_iload_n hx hb dX12_limit_37 rfl (lv_at hl 1 rfl) ?_
        refine q_ifne C (tgt := 47) dX12_limit_38 (by decide) hf (fun hf => ?_) (fun hf => ?_)
        · refine lv_iload_n hx hb dX12_limit_47 rfl (lv_at hl 3 rfl) ?_
          refine lv_istore_n (lv' := [(2, .int x3), (0, .ref (q_ad E x0)), (1, .int x1), (3, .int x3)]) hx hb dX12_limit_48 rfl hl (by decide) rfl (fun ls hl => ?_)
          refine lv_iinc (v := x3 + 1) (lv' := [(3, .int (x3 + 1)), (2, .int x3), (0, .ref (q_ad E x0)), (1, .int x1)]) hx hb dX12_limit_49 hl (k := 3) rfl (by rw [qi_1]) (by decide) rfl (fun ls hl => ?_)
          refine lv_goto (tgt := 23) hx hb dX12_limit_52 (by decide) ?_
          exact ih _ _ _ _ _ _ _ ls hj (lv_sub hl [2, 3, 1, 0] rfl) hf
        · refine lv_iload_n hx hb dX12_limit_41 rfl (lv_at hl 2 rfl) ?_
          refine lv_bipush (v := -2) hx hb dX12_limit_42 (by decide) ?_
          refine q_icne C (tgt := 49) dX12_limit_44 (by decide) hf (fun hf => ?_) (fun hf => ?_)
          · refine lv_iinc (v := x3 + 1) (lv' := [(3, .int (x3 + 1)), (0, .ref (q_ad E x0)), (1, .int x1), (2, .int x2)]) hx hb dX12_limit_49 hl (k := 3) rfl (by rw [qi_1]) (by decide) rfl (fun ls hl => ?_)
            refine lv_goto (tgt := 23) hx hb dX12_limit_52 (by decide) ?_
            exact ih _ _ _ _ _ _ _ ls hj (lv_sub hl [1, 2, 3, 0] rfl) hf
          · refine lv_iload_n hx hb dX12_limit_47 rfl (lv_at hl 3 rfl) ?_
            refine lv_istore_n (lv' := [(2, .int x3), (0, .ref (q_ad E x0)), (1, .int x1), (3, .int x3)]) hx hb dX12_limit_48 rfl hl (by decide) rfl (fun ls hl => ?_)
            refine lv_iinc (v := x3 + 1) (lv' := [(3, .int (x3 + 1)), (2, .int x3), (0, .ref (q_ad E x0)), (1, .int x1)]) hx hb dX12_limit_49 hl (k := 3) rfl (by rw [qi_1]) (by decide) rfl (fun ls hl => ?_)
            refine lv_goto (tgt := 23) hx hb dX12_limit_52 (by decide) ?_
            exact ih _ _ _ _ _ _ _ ls hj (lv_sub hl [2, 3, 1, 0] rfl) hf
def f_X12_limit (g : qS) (a0 : Nat) (a1 : Int32) : Option (Int32 × qS) := (g_C g a0 11).bind fun _ => (p_I g a0 11 0 0).bind fun g1 => (g_Q g1 a0 11 3).bind fun o => if o = none then (q_b2 (f_X12_refused g1 a0 1) fun v3 g2 => some (v3, g2)) else (L_X12_limit_23 1000000000 a0 a1 (-2) 0 g1)
set_option maxHeartbeats 4000000 in
set_option maxRecDepth 100000 in
theorem c_X12_limit (l : Launch) (E : qV) {g : qS} {a0 : Nat} {a1 : Int32} {res : (Int32 × qS)} (hf : f_X12_limit g a0 a1 = some res) : q_MW l yX12_limit cX12_limit 4 (some .int) 2 49 E [.ref (q_ad E a0), .int a1] g (some (.int res.1)) res.2 ∧ ∃ fs, g a0 = some (.inr (11, fs)) := by
  unfold f_X12_limit at hf
  obtain ⟨u9, hu9, hf⟩ := q_ob hf
  refine ⟨q_ofW (by decide) rfl ?_, g_C_sp hu9⟩
  intro p e s m args below meth c ls C hj hl
  have hx := C.1
  have hb := C.2.1
  have C : q_C E p s m args meth c cX12_limit RX12 4 (some .int) := C
  have hl : lv_has ls 4 [(0, .ref (q_ad E a0)), (1, .int a1)] := hl
  refine lv_aload_n hx hb dX12_limit_0 rfl (lv_at hl 0 rfl) ?_
  refine lv_iconst (v := 0) hx hb dX12_limit_1 qi_0 ?_
  refine q_putI C hj fp_X12_48 dX12_limit_2 hf (fun g1 H locs hj hf => ?_)
  refine lv_aload_n hx hb dX12_limit_5 rfl (lv_at hl 0 rfl) ?_
  refine q_gnnull C hj lk_X12_369 dX12_limit_6 (tgt := 18) dX12_limit_9 (by decide) hf (fun hf => ?_) (fun hf => ?_)
  · refine lv_bipush (v := -2) hx hb dX12_limit_18 (by decide) ?_
    refine lv_istore_n (lv' := [(2, .int (-2)), (0, .ref (q_ad E a0)), (1, .int a1)]) hx hb dX12_limit_20 rfl hl (by decide) rfl (fun ls hl => ?_)
    refine lv_iconst (v := 0) hx hb dX12_limit_21 qi_0 ?_
    refine lv_istore_n (lv' := [(3, .int 0), (2, .int (-2)), (0, .ref (q_ad E a0)), (1, .int a1)]) hx hb dX12_limit_22 rfl hl (by decide) rfl (fun ls hl => ?_)
    refine w_L_X12_limit_23 C  hj (lv_sub hl [2, 3, 1, 0] rfl) hf
  · refine lv_aload_n hx hb dX12_limit_12 rfl (lv_at hl 0 rfl) ?_
    refine lv_iconst (v := 1) hx hb dX12_limit_13 qi_1 ?_
    refine q_cVWI C hj cw_X12_54 (As := [.int 1]) (rest := []) hf (fun v9 g9 h9 => c_X12_refused l E h9) rfl hl rfl rfl rfl dX12_limit_14 ⟨Nat.zero_le _, Nat.zero_le _⟩ (fun v3 g2 H locs hj hf => ?_)
    exact q_iretW C hj dX12_limit_17 hf
def L_X12_power_5  (g : qS) : Nat → Int64 → Int32 → Int64 → Int32 → Option Int64
  | 0, _, _, _, _ => none
  | n + 1, x0, x2, x3, x5 => if x2 ≤ x5 then (some x3) else (L_X12_power_5 g n x0 x2 (x3 * x0) (x5 + 1))
set_option maxHeartbeats 4000000 in
set_option maxRecDepth 100000 in
theorem w_L_X12_power_5 {l : Launch} {E : qV} {p : Program} {e : Env} {s : State} {m : MethodId} {args : Array Value} {below : List Frame} {meth : Method} {c : Code}  {g : qS} {res : Int64} (C : q_C E p s m args meth c cX12_power RX12 6 (some .long))  : ∀ {n : Nat} {x0 : Int64} {x2 : Int32} {x3 : Int64} {x5 : Int32} {ls : Array Slot}, q_J E s g s.heap [] → lv_has ls 6 [(0, .long x0), (2, .int x2), (3, .long x3), (5, .int x5)] → L_X12_power_5 g n x0 x2 x3 x5 = some res → W p l e (q_rm 0 0) s m args below meth c s.heap [] 0 0 (q_ZR below (some (.long res)) args s) (F0 m 5 ls []) := by
  have hx := C.1
  have hb := C.2.1
  intro n
  induction n with
  | zero =>
    intro x0 x2 x3 x5 ls hj hl hf
    cases hf
  | succ n ih_ =>
    intro x0 x2 x3 x5 ls hj hl hf
    have ih : ∀ (x0 : Int64) (x2 : Int32) (x3 : Int64) (x5 : Int32) (ls : Array Slot), q_J E s g s.heap [] → lv_has ls 6 [(0, .long x0), (2, .int x2), (3, .long x3), (5, .int x5)] → L_X12_power_5 g n x0 x2 x3 x5 = some res → W p l e (q_rm 0 0) s m args below meth c s.heap [] 0 0 (q_ZR below (some (.long res)) args s) (F0 m 5 ls []) := fun x0 x2 x3 x5 ls hj hl hf => ih_ hj hl hf
    unfold L_X12_power_5 at hf
    refine lv_iload hx hb dX12_power_5 (lv_at hl 3 rfl) ?_
    refine lv_iload_n hx hb dX12_power_7 rfl (lv_at hl 1 rfl) ?_
    refine q_icge C (tgt := 21) dX12_power_8 (by decide) hf (fun hf => ?_) (fun hf => ?_)
    · refine lv_lload_n hx hb dX12_power_21 rfl (lv_at hl 2 rfl) ?_
      exact q_lretR C dX12_power_22 hf
    · refine lv_lload_n hx hb dX12_power_11 rfl (lv_at hl 2 rfl) ?_
      refine lv_lload_n hx hb dX12_power_12 rfl (lv_at hl 0 rfl) ?_
      refine lv_lmul hx hb dX12_power_13 ?_
      refine lv_lstore_n (lv' := [(3, .long (x3 * x0)), (0, .long x0), (2, .int x2), (5, .int x5)]) hx hb dX12_power_14 rfl hl (by decide) rfl (fun ls hl => ?_)
      refine lv_iinc (v := x5 + 1) (lv' := [(5, .int (x5 + 1)), (3, .long (x3 * x0)), (0, .long x0), (2, .int x2)]) hx hb dX12_power_15 hl (k := 3) rfl (by rw [qi_1]) (by decide) rfl (fun ls hl => ?_)
      refine lv_goto (tgt := 5) hx hb dX12_power_18 (by decide) ?_
      exact ih _ _ _ _  ls hj (lv_sub hl [2, 3, 1, 0] rfl) hf
def f_X12_power (g : qS) (a0 : Int64) (a1 : Int32) : Option Int64 := L_X12_power_5 g 1000000000 a0 a1 1 0
set_option maxHeartbeats 4000000 in
set_option maxRecDepth 100000 in
theorem c_X12_power (l : Launch) (E : qV) {g : qS} {a0 : Int64} {a1 : Int32} {res : Int64} (hf : f_X12_power g a0 a1 = some res) : q_MR l yX12_power cX12_power 6 (some .long) 0 0 E [.long a0, .int a1] g (some (.long res)) := by
  unfold f_X12_power at hf
  refine q_ofR (by decide) rfl ?_
  intro p e s m args below meth c ls C hw hl
  have hj : q_J E s g s.heap [] := ⟨hw, va_S.rf⟩
  have hx := C.1
  have hb := C.2.1
  have C : q_C E p s m args meth c cX12_power RX12 6 (some .long) := C
  have hl : lv_has ls 6 [(0, .long a0), (2, .int a1)] := hl
  refine lv_lconst (v := 1) hx hb dX12_power_0 (by decide) ?_
  refine lv_lstore_n (lv' := [(3, .long 1), (0, .long a0), (2, .int a1)]) hx hb dX12_power_1 rfl hl (by decide) rfl (fun ls hl => ?_)
  refine lv_iconst (v := 0) hx hb dX12_power_2 qi_0 ?_
  refine lv_istore (lv' := [(5, .int 0), (3, .long 1), (0, .long a0), (2, .int a1)]) hx hb dX12_power_3 hl (by decide) rfl (fun ls hl => ?_)
  refine w_L_X12_power_5 C  hj (lv_sub hl [2, 3, 1, 0] rfl) hf
