def J_X12_readPersonLine_85  (x0 : Nat) (x1 : Int64) (x3 : Int32) (g : qS) : Option qS := (f_X12_goesOn g x0).bind fun g1 => q_b2 (f_X12_readPart g1 x0 49 0 9) fun v3 g2 => q_b2 (f_X12_readPart g2 x0 50 0 99) fun v5 g4 => (g_I g4 x0 11 9).bind fun v6 => if v6 = 5 then (some g4) else ((g_R g4 x0 11 4).bind fun v7 => (g_I g4 v7 10 3).bind fun v8 => (f_X12_names g4 x0 x1 1 v8).bind fun g9 => (g_R g9 x0 11 4).bind fun v10 => (g_R g9 v10 10 15).bind fun v11 => (g_R g9 x0 11 4).bind fun v12 => (g_I g9 v12 10 3).bind fun v13 => (s_I g9 v11 v13 x3).bind fun g14 => (g_R g14 x0 11 4).bind fun v15 => (g_R g14 v15 10 16).bind fun v16 => (g_R g14 x0 11 4).bind fun v17 => (g_I g14 v17 10 3).bind fun v18 => (s_I g14 v16 v18 v3).bind fun g19 => (g_R g19 x0 11 4).bind fun v20 => (g_R g19 v20 10 17).bind fun v21 => (g_R g19 x0 11 4).bind fun v22 => (g_I g19 v22 10 3).bind fun v23 => (s_I g19 v21 v23 v5).bind fun g24 => (g_R g24 x0 11 4).bind fun v25 => (g_I g24 v25 10 3).bind fun v26 => (p_I g24 v25 10 3 (v26 + 1)).bind fun g27 => some g27)
set_option maxHeartbeats 4000000 in
set_option maxRecDepth 100000 in
theorem w_J_X12_readPersonLine_85 {l : Launch} {E : qV} {p : Program} {e : Env} {s : State} {m : MethodId} {args : Array Value} {below : List Frame} {meth : Method} {c : Code}  {res : qS} (C : q_C E p s m args meth c cX12_readPersonLine RX12 6 none)  : ∀ {x0 : Nat} {x1 : Int64} {x3 : Int32} {g : qS} {H : Heap} {locs : List Loc} {ls : Array Slot}, q_J E s g H locs → lv_has ls 6 [(0, .ref (q_ad E x0)), (1, .long x1), (3, .int x3)] → J_X12_readPersonLine_85 x0 x1 x3 g = some res → W p l e (q_rm 8 208) s m args below meth c H locs 0 0 (q_ZW E below none res args s) (F0 m 85 ls []) := by
  have hx := C.1
  have hb := C.2.1
  intro x0 x1 x3 g H locs ls hj hl hf
  unfold J_X12_readPersonLine_85 at hf
  refine lv_aload_n hx hb dX12_readPersonLine_85 rfl (lv_at hl 0 rfl) ?_
  refine q_cVWV C hj cw_X12_116 (As := []) (rest := []) hf (fun g9 h9 => c_X12_goesOn l E h9) rfl hl rfl rfl rfl dX12_readPersonLine_86 ⟨Nat.zero_le _, Nat.zero_le _⟩ (fun g1 H locs hj hf => ?_)
  refine lv_aload_n hx hb dX12_readPersonLine_89 rfl (lv_at hl 0 rfl) ?_
  refine q_ldcwS C (i := 49) rfl dX12_readPersonLine_90 ?_
  refine lv_iconst (v := 0) hx hb dX12_readPersonLine_93 qi_0 ?_
  refine lv_bipush (v := 9) hx hb dX12_readPersonLine_94 (by decide) ?_
  refine q_cVWI C hj cw_X12_243 (As := [.ref (q_sa E 49), .int 0, .int 9]) (rest := []) hf (fun v9 g9 h9 => c_X12_readPart l E h9) rfl hl rfl rfl rfl dX12_readPersonLine_96 ⟨Nat.zero_le _, Nat.zero_le _⟩ (fun v3 g2 H locs hj hf => ?_)
  refine lv_istore (lv' := [(4, .int v3), (0, .ref (q_ad E x0)), (1, .long x1), (3, .int x3)]) hx hb dX12_readPersonLine_99 hl (by decide) rfl (fun ls hl => ?_)
  refine lv_aload_n hx hb dX12_readPersonLine_101 rfl (lv_at hl 1 rfl) ?_
  refine q_ldcwS C (i := 50) rfl dX12_readPersonLine_102 ?_
  refine lv_iconst (v := 0) hx hb dX12_readPersonLine_105 qi_0 ?_
  refine lv_bipush (v := 99) hx hb dX12_readPersonLine_106 (by decide) ?_
  refine q_cVWI C hj cw_X12_243 (As := [.ref (q_sa E 50), .int 0, .int 99]) (rest := []) hf (fun v9 g9 h9 => c_X12_readPart l E h9) rfl hl rfl rfl rfl dX12_readPersonLine_108 ⟨Nat.zero_le _, Nat.zero_le _⟩ (fun v5 g4 H locs hj hf => ?_)
  refine lv_istore (lv' := [(5, .int v5), (4, .int v3), (0, .ref (q_ad E x0)), (1, .long x1), (3, .int x3)]) hx hb dX12_readPersonLine_111 hl (by decide) rfl (fun ls hl => ?_)
  refine lv_aload_n hx hb dX12_readPersonLine_113 rfl (lv_at hl 2 rfl) ?_
  refine q_getI C hj lk_X12_80 dX12_readPersonLine_114 hf (fun v6 hf => ?_)
  refine lv_iconst (v := 5) hx hb dX12_readPersonLine_117 qi_5 ?_
  refine q_icne C (tgt := 122) dX12_readPersonLine_118 (by decide) hf (fun hf => ?_) (fun hf => ?_)
  · refine lv_aload_n hx hb dX12_readPersonLine_122 rfl (lv_at hl 2 rfl) ?_
    refine lv_lload_n hx hb dX12_readPersonLine_123 rfl (lv_at hl 3 rfl) ?_
    refine lv_iconst (v := 1) hx hb dX12_readPersonLine_124 qi_1 ?_
    refine lv_aload_n hx hb dX12_readPersonLine_125 rfl (lv_at hl 2 rfl) ?_
    refine q_getR C hj lk_X12_162 dX12_readPersonLine_126 hf (fun v7 hf => ?_)
    refine q_getI C hj lk_X12_204 dX12_readPersonLine_129 hf (fun v8 hf => ?_)
    refine q_cVWV C hj cw_X12_270 (As := [.long x1, .int 1, .int v8]) (rest := []) hf (fun g9 h9 => c_X12_names l E h9) rfl hl rfl rfl rfl dX12_readPersonLine_132 ⟨Nat.zero_le _, Nat.zero_le _⟩ (fun g9 H locs hj hf => ?_)
    refine lv_aload_n hx hb dX12_readPersonLine_135 rfl (lv_at hl 2 rfl) ?_
    refine q_getR C hj lk_X12_162 dX12_readPersonLine_136 hf (fun v10 hf => ?_)
    refine q_getR C hj lk_X12_290 dX12_readPersonLine_139 hf (fun v11 hf => ?_)
    refine lv_aload_n hx hb dX12_readPersonLine_142 rfl (lv_at hl 2 rfl) ?_
    refine q_getR C hj lk_X12_162 dX12_readPersonLine_143 hf (fun v12 hf => ?_)
    refine q_getI C hj lk_X12_204 dX12_readPersonLine_146 hf (fun v13 hf => ?_)
    refine lv_iload_n hx hb dX12_readPersonLine_149 rfl (lv_at hl 4 rfl) ?_
    refine q_astI C hj dX12_readPersonLine_150 hf (fun g14 H locs hj hf => ?_)
    refine lv_aload_n hx hb dX12_readPersonLine_151 rfl (lv_at hl 2 rfl) ?_
    refine q_getR C hj lk_X12_162 dX12_readPersonLine_152 hf (fun v15 hf => ?_)
    refine q_getR C hj lk_X12_293 dX12_readPersonLine_155 hf (fun v16 hf => ?_)
    refine lv_aload_n hx hb dX12_readPersonLine_158 rfl (lv_at hl 2 rfl) ?_
    refine q_getR C hj lk_X12_162 dX12_readPersonLine_159 hf (fun v17 hf => ?_)
    refine q_getI C hj lk_X12_204 dX12_readPersonLine_162 hf (fun v18 hf => ?_)
    refine lv_iload hx hb dX12_readPersonLine_165 (lv_at hl 1 rfl) ?_
    refine q_astI C hj dX12_readPersonLine_167 hf (fun g19 H locs hj hf => ?_)
    refine lv_aload_n hx hb dX12_readPersonLine_168 rfl (lv_at hl 2 rfl) ?_
    refine q_getR C hj lk_X12_162 dX12_readPersonLine_169 hf (fun v20 hf => ?_)
    refine q_getR C hj lk_X12_295 dX12_readPersonLine_172 hf (fun v21 hf => ?_)
    refine lv_aload_n hx hb dX12_readPersonLine_175 rfl (lv_at hl 2 rfl) ?_
    refine q_getR C hj lk_X12_162 dX12_readPersonLine_176 hf (fun v22 hf => ?_)
    refine q_getI C hj lk_X12_204 dX12_readPersonLine_179 hf (fun v23 hf => ?_)
    refine lv_iload hx hb dX12_readPersonLine_182 (lv_at hl 0 rfl) ?_
    refine q_astI C hj dX12_readPersonLine_184 hf (fun g24 H locs hj hf => ?_)
    refine lv_aload_n hx hb dX12_readPersonLine_185 rfl (lv_at hl 2 rfl) ?_
    refine q_getR C hj lk_X12_162 dX12_readPersonLine_186 hf (fun v25 hf => ?_)
    refine lv_dup hx hb dX12_readPersonLine_189 rfl ?_
    refine q_getI C hj lk_X12_204 dX12_readPersonLine_190 hf (fun v26 hf => ?_)
    refine lv_iconst (v := 1) hx hb dX12_readPersonLine_193 qi_1 ?_
    refine lv_iadd hx hb dX12_readPersonLine_194 ?_
    refine q_putI C hj fp_X12_204 dX12_readPersonLine_195 hf (fun g27 H locs hj hf => ?_)
    exact q_vretW C hj dX12_readPersonLine_198 hf
  · exact q_vretW C hj dX12_readPersonLine_121 hf
def J_X12_readPersonLine_74  (x0 : Nat) (x1 : Int64) (t0 : Int32) (g : qS) : Option qS := if t0 = (-1) then ((f_X12_flaw g x0 1).bind fun g1 => J_X12_readPersonLine_85 x0 x1 t0 g1) else (J_X12_readPersonLine_85 x0 x1 t0 g)
set_option maxHeartbeats 4000000 in
set_option maxRecDepth 100000 in
theorem w_J_X12_readPersonLine_74 {l : Launch} {E : qV} {p : Program} {e : Env} {s : State} {m : MethodId} {args : Array Value} {below : List Frame} {meth : Method} {c : Code}  {res : qS} (C : q_C E p s m args meth c cX12_readPersonLine RX12 6 none)  : ∀ {x0 : Nat} {x1 : Int64} {t0 : Int32} {g : qS} {H : Heap} {locs : List Loc} {ls : Array Slot}, q_J E s g H locs → lv_has ls 6 [(0, .ref (q_ad E x0)), (1, .long x1)] → J_X12_readPersonLine_74 x0 x1 t0 g = some res → W p l e (q_rm 8 208) s m args below meth c H locs 0 0 (q_ZW E below none res args s) (F0 m 74 ls [.int t0]) := by
  have hx := C.1
  have hb := C.2.1
  intro x0 x1 t0 g H locs ls hj hl hf
  unfold J_X12_readPersonLine_74 at hf
  refine lv_istore_n (lv' := [(3, .int t0), (0, .ref (q_ad E x0)), (1, .long x1)]) hx hb dX12_readPersonLine_74 rfl hl (by decide) rfl (fun ls hl => ?_)
  refine lv_iload_n hx hb dX12_readPersonLine_75 rfl (lv_at hl 0 rfl) ?_
  refine lv_iconst (v := -1) hx hb dX12_readPersonLine_76 qi_m1 ?_
  refine q_icne C (tgt := 85) dX12_readPersonLine_77 (by decide) hf (fun hf => ?_) (fun hf => ?_)
  · refine w_J_X12_readPersonLine_85 C  hj (lv_sub hl [1, 2, 0] rfl) hf
  · refine lv_aload_n hx hb dX12_readPersonLine_80 rfl (lv_at hl 1 rfl) ?_
    refine lv_iconst (v := 1) hx hb dX12_readPersonLine_81 qi_1 ?_
    refine q_cVWV C hj cw_X12_123 (As := [.int 1]) (rest := []) hf (fun g9 h9 => c_X12_flaw l E h9) rfl hl rfl rfl rfl dX12_readPersonLine_82 ⟨Nat.zero_le _, Nat.zero_le _⟩ (fun g1 H locs hj hf => ?_)
    refine w_J_X12_readPersonLine_85 C  hj (lv_sub hl [1, 2, 0] rfl) hf
def f_X12_readPersonLine (g : qS) (a0 : Nat) : Option qS := (g_C g a0 11).bind fun _ => (g_R g a0 11 4).bind fun v1 => (g_I g v1 10 3).bind fun v2 => (f_X12_begins g a0 v2 5).bind fun g3 => q_b2 (f_X12_readFresh g3 a0) fun v5 g4 => (f_X12_isWord g4 a0 45).bind fun v6 => if v6 = 0 then ((f_X12_isWord g4 a0 46).bind fun v7 => if v7 = 0 then ((f_X12_isWord g4 a0 47).bind fun v8 => if v8 = 0 then ((f_X12_isWord g4 a0 48).bind fun v9 => if v9 = 0 then (J_X12_readPersonLine_74 a0 v5 (-1) g4) else (J_X12_readPersonLine_74 a0 v5 3 g4)) else (J_X12_readPersonLine_74 a0 v5 2 g4)) else (J_X12_readPersonLine_74 a0 v5 1 g4)) else (J_X12_readPersonLine_74 a0 v5 0 g4)
set_option maxHeartbeats 4000000 in
set_option maxRecDepth 100000 in
theorem c_X12_readPersonLine (l : Launch) (E : qV) {g : qS} {a0 : Nat} {res : qS} (hf : f_X12_readPersonLine g a0 = some res) : q_MW l yX12_readPersonLine cX12_readPersonLine 6 none 8 208 E [.ref (q_ad E a0)] g none res ∧ ∃ fs, g a0 = some (.inr (11, fs)) := by
  unfold f_X12_readPersonLine at hf
  obtain ⟨u9, hu9, hf⟩ := q_ob hf
  refine ⟨q_ofW (by decide) rfl ?_, g_C_sp hu9⟩
  intro p e s m args below meth c ls C hj hl
  have hx := C.1
  have hb := C.2.1
  have C : q_C E p s m args meth c cX12_readPersonLine RX12 6 none := C
  have hl : lv_has ls 6 [(0, .ref (q_ad E a0))] := hl
  refine lv_aload_n hx hb dX12_readPersonLine_0 rfl (lv_at hl 0 rfl) ?_
  refine lv_aload_n hx hb dX12_readPersonLine_1 rfl (lv_at hl 0 rfl) ?_
  refine q_getR C hj lk_X12_162 dX12_readPersonLine_2 hf (fun v1 hf => ?_)
  refine q_getI C hj lk_X12_204 dX12_readPersonLine_5 hf (fun v2 hf => ?_)
  refine lv_iconst (v := 5) hx hb dX12_readPersonLine_8 qi_5 ?_
  refine q_cVWV C hj cw_X12_254 (As := [.int v2, .int 5]) (rest := []) hf (fun g9 h9 => c_X12_begins l E h9) rfl hl rfl rfl rfl dX12_readPersonLine_9 ⟨Nat.zero_le _, Nat.zero_le _⟩ (fun g3 H locs hj hf => ?_)
  refine lv_aload_n hx hb dX12_readPersonLine_12 rfl (lv_at hl 0 rfl) ?_
  refine q_cVWL C hj cw_X12_258 (As := []) (rest := []) hf (fun v9 g9 h9 => c_X12_readFresh l E h9) rfl hl rfl rfl rfl dX12_readPersonLine_13 ⟨Nat.zero_le _, Nat.zero_le _⟩ (fun v5 g4 H locs hj hf => ?_)
  refine lv_lstore_n (lv' := [(1, .long v5), (0, .ref (q_ad E a0))]) hx hb dX12_readPersonLine_16 rfl hl (by decide) rfl (fun ls hl => ?_)
  refine lv_aload_n hx hb dX12_readPersonLine_17 rfl (lv_at hl 1 rfl) ?_
  refine q_ldcwS C (i := 45) rfl dX12_readPersonLine_18 ?_
  refine q_cVRI C hj cw_X12_119 (As := [.ref (q_sa E 45)]) (rest := []) hf (fun v9 h9 => c_X12_isWord l E h9) rfl hl rfl rfl rfl dX12_readPersonLine_21 ⟨Nat.zero_le _, Nat.zero_le _⟩ (fun v6 hf => ?_)
  refine q_ifeq C (tgt := 31) dX12_readPersonLine_24 (by decide) hf (fun hf => ?_) (fun hf => ?_)
  · refine lv_aload_n hx hb dX12_readPersonLine_31 rfl (lv_at hl 1 rfl) ?_
    refine q_ldcwS C (i := 46) rfl dX12_readPersonLine_32 ?_
    refine q_cVRI C hj cw_X12_119 (As := [.ref (q_sa E 46)]) (rest := []) hf (fun v9 h9 => c_X12_isWord l E h9) rfl hl rfl rfl rfl dX12_readPersonLine_35 ⟨Nat.zero_le _, Nat.zero_le _⟩ (fun v7 hf => ?_)
    refine q_ifeq C (tgt := 45) dX12_readPersonLine_38 (by decide) hf (fun hf => ?_) (fun hf => ?_)
    · refine lv_aload_n hx hb dX12_readPersonLine_45 rfl (lv_at hl 1 rfl) ?_
      refine q_ldcwS C (i := 47) rfl dX12_readPersonLine_46 ?_
      refine q_cVRI C hj cw_X12_119 (As := [.ref (q_sa E 47)]) (rest := []) hf (fun v9 h9 => c_X12_isWord l E h9) rfl hl rfl rfl rfl dX12_readPersonLine_49 ⟨Nat.zero_le _, Nat.zero_le _⟩ (fun v8 hf => ?_)
      refine q_ifeq C (tgt := 59) dX12_readPersonLine_52 (by decide) hf (fun hf => ?_) (fun hf => ?_)
      · refine lv_aload_n hx hb dX12_readPersonLine_59 rfl (lv_at hl 1 rfl) ?_
        refine q_ldcwS C (i := 48) rfl dX12_readPersonLine_60 ?_
        refine q_cVRI C hj cw_X12_119 (As := [.ref (q_sa E 48)]) (rest := []) hf (fun v9 h9 => c_X12_isWord l E h9) rfl hl rfl rfl rfl dX12_readPersonLine_63 ⟨Nat.zero_le _, Nat.zero_le _⟩ (fun v9 hf => ?_)
        refine q_ifeq C (tgt := 73) dX12_readPersonLine_66 (by decide) hf (fun hf => ?_) (fun hf => ?_)
        · refine lv_iconst (v := -1) hx hb dX12_readPersonLine_73 qi_m1 ?_
          refine w_J_X12_readPersonLine_74 C  hj (lv_sub hl [1, 0] rfl) hf
        · refine lv_iconst (v := 3) hx hb dX12_readPersonLine_69 qi_3 ?_
          refine lv_goto (tgt := 74) hx hb dX12_readPersonLine_70 (by decide) ?_
          refine w_J_X12_readPersonLine_74 C  hj (lv_sub hl [1, 0] rfl) hf
      · refine lv_iconst (v := 2) hx hb dX12_readPersonLine_55 qi_2 ?_
        refine lv_goto (tgt := 74) hx hb dX12_readPersonLine_56 (by decide) ?_
        refine w_J_X12_readPersonLine_74 C  hj (lv_sub hl [1, 0] rfl) hf
    · refine lv_iconst (v := 1) hx hb dX12_readPersonLine_41 qi_1 ?_
      refine lv_goto (tgt := 74) hx hb dX12_readPersonLine_42 (by decide) ?_
      refine w_J_X12_readPersonLine_74 C  hj (lv_sub hl [1, 0] rfl) hf
  · refine lv_iconst (v := 0) hx hb dX12_readPersonLine_27 qi_0 ?_
    refine lv_goto (tgt := 74) hx hb dX12_readPersonLine_28 (by decide) ?_
    refine w_J_X12_readPersonLine_74 C  hj (lv_sub hl [1, 0] rfl) hf
def f_X12_readTram (g : qS) (a0 : Nat) : Option qS := (g_C g a0 11).bind fun _ => (g_R g a0 11 4).bind fun v1 => (g_I g v1 10 4).bind fun v2 => (f_X12_begins g a0 v2 4).bind fun g3 => q_b2 (f_X12_readFresh g3 a0) fun v5 g4 => q_b2 (f_X12_readPart g4 a0 51 0 60) fun v7 g6 => q_b2 (f_X12_readPart g6 a0 52 1 60) fun v9 g8 => (g_I g8 a0 11 9).bind fun v10 => if v10 = 5 then (some g8) else ((g_R g8 a0 11 4).bind fun v11 => (g_I g8 v11 10 4).bind fun v12 => (f_X12_names g8 a0 v5 2 v12).bind fun g13 => (g_R g13 a0 11 4).bind fun v14 => (g_R g13 v14 10 19).bind fun v15 => (g_R g13 a0 11 4).bind fun v16 => (g_I g13 v16 10 4).bind fun v17 => (s_I g13 v15 v17 v7).bind fun g18 => (g_R g18 a0 11 4).bind fun v19 => (g_R g18 v19 10 20).bind fun v20 => (g_R g18 a0 11 4).bind fun v21 => (g_I g18 v21 10 4).bind fun v22 => (s_I g18 v20 v22 v9).bind fun g23 => (g_R g23 a0 11 4).bind fun v24 => (g_I g23 v24 10 4).bind fun v25 => (p_I g23 v24 10 4 (v25 + 1)).bind fun g26 => some g26)
set_option maxHeartbeats 4000000 in
set_option maxRecDepth 100000 in
theorem c_X12_readTram (l : Launch) (E : qV) {g : qS} {a0 : Nat} {res : qS} (hf : f_X12_readTram g a0 = some res) : q_MW l yX12_readTram cX12_readTram 5 none 8 208 E [.ref (q_ad E a0)] g none res ∧ ∃ fs, g a0 = some (.inr (11, fs)) := by
  unfold f_X12_readTram at hf
  obtain ⟨u9, hu9, hf⟩ := q_ob hf
  refine ⟨q_ofW (by decide) rfl ?_, g_C_sp hu9⟩
  intro p e s m args below meth c ls C hj hl
  have hx := C.1
  have hb := C.2.1
  have C : q_C E p s m args meth c cX12_readTram RX12 5 none := C
  have hl : lv_has ls 5 [(0, .ref (q_ad E a0))] := hl
  refine lv_aload_n hx hb dX12_readTram_0 rfl (lv_at hl 0 rfl) ?_
  refine lv_aload_n hx hb dX12_readTram_1 rfl (lv_at hl 0 rfl) ?_
  refine q_getR C hj lk_X12_162 dX12_readTram_2 hf (fun v1 hf => ?_)
  refine q_getI C hj lk_X12_297 dX12_readTram_5 hf (fun v2 hf => ?_)
  refine lv_iconst (v := 4) hx hb dX12_readTram_8 qi_4 ?_
  refine q_cVWV C hj cw_X12_254 (As := [.int v2, .int 4]) (rest := []) hf (fun g9 h9 => c_X12_begins l E h9) rfl hl rfl rfl rfl dX12_readTram_9 ⟨Nat.zero_le _, Nat.zero_le _⟩ (fun g3 H locs hj hf => ?_)
  refine lv_aload_n hx hb dX12_readTram_12 rfl (lv_at hl 0 rfl) ?_
  refine q_cVWL C hj cw_X12_258 (As := []) (rest := []) hf (fun v9 g9 h9 => c_X12_readFresh l E h9) rfl hl rfl rfl rfl dX12_readTram_13 ⟨Nat.zero_le _, Nat.zero_le _⟩ (fun v5 g4 H locs hj hf => ?_)
  refine lv_lstore_n (lv' := [(1, .long v5), (0, .ref (q_ad E a0))]) hx hb dX12_readTram_16 rfl hl (by decide) rfl (fun ls hl => ?_)
  refine lv_aload_n hx hb dX12_readTram_17 rfl (lv_at hl 1 rfl) ?_
  refine q_ldcwS C (i := 51) rfl dX12_readTram_18 ?_
  refine lv_iconst (v := 0) hx hb dX12_readTram_21 qi_0 ?_
  refine lv_bipush (v := 60) hx hb dX12_readTram_22 (by decide) ?_
  refine q_cVWI C hj cw_X12_243 (As := [.ref (q_sa E 51), .int 0, .int 60]) (rest := []) hf (fun v9 g9 h9 => c_X12_readPart l E h9) rfl hl rfl rfl rfl dX12_readTram_24 ⟨Nat.zero_le _, Nat.zero_le _⟩ (fun v7 g6 H locs hj hf => ?_)
  refine lv_istore_n (lv' := [(3, .int v7), (1, .long v5), (0, .ref (q_ad E a0))]) hx hb dX12_readTram_27 rfl hl (by decide) rfl (fun ls hl => ?_)
  refine lv_aload_n hx hb dX12_readTram_28 rfl (lv_at hl 2 rfl) ?_
  refine q_ldcwS C (i := 52) rfl dX12_readTram_29 ?_
  refine lv_iconst (v := 1) hx hb dX12_readTram_32 qi_1 ?_
  refine lv_bipush (v := 60) hx hb dX12_readTram_33 (by decide) ?_
  refine q_cVWI C hj cw_X12_243 (As := [.ref (q_sa E 52), .int 1, .int 60]) (rest := []) hf (fun v9 g9 h9 => c_X12_readPart l E h9) rfl hl rfl rfl rfl dX12_readTram_35 ⟨Nat.zero_le _, Nat.zero_le _⟩ (fun v9 g8 H locs hj hf => ?_)
  refine lv_istore (lv' := [(4, .int v9), (3, .int v7), (1, .long v5), (0, .ref (q_ad E a0))]) hx hb dX12_readTram_38 hl (by decide) rfl (fun ls hl => ?_)
  refine lv_aload_n hx hb dX12_readTram_40 rfl (lv_at hl 3 rfl) ?_
  refine q_getI C hj lk_X12_80 dX12_readTram_41 hf (fun v10 hf => ?_)
  refine lv_iconst (v := 5) hx hb dX12_readTram_44 qi_5 ?_
  refine q_icne C (tgt := 49) dX12_readTram_45 (by decide) hf (fun hf => ?_) (fun hf => ?_)
  · refine lv_aload_n hx hb dX12_readTram_49 rfl (lv_at hl 3 rfl) ?_
    refine lv_lload_n hx hb dX12_readTram_50 rfl (lv_at hl 2 rfl) ?_
    refine lv_iconst (v := 2) hx hb dX12_readTram_51 qi_2 ?_
    refine lv_aload_n hx hb dX12_readTram_52 rfl (lv_at hl 3 rfl) ?_
    refine q_getR C hj lk_X12_162 dX12_readTram_53 hf (fun v11 hf => ?_)
    refine q_getI C hj lk_X12_297 dX12_readTram_56 hf (fun v12 hf => ?_)
    refine q_cVWV C hj cw_X12_270 (As := [.long v5, .int 2, .int v12]) (rest := []) hf (fun g9 h9 => c_X12_names l E h9) rfl hl rfl rfl rfl dX12_readTram_59 ⟨Nat.zero_le _, Nat.zero_le _⟩ (fun g13 H locs hj hf => ?_)
    refine lv_aload_n hx hb dX12_readTram_62 rfl (lv_at hl 3 rfl) ?_
    refine q_getR C hj lk_X12_162 dX12_readTram_63 hf (fun v14 hf => ?_)
    refine q_getR C hj lk_X12_304 dX12_readTram_66 hf (fun v15 hf => ?_)
    refine lv_aload_n hx hb dX12_readTram_69 rfl (lv_at hl 3 rfl) ?_
    refine q_getR C hj lk_X12_162 dX12_readTram_70 hf (fun v16 hf => ?_)
    refine q_getI C hj lk_X12_297 dX12_readTram_73 hf (fun v17 hf => ?_)
    refine lv_iload_n hx hb dX12_readTram_76 rfl (lv_at hl 1 rfl) ?_
    refine q_astI C hj dX12_readTram_77 hf (fun g18 H locs hj hf => ?_)
    refine lv_aload_n hx hb dX12_readTram_78 rfl (lv_at hl 3 rfl) ?_
    refine q_getR C hj lk_X12_162 dX12_readTram_79 hf (fun v19 hf => ?_)
    refine q_getR C hj lk_X12_306 dX12_readTram_82 hf (fun v20 hf => ?_)
    refine lv_aload_n hx hb dX12_readTram_85 rfl (lv_at hl 3 rfl) ?_
    refine q_getR C hj lk_X12_162 dX12_readTram_86 hf (fun v21 hf => ?_)
    refine q_getI C hj lk_X12_297 dX12_readTram_89 hf (fun v22 hf => ?_)
    refine lv_iload hx hb dX12_readTram_92 (lv_at hl 0 rfl) ?_
    refine q_astI C hj dX12_readTram_94 hf (fun g23 H locs hj hf => ?_)
    refine lv_aload_n hx hb dX12_readTram_95 rfl (lv_at hl 3 rfl) ?_
    refine q_getR C hj lk_X12_162 dX12_readTram_96 hf (fun v24 hf => ?_)
    refine lv_dup hx hb dX12_readTram_99 rfl ?_
    refine q_getI C hj lk_X12_297 dX12_readTram_100 hf (fun v25 hf => ?_)
    refine lv_iconst (v := 1) hx hb dX12_readTram_103 qi_1 ?_
    refine lv_iadd hx hb dX12_readTram_104 ?_
    refine q_putI C hj fp_X12_297 dX12_readTram_105 hf (fun g26 H locs hj hf => ?_)
    exact q_vretW C hj dX12_readTram_108 hf
  · exact q_vretW C hj dX12_readTram_48 hf
def f_X12_readGiver (g : qS) (a0 : Nat) : Option qS := (g_C g a0 11).bind fun _ => (g_R g a0 11 4).bind fun v1 => (g_I g v1 10 5).bind fun v2 => (f_X12_begins g a0 v2 3).bind fun g3 => q_b2 (f_X12_readFresh g3 a0) fun v5 g4 => q_b2 (f_X12_readPart g4 a0 53 0 60) fun v7 g6 => (g_I g6 a0 11 9).bind fun v8 => if v8 = 5 then (some g6) else ((g_R g6 a0 11 4).bind fun v9 => (g_I g6 v9 10 5).bind fun v10 => (f_X12_names g6 a0 v5 3 v10).bind fun g11 => (g_R g11 a0 11 4).bind fun v12 => (g_R g11 v12 10 21).bind fun v13 => (g_R g11 a0 11 4).bind fun v14 => (g_I g11 v14 10 5).bind fun v15 => (s_I g11 v13 v15 v7).bind fun g16 => (g_R g16 a0 11 4).bind fun v17 => (g_I g16 v17 10 5).bind fun v18 => (p_I g16 v17 10 5 (v18 + 1)).bind fun g19 => some g19)
set_option maxHeartbeats 4000000 in
set_option maxRecDepth 100000 in
theorem c_X12_readGiver (l : Launch) (E : qV) {g : qS} {a0 : Nat} {res : qS} (hf : f_X12_readGiver g a0 = some res) : q_MW l yX12_readGiver cX12_readGiver 4 none 8 208 E [.ref (q_ad E a0)] g none res ∧ ∃ fs, g a0 = some (.inr (11, fs)) := by
  unfold f_X12_readGiver at hf
  obtain ⟨u9, hu9, hf⟩ := q_ob hf
  refine ⟨q_ofW (by decide) rfl ?_, g_C_sp hu9⟩
  intro p e s m args below meth c ls C hj hl
  have hx := C.1
  have hb := C.2.1
  have C : q_C E p s m args meth c cX12_readGiver RX12 4 none := C
  have hl : lv_has ls 4 [(0, .ref (q_ad E a0))] := hl
  refine lv_aload_n hx hb dX12_readGiver_0 rfl (lv_at hl 0 rfl) ?_
  refine lv_aload_n hx hb dX12_readGiver_1 rfl (lv_at hl 0 rfl) ?_
  refine q_getR C hj lk_X12_162 dX12_readGiver_2 hf (fun v1 hf => ?_)
  refine q_getI C hj lk_X12_207 dX12_readGiver_5 hf (fun v2 hf => ?_)
  refine lv_iconst (v := 3) hx hb dX12_readGiver_8 qi_3 ?_
  refine q_cVWV C hj cw_X12_254 (As := [.int v2, .int 3]) (rest := []) hf (fun g9 h9 => c_X12_begins l E h9) rfl hl rfl rfl rfl dX12_readGiver_9 ⟨Nat.zero_le _, Nat.zero_le _⟩ (fun g3 H locs hj hf => ?_)
  refine lv_aload_n hx hb dX12_readGiver_12 rfl (lv_at hl 0 rfl) ?_
  refine q_cVWL C hj cw_X12_258 (As := []) (rest := []) hf (fun v9 g9 h9 => c_X12_readFresh l E h9) rfl hl rfl rfl rfl dX12_readGiver_13 ⟨Nat.zero_le _, Nat.zero_le _⟩ (fun v5 g4 H locs hj hf => ?_)
  refine lv_lstore_n (lv' := [(1, .long v5), (0, .ref (q_ad E a0))]) hx hb dX12_readGiver_16 rfl hl (by decide) rfl (fun ls hl => ?_)
  refine lv_aload_n hx hb dX12_readGiver_17 rfl (lv_at hl 1 rfl) ?_
  refine q_ldcwS C (i := 53) rfl dX12_readGiver_18 ?_
  refine lv_iconst (v := 0) hx hb dX12_readGiver_21 qi_0 ?_
  refine lv_bipush (v := 60) hx hb dX12_readGiver_22 (by decide) ?_
  refine q_cVWI C hj cw_X12_243 (As := [.ref (q_sa E 53), .int 0, .int 60]) (rest := []) hf (fun v9 g9 h9 => c_X12_readPart l E h9) rfl hl rfl rfl rfl dX12_readGiver_24 ⟨Nat.zero_le _, Nat.zero_le _⟩ (fun v7 g6 H locs hj hf => ?_)
  refine lv_istore_n (lv' := [(3, .int v7), (1, .long v5), (0, .ref (q_ad E a0))]) hx hb dX12_readGiver_27 rfl hl (by decide) rfl (fun ls hl => ?_)
  refine lv_aload_n hx hb dX12_readGiver_28 rfl (lv_at hl 2 rfl) ?_
  refine q_getI C hj lk_X12_80 dX12_readGiver_29 hf (fun v8 hf => ?_)
  refine lv_iconst (v := 5) hx hb dX12_readGiver_32 qi_5 ?_
  refine q_icne C (tgt := 37) dX12_readGiver_33 (by decide) hf (fun hf => ?_) (fun hf => ?_)
  · refine lv_aload_n hx hb dX12_readGiver_37 rfl (lv_at hl 2 rfl) ?_
    refine lv_lload_n hx hb dX12_readGiver_38 rfl (lv_at hl 1 rfl) ?_
    refine lv_iconst (v := 3) hx hb dX12_readGiver_39 qi_3 ?_
    refine lv_aload_n hx hb dX12_readGiver_40 rfl (lv_at hl 2 rfl) ?_
    refine q_getR C hj lk_X12_162 dX12_readGiver_41 hf (fun v9 hf => ?_)
    refine q_getI C hj lk_X12_207 dX12_readGiver_44 hf (fun v10 hf => ?_)
    refine q_cVWV C hj cw_X12_270 (As := [.long v5, .int 3, .int v10]) (rest := []) hf (fun g9 h9 => c_X12_names l E h9) rfl hl rfl rfl rfl dX12_readGiver_47 ⟨Nat.zero_le _, Nat.zero_le _⟩ (fun g11 H locs hj hf => ?_)
    refine lv_aload_n hx hb dX12_readGiver_50 rfl (lv_at hl 2 rfl) ?_
    refine q_getR C hj lk_X12_162 dX12_readGiver_51 hf (fun v12 hf => ?_)
    refine q_getR C hj lk_X12_310 dX12_readGiver_54 hf (fun v13 hf => ?_)
    refine lv_aload_n hx hb dX12_readGiver_57 rfl (lv_at hl 2 rfl) ?_
    refine q_getR C hj lk_X12_162 dX12_readGiver_58 hf (fun v14 hf => ?_)
    refine q_getI C hj lk_X12_207 dX12_readGiver_61 hf (fun v15 hf => ?_)
    refine lv_iload_n hx hb dX12_readGiver_64 rfl (lv_at hl 0 rfl) ?_
    refine q_astI C hj dX12_readGiver_65 hf (fun g16 H locs hj hf => ?_)
    refine lv_aload_n hx hb dX12_readGiver_66 rfl (lv_at hl 2 rfl) ?_
    refine q_getR C hj lk_X12_162 dX12_readGiver_67 hf (fun v17 hf => ?_)
    refine lv_dup hx hb dX12_readGiver_70 rfl ?_
    refine q_getI C hj lk_X12_207 dX12_readGiver_71 hf (fun v18 hf => ?_)
    refine lv_iconst (v := 1) hx hb dX12_readGiver_74 qi_1 ?_
    refine lv_iadd hx hb dX12_readGiver_75 ?_
    refine q_putI C hj fp_X12_207 dX12_readGiver_76 hf (fun g19 H locs hj hf => ?_)
    exact q_vretW C hj dX12_readGiver_79 hf
  · exact q_vretW C hj dX12_readGiver_36 hf
def J_X12_readRow_69  (x0 : Nat) (x2 : Nat) (x3 : Int32) (x4 : Int32) (x5 : Int32) (g : qS) : Option qS := (f_X12_goesOn g x0).bind fun g1 => (g_I g1 x0 11 9).bind fun v2 => if v2 = 5 then (some g1) else ((s_I g1 x2 ((7 * x3) + x5) x4).bind fun g3 => (g_R g3 x0 11 4).bind fun v4 => (g_I g3 v4 10 6).bind fun v5 => (p_I g3 v4 10 6 (v5 + 1)).bind fun g6 => some g6)
set_option maxHeartbeats 4000000 in
set_option maxRecDepth 100000 in
theorem w_J_X12_readRow_69 {l : Launch} {E : qV} {p : Program} {e : Env} {s : State} {m : MethodId} {args : Array Value} {below : List Frame} {meth : Method} {c : Code}  {res : qS} (C : q_C E p s m args meth c cX12_readRow RX12 6 none)  : ∀ {x0 : Nat} {x2 : Nat} {x3 : Int32} {x4 : Int32} {x5 : Int32} {g : qS} {H : Heap} {locs : List Loc} {ls : Array Slot}, q_J E s g H locs → lv_has ls 6 [(0, .ref (q_ad E x0)), (2, .ref (q_ad E x2)), (3, .int x3), (4, .int x4), (5, .int x5)] → J_X12_readRow_69 x0 x2 x3 x4 x5 g = some res → W p l e (q_rm 9 228) s m args below meth c H locs 0 0 (q_ZW E below none res args s) (F0 m 69 ls []) := by
  have hx := C.1
  have hb := C.2.1
  intro x0 x2 x3 x4 x5 g H locs ls hj hl hf
  unfold J_X12_readRow_69 at hf
  refine lv_aload_n hx hb dX12_readRow_69 rfl (lv_at hl 0 rfl) ?_
  refine q_cVWV C hj cw_X12_116 (As := []) (rest := []) hf (fun g9 h9 => c_X12_goesOn l E h9) rfl hl rfl rfl rfl dX12_readRow_70 ⟨Nat.zero_le _, Nat.zero_le _⟩ (fun g1 H locs hj hf => ?_)
  refine lv_aload_n hx hb dX12_readRow_73 rfl (lv_at hl 0 rfl) ?_
  refine q_getI C hj lk_X12_80 dX12_readRow_74 hf (fun v2 hf => ?_)
  refine lv_iconst (v := 5) hx hb dX12_readRow_77 qi_5 ?_
  refine q_icne C (tgt := 82) dX12_readRow_78 (by decide) hf (fun hf => ?_) (fun hf => ?_)
  · refine lv_aload_n hx hb dX12_readRow_82 rfl (lv_at hl 1 rfl) ?_
    refine lv_bipush (v := 7) hx hb dX12_readRow_83 (by decide) ?_
    refine lv_iload_n hx hb dX12_readRow_85 rfl (lv_at hl 2 rfl) ?_
    refine lv_imul hx hb dX12_readRow_86 ?_
    refine lv_iload hx hb dX12_readRow_87 (lv_at hl 4 rfl) ?_
    refine lv_iadd hx hb dX12_readRow_89 ?_
    refine lv_iload hx hb dX12_readRow_90 (lv_at hl 3 rfl) ?_
    refine q_astI C hj dX12_readRow_92 hf (fun g3 H locs hj hf => ?_)
    refine lv_aload_n hx hb dX12_readRow_93 rfl (lv_at hl 0 rfl) ?_
    refine q_getR C hj lk_X12_162 dX12_readRow_94 hf (fun v4 hf => ?_)
    refine lv_dup hx hb dX12_readRow_97 rfl ?_
    refine q_getI C hj lk_X12_312 dX12_readRow_98 hf (fun v5 hf => ?_)
    refine lv_iconst (v := 1) hx hb dX12_readRow_101 qi_1 ?_
    refine lv_iadd hx hb dX12_readRow_102 ?_
    refine q_putI C hj fp_X12_312 dX12_readRow_103 hf (fun g6 H locs hj hf => ?_)
    exact q_vretW C hj dX12_readRow_106 hf
  · exact q_vretW C hj dX12_readRow_81 hf
def f_X12_readRow (g : qS) (a0 : Nat) (a1 : Int32) (a2 : Nat) : Option qS := (g_C g a0 11).bind fun _ => (g_R g a0 11 4).bind fun v1 => (g_I g v1 10 6).bind fun v2 => (f_X12_begins g a0 v2 16).bind fun g3 => q_b2 (f_X12_readKnown g3 a0 a1) fun v5 g4 => q_b2 (f_X12_readKnown g4 a0 2) fun v7 g6 => (g_R g6 a0 11 4).bind fun v8 => (g_I g6 v8 10 0).bind fun v9 => q_b2 (f_X12_bounded g6 a0 0 (v9 - 1)) fun v11 g10 => (g_I g10 a0 11 9).bind fun v12 => if v12 = 5 then (J_X12_readRow_69 a0 a2 v5 v7 v11 g10) else ((a_I g10 a2 ((7 * v5) + v11)).bind fun v13 => if v13 = (-2) then (J_X12_readRow_69 a0 a2 v5 v7 v11 g10) else ((f_X12_flaw g10 a0 3).bind fun g14 => J_X12_readRow_69 a0 a2 v5 v7 v11 g14))
set_option maxHeartbeats 4000000 in
set_option maxRecDepth 100000 in
theorem c_X12_readRow (l : Launch) (E : qV) {g : qS} {a0 : Nat} {a1 : Int32} {a2 : Nat} {res : qS} (hf : f_X12_readRow g a0 a1 a2 = some res) : q_MW l yX12_readRow cX12_readRow 6 none 9 228 E [.ref (q_ad E a0), .int a1, .ref (q_ad E a2)] g none res ∧ ∃ fs, g a0 = some (.inr (11, fs)) := by
  unfold f_X12_readRow at hf
  obtain ⟨u9, hu9, hf⟩ := q_ob hf
  refine ⟨q_ofW (by decide) rfl ?_, g_C_sp hu9⟩
  intro p e s m args below meth c ls C hj hl
  have hx := C.1
  have hb := C.2.1
  have C : q_C E p s m args meth c cX12_readRow RX12 6 none := C
  have hl : lv_has ls 6 [(0, .ref (q_ad E a0)), (1, .int a1), (2, .ref (q_ad E a2))] := hl
  refine lv_aload_n hx hb dX12_readRow_0 rfl (lv_at hl 0 rfl) ?_
  refine lv_aload_n hx hb dX12_readRow_1 rfl (lv_at hl 0 rfl) ?_
  refine q_getR C hj lk_X12_162 dX12_readRow_2 hf (fun v1 hf => ?_)
  refine q_getI C hj lk_X12_312 dX12_readRow_5 hf (fun v2 hf => ?_)
  refine lv_bipush (v := 16) hx hb dX12_readRow_8 (by decide) ?_
  refine q_cVWV C hj cw_X12_254 (As := [.int v2, .int 16]) (rest := []) hf (fun g9 h9 => c_X12_begins l E h9) rfl hl rfl rfl rfl dX12_readRow_10 ⟨Nat.zero_le _, Nat.zero_le _⟩ (fun g3 H locs hj hf => ?_)
  refine lv_aload_n hx hb dX12_readRow_13 rfl (lv_at hl 0 rfl) ?_
  refine lv_iload_n hx hb dX12_readRow_14 rfl (lv_at hl 1 rfl) ?_
  refine q_cVWI C hj cw_X12_315 (As := [.int a1]) (rest := []) hf (fun v9 g9 h9 => c_X12_readKnown l E h9) rfl hl rfl rfl rfl dX12_readRow_15 ⟨Nat.zero_le _, Nat.zero_le _⟩ (fun v5 g4 H locs hj hf => ?_)
  refine lv_istore_n (lv' := [(3, .int v5), (0, .ref (q_ad E a0)), (1, .int a1), (2, .ref (q_ad E a2))]) hx hb dX12_readRow_18 rfl hl (by decide) rfl (fun ls hl => ?_)
  refine lv_aload_n hx hb dX12_readRow_19 rfl (lv_at hl 1 rfl) ?_
  refine lv_iconst (v := 2) hx hb dX12_readRow_20 qi_2 ?_
  refine q_cVWI C hj cw_X12_315 (As := [.int 2]) (rest := []) hf (fun v9 g9 h9 => c_X12_readKnown l E h9) rfl hl rfl rfl rfl dX12_readRow_21 ⟨Nat.zero_le _, Nat.zero_le _⟩ (fun v7 g6 H locs hj hf => ?_)
  refine lv_istore (lv' := [(4, .int v7), (3, .int v5), (0, .ref (q_ad E a0)), (1, .int a1), (2, .ref (q_ad E a2))]) hx hb dX12_readRow_24 hl (by decide) rfl (fun ls hl => ?_)
  refine lv_aload_n hx hb dX12_readRow_26 rfl (lv_at hl 2 rfl) ?_
  refine lv_iconst (v := 0) hx hb dX12_readRow_27 qi_0 ?_
  refine lv_aload_n hx hb dX12_readRow_28 rfl (lv_at hl 2 rfl) ?_
  refine q_getR C hj lk_X12_162 dX12_readRow_29 hf (fun v8 hf => ?_)
  refine q_getI C hj lk_X12_166 dX12_readRow_32 hf (fun v9 hf => ?_)
  refine lv_iconst (v := 1) hx hb dX12_readRow_35 qi_1 ?_
  refine lv_isub hx hb dX12_readRow_36 ?_
  refine q_cVWI C hj cw_X12_131 (As := [.int 0, .int (v9 - 1)]) (rest := []) hf (fun v9 g9 h9 => c_X12_bounded l E h9) rfl hl rfl rfl rfl dX12_readRow_37 ⟨Nat.zero_le _, Nat.zero_le _⟩ (fun v11 g10 H locs hj hf => ?_)
  refine lv_istore (lv' := [(5, .int v11), (4, .int v7), (3, .int v5), (0, .ref (q_ad E a0)), (1, .int a1), (2, .ref (q_ad E a2))]) hx hb dX12_readRow_40 hl (by decide) rfl (fun ls hl => ?_)
  refine lv_aload_n hx hb dX12_readRow_42 rfl (lv_at hl 3 rfl) ?_
  refine q_getI C hj lk_X12_80 dX12_readRow_43 hf (fun v12 hf => ?_)
  refine lv_iconst (v := 5) hx hb dX12_readRow_46 qi_5 ?_
  refine q_iceq C (tgt := 69) dX12_readRow_47 (by decide) hf (fun hf => ?_) (fun hf => ?_)
  · refine w_J_X12_readRow_69 C  hj (lv_sub hl [3, 5, 2, 1, 0] rfl) hf
  · refine lv_aload_n hx hb dX12_readRow_50 rfl (lv_at hl 5 rfl) ?_
    refine lv_bipush (v := 7) hx hb dX12_readRow_51 (by decide) ?_
    refine lv_iload_n hx hb dX12_readRow_53 rfl (lv_at hl 2 rfl) ?_
    refine lv_imul hx hb dX12_readRow_54 ?_
    refine lv_iload hx hb dX12_readRow_55 (lv_at hl 0 rfl) ?_
    refine lv_iadd hx hb dX12_readRow_57 ?_
    refine q_aldI C hj dX12_readRow_58 hf (fun v13 hf => ?_)
    refine lv_bipush (v := -2) hx hb dX12_readRow_59 (by decide) ?_
    refine q_iceq C (tgt := 69) dX12_readRow_61 (by decide) hf (fun hf => ?_) (fun hf => ?_)
    · refine w_J_X12_readRow_69 C  hj (lv_sub hl [3, 5, 2, 1, 0] rfl) hf
    · refine lv_aload_n hx hb dX12_readRow_64 rfl (lv_at hl 3 rfl) ?_
      refine lv_iconst (v := 3) hx hb dX12_readRow_65 qi_3 ?_
      refine q_cVWV C hj cw_X12_123 (As := [.int 3]) (rest := []) hf (fun g9 h9 => c_X12_flaw l E h9) rfl hl rfl rfl rfl dX12_readRow_66 ⟨Nat.zero_le _, Nat.zero_le _⟩ (fun g14 H locs hj hf => ?_)
      refine w_J_X12_readRow_69 C  hj (lv_sub hl [3, 5, 2, 1, 0] rfl) hf
def f_X12_readGives (g : qS) (a0 : Nat) : Option qS := (g_C g a0 11).bind fun _ => (g_R g a0 11 4).bind fun v1 => (g_I g v1 10 7).bind fun v2 => (f_X12_begins g a0 v2 12).bind fun g3 => q_b2 (f_X12_readKnown g3 a0 3) fun v5 g4 => q_b2 (f_X12_readKnown g4 a0 0) fun v7 g6 => q_b2 (f_X12_readKnown g6 a0 1) fun v9 g8 => (g_R g8 a0 11 4).bind fun v10 => (g_I g8 v10 10 0).bind fun v11 => q_b2 (f_X12_readWhole g8 a0 0 (v11 - 1)) fun v13 g12 => (g_I g12 a0 11 9).bind fun v14 => if v14 = 5 then (some g12) else ((g_R g12 a0 11 4).bind fun v15 => (g_R g12 v15 10 23).bind fun v16 => (g_R g12 a0 11 4).bind fun v17 => (g_I g12 v17 10 7).bind fun v18 => (s_I g12 v16 v18 v5).bind fun g19 => (g_R g19 a0 11 4).bind fun v20 => (g_R g19 v20 10 24).bind fun v21 => (g_R g19 a0 11 4).bind fun v22 => (g_I g19 v22 10 7).bind fun v23 => (s_I g19 v21 v23 v7).bind fun g24 => (g_R g24 a0 11 4).bind fun v25 => (g_R g24 v25 10 25).bind fun v26 => (g_R g24 a0 11 4).bind fun v27 => (g_I g24 v27 10 7).bind fun v28 => (s_I g24 v26 v28 v9).bind fun g29 => (g_R g29 a0 11 4).bind fun v30 => (g_R g29 v30 10 26).bind fun v31 => (g_R g29 a0 11 4).bind fun v32 => (g_I g29 v32 10 7).bind fun v33 => (s_I g29 v31 v33 v13).bind fun g34 => (g_R g34 a0 11 4).bind fun v35 => (g_I g34 v35 10 7).bind fun v36 => (p_I g34 v35 10 7 (v36 + 1)).bind fun g37 => some g37)
set_option maxHeartbeats 4000000 in
set_option maxRecDepth 100000 in
theorem c_X12_readGives (l : Launch) (E : qV) {g : qS} {a0 : Nat} {res : qS} (hf : f_X12_readGives g a0 = some res) : q_MW l yX12_readGives cX12_readGives 5 none 9 228 E [.ref (q_ad E a0)] g none res ∧ ∃ fs, g a0 = some (.inr (11, fs)) := by
  unfold f_X12_readGives at hf
  obtain ⟨u9, hu9, hf⟩ := q_ob hf
  refine ⟨q_ofW (by decide) rfl ?_, g_C_sp hu9⟩
  intro p e s m args below meth c ls C hj hl
  have hx := C.1
  have hb := C.2.1
  have C : q_C E p s m args meth c cX12_readGives RX12 5 none := C
  have hl : lv_has ls 5 [(0, .ref (q_ad E a0))] := hl
  refine lv_aload_n hx hb dX12_readGives_0 rfl (lv_at hl 0 rfl) ?_
  refine lv_aload_n hx hb dX12_readGives_1 rfl (lv_at hl 0 rfl) ?_
  refine q_getR C hj lk_X12_162 dX12_readGives_2 hf (fun v1 hf => ?_)
  refine q_getI C hj lk_X12_318 dX12_readGives_5 hf (fun v2 hf => ?_)
  refine lv_bipush (v := 12) hx hb dX12_readGives_8 (by decide) ?_
  refine q_cVWV C hj cw_X12_254 (As := [.int v2, .int 12]) (rest := []) hf (fun g9 h9 => c_X12_begins l E h9) rfl hl rfl rfl rfl dX12_readGives_10 ⟨Nat.zero_le _, Nat.zero_le _⟩ (fun g3 H locs hj hf => ?_)
  refine lv_aload_n hx hb dX12_readGives_13 rfl (lv_at hl 0 rfl) ?_
  refine lv_iconst (v := 3) hx hb dX12_readGives_14 qi_3 ?_
  refine q_cVWI C hj cw_X12_315 (As := [.int 3]) (rest := []) hf (fun v9 g9 h9 => c_X12_readKnown l E h9) rfl hl rfl rfl rfl dX12_readGives_15 ⟨Nat.zero_le _, Nat.zero_le _⟩ (fun v5 g4 H locs hj hf => ?_)
  refine lv_istore_n (lv' := [(1, .int v5), (0, .ref (q_ad E a0))]) hx hb dX12_readGives_18 rfl hl (by decide) rfl (fun ls hl => ?_)
  refine lv_aload_n hx hb dX12_readGives_19 rfl (lv_at hl 1 rfl) ?_
  refine lv_iconst (v := 0) hx hb dX12_readGives_20 qi_0 ?_
  refine q_cVWI C hj cw_X12_315 (As := [.int 0]) (rest := []) hf (fun v9 g9 h9 => c_X12_readKnown l E h9) rfl hl rfl rfl rfl dX12_readGives_21 ⟨Nat.zero_le _, Nat.zero_le _⟩ (fun v7 g6 H locs hj hf => ?_)
  refine lv_istore_n (lv' := [(2, .int v7), (1, .int v5), (0, .ref (q_ad E a0))]) hx hb dX12_readGives_24 rfl hl (by decide) rfl (fun ls hl => ?_)
  refine lv_aload_n hx hb dX12_readGives_25 rfl (lv_at hl 2 rfl) ?_
  refine lv_iconst (v := 1) hx hb dX12_readGives_26 qi_1 ?_
  refine q_cVWI C hj cw_X12_315 (As := [.int 1]) (rest := []) hf (fun v9 g9 h9 => c_X12_readKnown l E h9) rfl hl rfl rfl rfl dX12_readGives_27 ⟨Nat.zero_le _, Nat.zero_le _⟩ (fun v9 g8 H locs hj hf => ?_)
  refine lv_istore_n (lv' := [(3, .int v9), (2, .int v7), (1, .int v5), (0, .ref (q_ad E a0))]) hx hb dX12_readGives_30 rfl hl (by decide) rfl (fun ls hl => ?_)
  refine lv_aload_n hx hb dX12_readGives_31 rfl (lv_at hl 3 rfl) ?_
  refine lv_iconst (v := 0) hx hb dX12_readGives_32 qi_0 ?_
  refine lv_aload_n hx hb dX12_readGives_33 rfl (lv_at hl 3 rfl) ?_
  refine q_getR C hj lk_X12_162 dX12_readGives_34 hf (fun v10 hf => ?_)
  refine q_getI C hj lk_X12_166 dX12_readGives_37 hf (fun v11 hf => ?_)
  refine lv_iconst (v := 1) hx hb dX12_readGives_40 qi_1 ?_
  refine lv_isub hx hb dX12_readGives_41 ?_
  refine q_cVWI C hj cw_X12_139 (As := [.int 0, .int (v11 - 1)]) (rest := []) hf (fun v9 g9 h9 => c_X12_readWhole l E h9) rfl hl rfl rfl rfl dX12_readGives_42 ⟨Nat.zero_le _, Nat.zero_le _⟩ (fun v13 g12 H locs hj hf => ?_)
  refine lv_istore (lv' := [(4, .int v13), (3, .int v9), (2, .int v7), (1, .int v5), (0, .ref (q_ad E a0))]) hx hb dX12_readGives_45 hl (by decide) rfl (fun ls hl => ?_)
  refine lv_aload_n hx hb dX12_readGives_47 rfl (lv_at hl 4 rfl) ?_
  refine q_getI C hj lk_X12_80 dX12_readGives_48 hf (fun v14 hf => ?_)
  refine lv_iconst (v := 5) hx hb dX12_readGives_51 qi_5 ?_
  refine q_icne C (tgt := 56) dX12_readGives_52 (by decide) hf (fun hf => ?_) (fun hf => ?_)
  · refine lv_aload_n hx hb dX12_readGives_56 rfl (lv_at hl 4 rfl) ?_
    refine q_getR C hj lk_X12_162 dX12_readGives_57 hf (fun v15 hf => ?_)
    refine q_getR C hj lk_X12_321 dX12_readGives_60 hf (fun v16 hf => ?_)
    refine lv_aload_n hx hb dX12_readGives_63 rfl (lv_at hl 4 rfl) ?_
    refine q_getR C hj lk_X12_162 dX12_readGives_64 hf (fun v17 hf => ?_)
    refine q_getI C hj lk_X12_318 dX12_readGives_67 hf (fun v18 hf => ?_)
    refine lv_iload_n hx hb dX12_readGives_70 rfl (lv_at hl 3 rfl) ?_
    refine q_astI C hj dX12_readGives_71 hf (fun g19 H locs hj hf => ?_)
    refine lv_aload_n hx hb dX12_readGives_72 rfl (lv_at hl 4 rfl) ?_
    refine q_getR C hj lk_X12_162 dX12_readGives_73 hf (fun v20 hf => ?_)
    refine q_getR C hj lk_X12_324 dX12_readGives_76 hf (fun v21 hf => ?_)
    refine lv_aload_n hx hb dX12_readGives_79 rfl (lv_at hl 4 rfl) ?_
    refine q_getR C hj lk_X12_162 dX12_readGives_80 hf (fun v22 hf => ?_)
    refine q_getI C hj lk_X12_318 dX12_readGives_83 hf (fun v23 hf => ?_)
    refine lv_iload_n hx hb dX12_readGives_86 rfl (lv_at hl 2 rfl) ?_
    refine q_astI C hj dX12_readGives_87 hf (fun g24 H locs hj hf => ?_)
    refine lv_aload_n hx hb dX12_readGives_88 rfl (lv_at hl 4 rfl) ?_
    refine q_getR C hj lk_X12_162 dX12_readGives_89 hf (fun v25 hf => ?_)
    refine q_getR C hj lk_X12_327 dX12_readGives_92 hf (fun v26 hf => ?_)
    refine lv_aload_n hx hb dX12_readGives_95 rfl (lv_at hl 4 rfl) ?_
    refine q_getR C hj lk_X12_162 dX12_readGives_96 hf (fun v27 hf => ?_)
    refine q_getI C hj lk_X12_318 dX12_readGives_99 hf (fun v28 hf => ?_)
    refine lv_iload_n hx hb dX12_readGives_102 rfl (lv_at hl 1 rfl) ?_
    refine q_astI C hj dX12_readGives_103 hf (fun g29 H locs hj hf => ?_)
    refine lv_aload_n hx hb dX12_readGives_104 rfl (lv_at hl 4 rfl) ?_
    refine q_getR C hj lk_X12_162 dX12_readGives_105 hf (fun v30 hf => ?_)
    refine q_getR C hj lk_X12_330 dX12_readGives_108 hf (fun v31 hf => ?_)
    refine lv_aload_n hx hb dX12_readGives_111 rfl (lv_at hl 4 rfl) ?_
    refine q_getR C hj lk_X12_162 dX12_readGives_112 hf (fun v32 hf => ?_)
    refine q_getI C hj lk_X12_318 dX12_readGives_115 hf (fun v33 hf => ?_)
    refine lv_iload hx hb dX12_readGives_118 (lv_at hl 0 rfl) ?_
    refine q_astI C hj dX12_readGives_120 hf (fun g34 H locs hj hf => ?_)
    refine lv_aload_n hx hb dX12_readGives_121 rfl (lv_at hl 4 rfl) ?_
    refine q_getR C hj lk_X12_162 dX12_readGives_122 hf (fun v35 hf => ?_)
    refine lv_dup hx hb dX12_readGives_125 rfl ?_
    refine q_getI C hj lk_X12_318 dX12_readGives_126 hf (fun v36 hf => ?_)
    refine lv_iconst (v := 1) hx hb dX12_readGives_129 qi_1 ?_
    refine lv_iadd hx hb dX12_readGives_130 ?_
    refine q_putI C hj fp_X12_318 dX12_readGives_131 hf (fun g37 H locs hj hf => ?_)
    exact q_vretW C hj dX12_readGives_134 hf
  · exact q_vretW C hj dX12_readGives_55 hf
def J_X12_readFound_39  (x0 : Nat) (x1 : Int32) (g : qS) : Option qS := (f_X12_goesOn g x0).bind fun g1 => q_b2 (f_X12_readKnown g1 x0 1) fun v3 g2 => (g_I g2 x0 11 9).bind fun v4 => if v4 = 5 then (some g2) else ((g_R g2 x0 11 4).bind fun v5 => (g_R g2 v5 10 13).bind fun v6 => (s_I g2 v6 x1 v3).bind fun g7 => (g_R g7 x0 11 4).bind fun v8 => (g_R g7 v8 10 14).bind fun v9 => (g_R g7 x0 11 4).bind fun v10 => (g_I g7 v10 10 8).bind fun v11 => (s_I g7 v9 v11 x1).bind fun g12 => (g_R g12 x0 11 4).bind fun v13 => (g_I g12 v13 10 8).bind fun v14 => (p_I g12 v13 10 8 (v14 + 1)).bind fun g15 => some g15)
set_option maxHeartbeats 4000000 in
set_option maxRecDepth 100000 in
theorem w_J_X12_readFound_39 {l : Launch} {E : qV} {p : Program} {e : Env} {s : State} {m : MethodId} {args : Array Value} {below : List Frame} {meth : Method} {c : Code}  {res : qS} (C : q_C E p s m args meth c cX12_readFound RX12 3 none)  : ∀ {x0 : Nat} {x1 : Int32} {g : qS} {H : Heap} {locs : List Loc} {ls : Array Slot}, q_J E s g H locs → lv_has ls 3 [(0, .ref (q_ad E x0)), (1, .int x1)] → J_X12_readFound_39 x0 x1 g = some res → W p l e (q_rm 9 228) s m args below meth c H locs 0 0 (q_ZW E below none res args s) (F0 m 39 ls []) := by
  have hx := C.1
  have hb := C.2.1
  intro x0 x1 g H locs ls hj hl hf
  unfold J_X12_readFound_39 at hf
  refine lv_aload_n hx hb dX12_readFound_39 rfl (lv_at hl 0 rfl) ?_
  refine q_cVWV C hj cw_X12_116 (As := []) (rest := []) hf (fun g9 h9 => c_X12_goesOn l E h9) rfl hl rfl rfl rfl dX12_readFound_40 ⟨Nat.zero_le _, Nat.zero_le _⟩ (fun g1 H locs hj hf => ?_)
  refine lv_aload_n hx hb dX12_readFound_43 rfl (lv_at hl 0 rfl) ?_
  refine lv_iconst (v := 1) hx hb dX12_readFound_44 qi_1 ?_
  refine q_cVWI C hj cw_X12_315 (As := [.int 1]) (rest := []) hf (fun v9 g9 h9 => c_X12_readKnown l E h9) rfl hl rfl rfl rfl dX12_readFound_45 ⟨Nat.zero_le _, Nat.zero_le _⟩ (fun v3 g2 H locs hj hf => ?_)
  refine lv_istore_n (lv' := [(2, .int v3), (0, .ref (q_ad E x0)), (1, .int x1)]) hx hb dX12_readFound_48 rfl hl (by decide) rfl (fun ls hl => ?_)
  refine lv_aload_n hx hb dX12_readFound_49 rfl (lv_at hl 1 rfl) ?_
  refine q_getI C hj lk_X12_80 dX12_readFound_50 hf (fun v4 hf => ?_)
  refine lv_iconst (v := 5) hx hb dX12_readFound_53 qi_5 ?_
  refine q_icne C (tgt := 58) dX12_readFound_54 (by decide) hf (fun hf => ?_) (fun hf => ?_)
  · refine lv_aload_n hx hb dX12_readFound_58 rfl (lv_at hl 1 rfl) ?_
    refine q_getR C hj lk_X12_162 dX12_readFound_59 hf (fun v5 hf => ?_)
    refine q_getR C hj lk_X12_251 dX12_readFound_62 hf (fun v6 hf => ?_)
    refine lv_iload_n hx hb dX12_readFound_65 rfl (lv_at hl 2 rfl) ?_
    refine lv_iload_n hx hb dX12_readFound_66 rfl (lv_at hl 0 rfl) ?_
    refine q_astI C hj dX12_readFound_67 hf (fun g7 H locs hj hf => ?_)
    refine lv_aload_n hx hb dX12_readFound_68 rfl (lv_at hl 1 rfl) ?_
    refine q_getR C hj lk_X12_162 dX12_readFound_69 hf (fun v8 hf => ?_)
    refine q_getR C hj lk_X12_333 dX12_readFound_72 hf (fun v9 hf => ?_)
    refine lv_aload_n hx hb dX12_readFound_75 rfl (lv_at hl 1 rfl) ?_
    refine q_getR C hj lk_X12_162 dX12_readFound_76 hf (fun v10 hf => ?_)
    refine q_getI C hj lk_X12_336 dX12_readFound_79 hf (fun v11 hf => ?_)
    refine lv_iload_n hx hb dX12_readFound_82 rfl (lv_at hl 2 rfl) ?_
    refine q_astI C hj dX12_readFound_83 hf (fun g12 H locs hj hf => ?_)
    refine lv_aload_n hx hb dX12_readFound_84 rfl (lv_at hl 1 rfl) ?_
    refine q_getR C hj lk_X12_162 dX12_readFound_85 hf (fun v13 hf => ?_)
    refine lv_dup hx hb dX12_readFound_88 rfl ?_
    refine q_getI C hj lk_X12_336 dX12_readFound_89 hf (fun v14 hf => ?_)
    refine lv_iconst (v := 1) hx hb dX12_readFound_92 qi_1 ?_
    refine lv_iadd hx hb dX12_readFound_93 ?_
    refine q_putI C hj fp_X12_336 dX12_readFound_94 hf (fun g15 H locs hj hf => ?_)
    exact q_vretW C hj dX12_readFound_97 hf
  · exact q_vretW C hj dX12_readFound_57 hf
def f_X12_readFound (g : qS) (a0 : Nat) : Option qS := (g_C g a0 11).bind fun _ => (f_X12_begins g a0 0 1).bind fun g1 => q_b2 (f_X12_knownOne g1 a0 0) fun v3 g2 => (g_I g2 a0 11 9).bind fun v4 => if v4 = 5 then (J_X12_readFound_39 a0 v3 g2) else ((g_R g2 a0 11 4).bind fun v5 => (g_R g2 v5 10 13).bind fun v6 => (a_I g2 v6 v3).bind fun v7 => if v7 = (-2) then (J_X12_readFound_39 a0 v3 g2) else ((f_X12_flaw g2 a0 3).bind fun g8 => J_X12_readFound_39 a0 v3 g8))
set_option maxHeartbeats 4000000 in
set_option maxRecDepth 100000 in
theorem c_X12_readFound (l : Launch) (E : qV) {g : qS} {a0 : Nat} {res : qS} (hf : f_X12_readFound g a0 = some res) : q_MW l yX12_readFound cX12_readFound 3 none 9 228 E [.ref (q_ad E a0)] g none res ∧ ∃ fs, g a0 = some (.inr (11, fs)) := by
  unfold f_X12_readFound at hf
  obtain ⟨u9, hu9, hf⟩ := q_ob hf
  refine ⟨q_ofW (by decide) rfl ?_, g_C_sp hu9⟩
  intro p e s m args below meth c ls C hj hl
  have hx := C.1
  have hb := C.2.1
  have C : q_C E p s m args meth c cX12_readFound RX12 3 none := C
  have hl : lv_has ls 3 [(0, .ref (q_ad E a0))] := hl
  refine lv_aload_n hx hb dX12_readFound_0 rfl (lv_at hl 0 rfl) ?_
  refine lv_iconst (v := 0) hx hb dX12_readFound_1 qi_0 ?_
  refine lv_iconst (v := 1) hx hb dX12_readFound_2 qi_1 ?_
  refine q_cVWV C hj cw_X12_254 (As := [.int 0, .int 1]) (rest := []) hf (fun g9 h9 => c_X12_begins l E h9) rfl hl rfl rfl rfl dX12_readFound_3 ⟨Nat.zero_le _, Nat.zero_le _⟩ (fun g1 H locs hj hf => ?_)
  refine lv_aload_n hx hb dX12_readFound_6 rfl (lv_at hl 0 rfl) ?_
  refine lv_iconst (v := 0) hx hb dX12_readFound_7 qi_0 ?_
  refine q_cVWI C hj cw_X12_192 (As := [.int 0]) (rest := []) hf (fun v9 g9 h9 => c_X12_knownOne l E h9) rfl hl rfl rfl rfl dX12_readFound_8 ⟨Nat.zero_le _, Nat.zero_le _⟩ (fun v3 g2 H locs hj hf => ?_)
  refine lv_istore_n (lv' := [(1, .int v3), (0, .ref (q_ad E a0))]) hx hb dX12_readFound_11 rfl hl (by decide) rfl (fun ls hl => ?_)
  refine lv_aload_n hx hb dX12_readFound_12 rfl (lv_at hl 1 rfl) ?_
  refine q_getI C hj lk_X12_80 dX12_readFound_13 hf (fun v4 hf => ?_)
  refine lv_iconst (v := 5) hx hb dX12_readFound_16 qi_5 ?_
  refine q_iceq C (tgt := 39) dX12_readFound_17 (by decide) hf (fun hf => ?_) (fun hf => ?_)
  · refine w_J_X12_readFound_39 C  hj (lv_sub hl [1, 0] rfl) hf
  · refine lv_aload_n hx hb dX12_readFound_20 rfl (lv_at hl 1 rfl) ?_
    refine q_getR C hj lk_X12_162 dX12_readFound_21 hf (fun v5 hf => ?_)
    refine q_getR C hj lk_X12_251 dX12_readFound_24 hf (fun v6 hf => ?_)
    refine lv_iload_n hx hb dX12_readFound_27 rfl (lv_at hl 0 rfl) ?_
    refine q_aldI C hj dX12_readFound_28 hf (fun v7 hf => ?_)
    refine lv_bipush (v := -2) hx hb dX12_readFound_29 (by decide) ?_
    refine q_iceq C (tgt := 39) dX12_readFound_31 (by decide) hf (fun hf => ?_) (fun hf => ?_)
    · refine w_J_X12_readFound_39 C  hj (lv_sub hl [1, 0] rfl) hf
    · refine lv_aload_n hx hb dX12_readFound_34 rfl (lv_at hl 1 rfl) ?_
      refine lv_iconst (v := 3) hx hb dX12_readFound_35 qi_3 ?_
      refine q_cVWV C hj cw_X12_123 (As := [.int 3]) (rest := []) hf (fun g9 h9 => c_X12_flaw l E h9) rfl hl rfl rfl rfl dX12_readFound_36 ⟨Nat.zero_le _, Nat.zero_le _⟩ (fun g8 H locs hj hf => ?_)
      refine w_J_X12_readFound_39 C  hj (lv_sub hl [1, 0] rfl) hf
def J_X12_readExam_67  (x0 : Nat) (x1 : Int32) (x2 : Int32) (x3 : Int32) (x4 : Int32) (x5 : Int32) (g : qS) : Option qS := (f_X12_goesOn g x0).bind fun g1 => (g_I g1 x0 11 9).bind fun v2 => if v2 = 5 then (some g1) else ((g_R g1 x0 11 4).bind fun v3 => (g_R g1 v3 10 27).bind fun v4 => (g_R g1 x0 11 4).bind fun v5 => (g_I g1 v5 10 9).bind fun v6 => (s_I g1 v4 v6 x1).bind fun g7 => (g_R g7 x0 11 4).bind fun v8 => (g_R g7 v8 10 28).bind fun v9 => (g_R g7 x0 11 4).bind fun v10 => (g_I g7 v10 10 9).bind fun v11 => (s_I g7 v9 v11 x2).bind fun g12 => (g_R g12 x0 11 4).bind fun v13 => (g_R g12 v13 10 29).bind fun v14 => (g_R g12 x0 11 4).bind fun v15 => (g_I g12 v15 10 9).bind fun v16 => (s_I g12 v14 v16 x3).bind fun g17 => (g_R g17 x0 11 4).bind fun v18 => (g_R g17 v18 10 30).bind fun v19 => (g_R g17 x0 11 4).bind fun v20 => (g_I g17 v20 10 9).bind fun v21 => (s_I g17 v19 v21 x4).bind fun g22 => (g_R g22 x0 11 4).bind fun v23 => (g_R g22 v23 10 31).bind fun v24 => (g_R g22 x0 11 4).bind fun v25 => (g_I g22 v25 10 9).bind fun v26 => (s_Z g22 v24 v26 x5).bind fun g27 => (g_R g27 x0 11 4).bind fun v28 => (g_I g27 v28 10 9).bind fun v29 => (p_I g27 v28 10 9 (v29 + 1)).bind fun g30 => some g30)
set_option maxHeartbeats 4000000 in
set_option maxRecDepth 100000 in
theorem w_J_X12_readExam_67 {l : Launch} {E : qV} {p : Program} {e : Env} {s : State} {m : MethodId} {args : Array Value} {below : List Frame} {meth : Method} {c : Code}  {res : qS} (C : q_C E p s m args meth c cX12_readExam RX12 6 none)  : ∀ {x0 : Nat} {x1 : Int32} {x2 : Int32} {x3 : Int32} {x4 : Int32} {x5 : Int32} {g : qS} {H : Heap} {locs : List Loc} {ls : Array Slot}, q_J E s g H locs → lv_has ls 6 [(0, .ref (q_ad E x0)), (1, .int x1), (2, .int x2), (3, .int x3), (4, .int x4), (5, .int x5)] → J_X12_readExam_67 x0 x1 x2 x3 x4 x5 g = some res → W p l e (q_rm 9 228) s m args below meth c H locs 0 0 (q_ZW E below none res args s) (F0 m 67 ls []) := by
  have hx := C.1
  have hb := C.2.1
  intro x0 x1 x2 x3 x4 x5 g H locs ls hj hl hf
  unfold J_X12_readExam_67 at hf
  refine lv_aload_n hx hb dX12_readExam_67 rfl (lv_at hl 0 rfl) ?_
  refine q_cVWV C hj cw_X12_116 (As := []) (rest := []) hf (fun g9 h9 => c_X12_goesOn l E h9) rfl hl rfl rfl rfl dX12_readExam_68 ⟨Nat.zero_le _, Nat.zero_le _⟩ (fun g1 H locs hj hf => ?_)
  refine lv_aload_n hx hb dX12_readExam_71 rfl (lv_at hl 0 rfl) ?_
  refine q_getI C hj lk_X12_80 dX12_readExam_72 hf (fun v2 hf => ?_)
  refine lv_iconst (v := 5) hx hb dX12_readExam_75 qi_5 ?_
  refine q_icne C (tgt := 80) dX12_readExam_76 (by decide) hf (fun hf => ?_) (fun hf => ?_)
  · refine lv_aload_n hx hb dX12_readExam_80 rfl (lv_at hl 0 rfl) ?_
    refine q_getR C hj lk_X12_162 dX12_readExam_81 hf (fun v3 hf => ?_)
    refine q_getR C hj lk_X12_346 dX12_readExam_84 hf (fun v4 hf => ?_)
    refine lv_aload_n hx hb dX12_readExam_87 rfl (lv_at hl 0 rfl) ?_
    refine q_getR C hj lk_X12_162 dX12_readExam_88 hf (fun v5 hf => ?_)
    refine q_getI C hj lk_X12_339 dX12_readExam_91 hf (fun v6 hf => ?_)
    refine lv_iload_n hx hb dX12_readExam_94 rfl (lv_at hl 1 rfl) ?_
    refine q_astI C hj dX12_readExam_95 hf (fun g7 H locs hj hf => ?_)
    refine lv_aload_n hx hb dX12_readExam_96 rfl (lv_at hl 0 rfl) ?_
    refine q_getR C hj lk_X12_162 dX12_readExam_97 hf (fun v8 hf => ?_)
    refine q_getR C hj lk_X12_349 dX12_readExam_100 hf (fun v9 hf => ?_)
    refine lv_aload_n hx hb dX12_readExam_103 rfl (lv_at hl 0 rfl) ?_
    refine q_getR C hj lk_X12_162 dX12_readExam_104 hf (fun v10 hf => ?_)
    refine q_getI C hj lk_X12_339 dX12_readExam_107 hf (fun v11 hf => ?_)
    refine lv_iload_n hx hb dX12_readExam_110 rfl (lv_at hl 2 rfl) ?_
    refine q_astI C hj dX12_readExam_111 hf (fun g12 H locs hj hf => ?_)
    refine lv_aload_n hx hb dX12_readExam_112 rfl (lv_at hl 0 rfl) ?_
    refine q_getR C hj lk_X12_162 dX12_readExam_113 hf (fun v13 hf => ?_)
    refine q_getR C hj lk_X12_352 dX12_readExam_116 hf (fun v14 hf => ?_)
    refine lv_aload_n hx hb dX12_readExam_119 rfl (lv_at hl 0 rfl) ?_
    refine q_getR C hj lk_X12_162 dX12_readExam_120 hf (fun v15 hf => ?_)
    refine q_getI C hj lk_X12_339 dX12_readExam_123 hf (fun v16 hf => ?_)
    refine lv_iload_n hx hb dX12_readExam_126 rfl (lv_at hl 3 rfl) ?_
    refine q_astI C hj dX12_readExam_127 hf (fun g17 H locs hj hf => ?_)
    refine lv_aload_n hx hb dX12_readExam_128 rfl (lv_at hl 0 rfl) ?_
    refine q_getR C hj lk_X12_162 dX12_readExam_129 hf (fun v18 hf => ?_)
    refine q_getR C hj lk_X12_355 dX12_readExam_132 hf (fun v19 hf => ?_)
    refine lv_aload_n hx hb dX12_readExam_135 rfl (lv_at hl 0 rfl) ?_
    refine q_getR C hj lk_X12_162 dX12_readExam_136 hf (fun v20 hf => ?_)
    refine q_getI C hj lk_X12_339 dX12_readExam_139 hf (fun v21 hf => ?_)
    refine lv_iload hx hb dX12_readExam_142 (lv_at hl 4 rfl) ?_
    refine q_astI C hj dX12_readExam_144 hf (fun g22 H locs hj hf => ?_)
    refine lv_aload_n hx hb dX12_readExam_145 rfl (lv_at hl 0 rfl) ?_
    refine q_getR C hj lk_X12_162 dX12_readExam_146 hf (fun v23 hf => ?_)
    refine q_getR C hj lk_X12_358 dX12_readExam_149 hf (fun v24 hf => ?_)
    refine lv_aload_n hx hb dX12_readExam_152 rfl (lv_at hl 0 rfl) ?_
    refine q_getR C hj lk_X12_162 dX12_readExam_153 hf (fun v25 hf => ?_)
    refine q_getI C hj lk_X12_339 dX12_readExam_156 hf (fun v26 hf => ?_)
    refine lv_iload hx hb dX12_readExam_159 (lv_at hl 5 rfl) ?_
    refine q_astZ C hj dX12_readExam_161 hf (fun g27 H locs hj hf => ?_)
    refine lv_aload_n hx hb dX12_readExam_162 rfl (lv_at hl 0 rfl) ?_
    refine q_getR C hj lk_X12_162 dX12_readExam_163 hf (fun v28 hf => ?_)
    refine lv_dup hx hb dX12_readExam_166 rfl ?_
    refine q_getI C hj lk_X12_339 dX12_readExam_167 hf (fun v29 hf => ?_)
    refine lv_iconst (v := 1) hx hb dX12_readExam_170 qi_1 ?_
    refine lv_iadd hx hb dX12_readExam_171 ?_
    refine q_putI C hj fp_X12_339 dX12_readExam_172 hf (fun g30 H locs hj hf => ?_)
    exact q_vretW C hj dX12_readExam_175 hf
  · exact q_vretW C hj dX12_readExam_79 hf
def f_X12_readExam (g : qS) (a0 : Nat) : Option qS := (g_C g a0 11).bind fun _ => (g_R g a0 11 4).bind fun v1 => (g_I g v1 10 9).bind fun v2 => (f_X12_begins g a0 v2 8).bind fun g3 => q_b2 (f_X12_readKnown g3 a0 3) fun v5 g4 => q_b2 (f_X12_readKnown g4 a0 0) fun v7 g6 => q_b2 (f_X12_readKnown g6 a0 1) fun v9 g8 => q_b2 (f_X12_readKnown g8 a0 2) fun v11 g10 => (f_X12_isWord g10 a0 54).bind fun v12 => if v12 = 0 then ((f_X12_isWord g10 a0 55).bind fun v13 => if v13 = 0 then ((f_X12_flaw g10 a0 1).bind fun g14 => J_X12_readExam_67 a0 v5 v7 v9 v11 v12 g14) else (J_X12_readExam_67 a0 v5 v7 v9 v11 v12 g10)) else (J_X12_readExam_67 a0 v5 v7 v9 v11 v12 g10)
set_option maxHeartbeats 4000000 in
set_option maxRecDepth 100000 in
theorem c_X12_readExam (l : Launch) (E : qV) {g : qS} {a0 : Nat} {res : qS} (hf : f_X12_readExam g a0 = some res) : q_MW l yX12_readExam cX12_readExam 6 none 9 228 E [.ref (q_ad E a0)] g none res ∧ ∃ fs, g a0 = some (.inr (11, fs)) := by
  unfold f_X12_readExam at hf
  obtain ⟨u9, hu9, hf⟩ := q_ob hf
  refine ⟨q_ofW (by decide) rfl ?_, g_C_sp hu9⟩
  intro p e s m args below meth c ls C hj hl
  have hx := C.1
  have hb := C.2.1
  have C : q_C E p s m args meth c cX12_readExam RX12 6 none := C
  have hl : lv_has ls 6 [(0, .ref (q_ad E a0))] := hl
  refine lv_aload_n hx hb dX12_readExam_0 rfl (lv_at hl 0 rfl) ?_
  refine lv_aload_n hx hb dX12_readExam_1 rfl (lv_at hl 0 rfl) ?_
  refine q_getR C hj lk_X12_162 dX12_readExam_2 hf (fun v1 hf => ?_)
  refine q_getI C hj lk_X12_339 dX12_readExam_5 hf (fun v2 hf => ?_)
  refine lv_bipush (v := 8) hx hb dX12_readExam_8 (by decide) ?_
  refine q_cVWV C hj cw_X12_254 (As := [.int v2, .int 8]) (rest := []) hf (fun g9 h9 => c_X12_begins l E h9) rfl hl rfl rfl rfl dX12_readExam_10 ⟨Nat.zero_le _, Nat.zero_le _⟩ (fun g3 H locs hj hf => ?_)
  refine lv_aload_n hx hb dX12_readExam_13 rfl (lv_at hl 0 rfl) ?_
  refine lv_iconst (v := 3) hx hb dX12_readExam_14 qi_3 ?_
  refine q_cVWI C hj cw_X12_315 (As := [.int 3]) (rest := []) hf (fun v9 g9 h9 => c_X12_readKnown l E h9) rfl hl rfl rfl rfl dX12_readExam_15 ⟨Nat.zero_le _, Nat.zero_le _⟩ (fun v5 g4 H locs hj hf => ?_)
  refine lv_istore_n (lv' := [(1, .int v5), (0, .ref (q_ad E a0))]) hx hb dX12_readExam_18 rfl hl (by decide) rfl (fun ls hl => ?_)
  refine lv_aload_n hx hb dX12_readExam_19 rfl (lv_at hl 1 rfl) ?_
  refine lv_iconst (v := 0) hx hb dX12_readExam_20 qi_0 ?_
  refine q_cVWI C hj cw_X12_315 (As := [.int 0]) (rest := []) hf (fun v9 g9 h9 => c_X12_readKnown l E h9) rfl hl rfl rfl rfl dX12_readExam_21 ⟨Nat.zero_le _, Nat.zero_le _⟩ (fun v7 g6 H locs hj hf => ?_)
  refine lv_istore_n (lv' := [(2, .int v7), (1, .int v5), (0, .ref (q_ad E a0))]) hx hb dX12_readExam_24 rfl hl (by decide) rfl (fun ls hl => ?_)
  refine lv_aload_n hx hb dX12_readExam_25 rfl (lv_at hl 2 rfl) ?_
  refine lv_iconst (v := 1) hx hb dX12_readExam_26 qi_1 ?_
  refine q_cVWI C hj cw_X12_315 (As := [.int 1]) (rest := []) hf (fun v9 g9 h9 => c_X12_readKnown l E h9) rfl hl rfl rfl rfl dX12_readExam_27 ⟨Nat.zero_le _, Nat.zero_le _⟩ (fun v9 g8 H locs hj hf => ?_)
  refine lv_istore_n (lv' := [(3, .int v9), (2, .int v7), (1, .int v5), (0, .ref (q_ad E a0))]) hx hb dX12_readExam_30 rfl hl (by decide) rfl (fun ls hl => ?_)
  refine lv_aload_n hx hb dX12_readExam_31 rfl (lv_at hl 3 rfl) ?_
  refine lv_iconst (v := 2) hx hb dX12_readExam_32 qi_2 ?_
  refine q_cVWI C hj cw_X12_315 (As := [.int 2]) (rest := []) hf (fun v9 g9 h9 => c_X12_readKnown l E h9) rfl hl rfl rfl rfl dX12_readExam_33 ⟨Nat.zero_le _, Nat.zero_le _⟩ (fun v11 g10 H locs hj hf => ?_)
  refine lv_istore (lv' := [(4, .int v11), (3, .int v9), (2, .int v7), (1, .int v5), (0, .ref (q_ad E a0))]) hx hb dX12_readExam_36 hl (by decide) rfl (fun ls hl => ?_)
  refine lv_aload_n hx hb dX12_readExam_38 rfl (lv_at hl 4 rfl) ?_
  refine q_ldcwS C (i := 54) rfl dX12_readExam_39 ?_
  refine q_cVRI C hj cw_X12_119 (As := [.ref (q_sa E 54)]) (rest := []) hf (fun v9 h9 => c_X12_isWord l E h9) rfl hl rfl rfl rfl dX12_readExam_42 ⟨Nat.zero_le _, Nat.zero_le _⟩ (fun v12 hf => ?_)
  refine lv_istore (lv' := [(5, .int v12), (4, .int v11), (3, .int v9), (2, .int v7), (1, .int v5), (0, .ref (q_ad E a0))]) hx hb dX12_readExam_45 hl (by decide) rfl (fun ls hl => ?_)
  refine lv_iload hx hb dX12_readExam_47 (lv_at hl 0 rfl) ?_
  refine q_ifne C (tgt := 67) dX12_readExam_49 (by decide) hf (fun hf => ?_) (fun hf => ?_)
  · refine w_J_X12_readExam_67 C  hj (lv_sub hl [5, 4, 3, 2, 1, 0] rfl) hf
  · refine lv_aload_n hx hb dX12_readExam_52 rfl (lv_at hl 5 rfl) ?_
    refine q_ldcwS C (i := 55) rfl dX12_readExam_53 ?_
    refine q_cVRI C hj cw_X12_119 (As := [.ref (q_sa E 55)]) (rest := []) hf (fun v9 h9 => c_X12_isWord l E h9) rfl hl rfl rfl rfl dX12_readExam_56 ⟨Nat.zero_le _, Nat.zero_le _⟩ (fun v13 hf => ?_)
    refine q_ifne C (tgt := 67) dX12_readExam_59 (by decide) hf (fun hf => ?_) (fun hf => ?_)
    · refine w_J_X12_readExam_67 C  hj (lv_sub hl [5, 4, 3, 2, 1, 0] rfl) hf
    · refine lv_aload_n hx hb dX12_readExam_62 rfl (lv_at hl 5 rfl) ?_
      refine lv_iconst (v := 1) hx hb dX12_readExam_63 qi_1 ?_
      refine q_cVWV C hj cw_X12_123 (As := [.int 1]) (rest := []) hf (fun g9 h9 => c_X12_flaw l E h9) rfl hl rfl rfl rfl dX12_readExam_64 ⟨Nat.zero_le _, Nat.zero_le _⟩ (fun g14 H locs hj hf => ?_)
      refine w_J_X12_readExam_67 C  hj (lv_sub hl [5, 4, 3, 2, 1, 0] rfl) hf
def f_X12_readLine (g : qS) (a0 : Nat) : Option qS := (g_C g a0 11).bind fun _ => (f_X12_isWord g a0 29).bind fun v1 => if v1 = 0 then ((f_X12_isWord g a0 32).bind fun v2 => if v2 = 0 then ((f_X12_isWord g a0 33).bind fun v3 => if v3 = 0 then ((f_X12_isWord g a0 34).bind fun v4 => if v4 = 0 then ((f_X12_isWord g a0 35).bind fun v5 => if v5 = 0 then ((f_X12_isWord g a0 36).bind fun v6 => if v6 = 0 then ((f_X12_isWord g a0 37).bind fun v7 => if v7 = 0 then ((f_X12_isWord g a0 38).bind fun v8 => if v8 = 0 then ((f_X12_isWord g a0 39).bind fun v9 => if v9 = 0 then ((f_X12_isWord g a0 40).bind fun v10 => if v10 = 0 then ((f_X12_flaw g a0 1).bind fun g11 => some g11) else ((f_X12_readExam g a0).bind fun g12 => some g12)) else ((f_X12_readFound g a0).bind fun g13 => some g13)) else ((f_X12_readGives g a0).bind fun g14 => some g14)) else ((g_R g a0 11 4).bind fun v15 => (g_R g v15 10 22).bind fun v16 => (f_X12_readRow g a0 3 v16).bind fun g17 => some g17)) else ((g_R g a0 11 4).bind fun v18 => (g_R g v18 10 18).bind fun v19 => (f_X12_readRow g a0 1 v19).bind fun g20 => some g20)) else ((f_X12_readGiver g a0).bind fun g21 => some g21)) else ((f_X12_readTram g a0).bind fun g22 => some g22)) else ((f_X12_readPersonLine g a0).bind fun g23 => some g23)) else ((f_X12_readThing g a0).bind fun g24 => some g24)) else ((f_X12_readCollege g a0).bind fun g25 => some g25)
set_option maxHeartbeats 4000000 in
set_option maxRecDepth 100000 in
theorem c_X12_readLine (l : Launch) (E : qV) {g : qS} {a0 : Nat} {res : qS} (hf : f_X12_readLine g a0 = some res) : q_MW l yX12_readLine cX12_readLine 1 none 10 253 E [.ref (q_ad E a0)] g none res ∧ ∃ fs, g a0 = some (.inr (11, fs)) := by
  unfold f_X12_readLine at hf
  obtain ⟨u9, hu9, hf⟩ := q_ob hf
  refine ⟨q_ofW (by decide) rfl ?_, g_C_sp hu9⟩
  intro p e s m args below meth c ls C hj hl
  have hx := C.1
  have hb := C.2.1
  have C : q_C E p s m args meth c cX12_readLine RX12 1 none := C
  have hl : lv_has ls 1 [(0, .ref (q_ad E a0))] := hl
  refine lv_aload_n hx hb dX12_readLine_0 rfl (lv_at hl 0 rfl) ?_
  refine q_ldcS C (i := 29) rfl dX12_readLine_1 ?_
  refine q_cVRI C hj cw_X12_119 (As := [.ref (q_sa E 29)]) (rest := []) hf (fun v9 h9 => c_X12_isWord l E h9) rfl hl rfl rfl rfl dX12_readLine_3 ⟨Nat.zero_le _, Nat.zero_le _⟩ (fun v1 hf => ?_)
  refine q_ifeq C (tgt := 16) dX12_readLine_6 (by decide) hf (fun hf => ?_) (fun hf => ?_)
  · refine lv_aload_n hx hb dX12_readLine_16 rfl (lv_at hl 0 rfl) ?_
    refine q_ldcS C (i := 32) rfl dX12_readLine_17 ?_
    refine q_cVRI C hj cw_X12_119 (As := [.ref (q_sa E 32)]) (rest := []) hf (fun v9 h9 => c_X12_isWord l E h9) rfl hl rfl rfl rfl dX12_readLine_19 ⟨Nat.zero_le _, Nat.zero_le _⟩ (fun v2 hf => ?_)
    refine q_ifeq C (tgt := 32) dX12_readLine_22 (by decide) hf (fun hf => ?_) (fun hf => ?_)
    · refine lv_aload_n hx hb dX12_readLine_32 rfl (lv_at hl 0 rfl) ?_
      refine q_ldcS C (i := 33) rfl dX12_readLine_33 ?_
      refine q_cVRI C hj cw_X12_119 (As := [.ref (q_sa E 33)]) (rest := []) hf (fun v9 h9 => c_X12_isWord l E h9) rfl hl rfl rfl rfl dX12_readLine_35 ⟨Nat.zero_le _, Nat.zero_le _⟩ (fun v3 hf => ?_)
      refine q_ifeq C (tgt := 48) dX12_readLine_38 (by decide) hf (fun hf => ?_) (fun hf => ?_)
      · refine lv_aload_n hx hb dX12_readLine_48 rfl (lv_at hl 0 rfl) ?_
        refine q_ldcS C (i := 34) rfl dX12_readLine_49 ?_
        refine q_cVRI C hj cw_X12_119 (As := [.ref (q_sa E 34)]) (rest := []) hf (fun v9 h9 => c_X12_isWord l E h9) rfl hl rfl rfl rfl dX12_readLine_51 ⟨Nat.zero_le _, Nat.zero_le _⟩ (fun v4 hf => ?_)
        refine q_ifeq C (tgt := 64) dX12_readLine_54 (by decide) hf (fun hf => ?_) (fun hf => ?_)
        · refine lv_aload_n hx hb dX12_readLine_64 rfl (lv_at hl 0 rfl) ?_
          refine q_ldcS C (i := 35) rfl dX12_readLine_65 ?_
          refine q_cVRI C hj cw_X12_119 (As := [.ref (q_sa E 35)]) (rest := []) hf (fun v9 h9 => c_X12_isWord l E h9) rfl hl rfl rfl rfl dX12_readLine_67 ⟨Nat.zero_le _, Nat.zero_le _⟩ (fun v5 hf => ?_)
          refine q_ifeq C (tgt := 80) dX12_readLine_70 (by decide) hf (fun hf => ?_) (fun hf => ?_)
          · refine lv_aload_n hx hb dX12_readLine_80 rfl (lv_at hl 0 rfl) ?_
            refine q_ldcS C (i := 36) rfl dX12_readLine_81 ?_
            refine q_cVRI C hj cw_X12_119 (As := [.ref (q_sa E 36)]) (rest := []) hf (fun v9 h9 => c_X12_isWord l E h9) rfl hl rfl rfl rfl dX12_readLine_83 ⟨Nat.zero_le _, Nat.zero_le _⟩ (fun v6 hf => ?_)
            refine q_ifeq C (tgt := 104) dX12_readLine_86 (by decide) hf (fun hf => ?_) (fun hf => ?_)
            · refine lv_aload_n hx hb dX12_readLine_104 rfl (lv_at hl 0 rfl) ?_
              refine q_ldcS C (i := 37) rfl dX12_readLine_105 ?_
              refine q_cVRI C hj cw_X12_119 (As := [.ref (q_sa E 37)]) (rest := []) hf (fun v9 h9 => c_X12_isWord l E h9) rfl hl rfl rfl rfl dX12_readLine_107 ⟨Nat.zero_le _, Nat.zero_le _⟩ (fun v7 hf => ?_)
              refine q_ifeq C (tgt := 128) dX12_readLine_110 (by decide) hf (fun hf => ?_) (fun hf => ?_)
              · refine lv_aload_n hx hb dX12_readLine_128 rfl (lv_at hl 0 rfl) ?_
                refine q_ldcS C (i := 38) rfl dX12_readLine_129 ?_
                refine q_cVRI C hj cw_X12_119 (As := [.ref (q_sa E 38)]) (rest := []) hf (fun v9 h9 => c_X12_isWord l E h9) rfl hl rfl rfl rfl dX12_readLine_131 ⟨Nat.zero_le _, Nat.zero_le _⟩ (fun v8 hf => ?_)
                refine q_ifeq C (tgt := 144) dX12_readLine_134 (by decide) hf (fun hf => ?_) (fun hf => ?_)
                · refine lv_aload_n hx hb dX12_readLine_144 rfl (lv_at hl 0 rfl) ?_
                  refine q_ldcS C (i := 39) rfl dX12_readLine_145 ?_
                  refine q_cVRI C hj cw_X12_119 (As := [.ref (q_sa E 39)]) (rest := []) hf (fun v9 h9 => c_X12_isWord l E h9) rfl hl rfl rfl rfl dX12_readLine_147 ⟨Nat.zero_le _, Nat.zero_le _⟩ (fun v9 hf => ?_)
                  refine q_ifeq C (tgt := 160) dX12_readLine_150 (by decide) hf (fun hf => ?_) (fun hf => ?_)
                  · refine lv_aload_n hx hb dX12_readLine_160 rfl (lv_at hl 0 rfl) ?_
                    refine q_ldcS C (i := 40) rfl dX12_readLine_161 ?_
                    refine q_cVRI C hj cw_X12_119 (As := [.ref (q_sa E 40)]) (rest := []) hf (fun v9 h9 => c_X12_isWord l E h9) rfl hl rfl rfl rfl dX12_readLine_163 ⟨Nat.zero_le _, Nat.zero_le _⟩ (fun v10 hf => ?_)
                    refine q_ifeq C (tgt := 176) dX12_readLine_166 (by decide) hf (fun hf => ?_) (fun hf => ?_)
                    · refine lv_aload_n hx hb dX12_readLine_176 rfl (lv_at hl 0 rfl) ?_
                      refine lv_iconst (v := 1) hx hb dX12_readLine_177 qi_1 ?_
                      refine q_cVWV C hj cw_X12_123 (As := [.int 1]) (rest := []) hf (fun g9 h9 => c_X12_flaw l E h9) rfl hl rfl rfl rfl dX12_readLine_178 ⟨Nat.zero_le _, Nat.zero_le _⟩ (fun g11 H locs hj hf => ?_)
                      exact q_vretW C hj dX12_readLine_181 hf
                    · refine lv_aload_n hx hb dX12_readLine_169 rfl (lv_at hl 0 rfl) ?_
                      refine q_cVWV C hj cw_X12_239 (As := []) (rest := []) hf (fun g9 h9 => c_X12_readExam l E h9) rfl hl rfl rfl rfl dX12_readLine_170 ⟨Nat.zero_le _, Nat.zero_le _⟩ (fun g12 H locs hj hf => ?_)
                      refine lv_goto (tgt := 181) hx hb dX12_readLine_173 (by decide) ?_
                      exact q_vretW C hj dX12_readLine_181 hf
                  · refine lv_aload_n hx hb dX12_readLine_153 rfl (lv_at hl 0 rfl) ?_
                    refine q_cVWV C hj cw_X12_236 (As := []) (rest := []) hf (fun g9 h9 => c_X12_readFound l E h9) rfl hl rfl rfl rfl dX12_readLine_154 ⟨Nat.zero_le _, Nat.zero_le _⟩ (fun g13 H locs hj hf => ?_)
                    refine lv_goto (tgt := 181) hx hb dX12_readLine_157 (by decide) ?_
                    exact q_vretW C hj dX12_readLine_181 hf
                · refine lv_aload_n hx hb dX12_readLine_137 rfl (lv_at hl 0 rfl) ?_
                  refine q_cVWV C hj cw_X12_233 (As := []) (rest := []) hf (fun g9 h9 => c_X12_readGives l E h9) rfl hl rfl rfl rfl dX12_readLine_138 ⟨Nat.zero_le _, Nat.zero_le _⟩ (fun g14 H locs hj hf => ?_)
                  refine lv_goto (tgt := 181) hx hb dX12_readLine_141 (by decide) ?_
                  exact q_vretW C hj dX12_readLine_181 hf
              · refine lv_aload_n hx hb dX12_readLine_113 rfl (lv_at hl 0 rfl) ?_
                refine lv_iconst (v := 3) hx hb dX12_readLine_114 qi_3 ?_
                refine lv_aload_n hx hb dX12_readLine_115 rfl (lv_at hl 0 rfl) ?_
                refine q_getR C hj lk_X12_162 dX12_readLine_116 hf (fun v15 hf => ?_)
                refine q_getR C hj lk_X12_231 dX12_readLine_119 hf (fun v16 hf => ?_)
                refine q_cVWV C hj cw_X12_227 (As := [.int 3, .ref (q_ad E v16)]) (rest := []) hf (fun g9 h9 => c_X12_readRow l E h9) rfl hl rfl rfl rfl dX12_readLine_122 ⟨Nat.zero_le _, Nat.zero_le _⟩ (fun g17 H locs hj hf => ?_)
                refine lv_goto (tgt := 181) hx hb dX12_readLine_125 (by decide) ?_
                exact q_vretW C hj dX12_readLine_181 hf
            · refine lv_aload_n hx hb dX12_readLine_89 rfl (lv_at hl 0 rfl) ?_
              refine lv_iconst (v := 1) hx hb dX12_readLine_90 qi_1 ?_
              refine lv_aload_n hx hb dX12_readLine_91 rfl (lv_at hl 0 rfl) ?_
              refine q_getR C hj lk_X12_162 dX12_readLine_92 hf (fun v18 hf => ?_)
              refine q_getR C hj lk_X12_225 dX12_readLine_95 hf (fun v19 hf => ?_)
              refine q_cVWV C hj cw_X12_227 (As := [.int 1, .ref (q_ad E v19)]) (rest := []) hf (fun g9 h9 => c_X12_readRow l E h9) rfl hl rfl rfl rfl dX12_readLine_98 ⟨Nat.zero_le _, Nat.zero_le _⟩ (fun g20 H locs hj hf => ?_)
              refine lv_goto (tgt := 181) hx hb dX12_readLine_101 (by decide) ?_
              exact q_vretW C hj dX12_readLine_181 hf
          · refine lv_aload_n hx hb dX12_readLine_73 rfl (lv_at hl 0 rfl) ?_
            refine q_cVWV C hj cw_X12_222 (As := []) (rest := []) hf (fun g9 h9 => c_X12_readGiver l E h9) rfl hl rfl rfl rfl dX12_readLine_74 ⟨Nat.zero_le _, Nat.zero_le _⟩ (fun g21 H locs hj hf => ?_)
            refine lv_goto (tgt := 181) hx hb dX12_readLine_77 (by decide) ?_
            exact q_vretW C hj dX12_readLine_181 hf
        · refine lv_aload_n hx hb dX12_readLine_57 rfl (lv_at hl 0 rfl) ?_
          refine q_cVWV C hj cw_X12_219 (As := []) (rest := []) hf (fun g9 h9 => c_X12_readTram l E h9) rfl hl rfl rfl rfl dX12_readLine_58 ⟨Nat.zero_le _, Nat.zero_le _⟩ (fun g22 H locs hj hf => ?_)
          refine lv_goto (tgt := 181) hx hb dX12_readLine_61 (by decide) ?_
          exact q_vretW C hj dX12_readLine_181 hf
      · refine lv_aload_n hx hb dX12_readLine_41 rfl (lv_at hl 0 rfl) ?_
        refine q_cVWV C hj cw_X12_216 (As := []) (rest := []) hf (fun g9 h9 => c_X12_readPersonLine l E h9) rfl hl rfl rfl rfl dX12_readLine_42 ⟨Nat.zero_le _, Nat.zero_le _⟩ (fun g23 H locs hj hf => ?_)
        refine lv_goto (tgt := 181) hx hb dX12_readLine_45 (by decide) ?_
        exact q_vretW C hj dX12_readLine_181 hf
    · refine lv_aload_n hx hb dX12_readLine_25 rfl (lv_at hl 0 rfl) ?_
      refine q_cVWV C hj cw_X12_213 (As := []) (rest := []) hf (fun g9 h9 => c_X12_readThing l E h9) rfl hl rfl rfl rfl dX12_readLine_26 ⟨Nat.zero_le _, Nat.zero_le _⟩ (fun g24 H locs hj hf => ?_)
      refine lv_goto (tgt := 181) hx hb dX12_readLine_29 (by decide) ?_
      exact q_vretW C hj dX12_readLine_181 hf
  · refine lv_aload_n hx hb dX12_readLine_9 rfl (lv_at hl 0 rfl) ?_
    refine q_cVWV C hj cw_X12_210 (As := []) (rest := []) hf (fun g9 h9 => c_X12_readCollege l E h9) rfl hl rfl rfl rfl dX12_readLine_10 ⟨Nat.zero_le _, Nat.zero_le _⟩ (fun g25 H locs hj hf => ?_)
    refine lv_goto (tgt := 181) hx hb dX12_readLine_13 (by decide) ?_
    exact q_vretW C hj dX12_readLine_181 hf
def L_X12_readAll_2 (k18 : Nat → qS → Option qS) : Nat → Nat → Int32 → qS → Option qS
  | 0, _, _, _ => none
  | n + 1, x0, x1, g => if x1 = 0 then (k18 x0 g) else ((f_X12_readLine g x0).bind fun g1 => q_b2 (f_X12_eatsSemicolon g1 x0) fun v3 g2 => L_X12_readAll_2 k18 n x0 v3 g2)
set_option maxHeartbeats 4000000 in
set_option maxRecDepth 100000 in
theorem w_L_X12_readAll_2 {l : Launch} {E : qV} {p : Program} {e : Env} {s : State} {m : MethodId} {args : Array Value} {below : List Frame} {meth : Method} {c : Code} {k18 : Nat → qS → Option qS} {res : qS} (C : q_C E p s m args meth c cX12_readAll RX12 2 none) (hk18 : ∀ (x0 : Nat) (g : qS) (H : Heap) (locs : List Loc) (ls : Array Slot), q_J E s g H locs → lv_has ls 2 [(0, .ref (q_ad E x0))] → k18 x0 g = some res → W p l e (q_rm 11 273) s m args below meth c H locs 0 0 (q_ZW E below none res args s) (F0 m 18 ls [])) : ∀ {n : Nat} {x0 : Nat} {x1 : Int32} {g : qS} {H : Heap} {locs : List Loc} {ls : Array Slot}, q_J E s g H locs → lv_has ls 2 [(0, .ref (q_ad E x0)), (1, .int x1)] → L_X12_readAll_2 k18 n x0 x1 g = some res → W p l e (q_rm 11 273) s m args below meth c H locs 0 0 (q_ZW E below none res args s) (F0 m 2 ls []) := by
  have hx := C.1
  have hb := C.2.1
  intro n
  induction n with
  | zero =>
    intro x0 x1 g H locs ls hj hl hf
    cases hf
  | succ n ih_ =>
    intro x0 x1 g H locs ls hj hl hf
    have ih : ∀ (x0 : Nat) (x1 : Int32) (g : qS) (H : Heap) (locs : List Loc) (ls : Array Slot), q_J E s g H locs → lv_has ls 2 [(0, .ref (q_ad E x0)), (1, .int x1)] → L_X12_readAll_2 k18 n x0 x1 g = some res → W p l e (q_rm 11 273) s m args below meth c H locs 0 0 (q_ZW E below none res args s) (F0 m 2 ls []) := fun x0 x1 g H locs ls hj hl hf => ih_ hj hl hf
    unfold L_X12_readAll_2 at hf
    refine lv_iload_n hx hb dX12_readAll_2 rfl (lv_at hl 1 rfl) ?_
    refine q_ifeq C (tgt := 18) dX12_readAll_3 (by decide) hf (fun hf => ?_) (fun hf => ?_)
    · exact hk18 _ _ _ _ ls hj (lv_sub hl [0] rfl) hf
    · refine lv_aload_n hx hb dX12_readAll_6 rfl (lv_at hl 0 rfl) ?_
      refine q_cVWV C hj cw_X12_195 (As := []) (rest := []) hf (fun g9 h9 => c_X12_readLine l E h9) rfl hl rfl rfl rfl dX12_readAll_7 ⟨Nat.zero_le _, Nat.zero_le _⟩ (fun g1 H locs hj hf => ?_)
      refine lv_aload_n hx hb dX12_readAll_10 rfl (lv_at hl 0 rfl) ?_
      refine q_cVWI C hj cw_X12_198 (As := []) (rest := []) hf (fun v9 g9 h9 => c_X12_eatsSemicolon l E h9) rfl hl rfl rfl rfl dX12_readAll_11 ⟨Nat.zero_le _, Nat.zero_le _⟩ (fun v3 g2 H locs hj hf => ?_)
      refine lv_istore_n (lv' := [(1, .int v3), (0, .ref (q_ad E x0))]) hx hb dX12_readAll_14 rfl hl (by decide) rfl (fun ls hl => ?_)
      refine lv_goto (tgt := 2) hx hb dX12_readAll_15 (by decide) ?_
      exact ih _ _ _ _ _ ls hj (lv_sub hl [1, 0] rfl) hf
def J_X12_readAll_31  (x0 : Nat) (g : qS) : Option qS := (g_R g x0 11 4).bind fun v1 => (g_I g v1 10 2).bind fun v2 => if v2 = 0 then ((f_X12_flaw g x0 6).bind fun g3 => some g3) else ((g_R g x0 11 4).bind fun v4 => (g_I g v4 10 3).bind fun v5 => if v5 = 0 then ((f_X12_flaw g x0 6).bind fun g6 => some g6) else ((g_R g x0 11 4).bind fun v7 => (g_I g v7 10 5).bind fun v8 => if v8 = 0 then ((f_X12_flaw g x0 6).bind fun g9 => some g9) else (some g)))
set_option maxHeartbeats 4000000 in
set_option maxRecDepth 100000 in
theorem w_J_X12_readAll_31 {l : Launch} {E : qV} {p : Program} {e : Env} {s : State} {m : MethodId} {args : Array Value} {below : List Frame} {meth : Method} {c : Code}  {res : qS} (C : q_C E p s m args meth c cX12_readAll RX12 2 none)  : ∀ {x0 : Nat} {g : qS} {H : Heap} {locs : List Loc} {ls : Array Slot}, q_J E s g H locs → lv_has ls 2 [(0, .ref (q_ad E x0))] → J_X12_readAll_31 x0 g = some res → W p l e (q_rm 11 273) s m args below meth c H locs 0 0 (q_ZW E below none res args s) (F0 m 31 ls []) := by
  have hx := C.1
  have hb := C.2.1
  intro x0 g H locs ls hj hl hf
  unfold J_X12_readAll_31 at hf
  refine lv_aload_n hx hb dX12_readAll_31 rfl (lv_at hl 0 rfl) ?_
  refine q_getR C hj lk_X12_162 dX12_readAll_32 hf (fun v1 hf => ?_)
  refine q_getI C hj lk_X12_201 dX12_readAll_35 hf (fun v2 hf => ?_)
  refine q_ifeq C (tgt := 61) dX12_readAll_38 (by decide) hf (fun hf => ?_) (fun hf => ?_)
  · refine lv_aload_n hx hb dX12_readAll_61 rfl (lv_at hl 0 rfl) ?_
    refine lv_bipush (v := 6) hx hb dX12_readAll_62 (by decide) ?_
    refine q_cVWV C hj cw_X12_123 (As := [.int 6]) (rest := []) hf (fun g9 h9 => c_X12_flaw l E h9) rfl hl rfl rfl rfl dX12_readAll_64 ⟨Nat.zero_le _, Nat.zero_le _⟩ (fun g3 H locs hj hf => ?_)
    exact q_vretW C hj dX12_readAll_67 hf
  · refine lv_aload_n hx hb dX12_readAll_41 rfl (lv_at hl 0 rfl) ?_
    refine q_getR C hj lk_X12_162 dX12_readAll_42 hf (fun v4 hf => ?_)
    refine q_getI C hj lk_X12_204 dX12_readAll_45 hf (fun v5 hf => ?_)
    refine q_ifeq C (tgt := 61) dX12_readAll_48 (by decide) hf (fun hf => ?_) (fun hf => ?_)
    · refine lv_aload_n hx hb dX12_readAll_61 rfl (lv_at hl 0 rfl) ?_
      refine lv_bipush (v := 6) hx hb dX12_readAll_62 (by decide) ?_
      refine q_cVWV C hj cw_X12_123 (As := [.int 6]) (rest := []) hf (fun g9 h9 => c_X12_flaw l E h9) rfl hl rfl rfl rfl dX12_readAll_64 ⟨Nat.zero_le _, Nat.zero_le _⟩ (fun g6 H locs hj hf => ?_)
      exact q_vretW C hj dX12_readAll_67 hf
    · refine lv_aload_n hx hb dX12_readAll_51 rfl (lv_at hl 0 rfl) ?_
      refine q_getR C hj lk_X12_162 dX12_readAll_52 hf (fun v7 hf => ?_)
      refine q_getI C hj lk_X12_207 dX12_readAll_55 hf (fun v8 hf => ?_)
      refine q_ifne C (tgt := 67) dX12_readAll_58 (by decide) hf (fun hf => ?_) (fun hf => ?_)
      · exact q_vretW C hj dX12_readAll_67 hf
      · refine lv_aload_n hx hb dX12_readAll_61 rfl (lv_at hl 0 rfl) ?_
        refine lv_bipush (v := 6) hx hb dX12_readAll_62 (by decide) ?_
        refine q_cVWV C hj cw_X12_123 (As := [.int 6]) (rest := []) hf (fun g9 h9 => c_X12_flaw l E h9) rfl hl rfl rfl rfl dX12_readAll_64 ⟨Nat.zero_le _, Nat.zero_le _⟩ (fun g9 H locs hj hf => ?_)
        exact q_vretW C hj dX12_readAll_67 hf
def f_X12_readAll (g : qS) (a0 : Nat) : Option qS := (g_C g a0 11).bind fun _ => L_X12_readAll_2 (fun y1 g2 => (g_I g2 y1 11 9).bind fun v3 => if v3 = 1 then (J_X12_readAll_31 y1 g2) else ((f_X12_flaw g2 y1 1).bind fun g4 => J_X12_readAll_31 y1 g4)) 1000000000 a0 1 g
set_option maxHeartbeats 4000000 in
set_option maxRecDepth 100000 in
theorem c_X12_readAll (l : Launch) (E : qV) {g : qS} {a0 : Nat} {res : qS} (hf : f_X12_readAll g a0 = some res) : q_MW l yX12_readAll cX12_readAll 2 none 11 273 E [.ref (q_ad E a0)] g none res ∧ ∃ fs, g a0 = some (.inr (11, fs)) := by
  unfold f_X12_readAll at hf
  obtain ⟨u9, hu9, hf⟩ := q_ob hf
  refine ⟨q_ofW (by decide) rfl ?_, g_C_sp hu9⟩
  intro p e s m args below meth c ls C hj hl
  have hx := C.1
  have hb := C.2.1
  have C : q_C E p s m args meth c cX12_readAll RX12 2 none := C
  have hl : lv_has ls 2 [(0, .ref (q_ad E a0))] := hl
  refine lv_iconst (v := 1) hx hb dX12_readAll_0 qi_1 ?_
  refine lv_istore_n (lv' := [(1, .int 1), (0, .ref (q_ad E a0))]) hx hb dX12_readAll_1 rfl hl (by decide) rfl (fun ls hl => ?_)
  refine w_L_X12_readAll_2 C (fun y1 g2 H locs ls hj hl hf => ?_) hj (lv_sub hl [1, 0] rfl) hf
  · refine lv_aload_n hx hb dX12_readAll_18 rfl (lv_at hl 0 rfl) ?_
    refine q_getI C hj lk_X12_80 dX12_readAll_19 hf (fun v3 hf => ?_)
    refine lv_iconst (v := 1) hx hb dX12_readAll_22 qi_1 ?_
    refine q_iceq C (tgt := 31) dX12_readAll_23 (by decide) hf (fun hf => ?_) (fun hf => ?_)
    · refine w_J_X12_readAll_31 C  hj (lv_sub hl [0] rfl) hf
    · refine lv_aload_n hx hb dX12_readAll_26 rfl (lv_at hl 0 rfl) ?_
      refine lv_iconst (v := 1) hx hb dX12_readAll_27 qi_1 ?_
      refine q_cVWV C hj cw_X12_123 (As := [.int 1]) (rest := []) hf (fun g9 h9 => c_X12_flaw l E h9) rfl hl rfl rfl rfl dX12_readAll_28 ⟨Nat.zero_le _, Nat.zero_le _⟩ (fun g4 H locs hj hf => ?_)
      refine w_J_X12_readAll_31 C  hj (lv_sub hl [0] rfl) hf
def J_X12_feed_76 (k23 : Nat → Int32 → Int32 → Int32 → Int32 → Int32 → Int32 → qS → Option (Int32 × qS)) (x0 : Nat) (x1 : Int32) (x2 : Int32) (x3 : Int32) (x4 : Int32) (x5 : Int32) (x6 : Int32) (t0 : Int32) (g : qS) : Option (Int32 × qS) := (g_R g x0 11 5).bind fun v1 => (g_I g x0 11 6).bind fun v2 => if (4 : Int32) = 0 then none else ((s_B g v1 v2 ((t0 >>> ((24 - (8 * (x6 - x6 / 4 * 4))) &&& 31)).toInt8.toInt32)).bind fun g3 => (g_I g3 x0 11 6).bind fun v4 => (p_I g3 x0 11 6 (v4 + 1)).bind fun g5 => k23 x0 x1 x2 x3 x4 x5 (x6 + 1) g5)
set_option maxHeartbeats 4000000 in
set_option maxRecDepth 100000 in
theorem w_J_X12_feed_76 {l : Launch} {E : qV} {p : Program} {e : Env} {s : State} {m : MethodId} {args : Array Value} {below : List Frame} {meth : Method} {c : Code} {k23 : Nat → Int32 → Int32 → Int32 → Int32 → Int32 → Int32 → qS → Option (Int32 × qS)} {res : (Int32 × qS)} (C : q_C E p s m args meth c cX12_feed RX12 8 (some .int)) (hk23 : ∀ (x0 : Nat) (x1 : Int32) (x2 : Int32) (x3 : Int32) (x4 : Int32) (x5 : Int32) (x6 : Int32) (g : qS) (H : Heap) (locs : List Loc) (ls : Array Slot), q_J E s g H locs → lv_has ls 8 [(0, .ref (q_ad E x0)), (1, .int x1), (2, .int x2), (3, .int x3), (4, .int x4), (5, .int x5), (6, .int x6)] → k23 x0 x1 x2 x3 x4 x5 x6 g = some res → W p l e (q_rm 0 0) s m args below meth c H locs 0 0 (q_ZW E below (some (.int res.1)) res.2 args s) (F0 m 23 ls [])) : ∀ {x0 : Nat} {x1 : Int32} {x2 : Int32} {x3 : Int32} {x4 : Int32} {x5 : Int32} {x6 : Int32} {t0 : Int32} {g : qS} {H : Heap} {locs : List Loc} {ls : Array Slot}, q_J E s g H locs → lv_has ls 8 [(0, .ref (q_ad E x0)), (1, .int x1), (2, .int x2), (3, .int x3), (4, .int x4), (5, .int x5), (6, .int x6)] → J_X12_feed_76 k23 x0 x1 x2 x3 x4 x5 x6 t0 g = some res → W p l e (q_rm 0 0) s m args below meth c H locs 0 0 (q_ZW E below (some (.int res.1)) res.2 args s) (F0 m 76 ls [.int t0]) := by
  have hx := C.1
  have hb := C.2.1
  intro x0 x1 x2 x3 x4 x5 x6 t0 g H locs ls hj hl hf
  unfold J_X12_feed_76 at hf
  refine lv_istore (lv' := [(7, .int t0), (0, .ref (q_ad E x0)), (1, .int x1), (2, .int x2), (3, .int x3), (4, .int x4), (5, .int x5), (6, .int x6)]) hx hb dX12_feed_76 hl (by decide) rfl (fun ls hl => ?_)
  refine lv_aload_n hx hb dX12_feed_78 rfl (lv_at hl 1 rfl) ?_
  refine q_getR C hj lk_X12_13 dX12_feed_79 hf (fun v1 hf => ?_)
  refine lv_aload_n hx hb dX12_feed_82 rfl (lv_at hl 1 rfl) ?_
  refine q_getI C hj lk_X12_362 dX12_feed_83 hf (fun v2 hf => ?_)
  refine lv_iload hx hb dX12_feed_86 (lv_at hl 0 rfl) ?_
  refine lv_bipush (v := 24) hx hb dX12_feed_88 (by decide) ?_
  refine lv_bipush (v := 8) hx hb dX12_feed_90 (by decide) ?_
  refine lv_iload hx hb dX12_feed_92 (lv_at hl 7 rfl) ?_
  refine lv_iconst (v := 4) hx hb dX12_feed_94 qi_4 ?_
  refine q_irem C dX12_feed_95 hf (fun hf => ?_)
  refine lv_imul hx hb dX12_feed_96 ?_
  refine lv_isub hx hb dX12_feed_97 ?_
  refine lv_ishr hx hb dX12_feed_98 ?_
  refine lv_i2b hx hb dX12_feed_99 rfl ?_
  refine q_astB C hj dX12_feed_100 hf (fun g3 H locs hj hf => ?_)
  refine lv_aload_n hx hb dX12_feed_101 rfl (lv_at hl 1 rfl) ?_
  refine lv_dup hx hb dX12_feed_102 rfl ?_
  refine q_getI C hj lk_X12_362 dX12_feed_103 hf (fun v4 hf => ?_)
  refine lv_iconst (v := 1) hx hb dX12_feed_106 qi_1 ?_
  refine lv_iadd hx hb dX12_feed_107 ?_
  refine q_putI C hj fp_X12_362 dX12_feed_108 hf (fun g5 H locs hj hf => ?_)
  refine lv_iinc (v := x6 + 1) (lv' := [(6, .int (x6 + 1)), (7, .int t0), (0, .ref (q_ad E x0)), (1, .int x1), (2, .int x2), (3, .int x3), (4, .int x4), (5, .int x5)]) hx hb dX12_feed_111 hl (k := 7) rfl (by rw [qi_1]) (by decide) rfl (fun ls hl => ?_)
  refine lv_goto (tgt := 23) hx hb dX12_feed_114 (by decide) ?_
  exact hk23 _ _ _ _ _ _ _ _ _ _ ls hj (lv_sub hl [2, 3, 4, 5, 6, 7, 0] rfl) hf
def L_X12_feed_23  : Nat → Nat → Int32 → Int32 → Int32 → Int32 → Int32 → Int32 → qS → Option (Int32 × qS)
  | 0, _, _, _, _, _, _, _, _ => none
  | n + 1, x0, x1, x2, x3, x4, x5, x6, g => if 20 ≤ x6 then ((g_I g x0 11 6).bind fun v1 => some (v1, g)) else (if 4 ≤ x6 then (if 8 ≤ x6 then (if 12 ≤ x6 then (if 16 ≤ x6 then (J_X12_feed_76 (L_X12_feed_23 n) x0 x1 x2 x3 x4 x5 x6 x5 g) else (J_X12_feed_76 (L_X12_feed_23 n) x0 x1 x2 x3 x4 x5 x6 x4 g)) else (J_X12_feed_76 (L_X12_feed_23 n) x0 x1 x2 x3 x4 x5 x6 x3 g)) else (J_X12_feed_76 (L_X12_feed_23 n) x0 x1 x2 x3 x4 x5 x6 x2 g)) else (J_X12_feed_76 (L_X12_feed_23 n) x0 x1 x2 x3 x4 x5 x6 x1 g))
set_option maxHeartbeats 4000000 in
set_option maxRecDepth 100000 in
theorem w_L_X12_feed_23 {l : Launch} {E : qV} {p : Program} {e : Env} {s : State} {m : MethodId} {args : Array Value} {below : List Frame} {meth : Method} {c : Code}  {res : (Int32 × qS)} (C : q_C E p s m args meth c cX12_feed RX12 8 (some .int))  : ∀ {n : Nat} {x0 : Nat} {x1 : Int32} {x2 : Int32} {x3 : Int32} {x4 : Int32} {x5 : Int32} {x6 : Int32} {g : qS} {H : Heap} {locs : List Loc} {ls : Array Slot}, q_J E s g H locs → lv_has ls 8 [(0, .ref (q_ad E x0)), (1, .int x1), (2, .int x2), (3, .int x3), (4, .int x4), (5, .int x5), (6, .int x6)] → L_X12_feed_23 n x0 x1 x2 x3 x4 x5 x6 g = some res → W p l e (q_rm 0 0) s m args below meth c H locs 0 0 (q_ZW E below (some (.int res.1)) res.2 args s) (F0 m 23 ls []) := by
  have hx := C.1
  have hb := C.2.1
  intro n
  induction n with
  | zero =>
    intro x0 x1 x2 x3 x4 x5 x6 g H locs ls hj hl hf
    cases hf
  | succ n ih_ =>
    intro x0 x1 x2 x3 x4 x5 x6 g H locs ls hj hl hf
    have ih : ∀ (x0 : Nat) (x1 : Int32) (x2 : Int32) (x3 : Int32) (x4 : Int32) (x5 : Int32) (x6 : Int32) (g : qS) (H : Heap) (locs : List Loc) (ls : Array Slot), q_J E s g H locs → lv_has ls 8 [(0, .ref (q_ad E x0)), (1, .int x1), (2, .int x2), (3, .int x3), (4, .int x4), (5, .int x5), (6, .int x6)] → L_X12_feed_23 n x0 x1 x2 x3 x4 x5 x6 g = some res → W p l e (q_rm 0 0) s m args below meth c H locs 0 0 (q_ZW E below (some (.int res.1)) res.2 args s) (F0 m 23 ls []) := fun x0 x1 x2 x3 x4 x5 x6 g H locs ls hj hl hf => ih_ hj hl hf
    unfold L_X12_feed_23 at hf
    refine lv_iload hx hb dX12_feed_23 (lv_at hl 6 rfl) ?_
    refine lv_bipush (v := 20) hx hb dX12_feed_25 (by decide) ?_
    refine q_icge C (tgt := 117) dX12_feed_27 (by decide) hf (fun hf => ?_) (fun hf => ?_)
    · refine lv_aload_n hx hb dX12_feed_117 rfl (lv_at hl 0 rfl) ?_
      refine q_getI C hj lk_X12_362 dX12_feed_118 hf (fun v1 hf => ?_)
      exact q_iretW C hj dX12_feed_121 hf
    · refine lv_iload hx hb dX12_feed_30 (lv_at hl 6 rfl) ?_
      refine lv_iconst (v := 4) hx hb dX12_feed_32 qi_4 ?_
      refine q_icge C (tgt := 40) dX12_feed_33 (by decide) hf (fun hf => ?_) (fun hf => ?_)
      · refine lv_iload hx hb dX12_feed_40 (lv_at hl 6 rfl) ?_
        refine lv_bipush (v := 8) hx hb dX12_feed_42 (by decide) ?_
        refine q_icge C (tgt := 51) dX12_feed_44 (by decide) hf (fun hf => ?_) (fun hf => ?_)
        · refine lv_iload hx hb dX12_feed_51 (lv_at hl 6 rfl) ?_
          refine lv_bipush (v := 12) hx hb dX12_feed_53 (by decide) ?_
          refine q_icge C (tgt := 62) dX12_feed_55 (by decide) hf (fun hf => ?_) (fun hf => ?_)
          · refine lv_iload hx hb dX12_feed_62 (lv_at hl 6 rfl) ?_
            refine lv_bipush (v := 16) hx hb dX12_feed_64 (by decide) ?_
            refine q_icge C (tgt := 74) dX12_feed_66 (by decide) hf (fun hf => ?_) (fun hf => ?_)
            · refine lv_iload hx hb dX12_feed_74 (lv_at hl 5 rfl) ?_
              refine w_J_X12_feed_76 C ih hj (lv_sub hl [0, 1, 2, 3, 4, 5, 6] rfl) hf
            · refine lv_iload hx hb dX12_feed_69 (lv_at hl 4 rfl) ?_
              refine lv_goto (tgt := 76) hx hb dX12_feed_71 (by decide) ?_
              refine w_J_X12_feed_76 C ih hj (lv_sub hl [0, 1, 2, 3, 4, 5, 6] rfl) hf
          · refine lv_iload_n hx hb dX12_feed_58 rfl (lv_at hl 3 rfl) ?_
            refine lv_goto (tgt := 76) hx hb dX12_feed_59 (by decide) ?_
            refine w_J_X12_feed_76 C ih hj (lv_sub hl [0, 1, 2, 3, 4, 5, 6] rfl) hf
        · refine lv_iload_n hx hb dX12_feed_47 rfl (lv_at hl 2 rfl) ?_
          refine lv_goto (tgt := 76) hx hb dX12_feed_48 (by decide) ?_
          refine w_J_X12_feed_76 C ih hj (lv_sub hl [0, 1, 2, 3, 4, 5, 6] rfl) hf
      · refine lv_iload_n hx hb dX12_feed_36 rfl (lv_at hl 1 rfl) ?_
        refine lv_goto (tgt := 76) hx hb dX12_feed_37 (by decide) ?_
        refine w_J_X12_feed_76 C ih hj (lv_sub hl [0, 1, 2, 3, 4, 5, 6] rfl) hf
def f_X12_feed (g : qS) (a0 : Nat) (a1 : Int32) (a2 : Int32) (a3 : Int32) (a4 : Int32) (a5 : Int32) : Option (Int32 × qS) := (g_C g a0 11).bind fun _ => (p_I g a0 11 0 0).bind fun g1 => (g_I g1 a0 11 6).bind fun v2 => if (v2 + 20) ≤ 1000 then (L_X12_feed_23 1000000000 a0 a1 a2 a3 a4 a5 0 g1) else (some (-1, g1))
set_option maxHeartbeats 4000000 in
set_option maxRecDepth 100000 in
theorem c_X12_feed (l : Launch) (E : qV) {g : qS} {a0 : Nat} {a1 : Int32} {a2 : Int32} {a3 : Int32} {a4 : Int32} {a5 : Int32} {res : (Int32 × qS)} (hf : f_X12_feed g a0 a1 a2 a3 a4 a5 = some res) : q_MW l yX12_feed cX12_feed 8 (some .int) 0 0 E [.ref (q_ad E a0), .int a1, .int a2, .int a3, .int a4, .int a5] g (some (.int res.1)) res.2 ∧ ∃ fs, g a0 = some (.inr (11, fs)) := by
  unfold f_X12_feed at hf
  obtain ⟨u9, hu9, hf⟩ := q_ob hf
  refine ⟨q_ofW (by decide) rfl ?_, g_C_sp hu9⟩
  intro p e s m args below meth c ls C hj hl
  have hx := C.1
  have hb := C.2.1
  have C : q_C E p s m args meth c cX12_feed RX12 8 (some .int) := C
  have hl : lv_has ls 8 [(0, .ref (q_ad E a0)), (1, .int a1), (2, .int a2), (3, .int a3), (4, .int a4), (5, .int a5)] := hl
  refine lv_aload_n hx hb dX12_feed_0 rfl (lv_at hl 0 rfl) ?_
  refine lv_iconst (v := 0) hx hb dX12_feed_1 qi_0 ?_
  refine q_putI C hj fp_X12_48 dX12_feed_2 hf (fun g1 H locs hj hf => ?_)
  refine lv_aload_n hx hb dX12_feed_5 rfl (lv_at hl 0 rfl) ?_
  refine q_getI C hj lk_X12_362 dX12_feed_6 hf (fun v2 hf => ?_)
  refine lv_bipush (v := 20) hx hb dX12_feed_9 (by decide) ?_
  refine lv_iadd hx hb dX12_feed_11 ?_
  refine lv_sipush (v := 1000) hx hb dX12_feed_12 (by decide) ?_
  refine q_icle C (tgt := 20) dX12_feed_15 (by decide) hf (fun hf => ?_) (fun hf => ?_)
  · refine lv_iconst (v := 0) hx hb dX12_feed_20 qi_0 ?_
    refine lv_istore (lv' := [(6, .int 0), (0, .ref (q_ad E a0)), (1, .int a1), (2, .int a2), (3, .int a3), (4, .int a4), (5, .int a5)]) hx hb dX12_feed_21 hl (by decide) rfl (fun ls hl => ?_)
    refine w_L_X12_feed_23 C  hj (lv_sub hl [1, 2, 3, 4, 5, 6, 0] rfl) hf
  · refine lv_iconst (v := -1) hx hb dX12_feed_18 qi_m1 ?_
    exact q_iretW C hj dX12_feed_19 hf
def f_X12_fault (g : qS) (a0 : Nat) : Option (Int32 × qS) := (g_C g a0 11).bind fun _ => (p_I g a0 11 0 0).bind fun g1 => (g_I g1 a0 11 12).bind fun v2 => some (v2, g1)
set_option maxHeartbeats 4000000 in
set_option maxRecDepth 100000 in
theorem c_X12_fault (l : Launch) (E : qV) {g : qS} {a0 : Nat} {res : (Int32 × qS)} (hf : f_X12_fault g a0 = some res) : q_MW l yX12_fault cX12_fault 1 (some .int) 0 0 E [.ref (q_ad E a0)] g (some (.int res.1)) res.2 ∧ ∃ fs, g a0 = some (.inr (11, fs)) := by
  unfold f_X12_fault at hf
  obtain ⟨u9, hu9, hf⟩ := q_ob hf
  refine ⟨q_ofW (by decide) rfl ?_, g_C_sp hu9⟩
  intro p e s m args below meth c ls C hj hl
  have hx := C.1
  have hb := C.2.1
  have C : q_C E p s m args meth c cX12_fault RX12 1 (some .int) := C
  have hl : lv_has ls 1 [(0, .ref (q_ad E a0))] := hl
  refine lv_aload_n hx hb dX12_fault_0 rfl (lv_at hl 0 rfl) ?_
  refine lv_iconst (v := 0) hx hb dX12_fault_1 qi_0 ?_
  refine q_putI C hj fp_X12_48 dX12_fault_2 hf (fun g1 H locs hj hf => ?_)
  refine lv_aload_n hx hb dX12_fault_5 rfl (lv_at hl 0 rfl) ?_
  refine q_getI C hj lk_X12_106 dX12_fault_6 hf (fun v2 hf => ?_)
  exact q_iretW C hj dX12_fault_9 hf
def f_X12_where (g : qS) (a0 : Nat) : Option (Int32 × qS) := (g_C g a0 11).bind fun _ => (p_I g a0 11 0 0).bind fun g1 => (g_I g1 a0 11 2).bind fun v2 => some (v2, g1)
set_option maxHeartbeats 4000000 in
set_option maxRecDepth 100000 in
theorem c_X12_where (l : Launch) (E : qV) {g : qS} {a0 : Nat} {res : (Int32 × qS)} (hf : f_X12_where g a0 = some res) : q_MW l yX12_where cX12_where 1 (some .int) 0 0 E [.ref (q_ad E a0)] g (some (.int res.1)) res.2 ∧ ∃ fs, g a0 = some (.inr (11, fs)) := by
  unfold f_X12_where at hf
  obtain ⟨u9, hu9, hf⟩ := q_ob hf
  refine ⟨q_ofW (by decide) rfl ?_, g_C_sp hu9⟩
  intro p e s m args below meth c ls C hj hl
  have hx := C.1
  have hb := C.2.1
  have C : q_C E p s m args meth c cX12_where RX12 1 (some .int) := C
  have hl : lv_has ls 1 [(0, .ref (q_ad E a0))] := hl
  refine lv_aload_n hx hb dX12_where_0 rfl (lv_at hl 0 rfl) ?_
  refine lv_iconst (v := 0) hx hb dX12_where_1 qi_0 ?_
  refine q_putI C hj fp_X12_48 dX12_where_2 hf (fun g1 H locs hj hf => ?_)
  refine lv_aload_n hx hb dX12_where_5 rfl (lv_at hl 0 rfl) ?_
  refine q_getI C hj lk_X12_9 dX12_where_6 hf (fun v2 hf => ?_)
  exact q_iretW C hj dX12_where_9 hf
def L_X12_starts_2  : Nat → Nat → Int32 → qS → Option qS
  | 0, _, _, _ => none
  | n + 1, x0, x1, g => if 16 ≤ x1 then (some g) else ((g_R g x0 11 16).bind fun v1 => if 4 ≤ x1 then ((s_I g v1 x1 0).bind fun g2 => L_X12_starts_2 n x0 (x1 + 1) g2) else ((s_I g v1 x1 (-2)).bind fun g3 => L_X12_starts_2 n x0 (x1 + 1) g3))
set_option maxHeartbeats 4000000 in
set_option maxRecDepth 100000 in
theorem w_L_X12_starts_2 {l : Launch} {E : qV} {p : Program} {e : Env} {s : State} {m : MethodId} {args : Array Value} {below : List Frame} {meth : Method} {c : Code}  {res : qS} (C : q_C E p s m args meth c cX12_starts RX12 2 none)  : ∀ {n : Nat} {x0 : Nat} {x1 : Int32} {g : qS} {H : Heap} {locs : List Loc} {ls : Array Slot}, q_J E s g H locs → lv_has ls 2 [(0, .ref (q_ad E x0)), (1, .int x1)] → L_X12_starts_2 n x0 x1 g = some res → W p l e (q_rm 0 0) s m args below meth c H locs 0 0 (q_ZW E below none res args s) (F0 m 2 ls []) := by
  have hx := C.1
  have hb := C.2.1
  intro n
  induction n with
  | zero =>
    intro x0 x1 g H locs ls hj hl hf
    cases hf
  | succ n ih_ =>
    intro x0 x1 g H locs ls hj hl hf
    have ih : ∀ (x0 : Nat) (x1 : Int32) (g : qS) (H : Heap) (locs : List Loc) (ls : Array Slot), q_J E s g H locs → lv_has ls 2 [(0, .ref (q_ad E x0)), (1, .int x1)] → L_X12_starts_2 n x0 x1 g = some res → W p l e (q_rm 0 0) s m args below meth c H locs 0 0 (q_ZW E below none res args s) (F0 m 2 ls []) := fun x0 x1 g H locs ls hj hl hf => ih_ hj hl hf
    unfold L_X12_starts_2 at hf
    refine lv_iload_n hx hb dX12_starts_2 rfl (lv_at hl 1 rfl) ?_
    refine lv_bipush (v := 16) hx hb dX12_starts_3 (by decide) ?_
    refine q_icge C (tgt := 31) dX12_starts_5 (by decide) hf (fun hf => ?_) (fun hf => ?_)
    · exact q_vretW C hj dX12_starts_31 hf
    · refine lv_aload_n hx hb dX12_starts_8 rfl (lv_at hl 0 rfl) ?_
      refine q_getR C hj lk_X12_21 dX12_starts_9 hf (fun v1 hf => ?_)
      refine lv_iload_n hx hb dX12_starts_12 rfl (lv_at hl 1 rfl) ?_
      refine lv_iload_n hx hb dX12_starts_13 rfl (lv_at hl 1 rfl) ?_
      refine lv_iconst (v := 4) hx hb dX12_starts_14 qi_4 ?_
      refine q_icge C (tgt := 23) dX12_starts_15 (by decide) hf (fun hf => ?_) (fun hf => ?_)
      · refine lv_iconst (v := 0) hx hb dX12_starts_23 qi_0 ?_
        refine q_astI C hj dX12_starts_24 hf (fun g2 H locs hj hf => ?_)
        refine lv_iinc (v := x1 + 1) (lv' := [(1, .int (x1 + 1)), (0, .ref (q_ad E x0))]) hx hb dX12_starts_25 hl (k := 1) rfl (by rw [qi_1]) (by decide) rfl (fun ls hl => ?_)
        refine lv_goto (tgt := 2) hx hb dX12_starts_28 (by decide) ?_
        exact ih _ _ _ _ _ ls hj (lv_sub hl [1, 0] rfl) hf
      · refine lv_bipush (v := -2) hx hb dX12_starts_18 (by decide) ?_
        refine lv_goto (tgt := 24) hx hb dX12_starts_20 (by decide) ?_
        refine q_astI C hj dX12_starts_24 hf (fun g3 H locs hj hf => ?_)
        refine lv_iinc (v := x1 + 1) (lv' := [(1, .int (x1 + 1)), (0, .ref (q_ad E x0))]) hx hb dX12_starts_25 hl (k := 1) rfl (by rw [qi_1]) (by decide) rfl (fun ls hl => ?_)
        refine lv_goto (tgt := 2) hx hb dX12_starts_28 (by decide) ?_
        exact ih _ _ _ _ _ ls hj (lv_sub hl [1, 0] rfl) hf
def f_X12_starts (g : qS) (a0 : Nat) : Option qS := (g_C g a0 11).bind fun _ => L_X12_starts_2 1000000000 a0 0 g
set_option maxHeartbeats 4000000 in
set_option maxRecDepth 100000 in
theorem c_X12_starts (l : Launch) (E : qV) {g : qS} {a0 : Nat} {res : qS} (hf : f_X12_starts g a0 = some res) : q_MW l yX12_starts cX12_starts 2 none 0 0 E [.ref (q_ad E a0)] g none res ∧ ∃ fs, g a0 = some (.inr (11, fs)) := by
  unfold f_X12_starts at hf
  obtain ⟨u9, hu9, hf⟩ := q_ob hf
  refine ⟨q_ofW (by decide) rfl ?_, g_C_sp hu9⟩
  intro p e s m args below meth c ls C hj hl
  have hx := C.1
  have hb := C.2.1
  have C : q_C E p s m args meth c cX12_starts RX12 2 none := C
  have hl : lv_has ls 2 [(0, .ref (q_ad E a0))] := hl
  refine lv_iconst (v := 0) hx hb dX12_starts_0 qi_0 ?_
  refine lv_istore_n (lv' := [(1, .int 0), (0, .ref (q_ad E a0))]) hx hb dX12_starts_1 rfl hl (by decide) rfl (fun ls hl => ?_)
  refine w_L_X12_starts_2 C  hj (lv_sub hl [1, 0] rfl) hf
def L_X12_many_4  (g : qS) : Nat → Nat → Int32 → Int32 → Int32 → Option Int32
  | 0, _, _, _, _ => none
  | n + 1, x0, x1, x2, x3 => if 4 ≤ x3 then (some x2) else ((a_I g x0 (0 + x3)).bind fun v1 => if v1 = x1 then (L_X12_many_4 g n x0 x1 (x2 + 1) (x3 + 1)) else (L_X12_many_4 g n x0 x1 (x2 + 0) (x3 + 1)))
set_option maxHeartbeats 4000000 in
set_option maxRecDepth 100000 in
theorem w_L_X12_many_4 {l : Launch} {E : qV} {p : Program} {e : Env} {s : State} {m : MethodId} {args : Array Value} {below : List Frame} {meth : Method} {c : Code}  {g : qS} {res : Int32} (C : q_C E p s m args meth c cX12_many RX12 4 (some .int))  : ∀ {n : Nat} {x0 : Nat} {x1 : Int32} {x2 : Int32} {x3 : Int32} {ls : Array Slot}, q_J E s g s.heap [] → lv_has ls 4 [(0, .ref (q_ad E x0)), (1, .int x1), (2, .int x2), (3, .int x3)] → L_X12_many_4 g n x0 x1 x2 x3 = some res → W p l e (q_rm 0 0) s m args below meth c s.heap [] 0 0 (q_ZR below (some (.int res)) args s) (F0 m 4 ls []) := by
  have hx := C.1
  have hb := C.2.1
  intro n
  induction n with
  | zero =>
    intro x0 x1 x2 x3 ls hj hl hf
    cases hf
  | succ n ih_ =>
    intro x0 x1 x2 x3 ls hj hl hf
    have ih : ∀ (x0 : Nat) (x1 : Int32) (x2 : Int32) (x3 : Int32) (ls : Array Slot), q_J E s g s.heap [] → lv_has ls 4 [(0, .ref (q_ad E x0)), (1, .int x1), (2, .int x2), (3, .int x3)] → L_X12_many_4 g n x0 x1 x2 x3 = some res → W p l e (q_rm 0 0) s m args below meth c s.heap [] 0 0 (q_ZR below (some (.int res)) args s) (F0 m 4 ls []) := fun x0 x1 x2 x3 ls hj hl hf => ih_ hj hl hf
    unfold L_X12_many_4 at hf
    refine lv_iload_n hx hb dX12_many_4 rfl (lv_at hl 3 rfl) ?_
    refine lv_iconst (v := 4) hx hb dX12_many_5 qi_4 ?_
    refine q_icge C (tgt := 32) dX12_many_6 (by decide) hf (fun hf => ?_) (fun hf => ?_)
    · refine lv_iload_n hx hb dX12_many_32 rfl (lv_at hl 2 rfl) ?_
      exact q_iretR C dX12_many_33 hf
    · refine lv_iload_n hx hb dX12_many_9 rfl (lv_at hl 2 rfl) ?_
      refine lv_aload_n hx hb dX12_many_10 rfl (lv_at hl 0 rfl) ?_
      refine lv_iconst (v := 0) hx hb dX12_many_11 qi_0 ?_
      refine lv_iload_n hx hb dX12_many_12 rfl (lv_at hl 3 rfl) ?_
      refine lv_iadd hx hb dX12_many_13 ?_
      refine q_aldI C hj dX12_many_14 hf (fun v1 hf => ?_)
      refine lv_iload_n hx hb dX12_many_15 rfl (lv_at hl 1 rfl) ?_
      refine q_icne C (tgt := 23) dX12_many_16 (by decide) hf (fun hf => ?_) (fun hf => ?_)
      · refine lv_iconst (v := 0) hx hb dX12_many_23 qi_0 ?_
        refine lv_iadd hx hb dX12_many_24 ?_
        refine lv_istore_n (lv' := [(2, .int (x2 + 0)), (0, .ref (q_ad E x0)), (1, .int x1), (3, .int x3)]) hx hb dX12_many_25 rfl hl (by decide) rfl (fun ls hl => ?_)
        refine lv_iinc (v := x3 + 1) (lv' := [(3, .int (x3 + 1)), (2, .int (x2 + 0)), (0, .ref (q_ad E x0)), (1, .int x1)]) hx hb dX12_many_26 hl (k := 3) rfl (by rw [qi_1]) (by decide) rfl (fun ls hl => ?_)
        refine lv_goto (tgt := 4) hx hb dX12_many_29 (by decide) ?_
        exact ih _ _ _ _  ls hj (lv_sub hl [2, 3, 1, 0] rfl) hf
      · refine lv_iconst (v := 1) hx hb dX12_many_19 qi_1 ?_
        refine lv_goto (tgt := 24) hx hb dX12_many_20 (by decide) ?_
        refine lv_iadd hx hb dX12_many_24 ?_
        refine lv_istore_n (lv' := [(2, .int (x2 + 1)), (0, .ref (q_ad E x0)), (1, .int x1), (3, .int x3)]) hx hb dX12_many_25 rfl hl (by decide) rfl (fun ls hl => ?_)
        refine lv_iinc (v := x3 + 1) (lv' := [(3, .int (x3 + 1)), (2, .int (x2 + 1)), (0, .ref (q_ad E x0)), (1, .int x1)]) hx hb dX12_many_26 hl (k := 3) rfl (by rw [qi_1]) (by decide) rfl (fun ls hl => ?_)
        refine lv_goto (tgt := 4) hx hb dX12_many_29 (by decide) ?_
        exact ih _ _ _ _  ls hj (lv_sub hl [2, 3, 1, 0] rfl) hf
def f_X12_many (g : qS) (a0 : Nat) (a1 : Int32) : Option Int32 := L_X12_many_4 g 1000000000 a0 a1 0 0
set_option maxHeartbeats 4000000 in
set_option maxRecDepth 100000 in
theorem c_X12_many (l : Launch) (E : qV) {g : qS} {a0 : Nat} {a1 : Int32} {res : Int32} (hf : f_X12_many g a0 a1 = some res) : q_MR l yX12_many cX12_many 4 (some .int) 0 0 E [.ref (q_ad E a0), .int a1] g (some (.int res)) := by
  unfold f_X12_many at hf
  refine q_ofR (by decide) rfl ?_
  intro p e s m args below meth c ls C hw hl
  have hj : q_J E s g s.heap [] := ⟨hw, va_S.rf⟩
  have hx := C.1
  have hb := C.2.1
  have C : q_C E p s m args meth c cX12_many RX12 4 (some .int) := C
  have hl : lv_has ls 4 [(0, .ref (q_ad E a0)), (1, .int a1)] := hl
  refine lv_iconst (v := 0) hx hb dX12_many_0 qi_0 ?_
  refine lv_istore_n (lv' := [(2, .int 0), (0, .ref (q_ad E a0)), (1, .int a1)]) hx hb dX12_many_1 rfl hl (by decide) rfl (fun ls hl => ?_)
  refine lv_iconst (v := 0) hx hb dX12_many_2 qi_0 ?_
  refine lv_istore_n (lv' := [(3, .int 0), (2, .int 0), (0, .ref (q_ad E a0)), (1, .int a1)]) hx hb dX12_many_3 rfl hl (by decide) rfl (fun ls hl => ?_)
  refine w_L_X12_many_4 C  hj (lv_sub hl [2, 3, 1, 0] rfl) hf
def L_X12_setOf_5  (g : qS) : Nat → Nat → Int32 → Int32 → Int32 → Option Int32
  | 0, _, _, _, _ => none
  | n + 1, x1, x2, x3, x4 => if 4 ≤ x4 then (some x3) else ((a_I g x1 (0 + x4)).bind fun v1 => if v1 = x2 then (L_X12_setOf_5 g n x1 x2 (x3 ||| (1 <<< (x4 &&& 31))) (x4 + 1)) else (L_X12_setOf_5 g n x1 x2 (x3 ||| 0) (x4 + 1)))
set_option maxHeartbeats 4000000 in
set_option maxRecDepth 100000 in
theorem w_L_X12_setOf_5 {l : Launch} {E : qV} {p : Program} {e : Env} {s : State} {m : MethodId} {args : Array Value} {below : List Frame} {meth : Method} {c : Code}  {g : qS} {res : Int32} (C : q_C E p s m args meth c cX12_setOf RX12 5 (some .int))  : ∀ {n : Nat} {x1 : Nat} {x2 : Int32} {x3 : Int32} {x4 : Int32} {ls : Array Slot}, q_J E s g s.heap [] → lv_has ls 5 [(1, .ref (q_ad E x1)), (2, .int x2), (3, .int x3), (4, .int x4)] → L_X12_setOf_5 g n x1 x2 x3 x4 = some res → W p l e (q_rm 0 0) s m args below meth c s.heap [] 0 0 (q_ZR below (some (.int res)) args s) (F0 m 5 ls []) := by
  have hx := C.1
  have hb := C.2.1
  intro n
  induction n with
  | zero =>
    intro x1 x2 x3 x4 ls hj hl hf
    cases hf
  | succ n ih_ =>
    intro x1 x2 x3 x4 ls hj hl hf
    have ih : ∀ (x1 : Nat) (x2 : Int32) (x3 : Int32) (x4 : Int32) (ls : Array Slot), q_J E s g s.heap [] → lv_has ls 5 [(1, .ref (q_ad E x1)), (2, .int x2), (3, .int x3), (4, .int x4)] → L_X12_setOf_5 g n x1 x2 x3 x4 = some res → W p l e (q_rm 0 0) s m args below meth c s.heap [] 0 0 (q_ZR below (some (.int res)) args s) (F0 m 5 ls []) := fun x1 x2 x3 x4 ls hj hl hf => ih_ hj hl hf
    unfold L_X12_setOf_5 at hf
    refine lv_iload hx hb dX12_setOf_5 (lv_at hl 3 rfl) ?_
    refine lv_iconst (v := 4) hx hb dX12_setOf_7 qi_4 ?_
    refine q_icge C (tgt := 38) dX12_setOf_8 (by decide) hf (fun hf => ?_) (fun hf => ?_)
    · refine lv_iload_n hx hb dX12_setOf_38 rfl (lv_at hl 2 rfl) ?_
      exact q_iretR C dX12_setOf_39 hf
    · refine lv_iload_n hx hb dX12_setOf_11 rfl (lv_at hl 2 rfl) ?_
      refine lv_aload_n hx hb dX12_setOf_12 rfl (lv_at hl 0 rfl) ?_
      refine lv_iconst (v := 0) hx hb dX12_setOf_13 qi_0 ?_
      refine lv_iload hx hb dX12_setOf_14 (lv_at hl 3 rfl) ?_
      refine lv_iadd hx hb dX12_setOf_16 ?_
      refine q_aldI C hj dX12_setOf_17 hf (fun v1 hf => ?_)
      refine lv_iload_n hx hb dX12_setOf_18 rfl (lv_at hl 1 rfl) ?_
      refine q_icne C (tgt := 29) dX12_setOf_19 (by decide) hf (fun hf => ?_) (fun hf => ?_)
      · refine lv_iconst (v := 0) hx hb dX12_setOf_29 qi_0 ?_
        refine lv_ior hx hb dX12_setOf_30 ?_
        refine lv_istore_n (lv' := [(3, .int (x3 ||| 0)), (1, .ref (q_ad E x1)), (2, .int x2), (4, .int x4)]) hx hb dX12_setOf_31 rfl hl (by decide) rfl (fun ls hl => ?_)
        refine lv_iinc (v := x4 + 1) (lv' := [(4, .int (x4 + 1)), (3, .int (x3 ||| 0)), (1, .ref (q_ad E x1)), (2, .int x2)]) hx hb dX12_setOf_32 hl (k := 3) rfl (by rw [qi_1]) (by decide) rfl (fun ls hl => ?_)
        refine lv_goto (tgt := 5) hx hb dX12_setOf_35 (by decide) ?_
        exact ih _ _ _ _  ls hj (lv_sub hl [2, 3, 1, 0] rfl) hf
      · refine lv_iconst (v := 1) hx hb dX12_setOf_22 qi_1 ?_
        refine lv_iload hx hb dX12_setOf_23 (lv_at hl 3 rfl) ?_
        refine lv_ishl hx hb dX12_setOf_25 ?_
        refine lv_goto (tgt := 30) hx hb dX12_setOf_26 (by decide) ?_
        refine lv_ior hx hb dX12_setOf_30 ?_
        refine lv_istore_n (lv' := [(3, .int (x3 ||| (1 <<< (x4 &&& 31)))), (1, .ref (q_ad E x1)), (2, .int x2), (4, .int x4)]) hx hb dX12_setOf_31 rfl hl (by decide) rfl (fun ls hl => ?_)
        refine lv_iinc (v := x4 + 1) (lv' := [(4, .int (x4 + 1)), (3, .int (x3 ||| (1 <<< (x4 &&& 31)))), (1, .ref (q_ad E x1)), (2, .int x2)]) hx hb dX12_setOf_32 hl (k := 3) rfl (by rw [qi_1]) (by decide) rfl (fun ls hl => ?_)
        refine lv_goto (tgt := 5) hx hb dX12_setOf_35 (by decide) ?_
        exact ih _ _ _ _  ls hj (lv_sub hl [2, 3, 1, 0] rfl) hf
def f_X12_setOf (g : qS) (a0 : Nat) (a1 : Nat) (a2 : Int32) : Option Int32 := (g_C g a0 11).bind fun _ => L_X12_setOf_5 g 1000000000 a1 a2 0 0
set_option maxHeartbeats 4000000 in
set_option maxRecDepth 100000 in
theorem c_X12_setOf (l : Launch) (E : qV) {g : qS} {a0 : Nat} {a1 : Nat} {a2 : Int32} {res : Int32} (hf : f_X12_setOf g a0 a1 a2 = some res) : q_MR l yX12_setOf cX12_setOf 5 (some .int) 0 0 E [.ref (q_ad E a0), .ref (q_ad E a1), .int a2] g (some (.int res)) ∧ ∃ fs, g a0 = some (.inr (11, fs)) := by
  unfold f_X12_setOf at hf
  obtain ⟨u9, hu9, hf⟩ := q_ob hf
  refine ⟨q_ofR (by decide) rfl ?_, g_C_sp hu9⟩
  intro p e s m args below meth c ls C hw hl
  have hj : q_J E s g s.heap [] := ⟨hw, va_S.rf⟩
  have hx := C.1
  have hb := C.2.1
  have C : q_C E p s m args meth c cX12_setOf RX12 5 (some .int) := C
  have hl : lv_has ls 5 [(0, .ref (q_ad E a0)), (1, .ref (q_ad E a1)), (2, .int a2)] := hl
  refine lv_iconst (v := 0) hx hb dX12_setOf_0 qi_0 ?_
  refine lv_istore_n (lv' := [(3, .int 0), (0, .ref (q_ad E a0)), (1, .ref (q_ad E a1)), (2, .int a2)]) hx hb dX12_setOf_1 rfl hl (by decide) rfl (fun ls hl => ?_)
  refine lv_iconst (v := 0) hx hb dX12_setOf_2 qi_0 ?_
  refine lv_istore (lv' := [(4, .int 0), (3, .int 0), (0, .ref (q_ad E a0)), (1, .ref (q_ad E a1)), (2, .int a2)]) hx hb dX12_setOf_3 hl (by decide) rfl (fun ls hl => ?_)
  refine w_L_X12_setOf_5 C  hj (lv_sub hl [3, 4, 1, 0] rfl) hf
def f_X11_roomOf (g : qS) (a0 : Nat) (a1 : Int32) : Option Int32 := (g_C g a0 10).bind fun _ => (g_R g a0 10 15).bind fun v1 => (a_I g v1 a1).bind fun v2 => if v2 = 2 then ((g_R g a0 10 16).bind fun v5 => (a_I g v5 a1).bind fun v6 => if (2 : Int32) = 0 then none else (some (v6 / 2))) else ((g_R g a0 10 16).bind fun v3 => (a_I g v3 a1).bind fun v4 => some v4)
set_option maxHeartbeats 4000000 in
set_option maxRecDepth 100000 in
theorem c_X11_roomOf (l : Launch) (E : qV) {g : qS} {a0 : Nat} {a1 : Int32} {res : Int32} (hf : f_X11_roomOf g a0 a1 = some res) : q_MR l yX11_roomOf cX11_roomOf 2 (some .int) 0 0 E [.ref (q_ad E a0), .int a1] g (some (.int res)) ∧ ∃ fs, g a0 = some (.inr (10, fs)) := by
  unfold f_X11_roomOf at hf
  obtain ⟨u9, hu9, hf⟩ := q_ob hf
  refine ⟨q_ofR (by decide) rfl ?_, g_C_sp hu9⟩
  intro p e s m args below meth c ls C hw hl
  have hj : q_J E s g s.heap [] := ⟨hw, va_S.rf⟩
  have hx := C.1
  have hb := C.2.1
  have C : q_C E p s m args meth c cX11_roomOf RX11 2 (some .int) := C
  have hl : lv_has ls 2 [(0, .ref (q_ad E a0)), (1, .int a1)] := hl
  refine lv_aload_n hx hb dX11_roomOf_0 rfl (lv_at hl 0 rfl) ?_
  refine q_getR C hj lk_X11_24 dX11_roomOf_1 hf (fun v1 hf => ?_)
  refine lv_iload_n hx hb dX11_roomOf_4 rfl (lv_at hl 1 rfl) ?_
  refine q_aldI C hj dX11_roomOf_5 hf (fun v2 hf => ?_)
  refine lv_iconst (v := 2) hx hb dX11_roomOf_6 qi_2 ?_
  refine q_icne C (tgt := 21) dX11_roomOf_7 (by decide) hf (fun hf => ?_) (fun hf => ?_)
  · refine lv_aload_n hx hb dX11_roomOf_21 rfl (lv_at hl 0 rfl) ?_
    refine q_getR C hj lk_X11_27 dX11_roomOf_22 hf (fun v3 hf => ?_)
    refine lv_iload_n hx hb dX11_roomOf_25 rfl (lv_at hl 1 rfl) ?_
    refine q_aldI C hj dX11_roomOf_26 hf (fun v4 hf => ?_)
    exact q_iretR C dX11_roomOf_27 hf
  · refine lv_aload_n hx hb dX11_roomOf_10 rfl (lv_at hl 0 rfl) ?_
    refine q_getR C hj lk_X11_27 dX11_roomOf_11 hf (fun v5 hf => ?_)
    refine lv_iload_n hx hb dX11_roomOf_14 rfl (lv_at hl 1 rfl) ?_
    refine q_aldI C hj dX11_roomOf_15 hf (fun v6 hf => ?_)
    refine lv_iconst (v := 2) hx hb dX11_roomOf_16 qi_2 ?_
    refine q_idiv C dX11_roomOf_17 hf (fun hf => ?_)
    refine lv_goto (tgt := 27) hx hb dX11_roomOf_18 (by decide) ?_
    exact q_iretR C dX11_roomOf_27 hf
def f_X12_roomIn (g : qS) (a0 : Nat) (a1 : Nat) (a2 : Int32) : Option Int32 := (g_C g a0 11).bind fun _ => (g_R g a0 11 3).bind fun v1 => (f_X11_roomOf g v1 a2).bind fun v2 => (a_I g a1 (4 + a2)).bind fun v3 => if (v2 - v3) ≤ 0 then (some 0) else (some (v2 - v3))
set_option maxHeartbeats 4000000 in
set_option maxRecDepth 100000 in
theorem c_X12_roomIn (l : Launch) (E : qV) {g : qS} {a0 : Nat} {a1 : Nat} {a2 : Int32} {res : Int32} (hf : f_X12_roomIn g a0 a1 a2 = some res) : q_MR l yX12_roomIn cX12_roomIn 4 (some .int) 1 21 E [.ref (q_ad E a0), .ref (q_ad E a1), .int a2] g (some (.int res)) ∧ ∃ fs, g a0 = some (.inr (11, fs)) := by
  unfold f_X12_roomIn at hf
  obtain ⟨u9, hu9, hf⟩ := q_ob hf
  refine ⟨q_ofR (by decide) rfl ?_, g_C_sp hu9⟩
  intro p e s m args below meth c ls C hw hl
  have hj : q_J E s g s.heap [] := ⟨hw, va_S.rf⟩
  have hx := C.1
  have hb := C.2.1
  have C : q_C E p s m args meth c cX12_roomIn RX12 4 (some .int) := C
  have hl : lv_has ls 4 [(0, .ref (q_ad E a0)), (1, .ref (q_ad E a1)), (2, .int a2)] := hl
  refine lv_aload_n hx hb dX12_roomIn_0 rfl (lv_at hl 0 rfl) ?_
  refine q_getR C hj lk_X12_369 dX12_roomIn_1 hf (fun v1 hf => ?_)
  refine lv_iload_n hx hb dX12_roomIn_4 rfl (lv_at hl 2 rfl) ?_
  refine q_cVRI C hj cw_X12_377 (As := [.int a2]) (rest := []) hf (fun v9 h9 => c_X11_roomOf l E h9) rfl hl rfl rfl rfl dX12_roomIn_5 ⟨Nat.zero_le _, Nat.zero_le _⟩ (fun v2 hf => ?_)
  refine lv_aload_n hx hb dX12_roomIn_8 rfl (lv_at hl 1 rfl) ?_
  refine lv_iconst (v := 4) hx hb dX12_roomIn_9 qi_4 ?_
  refine lv_iload_n hx hb dX12_roomIn_10 rfl (lv_at hl 2 rfl) ?_
  refine lv_iadd hx hb dX12_roomIn_11 ?_
  refine q_aldI C hj dX12_roomIn_12 hf (fun v3 hf => ?_)
  refine lv_isub hx hb dX12_roomIn_13 ?_
  refine lv_istore_n (lv' := [(3, .int (v2 - v3)), (0, .ref (q_ad E a0)), (1, .ref (q_ad E a1)), (2, .int a2)]) hx hb dX12_roomIn_14 rfl hl (by decide) rfl (fun ls hl => ?_)
  refine lv_iload_n hx hb dX12_roomIn_15 rfl (lv_at hl 0 rfl) ?_
  refine q_ifle C (tgt := 23) dX12_roomIn_16 (by decide) hf (fun hf => ?_) (fun hf => ?_)
  · refine lv_iconst (v := 0) hx hb dX12_roomIn_23 qi_0 ?_
    exact q_iretR C dX12_roomIn_24 hf
  · refine lv_iload_n hx hb dX12_roomIn_19 rfl (lv_at hl 0 rfl) ?_
    refine lv_goto (tgt := 24) hx hb dX12_roomIn_20 (by decide) ?_
    exact q_iretR C dX12_roomIn_24 hf
def J_X11_near_87  (g : qS) (x0 : Nat) (x3 : Int32) (x6 : Int32) : Option Int32 := (g_R g x0 10 15).bind fun v1 => (a_I g v1 x3).bind fun v2 => if v2 = 3 then (if (x6 * 2) ≤ 100 then (some (x6 * 2)) else (some 100)) else (if x6 ≤ 100 then (some x6) else (some 100))
set_option maxHeartbeats 4000000 in
set_option maxRecDepth 100000 in
theorem w_J_X11_near_87 {l : Launch} {E : qV} {p : Program} {e : Env} {s : State} {m : MethodId} {args : Array Value} {below : List Frame} {meth : Method} {c : Code}  {g : qS} {res : Int32} (C : q_C E p s m args meth c cX11_near RX11 7 (some .int))  : ∀ {x0 : Nat} {x3 : Int32} {x6 : Int32} {ls : Array Slot}, q_J E s g s.heap [] → lv_has ls 7 [(0, .ref (q_ad E x0)), (3, .int x3), (6, .int x6)] → J_X11_near_87 g x0 x3 x6 = some res → W p l e (q_rm 0 0) s m args below meth c s.heap [] 0 0 (q_ZR below (some (.int res)) args s) (F0 m 87 ls []) := by
  have hx := C.1
  have hb := C.2.1
  intro x0 x3 x6 ls hj hl hf
  unfold J_X11_near_87 at hf
  refine lv_aload_n hx hb dX11_near_87 rfl (lv_at hl 0 rfl) ?_
  refine q_getR C hj lk_X11_24 dX11_near_88 hf (fun v1 hf => ?_)
  refine lv_iload_n hx hb dX11_near_91 rfl (lv_at hl 1 rfl) ?_
  refine q_aldI C hj dX11_near_92 hf (fun v2 hf => ?_)
  refine lv_iconst (v := 3) hx hb dX11_near_93 qi_3 ?_
  refine q_icne C (tgt := 103) dX11_near_94 (by decide) hf (fun hf => ?_) (fun hf => ?_)
  · refine lv_iload hx hb dX11_near_103 (lv_at hl 2 rfl) ?_
    refine lv_bipush (v := 100) hx hb dX11_near_105 (by decide) ?_
    refine q_icle C (tgt := 115) dX11_near_107 (by decide) hf (fun hf => ?_) (fun hf => ?_)
    · refine lv_iload hx hb dX11_near_115 (lv_at hl 2 rfl) ?_
      exact q_iretR C dX11_near_117 hf
    · refine lv_bipush (v := 100) hx hb dX11_near_110 (by decide) ?_
      refine lv_goto (tgt := 117) hx hb dX11_near_112 (by decide) ?_
      exact q_iretR C dX11_near_117 hf
  · refine lv_iload hx hb dX11_near_97 (lv_at hl 2 rfl) ?_
    refine lv_iconst (v := 2) hx hb dX11_near_99 qi_2 ?_
    refine lv_imul hx hb dX11_near_100 ?_
    refine lv_istore (lv' := [(6, .int (x6 * 2)), (0, .ref (q_ad E x0)), (3, .int x3)]) hx hb dX11_near_101 hl (by decide) rfl (fun ls hl => ?_)
    refine lv_iload hx hb dX11_near_103 (lv_at hl 0 rfl) ?_
    refine lv_bipush (v := 100) hx hb dX11_near_105 (by decide) ?_
    refine q_icle C (tgt := 115) dX11_near_107 (by decide) hf (fun hf => ?_) (fun hf => ?_)
    · refine lv_iload hx hb dX11_near_115 (lv_at hl 0 rfl) ?_
      exact q_iretR C dX11_near_117 hf
    · refine lv_bipush (v := 100) hx hb dX11_near_110 (by decide) ?_
      refine lv_goto (tgt := 117) hx hb dX11_near_112 (by decide) ?_
      exact q_iretR C dX11_near_117 hf
def J_X11_near_79  (g : qS) (x0 : Nat) (x3 : Int32) (x6 : Int32) : Option Int32 := if 0 ≤ x6 then (J_X11_near_87 g x0 x3 x6) else (J_X11_near_87 g x0 x3 0)
set_option maxHeartbeats 4000000 in
set_option maxRecDepth 100000 in
theorem w_J_X11_near_79 {l : Launch} {E : qV} {p : Program} {e : Env} {s : State} {m : MethodId} {args : Array Value} {below : List Frame} {meth : Method} {c : Code}  {g : qS} {res : Int32} (C : q_C E p s m args meth c cX11_near RX11 7 (some .int))  : ∀ {x0 : Nat} {x3 : Int32} {x6 : Int32} {ls : Array Slot}, q_J E s g s.heap [] → lv_has ls 7 [(0, .ref (q_ad E x0)), (3, .int x3), (6, .int x6)] → J_X11_near_79 g x0 x3 x6 = some res → W p l e (q_rm 0 0) s m args below meth c s.heap [] 0 0 (q_ZR below (some (.int res)) args s) (F0 m 79 ls []) := by
  have hx := C.1
  have hb := C.2.1
  intro x0 x3 x6 ls hj hl hf
  unfold J_X11_near_79 at hf
  refine lv_iload hx hb dX11_near_79 (lv_at hl 2 rfl) ?_
  refine q_ifge C (tgt := 87) dX11_near_81 (by decide) hf (fun hf => ?_) (fun hf => ?_)
  · refine w_J_X11_near_87 C  hj (lv_sub hl [0, 1, 2] rfl) hf
  · refine lv_iconst (v := 0) hx hb dX11_near_84 qi_0 ?_
    refine lv_istore (lv' := [(6, .int 0), (0, .ref (q_ad E x0)), (3, .int x3)]) hx hb dX11_near_85 hl (by decide) rfl (fun ls hl => ?_)
    refine w_J_X11_near_87 C  hj (lv_sub hl [1, 2, 0] rfl) hf
def J_X11_near_43  (g : qS) (x0 : Nat) (x1 : Int32) (x3 : Int32) (x4 : Int32) (x5 : Int32) (t0 : Int32) (t1 : Int32) : Option Int32 := (g_R g x0 10 19).bind fun v1 => (a_I g v1 x4).bind fun v2 => (g_R g x0 10 21).bind fun v3 => (a_I g v3 x1).bind fun v4 => (g_R g x0 10 15).bind fun v5 => (a_I g v5 x3).bind fun v6 => if v6 = 1 then (J_X11_near_79 g x0 x3 (((((t1 + t0) + (5 * x5)) - v2) - v4) + (-20))) else (J_X11_near_79 g x0 x3 ((((t1 + t0) + (5 * x5)) - v2) - v4))
set_option maxHeartbeats 4000000 in
set_option maxRecDepth 100000 in
theorem w_J_X11_near_43 {l : Launch} {E : qV} {p : Program} {e : Env} {s : State} {m : MethodId} {args : Array Value} {below : List Frame} {meth : Method} {c : Code}  {g : qS} {res : Int32} (C : q_C E p s m args meth c cX11_near RX11 7 (some .int))  : ∀ {x0 : Nat} {x1 : Int32} {x3 : Int32} {x4 : Int32} {x5 : Int32} {t0 : Int32} {t1 : Int32} {ls : Array Slot}, q_J E s g s.heap [] → lv_has ls 7 [(0, .ref (q_ad E x0)), (1, .int x1), (3, .int x3), (4, .int x4), (5, .int x5)] → J_X11_near_43 g x0 x1 x3 x4 x5 t0 t1 = some res → W p l e (q_rm 0 0) s m args below meth c s.heap [] 0 0 (q_ZR below (some (.int res)) args s) (F0 m 43 ls [.int t0, .int t1]) := by
  have hx := C.1
  have hb := C.2.1
  intro x0 x1 x3 x4 x5 t0 t1 ls hj hl hf
  unfold J_X11_near_43 at hf
  refine lv_iadd hx hb dX11_near_43 ?_
  refine lv_iconst (v := 5) hx hb dX11_near_44 qi_5 ?_
  refine lv_iload hx hb dX11_near_45 (lv_at hl 4 rfl) ?_
  refine lv_imul hx hb dX11_near_47 ?_
  refine lv_iadd hx hb dX11_near_48 ?_
  refine lv_aload_n hx hb dX11_near_49 rfl (lv_at hl 0 rfl) ?_
  refine q_getR C hj lk_X11_36 dX11_near_50 hf (fun v1 hf => ?_)
  refine lv_iload hx hb dX11_near_53 (lv_at hl 3 rfl) ?_
  refine q_aldI C hj dX11_near_55 hf (fun v2 hf => ?_)
  refine lv_isub hx hb dX11_near_56 ?_
  refine lv_aload_n hx hb dX11_near_57 rfl (lv_at hl 0 rfl) ?_
  refine q_getR C hj lk_X11_42 dX11_near_58 hf (fun v3 hf => ?_)
  refine lv_iload_n hx hb dX11_near_61 rfl (lv_at hl 1 rfl) ?_
  refine q_aldI C hj dX11_near_62 hf (fun v4 hf => ?_)
  refine lv_isub hx hb dX11_near_63 ?_
  refine lv_istore (lv' := [(6, .int ((((t1 + t0) + (5 * x5)) - v2) - v4)), (0, .ref (q_ad E x0)), (1, .int x1), (3, .int x3), (4, .int x4), (5, .int x5)]) hx hb dX11_near_64 hl (by decide) rfl (fun ls hl => ?_)
  refine lv_aload_n hx hb dX11_near_66 rfl (lv_at hl 1 rfl) ?_
  refine q_getR C hj lk_X11_24 dX11_near_67 hf (fun v5 hf => ?_)
  refine lv_iload_n hx hb dX11_near_70 rfl (lv_at hl 3 rfl) ?_
  refine q_aldI C hj dX11_near_71 hf (fun v6 hf => ?_)
  refine lv_iconst (v := 1) hx hb dX11_near_72 qi_1 ?_
  refine q_icne C (tgt := 79) dX11_near_73 (by decide) hf (fun hf => ?_) (fun hf => ?_)
  · refine w_J_X11_near_79 C  hj (lv_sub hl [1, 3, 0] rfl) hf
  · refine lv_iinc (v := ((((t1 + t0) + (5 * x5)) - v2) - v4) + (-20)) (lv' := [(6, .int (((((t1 + t0) + (5 * x5)) - v2) - v4) + (-20))), (0, .ref (q_ad E x0)), (1, .int x1), (3, .int x3), (4, .int x4), (5, .int x5)]) hx hb dX11_near_76 hl (k := 0) rfl (by rw [qi_m20]) (by decide) rfl (fun ls hl => ?_)
    refine w_J_X11_near_79 C  hj (lv_sub hl [1, 3, 0] rfl) hf
def f_X11_near (g : qS) (a0 : Nat) (a1 : Int32) (a2 : Int32) (a3 : Int32) (a4 : Int32) (a5 : Int32) : Option Int32 := (g_C g a0 10).bind fun _ => (g_R g a0 10 17).bind fun v1 => (a_I g v1 a3).bind fun v2 => (g_R g a0 10 12).bind fun v3 => (a_I g v3 a2).bind fun v4 => (g_R g a0 10 11).bind fun v5 => (a_I g v5 a2).bind fun v6 => if v6 = 1 then (J_X11_near_43 g a0 a1 a3 a4 a5 3 (v2 + v4)) else ((g_R g a0 10 11).bind fun v7 => (a_I g v7 a2).bind fun v8 => if v8 = 2 then (J_X11_near_43 g a0 a1 a3 a4 a5 10 (v2 + v4)) else (J_X11_near_43 g a0 a1 a3 a4 a5 0 (v2 + v4)))
set_option maxHeartbeats 4000000 in
set_option maxRecDepth 100000 in
theorem c_X11_near (l : Launch) (E : qV) {g : qS} {a0 : Nat} {a1 : Int32} {a2 : Int32} {a3 : Int32} {a4 : Int32} {a5 : Int32} {res : Int32} (hf : f_X11_near g a0 a1 a2 a3 a4 a5 = some res) : q_MR l yX11_near cX11_near 7 (some .int) 0 0 E [.ref (q_ad E a0), .int a1, .int a2, .int a3, .int a4, .int a5] g (some (.int res)) ∧ ∃ fs, g a0 = some (.inr (10, fs)) := by
  unfold f_X11_near at hf
  obtain ⟨u9, hu9, hf⟩ := q_ob hf
  refine ⟨q_ofR (by decide) rfl ?_, g_C_sp hu9⟩
  intro p e s m args below meth c ls C hw hl
  have hj : q_J E s g s.heap [] := ⟨hw, va_S.rf⟩
  have hx := C.1
  have hb := C.2.1
  have C : q_C E p s m args meth c cX11_near RX11 7 (some .int) := C
  have hl : lv_has ls 7 [(0, .ref (q_ad E a0)), (1, .int a1), (2, .int a2), (3, .int a3), (4, .int a4), (5, .int a5)] := hl
  refine lv_aload_n hx hb dX11_near_0 rfl (lv_at hl 0 rfl) ?_
  refine q_getR C hj lk_X11_30 dX11_near_1 hf (fun v1 hf => ?_)
  refine lv_iload_n hx hb dX11_near_4 rfl (lv_at hl 3 rfl) ?_
  refine q_aldI C hj dX11_near_5 hf (fun v2 hf => ?_)
  refine lv_aload_n hx hb dX11_near_6 rfl (lv_at hl 0 rfl) ?_
  refine q_getR C hj lk_X11_15 dX11_near_7 hf (fun v3 hf => ?_)
  refine lv_iload_n hx hb dX11_near_10 rfl (lv_at hl 2 rfl) ?_
  refine q_aldI C hj dX11_near_11 hf (fun v4 hf => ?_)
  refine lv_iadd hx hb dX11_near_12 ?_
  refine lv_aload_n hx hb dX11_near_13 rfl (lv_at hl 0 rfl) ?_
  refine q_getR C hj lk_X11_9 dX11_near_14 hf (fun v5 hf => ?_)
  refine lv_iload_n hx hb dX11_near_17 rfl (lv_at hl 2 rfl) ?_
  refine q_aldI C hj dX11_near_18 hf (fun v6 hf => ?_)
  refine lv_iconst (v := 1) hx hb dX11_near_19 qi_1 ?_
  refine q_icne C (tgt := 27) dX11_near_20 (by decide) hf (fun hf => ?_) (fun hf => ?_)
  · refine lv_aload_n hx hb dX11_near_27 rfl (lv_at hl 0 rfl) ?_
    refine q_getR C hj lk_X11_9 dX11_near_28 hf (fun v7 hf => ?_)
    refine lv_iload_n hx hb dX11_near_31 rfl (lv_at hl 2 rfl) ?_
    refine q_aldI C hj dX11_near_32 hf (fun v8 hf => ?_)
    refine lv_iconst (v := 2) hx hb dX11_near_33 qi_2 ?_
    refine q_icne C (tgt := 42) dX11_near_34 (by decide) hf (fun hf => ?_) (fun hf => ?_)
    · refine lv_iconst (v := 0) hx hb dX11_near_42 qi_0 ?_
      refine w_J_X11_near_43 C  hj (lv_sub hl [0, 1, 3, 4, 5] rfl) hf
    · refine lv_bipush (v := 10) hx hb dX11_near_37 (by decide) ?_
      refine lv_goto (tgt := 43) hx hb dX11_near_39 (by decide) ?_
      refine w_J_X11_near_43 C  hj (lv_sub hl [0, 1, 3, 4, 5] rfl) hf
  · refine lv_iconst (v := 3) hx hb dX11_near_23 qi_3 ?_
    refine lv_goto (tgt := 43) hx hb dX11_near_24 (by decide) ?_
    refine w_J_X11_near_43 C  hj (lv_sub hl [0, 1, 3, 4, 5] rfl) hf
