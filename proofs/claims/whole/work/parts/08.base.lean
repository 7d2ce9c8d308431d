theorem qi_m2 : Int32.ofInt (-2) = -2 := by decide
theorem qi_m1 : Int32.ofInt (-1) = -1 := by decide
theorem qi_0 : Int32.ofInt (0) = 0 := by decide
theorem qi_1 : Int32.ofInt (1) = 1 := by decide
theorem qi_2 : Int32.ofInt (2) = 2 := by decide
theorem qi_3 : Int32.ofInt (3) = 3 := by decide
theorem qi_4 : Int32.ofInt (4) = 4 := by decide
theorem qi_5 : Int32.ofInt (5) = 5 := by decide
theorem qi_6 : Int32.ofInt (6) = 6 := by decide
theorem qi_7 : Int32.ofInt (7) = 7 := by decide
theorem qi_8 : Int32.ofInt (8) = 8 := by decide
theorem qi_9 : Int32.ofInt (9) = 9 := by decide
theorem qi_10 : Int32.ofInt (10) = 10 := by decide
theorem qi_11 : Int32.ofInt (11) = 11 := by decide
theorem qi_12 : Int32.ofInt (12) = 12 := by decide
theorem qi_13 : Int32.ofInt (13) = 13 := by decide
theorem qi_14 : Int32.ofInt (14) = 14 := by decide
theorem qi_15 : Int32.ofInt (15) = 15 := by decide
theorem qi_16 : Int32.ofInt (16) = 16 := by decide
theorem qi_20 : Int32.ofInt (20) = 20 := by decide
theorem qi_24 : Int32.ofInt (24) = 24 := by decide
theorem qi_31 : Int32.ofInt (31) = 31 := by decide
theorem qi_60 : Int32.ofInt (60) = 60 := by decide
theorem qi_100 : Int32.ofInt (100) = 100 := by decide
theorem qi_m8 : Int32.ofInt (-8) = -8 := by decide
def q_mx (x y : Int32) : Int32 := if x < y then y else x
def q_mn (x y : Int32) : Int32 := if y < x then y else x
theorem q_mxw : Cond.static Lib.Math.max.name ∈ q_GW ∧ Cond.initialized "java/lang/Math" ∈ q_GW ∧ Cond.code Lib.Math.max.name Lib.Math.max.code 2 (some .int) ∈ q_GW := ⟨q_gt (i := 51) (by decide +kernel) (by decide +kernel), q_gt (i := 5) (by decide +kernel) (by decide +kernel), q_gt (i := 52) (by decide +kernel) (by decide +kernel)⟩
theorem q_mnw : Cond.static Lib.Math.min.name ∈ q_GW ∧ Cond.initialized "java/lang/Math" ∈ q_GW ∧ Cond.code Lib.Math.min.name Lib.Math.min.code 2 (some .int) ∈ q_GW := ⟨q_gt (i := 54) (by decide +kernel) (by decide +kernel), q_gt (i := 5) (by decide +kernel) (by decide +kernel), q_gt (i := 55) (by decide +kernel) (by decide +kernel)⟩
section QM
variable {l : Launch} {E : qV} {p : Program} {e : Env} {R : Room} {s : State} {m : MethodId} {args : Array Value} {below : List Frame} {meth : Method} {c : Code} {H : Heap} {locs : List Loc} {cells slots : Nat} {Q : State → Prop} {cc : ByteArray} {own : String} {nL : Nat} {rt : Option FieldType} {pc : Nat} {ls : Array Slot} {rest st : List Value} {g : qS} {α : Type} {res : α}
theorem q_max (C : q_C E p s m args meth c cc own nL rt) {idx : Nat} (hlk : Cond.methodLink own idx Lib.Math.max.name ∈ q_GW) (hR : (Nat.ble 1 R.frames && Nat.ble ((rest.map fun v => v.category).sum + 13) R.locals) = true) {lv : List (Nat × Value)} (hl : lv_has ls nL lv) {x y : Int32} (hd : decode cc pc = .ok (.invokestatic idx, 3))
    (k : W p l e R s m args below meth c H locs 0 0 Q (F0 m (pc + 3) ls (.int (q_mx x y) :: rest))) : W p l e R s m args below meth c H locs 0 0 Q (F0 m pc ls (.int y :: .int x :: rest)) := by
  rw [Bool.and_eq_true] at hR
  have hts := C.2.2.2.2.1
  exact va_mmax C.1 C.2.1 (C.2.2.1.trans hl.1.symm) C.2.2.2.1 (hts _ hlk) (hts _ q_mxw.1) (hts _ q_mxw.2.1) (hts _ q_mxw.2.2) (Nat.le_of_ble_eq_true hR.1) (Nat.le_of_ble_eq_true hR.2) (Nat.zero_le _) (Nat.zero_le _) hd k
theorem q_min (C : q_C E p s m args meth c cc own nL rt) {idx : Nat} (hlk : Cond.methodLink own idx Lib.Math.min.name ∈ q_GW) (hR : (Nat.ble 1 R.frames && Nat.ble ((rest.map fun v => v.category).sum + 13) R.locals) = true) {lv : List (Nat × Value)} (hl : lv_has ls nL lv) {x y : Int32} (hd : decode cc pc = .ok (.invokestatic idx, 3))
    (k : W p l e R s m args below meth c H locs 0 0 Q (F0 m (pc + 3) ls (.int (q_mn x y) :: rest))) : W p l e R s m args below meth c H locs 0 0 Q (F0 m pc ls (.int y :: .int x :: rest)) := by
  rw [Bool.and_eq_true] at hR
  have hts := C.2.2.2.2.1
  exact va_mmin C.1 C.2.1 (C.2.2.1.trans hl.1.symm) C.2.2.2.1 (hts _ hlk) (hts _ q_mnw.1) (hts _ q_mnw.2.1) (hts _ q_mnw.2.2) (Nat.le_of_ble_eq_true hR.1) (Nat.le_of_ble_eq_true hR.2) (Nat.zero_le _) (Nat.zero_le _) hd k
theorem q_ldcS (C : q_C E p s m args meth c cc own nL rt) {i idx : Nat} {tx : String} (hi : q_SR[i]? = some (own, idx, tx)) (hd : decode cc pc = .ok (.ldc idx, 2))
    (k : W p l e R s m args below meth c H locs cells slots Q (F0 m (pc + 2) ls (.ref (q_sa E i) :: rest))) : W p l e R s m args below meth c H locs cells slots Q (F0 m pc ls rest) :=
  va_ldcS C.1 C.2.1 C.2.2.2.1 (C.2.2.2.2.2.2.2.2.2.2.1 i _ hi) hd k
theorem q_ldcwS (C : q_C E p s m args meth c cc own nL rt) {i idx : Nat} {tx : String} (hi : q_SR[i]? = some (own, idx, tx)) (hd : decode cc pc = .ok (.ldc_w idx, 3))
    (k : W p l e R s m args below meth c H locs cells slots Q (F0 m (pc + 3) ls (.ref (q_sa E i) :: rest))) : W p l e R s m args below meth c H locs cells slots Q (F0 m pc ls rest) := by
  have hZ := C.2.2.2.2.2.2.2.2.2.2.1 i _ hi
  intro T hT X
  obtain ⟨t, a1, b1⟩ := k T hT X
  exact ⟨t, X.ldcStringW C.1 C.2.2.2.1 (text := tx) (a := q_sa E i) hZ.1 hZ.2 (g := F0 m pc ls rest) rfl (by rw [C.2.1]; exact hd) t a1, b1⟩
theorem q_runVs (C : q_C E p s m args meth c cc own nL rt) (hj : q_J E s g H locs) {y : MethodName} {b : ByteArray} {n idx np F L b0 : Nat} {rt' : Option FieldType} (h1 : Cond.methodLink own idx y ∈ q_GW) (h2 : Cond.instanceMethod y ∈ q_GW) (h3 : Cond.selects y.cls y y ∈ q_GW) (h4 : Cond.initialized y.cls ∈ q_GW) (h5 : Cond.code y b n rt' ∈ q_GW) (h6 : y.cls ≠ "java/lang/invoke/MethodHandle" ∧ y.cls ≠ "java/lang/invoke/VarHandle") (h7 : (parseMethodDescriptor y.desc).map (fun d => d.parameters.length) = some np) {As : List Value} {Qc : Array Value → State → Outcome → State → Prop} {free : Addr → Prop} (hM : Met l y (Cond.code y b n rt' :: q_GW) (q_rm F L) (q_Pc E (.ref b0 :: As) g) Qc 0 0 free) (hrc : ∃ cell : Cell, H[b0]? = some cell ∧ cell.vm.isStatics = false ∧ s.vm.findClass y.cls = some cell.cls) (hR : (Nat.ble (F + 1) R.frames && Nat.ble (n + 19 + L) R.locals) = true) {lv : List (Nat × Value)} (hl : lv_has ls nL lv) (hn : As.length = np) (hst : st = As.reverse ++ .ref b0 :: rest) (hr8 : Nat.ble (rest.map fun v => v.category).sum 8 = true) (hd : decode cc pc = .ok (.invokevirtual idx, 3)) (hcs : cells ≤ R.cells ∧ slots ≤ R.slots) :
    va_Run p l e R s m args below meth c H locs cells slots 0 0 (F0 m pc ls st) rest (Qc (Value.ref b0 :: As).toArray) free := by
  have hts := C.2.2.2.2.1
  exact va_runV (cc := cc) (nL := nL) (Ts := q_GW) (C := y.cls) ⟨C.1, C.2.1, C.2.2.1, C.2.2.2.1, hts⟩ hM ⟨q_cb C h1 h4 h5 h6 h7 hR, hts _ h2, hts _ h3⟩ ⟨q_blind, hrc, (q_pre C hj).2⟩ rfl hn hl.1 hst (lv_room (Nat.le_of_ble_eq_true hr8)) hd hcs
end QM
theorem cs_J0_1059 : q_cs RJ0 1059 yJ3_checkIndex_8e157 cJ3_checkIndex_8e157 3 (some .int) 3 := ⟨q_gt (i := 421) (by decide +kernel) (by decide +kernel), q_gt (i := 422) (by decide +kernel) (by decide +kernel), q_gt (i := 15) (by decide +kernel) (by decide +kernel), q_gt (i := 423) (by decide +kernel) (by decide +kernel), ⟨by decide +kernel, by decide +kernel⟩, by decide +kernel⟩
theorem cs_J1_9 : q_cs RJ1 9 yJ0_checkIndex_df160 cJ0_checkIndex_df160 2 none 2 := ⟨q_gt (i := 416) (by decide +kernel) (by decide +kernel), q_gt (i := 417) (by decide +kernel) (by decide +kernel), q_gt (i := 13) (by decide +kernel) (by decide +kernel), q_gt (i := 418) (by decide +kernel) (by decide +kernel), ⟨by decide +kernel, by decide +kernel⟩, by decide +kernel⟩
theorem cs_J0_495 : q_cs RJ0 495 yJ1_charAt_3b067 cJ1_charAt_3b067 2 (some .char) 2 := ⟨q_gt (i := 413) (by decide +kernel) (by decide +kernel), q_gt (i := 414) (by decide +kernel) (by decide +kernel), q_gt (i := 14) (by decide +kernel) (by decide +kernel), q_gt (i := 415) (by decide +kernel) (by decide +kernel), ⟨by decide +kernel, by decide +kernel⟩, by decide +kernel⟩
theorem ks_38 : Cond.fieldLink RJ0 38 "java/lang/String" "COMPACT_STRINGS" "Z" ∈ q_GW := q_gt (i := 402) (by decide +kernel) (by decide +kernel)
theorem ks_15 : Cond.fieldLink RJ0 15 "java/lang/String" "coder" "B" ∈ q_GW := q_gt (i := 2024) (by decide +kernel) (by decide +kernel)
theorem ks_9 : Cond.fieldLink RJ0 9 "java/lang/String" "value" "[B" ∈ q_GW := q_gt (i := 2023) (by decide +kernel) (by decide +kernel)
theorem ks_1053 : Cond.fieldLink RJ0 1053 "jdk/internal/util/Preconditions" "SIOOBE_FORMATTER" "Ljava/util/function/BiFunction;" ∈ q_GW := q_gt (i := 419) (by decide +kernel) (by decide +kernel)
set_option maxHeartbeats 4000000 in
set_option maxRecDepth 100000 in
theorem c_J3_checkIndex_8e157 (l : Launch) (E : qV) {g : qS} {a b : Int32} {w : Value} (hw0 : w = .null ∨ ∃ t, w = .ref t) (h1 : ¬ a < 0) (h2 : a < b) : q_MR l yJ3_checkIndex_8e157 cJ3_checkIndex_8e157 3 (some .int) 0 0 E [.int a, .int b, w] g (some (.int a)) := by
  have key : ∀ w : Value, w.category = 1 → Nat.ble (lg_sl [Value.int a, .int b, w]).length 3 = true → lv_args 0 [Value.int a, .int b, w] = [(0, .int a), (1, .int b), (2, w)] → q_MR l yJ3_checkIndex_8e157 cJ3_checkIndex_8e157 3 (some .int) 0 0 E [.int a, .int b, w] g (some (.int a)) := by
    intro w hcw hlen hla
    refine q_ofR (by decide) hlen ?_
    intro p e s m args below meth c ls C hw hl
    have hx := C.1
    have hb := C.2.1
    rw [hla] at hl
    refine lv_iload_n hx hb dJ3_checkIndex_8e157_0 rfl (lv_at hl 0 rfl) ?_
    refine lv_if_lt (tgt := 9) hx hb dJ3_checkIndex_8e157_1 (by decide) (fun z => absurd z h1) (fun _ => ?_)
    refine lv_iload_n hx hb dJ3_checkIndex_8e157_4 rfl (lv_at hl 0 rfl) ?_
    refine lv_iload_n hx hb dJ3_checkIndex_8e157_5 rfl (lv_at hl 1 rfl) ?_
    refine lv_icmp_lt (tgt := 16) hx hb dJ3_checkIndex_8e157_6 (by decide) (fun _ => ?_) (fun z => absurd h2 z)
    refine lv_iload_n hx hb dJ3_checkIndex_8e157_16 rfl (lv_at hl 0 rfl) ?_
    exact q_iretR C dJ3_checkIndex_8e157_17 rfl
  rcases hw0 with rfl | ⟨t, rfl⟩
  · exact key _ rfl rfl rfl
  · exact key _ rfl rfl rfl

set_option maxHeartbeats 4000000 in
set_option maxRecDepth 100000 in
theorem c_J0_checkIndex_df160 (l : Launch) (E : qV) {g : qS} {a b : Int32} (h1 : ¬ a < 0) (h2 : a < b) : q_MR l yJ0_checkIndex_df160 cJ0_checkIndex_df160 2 none 1 22 E [.int a, .int b] g none := by
  refine q_ofR (by decide) rfl ?_
  intro p e s m args below meth c ls C hw hl
  have hj : q_J E s g s.heap [] := ⟨hw, va_S.rf⟩
  have hx := C.1
  have hb := C.2.1
  have hts := C.2.2.2.2.1
  have hS := hj.2
  have hSt := C.2.2.2.2.2.2.2.2.2.2
  have hl : lv_has ls 2 [(0, .int a), (1, .int b)] := hl
  have C : q_C E p s m args meth c cJ0_checkIndex_df160 RJ0 2 none := C
  refine lv_iload_n hx hb dJ0_checkIndex_df160_0 rfl (lv_at hl 0 rfl) ?_
  refine lv_iload_n hx hb dJ0_checkIndex_df160_1 rfl (lv_at hl 1 rfl) ?_
  obtain ⟨w, hw0, hZ, hcw⟩ : ∃ w : Value, (w = .null ∨ ∃ t, w = .ref t) ∧ va_Z "jdk/internal/util/Preconditions" "SIOOBE_FORMATTER" "Ljava/util/function/BiFunction;" w (q_A E) s s.heap ∧ w.category = 1 := by
    rcases hSt.2.2.2 with h | ⟨t, h⟩
    · exact ⟨_, Or.inl rfl, h, rfl⟩
    · exact ⟨_, Or.inr ⟨t, rfl⟩, h, rfl⟩
  refine va_gets hx hb hZ hS C.2.2.2.1 (hts _ ks_1053) (fun _ h => h) dJ0_checkIndex_df160_2 ?_
  refine q_endR (v := some (.int a)) (rest := []) (q_runS C hj cs_J0_1059 (As := [.int a, .int b, w]) (c_J3_checkIndex_8e157 l E hw0 h1 h2) rfl hl rfl rfl rfl dJ0_checkIndex_df160_5 ⟨Nat.zero_le _, Nat.zero_le _⟩) ?_
  refine lv_pop hx hb dJ0_checkIndex_df160_8 rfl ?_
  exact W.vret hx hb C.2.2.2.2.2.2.1 (fun t ht _ => ⟨rfl, ht⟩) (fun q h => by cases h) dJ0_checkIndex_df160_9 C.2.2.2.2.2.1

def q_slen (i : Nat) : Option Int32 := if i < 56 then some (Int32.ofNat (q_bytes i).length) else none
def q_sch (i : Nat) (k : Int32) : Option Int32 := if i < 56 then (if k < 0 ∨ (q_bytes i).length ≤ k.toNatClampNeg then none else some (((q_bytes i).getD k.toNatClampNeg 0 &&& 255).toUInt32 % 65536).toInt32) else none
theorem q_blen : ∀ i, i < 56 → (q_bytes i).length < 100 := by decide +kernel

set_option maxHeartbeats 4000000 in
set_option maxRecDepth 100000 in
theorem c_J1_charAt_3b067 (l : Launch) (E : qV) {g : qS} {i : Nat} {k : Int32} (hi : i < 56) (h1 : ¬ k < 0) (h2 : k.toNatClampNeg < (q_bytes i).length) : q_MR l yJ1_charAt_3b067 cJ1_charAt_3b067 2 (some .char) 2 43 E [.ref (q_sv E i), .int k] g (some (.int (((q_bytes i).getD k.toNatClampNeg 0 &&& 255).toUInt32 % 65536).toInt32)) := by
  have hlt : k < Int32.ofNat (q_bytes i).length := by
    have h3 := q_blen i hi
    obtain ⟨j, hj, rfl⟩ := nI_of h1
    rw [nI_clamp hj] at h2
    exact nI_lt h2 (by omega)
  refine q_ofR (by decide) rfl ?_
  intro p e s m args below meth c ls C hw hl
  have hj : q_J E s g s.heap [] := ⟨hw, va_S.rf⟩
  have hx := C.1
  have hb := C.2.1
  have hts := C.2.2.2.2.1
  have hS := hj.2
  have hSt := C.2.2.2.2.2.2.2.2.2.2
  have hl : lv_has ls 2 [(0, .ref (q_sv E i)), (1, .int k)] := hl
  have C : q_C E p s m args meth c cJ1_charAt_3b067 RJ1 2 (some .char) := C
  have hT := (hSt.2.1 i hi).2.2.2
  refine lv_iload_n hx hb dJ1_charAt_3b067_0 rfl (lv_at hl 1 rfl) ?_
  refine lv_aload_n hx hb dJ1_charAt_3b067_1 rfl (lv_at hl 0 rfl) ?_
  refine va_tlen hx hb hT hS rfl dJ1_charAt_3b067_2 ?_
  refine q_endR (v := none) (rest := []) (q_runS C hj cs_J1_9 (As := [.int k, .int (Int32.ofNat (q_bytes i).length)]) (c_J0_checkIndex_df160 l E h1 hlt) rfl hl rfl rfl rfl dJ1_charAt_3b067_3 ⟨Nat.zero_le _, Nat.zero_le _⟩) ?_
  refine W.eq (g2 := F0 m 6 ls []) rfl ?_
  refine lv_aload_n hx hb dJ1_charAt_3b067_6 rfl (lv_at hl 0 rfl) ?_
  refine lv_iload_n hx hb dJ1_charAt_3b067_7 rfl (lv_at hl 1 rfl) ?_
  refine va_tb hx hb hT hS (fun z => z.elim h1 (fun z => Nat.not_le.mpr h2 z)) rfl dJ1_charAt_3b067_8 ?_
  refine lv_sipush (v := 255) hx hb dJ1_charAt_3b067_9 (by decide) ?_
  refine lv_iand hx hb dJ1_charAt_3b067_12 ?_
  refine lv_i2c hx hb dJ1_charAt_3b067_13 rfl ?_
  exact W.zret hx hb C.2.2.2.2.2.2.1 (pk_nc _) (fun t ht _ => ⟨rfl, ht⟩) (fun q h => by cases h) dJ1_charAt_3b067_14 C.2.2.2.2.2.1

set_option maxHeartbeats 4000000 in
set_option maxRecDepth 100000 in
theorem c_J0_coder_7d493 (l : Launch) (E : qV) {g : qS} {i : Nat} (hi : i < 56) : q_MR l yJ0_coder_7d493 cJ0_coder_7d493 1 (some .byte) 0 0 E [.ref (q_sa E i)] g (some (.int 0)) := by
  refine q_ofR (by decide) rfl ?_
  intro p e s m args below meth c ls C hw hl
  have hj : q_J E s g s.heap [] := ⟨hw, va_S.rf⟩
  have hx := C.1
  have hb := C.2.1
  have hts := C.2.2.2.2.1
  have hS := hj.2
  have hSt := C.2.2.2.2.2.2.2.2.2.2
  have hl : lv_has ls 1 [(0, .ref (q_sa E i))] := hl
  refine va_gets hx hb hSt.2.2.1 hS C.2.2.2.1 (hts _ ks_38) (fun _ h => h) dJ0_coder_7d493_0 ?_
  refine lv_if_eq (tgt := 13) hx hb dJ0_coder_7d493_3 (by decide) (fun z => absurd z (by decide)) (fun _ => ?_)
  refine lv_aload_n hx hb dJ0_coder_7d493_6 rfl (lv_at hl 0 rfl) ?_
  refine vk_getf hx hb (hSt.2.1 i hi).2.1 hS C.2.2.2.1 (hts _ ks_15) (fun _ h => h) dJ0_coder_7d493_7 ?_
  refine lv_goto (tgt := 14) hx hb dJ0_coder_7d493_10 (by decide) ?_
  exact W.zret hx hb C.2.2.2.2.2.2.1 (by decide +kernel) (fun t ht _ => ⟨rfl, ht⟩) (fun q h => by cases h) dJ0_coder_7d493_14 C.2.2.2.2.2.1

set_option maxHeartbeats 4000000 in
set_option maxRecDepth 100000 in
theorem c_J0_isLatin1_aae02 (l : Launch) (E : qV) {g : qS} {i : Nat} (hi : i < 56) : q_MR l yJ0_isLatin1_aae02 cJ0_isLatin1_aae02 1 (some .boolean) 0 0 E [.ref (q_sa E i)] g (some (.int 1)) := by
  refine q_ofR (by decide) rfl ?_
  intro p e s m args below meth c ls C hw hl
  have hj : q_J E s g s.heap [] := ⟨hw, va_S.rf⟩
  have hx := C.1
  have hb := C.2.1
  have hts := C.2.2.2.2.1
  have hS := hj.2
  have hSt := C.2.2.2.2.2.2.2.2.2.2
  have hl : lv_has ls 1 [(0, .ref (q_sa E i))] := hl
  refine va_gets hx hb hSt.2.2.1 hS C.2.2.2.1 (hts _ ks_38) (fun _ h => h) dJ0_isLatin1_aae02_0 ?_
  refine lv_if_eq (tgt := 17) hx hb dJ0_isLatin1_aae02_3 (by decide) (fun z => absurd z (by decide)) (fun _ => ?_)
  refine lv_aload_n hx hb dJ0_isLatin1_aae02_6 rfl (lv_at hl 0 rfl) ?_
  refine vk_getf hx hb (hSt.2.1 i hi).2.1 hS C.2.2.2.1 (hts _ ks_15) (fun _ h => h) dJ0_isLatin1_aae02_7 ?_
  refine lv_if_ne (tgt := 17) hx hb dJ0_isLatin1_aae02_10 (by decide) (fun z => absurd rfl z) (fun _ => ?_)
  refine lv_iconst (v := 1) hx hb dJ0_isLatin1_aae02_13 qi_1 ?_
  refine lv_goto (tgt := 18) hx hb dJ0_isLatin1_aae02_14 (by decide) ?_
  exact W.zret hx hb C.2.2.2.2.2.2.1 (by decide +kernel) (fun t ht _ => ⟨rfl, ht⟩) (fun q h => by cases h) dJ0_isLatin1_aae02_18 C.2.2.2.2.2.1

set_option maxHeartbeats 4000000 in
set_option maxRecDepth 100000 in
theorem c_J0_length_8abf5 (l : Launch) (E : qV) {g : qS} {i : Nat} (hi : i < 56) : q_MR l yJ0_length_8abf5 cJ0_length_8abf5 1 (some .int) 1 20 E [.ref (q_sa E i)] g (some (.int (Int32.ofNat (q_bytes i).length))) := by
  refine q_ofR (by decide) rfl ?_
  intro p e s m args below meth c ls C hw hl
  have hj : q_J E s g s.heap [] := ⟨hw, va_S.rf⟩
  have hx := C.1
  have hb := C.2.1
  have hts := C.2.2.2.2.1
  have hS := hj.2
  have hSt := C.2.2.2.2.2.2.2.2.2.2
  have hl : lv_has ls 1 [(0, .ref (q_sa E i))] := hl
  have C : q_C E p s m args meth c cJ0_length_8abf5 RJ0 1 (some .int) := C
  have hrc : ∃ cell : Cell, s.heap[q_sa E i]? = some cell ∧ cell.vm.isStatics = false ∧ s.vm.findClass yJ0_coder_7d493.cls = some cell.cls := by
    obtain ⟨cell, h1, h2, h3, -⟩ := (hSt.2.1 i hi).1
    exact ⟨cell, h1, h2, h3⟩
  refine lv_aload_n hx hb dJ0_length_8abf5_0 rfl (lv_at hl 0 rfl) ?_
  refine vk_getf hx hb (hSt.2.1 i hi).2.2.1 hS C.2.2.2.1 (hts _ ks_9) (fun _ h => h) dJ0_length_8abf5_1 ?_
  refine va_tlen hx hb (hSt.2.1 i hi).2.2.2 hS rfl dJ0_length_8abf5_4 ?_
  refine lv_aload_n hx hb dJ0_length_8abf5_5 rfl (lv_at hl 0 rfl) ?_
  refine q_endR (v := some (.int 0)) (rest := [.int (Int32.ofNat (q_bytes i).length)]) (q_runVs C hj (q_gt (i := 398) (by decide +kernel) (by decide +kernel)) (q_gt (i := 399) (by decide +kernel) (by decide +kernel)) (q_gt (i := 400) (by decide +kernel) (by decide +kernel)) (q_gt (i := 13) (by decide +kernel) (by decide +kernel)) (q_gt (i := 401) (by decide +kernel) (by decide +kernel)) ⟨by decide +kernel, by decide +kernel⟩ (by decide +kernel) (As := []) (c_J0_coder_7d493 l E hi) hrc rfl hl rfl rfl rfl dJ0_length_8abf5_6 ⟨Nat.zero_le _, Nat.zero_le _⟩) ?_
  refine W.eq (g2 := F0 m 9 ls [.int 0, .int (Int32.ofNat (q_bytes i).length)]) rfl ?_
  refine lv_ishr hx hb dJ0_length_8abf5_9 ?_
  refine q_iretR C dJ0_length_8abf5_10 ?_
  have h3 := q_blen i hi
  have h4 := pk_shrN (n := (q_bytes i).length) (by omega) ((0 : Int32) &&& 31) 0 (by decide)
  rw [show Int32.ofNat (q_bytes i).length = nI (q_bytes i).length from rfl, h4, Nat.pow_zero, Nat.div_one]

set_option maxHeartbeats 4000000 in
set_option maxRecDepth 100000 in
theorem c_J0_charAt_5068e (l : Launch) (E : qV) {g : qS} {i : Nat} {k : Int32} (hi : i < 56) (h1 : ¬ k < 0) (h2 : k.toNatClampNeg < (q_bytes i).length) : q_MR l yJ0_charAt_5068e cJ0_charAt_5068e 2 (some .char) 3 64 E [.ref (q_sa E i), .int k] g (some (.int (((q_bytes i).getD k.toNatClampNeg 0 &&& 255).toUInt32 % 65536).toInt32)) := by
  refine q_ofR (by decide) rfl ?_
  intro p e s m args below meth c ls C hw hl
  have hj : q_J E s g s.heap [] := ⟨hw, va_S.rf⟩
  have hx := C.1
  have hb := C.2.1
  have hts := C.2.2.2.2.1
  have hS := hj.2
  have hSt := C.2.2.2.2.2.2.2.2.2.2
  have hl : lv_has ls 2 [(0, .ref (q_sa E i)), (1, .int k)] := hl
  have C : q_C E p s m args meth c cJ0_charAt_5068e RJ0 2 (some .char) := C
  have hrc : ∃ cell : Cell, s.heap[q_sa E i]? = some cell ∧ cell.vm.isStatics = false ∧ s.vm.findClass yJ0_isLatin1_aae02.cls = some cell.cls := by
    obtain ⟨cell, h1, h2, h3, -⟩ := (hSt.2.1 i hi).1
    exact ⟨cell, h1, h2, h3⟩
  refine lv_aload_n hx hb dJ0_charAt_5068e_0 rfl (lv_at hl 0 rfl) ?_
  refine q_endR (v := some (.int 1)) (rest := []) (q_runVs C hj (q_gt (i := 409) (by decide +kernel) (by decide +kernel)) (q_gt (i := 410) (by decide +kernel) (by decide +kernel)) (q_gt (i := 411) (by decide +kernel) (by decide +kernel)) (q_gt (i := 13) (by decide +kernel) (by decide +kernel)) (q_gt (i := 412) (by decide +kernel) (by decide +kernel)) ⟨by decide +kernel, by decide +kernel⟩ (by decide +kernel) (As := []) (c_J0_isLatin1_aae02 l E hi) hrc rfl hl rfl rfl rfl dJ0_charAt_5068e_1 ⟨Nat.zero_le _, Nat.zero_le _⟩) ?_
  refine W.eq (g2 := F0 m 4 ls [.int 1]) rfl ?_
  refine lv_if_eq (tgt := 16) hx hb dJ0_charAt_5068e_4 (by decide) (fun z => absurd z (by decide)) (fun _ => ?_)
  refine lv_aload_n hx hb dJ0_charAt_5068e_7 rfl (lv_at hl 0 rfl) ?_
  refine vk_getf hx hb (hSt.2.1 i hi).2.2.1 hS C.2.2.2.1 (hts _ ks_9) (fun _ h => h) dJ0_charAt_5068e_8 ?_
  refine lv_iload_n hx hb dJ0_charAt_5068e_11 rfl (lv_at hl 1 rfl) ?_
  refine q_endR (v := some (.int _)) (rest := []) (q_runS C hj cs_J0_495 (As := [.ref (q_sv E i), .int k]) (c_J1_charAt_3b067 l E hi h1 h2) rfl hl rfl rfl rfl dJ0_charAt_5068e_12 ⟨Nat.zero_le _, Nat.zero_le _⟩) ?_
  exact W.zret hx hb C.2.2.2.2.2.2.1 (pk_nc _) (fun t ht _ => ⟨rfl, ht⟩) (fun q h => by cases h) dJ0_charAt_5068e_15 C.2.2.2.2.2.1

/-- a call of String.length, String.charAt: its words -/
def q_sw (own : String) (idx : Nat) (y : MethodName) (b : ByteArray) (n : Nat) (rt : Option FieldType) (np : Nat) : Prop := Cond.methodLink own idx y ∈ q_GW ∧ Cond.instanceMethod y ∈ q_GW ∧ Cond.selects y.cls y y ∈ q_GW ∧ Cond.initialized y.cls ∈ q_GW ∧ Cond.code y b n rt ∈ q_GW ∧ (parseMethodDescriptor y.desc).map (fun d => d.parameters.length) = some np
section QT
variable {l : Launch} {E : qV} {p : Program} {e : Env} {R : Room} {s : State} {m : MethodId} {args : Array Value} {below : List Frame} {meth : Method} {c : Code} {H : Heap} {locs : List Loc} {Q : State → Prop} {cc : ByteArray} {own : String} {nL : Nat} {rt : Option FieldType} {pc : Nat} {ls : Array Slot} {rest st : List Value} {g : qS} {α : Type} {res : α}
theorem q_srec (C : q_C E p s m args meth c cc own nL rt) (hj : q_J E s g H locs) {i : Nat} (hi : i < 56) : ∃ cell : Cell, H[q_sa E i]? = some cell ∧ cell.vm.isStatics = false ∧ s.vm.findClass RJ0 = some cell.cls := by
  obtain ⟨cell, h1, h2, h3, -⟩ := ((C.2.2.2.2.2.2.2.2.2.2).2.1 i hi).1.kept hj.2.2.1
  exact ⟨cell, h1, h2, h3⟩
theorem q_slenW (C : q_C E p s m args meth c cc own nL rt) (hj : q_J E s g H locs) {i idx : Nat} (cw : q_sw own idx yJ0_length_8abf5 cJ0_length_8abf5 1 (some .int) 0) {f : Int32 → Option α} (hf : (q_slen i).bind f = some res) {lv : List (Nat × Value)} (hl : lv_has ls nL lv) (hR : (Nat.ble 2 R.frames && Nat.ble 40 R.locals) = true) (hr8 : Nat.ble (rest.map fun v => v.category).sum 8 = true) (hd : decode cc pc = .ok (.invokevirtual idx, 3))
    (k : ∀ v, f v = some res → W p l e R s m args below meth c H locs 0 0 Q (F0 m (pc + 3) ls (.int v :: rest))) : W p l e R s m args below meth c H locs 0 0 Q (F0 m pc ls (.ref (q_sa E i) :: rest)) := by
  obtain ⟨v, h1, h2⟩ := q_ob hf
  unfold q_slen at h1
  split at h1
  · rename_i hi
    cases h1
    obtain ⟨w1, w2, w3, w4, w5, w6⟩ := cw
    exact q_endR (v := some (.int _)) (q_runVs C hj w1 w2 w3 w4 w5 ⟨by decide +kernel, by decide +kernel⟩ w6 (As := []) (c_J0_length_8abf5 l E hi) (q_srec C hj hi) hR hl rfl rfl hr8 hd ⟨Nat.zero_le _, Nat.zero_le _⟩) (k _ h2)
  · cases h1
theorem q_schW (C : q_C E p s m args meth c cc own nL rt) (hj : q_J E s g H locs) {i idx : Nat} {j : Int32} (cw : q_sw own idx yJ0_charAt_5068e cJ0_charAt_5068e 2 (some .char) 1) {f : Int32 → Option α} (hf : (q_sch i j).bind f = some res) {lv : List (Nat × Value)} (hl : lv_has ls nL lv) (hR : (Nat.ble 4 R.frames && Nat.ble 85 R.locals) = true) (hr8 : Nat.ble (rest.map fun v => v.category).sum 8 = true) (hd : decode cc pc = .ok (.invokevirtual idx, 3))
    (k : ∀ v, f v = some res → W p l e R s m args below meth c H locs 0 0 Q (F0 m (pc + 3) ls (.int v :: rest))) : W p l e R s m args below meth c H locs 0 0 Q (F0 m pc ls (.int j :: .ref (q_sa E i) :: rest)) := by
  obtain ⟨v, h1, h2⟩ := q_ob hf
  unfold q_sch at h1
  split at h1
  · rename_i hi
    split at h1
    · cases h1
    · rename_i hk
      cases h1
      obtain ⟨w1, w2, w3, w4, w5, w6⟩ := cw
      exact q_endR (v := some (.int _)) (q_runVs C hj w1 w2 w3 w4 w5 ⟨by decide +kernel, by decide +kernel⟩ w6 (As := [.int j]) (c_J0_charAt_5068e l E hi (fun z => hk (Or.inl z)) (Nat.not_le.mp fun z => hk (Or.inr z))) (q_srec C hj hi) hR hl rfl rfl hr8 hd ⟨Nat.zero_le _, Nat.zero_le _⟩) (k _ h2)
  · cases h1
end QT
