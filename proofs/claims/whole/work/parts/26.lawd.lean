section QLD2
variable {l : Launch} {E : qV} {p : Program} {e : Env} {R : Room} {s : State} {m : MethodId} {args : Array Value} {below : List Frame} {meth : Method} {c : Code} {H : Heap} {locs : List Loc} {cells slots : Nat} {Q : State → Prop} {pc : Nat} {ls : Array Slot} {rest st : List Value} {g : qS}
theorem q_endC {a : Array Value} {v : Option Value} {g' : qS} {mc1 ms1 : Nat} (hj : q_J E s g H locs) (hr : va_Run p l e R s m args below meth c H locs cells slots mc1 ms1 (F0 m pc ls st) rest (q_QC E v g' a) (q_A E)) (k : ∀ (H1 : Heap) (locs1 : List Loc), q_J E s g' H1 locs1 → W p l e R s m args below meth c H1 locs1 (cells + mc1) (slots + ms1) Q (F0 m (pc + 3) ls (v.toList ++ rest))) : W p l e R s m args below meth c H locs cells slots Q (F0 m pc ls st) := by
  intro T hT X
  obtain ⟨v', st₀, t, T', L, h0, X', hL, e1, e2, ⟨hv, hw, hz, hk⟩, sp⟩ := hr T hT X
  cases hv
  rw [h0] at hz hk
  obtain ⟨hw0, hS1, hS2, hS3⟩ := hj
  obtain ⟨t2, a1, b1⟩ := k T'.heap (locs ++ L) ⟨by rw [e1]; exact hw, by rw [e1]; exact Nat.le_trans hS1 hz, fun q h1 h2 => by rw [e1, hk q (Nat.lt_of_lt_of_le h1 hS1) h2]; exact hS2 q h1 h2, fun q hq => by
      rcases List.mem_append.mp hq with h | h
      · exact hS3 q h
      · exact hL q h⟩ T' rfl X'
  exact ⟨t2, sp t2 a1, b1⟩
theorem q_endWz {a : Array Value} {v : Option Value} {g' : qS} (hj : q_J E s g H locs) (hr : va_Run p l e R s m args below meth c H locs cells slots 0 0 (F0 m pc ls st) rest (q_QW E v g' a) (q_A E)) (k : ∀ (H1 : Heap) (locs1 : List Loc), q_J E s g' H1 locs1 → H1.size = H.size → W p l e R s m args below meth c H1 locs1 cells slots Q (F0 m (pc + 3) ls (v.toList ++ rest))) : W p l e R s m args below meth c H locs cells slots Q (F0 m pc ls st) := by
  intro T hT X
  obtain ⟨v', st₀, t, T', L, h0, X', hL, e1, e2, ⟨hv, hw, hz, hk⟩, sp⟩ := hr T hT X
  cases hv
  rw [h0] at hz hk
  obtain ⟨hw0, hS1, hS2, hS3⟩ := hj
  obtain ⟨t2, a1, b1⟩ := k T'.heap (locs ++ L) ⟨by rw [e1]; exact hw, by rw [e1, hz]; exact hS1, fun q h1 h2 => by rw [e1, hk q (Nat.lt_of_lt_of_le h1 hS1) h2]; exact hS2 q h1 h2, fun q hq => by
      rcases List.mem_append.mp hq with h | h
      · exact hS3 q h
      · exact hL q h⟩ (by rw [e1, hz]) T' rfl X'
  exact ⟨t2, sp t2 a1, b1⟩
end QLD2
def lop_1 (g : qS) (n : Nat) (x1 : Int32) : Option qS := q_b2 (f_X10_college g 0 x1) fun r1 g1 => q_b2 (f_X12_college g1 n 75 x1) fun r2 g2 => if r1 = r2 then some g2 else none
def lop_42 (g : qS) (x1 : Int32) : Option qS := q_b2 (f_L_led g 0 x1 87) fun r1 g1 => q_b2 (f_X12_led g1 75 x1) fun r2 g2 => (f_X12_thrown g2 75).bind fun r3 => if r3 = r1 then (if r1 = 0 then ((a_L g2 87 0).bind fun v => if v = r2.toInt64 then some g2 else none) else some g2) else none
section QLY
variable {l : Launch} {p : Program} {e : Env} {s : State} {m : MethodId} {below : List Frame} {meth : Method} {c : Code} {b L : Nat} {xs : Nat → Int32} {D : va_G} {cy : Nat → ClassId} {sa sv ad : Nat → Nat} {n : Nat} {g : qS} {H : Heap} {Q : State → Prop} {ls : Array Slot} {k : Nat}
set_option maxHeartbeats 2000000 in
theorem lawc_1 (h : q_LC l p s m meth c b L xs D cy sa sv) (hw : q_WF s ad n) (hj : q_J (q_En D cy sa sv ad n) s g H []) (hd : q_dom g n) (h88 : 88 ≤ n) (hk6 : 6 * k + 6 ≤ L) (hL : L ≤ 3072) {g' : qS} (hf : lop_1 g n (q_sx xs k 1) = some g') {n' : Nat} (hd' : q_dom g' n') (hn2 : n' ≤ n + 25) (hl : lv_has ls 7 [(0, .ref b), (1, .ref (ad 0)), (2, .ref (ad 75)), (3, .ref (ad 87)), (4, .int (nI (6 * k)))])
    (kk : ∀ (ad' : Nat → Nat) (H1 : Heap), (∀ r, r < n → ad r = ad' r) → q_WF s ad' n' → q_J (q_En D cy sa sv ad' n') s g' H1 [] → W p l e room_1 s m #[Value.ref b] below meth c H1 [] (q_ck k + 25) (q_sk k + 269) Q (F0 m 1615 ls [])) : W p l e room_1 s m #[Value.ref b] below meth c H [] (q_ck k) (q_sk k) Q (F0 m 309 ls []) := by
  have hS := q_LC.S hw hj
  have hw' : q_WF s (q_adx ad n H.size) (n + 25) := q_WF_ext hw hj.1 hd hS.1
  have hjj : q_J (q_En D cy sa sv (q_adx ad n H.size) (n + 25)) s g H [] := q_LC.J hw' (q_hw_move hj.1 hd (by omega) (fun r hr => q_adx_lt hr)) hS
  have har : q_ar (q_En D cy sa sv (q_adx ad n H.size) (n + 25)) n 25 H.size := q_ar_ext
  have heq : ∀ r, r < n → ad r = q_adx ad n H.size r := fun r hr => q_adx_lt hr
  rw [heq 0 (by omega), heq 75 (by omega), heq 87 (by omega)] at hl
  generalize q_adx ad n H.size = ad2 at hw' hjj har heq hl
  have C := h.C hw'
  have hx := C.1
  have hb := C.2.1
  have hts := C.2.2.2.2.1
  obtain ⟨r1, g1, h1, hf⟩ := q_ob2 hf
  obtain ⟨r2, g2, h2, hf⟩ := q_ob2 hf
  refine lv_aload_n hx hb dL_law_309 rfl (lv_at hl 1 rfl) ?_
  refine q_sarg (j := 1) (jj := 1) (jv := 1) h hw' hjj hk6 hL (by omega) (by decide) (by decide) hl (i0 := 0) (i4 := 4) rfl rfl dL_law_310 dL_law_311 dL_law_313 dL_law_314 dL_law_315 ?_
  refine q_endWz hjj (q_runV C hjj cw_L_24 (r := 0) (As := [.int (q_sx xs k 1)]) (rest := []) (c_X10_college l _ h1).1 (c_X10_college l (q_En D cy sa sv ad2 (n + 25)) h1).2 rfl hl rfl rfl rfl dL_law_316 (q_rc hk6 hL)) (fun H1 locs1 hj1 hz1 => ?_)
  refine lv_aload_n hx hb dL_law_319 rfl (lv_at hl 2 rfl) ?_
  refine q_sarg (j := 1) (jj := 1) (jv := 1) h hw' hj1 hk6 hL (by omega) (by decide) (by decide) hl (i0 := 0) (i4 := 4) rfl rfl dL_law_320 dL_law_321 dL_law_323 dL_law_324 dL_law_325 ?_
  obtain ⟨w1, w2, w3, w4, w5, w6, w7, T9, N9, w8⟩ := cw_L_27
  obtain ⟨hM, fs, hg⟩ := c_X12_college l (q_En D cy sa sv ad2 (n + 25)) h2
  refine q_endC hj1 (va_runV (cc := cL_law) (nL := 7) (Ts := q_GW) (C := yX12_college.cls) (As := [.int (q_sx xs k 1)]) (rest := [.int r1]) ⟨C.1, C.2.1, C.2.2.1, C.2.2.2.1, hts⟩ hM ⟨q_cbA C w1 w4 w5 w6 w7 rfl, hts _ w2, hts _ w3⟩ ⟨q_blindA, q_recv C hj1 w8 hg, (q_preA C hj1 (by rw [hz1]; exact har)).2⟩ rfl rfl hl.1 rfl (lv_room (Nat.le_of_ble_eq_true rfl)) dL_law_326 ⟨by show 100 + 25 * k + 25 ≤ 601024; omega, by show 13000 + 269 * k + 269 ≤ 7293034; omega⟩) (fun H2 locs2 hj2 => ?_)
  refine q_iceq C (tgt := 1615) dL_law_329 (by decide) hf (fun hf => ?_) (fun hf => by cases hf)
  cases hf
  refine q_LC.forget hw' hj2 (kk ad2 H2 heq ⟨fun r q h1 h2 => hw'.1 r q (by omega) (by omega), fun r h1 => hw'.2 r (by omega)⟩ ?_)
  exact q_LC.J ⟨fun r q h1 h2 => hw'.1 r q (by omega) (by omega), fun r h1 => hw'.2 r (by omega)⟩ (q_hw_move hj2.1 hd' (Nat.le_refl _) (fun _ _ => rfl)) (q_LC.S hw' hj2)
set_option maxHeartbeats 2000000 in
theorem lawc_42 (h : q_LC l p s m meth c b L xs D cy sa sv) (hw : q_WF s ad n) (hj : q_J (q_En D cy sa sv ad n) s g H []) (hk6 : 6 * k + 6 ≤ L) (hL : L ≤ 3072) {g' : qS} (hf : lop_42 g (q_sx xs k 1) = some g') (hl : lv_has ls 7 [(0, .ref b), (1, .ref (ad 0)), (2, .ref (ad 75)), (3, .ref (ad 87)), (4, .int (nI (6 * k)))])
    (kk : ∀ ls H1, lv_has ls 7 [(0, .ref b), (1, .ref (ad 0)), (2, .ref (ad 75)), (3, .ref (ad 87)), (4, .int (nI (6 * k)))] → q_J (q_En D cy sa sv ad n) s g' H1 [] → W p l e room_1 s m #[Value.ref b] below meth c H1 [] (q_ck k + 1) (q_sk k + 6) Q (F0 m 1615 ls [])) : W p l e room_1 s m #[Value.ref b] below meth c H [] (q_ck k) (q_sk k) Q (F0 m 1521 ls []) := by
  have C := h.C hw
  have hx := C.1
  have hb := C.2.1
  have hts := C.2.2.2.2.1
  have hcs : q_ck k + 1 ≤ room_1.cells ∧ q_sk k + 6 ≤ room_1.slots := ⟨by show 100 + 25 * k + 1 ≤ 601024; omega, by show 13000 + 269 * k + 6 ≤ 7293034; omega⟩
  obtain ⟨r1, g1, h1, hf⟩ := q_ob2 hf
  have hX := q_EX_of h.2.2.1 hw
  refine lv_aload_n hx hb dL_law_1521 rfl (lv_at hl 1 rfl) ?_
  refine q_sarg (j := 1) (jj := 1) (jv := 1) h hw hj hk6 hL (by omega) (by decide) (by decide) hl (i0 := 0) (i4 := 4) rfl rfl dL_law_1522 dL_law_1523 dL_law_1525 dL_law_1526 dL_law_1527 ?_
  refine lv_aload_n hx hb dL_law_1528 rfl (lv_at hl 3 rfl) ?_
  refine q_endC hj (vx_runSW (bytes := cL_led) (cc := cL_law) (maxL := 4) (nL := 7) (n := 3) (ret := some .int) (hh := [(0, 9, 12, 13)]) (Ts := q_GW) (own := RL) (As := [.ref (ad 0), .int (q_sx xs k 1), .ref (ad 87)]) (rest := []) ⟨C.1, C.2.1, C.2.2.1, C.2.2.2.1, hts⟩ (c_L_led l h.2.2.2 (q_En D cy sa sv ad n) h1) ⟨⟨rfl, rfl, Nat.le_of_ble_eq_true rfl, Nat.le_of_ble_eq_true rfl, fun w hw => ?_, List.mem_cons_self⟩, hts _ (q_g5 (i := 198) rfl rfl), hts _ (q_g1 (i := 0) rfl rfl), by decide, fun sig hs => ?_, hts _ (q_g5 (i := 196) rfl rfl), hts _ (q_g5 (i := 197) rfl rfl)⟩ ⟨q_blindL, fun U hU hW => ⟨rfl, by rw [hU]; exact (C.2.2.2.2.2.2.2.kept hj.2.2.1).warm hW, by rw [hU]; exact hj.1, by rw [hU]; exact (hX.kept hj.2.2.1).warm hW⟩⟩ rfl rfl hl.1 rfl (lv_room (Nat.le_of_ble_eq_true rfl)) dL_law_1529 hcs) (fun H1 locs1 hj1 => ?_)
  · rcases List.mem_cons.mp hw with rfl | h9
    · exact q_pay hts (q_g5 (i := 198) rfl rfl)
    · exact q_pay hts h9
  · have h5 : (parseMethodDescriptor yL_led.desc).map (fun d => d.parameters.length) = some 3 := by decide +kernel
    rw [hs] at h5
    exact (Option.some.inj h5).symm
  refine lv_istore (lv' := [(5, .int r1), (0, .ref b), (1, .ref (ad 0)), (2, .ref (ad 75)), (3, .ref (ad 87)), (4, .int (nI (6 * k)))]) hx hb dL_law_1532 hl (by decide) rfl (fun ls hl => ?_)
  refine lv_aload_n hx hb dL_law_1534 rfl (lv_at hl 3 rfl) ?_
  refine q_sarg (j := 1) (jj := 1) (jv := 1) h hw hj1 hk6 hL (by omega) (by decide) (by decide) hl (i0 := 1) (i4 := 5) rfl rfl dL_law_1535 dL_law_1536 dL_law_1538 dL_law_1539 dL_law_1540 ?_
  refine q_cVWI C hj1 cw_L_202 (r := 75) (As := [.int (q_sx xs k 1)]) (rest := []) hf (fun v9 g9 h9 => c_X12_led l _ h9) rfl hl rfl rfl rfl dL_law_1541 hcs (fun r2 g2 H2 locs2 hj hf => ?_)
  refine lv_istore (lv' := [(6, .int r2), (5, .int r1), (0, .ref b), (1, .ref (ad 0)), (2, .ref (ad 75)), (3, .ref (ad 87)), (4, .int (nI (6 * k)))]) hx hb dL_law_1544 hl (by decide) rfl (fun ls hl => ?_)
  refine lv_aload_n hx hb dL_law_1546 rfl (lv_at hl 4 rfl) ?_
  refine q_cVRI C hj cw_L_203 (r := 75) (As := []) (rest := []) hf (fun v9 h9 => c_X12_thrown l _ h9) rfl hl rfl rfl rfl dL_law_1547 hcs (fun r3 hf => ?_)
  refine lv_iload hx hb dL_law_1550 (lv_at hl 1 rfl) ?_
  refine q_iceq C (tgt := 1557) dL_law_1552 (by decide) hf (fun hf => ?_) (fun hf => by cases hf)
  have hend : ∀ (g3 : qS), some g3 = some g' → q_J (q_En D cy sa sv ad n) s g3 H2 locs2 → W p l e room_1 s m #[Value.ref b] below meth c H2 locs2 (q_ck k + 1) (q_sk k + 6) Q (F0 m 1574 ls []) := by
    intro g3 hf hj
    cases hf
    refine lv_goto (tgt := 1615) hx hb dL_law_1574 (by decide) ?_
    exact q_LC.forget hw hj (kk ls _ (lv_sub hl [2, 3, 4, 5, 6] rfl) (q_LC.J hw hj.1 (q_LC.S hw hj)))
  refine lv_iload hx hb dL_law_1557 (lv_at hl 1 rfl) ?_
  refine q_ifne C (tgt := 1574) dL_law_1559 (by decide) hf (fun hf => ?_) (fun hf => ?_)
  · exact hend _ hf hj
  · refine lv_aload_n hx hb dL_law_1562 rfl (lv_at hl 5 rfl) ?_
    refine lv_iconst (v := 0) hx hb dL_law_1563 qi_0 ?_
    refine q_aldL C hj dL_law_1564 (r := 87) hf (fun v hf => ?_)
    refine lv_iload hx hb dL_law_1565 (lv_at hl 0 rfl) ?_
    refine lv_i2l hx hb dL_law_1567 rfl ?_
    refine q_lceq C (tgt := 1574) dL_law_1568 dL_law_1569 (by decide) hf (fun hf => ?_) (fun hf => by cases hf)
    exact hend _ hf hj
end QLY
