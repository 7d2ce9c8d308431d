section QLX
variable {l : Launch} {p : Program} {e : Env} {s : State} {m : MethodId} {below : List Frame} {meth : Method} {c : Code} {b L : Nat} {xs : Nat → Int32} {D : va_G} {cy : Nat → ClassId} {sa sv ad : Nat → Nat} {n : Nat} {g : qS} {H : Heap} {Q : State → Prop} {ls : Array Slot} {k : Nat}
theorem lawc_0 (h : q_LC l p s m meth c b L xs D cy sa sv) (hw : q_WF s ad n) (hj : q_J (q_En D cy sa sv ad n) s g H []) (hk6 : 6 * k + 6 ≤ L) (hL : L ≤ 3072) {g' : qS} (hf : lop_0 g (q_sx xs k 1) (q_sx xs k 2) (q_sx xs k 3) (q_sx xs k 4) (q_sx xs k 5) = some g') (hl : lv_has ls 7 [(0, .ref b), (1, .ref (ad 0)), (2, .ref (ad 75)), (3, .ref (ad 87)), (4, .int (nI (6 * k)))])
    (kk : ∀ H1, q_J (q_En D cy sa sv ad n) s g' H1 [] → W p l e room_1 s m #[Value.ref b] below meth c H1 [] (q_ck k) (q_sk k) Q (F0 m 1615 ls [])) : W p l e room_1 s m #[Value.ref b] below meth c H [] (q_ck k) (q_sk k) Q (F0 m 236 ls []) := by
  have C := h.C hw
  have hx := C.1
  have hb := C.2.1
  unfold lop_0 at hf
  refine lv_aload_n hx hb dL_law_236 rfl (lv_at hl 1 rfl) ?_
  refine q_sarg (j := 1) (jj := 1) (jv := 1) h hw hj hk6 hL (by omega) (by decide) (by decide) hl (i0 := 0) (i4 := 4) rfl rfl dL_law_237 dL_law_238 dL_law_240 dL_law_241 dL_law_242 ?_
  refine q_sarg (j := 2) (jj := 2) (jv := 2) h hw hj hk6 hL (by omega) (by decide) (by decide) hl (i0 := 0) (i4 := 4) rfl rfl dL_law_243 dL_law_244 dL_law_246 dL_law_247 dL_law_248 ?_
  refine q_sarg (j := 3) (jj := 3) (jv := 3) h hw hj hk6 hL (by omega) (by decide) (by decide) hl (i0 := 0) (i4 := 4) rfl rfl dL_law_249 dL_law_250 dL_law_252 dL_law_253 dL_law_254 ?_
  refine q_sarg (j := 4) (jj := 4) (jv := 4) h hw hj hk6 hL (by omega) (by decide) (by decide) hl (i0 := 0) (i4 := 4) rfl rfl dL_law_255 dL_law_256 dL_law_258 dL_law_259 dL_law_260 ?_
  refine q_sarg (j := 5) (jj := 5) (jv := 5) h hw hj hk6 hL (by omega) (by decide) (by decide) hl (i0 := 0) (i4 := 4) rfl rfl dL_law_261 dL_law_262 dL_law_264 dL_law_265 dL_law_266 ?_
  refine q_cVWI C hj cw_L_19 (r := 0) (As := [.int (q_sx xs k 1), .int (q_sx xs k 2), .int (q_sx xs k 3), .int (q_sx xs k 4), .int (q_sx xs k 5)]) (rest := []) hf (fun v9 g9 h9 => c_X10_feed l _ h9) rfl hl rfl rfl rfl dL_law_267 (q_rc hk6 hL) (fun r1 g H locs hj hf => ?_)
  refine lv_aload_n hx hb dL_law_270 rfl (lv_at hl 2 rfl) ?_
  refine q_sarg (j := 1) (jj := 1) (jv := 1) h hw hj hk6 hL (by omega) (by decide) (by decide) hl (i0 := 0) (i4 := 4) rfl rfl dL_law_271 dL_law_272 dL_law_274 dL_law_275 dL_law_276 ?_
  refine q_sarg (j := 2) (jj := 2) (jv := 2) h hw hj hk6 hL (by omega) (by decide) (by decide) hl (i0 := 0) (i4 := 4) rfl rfl dL_law_277 dL_law_278 dL_law_280 dL_law_281 dL_law_282 ?_
  refine q_sarg (j := 3) (jj := 3) (jv := 3) h hw hj hk6 hL (by omega) (by decide) (by decide) hl (i0 := 0) (i4 := 4) rfl rfl dL_law_283 dL_law_284 dL_law_286 dL_law_287 dL_law_288 ?_
  refine q_sarg (j := 4) (jj := 4) (jv := 4) h hw hj hk6 hL (by omega) (by decide) (by decide) hl (i0 := 0) (i4 := 4) rfl rfl dL_law_289 dL_law_290 dL_law_292 dL_law_293 dL_law_294 ?_
  refine q_sarg (j := 5) (jj := 5) (jv := 5) h hw hj hk6 hL (by omega) (by decide) (by decide) hl (i0 := 0) (i4 := 4) rfl rfl dL_law_295 dL_law_296 dL_law_298 dL_law_299 dL_law_300 ?_
  refine q_cVWI C hj cw_L_23 (r := 75) (As := [.int (q_sx xs k 1), .int (q_sx xs k 2), .int (q_sx xs k 3), .int (q_sx xs k 4), .int (q_sx xs k 5)]) (rest := [.int r1]) hf (fun v9 g9 h9 => c_X12_feed l _ h9) rfl hl rfl rfl rfl dL_law_301 (q_rc hk6 hL) (fun r2 g H locs hj hf => ?_)
  refine q_iceq C (tgt := 1615) dL_law_304 (by decide) hf (fun hf => ?_) (fun hf => by cases hf)
  cases hf
  exact q_LC.forget hw hj (kk _ (q_LC.J hw hj.1 (q_LC.S hw hj)))
theorem lawc_2 (h : q_LC l p s m meth c b L xs D cy sa sv) (hw : q_WF s ad n) (hj : q_J (q_En D cy sa sv ad n) s g H []) (hk6 : 6 * k + 6 ≤ L) (hL : L ≤ 3072) {g' : qS} (hf : lop_2 g  = some g') (hl : lv_has ls 7 [(0, .ref b), (1, .ref (ad 0)), (2, .ref (ad 75)), (3, .ref (ad 87)), (4, .int (nI (6 * k)))])
    (kk : ∀ H1, q_J (q_En D cy sa sv ad n) s g' H1 [] → W p l e room_1 s m #[Value.ref b] below meth c H1 [] (q_ck k) (q_sk k) Q (F0 m 1615 ls [])) : W p l e room_1 s m #[Value.ref b] below meth c H [] (q_ck k) (q_sk k) Q (F0 m 334 ls []) := by
  have C := h.C hw
  have hx := C.1
  have hb := C.2.1
  unfold lop_2 at hf
  refine lv_aload_n hx hb dL_law_334 rfl (lv_at hl 1 rfl) ?_
  refine q_cVRI C hj cw_L_28 (r := 0) (As := []) (rest := []) hf (fun v9 h9 => c_X10_fault l _ h9) rfl hl rfl rfl rfl dL_law_335 (q_rc hk6 hL) (fun r1 hf => ?_)
  refine lv_aload_n hx hb dL_law_338 rfl (lv_at hl 2 rfl) ?_
  refine q_cVWI C hj cw_L_32 (r := 75) (As := []) (rest := [.int r1]) hf (fun v9 g9 h9 => c_X12_fault l _ h9) rfl hl rfl rfl rfl dL_law_339 (q_rc hk6 hL) (fun r2 g H locs hj hf => ?_)
  refine q_iceq C (tgt := 1615) dL_law_342 (by decide) hf (fun hf => ?_) (fun hf => by cases hf)
  cases hf
  exact q_LC.forget hw hj (kk _ (q_LC.J hw hj.1 (q_LC.S hw hj)))
theorem lawc_3 (h : q_LC l p s m meth c b L xs D cy sa sv) (hw : q_WF s ad n) (hj : q_J (q_En D cy sa sv ad n) s g H []) (hk6 : 6 * k + 6 ≤ L) (hL : L ≤ 3072) {g' : qS} (hf : lop_3 g  = some g') (hl : lv_has ls 7 [(0, .ref b), (1, .ref (ad 0)), (2, .ref (ad 75)), (3, .ref (ad 87)), (4, .int (nI (6 * k)))])
    (kk : ∀ H1, q_J (q_En D cy sa sv ad n) s g' H1 [] → W p l e room_1 s m #[Value.ref b] below meth c H1 [] (q_ck k) (q_sk k) Q (F0 m 1615 ls [])) : W p l e room_1 s m #[Value.ref b] below meth c H [] (q_ck k) (q_sk k) Q (F0 m 347 ls []) := by
  have C := h.C hw
  have hx := C.1
  have hb := C.2.1
  unfold lop_3 at hf
  refine lv_aload_n hx hb dL_law_347 rfl (lv_at hl 1 rfl) ?_
  refine q_cVRI C hj cw_L_33 (r := 0) (As := []) (rest := []) hf (fun v9 h9 => c_X10_where l _ h9) rfl hl rfl rfl rfl dL_law_348 (q_rc hk6 hL) (fun r1 hf => ?_)
  refine lv_aload_n hx hb dL_law_351 rfl (lv_at hl 2 rfl) ?_
  refine q_cVWI C hj cw_L_36 (r := 75) (As := []) (rest := [.int r1]) hf (fun v9 g9 h9 => c_X12_where l _ h9) rfl hl rfl rfl rfl dL_law_352 (q_rc hk6 hL) (fun r2 g H locs hj hf => ?_)
  refine q_iceq C (tgt := 1615) dL_law_355 (by decide) hf (fun hf => ?_) (fun hf => by cases hf)
  cases hf
  exact q_LC.forget hw hj (kk _ (q_LC.J hw hj.1 (q_LC.S hw hj)))
theorem lawc_4 (h : q_LC l p s m meth c b L xs D cy sa sv) (hw : q_WF s ad n) (hj : q_J (q_En D cy sa sv ad n) s g H []) (hk6 : 6 * k + 6 ≤ L) (hL : L ≤ 3072) {g' : qS} (hf : lop_4 g (q_sx xs k 1) (q_sx xs k 2) = some g') (hl : lv_has ls 7 [(0, .ref b), (1, .ref (ad 0)), (2, .ref (ad 75)), (3, .ref (ad 87)), (4, .int (nI (6 * k)))])
    (kk : ∀ H1, q_J (q_En D cy sa sv ad n) s g' H1 [] → W p l e room_1 s m #[Value.ref b] below meth c H1 [] (q_ck k) (q_sk k) Q (F0 m 1615 ls [])) : W p l e room_1 s m #[Value.ref b] below meth c H [] (q_ck k) (q_sk k) Q (F0 m 360 ls []) := by
  have C := h.C hw
  have hx := C.1
  have hb := C.2.1
  unfold lop_4 at hf
  refine lv_aload_n hx hb dL_law_360 rfl (lv_at hl 1 rfl) ?_
  refine q_sarg (j := 1) (jj := 1) (jv := 1) h hw hj hk6 hL (by omega) (by decide) (by decide) hl (i0 := 0) (i4 := 4) rfl rfl dL_law_361 dL_law_362 dL_law_364 dL_law_365 dL_law_366 ?_
  refine q_sarg (j := 2) (jj := 2) (jv := 2) h hw hj hk6 hL (by omega) (by decide) (by decide) hl (i0 := 0) (i4 := 4) rfl rfl dL_law_367 dL_law_368 dL_law_370 dL_law_371 dL_law_372 ?_
  refine q_cVWI C hj cw_L_37 (r := 0) (As := [.int (q_sx xs k 1), .int (q_sx xs k 2)]) (rest := []) hf (fun v9 g9 h9 => c_X10_thing l _ h9) rfl hl rfl rfl rfl dL_law_373 (q_rc hk6 hL) (fun r1 g H locs hj hf => ?_)
  refine lv_aload_n hx hb dL_law_376 rfl (lv_at hl 2 rfl) ?_
  refine q_sarg (j := 1) (jj := 1) (jv := 1) h hw hj hk6 hL (by omega) (by decide) (by decide) hl (i0 := 0) (i4 := 4) rfl rfl dL_law_377 dL_law_378 dL_law_380 dL_law_381 dL_law_382 ?_
  refine q_sarg (j := 2) (jj := 2) (jv := 2) h hw hj hk6 hL (by omega) (by decide) (by decide) hl (i0 := 0) (i4 := 4) rfl rfl dL_law_383 dL_law_384 dL_law_386 dL_law_387 dL_law_388 ?_
  refine q_cVWI C hj cw_L_41 (r := 75) (As := [.int (q_sx xs k 1), .int (q_sx xs k 2)]) (rest := [.int r1]) hf (fun v9 g9 h9 => c_X12_thing l _ h9) rfl hl rfl rfl rfl dL_law_389 (q_rc hk6 hL) (fun r2 g H locs hj hf => ?_)
  refine q_iceq C (tgt := 1615) dL_law_392 (by decide) hf (fun hf => ?_) (fun hf => by cases hf)
  cases hf
  exact q_LC.forget hw hj (kk _ (q_LC.J hw hj.1 (q_LC.S hw hj)))
theorem lawc_5 (h : q_LC l p s m meth c b L xs D cy sa sv) (hw : q_WF s ad n) (hj : q_J (q_En D cy sa sv ad n) s g H []) (hk6 : 6 * k + 6 ≤ L) (hL : L ≤ 3072) {g' : qS} (hf : lop_5 g (q_sx xs k 1) (q_sx xs k 2) = some g') (hl : lv_has ls 7 [(0, .ref b), (1, .ref (ad 0)), (2, .ref (ad 75)), (3, .ref (ad 87)), (4, .int (nI (6 * k)))])
    (kk : ∀ H1, q_J (q_En D cy sa sv ad n) s g' H1 [] → W p l e room_1 s m #[Value.ref b] below meth c H1 [] (q_ck k) (q_sk k) Q (F0 m 1615 ls [])) : W p l e room_1 s m #[Value.ref b] below meth c H [] (q_ck k) (q_sk k) Q (F0 m 397 ls []) := by
  have C := h.C hw
  have hx := C.1
  have hb := C.2.1
  unfold lop_5 at hf
  refine lv_aload_n hx hb dL_law_397 rfl (lv_at hl 1 rfl) ?_
  refine q_sarg (j := 1) (jj := 1) (jv := 1) h hw hj hk6 hL (by omega) (by decide) (by decide) hl (i0 := 0) (i4 := 4) rfl rfl dL_law_398 dL_law_399 dL_law_401 dL_law_402 dL_law_403 ?_
  refine q_sarg (j := 2) (jj := 2) (jv := 2) h hw hj hk6 hL (by omega) (by decide) (by decide) hl (i0 := 0) (i4 := 4) rfl rfl dL_law_404 dL_law_405 dL_law_407 dL_law_408 dL_law_409 ?_
  refine q_cVWI C hj cw_L_42 (r := 0) (As := [.int (q_sx xs k 1), .int (q_sx xs k 2)]) (rest := []) hf (fun v9 g9 h9 => c_X10_person l _ h9) rfl hl rfl rfl rfl dL_law_410 (q_rc hk6 hL) (fun r1 g H locs hj hf => ?_)
  refine lv_aload_n hx hb dL_law_413 rfl (lv_at hl 2 rfl) ?_
  refine q_sarg (j := 1) (jj := 1) (jv := 1) h hw hj hk6 hL (by omega) (by decide) (by decide) hl (i0 := 0) (i4 := 4) rfl rfl dL_law_414 dL_law_415 dL_law_417 dL_law_418 dL_law_419 ?_
  refine q_sarg (j := 2) (jj := 2) (jv := 2) h hw hj hk6 hL (by omega) (by decide) (by decide) hl (i0 := 0) (i4 := 4) rfl rfl dL_law_420 dL_law_421 dL_law_423 dL_law_424 dL_law_425 ?_
  refine q_cVWI C hj cw_L_45 (r := 75) (As := [.int (q_sx xs k 1), .int (q_sx xs k 2)]) (rest := [.int r1]) hf (fun v9 g9 h9 => c_X12_person l _ h9) rfl hl rfl rfl rfl dL_law_426 (q_rc hk6 hL) (fun r2 g H locs hj hf => ?_)
  refine q_iceq C (tgt := 1615) dL_law_429 (by decide) hf (fun hf => ?_) (fun hf => by cases hf)
  cases hf
  exact q_LC.forget hw hj (kk _ (q_LC.J hw hj.1 (q_LC.S hw hj)))
theorem lawc_6 (h : q_LC l p s m meth c b L xs D cy sa sv) (hw : q_WF s ad n) (hj : q_J (q_En D cy sa sv ad n) s g H []) (hk6 : 6 * k + 6 ≤ L) (hL : L ≤ 3072) {g' : qS} (hf : lop_6 g (q_sx xs k 1) (q_sx xs k 2) = some g') (hl : lv_has ls 7 [(0, .ref b), (1, .ref (ad 0)), (2, .ref (ad 75)), (3, .ref (ad 87)), (4, .int (nI (6 * k)))])
    (kk : ∀ H1, q_J (q_En D cy sa sv ad n) s g' H1 [] → W p l e room_1 s m #[Value.ref b] below meth c H1 [] (q_ck k) (q_sk k) Q (F0 m 1615 ls [])) : W p l e room_1 s m #[Value.ref b] below meth c H [] (q_ck k) (q_sk k) Q (F0 m 434 ls []) := by
  have C := h.C hw
  have hx := C.1
  have hb := C.2.1
  unfold lop_6 at hf
  refine lv_aload_n hx hb dL_law_434 rfl (lv_at hl 1 rfl) ?_
  refine q_sarg (j := 1) (jj := 1) (jv := 1) h hw hj hk6 hL (by omega) (by decide) (by decide) hl (i0 := 0) (i4 := 4) rfl rfl dL_law_435 dL_law_436 dL_law_438 dL_law_439 dL_law_440 ?_
  refine q_sarg (j := 2) (jj := 2) (jv := 2) h hw hj hk6 hL (by omega) (by decide) (by decide) hl (i0 := 0) (i4 := 4) rfl rfl dL_law_441 dL_law_442 dL_law_444 dL_law_445 dL_law_446 ?_
  refine q_cVWI C hj cw_L_46 (r := 0) (As := [.int (q_sx xs k 1), .int (q_sx xs k 2)]) (rest := []) hf (fun v9 g9 h9 => c_X10_giver l _ h9) rfl hl rfl rfl rfl dL_law_447 (q_rc hk6 hL) (fun r1 g H locs hj hf => ?_)
  refine lv_aload_n hx hb dL_law_450 rfl (lv_at hl 2 rfl) ?_
  refine q_sarg (j := 1) (jj := 1) (jv := 1) h hw hj hk6 hL (by omega) (by decide) (by decide) hl (i0 := 0) (i4 := 4) rfl rfl dL_law_451 dL_law_452 dL_law_454 dL_law_455 dL_law_456 ?_
  refine q_sarg (j := 2) (jj := 2) (jv := 2) h hw hj hk6 hL (by omega) (by decide) (by decide) hl (i0 := 0) (i4 := 4) rfl rfl dL_law_457 dL_law_458 dL_law_460 dL_law_461 dL_law_462 ?_
  refine q_cVWI C hj cw_L_49 (r := 75) (As := [.int (q_sx xs k 1), .int (q_sx xs k 2)]) (rest := [.int r1]) hf (fun v9 g9 h9 => c_X12_giver l _ h9) rfl hl rfl rfl rfl dL_law_463 (q_rc hk6 hL) (fun r2 g H locs hj hf => ?_)
  refine q_iceq C (tgt := 1615) dL_law_466 (by decide) hf (fun hf => ?_) (fun hf => by cases hf)
  cases hf
  exact q_LC.forget hw hj (kk _ (q_LC.J hw hj.1 (q_LC.S hw hj)))
theorem lawc_7 (h : q_LC l p s m meth c b L xs D cy sa sv) (hw : q_WF s ad n) (hj : q_J (q_En D cy sa sv ad n) s g H []) (hk6 : 6 * k + 6 ≤ L) (hL : L ≤ 3072) {g' : qS} (hf : lop_7 g (q_sx xs k 1) (q_sx xs k 2) = some g') (hl : lv_has ls 7 [(0, .ref b), (1, .ref (ad 0)), (2, .ref (ad 75)), (3, .ref (ad 87)), (4, .int (nI (6 * k)))])
    (kk : ∀ H1, q_J (q_En D cy sa sv ad n) s g' H1 [] → W p l e room_1 s m #[Value.ref b] below meth c H1 [] (q_ck k) (q_sk k) Q (F0 m 1615 ls [])) : W p l e room_1 s m #[Value.ref b] below meth c H [] (q_ck k) (q_sk k) Q (F0 m 471 ls []) := by
  have C := h.C hw
  have hx := C.1
  have hb := C.2.1
  unfold lop_7 at hf
  refine lv_aload_n hx hb dL_law_471 rfl (lv_at hl 1 rfl) ?_
  refine q_sarg (j := 1) (jj := 1) (jv := 1) h hw hj hk6 hL (by omega) (by decide) (by decide) hl (i0 := 0) (i4 := 4) rfl rfl dL_law_472 dL_law_473 dL_law_475 dL_law_476 dL_law_477 ?_
  refine q_sarg (j := 2) (jj := 2) (jv := 2) h hw hj hk6 hL (by omega) (by decide) (by decide) hl (i0 := 0) (i4 := 4) rfl rfl dL_law_478 dL_law_479 dL_law_481 dL_law_482 dL_law_483 ?_
  refine q_cVWI C hj cw_L_50 (r := 0) (As := [.int (q_sx xs k 1), .int (q_sx xs k 2)]) (rest := []) hf (fun v9 g9 h9 => c_X10_rides l _ h9) rfl hl rfl rfl rfl dL_law_484 (q_rc hk6 hL) (fun r1 g H locs hj hf => ?_)
  refine lv_aload_n hx hb dL_law_487 rfl (lv_at hl 2 rfl) ?_
  refine q_sarg (j := 1) (jj := 1) (jv := 1) h hw hj hk6 hL (by omega) (by decide) (by decide) hl (i0 := 0) (i4 := 4) rfl rfl dL_law_488 dL_law_489 dL_law_491 dL_law_492 dL_law_493 ?_
  refine q_sarg (j := 2) (jj := 2) (jv := 2) h hw hj hk6 hL (by omega) (by decide) (by decide) hl (i0 := 0) (i4 := 4) rfl rfl dL_law_494 dL_law_495 dL_law_497 dL_law_498 dL_law_499 ?_
  refine q_cVWI C hj cw_L_53 (r := 75) (As := [.int (q_sx xs k 1), .int (q_sx xs k 2)]) (rest := [.int r1]) hf (fun v9 g9 h9 => c_X12_rides l _ h9) rfl hl rfl rfl rfl dL_law_500 (q_rc hk6 hL) (fun r2 g H locs hj hf => ?_)
  refine q_iceq C (tgt := 1615) dL_law_503 (by decide) hf (fun hf => ?_) (fun hf => by cases hf)
  cases hf
  exact q_LC.forget hw hj (kk _ (q_LC.J hw hj.1 (q_LC.S hw hj)))
theorem lawc_8 (h : q_LC l p s m meth c b L xs D cy sa sv) (hw : q_WF s ad n) (hj : q_J (q_En D cy sa sv ad n) s g H []) (hk6 : 6 * k + 6 ≤ L) (hL : L ≤ 3072) {g' : qS} (hf : lop_8 g (q_sx xs k 1) (q_sx xs k 2) = some g') (hl : lv_has ls 7 [(0, .ref b), (1, .ref (ad 0)), (2, .ref (ad 75)), (3, .ref (ad 87)), (4, .int (nI (6 * k)))])
    (kk : ∀ H1, q_J (q_En D cy sa sv ad n) s g' H1 [] → W p l e room_1 s m #[Value.ref b] below meth c H1 [] (q_ck k) (q_sk k) Q (F0 m 1615 ls [])) : W p l e room_1 s m #[Value.ref b] below meth c H [] (q_ck k) (q_sk k) Q (F0 m 508 ls []) := by
  have C := h.C hw
  have hx := C.1
  have hb := C.2.1
  unfold lop_8 at hf
  refine lv_aload_n hx hb dL_law_508 rfl (lv_at hl 1 rfl) ?_
  refine q_sarg (j := 1) (jj := 1) (jv := 1) h hw hj hk6 hL (by omega) (by decide) (by decide) hl (i0 := 0) (i4 := 4) rfl rfl dL_law_509 dL_law_510 dL_law_512 dL_law_513 dL_law_514 ?_
  refine q_sarg (j := 2) (jj := 2) (jv := 2) h hw hj hk6 hL (by omega) (by decide) (by decide) hl (i0 := 0) (i4 := 4) rfl rfl dL_law_515 dL_law_516 dL_law_518 dL_law_519 dL_law_520 ?_
  refine q_cVWI C hj cw_L_54 (r := 0) (As := [.int (q_sx xs k 1), .int (q_sx xs k 2)]) (rest := []) hf (fun v9 g9 h9 => c_X10_takes l _ h9) rfl hl rfl rfl rfl dL_law_521 (q_rc hk6 hL) (fun r1 g H locs hj hf => ?_)
  refine lv_aload_n hx hb dL_law_524 rfl (lv_at hl 2 rfl) ?_
  refine q_sarg (j := 1) (jj := 1) (jv := 1) h hw hj hk6 hL (by omega) (by decide) (by decide) hl (i0 := 0) (i4 := 4) rfl rfl dL_law_525 dL_law_526 dL_law_528 dL_law_529 dL_law_530 ?_
  refine q_sarg (j := 2) (jj := 2) (jv := 2) h hw hj hk6 hL (by omega) (by decide) (by decide) hl (i0 := 0) (i4 := 4) rfl rfl dL_law_531 dL_law_532 dL_law_534 dL_law_535 dL_law_536 ?_
  refine q_cVWI C hj cw_L_57 (r := 75) (As := [.int (q_sx xs k 1), .int (q_sx xs k 2)]) (rest := [.int r1]) hf (fun v9 g9 h9 => c_X12_takes l _ h9) rfl hl rfl rfl rfl dL_law_537 (q_rc hk6 hL) (fun r2 g H locs hj hf => ?_)
  refine q_iceq C (tgt := 1615) dL_law_540 (by decide) hf (fun hf => ?_) (fun hf => by cases hf)
  cases hf
  exact q_LC.forget hw hj (kk _ (q_LC.J hw hj.1 (q_LC.S hw hj)))
theorem lawc_9 (h : q_LC l p s m meth c b L xs D cy sa sv) (hw : q_WF s ad n) (hj : q_J (q_En D cy sa sv ad n) s g H []) (hk6 : 6 * k + 6 ≤ L) (hL : L ≤ 3072) {g' : qS} (hf : lop_9 g (q_sx xs k 1) (q_sx xs k 2) = some g') (hl : lv_has ls 7 [(0, .ref b), (1, .ref (ad 0)), (2, .ref (ad 75)), (3, .ref (ad 87)), (4, .int (nI (6 * k)))])
    (kk : ∀ H1, q_J (q_En D cy sa sv ad n) s g' H1 [] → W p l e room_1 s m #[Value.ref b] below meth c H1 [] (q_ck k) (q_sk k) Q (F0 m 1615 ls [])) : W p l e room_1 s m #[Value.ref b] below meth c H [] (q_ck k) (q_sk k) Q (F0 m 545 ls []) := by
  have C := h.C hw
  have hx := C.1
  have hb := C.2.1
  unfold lop_9 at hf
  refine lv_aload_n hx hb dL_law_545 rfl (lv_at hl 1 rfl) ?_
  refine q_sarg (j := 1) (jj := 1) (jv := 1) h hw hj hk6 hL (by omega) (by decide) (by decide) hl (i0 := 0) (i4 := 4) rfl rfl dL_law_546 dL_law_547 dL_law_549 dL_law_550 dL_law_551 ?_
  refine q_sarg (j := 2) (jj := 2) (jv := 2) h hw hj hk6 hL (by omega) (by decide) (by decide) hl (i0 := 0) (i4 := 4) rfl rfl dL_law_552 dL_law_553 dL_law_555 dL_law_556 dL_law_557 ?_
  refine q_cVWI C hj cw_L_58 (r := 0) (As := [.int (q_sx xs k 1), .int (q_sx xs k 2)]) (rest := []) hf (fun v9 g9 h9 => c_X10_meet l _ h9) rfl hl rfl rfl rfl dL_law_558 (q_rc hk6 hL) (fun r1 g H locs hj hf => ?_)
  refine lv_aload_n hx hb dL_law_561 rfl (lv_at hl 2 rfl) ?_
  refine q_sarg (j := 1) (jj := 1) (jv := 1) h hw hj hk6 hL (by omega) (by decide) (by decide) hl (i0 := 0) (i4 := 4) rfl rfl dL_law_562 dL_law_563 dL_law_565 dL_law_566 dL_law_567 ?_
  refine q_sarg (j := 2) (jj := 2) (jv := 2) h hw hj hk6 hL (by omega) (by decide) (by decide) hl (i0 := 0) (i4 := 4) rfl rfl dL_law_568 dL_law_569 dL_law_571 dL_law_572 dL_law_573 ?_
  refine q_cVWI C hj cw_L_61 (r := 75) (As := [.int (q_sx xs k 1), .int (q_sx xs k 2)]) (rest := [.int r1]) hf (fun v9 g9 h9 => c_X12_meet l _ h9) rfl hl rfl rfl rfl dL_law_574 (q_rc hk6 hL) (fun r2 g H locs hj hf => ?_)
  refine q_iceq C (tgt := 1615) dL_law_577 (by decide) hf (fun hf => ?_) (fun hf => by cases hf)
  cases hf
  exact q_LC.forget hw hj (kk _ (q_LC.J hw hj.1 (q_LC.S hw hj)))
theorem lawc_10 (h : q_LC l p s m meth c b L xs D cy sa sv) (hw : q_WF s ad n) (hj : q_J (q_En D cy sa sv ad n) s g H []) (hk6 : 6 * k + 6 ≤ L) (hL : L ≤ 3072) {g' : qS} (hf : lop_10 g (q_sx xs k 1) (q_sx xs k 2) (q_sx xs k 3) (q_sx xs k 4) = some g') (hl : lv_has ls 7 [(0, .ref b), (1, .ref (ad 0)), (2, .ref (ad 75)), (3, .ref (ad 87)), (4, .int (nI (6 * k)))])
    (kk : ∀ H1, q_J (q_En D cy sa sv ad n) s g' H1 [] → W p l e room_1 s m #[Value.ref b] below meth c H1 [] (q_ck k) (q_sk k) Q (F0 m 1615 ls [])) : W p l e room_1 s m #[Value.ref b] below meth c H [] (q_ck k) (q_sk k) Q (F0 m 582 ls []) := by
  have C := h.C hw
  have hx := C.1
  have hb := C.2.1
  unfold lop_10 at hf
  refine lv_aload_n hx hb dL_law_582 rfl (lv_at hl 1 rfl) ?_
  refine q_sarg (j := 1) (jj := 1) (jv := 1) h hw hj hk6 hL (by omega) (by decide) (by decide) hl (i0 := 0) (i4 := 4) rfl rfl dL_law_583 dL_law_584 dL_law_586 dL_law_587 dL_law_588 ?_
  refine q_sarg (j := 2) (jj := 2) (jv := 2) h hw hj hk6 hL (by omega) (by decide) (by decide) hl (i0 := 0) (i4 := 4) rfl rfl dL_law_589 dL_law_590 dL_law_592 dL_law_593 dL_law_594 ?_
  refine q_sarg (j := 3) (jj := 3) (jv := 3) h hw hj hk6 hL (by omega) (by decide) (by decide) hl (i0 := 0) (i4 := 4) rfl rfl dL_law_595 dL_law_596 dL_law_598 dL_law_599 dL_law_600 ?_
  refine q_sarg (j := 4) (jj := 4) (jv := 4) h hw hj hk6 hL (by omega) (by decide) (by decide) hl (i0 := 0) (i4 := 4) rfl rfl dL_law_601 dL_law_602 dL_law_604 dL_law_605 dL_law_606 ?_
  refine q_cVWI C hj cw_L_62 (r := 0) (As := [.int (q_sx xs k 1), .int (q_sx xs k 2), .int (q_sx xs k 3), .int (q_sx xs k 4)]) (rest := []) hf (fun v9 g9 h9 => c_X10_near l _ h9) rfl hl rfl rfl rfl dL_law_607 (q_rc hk6 hL) (fun r1 g H locs hj hf => ?_)
  refine lv_aload_n hx hb dL_law_610 rfl (lv_at hl 2 rfl) ?_
  refine q_sarg (j := 1) (jj := 1) (jv := 1) h hw hj hk6 hL (by omega) (by decide) (by decide) hl (i0 := 0) (i4 := 4) rfl rfl dL_law_611 dL_law_612 dL_law_614 dL_law_615 dL_law_616 ?_
  refine q_sarg (j := 2) (jj := 2) (jv := 2) h hw hj hk6 hL (by omega) (by decide) (by decide) hl (i0 := 0) (i4 := 4) rfl rfl dL_law_617 dL_law_618 dL_law_620 dL_law_621 dL_law_622 ?_
  refine q_sarg (j := 3) (jj := 3) (jv := 3) h hw hj hk6 hL (by omega) (by decide) (by decide) hl (i0 := 0) (i4 := 4) rfl rfl dL_law_623 dL_law_624 dL_law_626 dL_law_627 dL_law_628 ?_
  refine q_sarg (j := 4) (jj := 4) (jv := 4) h hw hj hk6 hL (by omega) (by decide) (by decide) hl (i0 := 0) (i4 := 4) rfl rfl dL_law_629 dL_law_630 dL_law_632 dL_law_633 dL_law_634 ?_
  refine q_cVWI C hj cw_L_66 (r := 75) (As := [.int (q_sx xs k 1), .int (q_sx xs k 2), .int (q_sx xs k 3), .int (q_sx xs k 4)]) (rest := [.int r1]) hf (fun v9 g9 h9 => c_X12_near l _ h9) rfl hl rfl rfl rfl dL_law_635 (q_rc hk6 hL) (fun r2 g H locs hj hf => ?_)
  refine q_iceq C (tgt := 1615) dL_law_638 (by decide) hf (fun hf => ?_) (fun hf => by cases hf)
  cases hf
  exact q_LC.forget hw hj (kk _ (q_LC.J hw hj.1 (q_LC.S hw hj)))
theorem lawc_11 (h : q_LC l p s m meth c b L xs D cy sa sv) (hw : q_WF s ad n) (hj : q_J (q_En D cy sa sv ad n) s g H []) (hk6 : 6 * k + 6 ≤ L) (hL : L ≤ 3072) {g' : qS} (hf : lop_11 g (q_sx xs k 1) (q_sx xs k 2) (q_sx xs k 3) = some g') (hl : lv_has ls 7 [(0, .ref b), (1, .ref (ad 0)), (2, .ref (ad 75)), (3, .ref (ad 87)), (4, .int (nI (6 * k)))])
    (kk : ∀ H1, q_J (q_En D cy sa sv ad n) s g' H1 [] → W p l e room_1 s m #[Value.ref b] below meth c H1 [] (q_ck k) (q_sk k) Q (F0 m 1615 ls [])) : W p l e room_1 s m #[Value.ref b] below meth c H [] (q_ck k) (q_sk k) Q (F0 m 643 ls []) := by
  have C := h.C hw
  have hx := C.1
  have hb := C.2.1
  unfold lop_11 at hf
  refine lv_aload_n hx hb dL_law_643 rfl (lv_at hl 1 rfl) ?_
  refine q_sarg (j := 1) (jj := 1) (jv := 1) h hw hj hk6 hL (by omega) (by decide) (by decide) hl (i0 := 0) (i4 := 4) rfl rfl dL_law_644 dL_law_645 dL_law_647 dL_law_648 dL_law_649 ?_
  refine q_sarg (j := 2) (jj := 2) (jv := 2) h hw hj hk6 hL (by omega) (by decide) (by decide) hl (i0 := 0) (i4 := 4) rfl rfl dL_law_650 dL_law_651 dL_law_653 dL_law_654 dL_law_655 ?_
  refine q_sarg (j := 3) (jj := 3) (jv := 3) h hw hj hk6 hL (by omega) (by decide) (by decide) hl (i0 := 0) (i4 := 4) rfl rfl dL_law_656 dL_law_657 dL_law_659 dL_law_660 dL_law_661 ?_
  refine q_cVWI C hj cw_L_67 (r := 0) (As := [.int (q_sx xs k 1), .int (q_sx xs k 2), .int (q_sx xs k 3)]) (rest := []) hf (fun v9 g9 h9 => c_X10_would l _ h9) rfl hl rfl rfl rfl dL_law_662 (q_rc hk6 hL) (fun r1 g H locs hj hf => ?_)
  refine lv_aload_n hx hb dL_law_665 rfl (lv_at hl 2 rfl) ?_
  refine q_sarg (j := 1) (jj := 1) (jv := 1) h hw hj hk6 hL (by omega) (by decide) (by decide) hl (i0 := 0) (i4 := 4) rfl rfl dL_law_666 dL_law_667 dL_law_669 dL_law_670 dL_law_671 ?_
  refine q_sarg (j := 2) (jj := 2) (jv := 2) h hw hj hk6 hL (by omega) (by decide) (by decide) hl (i0 := 0) (i4 := 4) rfl rfl dL_law_672 dL_law_673 dL_law_675 dL_law_676 dL_law_677 ?_
  refine q_sarg (j := 3) (jj := 3) (jv := 3) h hw hj hk6 hL (by omega) (by decide) (by decide) hl (i0 := 0) (i4 := 4) rfl rfl dL_law_678 dL_law_679 dL_law_681 dL_law_682 dL_law_683 ?_
  refine q_cVWI C hj cw_L_71 (r := 75) (As := [.int (q_sx xs k 1), .int (q_sx xs k 2), .int (q_sx xs k 3)]) (rest := [.int r1]) hf (fun v9 g9 h9 => c_X12_would l _ h9) rfl hl rfl rfl rfl dL_law_684 (q_rc hk6 hL) (fun r2 g H locs hj hf => ?_)
  refine q_iceq C (tgt := 1615) dL_law_687 (by decide) hf (fun hf => ?_) (fun hf => by cases hf)
  cases hf
  exact q_LC.forget hw hj (kk _ (q_LC.J hw hj.1 (q_LC.S hw hj)))
theorem lawc_12 (h : q_LC l p s m meth c b L xs D cy sa sv) (hw : q_WF s ad n) (hj : q_J (q_En D cy sa sv ad n) s g H []) (hk6 : 6 * k + 6 ≤ L) (hL : L ≤ 3072) {g' : qS} (hf : lop_12 g (q_sx xs k 1) (q_sx xs k 2) = some g') (hl : lv_has ls 7 [(0, .ref b), (1, .ref (ad 0)), (2, .ref (ad 75)), (3, .ref (ad 87)), (4, .int (nI (6 * k)))])
    (kk : ∀ H1, q_J (q_En D cy sa sv ad n) s g' H1 [] → W p l e room_1 s m #[Value.ref b] below meth c H1 [] (q_ck k) (q_sk k) Q (F0 m 1615 ls [])) : W p l e room_1 s m #[Value.ref b] below meth c H [] (q_ck k) (q_sk k) Q (F0 m 692 ls []) := by
  have C := h.C hw
  have hx := C.1
  have hb := C.2.1
  unfold lop_12 at hf
  refine lv_aload_n hx hb dL_law_692 rfl (lv_at hl 1 rfl) ?_
  refine q_sarg (j := 1) (jj := 1) (jv := 1) h hw hj hk6 hL (by omega) (by decide) (by decide) hl (i0 := 0) (i4 := 4) rfl rfl dL_law_693 dL_law_694 dL_law_696 dL_law_697 dL_law_698 ?_
  refine q_sarg (j := 2) (jj := 2) (jv := 2) h hw hj hk6 hL (by omega) (by decide) (by decide) hl (i0 := 0) (i4 := 4) rfl rfl dL_law_699 dL_law_700 dL_law_702 dL_law_703 dL_law_704 ?_
  refine q_cVWI C hj cw_L_72 (r := 0) (As := [.int (q_sx xs k 1), .int (q_sx xs k 2)]) (rest := []) hf (fun v9 g9 h9 => c_X10_riders l _ h9) rfl hl rfl rfl rfl dL_law_705 (q_rc hk6 hL) (fun r1 g H locs hj hf => ?_)
  refine lv_aload_n hx hb dL_law_708 rfl (lv_at hl 2 rfl) ?_
  refine q_sarg (j := 1) (jj := 1) (jv := 1) h hw hj hk6 hL (by omega) (by decide) (by decide) hl (i0 := 0) (i4 := 4) rfl rfl dL_law_709 dL_law_710 dL_law_712 dL_law_713 dL_law_714 ?_
  refine q_sarg (j := 2) (jj := 2) (jv := 2) h hw hj hk6 hL (by omega) (by decide) (by decide) hl (i0 := 0) (i4 := 4) rfl rfl dL_law_715 dL_law_716 dL_law_718 dL_law_719 dL_law_720 ?_
  refine q_cVWI C hj cw_L_75 (r := 75) (As := [.int (q_sx xs k 1), .int (q_sx xs k 2)]) (rest := [.int r1]) hf (fun v9 g9 h9 => c_X12_riders l _ h9) rfl hl rfl rfl rfl dL_law_721 (q_rc hk6 hL) (fun r2 g H locs hj hf => ?_)
  refine q_iceq C (tgt := 1615) dL_law_724 (by decide) hf (fun hf => ?_) (fun hf => by cases hf)
  cases hf
  exact q_LC.forget hw hj (kk _ (q_LC.J hw hj.1 (q_LC.S hw hj)))
theorem lawc_13 (h : q_LC l p s m meth c b L xs D cy sa sv) (hw : q_WF s ad n) (hj : q_J (q_En D cy sa sv ad n) s g H []) (hk6 : 6 * k + 6 ≤ L) (hL : L ≤ 3072) {g' : qS} (hf : lop_13 g (q_sx xs k 1) = some g') (hl : lv_has ls 7 [(0, .ref b), (1, .ref (ad 0)), (2, .ref (ad 75)), (3, .ref (ad 87)), (4, .int (nI (6 * k)))])
    (kk : ∀ H1, q_J (q_En D cy sa sv ad n) s g' H1 [] → W p l e room_1 s m #[Value.ref b] below meth c H1 [] (q_ck k) (q_sk k) Q (F0 m 1615 ls [])) : W p l e room_1 s m #[Value.ref b] below meth c H [] (q_ck k) (q_sk k) Q (F0 m 729 ls []) := by
  have C := h.C hw
  have hx := C.1
  have hb := C.2.1
  unfold lop_13 at hf
  refine lv_aload_n hx hb dL_law_729 rfl (lv_at hl 1 rfl) ?_
  refine q_sarg (j := 1) (jj := 1) (jv := 1) h hw hj hk6 hL (by omega) (by decide) (by decide) hl (i0 := 0) (i4 := 4) rfl rfl dL_law_730 dL_law_731 dL_law_733 dL_law_734 dL_law_735 ?_
  refine q_cVWI C hj cw_L_76 (r := 0) (As := [.int (q_sx xs k 1)]) (rest := []) hf (fun v9 g9 h9 => c_X10_spare l _ h9) rfl hl rfl rfl rfl dL_law_736 (q_rc hk6 hL) (fun r1 g H locs hj hf => ?_)
  refine lv_aload_n hx hb dL_law_739 rfl (lv_at hl 2 rfl) ?_
  refine q_sarg (j := 1) (jj := 1) (jv := 1) h hw hj hk6 hL (by omega) (by decide) (by decide) hl (i0 := 0) (i4 := 4) rfl rfl dL_law_740 dL_law_741 dL_law_743 dL_law_744 dL_law_745 ?_
  refine q_cVWI C hj cw_L_79 (r := 75) (As := [.int (q_sx xs k 1)]) (rest := [.int r1]) hf (fun v9 g9 h9 => c_X12_spare l _ h9) rfl hl rfl rfl rfl dL_law_746 (q_rc hk6 hL) (fun r2 g H locs hj hf => ?_)
  refine q_iceq C (tgt := 1615) dL_law_749 (by decide) hf (fun hf => ?_) (fun hf => by cases hf)
  cases hf
  exact q_LC.forget hw hj (kk _ (q_LC.J hw hj.1 (q_LC.S hw hj)))
theorem lawc_14 (h : q_LC l p s m meth c b L xs D cy sa sv) (hw : q_WF s ad n) (hj : q_J (q_En D cy sa sv ad n) s g H []) (hk6 : 6 * k + 6 ≤ L) (hL : L ≤ 3072) {g' : qS} (hf : lop_14 g (q_sx xs k 1) = some g') (hl : lv_has ls 7 [(0, .ref b), (1, .ref (ad 0)), (2, .ref (ad 75)), (3, .ref (ad 87)), (4, .int (nI (6 * k)))])
    (kk : ∀ H1, q_J (q_En D cy sa sv ad n) s g' H1 [] → W p l e room_1 s m #[Value.ref b] below meth c H1 [] (q_ck k) (q_sk k) Q (F0 m 1615 ls [])) : W p l e room_1 s m #[Value.ref b] below meth c H [] (q_ck k) (q_sk k) Q (F0 m 754 ls []) := by
  have C := h.C hw
  have hx := C.1
  have hb := C.2.1
  unfold lop_14 at hf
  refine lv_aload_n hx hb dL_law_754 rfl (lv_at hl 1 rfl) ?_
  refine q_sarg (j := 1) (jj := 1) (jv := 1) h hw hj hk6 hL (by omega) (by decide) (by decide) hl (i0 := 0) (i4 := 4) rfl rfl dL_law_755 dL_law_756 dL_law_758 dL_law_759 dL_law_760 ?_
  refine q_cVWI C hj cw_L_80 (r := 0) (As := [.int (q_sx xs k 1)]) (rest := []) hf (fun v9 g9 h9 => c_X10_safest l _ h9) rfl hl rfl rfl rfl dL_law_761 (q_rc hk6 hL) (fun r1 g H locs hj hf => ?_)
  refine lv_aload_n hx hb dL_law_764 rfl (lv_at hl 2 rfl) ?_
  refine q_sarg (j := 1) (jj := 1) (jv := 1) h hw hj hk6 hL (by omega) (by decide) (by decide) hl (i0 := 0) (i4 := 4) rfl rfl dL_law_765 dL_law_766 dL_law_768 dL_law_769 dL_law_770 ?_
  refine q_cVWI C hj cw_L_83 (r := 75) (As := [.int (q_sx xs k 1)]) (rest := [.int r1]) hf (fun v9 g9 h9 => c_X12_safest l _ h9) rfl hl rfl rfl rfl dL_law_771 (q_rc hk6 hL) (fun r2 g H locs hj hf => ?_)
  refine q_iceq C (tgt := 1615) dL_law_774 (by decide) hf (fun hf => ?_) (fun hf => by cases hf)
  cases hf
  exact q_LC.forget hw hj (kk _ (q_LC.J hw hj.1 (q_LC.S hw hj)))
theorem lawc_15 (h : q_LC l p s m meth c b L xs D cy sa sv) (hw : q_WF s ad n) (hj : q_J (q_En D cy sa sv ad n) s g H []) (hk6 : 6 * k + 6 ≤ L) (hL : L ≤ 3072) {g' : qS} (hf : lop_15 g (q_sx xs k 1) = some g') (hl : lv_has ls 7 [(0, .ref b), (1, .ref (ad 0)), (2, .ref (ad 75)), (3, .ref (ad 87)), (4, .int (nI (6 * k)))])
    (kk : ∀ H1, q_J (q_En D cy sa sv ad n) s g' H1 [] → W p l e room_1 s m #[Value.ref b] below meth c H1 [] (q_ck k) (q_sk k) Q (F0 m 1615 ls [])) : W p l e room_1 s m #[Value.ref b] below meth c H [] (q_ck k) (q_sk k) Q (F0 m 779 ls []) := by
  have C := h.C hw
  have hx := C.1
  have hb := C.2.1
  unfold lop_15 at hf
  refine lv_aload_n hx hb dL_law_779 rfl (lv_at hl 1 rfl) ?_
  refine q_sarg (j := 1) (jj := 1) (jv := 1) h hw hj hk6 hL (by omega) (by decide) (by decide) hl (i0 := 0) (i4 := 4) rfl rfl dL_law_780 dL_law_781 dL_law_783 dL_law_784 dL_law_785 ?_
  refine q_cVWI C hj cw_L_84 (r := 0) (As := [.int (q_sx xs k 1)]) (rest := []) hf (fun v9 g9 h9 => c_X10_planned l _ h9) rfl hl rfl rfl rfl dL_law_786 (q_rc hk6 hL) (fun r1 g H locs hj hf => ?_)
  refine lv_aload_n hx hb dL_law_789 rfl (lv_at hl 2 rfl) ?_
  refine q_sarg (j := 1) (jj := 1) (jv := 1) h hw hj hk6 hL (by omega) (by decide) (by decide) hl (i0 := 0) (i4 := 4) rfl rfl dL_law_790 dL_law_791 dL_law_793 dL_law_794 dL_law_795 ?_
  refine q_cVWI C hj cw_L_87 (r := 75) (As := [.int (q_sx xs k 1)]) (rest := [.int r1]) hf (fun v9 g9 h9 => c_X12_planned l _ h9) rfl hl rfl rfl rfl dL_law_796 (q_rc hk6 hL) (fun r2 g H locs hj hf => ?_)
  refine q_iceq C (tgt := 1615) dL_law_799 (by decide) hf (fun hf => ?_) (fun hf => by cases hf)
  cases hf
  exact q_LC.forget hw hj (kk _ (q_LC.J hw hj.1 (q_LC.S hw hj)))
theorem lawc_16 (h : q_LC l p s m meth c b L xs D cy sa sv) (hw : q_WF s ad n) (hj : q_J (q_En D cy sa sv ad n) s g H []) (hk6 : 6 * k + 6 ≤ L) (hL : L ≤ 3072) {g' : qS} (hf : lop_16 g (q_sx xs k 1) (q_sx xs k 2) = some g') (hl : lv_has ls 7 [(0, .ref b), (1, .ref (ad 0)), (2, .ref (ad 75)), (3, .ref (ad 87)), (4, .int (nI (6 * k)))])
    (kk : ∀ H1, q_J (q_En D cy sa sv ad n) s g' H1 [] → W p l e room_1 s m #[Value.ref b] below meth c H1 [] (q_ck k) (q_sk k) Q (F0 m 1615 ls [])) : W p l e room_1 s m #[Value.ref b] below meth c H [] (q_ck k) (q_sk k) Q (F0 m 804 ls []) := by
  have C := h.C hw
  have hx := C.1
  have hb := C.2.1
  unfold lop_16 at hf
  refine lv_aload_n hx hb dL_law_804 rfl (lv_at hl 1 rfl) ?_
  refine q_sarg (j := 1) (jj := 1) (jv := 1) h hw hj hk6 hL (by omega) (by decide) (by decide) hl (i0 := 0) (i4 := 4) rfl rfl dL_law_805 dL_law_806 dL_law_808 dL_law_809 dL_law_810 ?_
  refine q_sarg (j := 2) (jj := 2) (jv := 2) h hw hj hk6 hL (by omega) (by decide) (by decide) hl (i0 := 0) (i4 := 4) rfl rfl dL_law_811 dL_law_812 dL_law_814 dL_law_815 dL_law_816 ?_
  refine q_cVWI C hj cw_L_88 (r := 0) (As := [.int (q_sx xs k 1), .int (q_sx xs k 2)]) (rest := []) hf (fun v9 g9 h9 => c_X10_planHas l _ h9) rfl hl rfl rfl rfl dL_law_817 (q_rc hk6 hL) (fun r1 g H locs hj hf => ?_)
  refine lv_aload_n hx hb dL_law_820 rfl (lv_at hl 2 rfl) ?_
  refine q_sarg (j := 1) (jj := 1) (jv := 1) h hw hj hk6 hL (by omega) (by decide) (by decide) hl (i0 := 0) (i4 := 4) rfl rfl dL_law_821 dL_law_822 dL_law_824 dL_law_825 dL_law_826 ?_
  refine q_sarg (j := 2) (jj := 2) (jv := 2) h hw hj hk6 hL (by omega) (by decide) (by decide) hl (i0 := 0) (i4 := 4) rfl rfl dL_law_827 dL_law_828 dL_law_830 dL_law_831 dL_law_832 ?_
  refine q_cVWI C hj cw_L_91 (r := 75) (As := [.int (q_sx xs k 1), .int (q_sx xs k 2)]) (rest := [.int r1]) hf (fun v9 g9 h9 => c_X12_planHas l _ h9) rfl hl rfl rfl rfl dL_law_833 (q_rc hk6 hL) (fun r2 g H locs hj hf => ?_)
  refine q_iceq C (tgt := 1615) dL_law_836 (by decide) hf (fun hf => ?_) (fun hf => by cases hf)
  cases hf
  exact q_LC.forget hw hj (kk _ (q_LC.J hw hj.1 (q_LC.S hw hj)))
theorem lawc_17 (h : q_LC l p s m meth c b L xs D cy sa sv) (hw : q_WF s ad n) (hj : q_J (q_En D cy sa sv ad n) s g H []) (hk6 : 6 * k + 6 ≤ L) (hL : L ≤ 3072) {g' : qS} (hf : lop_17 g (q_sx xs k 1) (q_sx xs k 2) = some g') (hl : lv_has ls 7 [(0, .ref b), (1, .ref (ad 0)), (2, .ref (ad 75)), (3, .ref (ad 87)), (4, .int (nI (6 * k)))])
    (kk : ∀ H1, q_J (q_En D cy sa sv ad n) s g' H1 [] → W p l e room_1 s m #[Value.ref b] below meth c H1 [] (q_ck k) (q_sk k) Q (F0 m 1615 ls [])) : W p l e room_1 s m #[Value.ref b] below meth c H [] (q_ck k) (q_sk k) Q (F0 m 841 ls []) := by
  have C := h.C hw
  have hx := C.1
  have hb := C.2.1
  unfold lop_17 at hf
  refine lv_aload_n hx hb dL_law_841 rfl (lv_at hl 1 rfl) ?_
  refine q_sarg (j := 1) (jj := 1) (jv := 1) h hw hj hk6 hL (by omega) (by decide) (by decide) hl (i0 := 0) (i4 := 4) rfl rfl dL_law_842 dL_law_843 dL_law_845 dL_law_846 dL_law_847 ?_
  refine q_sarg (j := 2) (jj := 2) (jv := 2) h hw hj hk6 hL (by omega) (by decide) (by decide) hl (i0 := 0) (i4 := 4) rfl rfl dL_law_848 dL_law_849 dL_law_851 dL_law_852 dL_law_853 ?_
  refine q_cVWI C hj cw_L_92 (r := 0) (As := [.int (q_sx xs k 1), .int (q_sx xs k 2)]) (rest := []) hf (fun v9 g9 h9 => c_X10_planScore l _ h9) rfl hl rfl rfl rfl dL_law_854 (q_rc hk6 hL) (fun r1 g H locs hj hf => ?_)
  refine lv_aload_n hx hb dL_law_857 rfl (lv_at hl 2 rfl) ?_
  refine q_sarg (j := 1) (jj := 1) (jv := 1) h hw hj hk6 hL (by omega) (by decide) (by decide) hl (i0 := 0) (i4 := 4) rfl rfl dL_law_858 dL_law_859 dL_law_861 dL_law_862 dL_law_863 ?_
  refine q_sarg (j := 2) (jj := 2) (jv := 2) h hw hj hk6 hL (by omega) (by decide) (by decide) hl (i0 := 0) (i4 := 4) rfl rfl dL_law_864 dL_law_865 dL_law_867 dL_law_868 dL_law_869 ?_
  refine q_cVWI C hj cw_L_95 (r := 75) (As := [.int (q_sx xs k 1), .int (q_sx xs k 2)]) (rest := [.int r1]) hf (fun v9 g9 h9 => c_X12_planScore l _ h9) rfl hl rfl rfl rfl dL_law_870 (q_rc hk6 hL) (fun r2 g H locs hj hf => ?_)
  refine q_iceq C (tgt := 1615) dL_law_873 (by decide) hf (fun hf => ?_) (fun hf => by cases hf)
  cases hf
  exact q_LC.forget hw hj (kk _ (q_LC.J hw hj.1 (q_LC.S hw hj)))
theorem lawc_18 (h : q_LC l p s m meth c b L xs D cy sa sv) (hw : q_WF s ad n) (hj : q_J (q_En D cy sa sv ad n) s g H []) (hk6 : 6 * k + 6 ≤ L) (hL : L ≤ 3072) {g' : qS} (hf : lop_18 g  = some g') (hl : lv_has ls 7 [(0, .ref b), (1, .ref (ad 0)), (2, .ref (ad 75)), (3, .ref (ad 87)), (4, .int (nI (6 * k)))])
    (kk : ∀ H1, q_J (q_En D cy sa sv ad n) s g' H1 [] → W p l e room_1 s m #[Value.ref b] below meth c H1 [] (q_ck k) (q_sk k) Q (F0 m 1615 ls [])) : W p l e room_1 s m #[Value.ref b] below meth c H [] (q_ck k) (q_sk k) Q (F0 m 878 ls []) := by
  have C := h.C hw
  have hx := C.1
  have hb := C.2.1
  unfold lop_18 at hf
  refine lv_aload_n hx hb dL_law_878 rfl (lv_at hl 1 rfl) ?_
  refine q_cVWI C hj cw_L_96 (r := 0) (As := []) (rest := []) hf (fun v9 g9 h9 => c_X10_first l _ h9) rfl hl rfl rfl rfl dL_law_879 (q_rc hk6 hL) (fun r1 g H locs hj hf => ?_)
  refine lv_aload_n hx hb dL_law_882 rfl (lv_at hl 2 rfl) ?_
  refine q_cVWI C hj cw_L_99 (r := 75) (As := []) (rest := [.int r1]) hf (fun v9 g9 h9 => c_X12_first l _ h9) rfl hl rfl rfl rfl dL_law_883 (q_rc hk6 hL) (fun r2 g H locs hj hf => ?_)
  refine q_iceq C (tgt := 1615) dL_law_886 (by decide) hf (fun hf => ?_) (fun hf => by cases hf)
  cases hf
  exact q_LC.forget hw hj (kk _ (q_LC.J hw hj.1 (q_LC.S hw hj)))
theorem lawc_19 (h : q_LC l p s m meth c b L xs D cy sa sv) (hw : q_WF s ad n) (hj : q_J (q_En D cy sa sv ad n) s g H []) (hk6 : 6 * k + 6 ≤ L) (hL : L ≤ 3072) {g' : qS} (hf : lop_19 g  = some g') (hl : lv_has ls 7 [(0, .ref b), (1, .ref (ad 0)), (2, .ref (ad 75)), (3, .ref (ad 87)), (4, .int (nI (6 * k)))])
    (kk : ∀ H1, q_J (q_En D cy sa sv ad n) s g' H1 [] → W p l e room_1 s m #[Value.ref b] below meth c H1 [] (q_ck k) (q_sk k) Q (F0 m 1615 ls [])) : W p l e room_1 s m #[Value.ref b] below meth c H [] (q_ck k) (q_sk k) Q (F0 m 891 ls []) := by
  have C := h.C hw
  have hx := C.1
  have hb := C.2.1
  unfold lop_19 at hf
  refine lv_aload_n hx hb dL_law_891 rfl (lv_at hl 1 rfl) ?_
  refine q_cVWI C hj cw_L_100 (r := 0) (As := []) (rest := []) hf (fun v9 g9 h9 => c_X10_judge l _ h9) rfl hl rfl rfl rfl dL_law_892 (q_rc hk6 hL) (fun r1 g H locs hj hf => ?_)
  refine lv_aload_n hx hb dL_law_895 rfl (lv_at hl 2 rfl) ?_
  refine q_cVWI C hj cw_L_103 (r := 75) (As := []) (rest := [.int r1]) hf (fun v9 g9 h9 => c_X12_judge l _ h9) rfl hl rfl rfl rfl dL_law_896 (q_rc hk6 hL) (fun r2 g H locs hj hf => ?_)
  refine q_iceq C (tgt := 1615) dL_law_899 (by decide) hf (fun hf => ?_) (fun hf => by cases hf)
  cases hf
  exact q_LC.forget hw hj (kk _ (q_LC.J hw hj.1 (q_LC.S hw hj)))
theorem lawc_20 (h : q_LC l p s m meth c b L xs D cy sa sv) (hw : q_WF s ad n) (hj : q_J (q_En D cy sa sv ad n) s g H []) (hk6 : 6 * k + 6 ≤ L) (hL : L ≤ 3072) {g' : qS} (hf : lop_20 g  = some g') (hl : lv_has ls 7 [(0, .ref b), (1, .ref (ad 0)), (2, .ref (ad 75)), (3, .ref (ad 87)), (4, .int (nI (6 * k)))])
    (kk : ∀ H1, q_J (q_En D cy sa sv ad n) s g' H1 [] → W p l e room_1 s m #[Value.ref b] below meth c H1 [] (q_ck k) (q_sk k) Q (F0 m 1615 ls [])) : W p l e room_1 s m #[Value.ref b] below meth c H [] (q_ck k) (q_sk k) Q (F0 m 904 ls []) := by
  have C := h.C hw
  have hx := C.1
  have hb := C.2.1
  unfold lop_20 at hf
  refine lv_aload_n hx hb dL_law_904 rfl (lv_at hl 1 rfl) ?_
  refine q_cVWI C hj cw_L_104 (r := 0) (As := []) (rest := []) hf (fun v9 g9 h9 => c_X10_amiss l _ h9) rfl hl rfl rfl rfl dL_law_905 (q_rc hk6 hL) (fun r1 g H locs hj hf => ?_)
  refine lv_aload_n hx hb dL_law_908 rfl (lv_at hl 2 rfl) ?_
  refine q_cVWI C hj cw_L_107 (r := 75) (As := []) (rest := [.int r1]) hf (fun v9 g9 h9 => c_X12_amiss l _ h9) rfl hl rfl rfl rfl dL_law_909 (q_rc hk6 hL) (fun r2 g H locs hj hf => ?_)
  refine q_iceq C (tgt := 1615) dL_law_912 (by decide) hf (fun hf => ?_) (fun hf => by cases hf)
  cases hf
  exact q_LC.forget hw hj (kk _ (q_LC.J hw hj.1 (q_LC.S hw hj)))
theorem lawc_21 (h : q_LC l p s m meth c b L xs D cy sa sv) (hw : q_WF s ad n) (hj : q_J (q_En D cy sa sv ad n) s g H []) (hk6 : 6 * k + 6 ≤ L) (hL : L ≤ 3072) {g' : qS} (hf : lop_21 g  = some g') (hl : lv_has ls 7 [(0, .ref b), (1, .ref (ad 0)), (2, .ref (ad 75)), (3, .ref (ad 87)), (4, .int (nI (6 * k)))])
    (kk : ∀ H1, q_J (q_En D cy sa sv ad n) s g' H1 [] → W p l e room_1 s m #[Value.ref b] below meth c H1 [] (q_ck k) (q_sk k) Q (F0 m 1615 ls [])) : W p l e room_1 s m #[Value.ref b] below meth c H [] (q_ck k) (q_sk k) Q (F0 m 917 ls []) := by
  have C := h.C hw
  have hx := C.1
  have hb := C.2.1
  unfold lop_21 at hf
  refine lv_aload_n hx hb dL_law_917 rfl (lv_at hl 1 rfl) ?_
  refine q_cVWI C hj cw_L_108 (r := 0) (As := []) (rest := []) hf (fun v9 g9 h9 => c_X10_soonest l _ h9) rfl hl rfl rfl rfl dL_law_918 (q_rc hk6 hL) (fun r1 g H locs hj hf => ?_)
  refine lv_aload_n hx hb dL_law_921 rfl (lv_at hl 2 rfl) ?_
  refine q_cVWI C hj cw_L_111 (r := 75) (As := []) (rest := [.int r1]) hf (fun v9 g9 h9 => c_X12_soonest l _ h9) rfl hl rfl rfl rfl dL_law_922 (q_rc hk6 hL) (fun r2 g H locs hj hf => ?_)
  refine q_iceq C (tgt := 1615) dL_law_925 (by decide) hf (fun hf => ?_) (fun hf => by cases hf)
  cases hf
  exact q_LC.forget hw hj (kk _ (q_LC.J hw hj.1 (q_LC.S hw hj)))
theorem lawc_22 (h : q_LC l p s m meth c b L xs D cy sa sv) (hw : q_WF s ad n) (hj : q_J (q_En D cy sa sv ad n) s g H []) (hk6 : 6 * k + 6 ≤ L) (hL : L ≤ 3072) {g' : qS} (hf : lop_22 g (q_sx xs k 1) = some g') (hl : lv_has ls 7 [(0, .ref b), (1, .ref (ad 0)), (2, .ref (ad 75)), (3, .ref (ad 87)), (4, .int (nI (6 * k)))])
    (kk : ∀ H1, q_J (q_En D cy sa sv ad n) s g' H1 [] → W p l e room_1 s m #[Value.ref b] below meth c H1 [] (q_ck k) (q_sk k) Q (F0 m 1615 ls [])) : W p l e room_1 s m #[Value.ref b] below meth c H [] (q_ck k) (q_sk k) Q (F0 m 930 ls []) := by
  have C := h.C hw
  have hx := C.1
  have hb := C.2.1
  unfold lop_22 at hf
  refine lv_aload_n hx hb dL_law_930 rfl (lv_at hl 1 rfl) ?_
  refine q_sarg (j := 1) (jj := 1) (jv := 1) h hw hj hk6 hL (by omega) (by decide) (by decide) hl (i0 := 0) (i4 := 4) rfl rfl dL_law_931 dL_law_932 dL_law_934 dL_law_935 dL_law_936 ?_
  refine q_cVWI C hj cw_L_112 (r := 0) (As := [.int (q_sx xs k 1)]) (rest := []) hf (fun v9 g9 h9 => c_X10_soonestOf l _ h9) rfl hl rfl rfl rfl dL_law_937 (q_rc hk6 hL) (fun r1 g H locs hj hf => ?_)
  refine lv_aload_n hx hb dL_law_940 rfl (lv_at hl 2 rfl) ?_
  refine q_sarg (j := 1) (jj := 1) (jv := 1) h hw hj hk6 hL (by omega) (by decide) (by decide) hl (i0 := 0) (i4 := 4) rfl rfl dL_law_941 dL_law_942 dL_law_944 dL_law_945 dL_law_946 ?_
  refine q_cVWI C hj cw_L_115 (r := 75) (As := [.int (q_sx xs k 1)]) (rest := [.int r1]) hf (fun v9 g9 h9 => c_X12_soonestOf l _ h9) rfl hl rfl rfl rfl dL_law_947 (q_rc hk6 hL) (fun r2 g H locs hj hf => ?_)
  refine q_iceq C (tgt := 1615) dL_law_950 (by decide) hf (fun hf => ?_) (fun hf => by cases hf)
  cases hf
  exact q_LC.forget hw hj (kk _ (q_LC.J hw hj.1 (q_LC.S hw hj)))
theorem lawc_23 (h : q_LC l p s m meth c b L xs D cy sa sv) (hw : q_WF s ad n) (hj : q_J (q_En D cy sa sv ad n) s g H []) (hk6 : 6 * k + 6 ≤ L) (hL : L ≤ 3072) {g' : qS} (hf : lop_23 g  = some g') (hl : lv_has ls 7 [(0, .ref b), (1, .ref (ad 0)), (2, .ref (ad 75)), (3, .ref (ad 87)), (4, .int (nI (6 * k)))])
    (kk : ∀ H1, q_J (q_En D cy sa sv ad n) s g' H1 [] → W p l e room_1 s m #[Value.ref b] below meth c H1 [] (q_ck k) (q_sk k) Q (F0 m 1615 ls [])) : W p l e room_1 s m #[Value.ref b] below meth c H [] (q_ck k) (q_sk k) Q (F0 m 955 ls []) := by
  have C := h.C hw
  have hx := C.1
  have hb := C.2.1
  unfold lop_23 at hf
  refine lv_aload_n hx hb dL_law_955 rfl (lv_at hl 1 rfl) ?_
  refine q_cVWI C hj cw_L_116 (r := 0) (As := []) (rest := []) hf (fun v9 g9 h9 => c_X10_never l _ h9) rfl hl rfl rfl rfl dL_law_956 (q_rc hk6 hL) (fun r1 g H locs hj hf => ?_)
  refine lv_aload_n hx hb dL_law_959 rfl (lv_at hl 2 rfl) ?_
  refine q_cVWI C hj cw_L_119 (r := 75) (As := []) (rest := [.int r1]) hf (fun v9 g9 h9 => c_X12_never l _ h9) rfl hl rfl rfl rfl dL_law_960 (q_rc hk6 hL) (fun r2 g H locs hj hf => ?_)
  refine q_iceq C (tgt := 1615) dL_law_963 (by decide) hf (fun hf => ?_) (fun hf => by cases hf)
  cases hf
  exact q_LC.forget hw hj (kk _ (q_LC.J hw hj.1 (q_LC.S hw hj)))
theorem lawc_24 (h : q_LC l p s m meth c b L xs D cy sa sv) (hw : q_WF s ad n) (hj : q_J (q_En D cy sa sv ad n) s g H []) (hk6 : 6 * k + 6 ≤ L) (hL : L ≤ 3072) {g' : qS} (hf : lop_24 g  = some g') (hl : lv_has ls 7 [(0, .ref b), (1, .ref (ad 0)), (2, .ref (ad 75)), (3, .ref (ad 87)), (4, .int (nI (6 * k)))])
    (kk : ∀ H1, q_J (q_En D cy sa sv ad n) s g' H1 [] → W p l e room_1 s m #[Value.ref b] below meth c H1 [] (q_ck k) (q_sk k) Q (F0 m 1615 ls [])) : W p l e room_1 s m #[Value.ref b] below meth c H [] (q_ck k) (q_sk k) Q (F0 m 968 ls []) := by
  have C := h.C hw
  have hx := C.1
  have hb := C.2.1
  unfold lop_24 at hf
  refine lv_aload_n hx hb dL_law_968 rfl (lv_at hl 1 rfl) ?_
  refine q_cVWI C hj cw_L_120 (r := 0) (As := []) (rest := []) hf (fun v9 g9 h9 => c_X10_fits l _ h9) rfl hl rfl rfl rfl dL_law_969 (q_rc hk6 hL) (fun r1 g H locs hj hf => ?_)
  refine lv_aload_n hx hb dL_law_972 rfl (lv_at hl 2 rfl) ?_
  refine q_cVWI C hj cw_L_123 (r := 75) (As := []) (rest := [.int r1]) hf (fun v9 g9 h9 => c_X12_fits l _ h9) rfl hl rfl rfl rfl dL_law_973 (q_rc hk6 hL) (fun r2 g H locs hj hf => ?_)
  refine q_iceq C (tgt := 1615) dL_law_976 (by decide) hf (fun hf => ?_) (fun hf => by cases hf)
  cases hf
  exact q_LC.forget hw hj (kk _ (q_LC.J hw hj.1 (q_LC.S hw hj)))
theorem lawc_25 (h : q_LC l p s m meth c b L xs D cy sa sv) (hw : q_WF s ad n) (hj : q_J (q_En D cy sa sv ad n) s g H []) (hk6 : 6 * k + 6 ≤ L) (hL : L ≤ 3072) {g' : qS} (hf : lop_25 g (q_sx xs k 1) = some g') (hl : lv_has ls 7 [(0, .ref b), (1, .ref (ad 0)), (2, .ref (ad 75)), (3, .ref (ad 87)), (4, .int (nI (6 * k)))])
    (kk : ∀ H1, q_J (q_En D cy sa sv ad n) s g' H1 [] → W p l e room_1 s m #[Value.ref b] below meth c H1 [] (q_ck k) (q_sk k) Q (F0 m 1615 ls [])) : W p l e room_1 s m #[Value.ref b] below meth c H [] (q_ck k) (q_sk k) Q (F0 m 981 ls []) := by
  have C := h.C hw
  have hx := C.1
  have hb := C.2.1
  unfold lop_25 at hf
  refine lv_aload_n hx hb dL_law_981 rfl (lv_at hl 1 rfl) ?_
  refine q_sarg (j := 1) (jj := 1) (jv := 1) h hw hj hk6 hL (by omega) (by decide) (by decide) hl (i0 := 0) (i4 := 4) rfl rfl dL_law_982 dL_law_983 dL_law_985 dL_law_986 dL_law_987 ?_
  refine q_cVWI C hj cw_L_124 (r := 0) (As := [.int (q_sx xs k 1)]) (rest := []) hf (fun v9 g9 h9 => c_X10_could l _ h9) rfl hl rfl rfl rfl dL_law_988 (q_rc hk6 hL) (fun r1 g H locs hj hf => ?_)
  refine lv_aload_n hx hb dL_law_991 rfl (lv_at hl 2 rfl) ?_
  refine q_sarg (j := 1) (jj := 1) (jv := 1) h hw hj hk6 hL (by omega) (by decide) (by decide) hl (i0 := 0) (i4 := 4) rfl rfl dL_law_992 dL_law_993 dL_law_995 dL_law_996 dL_law_997 ?_
  refine q_cVWI C hj cw_L_127 (r := 75) (As := [.int (q_sx xs k 1)]) (rest := [.int r1]) hf (fun v9 g9 h9 => c_X12_could l _ h9) rfl hl rfl rfl rfl dL_law_998 (q_rc hk6 hL) (fun r2 g H locs hj hf => ?_)
  refine q_iceq C (tgt := 1615) dL_law_1001 (by decide) hf (fun hf => ?_) (fun hf => by cases hf)
  cases hf
  exact q_LC.forget hw hj (kk _ (q_LC.J hw hj.1 (q_LC.S hw hj)))
theorem lawc_26 (h : q_LC l p s m meth c b L xs D cy sa sv) (hw : q_WF s ad n) (hj : q_J (q_En D cy sa sv ad n) s g H []) (hk6 : 6 * k + 6 ≤ L) (hL : L ≤ 3072) {g' : qS} (hf : lop_26 g (q_sx xs k 1) = some g') (hl : lv_has ls 7 [(0, .ref b), (1, .ref (ad 0)), (2, .ref (ad 75)), (3, .ref (ad 87)), (4, .int (nI (6 * k)))])
    (kk : ∀ H1, q_J (q_En D cy sa sv ad n) s g' H1 [] → W p l e room_1 s m #[Value.ref b] below meth c H1 [] (q_ck k) (q_sk k) Q (F0 m 1615 ls [])) : W p l e room_1 s m #[Value.ref b] below meth c H [] (q_ck k) (q_sk k) Q (F0 m 1006 ls []) := by
  have C := h.C hw
  have hx := C.1
  have hb := C.2.1
  unfold lop_26 at hf
  refine lv_aload_n hx hb dL_law_1006 rfl (lv_at hl 1 rfl) ?_
  refine q_sarg (j := 1) (jj := 1) (jv := 1) h hw hj hk6 hL (by omega) (by decide) (by decide) hl (i0 := 0) (i4 := 4) rfl rfl dL_law_1007 dL_law_1008 dL_law_1010 dL_law_1011 dL_law_1012 ?_
  refine q_cVWI C hj cw_L_128 (r := 0) (As := [.int (q_sx xs k 1)]) (rest := []) hf (fun v9 g9 h9 => c_X10_surely l _ h9) rfl hl rfl rfl rfl dL_law_1013 (q_rc hk6 hL) (fun r1 g H locs hj hf => ?_)
  refine lv_aload_n hx hb dL_law_1016 rfl (lv_at hl 2 rfl) ?_
  refine q_sarg (j := 1) (jj := 1) (jv := 1) h hw hj hk6 hL (by omega) (by decide) (by decide) hl (i0 := 0) (i4 := 4) rfl rfl dL_law_1017 dL_law_1018 dL_law_1020 dL_law_1021 dL_law_1022 ?_
  refine q_cVWI C hj cw_L_131 (r := 75) (As := [.int (q_sx xs k 1)]) (rest := [.int r1]) hf (fun v9 g9 h9 => c_X12_surely l _ h9) rfl hl rfl rfl rfl dL_law_1023 (q_rc hk6 hL) (fun r2 g H locs hj hf => ?_)
  refine q_iceq C (tgt := 1615) dL_law_1026 (by decide) hf (fun hf => ?_) (fun hf => by cases hf)
  cases hf
  exact q_LC.forget hw hj (kk _ (q_LC.J hw hj.1 (q_LC.S hw hj)))
theorem lawc_27 (h : q_LC l p s m meth c b L xs D cy sa sv) (hw : q_WF s ad n) (hj : q_J (q_En D cy sa sv ad n) s g H []) (hk6 : 6 * k + 6 ≤ L) (hL : L ≤ 3072) {g' : qS} (hf : lop_27 g (q_sx xs k 1) = some g') (hl : lv_has ls 7 [(0, .ref b), (1, .ref (ad 0)), (2, .ref (ad 75)), (3, .ref (ad 87)), (4, .int (nI (6 * k)))])
    (kk : ∀ H1, q_J (q_En D cy sa sv ad n) s g' H1 [] → W p l e room_1 s m #[Value.ref b] below meth c H1 [] (q_ck k) (q_sk k) Q (F0 m 1615 ls [])) : W p l e room_1 s m #[Value.ref b] below meth c H [] (q_ck k) (q_sk k) Q (F0 m 1031 ls []) := by
  have C := h.C hw
  have hx := C.1
  have hb := C.2.1
  unfold lop_27 at hf
  refine lv_aload_n hx hb dL_law_1031 rfl (lv_at hl 1 rfl) ?_
  refine q_sarg (j := 1) (jj := 1) (jv := 1) h hw hj hk6 hL (by omega) (by decide) (by decide) hl (i0 := 0) (i4 := 4) rfl rfl dL_law_1032 dL_law_1033 dL_law_1035 dL_law_1036 dL_law_1037 ?_
  refine q_sboo h dL_law_1038 (by decide) dL_law_1041 dL_law_1042 (by decide) dL_law_1045 ?_
  refine q_cVWL C hj cw_L_132 (r := 0) (As := [.int (q_bz (q_sx xs k 1))]) (rest := []) hf (fun v9 g9 h9 => c_X10_value l _ h9) rfl hl rfl rfl rfl dL_law_1046 (q_rc hk6 hL) (fun r1 g H locs hj hf => ?_)
  refine lv_aload_n hx hb dL_law_1049 rfl (lv_at hl 2 rfl) ?_
  refine q_sarg (j := 1) (jj := 1) (jv := 1) h hw hj hk6 hL (by omega) (by decide) (by decide) hl (i0 := 0) (i4 := 4) rfl rfl dL_law_1050 dL_law_1051 dL_law_1053 dL_law_1054 dL_law_1055 ?_
  refine q_sboo h dL_law_1056 (by decide) dL_law_1059 dL_law_1060 (by decide) dL_law_1063 ?_
  refine q_cVWL C hj cw_L_136 (r := 75) (As := [.int (q_bz (q_sx xs k 1))]) (rest := [.long r1]) hf (fun v9 g9 h9 => c_X12_value l _ h9) rfl hl rfl rfl rfl dL_law_1064 (q_rc hk6 hL) (fun r2 g H locs hj hf => ?_)
  refine q_lceq C (tgt := 1615) dL_law_1067 dL_law_1068 (by decide) hf (fun hf => ?_) (fun hf => by cases hf)
  cases hf
  exact q_LC.forget hw hj (kk _ (q_LC.J hw hj.1 (q_LC.S hw hj)))
theorem lawc_28 (h : q_LC l p s m meth c b L xs D cy sa sv) (hw : q_WF s ad n) (hj : q_J (q_En D cy sa sv ad n) s g H []) (hk6 : 6 * k + 6 ≤ L) (hL : L ≤ 3072) {g' : qS} (hf : lop_28 g (q_sx xs k 1) (q_sx xs k 2) = some g') (hl : lv_has ls 7 [(0, .ref b), (1, .ref (ad 0)), (2, .ref (ad 75)), (3, .ref (ad 87)), (4, .int (nI (6 * k)))])
    (kk : ∀ H1, q_J (q_En D cy sa sv ad n) s g' H1 [] → W p l e room_1 s m #[Value.ref b] below meth c H1 [] (q_ck k) (q_sk k) Q (F0 m 1615 ls [])) : W p l e room_1 s m #[Value.ref b] below meth c H [] (q_ck k) (q_sk k) Q (F0 m 1073 ls []) := by
  have C := h.C hw
  have hx := C.1
  have hb := C.2.1
  unfold lop_28 at hf
  refine lv_aload_n hx hb dL_law_1073 rfl (lv_at hl 1 rfl) ?_
  refine q_sarg (j := 1) (jj := 1) (jv := 1) h hw hj hk6 hL (by omega) (by decide) (by decide) hl (i0 := 0) (i4 := 4) rfl rfl dL_law_1074 dL_law_1075 dL_law_1077 dL_law_1078 dL_law_1079 ?_
  refine q_sarg (j := 2) (jj := 2) (jv := 2) h hw hj hk6 hL (by omega) (by decide) (by decide) hl (i0 := 0) (i4 := 4) rfl rfl dL_law_1080 dL_law_1081 dL_law_1083 dL_law_1084 dL_law_1085 ?_
  refine q_sboo h dL_law_1086 (by decide) dL_law_1089 dL_law_1090 (by decide) dL_law_1093 ?_
  refine q_cVWL C hj cw_L_137 (r := 0) (As := [.int (q_sx xs k 1), .int (q_bz (q_sx xs k 2))]) (rest := []) hf (fun v9 g9 h9 => c_X10_lot l _ h9) rfl hl rfl rfl rfl dL_law_1094 (q_rc hk6 hL) (fun r1 g H locs hj hf => ?_)
  refine lv_aload_n hx hb dL_law_1097 rfl (lv_at hl 2 rfl) ?_
  refine q_sarg (j := 1) (jj := 1) (jv := 1) h hw hj hk6 hL (by omega) (by decide) (by decide) hl (i0 := 0) (i4 := 4) rfl rfl dL_law_1098 dL_law_1099 dL_law_1101 dL_law_1102 dL_law_1103 ?_
  refine q_sarg (j := 2) (jj := 2) (jv := 2) h hw hj hk6 hL (by omega) (by decide) (by decide) hl (i0 := 0) (i4 := 4) rfl rfl dL_law_1104 dL_law_1105 dL_law_1107 dL_law_1108 dL_law_1109 ?_
  refine q_sboo h dL_law_1110 (by decide) dL_law_1113 dL_law_1114 (by decide) dL_law_1117 ?_
  refine q_cVWL C hj cw_L_141 (r := 75) (As := [.int (q_sx xs k 1), .int (q_bz (q_sx xs k 2))]) (rest := [.long r1]) hf (fun v9 g9 h9 => c_X12_lot l _ h9) rfl hl rfl rfl rfl dL_law_1118 (q_rc hk6 hL) (fun r2 g H locs hj hf => ?_)
  refine q_lceq C (tgt := 1615) dL_law_1121 dL_law_1122 (by decide) hf (fun hf => ?_) (fun hf => by cases hf)
  cases hf
  exact q_LC.forget hw hj (kk _ (q_LC.J hw hj.1 (q_LC.S hw hj)))
theorem lawc_29 (h : q_LC l p s m meth c b L xs D cy sa sv) (hw : q_WF s ad n) (hj : q_J (q_En D cy sa sv ad n) s g H []) (hk6 : 6 * k + 6 ≤ L) (hL : L ≤ 3072) {g' : qS} (hf : lop_29 g (q_sx xs k 1) = some g') (hl : lv_has ls 7 [(0, .ref b), (1, .ref (ad 0)), (2, .ref (ad 75)), (3, .ref (ad 87)), (4, .int (nI (6 * k)))])
    (kk : ∀ H1, q_J (q_En D cy sa sv ad n) s g' H1 [] → W p l e room_1 s m #[Value.ref b] below meth c H1 [] (q_ck k) (q_sk k) Q (F0 m 1615 ls [])) : W p l e room_1 s m #[Value.ref b] below meth c H [] (q_ck k) (q_sk k) Q (F0 m 1127 ls []) := by
  have C := h.C hw
  have hx := C.1
  have hb := C.2.1
  unfold lop_29 at hf
  refine lv_aload_n hx hb dL_law_1127 rfl (lv_at hl 1 rfl) ?_
  refine q_sarg (j := 1) (jj := 1) (jv := 1) h hw hj hk6 hL (by omega) (by decide) (by decide) hl (i0 := 0) (i4 := 4) rfl rfl dL_law_1128 dL_law_1129 dL_law_1131 dL_law_1132 dL_law_1133 ?_
  refine q_cVWI C hj cw_L_142 (r := 0) (As := [.int (q_sx xs k 1)]) (rest := []) hf (fun v9 g9 h9 => c_X10_rests l _ h9) rfl hl rfl rfl rfl dL_law_1134 (q_rc hk6 hL) (fun r1 g H locs hj hf => ?_)
  refine lv_aload_n hx hb dL_law_1137 rfl (lv_at hl 2 rfl) ?_
  refine q_sarg (j := 1) (jj := 1) (jv := 1) h hw hj hk6 hL (by omega) (by decide) (by decide) hl (i0 := 0) (i4 := 4) rfl rfl dL_law_1138 dL_law_1139 dL_law_1141 dL_law_1142 dL_law_1143 ?_
  refine q_cVWI C hj cw_L_145 (r := 75) (As := [.int (q_sx xs k 1)]) (rest := [.int r1]) hf (fun v9 g9 h9 => c_X12_rests l _ h9) rfl hl rfl rfl rfl dL_law_1144 (q_rc hk6 hL) (fun r2 g H locs hj hf => ?_)
  refine q_iceq C (tgt := 1615) dL_law_1147 (by decide) hf (fun hf => ?_) (fun hf => by cases hf)
  cases hf
  exact q_LC.forget hw hj (kk _ (q_LC.J hw hj.1 (q_LC.S hw hj)))
theorem lawc_30 (h : q_LC l p s m meth c b L xs D cy sa sv) (hw : q_WF s ad n) (hj : q_J (q_En D cy sa sv ad n) s g H []) (hk6 : 6 * k + 6 ≤ L) (hL : L ≤ 3072) {g' : qS} (hf : lop_30 g (q_sx xs k 1) (q_sx xs k 2) = some g') (hl : lv_has ls 7 [(0, .ref b), (1, .ref (ad 0)), (2, .ref (ad 75)), (3, .ref (ad 87)), (4, .int (nI (6 * k)))])
    (kk : ∀ H1, q_J (q_En D cy sa sv ad n) s g' H1 [] → W p l e room_1 s m #[Value.ref b] below meth c H1 [] (q_ck k) (q_sk k) Q (F0 m 1615 ls [])) : W p l e room_1 s m #[Value.ref b] below meth c H [] (q_ck k) (q_sk k) Q (F0 m 1152 ls []) := by
  have C := h.C hw
  have hx := C.1
  have hb := C.2.1
  unfold lop_30 at hf
  refine lv_aload_n hx hb dL_law_1152 rfl (lv_at hl 1 rfl) ?_
  refine q_sarg (j := 1) (jj := 1) (jv := 1) h hw hj hk6 hL (by omega) (by decide) (by decide) hl (i0 := 0) (i4 := 4) rfl rfl dL_law_1153 dL_law_1154 dL_law_1156 dL_law_1157 dL_law_1158 ?_
  refine q_sarg (j := 2) (jj := 2) (jv := 2) h hw hj hk6 hL (by omega) (by decide) (by decide) hl (i0 := 0) (i4 := 4) rfl rfl dL_law_1159 dL_law_1160 dL_law_1162 dL_law_1163 dL_law_1164 ?_
  refine q_cVWI C hj cw_L_146 (r := 0) (As := [.int (q_sx xs k 1), .int (q_sx xs k 2)]) (rest := []) hf (fun v9 g9 h9 => c_X10_restOf l _ h9) rfl hl rfl rfl rfl dL_law_1165 (q_rc hk6 hL) (fun r1 g H locs hj hf => ?_)
  refine lv_aload_n hx hb dL_law_1168 rfl (lv_at hl 2 rfl) ?_
  refine q_sarg (j := 1) (jj := 1) (jv := 1) h hw hj hk6 hL (by omega) (by decide) (by decide) hl (i0 := 0) (i4 := 4) rfl rfl dL_law_1169 dL_law_1170 dL_law_1172 dL_law_1173 dL_law_1174 ?_
  refine q_sarg (j := 2) (jj := 2) (jv := 2) h hw hj hk6 hL (by omega) (by decide) (by decide) hl (i0 := 0) (i4 := 4) rfl rfl dL_law_1175 dL_law_1176 dL_law_1178 dL_law_1179 dL_law_1180 ?_
  refine q_cVWI C hj cw_L_149 (r := 75) (As := [.int (q_sx xs k 1), .int (q_sx xs k 2)]) (rest := [.int r1]) hf (fun v9 g9 h9 => c_X12_restOf l _ h9) rfl hl rfl rfl rfl dL_law_1181 (q_rc hk6 hL) (fun r2 g H locs hj hf => ?_)
  refine q_iceq C (tgt := 1615) dL_law_1184 (by decide) hf (fun hf => ?_) (fun hf => by cases hf)
  cases hf
  exact q_LC.forget hw hj (kk _ (q_LC.J hw hj.1 (q_LC.S hw hj)))
theorem lawc_31 (h : q_LC l p s m meth c b L xs D cy sa sv) (hw : q_WF s ad n) (hj : q_J (q_En D cy sa sv ad n) s g H []) (hk6 : 6 * k + 6 ≤ L) (hL : L ≤ 3072) {g' : qS} (hf : lop_31 g (q_sx xs k 1) = some g') (hl : lv_has ls 7 [(0, .ref b), (1, .ref (ad 0)), (2, .ref (ad 75)), (3, .ref (ad 87)), (4, .int (nI (6 * k)))])
    (kk : ∀ H1, q_J (q_En D cy sa sv ad n) s g' H1 [] → W p l e room_1 s m #[Value.ref b] below meth c H1 [] (q_ck k) (q_sk k) Q (F0 m 1615 ls [])) : W p l e room_1 s m #[Value.ref b] below meth c H [] (q_ck k) (q_sk k) Q (F0 m 1189 ls []) := by
  have C := h.C hw
  have hx := C.1
  have hb := C.2.1
  unfold lop_31 at hf
  refine lv_aload_n hx hb dL_law_1189 rfl (lv_at hl 1 rfl) ?_
  refine q_sarg (j := 1) (jj := 1) (jv := 1) h hw hj hk6 hL (by omega) (by decide) (by decide) hl (i0 := 0) (i4 := 4) rfl rfl dL_law_1190 dL_law_1191 dL_law_1193 dL_law_1194 dL_law_1195 ?_
  refine q_sboo h dL_law_1196 (by decide) dL_law_1199 dL_law_1200 (by decide) dL_law_1203 ?_
  refine q_cVWI C hj cw_L_150 (r := 0) (As := [.int (q_bz (q_sx xs k 1))]) (rest := []) hf (fun v9 g9 h9 => c_X10_limit l _ h9) rfl hl rfl rfl rfl dL_law_1204 (q_rc hk6 hL) (fun r1 g H locs hj hf => ?_)
  refine lv_aload_n hx hb dL_law_1207 rfl (lv_at hl 2 rfl) ?_
  refine q_sarg (j := 1) (jj := 1) (jv := 1) h hw hj hk6 hL (by omega) (by decide) (by decide) hl (i0 := 0) (i4 := 4) rfl rfl dL_law_1208 dL_law_1209 dL_law_1211 dL_law_1212 dL_law_1213 ?_
  refine q_sboo h dL_law_1214 (by decide) dL_law_1217 dL_law_1218 (by decide) dL_law_1221 ?_
  refine q_cVWI C hj cw_L_154 (r := 75) (As := [.int (q_bz (q_sx xs k 1))]) (rest := [.int r1]) hf (fun v9 g9 h9 => c_X12_limit l _ h9) rfl hl rfl rfl rfl dL_law_1222 (q_rc hk6 hL) (fun r2 g H locs hj hf => ?_)
  refine q_iceq C (tgt := 1615) dL_law_1225 (by decide) hf (fun hf => ?_) (fun hf => by cases hf)
  cases hf
  exact q_LC.forget hw hj (kk _ (q_LC.J hw hj.1 (q_LC.S hw hj)))
theorem lawc_32 (h : q_LC l p s m meth c b L xs D cy sa sv) (hw : q_WF s ad n) (hj : q_J (q_En D cy sa sv ad n) s g H []) (hk6 : 6 * k + 6 ≤ L) (hL : L ≤ 3072) {g' : qS} (hf : lop_32 g (q_sx xs k 1) = some g') (hl : lv_has ls 7 [(0, .ref b), (1, .ref (ad 0)), (2, .ref (ad 75)), (3, .ref (ad 87)), (4, .int (nI (6 * k)))])
    (kk : ∀ H1, q_J (q_En D cy sa sv ad n) s g' H1 [] → W p l e room_1 s m #[Value.ref b] below meth c H1 [] (q_ck k) (q_sk k) Q (F0 m 1615 ls [])) : W p l e room_1 s m #[Value.ref b] below meth c H [] (q_ck k) (q_sk k) Q (F0 m 1230 ls []) := by
  have C := h.C hw
  have hx := C.1
  have hb := C.2.1
  unfold lop_32 at hf
  refine lv_aload_n hx hb dL_law_1230 rfl (lv_at hl 1 rfl) ?_
  refine q_sarg (j := 1) (jj := 1) (jv := 1) h hw hj hk6 hL (by omega) (by decide) (by decide) hl (i0 := 0) (i4 := 4) rfl rfl dL_law_1231 dL_law_1232 dL_law_1234 dL_law_1235 dL_law_1236 ?_
  refine q_cVWI C hj cw_L_155 (r := 0) (As := [.int (q_sx xs k 1)]) (rest := []) hf (fun v9 g9 h9 => c_X10_dare l _ h9) rfl hl rfl rfl rfl dL_law_1237 (q_rc hk6 hL) (fun r1 g H locs hj hf => ?_)
  refine lv_aload_n hx hb dL_law_1240 rfl (lv_at hl 2 rfl) ?_
  refine q_sarg (j := 1) (jj := 1) (jv := 1) h hw hj hk6 hL (by omega) (by decide) (by decide) hl (i0 := 0) (i4 := 4) rfl rfl dL_law_1241 dL_law_1242 dL_law_1244 dL_law_1245 dL_law_1246 ?_
  refine q_cVWI C hj cw_L_158 (r := 75) (As := [.int (q_sx xs k 1)]) (rest := [.int r1]) hf (fun v9 g9 h9 => c_X12_dare l _ h9) rfl hl rfl rfl rfl dL_law_1247 (q_rc hk6 hL) (fun r2 g H locs hj hf => ?_)
  refine q_iceq C (tgt := 1615) dL_law_1250 (by decide) hf (fun hf => ?_) (fun hf => by cases hf)
  cases hf
  exact q_LC.forget hw hj (kk _ (q_LC.J hw hj.1 (q_LC.S hw hj)))
theorem lawc_33 (h : q_LC l p s m meth c b L xs D cy sa sv) (hw : q_WF s ad n) (hj : q_J (q_En D cy sa sv ad n) s g H []) (hk6 : 6 * k + 6 ≤ L) (hL : L ≤ 3072) {g' : qS} (hf : lop_33 g (q_sx xs k 1) (q_sx xs k 2) = some g') (hl : lv_has ls 7 [(0, .ref b), (1, .ref (ad 0)), (2, .ref (ad 75)), (3, .ref (ad 87)), (4, .int (nI (6 * k)))])
    (kk : ∀ H1, q_J (q_En D cy sa sv ad n) s g' H1 [] → W p l e room_1 s m #[Value.ref b] below meth c H1 [] (q_ck k) (q_sk k) Q (F0 m 1615 ls [])) : W p l e room_1 s m #[Value.ref b] below meth c H [] (q_ck k) (q_sk k) Q (F0 m 1255 ls []) := by
  have C := h.C hw
  have hx := C.1
  have hb := C.2.1
  unfold lop_33 at hf
  refine lv_aload_n hx hb dL_law_1255 rfl (lv_at hl 1 rfl) ?_
  refine q_sarg (j := 1) (jj := 1) (jv := 1) h hw hj hk6 hL (by omega) (by decide) (by decide) hl (i0 := 0) (i4 := 4) rfl rfl dL_law_1256 dL_law_1257 dL_law_1259 dL_law_1260 dL_law_1261 ?_
  refine q_sarg (j := 2) (jj := 2) (jv := 2) h hw hj hk6 hL (by omega) (by decide) (by decide) hl (i0 := 0) (i4 := 4) rfl rfl dL_law_1262 dL_law_1263 dL_law_1265 dL_law_1266 dL_law_1267 ?_
  refine q_sboo h dL_law_1268 (by decide) dL_law_1271 dL_law_1272 (by decide) dL_law_1275 ?_
  refine q_cVWL C hj cw_L_159 (r := 0) (As := [.int (q_sx xs k 1), .int (q_bz (q_sx xs k 2))]) (rest := []) hf (fun v9 g9 h9 => c_X10_honours l _ h9) rfl hl rfl rfl rfl dL_law_1276 (q_rc hk6 hL) (fun r1 g H locs hj hf => ?_)
  refine lv_aload_n hx hb dL_law_1279 rfl (lv_at hl 2 rfl) ?_
  refine q_sarg (j := 1) (jj := 1) (jv := 1) h hw hj hk6 hL (by omega) (by decide) (by decide) hl (i0 := 0) (i4 := 4) rfl rfl dL_law_1280 dL_law_1281 dL_law_1283 dL_law_1284 dL_law_1285 ?_
  refine q_sarg (j := 2) (jj := 2) (jv := 2) h hw hj hk6 hL (by omega) (by decide) (by decide) hl (i0 := 0) (i4 := 4) rfl rfl dL_law_1286 dL_law_1287 dL_law_1289 dL_law_1290 dL_law_1291 ?_
  refine q_sboo h dL_law_1292 (by decide) dL_law_1295 dL_law_1296 (by decide) dL_law_1299 ?_
  refine q_cVWL C hj cw_L_162 (r := 75) (As := [.int (q_sx xs k 1), .int (q_bz (q_sx xs k 2))]) (rest := [.long r1]) hf (fun v9 g9 h9 => c_X12_honours l _ h9) rfl hl rfl rfl rfl dL_law_1300 (q_rc hk6 hL) (fun r2 g H locs hj hf => ?_)
  refine q_lceq C (tgt := 1615) dL_law_1303 dL_law_1304 (by decide) hf (fun hf => ?_) (fun hf => by cases hf)
  cases hf
  exact q_LC.forget hw hj (kk _ (q_LC.J hw hj.1 (q_LC.S hw hj)))
theorem lawc_34 (h : q_LC l p s m meth c b L xs D cy sa sv) (hw : q_WF s ad n) (hj : q_J (q_En D cy sa sv ad n) s g H []) (hk6 : 6 * k + 6 ≤ L) (hL : L ≤ 3072) {g' : qS} (hf : lop_34 g (q_sx xs k 1) = some g') (hl : lv_has ls 7 [(0, .ref b), (1, .ref (ad 0)), (2, .ref (ad 75)), (3, .ref (ad 87)), (4, .int (nI (6 * k)))])
    (kk : ∀ H1, q_J (q_En D cy sa sv ad n) s g' H1 [] → W p l e room_1 s m #[Value.ref b] below meth c H1 [] (q_ck k) (q_sk k) Q (F0 m 1615 ls [])) : W p l e room_1 s m #[Value.ref b] below meth c H [] (q_ck k) (q_sk k) Q (F0 m 1309 ls []) := by
  have C := h.C hw
  have hx := C.1
  have hb := C.2.1
  unfold lop_34 at hf
  refine lv_aload_n hx hb dL_law_1309 rfl (lv_at hl 1 rfl) ?_
  refine q_sarg (j := 1) (jj := 1) (jv := 1) h hw hj hk6 hL (by omega) (by decide) (by decide) hl (i0 := 0) (i4 := 4) rfl rfl dL_law_1310 dL_law_1311 dL_law_1313 dL_law_1314 dL_law_1315 ?_
  refine q_cVWI C hj cw_L_163 (r := 0) (As := [.int (q_sx xs k 1)]) (rest := []) hf (fun v9 g9 h9 => c_X10_drawn l _ h9) rfl hl rfl rfl rfl dL_law_1316 (q_rc hk6 hL) (fun r1 g H locs hj hf => ?_)
  refine lv_aload_n hx hb dL_law_1319 rfl (lv_at hl 2 rfl) ?_
  refine q_sarg (j := 1) (jj := 1) (jv := 1) h hw hj hk6 hL (by omega) (by decide) (by decide) hl (i0 := 0) (i4 := 4) rfl rfl dL_law_1320 dL_law_1321 dL_law_1323 dL_law_1324 dL_law_1325 ?_
  refine q_cVWI C hj cw_L_166 (r := 75) (As := [.int (q_sx xs k 1)]) (rest := [.int r1]) hf (fun v9 g9 h9 => c_X12_drawn l _ h9) rfl hl rfl rfl rfl dL_law_1326 (q_rc hk6 hL) (fun r2 g H locs hj hf => ?_)
  refine q_iceq C (tgt := 1615) dL_law_1329 (by decide) hf (fun hf => ?_) (fun hf => by cases hf)
  cases hf
  exact q_LC.forget hw hj (kk _ (q_LC.J hw hj.1 (q_LC.S hw hj)))
theorem lawc_35 (h : q_LC l p s m meth c b L xs D cy sa sv) (hw : q_WF s ad n) (hj : q_J (q_En D cy sa sv ad n) s g H []) (hk6 : 6 * k + 6 ≤ L) (hL : L ≤ 3072) {g' : qS} (hf : lop_35 g (q_sx xs k 1) (q_sx xs k 2) (q_sx xs k 3) = some g') (hl : lv_has ls 7 [(0, .ref b), (1, .ref (ad 0)), (2, .ref (ad 75)), (3, .ref (ad 87)), (4, .int (nI (6 * k)))])
    (kk : ∀ H1, q_J (q_En D cy sa sv ad n) s g' H1 [] → W p l e room_1 s m #[Value.ref b] below meth c H1 [] (q_ck k) (q_sk k) Q (F0 m 1615 ls [])) : W p l e room_1 s m #[Value.ref b] below meth c H [] (q_ck k) (q_sk k) Q (F0 m 1334 ls []) := by
  have C := h.C hw
  have hx := C.1
  have hb := C.2.1
  unfold lop_35 at hf
  refine lv_aload_n hx hb dL_law_1334 rfl (lv_at hl 1 rfl) ?_
  refine q_sarg (j := 1) (jj := 1) (jv := 1) h hw hj hk6 hL (by omega) (by decide) (by decide) hl (i0 := 0) (i4 := 4) rfl rfl dL_law_1335 dL_law_1336 dL_law_1338 dL_law_1339 dL_law_1340 ?_
  refine q_sarg (j := 2) (jj := 2) (jv := 2) h hw hj hk6 hL (by omega) (by decide) (by decide) hl (i0 := 0) (i4 := 4) rfl rfl dL_law_1341 dL_law_1342 dL_law_1344 dL_law_1345 dL_law_1346 ?_
  refine q_sarg (j := 3) (jj := 3) (jv := 3) h hw hj hk6 hL (by omega) (by decide) (by decide) hl (i0 := 0) (i4 := 4) rfl rfl dL_law_1347 dL_law_1348 dL_law_1350 dL_law_1351 dL_law_1352 ?_
  refine q_cVWI C hj cw_L_167 (r := 0) (As := [.int (q_sx xs k 1), .int (q_sx xs k 2), .int (q_sx xs k 3)]) (rest := []) hf (fun v9 g9 h9 => c_X10_caught l _ h9) rfl hl rfl rfl rfl dL_law_1353 (q_rc hk6 hL) (fun r1 g H locs hj hf => ?_)
  refine lv_aload_n hx hb dL_law_1356 rfl (lv_at hl 2 rfl) ?_
  refine q_sarg (j := 1) (jj := 1) (jv := 1) h hw hj hk6 hL (by omega) (by decide) (by decide) hl (i0 := 0) (i4 := 4) rfl rfl dL_law_1357 dL_law_1358 dL_law_1360 dL_law_1361 dL_law_1362 ?_
  refine q_sarg (j := 2) (jj := 2) (jv := 2) h hw hj hk6 hL (by omega) (by decide) (by decide) hl (i0 := 0) (i4 := 4) rfl rfl dL_law_1363 dL_law_1364 dL_law_1366 dL_law_1367 dL_law_1368 ?_
  refine q_sarg (j := 3) (jj := 3) (jv := 3) h hw hj hk6 hL (by omega) (by decide) (by decide) hl (i0 := 0) (i4 := 4) rfl rfl dL_law_1369 dL_law_1370 dL_law_1372 dL_law_1373 dL_law_1374 ?_
  refine q_cVWI C hj cw_L_170 (r := 75) (As := [.int (q_sx xs k 1), .int (q_sx xs k 2), .int (q_sx xs k 3)]) (rest := [.int r1]) hf (fun v9 g9 h9 => c_X12_caught l _ h9) rfl hl rfl rfl rfl dL_law_1375 (q_rc hk6 hL) (fun r2 g H locs hj hf => ?_)
  refine q_iceq C (tgt := 1615) dL_law_1378 (by decide) hf (fun hf => ?_) (fun hf => by cases hf)
  cases hf
  exact q_LC.forget hw hj (kk _ (q_LC.J hw hj.1 (q_LC.S hw hj)))
theorem lawc_36 (h : q_LC l p s m meth c b L xs D cy sa sv) (hw : q_WF s ad n) (hj : q_J (q_En D cy sa sv ad n) s g H []) (hk6 : 6 * k + 6 ≤ L) (hL : L ≤ 3072) {g' : qS} (hf : lop_36 g (q_sx xs k 1) (q_sx xs k 2) (q_sx xs k 3) = some g') (hl : lv_has ls 7 [(0, .ref b), (1, .ref (ad 0)), (2, .ref (ad 75)), (3, .ref (ad 87)), (4, .int (nI (6 * k)))])
    (kk : ∀ H1, q_J (q_En D cy sa sv ad n) s g' H1 [] → W p l e room_1 s m #[Value.ref b] below meth c H1 [] (q_ck k) (q_sk k) Q (F0 m 1615 ls [])) : W p l e room_1 s m #[Value.ref b] below meth c H [] (q_ck k) (q_sk k) Q (F0 m 1383 ls []) := by
  have C := h.C hw
  have hx := C.1
  have hb := C.2.1
  unfold lop_36 at hf
  refine lv_aload_n hx hb dL_law_1383 rfl (lv_at hl 1 rfl) ?_
  refine q_sarg (j := 1) (jj := 1) (jv := 1) h hw hj hk6 hL (by omega) (by decide) (by decide) hl (i0 := 0) (i4 := 4) rfl rfl dL_law_1384 dL_law_1385 dL_law_1387 dL_law_1388 dL_law_1389 ?_
  refine q_sarg (j := 2) (jj := 2) (jv := 2) h hw hj hk6 hL (by omega) (by decide) (by decide) hl (i0 := 0) (i4 := 4) rfl rfl dL_law_1390 dL_law_1391 dL_law_1393 dL_law_1394 dL_law_1395 ?_
  refine q_sarg (j := 3) (jj := 3) (jv := 3) h hw hj hk6 hL (by omega) (by decide) (by decide) hl (i0 := 0) (i4 := 4) rfl rfl dL_law_1396 dL_law_1397 dL_law_1399 dL_law_1400 dL_law_1401 ?_
  refine q_cVWI C hj cw_L_171 (r := 0) (As := [.int (q_sx xs k 1), .int (q_sx xs k 2), .int (q_sx xs k 3)]) (rest := []) hf (fun v9 g9 h9 => c_X10_give l _ h9) rfl hl rfl rfl rfl dL_law_1402 (q_rc hk6 hL) (fun r1 g H locs hj hf => ?_)
  refine lv_aload_n hx hb dL_law_1405 rfl (lv_at hl 2 rfl) ?_
  refine q_sarg (j := 1) (jj := 1) (jv := 1) h hw hj hk6 hL (by omega) (by decide) (by decide) hl (i0 := 0) (i4 := 4) rfl rfl dL_law_1406 dL_law_1407 dL_law_1409 dL_law_1410 dL_law_1411 ?_
  refine q_sarg (j := 2) (jj := 2) (jv := 2) h hw hj hk6 hL (by omega) (by decide) (by decide) hl (i0 := 0) (i4 := 4) rfl rfl dL_law_1412 dL_law_1413 dL_law_1415 dL_law_1416 dL_law_1417 ?_
  refine q_sarg (j := 3) (jj := 3) (jv := 3) h hw hj hk6 hL (by omega) (by decide) (by decide) hl (i0 := 0) (i4 := 4) rfl rfl dL_law_1418 dL_law_1419 dL_law_1421 dL_law_1422 dL_law_1423 ?_
  refine q_cVWI C hj cw_L_174 (r := 75) (As := [.int (q_sx xs k 1), .int (q_sx xs k 2), .int (q_sx xs k 3)]) (rest := [.int r1]) hf (fun v9 g9 h9 => c_X12_give l _ h9) rfl hl rfl rfl rfl dL_law_1424 (q_rc hk6 hL) (fun r2 g H locs hj hf => ?_)
  refine q_iceq C (tgt := 1615) dL_law_1427 (by decide) hf (fun hf => ?_) (fun hf => by cases hf)
  cases hf
  exact q_LC.forget hw hj (kk _ (q_LC.J hw hj.1 (q_LC.S hw hj)))
theorem lawc_37 (h : q_LC l p s m meth c b L xs D cy sa sv) (hw : q_WF s ad n) (hj : q_J (q_En D cy sa sv ad n) s g H []) (hk6 : 6 * k + 6 ≤ L) (hL : L ≤ 3072) {g' : qS} (hf : lop_37 g  = some g') (hl : lv_has ls 7 [(0, .ref b), (1, .ref (ad 0)), (2, .ref (ad 75)), (3, .ref (ad 87)), (4, .int (nI (6 * k)))])
    (kk : ∀ H1, q_J (q_En D cy sa sv ad n) s g' H1 [] → W p l e room_1 s m #[Value.ref b] below meth c H1 [] (q_ck k) (q_sk k) Q (F0 m 1615 ls [])) : W p l e room_1 s m #[Value.ref b] below meth c H [] (q_ck k) (q_sk k) Q (F0 m 1432 ls []) := by
  have C := h.C hw
  have hx := C.1
  have hb := C.2.1
  unfold lop_37 at hf
  refine lv_aload_n hx hb dL_law_1432 rfl (lv_at hl 1 rfl) ?_
  refine q_cVWI C hj cw_L_175 (r := 0) (As := []) (rest := []) hf (fun v9 g9 h9 => c_X10_day l _ h9) rfl hl rfl rfl rfl dL_law_1433 (q_rc hk6 hL) (fun r1 g H locs hj hf => ?_)
  refine lv_aload_n hx hb dL_law_1436 rfl (lv_at hl 2 rfl) ?_
  refine q_cVWI C hj cw_L_178 (r := 75) (As := []) (rest := [.int r1]) hf (fun v9 g9 h9 => c_X12_day l _ h9) rfl hl rfl rfl rfl dL_law_1437 (q_rc hk6 hL) (fun r2 g H locs hj hf => ?_)
  refine q_iceq C (tgt := 1615) dL_law_1440 (by decide) hf (fun hf => ?_) (fun hf => by cases hf)
  cases hf
  exact q_LC.forget hw hj (kk _ (q_LC.J hw hj.1 (q_LC.S hw hj)))
theorem lawc_38 (h : q_LC l p s m meth c b L xs D cy sa sv) (hw : q_WF s ad n) (hj : q_J (q_En D cy sa sv ad n) s g H []) (hk6 : 6 * k + 6 ≤ L) (hL : L ≤ 3072) {g' : qS} (hf : lop_38 g (q_sx xs k 1) = some g') (hl : lv_has ls 7 [(0, .ref b), (1, .ref (ad 0)), (2, .ref (ad 75)), (3, .ref (ad 87)), (4, .int (nI (6 * k)))])
    (kk : ∀ H1, q_J (q_En D cy sa sv ad n) s g' H1 [] → W p l e room_1 s m #[Value.ref b] below meth c H1 [] (q_ck k) (q_sk k) Q (F0 m 1615 ls [])) : W p l e room_1 s m #[Value.ref b] below meth c H [] (q_ck k) (q_sk k) Q (F0 m 1445 ls []) := by
  have C := h.C hw
  have hx := C.1
  have hb := C.2.1
  unfold lop_38 at hf
  refine lv_aload_n hx hb dL_law_1445 rfl (lv_at hl 1 rfl) ?_
  refine q_sarg (j := 1) (jj := 1) (jv := 1) h hw hj hk6 hL (by omega) (by decide) (by decide) hl (i0 := 0) (i4 := 4) rfl rfl dL_law_1446 dL_law_1447 dL_law_1449 dL_law_1450 dL_law_1451 ?_
  refine q_cVWI C hj cw_L_179 (r := 0) (As := [.int (q_sx xs k 1)]) (rest := []) hf (fun v9 g9 h9 => c_X10_sew l _ h9) rfl hl rfl rfl rfl dL_law_1452 (q_rc hk6 hL) (fun r1 g H locs hj hf => ?_)
  refine lv_aload_n hx hb dL_law_1455 rfl (lv_at hl 2 rfl) ?_
  refine q_sarg (j := 1) (jj := 1) (jv := 1) h hw hj hk6 hL (by omega) (by decide) (by decide) hl (i0 := 0) (i4 := 4) rfl rfl dL_law_1456 dL_law_1457 dL_law_1459 dL_law_1460 dL_law_1461 ?_
  refine q_cVWI C hj cw_L_183 (r := 75) (As := [.int (q_sx xs k 1)]) (rest := [.int r1]) hf (fun v9 g9 h9 => c_X12_sew l _ h9) rfl hl rfl rfl rfl dL_law_1462 (q_rc hk6 hL) (fun r2 g H locs hj hf => ?_)
  refine q_iceq C (tgt := 1615) dL_law_1465 (by decide) hf (fun hf => ?_) (fun hf => by cases hf)
  cases hf
  exact q_LC.forget hw hj (kk _ (q_LC.J hw hj.1 (q_LC.S hw hj)))
theorem lawc_39 (h : q_LC l p s m meth c b L xs D cy sa sv) (hw : q_WF s ad n) (hj : q_J (q_En D cy sa sv ad n) s g H []) (hk6 : 6 * k + 6 ≤ L) (hL : L ≤ 3072) {g' : qS} (hf : lop_39 g  = some g') (hl : lv_has ls 7 [(0, .ref b), (1, .ref (ad 0)), (2, .ref (ad 75)), (3, .ref (ad 87)), (4, .int (nI (6 * k)))])
    (kk : ∀ H1, q_J (q_En D cy sa sv ad n) s g' H1 [] → W p l e room_1 s m #[Value.ref b] below meth c H1 [] (q_ck k) (q_sk k) Q (F0 m 1615 ls [])) : W p l e room_1 s m #[Value.ref b] below meth c H [] (q_ck k) (q_sk k) Q (F0 m 1470 ls []) := by
  have C := h.C hw
  have hx := C.1
  have hb := C.2.1
  unfold lop_39 at hf
  refine lv_aload_n hx hb dL_law_1470 rfl (lv_at hl 1 rfl) ?_
  refine q_cVWI C hj cw_L_184 (r := 0) (As := []) (rest := []) hf (fun v9 g9 h9 => c_X10_undo l _ h9) rfl hl rfl rfl rfl dL_law_1471 (q_rc hk6 hL) (fun r1 g H locs hj hf => ?_)
  refine lv_aload_n hx hb dL_law_1474 rfl (lv_at hl 2 rfl) ?_
  refine q_cVWI C hj cw_L_188 (r := 75) (As := []) (rest := [.int r1]) hf (fun v9 g9 h9 => c_X12_undo l _ h9) rfl hl rfl rfl rfl dL_law_1475 (q_rc hk6 hL) (fun r2 g H locs hj hf => ?_)
  refine q_iceq C (tgt := 1615) dL_law_1478 (by decide) hf (fun hf => ?_) (fun hf => by cases hf)
  cases hf
  exact q_LC.forget hw hj (kk _ (q_LC.J hw hj.1 (q_LC.S hw hj)))
theorem lawc_40 (h : q_LC l p s m meth c b L xs D cy sa sv) (hw : q_WF s ad n) (hj : q_J (q_En D cy sa sv ad n) s g H []) (hk6 : 6 * k + 6 ≤ L) (hL : L ≤ 3072) {g' : qS} (hf : lop_40 g  = some g') (hl : lv_has ls 7 [(0, .ref b), (1, .ref (ad 0)), (2, .ref (ad 75)), (3, .ref (ad 87)), (4, .int (nI (6 * k)))])
    (kk : ∀ H1, q_J (q_En D cy sa sv ad n) s g' H1 [] → W p l e room_1 s m #[Value.ref b] below meth c H1 [] (q_ck k) (q_sk k) Q (F0 m 1615 ls [])) : W p l e room_1 s m #[Value.ref b] below meth c H [] (q_ck k) (q_sk k) Q (F0 m 1483 ls []) := by
  have C := h.C hw
  have hx := C.1
  have hb := C.2.1
  unfold lop_40 at hf
  refine lv_aload_n hx hb dL_law_1483 rfl (lv_at hl 1 rfl) ?_
  refine q_cVWI C hj cw_L_189 (r := 0) (As := []) (rest := []) hf (fun v9 g9 h9 => c_X10_mark l _ h9) rfl hl rfl rfl rfl dL_law_1484 (q_rc hk6 hL) (fun r1 g H locs hj hf => ?_)
  refine lv_aload_n hx hb dL_law_1487 rfl (lv_at hl 2 rfl) ?_
  refine q_cVWI C hj cw_L_192 (r := 75) (As := []) (rest := [.int r1]) hf (fun v9 g9 h9 => c_X12_mark l _ h9) rfl hl rfl rfl rfl dL_law_1488 (q_rc hk6 hL) (fun r2 g H locs hj hf => ?_)
  refine q_iceq C (tgt := 1615) dL_law_1491 (by decide) hf (fun hf => ?_) (fun hf => by cases hf)
  cases hf
  exact q_LC.forget hw hj (kk _ (q_LC.J hw hj.1 (q_LC.S hw hj)))
theorem lawc_41 (h : q_LC l p s m meth c b L xs D cy sa sv) (hw : q_WF s ad n) (hj : q_J (q_En D cy sa sv ad n) s g H []) (hk6 : 6 * k + 6 ≤ L) (hL : L ≤ 3072) {g' : qS} (hf : lop_41 g (q_sx xs k 1) = some g') (hl : lv_has ls 7 [(0, .ref b), (1, .ref (ad 0)), (2, .ref (ad 75)), (3, .ref (ad 87)), (4, .int (nI (6 * k)))])
    (kk : ∀ H1, q_J (q_En D cy sa sv ad n) s g' H1 [] → W p l e room_1 s m #[Value.ref b] below meth c H1 [] (q_ck k) (q_sk k) Q (F0 m 1615 ls [])) : W p l e room_1 s m #[Value.ref b] below meth c H [] (q_ck k) (q_sk k) Q (F0 m 1496 ls []) := by
  have C := h.C hw
  have hx := C.1
  have hb := C.2.1
  unfold lop_41 at hf
  refine lv_aload_n hx hb dL_law_1496 rfl (lv_at hl 1 rfl) ?_
  refine q_sarg (j := 1) (jj := 1) (jv := 1) h hw hj hk6 hL (by omega) (by decide) (by decide) hl (i0 := 0) (i4 := 4) rfl rfl dL_law_1497 dL_law_1498 dL_law_1500 dL_law_1501 dL_law_1502 ?_
  refine q_cVWI C hj cw_L_193 (r := 0) (As := [.int (q_sx xs k 1)]) (rest := []) hf (fun v9 g9 h9 => c_X10_back l _ h9) rfl hl rfl rfl rfl dL_law_1503 (q_rc hk6 hL) (fun r1 g H locs hj hf => ?_)
  refine lv_aload_n hx hb dL_law_1506 rfl (lv_at hl 2 rfl) ?_
  refine q_sarg (j := 1) (jj := 1) (jv := 1) h hw hj hk6 hL (by omega) (by decide) (by decide) hl (i0 := 0) (i4 := 4) rfl rfl dL_law_1507 dL_law_1508 dL_law_1510 dL_law_1511 dL_law_1512 ?_
  refine q_cVWI C hj cw_L_196 (r := 75) (As := [.int (q_sx xs k 1)]) (rest := [.int r1]) hf (fun v9 g9 h9 => c_X12_back l _ h9) rfl hl rfl rfl rfl dL_law_1513 (q_rc hk6 hL) (fun r2 g H locs hj hf => ?_)
  refine q_iceq C (tgt := 1615) dL_law_1516 (by decide) hf (fun hf => ?_) (fun hf => by cases hf)
  cases hf
  exact q_LC.forget hw hj (kk _ (q_LC.J hw hj.1 (q_LC.S hw hj)))
theorem lawc_43 (h : q_LC l p s m meth c b L xs D cy sa sv) (hw : q_WF s ad n) (hj : q_J (q_En D cy sa sv ad n) s g H []) (hk6 : 6 * k + 6 ≤ L) (hL : L ≤ 3072) {g' : qS} (hf : lop_43 g (q_sx xs k 1) = some g') (hl : lv_has ls 7 [(0, .ref b), (1, .ref (ad 0)), (2, .ref (ad 75)), (3, .ref (ad 87)), (4, .int (nI (6 * k)))])
    (kk : ∀ H1, q_J (q_En D cy sa sv ad n) s g' H1 [] → W p l e room_1 s m #[Value.ref b] below meth c H1 [] (q_ck k) (q_sk k) Q (F0 m 1615 ls [])) : W p l e room_1 s m #[Value.ref b] below meth c H [] (q_ck k) (q_sk k) Q (F0 m 1577 ls []) := by
  have C := h.C hw
  have hx := C.1
  have hb := C.2.1
  unfold lop_43 at hf
  refine lv_aload_n hx hb dL_law_1577 rfl (lv_at hl 1 rfl) ?_
  refine q_sarg (j := 1) (jj := 1) (jv := 1) h hw hj hk6 hL (by omega) (by decide) (by decide) hl (i0 := 0) (i4 := 4) rfl rfl dL_law_1578 dL_law_1579 dL_law_1581 dL_law_1582 dL_law_1583 ?_
  refine q_cVRI C hj cw_L_206 (r := 0) (As := [.int (q_sx xs k 1)]) (rest := []) hf (fun v9 h9 => c_X10_size l _ h9) rfl hl rfl rfl rfl dL_law_1584 (q_rc hk6 hL) (fun r1 hf => ?_)
  refine lv_aload_n hx hb dL_law_1587 rfl (lv_at hl 2 rfl) ?_
  refine q_sarg (j := 1) (jj := 1) (jv := 1) h hw hj hk6 hL (by omega) (by decide) (by decide) hl (i0 := 0) (i4 := 4) rfl rfl dL_law_1588 dL_law_1589 dL_law_1591 dL_law_1592 dL_law_1593 ?_
  refine q_cVWI C hj cw_L_209 (r := 75) (As := [.int (q_sx xs k 1)]) (rest := [.int r1]) hf (fun v9 g9 h9 => c_X12_size l _ h9) rfl hl rfl rfl rfl dL_law_1594 (q_rc hk6 hL) (fun r2 g H locs hj hf => ?_)
  refine q_iceq C (tgt := 1615) dL_law_1597 (by decide) hf (fun hf => ?_) (fun hf => by cases hf)
  cases hf
  exact q_LC.forget hw hj (kk _ (q_LC.J hw hj.1 (q_LC.S hw hj)))
theorem lawc_44 (h : q_LC l p s m meth c b L xs D cy sa sv) (hw : q_WF s ad n) (hj : q_J (q_En D cy sa sv ad n) s g H []) (hk6 : 6 * k + 6 ≤ L) (hL : L ≤ 3072) {g' : qS} (hf : lop_44 g  = some g') (hl : lv_has ls 7 [(0, .ref b), (1, .ref (ad 0)), (2, .ref (ad 75)), (3, .ref (ad 87)), (4, .int (nI (6 * k)))])
    (kk : ∀ H1, q_J (q_En D cy sa sv ad n) s g' H1 [] → W p l e room_1 s m #[Value.ref b] below meth c H1 [] (q_ck k) (q_sk k) Q (F0 m 1615 ls [])) : W p l e room_1 s m #[Value.ref b] below meth c H [] (q_ck k) (q_sk k) Q (F0 m 1602 ls []) := by
  have C := h.C hw
  have hx := C.1
  have hb := C.2.1
  unfold lop_44 at hf
  refine lv_aload_n hx hb dL_law_1602 rfl (lv_at hl 1 rfl) ?_
  refine q_cVRI C hj cw_L_210 (r := 0) (As := []) (rest := []) hf (fun v9 h9 => c_X10_trouble l _ h9) rfl hl rfl rfl rfl dL_law_1603 (q_rc hk6 hL) (fun r1 hf => ?_)
  refine lv_aload_n hx hb dL_law_1606 rfl (lv_at hl 2 rfl) ?_
  refine q_cVWI C hj cw_L_213 (r := 75) (As := []) (rest := [.int r1]) hf (fun v9 g9 h9 => c_X12_trouble l _ h9) rfl hl rfl rfl rfl dL_law_1607 (q_rc hk6 hL) (fun r2 g H locs hj hf => ?_)
  refine q_iceq C (tgt := 1615) dL_law_1610 (by decide) hf (fun hf => ?_) (fun hf => by cases hf)
  cases hf
  exact q_LC.forget hw hj (kk _ (q_LC.J hw hj.1 (q_LC.S hw hj)))
end QLX
