def q_P0c (Inv : qS → Nat → Prop) : Prop := ∀ (g : qS) (n : Nat) (x1 : Int32) (x2 : Int32) (x3 : Int32) (x4 : Int32) (x5 : Int32), Inv g n → ∃ g', lop_0 g x1 x2 x3 x4 x5 = some g' ∧ Inv g' n
def q_P1c (Inv : qS → Nat → Prop) : Prop := ∀ (g : qS) (n : Nat) (x1 : Int32), Inv g n → ∃ g' n', lop_1 g n x1 = some g' ∧ Inv g' n' ∧ n ≤ n' ∧ n' ≤ n + 25
def q_P2c (Inv : qS → Nat → Prop) : Prop := ∀ (g : qS) (n : Nat), Inv g n → ∃ g', lop_2 g = some g' ∧ Inv g' n
def q_P3c (Inv : qS → Nat → Prop) : Prop := ∀ (g : qS) (n : Nat), Inv g n → ∃ g', lop_3 g = some g' ∧ Inv g' n
def q_P4c (Inv : qS → Nat → Prop) : Prop := ∀ (g : qS) (n : Nat) (x1 : Int32) (x2 : Int32), Inv g n → ∃ g', lop_4 g x1 x2 = some g' ∧ Inv g' n
def q_P5c (Inv : qS → Nat → Prop) : Prop := ∀ (g : qS) (n : Nat) (x1 : Int32) (x2 : Int32), Inv g n → ∃ g', lop_5 g x1 x2 = some g' ∧ Inv g' n
def q_P6c (Inv : qS → Nat → Prop) : Prop := ∀ (g : qS) (n : Nat) (x1 : Int32) (x2 : Int32), Inv g n → ∃ g', lop_6 g x1 x2 = some g' ∧ Inv g' n
def q_P7c (Inv : qS → Nat → Prop) : Prop := ∀ (g : qS) (n : Nat) (x1 : Int32) (x2 : Int32), Inv g n → ∃ g', lop_7 g x1 x2 = some g' ∧ Inv g' n
def q_P8c (Inv : qS → Nat → Prop) : Prop := ∀ (g : qS) (n : Nat) (x1 : Int32) (x2 : Int32), Inv g n → ∃ g', lop_8 g x1 x2 = some g' ∧ Inv g' n
def q_P9c (Inv : qS → Nat → Prop) : Prop := ∀ (g : qS) (n : Nat) (x1 : Int32) (x2 : Int32), Inv g n → ∃ g', lop_9 g x1 x2 = some g' ∧ Inv g' n
def q_P10c (Inv : qS → Nat → Prop) : Prop := ∀ (g : qS) (n : Nat) (x1 : Int32) (x2 : Int32) (x3 : Int32) (x4 : Int32), Inv g n → ∃ g', lop_10 g x1 x2 x3 x4 = some g' ∧ Inv g' n
def q_P11c (Inv : qS → Nat → Prop) : Prop := ∀ (g : qS) (n : Nat) (x1 : Int32) (x2 : Int32) (x3 : Int32), Inv g n → ∃ g', lop_11 g x1 x2 x3 = some g' ∧ Inv g' n
def q_P12c (Inv : qS → Nat → Prop) : Prop := ∀ (g : qS) (n : Nat) (x1 : Int32) (x2 : Int32), Inv g n → ∃ g', lop_12 g x1 x2 = some g' ∧ Inv g' n
def q_P13c (Inv : qS → Nat → Prop) : Prop := ∀ (g : qS) (n : Nat) (x1 : Int32), Inv g n → ∃ g', lop_13 g x1 = some g' ∧ Inv g' n
def q_P14c (Inv : qS → Nat → Prop) : Prop := ∀ (g : qS) (n : Nat) (x1 : Int32), Inv g n → ∃ g', lop_14 g x1 = some g' ∧ Inv g' n
def q_P15c (Inv : qS → Nat → Prop) : Prop := ∀ (g : qS) (n : Nat) (x1 : Int32), Inv g n → ∃ g', lop_15 g x1 = some g' ∧ Inv g' n
def q_P16c (Inv : qS → Nat → Prop) : Prop := ∀ (g : qS) (n : Nat) (x1 : Int32) (x2 : Int32), Inv g n → ∃ g', lop_16 g x1 x2 = some g' ∧ Inv g' n
def q_P17c (Inv : qS → Nat → Prop) : Prop := ∀ (g : qS) (n : Nat) (x1 : Int32) (x2 : Int32), Inv g n → ∃ g', lop_17 g x1 x2 = some g' ∧ Inv g' n
def q_P18c (Inv : qS → Nat → Prop) : Prop := ∀ (g : qS) (n : Nat), Inv g n → ∃ g', lop_18 g = some g' ∧ Inv g' n
def q_P19c (Inv : qS → Nat → Prop) : Prop := ∀ (g : qS) (n : Nat), Inv g n → ∃ g', lop_19 g = some g' ∧ Inv g' n
def q_P20c (Inv : qS → Nat → Prop) : Prop := ∀ (g : qS) (n : Nat), Inv g n → ∃ g', lop_20 g = some g' ∧ Inv g' n
def q_P21c (Inv : qS → Nat → Prop) : Prop := ∀ (g : qS) (n : Nat), Inv g n → ∃ g', lop_21 g = some g' ∧ Inv g' n
def q_P22c (Inv : qS → Nat → Prop) : Prop := ∀ (g : qS) (n : Nat) (x1 : Int32), Inv g n → ∃ g', lop_22 g x1 = some g' ∧ Inv g' n
def q_P23c (Inv : qS → Nat → Prop) : Prop := ∀ (g : qS) (n : Nat), Inv g n → ∃ g', lop_23 g = some g' ∧ Inv g' n
def q_P24c (Inv : qS → Nat → Prop) : Prop := ∀ (g : qS) (n : Nat), Inv g n → ∃ g', lop_24 g = some g' ∧ Inv g' n
def q_P25c (Inv : qS → Nat → Prop) : Prop := ∀ (g : qS) (n : Nat) (x1 : Int32), Inv g n → ∃ g', lop_25 g x1 = some g' ∧ Inv g' n
def q_P26c (Inv : qS → Nat → Prop) : Prop := ∀ (g : qS) (n : Nat) (x1 : Int32), Inv g n → ∃ g', lop_26 g x1 = some g' ∧ Inv g' n
def q_P27c (Inv : qS → Nat → Prop) : Prop := ∀ (g : qS) (n : Nat) (x1 : Int32), Inv g n → ∃ g', lop_27 g x1 = some g' ∧ Inv g' n
def q_P28c (Inv : qS → Nat → Prop) : Prop := ∀ (g : qS) (n : Nat) (x1 : Int32) (x2 : Int32), Inv g n → ∃ g', lop_28 g x1 x2 = some g' ∧ Inv g' n
def q_P29c (Inv : qS → Nat → Prop) : Prop := ∀ (g : qS) (n : Nat) (x1 : Int32), Inv g n → ∃ g', lop_29 g x1 = some g' ∧ Inv g' n
def q_P30c (Inv : qS → Nat → Prop) : Prop := ∀ (g : qS) (n : Nat) (x1 : Int32) (x2 : Int32), Inv g n → ∃ g', lop_30 g x1 x2 = some g' ∧ Inv g' n
def q_P31c (Inv : qS → Nat → Prop) : Prop := ∀ (g : qS) (n : Nat) (x1 : Int32), Inv g n → ∃ g', lop_31 g x1 = some g' ∧ Inv g' n
def q_P32c (Inv : qS → Nat → Prop) : Prop := ∀ (g : qS) (n : Nat) (x1 : Int32), Inv g n → ∃ g', lop_32 g x1 = some g' ∧ Inv g' n
def q_P33c (Inv : qS → Nat → Prop) : Prop := ∀ (g : qS) (n : Nat) (x1 : Int32) (x2 : Int32), Inv g n → ∃ g', lop_33 g x1 x2 = some g' ∧ Inv g' n
def q_P34c (Inv : qS → Nat → Prop) : Prop := ∀ (g : qS) (n : Nat) (x1 : Int32), Inv g n → ∃ g', lop_34 g x1 = some g' ∧ Inv g' n
def q_P35c (Inv : qS → Nat → Prop) : Prop := ∀ (g : qS) (n : Nat) (x1 : Int32) (x2 : Int32) (x3 : Int32), Inv g n → ∃ g', lop_35 g x1 x2 x3 = some g' ∧ Inv g' n
def q_P36c (Inv : qS → Nat → Prop) : Prop := ∀ (g : qS) (n : Nat) (x1 : Int32) (x2 : Int32) (x3 : Int32), Inv g n → ∃ g', lop_36 g x1 x2 x3 = some g' ∧ Inv g' n
def q_P37c (Inv : qS → Nat → Prop) : Prop := ∀ (g : qS) (n : Nat), Inv g n → ∃ g', lop_37 g = some g' ∧ Inv g' n
def q_P38c (Inv : qS → Nat → Prop) : Prop := ∀ (g : qS) (n : Nat) (x1 : Int32), Inv g n → ∃ g', lop_38 g x1 = some g' ∧ Inv g' n
def q_P39c (Inv : qS → Nat → Prop) : Prop := ∀ (g : qS) (n : Nat), Inv g n → ∃ g', lop_39 g = some g' ∧ Inv g' n
def q_P40c (Inv : qS → Nat → Prop) : Prop := ∀ (g : qS) (n : Nat), Inv g n → ∃ g', lop_40 g = some g' ∧ Inv g' n
def q_P41c (Inv : qS → Nat → Prop) : Prop := ∀ (g : qS) (n : Nat) (x1 : Int32), Inv g n → ∃ g', lop_41 g x1 = some g' ∧ Inv g' n
def q_P42c (Inv : qS → Nat → Prop) : Prop := ∀ (g : qS) (n : Nat) (x1 : Int32), Inv g n → ∃ g', lop_42 g x1 = some g' ∧ Inv g' n
def q_P43c (Inv : qS → Nat → Prop) : Prop := ∀ (g : qS) (n : Nat) (x1 : Int32), Inv g n → ∃ g', lop_43 g x1 = some g' ∧ Inv g' n
def q_P44c (Inv : qS → Nat → Prop) : Prop := ∀ (g : qS) (n : Nat), Inv g n → ∃ g', lop_44 g = some g' ∧ Inv g' n
/-- all that the pure level owes the law -/
def q_PA (Inv : qS → Nat → Prop) : Prop := (∀ g n, Inv g n → q_dom g n ∧ 88 ≤ n) ∧ q_P0c Inv ∧ q_P1c Inv ∧ q_P2c Inv ∧ q_P3c Inv ∧ q_P4c Inv ∧ q_P5c Inv ∧ q_P6c Inv ∧ q_P7c Inv ∧ q_P8c Inv ∧ q_P9c Inv ∧ q_P10c Inv ∧ q_P11c Inv ∧ q_P12c Inv ∧ q_P13c Inv ∧ q_P14c Inv ∧ q_P15c Inv ∧ q_P16c Inv ∧ q_P17c Inv ∧ q_P18c Inv ∧ q_P19c Inv ∧ q_P20c Inv ∧ q_P21c Inv ∧ q_P22c Inv ∧ q_P23c Inv ∧ q_P24c Inv ∧ q_P25c Inv ∧ q_P26c Inv ∧ q_P27c Inv ∧ q_P28c Inv ∧ q_P29c Inv ∧ q_P30c Inv ∧ q_P31c Inv ∧ q_P32c Inv ∧ q_P33c Inv ∧ q_P34c Inv ∧ q_P35c Inv ∧ q_P36c Inv ∧ q_P37c Inv ∧ q_P38c Inv ∧ q_P39c Inv ∧ q_P40c Inv ∧ q_P41c Inv ∧ q_P42c Inv ∧ q_P43c Inv ∧ q_P44c Inv
abbrev q_lv (b : Nat) (ad : Nat → Nat) (k : Nat) : List (Nat × Value) := [(0, .ref b), (1, .ref (ad 0)), (2, .ref (ad 75)), (3, .ref (ad 87)), (4, .int (nI (6 * k)))]
section QLZ
variable {l : Launch} {p : Program} {e : Env} {s : State} {m : MethodId} {below : List Frame} {meth : Method} {c : Code} {b L : Nat} {xs : Nat → Int32} {D : va_G} {cy : Nat → ClassId} {sa sv ad : Nat → Nat} {n : Nat} {g : qS} {H : Heap} {Q : State → Prop} {ls : Array Slot} {k : Nat} {Inv : qS → Nat → Prop}
set_option maxHeartbeats 4000000 in
theorem law_switch (h : q_LC l p s m meth c b L xs D cy sa sv) (hP : q_PA Inv) (hI : q_LI Inv s D cy sa sv ad n g H) (hk6 : 6 * k + 6 ≤ L) (hL : L ≤ 3072) (hl : lv_has ls 7 (q_lv b ad k)) (kk : ∀ (ad' : Nat → Nat) (n' : Nat) (g' : qS) (H1 : Heap) (ls : Array Slot), q_LI Inv s D cy sa sv ad' n' g' H1 → lv_has ls 7 (q_lv b ad' k) → W p l e room_1 s m #[Value.ref b] below meth c H1 [] (q_ck (k + 1)) (q_sk (k + 1)) Q (F0 m 1615 ls [])) : W p l e room_1 s m #[Value.ref b] below meth c H [] (q_ck k) (q_sk k) Q (F0 m 33 ls []) := by
  obtain ⟨hw, hh, hS, hi, hd, h88⟩ := hI
  have hj : q_J (q_En D cy sa sv ad n) s g H [] := q_LC.J hw hh hS
  have C := h.C hw
  have hx := C.1
  have hb := C.2.1
  obtain ⟨hdom, p0, p1, p2, p3, p4, p5, p6, p7, p8, p9, p10, p11, p12, p13, p14, p15, p16, p17, p18, p19, p20, p21, p22, p23, p24, p25, p26, p27, p28, p29, p30, p31, p32, p33, p34, p35, p36, p37, p38, p39, p40, p41, p42, p43, p44⟩ := hP
  have close : ∀ (g' : qS) (H1 : Heap), Inv g' n → q_J (q_En D cy sa sv ad n) s g' H1 [] → W p l e room_1 s m #[Value.ref b] below meth c H1 [] (q_ck k) (q_sk k) Q (F0 m 1615 ls []) := by
    intro g' H1 hi hj
    refine W.widen (k := q_ck (k + 1)) (n := q_sk (k + 1)) (by show 100 + 25 * k ≤ 100 + 25 * (k + 1); omega) (by show 13000 + 269 * k ≤ 13000 + 269 * (k + 1); omega) ?_
    exact kk ad n g' H1 ls ⟨hw, hj.1, q_LC.S hw hj, hi, (hdom g' n hi).1, h88⟩ hl
  refine lv_aload_n hx hb dL_law_33 rfl (lv_at hl 0 rfl) ?_
  refine lv_iload hx hb dL_law_34 (lv_at hl 4 rfl) ?_
  have hbl := h.1.2.2.2.2.2.2.2.1
  refine va_sld (A := q_A (q_En D cy sa sv ad n)) (H0 := s.heap) (i := nI (6 * k)) hx hb h.1.2.2.2.2.2.2.1 hbl (fun ⟨r, h3, h4⟩ => absurd hbl (Nat.not_lt.mpr (h4 ▸ hw.2 r h3))) hj.2 (vp_in_nI (by omega) (by omega)) dL_law_36 ?_
  refine lv_bipush (v := 63) hx hb dL_law_37 (by decide) ?_
  refine lv_iand hx hb dL_law_39 ?_
  generalize xs (nI (6 * k)).toNatClampNeg &&& 63 = x
  by_cases c0 : x = 0
  · refine lv_tableIn (tgt := 236) hx hb dL_law_40 (by rw [c0]; decide) (by rw [c0]; decide) (by rw [c0]; rfl) (by decide) ?_
    obtain ⟨g', hf, hi'⟩ := p0 g n (q_sx xs k 1) (q_sx xs k 2) (q_sx xs k 3) (q_sx xs k 4) (q_sx xs k 5) hi
    exact lawc_0 h hw hj hk6 hL hf hl (fun H1 hj => close g' H1 hi' hj)
  by_cases c1 : x = 1
  · refine lv_tableIn (tgt := 309) hx hb dL_law_40 (by rw [c1]; decide) (by rw [c1]; decide) (by rw [c1]; rfl) (by decide) ?_
    obtain ⟨g', n', hf, hi', hn1, hn2⟩ := p1 g n (q_sx xs k 1) hi
    refine lawc_1 h hw hj hd h88 hk6 hL hf (hdom g' n' hi').1 hn2 hl (fun ad' H1 heq hw' hj' => ?_)
    have hl2 : lv_has ls 7 (q_lv b ad' k) := by
      have := hl
      show lv_has ls 7 [(0, .ref b), (1, .ref (ad' 0)), (2, .ref (ad' 75)), (3, .ref (ad' 87)), (4, .int (nI (6 * k)))]
      rw [← heq 0 (by omega), ← heq 75 (by omega), ← heq 87 (by omega)]
      exact this
    refine W.widen (k := q_ck (k + 1)) (n := q_sk (k + 1)) (by show 100 + 25 * k + 25 ≤ 100 + 25 * (k + 1); omega) (by show 13000 + 269 * k + 269 ≤ 13000 + 269 * (k + 1); omega) ?_
    exact kk ad' n' g' H1 ls ⟨hw', hj'.1, q_LC.S hw' hj', hi', (hdom g' n' hi').1, by omega⟩ hl2
  by_cases c2 : x = 2
  · refine lv_tableIn (tgt := 334) hx hb dL_law_40 (by rw [c2]; decide) (by rw [c2]; decide) (by rw [c2]; rfl) (by decide) ?_
    obtain ⟨g', hf, hi'⟩ := p2 g n hi
    exact lawc_2 h hw hj hk6 hL hf hl (fun H1 hj => close g' H1 hi' hj)
  by_cases c3 : x = 3
  · refine lv_tableIn (tgt := 347) hx hb dL_law_40 (by rw [c3]; decide) (by rw [c3]; decide) (by rw [c3]; rfl) (by decide) ?_
    obtain ⟨g', hf, hi'⟩ := p3 g n hi
    exact lawc_3 h hw hj hk6 hL hf hl (fun H1 hj => close g' H1 hi' hj)
  by_cases c4 : x = 4
  · refine lv_tableIn (tgt := 360) hx hb dL_law_40 (by rw [c4]; decide) (by rw [c4]; decide) (by rw [c4]; rfl) (by decide) ?_
    obtain ⟨g', hf, hi'⟩ := p4 g n (q_sx xs k 1) (q_sx xs k 2) hi
    exact lawc_4 h hw hj hk6 hL hf hl (fun H1 hj => close g' H1 hi' hj)
  by_cases c5 : x = 5
  · refine lv_tableIn (tgt := 397) hx hb dL_law_40 (by rw [c5]; decide) (by rw [c5]; decide) (by rw [c5]; rfl) (by decide) ?_
    obtain ⟨g', hf, hi'⟩ := p5 g n (q_sx xs k 1) (q_sx xs k 2) hi
    exact lawc_5 h hw hj hk6 hL hf hl (fun H1 hj => close g' H1 hi' hj)
  by_cases c6 : x = 6
  · refine lv_tableIn (tgt := 434) hx hb dL_law_40 (by rw [c6]; decide) (by rw [c6]; decide) (by rw [c6]; rfl) (by decide) ?_
    obtain ⟨g', hf, hi'⟩ := p6 g n (q_sx xs k 1) (q_sx xs k 2) hi
    exact lawc_6 h hw hj hk6 hL hf hl (fun H1 hj => close g' H1 hi' hj)
  by_cases c7 : x = 7
  · refine lv_tableIn (tgt := 471) hx hb dL_law_40 (by rw [c7]; decide) (by rw [c7]; decide) (by rw [c7]; rfl) (by decide) ?_
    obtain ⟨g', hf, hi'⟩ := p7 g n (q_sx xs k 1) (q_sx xs k 2) hi
    exact lawc_7 h hw hj hk6 hL hf hl (fun H1 hj => close g' H1 hi' hj)
  by_cases c8 : x = 8
  · refine lv_tableIn (tgt := 508) hx hb dL_law_40 (by rw [c8]; decide) (by rw [c8]; decide) (by rw [c8]; rfl) (by decide) ?_
    obtain ⟨g', hf, hi'⟩ := p8 g n (q_sx xs k 1) (q_sx xs k 2) hi
    exact lawc_8 h hw hj hk6 hL hf hl (fun H1 hj => close g' H1 hi' hj)
  by_cases c9 : x = 9
  · refine lv_tableIn (tgt := 545) hx hb dL_law_40 (by rw [c9]; decide) (by rw [c9]; decide) (by rw [c9]; rfl) (by decide) ?_
    obtain ⟨g', hf, hi'⟩ := p9 g n (q_sx xs k 1) (q_sx xs k 2) hi
    exact lawc_9 h hw hj hk6 hL hf hl (fun H1 hj => close g' H1 hi' hj)
  by_cases c10 : x = 10
  · refine lv_tableIn (tgt := 582) hx hb dL_law_40 (by rw [c10]; decide) (by rw [c10]; decide) (by rw [c10]; rfl) (by decide) ?_
    obtain ⟨g', hf, hi'⟩ := p10 g n (q_sx xs k 1) (q_sx xs k 2) (q_sx xs k 3) (q_sx xs k 4) hi
    exact lawc_10 h hw hj hk6 hL hf hl (fun H1 hj => close g' H1 hi' hj)
  by_cases c11 : x = 11
  · refine lv_tableIn (tgt := 643) hx hb dL_law_40 (by rw [c11]; decide) (by rw [c11]; decide) (by rw [c11]; rfl) (by decide) ?_
    obtain ⟨g', hf, hi'⟩ := p11 g n (q_sx xs k 1) (q_sx xs k 2) (q_sx xs k 3) hi
    exact lawc_11 h hw hj hk6 hL hf hl (fun H1 hj => close g' H1 hi' hj)
  by_cases c12 : x = 12
  · refine lv_tableIn (tgt := 692) hx hb dL_law_40 (by rw [c12]; decide) (by rw [c12]; decide) (by rw [c12]; rfl) (by decide) ?_
    obtain ⟨g', hf, hi'⟩ := p12 g n (q_sx xs k 1) (q_sx xs k 2) hi
    exact lawc_12 h hw hj hk6 hL hf hl (fun H1 hj => close g' H1 hi' hj)
  by_cases c13 : x = 13
  · refine lv_tableIn (tgt := 729) hx hb dL_law_40 (by rw [c13]; decide) (by rw [c13]; decide) (by rw [c13]; rfl) (by decide) ?_
    obtain ⟨g', hf, hi'⟩ := p13 g n (q_sx xs k 1) hi
    exact lawc_13 h hw hj hk6 hL hf hl (fun H1 hj => close g' H1 hi' hj)
  by_cases c14 : x = 14
  · refine lv_tableIn (tgt := 754) hx hb dL_law_40 (by rw [c14]; decide) (by rw [c14]; decide) (by rw [c14]; rfl) (by decide) ?_
    obtain ⟨g', hf, hi'⟩ := p14 g n (q_sx xs k 1) hi
    exact lawc_14 h hw hj hk6 hL hf hl (fun H1 hj => close g' H1 hi' hj)
  by_cases c15 : x = 15
  · refine lv_tableIn (tgt := 779) hx hb dL_law_40 (by rw [c15]; decide) (by rw [c15]; decide) (by rw [c15]; rfl) (by decide) ?_
    obtain ⟨g', hf, hi'⟩ := p15 g n (q_sx xs k 1) hi
    exact lawc_15 h hw hj hk6 hL hf hl (fun H1 hj => close g' H1 hi' hj)
  by_cases c16 : x = 16
  · refine lv_tableIn (tgt := 804) hx hb dL_law_40 (by rw [c16]; decide) (by rw [c16]; decide) (by rw [c16]; rfl) (by decide) ?_
    obtain ⟨g', hf, hi'⟩ := p16 g n (q_sx xs k 1) (q_sx xs k 2) hi
    exact lawc_16 h hw hj hk6 hL hf hl (fun H1 hj => close g' H1 hi' hj)
  by_cases c17 : x = 17
  · refine lv_tableIn (tgt := 841) hx hb dL_law_40 (by rw [c17]; decide) (by rw [c17]; decide) (by rw [c17]; rfl) (by decide) ?_
    obtain ⟨g', hf, hi'⟩ := p17 g n (q_sx xs k 1) (q_sx xs k 2) hi
    exact lawc_17 h hw hj hk6 hL hf hl (fun H1 hj => close g' H1 hi' hj)
  by_cases c18 : x = 18
  · refine lv_tableIn (tgt := 878) hx hb dL_law_40 (by rw [c18]; decide) (by rw [c18]; decide) (by rw [c18]; rfl) (by decide) ?_
    obtain ⟨g', hf, hi'⟩ := p18 g n hi
    exact lawc_18 h hw hj hk6 hL hf hl (fun H1 hj => close g' H1 hi' hj)
  by_cases c19 : x = 19
  · refine lv_tableIn (tgt := 891) hx hb dL_law_40 (by rw [c19]; decide) (by rw [c19]; decide) (by rw [c19]; rfl) (by decide) ?_
    obtain ⟨g', hf, hi'⟩ := p19 g n hi
    exact lawc_19 h hw hj hk6 hL hf hl (fun H1 hj => close g' H1 hi' hj)
  by_cases c20 : x = 20
  · refine lv_tableIn (tgt := 904) hx hb dL_law_40 (by rw [c20]; decide) (by rw [c20]; decide) (by rw [c20]; rfl) (by decide) ?_
    obtain ⟨g', hf, hi'⟩ := p20 g n hi
    exact lawc_20 h hw hj hk6 hL hf hl (fun H1 hj => close g' H1 hi' hj)
  by_cases c21 : x = 21
  · refine lv_tableIn (tgt := 917) hx hb dL_law_40 (by rw [c21]; decide) (by rw [c21]; decide) (by rw [c21]; rfl) (by decide) ?_
    obtain ⟨g', hf, hi'⟩ := p21 g n hi
    exact lawc_21 h hw hj hk6 hL hf hl (fun H1 hj => close g' H1 hi' hj)
  by_cases c22 : x = 22
  · refine lv_tableIn (tgt := 930) hx hb dL_law_40 (by rw [c22]; decide) (by rw [c22]; decide) (by rw [c22]; rfl) (by decide) ?_
    obtain ⟨g', hf, hi'⟩ := p22 g n (q_sx xs k 1) hi
    exact lawc_22 h hw hj hk6 hL hf hl (fun H1 hj => close g' H1 hi' hj)
  by_cases c23 : x = 23
  · refine lv_tableIn (tgt := 955) hx hb dL_law_40 (by rw [c23]; decide) (by rw [c23]; decide) (by rw [c23]; rfl) (by decide) ?_
    obtain ⟨g', hf, hi'⟩ := p23 g n hi
    exact lawc_23 h hw hj hk6 hL hf hl (fun H1 hj => close g' H1 hi' hj)
  by_cases c24 : x = 24
  · refine lv_tableIn (tgt := 968) hx hb dL_law_40 (by rw [c24]; decide) (by rw [c24]; decide) (by rw [c24]; rfl) (by decide) ?_
    obtain ⟨g', hf, hi'⟩ := p24 g n hi
    exact lawc_24 h hw hj hk6 hL hf hl (fun H1 hj => close g' H1 hi' hj)
  by_cases c25 : x = 25
  · refine lv_tableIn (tgt := 981) hx hb dL_law_40 (by rw [c25]; decide) (by rw [c25]; decide) (by rw [c25]; rfl) (by decide) ?_
    obtain ⟨g', hf, hi'⟩ := p25 g n (q_sx xs k 1) hi
    exact lawc_25 h hw hj hk6 hL hf hl (fun H1 hj => close g' H1 hi' hj)
  by_cases c26 : x = 26
  · refine lv_tableIn (tgt := 1006) hx hb dL_law_40 (by rw [c26]; decide) (by rw [c26]; decide) (by rw [c26]; rfl) (by decide) ?_
    obtain ⟨g', hf, hi'⟩ := p26 g n (q_sx xs k 1) hi
    exact lawc_26 h hw hj hk6 hL hf hl (fun H1 hj => close g' H1 hi' hj)
  by_cases c27 : x = 27
  · refine lv_tableIn (tgt := 1031) hx hb dL_law_40 (by rw [c27]; decide) (by rw [c27]; decide) (by rw [c27]; rfl) (by decide) ?_
    obtain ⟨g', hf, hi'⟩ := p27 g n (q_sx xs k 1) hi
    exact lawc_27 h hw hj hk6 hL hf hl (fun H1 hj => close g' H1 hi' hj)
  by_cases c28 : x = 28
  · refine lv_tableIn (tgt := 1073) hx hb dL_law_40 (by rw [c28]; decide) (by rw [c28]; decide) (by rw [c28]; rfl) (by decide) ?_
    obtain ⟨g', hf, hi'⟩ := p28 g n (q_sx xs k 1) (q_sx xs k 2) hi
    exact lawc_28 h hw hj hk6 hL hf hl (fun H1 hj => close g' H1 hi' hj)
  by_cases c29 : x = 29
  · refine lv_tableIn (tgt := 1127) hx hb dL_law_40 (by rw [c29]; decide) (by rw [c29]; decide) (by rw [c29]; rfl) (by decide) ?_
    obtain ⟨g', hf, hi'⟩ := p29 g n (q_sx xs k 1) hi
    exact lawc_29 h hw hj hk6 hL hf hl (fun H1 hj => close g' H1 hi' hj)
  by_cases c30 : x = 30
  · refine lv_tableIn (tgt := 1152) hx hb dL_law_40 (by rw [c30]; decide) (by rw [c30]; decide) (by rw [c30]; rfl) (by decide) ?_
    obtain ⟨g', hf, hi'⟩ := p30 g n (q_sx xs k 1) (q_sx xs k 2) hi
    exact lawc_30 h hw hj hk6 hL hf hl (fun H1 hj => close g' H1 hi' hj)
  by_cases c31 : x = 31
  · refine lv_tableIn (tgt := 1189) hx hb dL_law_40 (by rw [c31]; decide) (by rw [c31]; decide) (by rw [c31]; rfl) (by decide) ?_
    obtain ⟨g', hf, hi'⟩ := p31 g n (q_sx xs k 1) hi
    exact lawc_31 h hw hj hk6 hL hf hl (fun H1 hj => close g' H1 hi' hj)
  by_cases c32 : x = 32
  · refine lv_tableIn (tgt := 1230) hx hb dL_law_40 (by rw [c32]; decide) (by rw [c32]; decide) (by rw [c32]; rfl) (by decide) ?_
    obtain ⟨g', hf, hi'⟩ := p32 g n (q_sx xs k 1) hi
    exact lawc_32 h hw hj hk6 hL hf hl (fun H1 hj => close g' H1 hi' hj)
  by_cases c33 : x = 33
  · refine lv_tableIn (tgt := 1255) hx hb dL_law_40 (by rw [c33]; decide) (by rw [c33]; decide) (by rw [c33]; rfl) (by decide) ?_
    obtain ⟨g', hf, hi'⟩ := p33 g n (q_sx xs k 1) (q_sx xs k 2) hi
    exact lawc_33 h hw hj hk6 hL hf hl (fun H1 hj => close g' H1 hi' hj)
  by_cases c34 : x = 34
  · refine lv_tableIn (tgt := 1309) hx hb dL_law_40 (by rw [c34]; decide) (by rw [c34]; decide) (by rw [c34]; rfl) (by decide) ?_
    obtain ⟨g', hf, hi'⟩ := p34 g n (q_sx xs k 1) hi
    exact lawc_34 h hw hj hk6 hL hf hl (fun H1 hj => close g' H1 hi' hj)
  by_cases c35 : x = 35
  · refine lv_tableIn (tgt := 1334) hx hb dL_law_40 (by rw [c35]; decide) (by rw [c35]; decide) (by rw [c35]; rfl) (by decide) ?_
    obtain ⟨g', hf, hi'⟩ := p35 g n (q_sx xs k 1) (q_sx xs k 2) (q_sx xs k 3) hi
    exact lawc_35 h hw hj hk6 hL hf hl (fun H1 hj => close g' H1 hi' hj)
  by_cases c36 : x = 36
  · refine lv_tableIn (tgt := 1383) hx hb dL_law_40 (by rw [c36]; decide) (by rw [c36]; decide) (by rw [c36]; rfl) (by decide) ?_
    obtain ⟨g', hf, hi'⟩ := p36 g n (q_sx xs k 1) (q_sx xs k 2) (q_sx xs k 3) hi
    exact lawc_36 h hw hj hk6 hL hf hl (fun H1 hj => close g' H1 hi' hj)
  by_cases c37 : x = 37
  · refine lv_tableIn (tgt := 1432) hx hb dL_law_40 (by rw [c37]; decide) (by rw [c37]; decide) (by rw [c37]; rfl) (by decide) ?_
    obtain ⟨g', hf, hi'⟩ := p37 g n hi
    exact lawc_37 h hw hj hk6 hL hf hl (fun H1 hj => close g' H1 hi' hj)
  by_cases c38 : x = 38
  · refine lv_tableIn (tgt := 1445) hx hb dL_law_40 (by rw [c38]; decide) (by rw [c38]; decide) (by rw [c38]; rfl) (by decide) ?_
    obtain ⟨g', hf, hi'⟩ := p38 g n (q_sx xs k 1) hi
    exact lawc_38 h hw hj hk6 hL hf hl (fun H1 hj => close g' H1 hi' hj)
  by_cases c39 : x = 39
  · refine lv_tableIn (tgt := 1470) hx hb dL_law_40 (by rw [c39]; decide) (by rw [c39]; decide) (by rw [c39]; rfl) (by decide) ?_
    obtain ⟨g', hf, hi'⟩ := p39 g n hi
    exact lawc_39 h hw hj hk6 hL hf hl (fun H1 hj => close g' H1 hi' hj)
  by_cases c40 : x = 40
  · refine lv_tableIn (tgt := 1483) hx hb dL_law_40 (by rw [c40]; decide) (by rw [c40]; decide) (by rw [c40]; rfl) (by decide) ?_
    obtain ⟨g', hf, hi'⟩ := p40 g n hi
    exact lawc_40 h hw hj hk6 hL hf hl (fun H1 hj => close g' H1 hi' hj)
  by_cases c41 : x = 41
  · refine lv_tableIn (tgt := 1496) hx hb dL_law_40 (by rw [c41]; decide) (by rw [c41]; decide) (by rw [c41]; rfl) (by decide) ?_
    obtain ⟨g', hf, hi'⟩ := p41 g n (q_sx xs k 1) hi
    exact lawc_41 h hw hj hk6 hL hf hl (fun H1 hj => close g' H1 hi' hj)
  by_cases c42 : x = 42
  · refine lv_tableIn (tgt := 1521) hx hb dL_law_40 (by rw [c42]; decide) (by rw [c42]; decide) (by rw [c42]; rfl) (by decide) ?_
    obtain ⟨g', hf, hi'⟩ := p42 g n (q_sx xs k 1) hi
    refine lawc_42 h hw hj hk6 hL hf hl (fun ls H1 hl hj' => ?_)
    refine W.widen (k := q_ck (k + 1)) (n := q_sk (k + 1)) (by show 100 + 25 * k + 1 ≤ 100 + 25 * (k + 1); omega) (by show 13000 + 269 * k + 6 ≤ 13000 + 269 * (k + 1); omega) ?_
    exact kk ad n g' H1 ls ⟨hw, hj'.1, q_LC.S hw hj', hi', (hdom g' n hi').1, h88⟩ hl
  by_cases c43 : x = 43
  · refine lv_tableIn (tgt := 1577) hx hb dL_law_40 (by rw [c43]; decide) (by rw [c43]; decide) (by rw [c43]; rfl) (by decide) ?_
    obtain ⟨g', hf, hi'⟩ := p43 g n (q_sx xs k 1) hi
    exact lawc_43 h hw hj hk6 hL hf hl (fun H1 hj => close g' H1 hi' hj)
  by_cases c44 : x = 44
  · refine lv_tableIn (tgt := 1602) hx hb dL_law_40 (by rw [c44]; decide) (by rw [c44]; decide) (by rw [c44]; rfl) (by decide) ?_
    obtain ⟨g', hf, hi'⟩ := p44 g n hi
    exact lawc_44 h hw hj hk6 hL hf hl (fun H1 hj => close g' H1 hi' hj)
  refine lv_tableOut (tgt := 1615) hx hb dL_law_40 (by have z0 : x.toInt ≠ 0 := fun z => c0 (Int32.toInt_inj.mp z); have z1 : x.toInt ≠ 1 := fun z => c1 (Int32.toInt_inj.mp z); have z2 : x.toInt ≠ 2 := fun z => c2 (Int32.toInt_inj.mp z); have z3 : x.toInt ≠ 3 := fun z => c3 (Int32.toInt_inj.mp z); have z4 : x.toInt ≠ 4 := fun z => c4 (Int32.toInt_inj.mp z); have z5 : x.toInt ≠ 5 := fun z => c5 (Int32.toInt_inj.mp z); have z6 : x.toInt ≠ 6 := fun z => c6 (Int32.toInt_inj.mp z); have z7 : x.toInt ≠ 7 := fun z => c7 (Int32.toInt_inj.mp z); have z8 : x.toInt ≠ 8 := fun z => c8 (Int32.toInt_inj.mp z); have z9 : x.toInt ≠ 9 := fun z => c9 (Int32.toInt_inj.mp z); have z10 : x.toInt ≠ 10 := fun z => c10 (Int32.toInt_inj.mp z); have z11 : x.toInt ≠ 11 := fun z => c11 (Int32.toInt_inj.mp z); have z12 : x.toInt ≠ 12 := fun z => c12 (Int32.toInt_inj.mp z); have z13 : x.toInt ≠ 13 := fun z => c13 (Int32.toInt_inj.mp z); have z14 : x.toInt ≠ 14 := fun z => c14 (Int32.toInt_inj.mp z); have z15 : x.toInt ≠ 15 := fun z => c15 (Int32.toInt_inj.mp z); have z16 : x.toInt ≠ 16 := fun z => c16 (Int32.toInt_inj.mp z); have z17 : x.toInt ≠ 17 := fun z => c17 (Int32.toInt_inj.mp z); have z18 : x.toInt ≠ 18 := fun z => c18 (Int32.toInt_inj.mp z); have z19 : x.toInt ≠ 19 := fun z => c19 (Int32.toInt_inj.mp z); have z20 : x.toInt ≠ 20 := fun z => c20 (Int32.toInt_inj.mp z); have z21 : x.toInt ≠ 21 := fun z => c21 (Int32.toInt_inj.mp z); have z22 : x.toInt ≠ 22 := fun z => c22 (Int32.toInt_inj.mp z); have z23 : x.toInt ≠ 23 := fun z => c23 (Int32.toInt_inj.mp z); have z24 : x.toInt ≠ 24 := fun z => c24 (Int32.toInt_inj.mp z); have z25 : x.toInt ≠ 25 := fun z => c25 (Int32.toInt_inj.mp z); have z26 : x.toInt ≠ 26 := fun z => c26 (Int32.toInt_inj.mp z); have z27 : x.toInt ≠ 27 := fun z => c27 (Int32.toInt_inj.mp z); have z28 : x.toInt ≠ 28 := fun z => c28 (Int32.toInt_inj.mp z); have z29 : x.toInt ≠ 29 := fun z => c29 (Int32.toInt_inj.mp z); have z30 : x.toInt ≠ 30 := fun z => c30 (Int32.toInt_inj.mp z); have z31 : x.toInt ≠ 31 := fun z => c31 (Int32.toInt_inj.mp z); have z32 : x.toInt ≠ 32 := fun z => c32 (Int32.toInt_inj.mp z); have z33 : x.toInt ≠ 33 := fun z => c33 (Int32.toInt_inj.mp z); have z34 : x.toInt ≠ 34 := fun z => c34 (Int32.toInt_inj.mp z); have z35 : x.toInt ≠ 35 := fun z => c35 (Int32.toInt_inj.mp z); have z36 : x.toInt ≠ 36 := fun z => c36 (Int32.toInt_inj.mp z); have z37 : x.toInt ≠ 37 := fun z => c37 (Int32.toInt_inj.mp z); have z38 : x.toInt ≠ 38 := fun z => c38 (Int32.toInt_inj.mp z); have z39 : x.toInt ≠ 39 := fun z => c39 (Int32.toInt_inj.mp z); have z40 : x.toInt ≠ 40 := fun z => c40 (Int32.toInt_inj.mp z); have z41 : x.toInt ≠ 41 := fun z => c41 (Int32.toInt_inj.mp z); have z42 : x.toInt ≠ 42 := fun z => c42 (Int32.toInt_inj.mp z); have z43 : x.toInt ≠ 43 := fun z => c43 (Int32.toInt_inj.mp z); have z44 : x.toInt ≠ 44 := fun z => c44 (Int32.toInt_inj.mp z); omega) (by decide) ?_
  exact close g H hi hj
theorem q_lcnd {k L : Nat} (h1 : 6 * k ≤ L) (hL : L ≤ 3072) : (Int32.ofNat L - 6 < nI (6 * k)) ↔ ¬ 6 * k + 6 ≤ L := by
  rw [Int32.lt_iff_toInt_lt, show Int32.ofNat L - 6 = nI L - nI 6 from rfl, pk_sub_toInt (by omega) (by omega), nI_toInt (by omega)]
  omega
theorem law_head (h : q_LC l p s m meth c b L xs D cy sa sv) (hP : q_PA Inv) (hL : L ≤ 3072) (hk : 6 * k ≤ L) (hI : q_LI Inv s D cy sa sv ad n g H) (hl : lv_has ls 7 (q_lv b ad k)) (kk : 6 * k + 6 ≤ L → ∀ (ad' : Nat → Nat) (n' : Nat) (g' : qS) (H1 : Heap) (ls : Array Slot), q_LI Inv s D cy sa sv ad' n' g' H1 → lv_has ls 7 (q_lv b ad' (k + 1)) → W p l e room_1 s m #[Value.ref b] below meth c H1 [] (q_ck (k + 1)) (q_sk (k + 1)) (lw_Z below #[Value.ref b] s) (F0 m 23 ls [])) : W p l e room_1 s m #[Value.ref b] below meth c H [] (q_ck k) (q_sk k) (lw_Z below #[Value.ref b] s) (F0 m 23 ls []) := by
  have hw := hI.1
  have hj : q_J (q_En D cy sa sv ad n) s g H [] := q_LC.J hw hI.2.1 hI.2.2.1
  have C := h.C hw
  have hx := C.1
  have hb := C.2.1
  have hbl := h.1.2.2.2.2.2.2.2.1
  refine lv_iload hx hb dL_law_23 (lv_at hl 4 rfl) ?_
  refine lv_aload_n hx hb dL_law_25 rfl (lv_at hl 0 rfl) ?_
  refine va_slen (A := q_A (q_En D cy sa sv ad n)) (H0 := s.heap) hx hb h.1.2.2.2.2.2.2.1 hbl (fun ⟨r, h3, h4⟩ => absurd hbl (Nat.not_lt.mpr (h4 ▸ hw.2 r h3))) hj.2 dL_law_26 ?_
  refine lv_bipush (v := 6) hx hb dL_law_27 (by decide) ?_
  refine lv_isub hx hb dL_law_29 ?_
  refine lv_icmp_gt (tgt := 1621) hx hb dL_law_30 (by decide) (fun hc => ?_) (fun hc => ?_)
  · refine W.widen (k := 601024) (n := 7293034) (by show 100 + 25 * k ≤ 601024; omega) (by show 13000 + 269 * k ≤ 7293034; omega) ?_
    refine lv_iconst (v := 1) hx hb dL_law_1621 qi_1 ?_
    exact lw_ret hx h.1.2.1 h.1.2.2.1 h.1.2.2.2.2.2.2.2.2.1 dL_law_1622
  · have h6 : 6 * k + 6 ≤ L := Classical.byContradiction fun z => hc ((q_lcnd hk hL).mpr z)
    refine law_switch h hP hI h6 hL hl (fun ad' n' g' H1 ls hI' hl' => ?_)
    refine lv_iinc (v := nI (6 * (k + 1))) (lv' := [(4, .int (nI (6 * (k + 1)))), (0, .ref b), (1, .ref (ad' 0)), (2, .ref (ad' 75)), (3, .ref (ad' 87))]) hx hb dL_law_1615 hl' (k := 4) rfl (by rw [show 6 * (k + 1) = 6 * k + 6 from by omega, ← nI_add]; rfl) (by decide) rfl (fun ls hl => ?_)
    refine lv_goto (tgt := 23) hx hb dL_law_1618 (by decide) ?_
    exact kk h6 ad' n' g' H1 ls hI' (lv_sub hl [1, 2, 3, 4, 0] rfl)
theorem law_loop (h : q_LC l p s m meth c b L xs D cy sa sv) (hP : q_PA Inv) (hL : L ≤ 3072) : ∀ (f k : Nat) (ad : Nat → Nat) (n : Nat) (g : qS) (H : Heap) (ls : Array Slot), 6 * k ≤ L → L < 6 * (k + f) + 6 → q_LI Inv s D cy sa sv ad n g H → lv_has ls 7 (q_lv b ad k) → W p l e room_1 s m #[Value.ref b] below meth c H [] (q_ck k) (q_sk k) (lw_Z below #[Value.ref b] s) (F0 m 23 ls []) := by
  intro f
  induction f with
  | zero => exact fun k ad n g H ls hk hf hI hl => law_head h hP hL hk hI hl (fun h6 => absurd h6 (by omega))
  | succ f ih => exact fun k ad n g H ls hk hf hI hl => law_head h hP hL hk hI hl (fun h6 ad' n' g' H1 ls hI' hl' => ih (k + 1) ad' n' g' H1 ls (by omega) (by omega) hI' hl')
end QLZ
