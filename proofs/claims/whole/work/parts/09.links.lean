theorem q_rb1 {a b c e : Nat} (d K : Nat) (h1 : Nat.ble a b = true) (h2 : Nat.ble c e = true) : (Nat.ble a (d + 1 + b) && Nat.ble c ((d + 1) * K + e)) = true := by
  have h1 := Nat.le_of_ble_eq_true h1
  have h2 := Nat.le_of_ble_eq_true h2
  rw [Bool.and_eq_true]
  exact ⟨Nat.ble_eq_true_of_le (by omega), Nat.ble_eq_true_of_le (Nat.le_trans h2 (Nat.le_add_left _ _))⟩
theorem q_rb2 (d b n e : Nat) : (Nat.ble (d + b + 1) (d + 1 + b) && Nat.ble (n + 19 + (d * (n + 19) + e)) ((d + 1) * (n + 19) + e)) = true := by
  rw [Bool.and_eq_true]
  refine ⟨Nat.ble_eq_true_of_le (by omega), Nat.ble_eq_true_of_le ?_⟩
  rw [Nat.succ_mul]
  omega
theorem qi_m20 : Int32.ofInt (-20) = -20 := by decide
theorem q_t1 {i : Nat} {w : Cond} (h : tables_1_1[i]? = some w) : w ∈ tables_1 := List.mem_append_left _ (List.mem_of_getElem? h)
theorem q_g1 {i : Nat} {w : Cond} (h : tables_1_1[i]? = some w) (g : goodWord w = true) : w ∈ q_GW := q_gw (List.mem_append_right _ (q_t1 h)) g
theorem q_n1 {i : Nat} {w : Cond} (h : tables_1_1[i]? = some w) (g : q_isN w = true) : w ∈ q_NW := List.mem_filter.mpr ⟨q_t1 h, g⟩
theorem q_t2 {i : Nat} {w : Cond} (h : tables_1_2[i]? = some w) : w ∈ tables_1 := List.mem_append_right _ (List.mem_append_left _ (List.mem_of_getElem? h))
theorem q_g2 {i : Nat} {w : Cond} (h : tables_1_2[i]? = some w) (g : goodWord w = true) : w ∈ q_GW := q_gw (List.mem_append_right _ (q_t2 h)) g
theorem q_n2 {i : Nat} {w : Cond} (h : tables_1_2[i]? = some w) (g : q_isN w = true) : w ∈ q_NW := List.mem_filter.mpr ⟨q_t2 h, g⟩
theorem q_t3 {i : Nat} {w : Cond} (h : tables_1_3[i]? = some w) : w ∈ tables_1 := List.mem_append_right _ (List.mem_append_right _ (List.mem_append_left _ (List.mem_of_getElem? h)))
theorem q_g3 {i : Nat} {w : Cond} (h : tables_1_3[i]? = some w) (g : goodWord w = true) : w ∈ q_GW := q_gw (List.mem_append_right _ (q_t3 h)) g
theorem q_n3 {i : Nat} {w : Cond} (h : tables_1_3[i]? = some w) (g : q_isN w = true) : w ∈ q_NW := List.mem_filter.mpr ⟨q_t3 h, g⟩
theorem q_t4 {i : Nat} {w : Cond} (h : tables_1_4[i]? = some w) : w ∈ tables_1 := List.mem_append_right _ (List.mem_append_right _ (List.mem_append_right _ (List.mem_append_left _ (List.mem_of_getElem? h))))
theorem q_g4 {i : Nat} {w : Cond} (h : tables_1_4[i]? = some w) (g : goodWord w = true) : w ∈ q_GW := q_gw (List.mem_append_right _ (q_t4 h)) g
theorem q_n4 {i : Nat} {w : Cond} (h : tables_1_4[i]? = some w) (g : q_isN w = true) : w ∈ q_NW := List.mem_filter.mpr ⟨q_t4 h, g⟩
theorem q_t5 {i : Nat} {w : Cond} (h : tables_1_5[i]? = some w) : w ∈ tables_1 := List.mem_append_right _ (List.mem_append_right _ (List.mem_append_right _ (List.mem_append_right _ (List.mem_append_left _ (List.mem_of_getElem? h)))))
theorem q_g5 {i : Nat} {w : Cond} (h : tables_1_5[i]? = some w) (g : goodWord w = true) : w ∈ q_GW := q_gw (List.mem_append_right _ (q_t5 h)) g
theorem q_n5 {i : Nat} {w : Cond} (h : tables_1_5[i]? = some w) (g : q_isN w = true) : w ∈ q_NW := List.mem_filter.mpr ⟨q_t5 h, g⟩
theorem q_t6 {i : Nat} {w : Cond} (h : tables_1_6[i]? = some w) : w ∈ tables_1 := List.mem_append_right _ (List.mem_append_right _ (List.mem_append_right _ (List.mem_append_right _ (List.mem_append_right _ (List.mem_append_left _ (List.mem_of_getElem? h))))))
theorem q_g6 {i : Nat} {w : Cond} (h : tables_1_6[i]? = some w) (g : goodWord w = true) : w ∈ q_GW := q_gw (List.mem_append_right _ (q_t6 h)) g
theorem q_n6 {i : Nat} {w : Cond} (h : tables_1_6[i]? = some w) (g : q_isN w = true) : w ∈ q_NW := List.mem_filter.mpr ⟨q_t6 h, g⟩
theorem q_t7 {i : Nat} {w : Cond} (h : tables_1_7[i]? = some w) : w ∈ tables_1 := List.mem_append_right _ (List.mem_append_right _ (List.mem_append_right _ (List.mem_append_right _ (List.mem_append_right _ (List.mem_append_right _ (List.mem_append_left _ (List.mem_of_getElem? h)))))))
theorem q_g7 {i : Nat} {w : Cond} (h : tables_1_7[i]? = some w) (g : goodWord w = true) : w ∈ q_GW := q_gw (List.mem_append_right _ (q_t7 h)) g
theorem q_n7 {i : Nat} {w : Cond} (h : tables_1_7[i]? = some w) (g : q_isN w = true) : w ∈ q_NW := List.mem_filter.mpr ⟨q_t7 h, g⟩
theorem q_t8 {i : Nat} {w : Cond} (h : tables_1_8[i]? = some w) : w ∈ tables_1 := List.mem_append_right _ (List.mem_append_right _ (List.mem_append_right _ (List.mem_append_right _ (List.mem_append_right _ (List.mem_append_right _ (List.mem_append_right _ (List.mem_append_left _ (List.mem_of_getElem? h))))))))
theorem q_g8 {i : Nat} {w : Cond} (h : tables_1_8[i]? = some w) (g : goodWord w = true) : w ∈ q_GW := q_gw (List.mem_append_right _ (q_t8 h)) g
theorem q_n8 {i : Nat} {w : Cond} (h : tables_1_8[i]? = some w) (g : q_isN w = true) : w ∈ q_NW := List.mem_filter.mpr ⟨q_t8 h, g⟩
theorem q_t9 {i : Nat} {w : Cond} (h : tables_1_9[i]? = some w) : w ∈ tables_1 := List.mem_append_right _ (List.mem_append_right _ (List.mem_append_right _ (List.mem_append_right _ (List.mem_append_right _ (List.mem_append_right _ (List.mem_append_right _ (List.mem_append_right _ ((List.mem_of_getElem? h)))))))))
theorem q_g9 {i : Nat} {w : Cond} (h : tables_1_9[i]? = some w) (g : goodWord w = true) : w ∈ q_GW := q_gw (List.mem_append_right _ (q_t9 h)) g
theorem q_n9 {i : Nat} {w : Cond} (h : tables_1_9[i]? = some w) (g : q_isN w = true) : w ∈ q_NW := List.mem_filter.mpr ⟨q_t9 h, g⟩
set_option maxRecDepth 20000 in
theorem q_ciX0 : q_ci 0 RX0 TX0 3 tyX0 := by
  refine ⟨rfl, fun w hw => ?_, tyX0_ok, nmX0⟩
  obtain ⟨k, hk, rfl⟩ := List.mem_map.mp hw
  have hk := List.mem_range.mp hk
  match k, hk with
  | 0, _ => exact q_g2 (i := 8) rfl rfl
  | 1, _ => exact q_g2 (i := 10) rfl rfl
  | 2, _ => exact q_g2 (i := 12) rfl rfl
  | k + 3, hk => exact absurd hk (by omega)
set_option maxRecDepth 20000 in
theorem q_ciX2 : q_ci 1 RX2 TX2 4 tyX2 := by
  refine ⟨rfl, fun w hw => ?_, tyX2_ok, nmX2⟩
  obtain ⟨k, hk, rfl⟩ := List.mem_map.mp hw
  have hk := List.mem_range.mp hk
  match k, hk with
  | 0, _ => exact q_g2 (i := 48) rfl rfl
  | 1, _ => exact q_g2 (i := 50) rfl rfl
  | 2, _ => exact q_g2 (i := 52) rfl rfl
  | 3, _ => exact q_g2 (i := 54) rfl rfl
  | k + 4, hk => exact absurd hk (by omega)
set_option maxRecDepth 20000 in
theorem q_ciX3 : q_ci 2 RX3 TX3 10 tyX3 := by
  refine ⟨rfl, fun w hw => ?_, tyX3_ok, nmX3⟩
  obtain ⟨k, hk, rfl⟩ := List.mem_map.mp hw
  have hk := List.mem_range.mp hk
  match k, hk with
  | 0, _ => exact q_g1 (i := 99) rfl rfl
  | 1, _ => exact q_g1 (i := 101) rfl rfl
  | 2, _ => exact q_g1 (i := 103) rfl rfl
  | 3, _ => exact q_g1 (i := 105) rfl rfl
  | 4, _ => exact q_g1 (i := 107) rfl rfl
  | 5, _ => exact q_g1 (i := 109) rfl rfl
  | 6, _ => exact q_g1 (i := 111) rfl rfl
  | 7, _ => exact q_g1 (i := 113) rfl rfl
  | 8, _ => exact q_g1 (i := 115) rfl rfl
  | 9, _ => exact q_g1 (i := 117) rfl rfl
  | k + 10, hk => exact absurd hk (by omega)
set_option maxRecDepth 20000 in
theorem q_ciX4 : q_ci 3 RX4 TX4 5 tyX4 := by
  refine ⟨rfl, fun w hw => ?_, tyX4_ok, nmX4⟩
  obtain ⟨k, hk, rfl⟩ := List.mem_map.mp hw
  have hk := List.mem_range.mp hk
  match k, hk with
  | 0, _ => exact q_g1 (i := 206) rfl rfl
  | 1, _ => exact q_g1 (i := 208) rfl rfl
  | 2, _ => exact q_g1 (i := 210) rfl rfl
  | 3, _ => exact q_g1 (i := 212) rfl rfl
  | 4, _ => exact q_g1 (i := 214) rfl rfl
  | k + 5, hk => exact absurd hk (by omega)
set_option maxRecDepth 20000 in
theorem q_ciX5 : q_ci 4 RX5 TX5 3 tyX5 := by
  refine ⟨rfl, fun w hw => ?_, tyX5_ok, nmX5⟩
  obtain ⟨k, hk, rfl⟩ := List.mem_map.mp hw
  have hk := List.mem_range.mp hk
  match k, hk with
  | 0, _ => exact q_g1 (i := 230) rfl rfl
  | 1, _ => exact q_g1 (i := 232) rfl rfl
  | 2, _ => exact q_g1 (i := 234) rfl rfl
  | k + 3, hk => exact absurd hk (by omega)
set_option maxRecDepth 20000 in
theorem q_ciX6 : q_ci 5 RX6 TX6 15 tyX6 := by
  refine ⟨rfl, fun w hw => ?_, tyX6_ok, nmX6⟩
  obtain ⟨k, hk, rfl⟩ := List.mem_map.mp hw
  have hk := List.mem_range.mp hk
  match k, hk with
  | 0, _ => exact q_g1 (i := 137) rfl rfl
  | 1, _ => exact q_g1 (i := 139) rfl rfl
  | 2, _ => exact q_g1 (i := 141) rfl rfl
  | 3, _ => exact q_g1 (i := 143) rfl rfl
  | 4, _ => exact q_g1 (i := 145) rfl rfl
  | 5, _ => exact q_g1 (i := 147) rfl rfl
  | 6, _ => exact q_g1 (i := 149) rfl rfl
  | 7, _ => exact q_g1 (i := 151) rfl rfl
  | 8, _ => exact q_g1 (i := 153) rfl rfl
  | 9, _ => exact q_g1 (i := 155) rfl rfl
  | 10, _ => exact q_g1 (i := 157) rfl rfl
  | 11, _ => exact q_g1 (i := 159) rfl rfl
  | 12, _ => exact q_g1 (i := 161) rfl rfl
  | 13, _ => exact q_g1 (i := 163) rfl rfl
  | 14, _ => exact q_g1 (i := 165) rfl rfl
  | k + 15, hk => exact absurd hk (by omega)
set_option maxRecDepth 20000 in
theorem q_ciX7 : q_ci 6 RX7 TX7 1 tyX7 := by
  refine ⟨rfl, fun w hw => ?_, tyX7_ok, nmX7⟩
  obtain ⟨k, hk, rfl⟩ := List.mem_map.mp hw
  have hk := List.mem_range.mp hk
  match k, hk with
  | 0, _ => exact q_g1 (i := 190) rfl rfl
  | k + 1, hk => exact absurd hk (by omega)
set_option maxRecDepth 20000 in
theorem q_ciX8 : q_ci 7 RX8 TX8 3 tyX8 := by
  refine ⟨rfl, fun w hw => ?_, tyX8_ok, nmX8⟩
  obtain ⟨k, hk, rfl⟩ := List.mem_map.mp hw
  have hk := List.mem_range.mp hk
  match k, hk with
  | 0, _ => exact q_g1 (i := 59) rfl rfl
  | 1, _ => exact q_g1 (i := 61) rfl rfl
  | 2, _ => exact q_g1 (i := 63) rfl rfl
  | k + 3, hk => exact absurd hk (by omega)
set_option maxRecDepth 20000 in
theorem q_ciX9 : q_ci 8 RX9 TX9 4 tyX9 := by
  refine ⟨rfl, fun w hw => ?_, tyX9_ok, nmX9⟩
  obtain ⟨k, hk, rfl⟩ := List.mem_map.mp hw
  have hk := List.mem_range.mp hk
  match k, hk with
  | 0, _ => exact q_g2 (i := 27) rfl rfl
  | 1, _ => exact q_g2 (i := 29) rfl rfl
  | 2, _ => exact q_g2 (i := 31) rfl rfl
  | 3, _ => exact q_g2 (i := 33) rfl rfl
  | k + 4, hk => exact absurd hk (by omega)
set_option maxRecDepth 20000 in
theorem q_ciX10 : q_ci 9 RX10 TX10 9 tyX10 := by
  refine ⟨rfl, fun w hw => ?_, tyX10_ok, nmX10⟩
  obtain ⟨k, hk, rfl⟩ := List.mem_map.mp hw
  have hk := List.mem_range.mp hk
  match k, hk with
  | 0, _ => exact q_g2 (i := 68) rfl rfl
  | 1, _ => exact q_g2 (i := 70) rfl rfl
  | 2, _ => exact q_g2 (i := 72) rfl rfl
  | 3, _ => exact q_g2 (i := 74) rfl rfl
  | 4, _ => exact q_g2 (i := 76) rfl rfl
  | 5, _ => exact q_g2 (i := 78) rfl rfl
  | 6, _ => exact q_g2 (i := 80) rfl rfl
  | 7, _ => exact q_g2 (i := 82) rfl rfl
  | 8, _ => exact q_g2 (i := 84) rfl rfl
  | k + 9, hk => exact absurd hk (by omega)
set_option maxRecDepth 20000 in
theorem q_ciX11 : q_ci 10 RX11 TX11 35 tyX11 := by
  refine ⟨rfl, fun w hw => ?_, tyX11_ok, nmX11⟩
  obtain ⟨k, hk, rfl⟩ := List.mem_map.mp hw
  have hk := List.mem_range.mp hk
  match k, hk with
  | 0, _ => exact q_g6 (i := 214) rfl rfl
  | 1, _ => exact q_g6 (i := 216) rfl rfl
  | 2, _ => exact q_g6 (i := 218) rfl rfl
  | 3, _ => exact q_g6 (i := 220) rfl rfl
  | 4, _ => exact q_g6 (i := 222) rfl rfl
  | 5, _ => exact q_g6 (i := 224) rfl rfl
  | 6, _ => exact q_g6 (i := 226) rfl rfl
  | 7, _ => exact q_g6 (i := 228) rfl rfl
  | 8, _ => exact q_g6 (i := 230) rfl rfl
  | 9, _ => exact q_g6 (i := 232) rfl rfl
  | 10, _ => exact q_g6 (i := 234) rfl rfl
  | 11, _ => exact q_g6 (i := 236) rfl rfl
  | 12, _ => exact q_g6 (i := 238) rfl rfl
  | 13, _ => exact q_g7 (i := 0) rfl rfl
  | 14, _ => exact q_g7 (i := 2) rfl rfl
  | 15, _ => exact q_g7 (i := 4) rfl rfl
  | 16, _ => exact q_g7 (i := 6) rfl rfl
  | 17, _ => exact q_g7 (i := 8) rfl rfl
  | 18, _ => exact q_g7 (i := 10) rfl rfl
  | 19, _ => exact q_g7 (i := 12) rfl rfl
  | 20, _ => exact q_g7 (i := 14) rfl rfl
  | 21, _ => exact q_g7 (i := 16) rfl rfl
  | 22, _ => exact q_g7 (i := 18) rfl rfl
  | 23, _ => exact q_g7 (i := 20) rfl rfl
  | 24, _ => exact q_g7 (i := 22) rfl rfl
  | 25, _ => exact q_g7 (i := 24) rfl rfl
  | 26, _ => exact q_g7 (i := 26) rfl rfl
  | 27, _ => exact q_g7 (i := 28) rfl rfl
  | 28, _ => exact q_g7 (i := 30) rfl rfl
  | 29, _ => exact q_g7 (i := 32) rfl rfl
  | 30, _ => exact q_g7 (i := 34) rfl rfl
  | 31, _ => exact q_g7 (i := 36) rfl rfl
  | 32, _ => exact q_g7 (i := 38) rfl rfl
  | 33, _ => exact q_g7 (i := 40) rfl rfl
  | 34, _ => exact q_g7 (i := 42) rfl rfl
  | k + 35, hk => exact absurd hk (by omega)
set_option maxRecDepth 20000 in
theorem q_ciX12 : q_ci 11 RX12 TX12 32 tyX12 := by
  refine ⟨rfl, fun w hw => ?_, tyX12_ok, nmX12⟩
  obtain ⟨k, hk, rfl⟩ := List.mem_map.mp hw
  have hk := List.mem_range.mp hk
  match k, hk with
  | 0, _ => exact q_g6 (i := 67) rfl rfl
  | 1, _ => exact q_g6 (i := 69) rfl rfl
  | 2, _ => exact q_g6 (i := 71) rfl rfl
  | 3, _ => exact q_g6 (i := 73) rfl rfl
  | 4, _ => exact q_g6 (i := 75) rfl rfl
  | 5, _ => exact q_g6 (i := 77) rfl rfl
  | 6, _ => exact q_g6 (i := 79) rfl rfl
  | 7, _ => exact q_g6 (i := 81) rfl rfl
  | 8, _ => exact q_g6 (i := 83) rfl rfl
  | 9, _ => exact q_g6 (i := 85) rfl rfl
  | 10, _ => exact q_g6 (i := 87) rfl rfl
  | 11, _ => exact q_g6 (i := 89) rfl rfl
  | 12, _ => exact q_g6 (i := 91) rfl rfl
  | 13, _ => exact q_g6 (i := 93) rfl rfl
  | 14, _ => exact q_g6 (i := 95) rfl rfl
  | 15, _ => exact q_g6 (i := 97) rfl rfl
  | 16, _ => exact q_g6 (i := 99) rfl rfl
  | 17, _ => exact q_g6 (i := 101) rfl rfl
  | 18, _ => exact q_g6 (i := 103) rfl rfl
  | 19, _ => exact q_g6 (i := 105) rfl rfl
  | 20, _ => exact q_g6 (i := 107) rfl rfl
  | 21, _ => exact q_g6 (i := 109) rfl rfl
  | 22, _ => exact q_g6 (i := 111) rfl rfl
  | 23, _ => exact q_g6 (i := 113) rfl rfl
  | 24, _ => exact q_g6 (i := 115) rfl rfl
  | 25, _ => exact q_g6 (i := 117) rfl rfl
  | 26, _ => exact q_g6 (i := 119) rfl rfl
  | 27, _ => exact q_g6 (i := 121) rfl rfl
  | 28, _ => exact q_g6 (i := 123) rfl rfl
  | 29, _ => exact q_g6 (i := 125) rfl rfl
  | 30, _ => exact q_g6 (i := 127) rfl rfl
  | 31, _ => exact q_g6 (i := 129) rfl rfl
  | k + 32, hk => exact absurd hk (by omega)
theorem lk_X0_14 : q_fl RX0 14 0 0 := ⟨RX0, TX0, 3, tyX0, q_ciX0, by decide, Or.inl (q_g2 (i := 5) rfl rfl)⟩
theorem lk_X0_20 : q_fl RX0 20 0 1 := ⟨RX0, TX0, 3, tyX0, q_ciX0, by decide, Or.inl (q_g2 (i := 6) rfl rfl)⟩
theorem lk_X0_24 : q_fl RX0 24 0 2 := ⟨RX0, TX0, 3, tyX0, q_ciX0, by decide, Or.inl (q_g2 (i := 7) rfl rfl)⟩
theorem lk_X0_50 : q_fl RX0 50 2 8 := ⟨RX3, TX3, 10, tyX3, q_ciX3, by decide, Or.inr ⟨_, q_n1 (i := 94) (rfl : _ = some (Cond.fieldLinkNest "SecondPaper$AllGiven" 50 "SecondPaper$College" "takeTrams" "LSecondPaper$Table;" "SecondPaper")) rfl⟩⟩
theorem lk_X1_26 : q_fl RX1 26 2 2 := ⟨RX3, TX3, 10, tyX3, q_ciX3, by decide, Or.inr ⟨_, q_n1 (i := 75) (rfl : _ = some (Cond.fieldLinkNest "SecondPaper$Chances" 26 "SecondPaper$College" "trams" "LSecondPaper$Table;" "SecondPaper")) rfl⟩⟩
theorem lk_X10_10 : q_fl RX10 10 9 0 := ⟨RX10, TX10, 9, tyX10, q_ciX10, by decide, Or.inl (q_g2 (i := 59) rfl rfl)⟩
theorem lk_X10_19 : q_fl RX10 19 9 1 := ⟨RX10, TX10, 9, tyX10, q_ciX10, by decide, Or.inl (q_g2 (i := 60) rfl rfl)⟩
theorem lk_X10_26 : q_fl RX10 26 9 2 := ⟨RX10, TX10, 9, tyX10, q_ciX10, by decide, Or.inl (q_g2 (i := 61) rfl rfl)⟩
theorem lk_X10_33 : q_fl RX10 33 9 3 := ⟨RX10, TX10, 9, tyX10, q_ciX10, by decide, Or.inl (q_g2 (i := 62) rfl rfl)⟩
theorem lk_X10_40 : q_fl RX10 40 9 4 := ⟨RX10, TX10, 9, tyX10, q_ciX10, by decide, Or.inl (q_g2 (i := 63) rfl rfl)⟩
theorem lk_X10_47 : q_fl RX10 47 9 5 := ⟨RX10, TX10, 9, tyX10, q_ciX10, by decide, Or.inl (q_g2 (i := 64) rfl rfl)⟩
theorem lk_X10_54 : q_fl RX10 54 9 6 := ⟨RX10, TX10, 9, tyX10, q_ciX10, by decide, Or.inl (q_g2 (i := 65) rfl rfl)⟩
theorem lk_X10_58 : q_fl RX10 58 9 7 := ⟨RX10, TX10, 9, tyX10, q_ciX10, by decide, Or.inl (q_g2 (i := 66) rfl rfl)⟩
theorem lk_X10_65 : q_fl RX10 65 9 8 := ⟨RX10, TX10, 9, tyX10, q_ciX10, by decide, Or.inl (q_g2 (i := 67) rfl rfl)⟩
theorem lk_X10_115 : q_fl RX10 115 2 0 := ⟨RX3, TX3, 10, tyX3, q_ciX3, by decide, Or.inr ⟨_, q_n1 (i := 69) (rfl : _ = some (Cond.fieldLinkNest "SecondPaper" 115 "SecondPaper$College" "things" "LSecondPaper$Table;" "SecondPaper")) rfl⟩⟩
theorem lk_X10_128 : q_fl RX10 128 2 1 := ⟨RX3, TX3, 10, tyX3, q_ciX3, by decide, Or.inr ⟨_, q_n1 (i := 72) (rfl : _ = some (Cond.fieldLinkNest "SecondPaper" 128 "SecondPaper$College" "people" "LSecondPaper$Table;" "SecondPaper")) rfl⟩⟩
theorem lk_X10_138 : q_fl RX10 138 2 3 := ⟨RX3, TX3, 10, tyX3, q_ciX3, by decide, Or.inr ⟨_, q_n1 (i := 78) (rfl : _ = some (Cond.fieldLinkNest "SecondPaper" 138 "SecondPaper$College" "givers" "LSecondPaper$Table;" "SecondPaper")) rfl⟩⟩
theorem lk_X10_151 : q_fl RX10 151 2 7 := ⟨RX3, TX3, 10, tyX3, q_ciX3, by decide, Or.inr ⟨_, q_n1 (i := 90) (rfl : _ = some (Cond.fieldLinkNest "SecondPaper" 151 "SecondPaper$College" "rideTrams" "LSecondPaper$Table;" "SecondPaper")) rfl⟩⟩
theorem lk_X10_154 : q_fl RX10 154 2 8 := ⟨RX3, TX3, 10, tyX3, q_ciX3, by decide, Or.inr ⟨_, q_n1 (i := 95) (rfl : _ = some (Cond.fieldLinkNest "SecondPaper" 154 "SecondPaper$College" "takeTrams" "LSecondPaper$Table;" "SecondPaper")) rfl⟩⟩
theorem lk_X10_200 : q_fl RX10 200 2 5 := ⟨RX3, TX3, 10, tyX3, q_ciX3, by decide, Or.inr ⟨_, q_n1 (i := 85) (rfl : _ = some (Cond.fieldLinkNest "SecondPaper" 200 "SecondPaper$College" "founds" "LSecondPaper$Table;" "SecondPaper")) rfl⟩⟩
theorem lk_X11_9 : q_fl RX11 9 10 11 := ⟨RX11, TX11, 35, tyX11, q_ciX11, by decide, Or.inl (q_g6 (i := 166) rfl rfl)⟩
theorem lk_X11_15 : q_fl RX11 15 10 12 := ⟨RX11, TX11, 35, tyX11, q_ciX11, by decide, Or.inl (q_g6 (i := 168) rfl rfl)⟩
theorem lk_X11_24 : q_fl RX11 24 10 15 := ⟨RX11, TX11, 35, tyX11, q_ciX11, by decide, Or.inl (q_g6 (i := 174) rfl rfl)⟩
theorem lk_X11_27 : q_fl RX11 27 10 16 := ⟨RX11, TX11, 35, tyX11, q_ciX11, by decide, Or.inl (q_g6 (i := 176) rfl rfl)⟩
theorem lk_X11_30 : q_fl RX11 30 10 17 := ⟨RX11, TX11, 35, tyX11, q_ciX11, by decide, Or.inl (q_g6 (i := 178) rfl rfl)⟩
theorem lk_X11_33 : q_fl RX11 33 10 18 := ⟨RX11, TX11, 35, tyX11, q_ciX11, by decide, Or.inl (q_g6 (i := 180) rfl rfl)⟩
theorem lk_X11_36 : q_fl RX11 36 10 19 := ⟨RX11, TX11, 35, tyX11, q_ciX11, by decide, Or.inl (q_g6 (i := 182) rfl rfl)⟩
theorem lk_X11_42 : q_fl RX11 42 10 21 := ⟨RX11, TX11, 35, tyX11, q_ciX11, by decide, Or.inl (q_g6 (i := 186) rfl rfl)⟩
theorem lk_X11_45 : q_fl RX11 45 10 22 := ⟨RX11, TX11, 35, tyX11, q_ciX11, by decide, Or.inl (q_g6 (i := 188) rfl rfl)⟩
theorem lk_X11_76 : q_fl RX11 76 10 32 := ⟨RX11, TX11, 35, tyX11, q_ciX11, by decide, Or.inl (q_g6 (i := 208) rfl rfl)⟩
theorem lk_X11_86 : q_fl RX11 86 10 10 := ⟨RX11, TX11, 35, tyX11, q_ciX11, by decide, Or.inl (q_g6 (i := 164) rfl rfl)⟩
theorem lk_X12_9 : q_fl RX12 9 11 2 := ⟨RX12, TX12, 32, tyX12, q_ciX12, by decide, Or.inl (q_g6 (i := 37) rfl rfl)⟩
theorem lk_X12_13 : q_fl RX12 13 11 5 := ⟨RX12, TX12, 32, tyX12, q_ciX12, by decide, Or.inl (q_g6 (i := 40) rfl rfl)⟩
theorem lk_X12_17 : q_fl RX12 17 11 15 := ⟨RX12, TX12, 32, tyX12, q_ciX12, by decide, Or.inl (q_g6 (i := 50) rfl rfl)⟩
theorem lk_X12_21 : q_fl RX12 21 11 16 := ⟨RX12, TX12, 32, tyX12, q_ciX12, by decide, Or.inl (q_g6 (i := 51) rfl rfl)⟩
theorem lk_X12_24 : q_fl RX12 24 11 17 := ⟨RX12, TX12, 32, tyX12, q_ciX12, by decide, Or.inl (q_g6 (i := 52) rfl rfl)⟩
theorem lk_X12_27 : q_fl RX12 27 11 18 := ⟨RX12, TX12, 32, tyX12, q_ciX12, by decide, Or.inl (q_g6 (i := 53) rfl rfl)⟩
theorem lk_X12_30 : q_fl RX12 30 11 21 := ⟨RX12, TX12, 32, tyX12, q_ciX12, by decide, Or.inl (q_g6 (i := 56) rfl rfl)⟩
theorem lk_X12_33 : q_fl RX12 33 11 22 := ⟨RX12, TX12, 32, tyX12, q_ciX12, by decide, Or.inl (q_g6 (i := 57) rfl rfl)⟩
theorem lk_X12_36 : q_fl RX12 36 11 23 := ⟨RX12, TX12, 32, tyX12, q_ciX12, by decide, Or.inl (q_g6 (i := 58) rfl rfl)⟩
theorem lk_X12_39 : q_fl RX12 39 11 25 := ⟨RX12, TX12, 32, tyX12, q_ciX12, by decide, Or.inl (q_g6 (i := 60) rfl rfl)⟩
theorem lk_X12_42 : q_fl RX12 42 11 29 := ⟨RX12, TX12, 32, tyX12, q_ciX12, by decide, Or.inl (q_g6 (i := 64) rfl rfl)⟩
theorem lk_X12_45 : q_fl RX12 45 11 30 := ⟨RX12, TX12, 32, tyX12, q_ciX12, by decide, Or.inl (q_g6 (i := 65) rfl rfl)⟩
theorem lk_X12_48 : q_fl RX12 48 11 0 := ⟨RX12, TX12, 32, tyX12, q_ciX12, by decide, Or.inl (q_g6 (i := 35) rfl rfl)⟩
theorem lk_X12_51 : q_fl RX12 51 11 1 := ⟨RX12, TX12, 32, tyX12, q_ciX12, by decide, Or.inl (q_g6 (i := 36) rfl rfl)⟩
theorem lk_X12_65 : q_fl RX12 65 11 7 := ⟨RX12, TX12, 32, tyX12, q_ciX12, by decide, Or.inl (q_g6 (i := 42) rfl rfl)⟩
theorem lk_X12_80 : q_fl RX12 80 11 9 := ⟨RX12, TX12, 32, tyX12, q_ciX12, by decide, Or.inl (q_g6 (i := 44) rfl rfl)⟩
theorem lk_X12_83 : q_fl RX12 83 11 8 := ⟨RX12, TX12, 32, tyX12, q_ciX12, by decide, Or.inl (q_g6 (i := 43) rfl rfl)⟩
theorem lk_X12_89 : q_fl RX12 89 11 10 := ⟨RX12, TX12, 32, tyX12, q_ciX12, by decide, Or.inl (q_g6 (i := 45) rfl rfl)⟩
theorem lk_X12_96 : q_fl RX12 96 11 14 := ⟨RX12, TX12, 32, tyX12, q_ciX12, by decide, Or.inl (q_g6 (i := 49) rfl rfl)⟩
theorem lk_X12_103 : q_fl RX12 103 11 11 := ⟨RX12, TX12, 32, tyX12, q_ciX12, by decide, Or.inl (q_g6 (i := 46) rfl rfl)⟩
theorem lk_X12_106 : q_fl RX12 106 11 12 := ⟨RX12, TX12, 32, tyX12, q_ciX12, by decide, Or.inl (q_g6 (i := 47) rfl rfl)⟩
theorem lk_X12_162 : q_fl RX12 162 11 4 := ⟨RX12, TX12, 32, tyX12, q_ciX12, by decide, Or.inl (q_g6 (i := 39) rfl rfl)⟩
theorem lk_X12_166 : q_fl RX12 166 10 0 := ⟨RX11, TX11, 35, tyX11, q_ciX11, by decide, Or.inr ⟨_, q_n6 (i := 154) (rfl : _ = some (Cond.fieldLinkNest "SecondPaperModel" 166 "SecondPaperModel$College" "days" "I" "SecondPaperModel")) rfl⟩⟩
theorem lk_X12_179 : q_fl RX12 179 10 32 := ⟨RX11, TX11, 35, tyX11, q_ciX11, by decide, Or.inr ⟨_, q_n6 (i := 209) (rfl : _ = some (Cond.fieldLinkNest "SecondPaperModel" 179 "SecondPaperModel$College" "name" "[J" "SecondPaperModel")) rfl⟩⟩
theorem lk_X12_183 : q_fl RX12 183 10 10 := ⟨RX11, TX11, 35, tyX11, q_ciX11, by decide, Or.inr ⟨_, q_n6 (i := 165) (rfl : _ = some (Cond.fieldLinkNest "SecondPaperModel" 183 "SecondPaperModel$College" "names" "I" "SecondPaperModel")) rfl⟩⟩
theorem lk_X12_186 : q_fl RX12 186 10 33 := ⟨RX11, TX11, 35, tyX11, q_ciX11, by decide, Or.inr ⟨_, q_n6 (i := 211) (rfl : _ = some (Cond.fieldLinkNest "SecondPaperModel" 186 "SecondPaperModel$College" "nameSort" "[I" "SecondPaperModel")) rfl⟩⟩
theorem lk_X12_189 : q_fl RX12 189 10 34 := ⟨RX11, TX11, 35, tyX11, q_ciX11, by decide, Or.inr ⟨_, q_n6 (i := 213) (rfl : _ = some (Cond.fieldLinkNest "SecondPaperModel" 189 "SecondPaperModel$College" "numberOf" "[I" "SecondPaperModel")) rfl⟩⟩
theorem lk_X12_201 : q_fl RX12 201 10 2 := ⟨RX11, TX11, 35, tyX11, q_ciX11, by decide, Or.inr ⟨_, q_n6 (i := 156) (rfl : _ = some (Cond.fieldLinkNest "SecondPaperModel" 201 "SecondPaperModel$College" "things" "I" "SecondPaperModel")) rfl⟩⟩
theorem lk_X12_204 : q_fl RX12 204 10 3 := ⟨RX11, TX11, 35, tyX11, q_ciX11, by decide, Or.inr ⟨_, q_n6 (i := 157) (rfl : _ = some (Cond.fieldLinkNest "SecondPaperModel" 204 "SecondPaperModel$College" "people" "I" "SecondPaperModel")) rfl⟩⟩
theorem lk_X12_207 : q_fl RX12 207 10 5 := ⟨RX11, TX11, 35, tyX11, q_ciX11, by decide, Or.inr ⟨_, q_n6 (i := 159) (rfl : _ = some (Cond.fieldLinkNest "SecondPaperModel" 207 "SecondPaperModel$College" "givers" "I" "SecondPaperModel")) rfl⟩⟩
theorem lk_X12_225 : q_fl RX12 225 10 18 := ⟨RX11, TX11, 35, tyX11, q_ciX11, by decide, Or.inr ⟨_, q_n6 (i := 181) (rfl : _ = some (Cond.fieldLinkNest "SecondPaperModel" 225 "SecondPaperModel$College" "rides" "[I" "SecondPaperModel")) rfl⟩⟩
theorem lk_X12_231 : q_fl RX12 231 10 22 := ⟨RX11, TX11, 35, tyX11, q_ciX11, by decide, Or.inr ⟨_, q_n6 (i := 189) (rfl : _ = some (Cond.fieldLinkNest "SecondPaperModel" 231 "SecondPaperModel$College" "takes" "[I" "SecondPaperModel")) rfl⟩⟩
theorem lk_X12_249 : q_fl RX12 249 10 1 := ⟨RX11, TX11, 35, tyX11, q_ciX11, by decide, Or.inr ⟨_, q_n6 (i := 155) (rfl : _ = some (Cond.fieldLinkNest "SecondPaperModel" 249 "SecondPaperModel$College" "limit" "I" "SecondPaperModel")) rfl⟩⟩
theorem lk_X12_251 : q_fl RX12 251 10 13 := ⟨RX11, TX11, 35, tyX11, q_ciX11, by decide, Or.inr ⟨_, q_n6 (i := 171) (rfl : _ = some (Cond.fieldLinkNest "SecondPaperModel" 251 "SecondPaperModel$College" "foundBy" "[I" "SecondPaperModel")) rfl⟩⟩
theorem lk_X12_273 : q_fl RX12 273 10 11 := ⟨RX11, TX11, 35, tyX11, q_ciX11, by decide, Or.inr ⟨_, q_n6 (i := 167) (rfl : _ = some (Cond.fieldLinkNest "SecondPaperModel" 273 "SecondPaperModel$College" "sortOf" "[I" "SecondPaperModel")) rfl⟩⟩
theorem lk_X12_276 : q_fl RX12 276 10 12 := ⟨RX11, TX11, 35, tyX11, q_ciX11, by decide, Or.inr ⟨_, q_n6 (i := 169) (rfl : _ = some (Cond.fieldLinkNest "SecondPaperModel" 276 "SecondPaperModel$College" "weighs" "[I" "SecondPaperModel")) rfl⟩⟩
theorem lk_X12_290 : q_fl RX12 290 10 15 := ⟨RX11, TX11, 35, tyX11, q_ciX11, by decide, Or.inr ⟨_, q_n6 (i := 175) (rfl : _ = some (Cond.fieldLinkNest "SecondPaperModel" 290 "SecondPaperModel$College" "kind" "[I" "SecondPaperModel")) rfl⟩⟩
theorem lk_X12_293 : q_fl RX12 293 10 16 := ⟨RX11, TX11, 35, tyX11, q_ciX11, by decide, Or.inr ⟨_, q_n6 (i := 177) (rfl : _ = some (Cond.fieldLinkNest "SecondPaperModel" 293 "SecondPaperModel$College" "room" "[I" "SecondPaperModel")) rfl⟩⟩
theorem lk_X12_295 : q_fl RX12 295 10 17 := ⟨RX11, TX11, 35, tyX11, q_ciX11, by decide, Or.inr ⟨_, q_n6 (i := 179) (rfl : _ = some (Cond.fieldLinkNest "SecondPaperModel" 295 "SecondPaperModel$College" "wakes" "[I" "SecondPaperModel")) rfl⟩⟩
theorem lk_X12_297 : q_fl RX12 297 10 4 := ⟨RX11, TX11, 35, tyX11, q_ciX11, by decide, Or.inr ⟨_, q_n6 (i := 158) (rfl : _ = some (Cond.fieldLinkNest "SecondPaperModel" 297 "SecondPaperModel$College" "trams" "I" "SecondPaperModel")) rfl⟩⟩
theorem lk_X12_304 : q_fl RX12 304 10 19 := ⟨RX11, TX11, 35, tyX11, q_ciX11, by decide, Or.inr ⟨_, q_n6 (i := 183) (rfl : _ = some (Cond.fieldLinkNest "SecondPaperModel" 304 "SecondPaperModel$College" "crowd" "[I" "SecondPaperModel")) rfl⟩⟩
theorem lk_X12_306 : q_fl RX12 306 10 20 := ⟨RX11, TX11, 35, tyX11, q_ciX11, by decide, Or.inr ⟨_, q_n6 (i := 185) (rfl : _ = some (Cond.fieldLinkNest "SecondPaperModel" 306 "SecondPaperModel$College" "worth" "[I" "SecondPaperModel")) rfl⟩⟩
theorem lk_X12_310 : q_fl RX12 310 10 21 := ⟨RX11, TX11, 35, tyX11, q_ciX11, by decide, Or.inr ⟨_, q_n6 (i := 187) (rfl : _ = some (Cond.fieldLinkNest "SecondPaperModel" 310 "SecondPaperModel$College" "skill" "[I" "SecondPaperModel")) rfl⟩⟩
theorem lk_X12_312 : q_fl RX12 312 10 6 := ⟨RX11, TX11, 35, tyX11, q_ciX11, by decide, Or.inr ⟨_, q_n6 (i := 160) (rfl : _ = some (Cond.fieldLinkNest "SecondPaperModel" 312 "SecondPaperModel$College" "lines" "I" "SecondPaperModel")) rfl⟩⟩
theorem lk_X12_318 : q_fl RX12 318 10 7 := ⟨RX11, TX11, 35, tyX11, q_ciX11, by decide, Or.inr ⟨_, q_n6 (i := 161) (rfl : _ = some (Cond.fieldLinkNest "SecondPaperModel" 318 "SecondPaperModel$College" "gifts" "I" "SecondPaperModel")) rfl⟩⟩
theorem lk_X12_321 : q_fl RX12 321 10 23 := ⟨RX11, TX11, 35, tyX11, q_ciX11, by decide, Or.inr ⟨_, q_n6 (i := 191) (rfl : _ = some (Cond.fieldLinkNest "SecondPaperModel" 321 "SecondPaperModel$College" "giftBy" "[I" "SecondPaperModel")) rfl⟩⟩
theorem lk_X12_324 : q_fl RX12 324 10 24 := ⟨RX11, TX11, 35, tyX11, q_ciX11, by decide, Or.inr ⟨_, q_n6 (i := 193) (rfl : _ = some (Cond.fieldLinkNest "SecondPaperModel" 324 "SecondPaperModel$College" "giftOf" "[I" "SecondPaperModel")) rfl⟩⟩
theorem lk_X12_327 : q_fl RX12 327 10 25 := ⟨RX11, TX11, 35, tyX11, q_ciX11, by decide, Or.inr ⟨_, q_n6 (i := 195) (rfl : _ = some (Cond.fieldLinkNest "SecondPaperModel" 327 "SecondPaperModel$College" "giftTo" "[I" "SecondPaperModel")) rfl⟩⟩
theorem lk_X12_330 : q_fl RX12 330 10 26 := ⟨RX11, TX11, 35, tyX11, q_ciX11, by decide, Or.inr ⟨_, q_n6 (i := 197) (rfl : _ = some (Cond.fieldLinkNest "SecondPaperModel" 330 "SecondPaperModel$College" "giftDay" "[I" "SecondPaperModel")) rfl⟩⟩
theorem lk_X12_333 : q_fl RX12 333 10 14 := ⟨RX11, TX11, 35, tyX11, q_ciX11, by decide, Or.inr ⟨_, q_n6 (i := 173) (rfl : _ = some (Cond.fieldLinkNest "SecondPaperModel" 333 "SecondPaperModel$College" "foundRow" "[I" "SecondPaperModel")) rfl⟩⟩
theorem lk_X12_336 : q_fl RX12 336 10 8 := ⟨RX11, TX11, 35, tyX11, q_ciX11, by decide, Or.inr ⟨_, q_n6 (i := 162) (rfl : _ = some (Cond.fieldLinkNest "SecondPaperModel" 336 "SecondPaperModel$College" "finds" "I" "SecondPaperModel")) rfl⟩⟩
theorem lk_X12_339 : q_fl RX12 339 10 9 := ⟨RX11, TX11, 35, tyX11, q_ciX11, by decide, Or.inr ⟨_, q_n6 (i := 163) (rfl : _ = some (Cond.fieldLinkNest "SecondPaperModel" 339 "SecondPaperModel$College" "exams" "I" "SecondPaperModel")) rfl⟩⟩
theorem lk_X12_346 : q_fl RX12 346 10 27 := ⟨RX11, TX11, 35, tyX11, q_ciX11, by decide, Or.inr ⟨_, q_n6 (i := 199) (rfl : _ = some (Cond.fieldLinkNest "SecondPaperModel" 346 "SecondPaperModel$College" "examBy" "[I" "SecondPaperModel")) rfl⟩⟩
theorem lk_X12_349 : q_fl RX12 349 10 28 := ⟨RX11, TX11, 35, tyX11, q_ciX11, by decide, Or.inr ⟨_, q_n6 (i := 201) (rfl : _ = some (Cond.fieldLinkNest "SecondPaperModel" 349 "SecondPaperModel$College" "examOf" "[I" "SecondPaperModel")) rfl⟩⟩
theorem lk_X12_352 : q_fl RX12 352 10 29 := ⟨RX11, TX11, 35, tyX11, q_ciX11, by decide, Or.inr ⟨_, q_n6 (i := 203) (rfl : _ = some (Cond.fieldLinkNest "SecondPaperModel" 352 "SecondPaperModel$College" "examTo" "[I" "SecondPaperModel")) rfl⟩⟩
theorem lk_X12_355 : q_fl RX12 355 10 30 := ⟨RX11, TX11, 35, tyX11, q_ciX11, by decide, Or.inr ⟨_, q_n6 (i := 205) (rfl : _ = some (Cond.fieldLinkNest "SecondPaperModel" 355 "SecondPaperModel$College" "examOn" "[I" "SecondPaperModel")) rfl⟩⟩
theorem lk_X12_358 : q_fl RX12 358 10 31 := ⟨RX11, TX11, 35, tyX11, q_ciX11, by decide, Or.inr ⟨_, q_n6 (i := 207) (rfl : _ = some (Cond.fieldLinkNest "SecondPaperModel" 358 "SecondPaperModel$College" "examCaught" "[Z" "SecondPaperModel")) rfl⟩⟩
theorem lk_X12_362 : q_fl RX12 362 11 6 := ⟨RX12, TX12, 32, tyX12, q_ciX12, by decide, Or.inl (q_g6 (i := 41) rfl rfl)⟩
theorem lk_X12_369 : q_fl RX12 369 11 3 := ⟨RX12, TX12, 32, tyX12, q_ciX12, by decide, Or.inl (q_g6 (i := 38) rfl rfl)⟩
theorem lk_X12_371 : q_fl RX12 371 11 19 := ⟨RX12, TX12, 32, tyX12, q_ciX12, by decide, Or.inl (q_g6 (i := 54) rfl rfl)⟩
theorem lk_X12_374 : q_fl RX12 374 11 20 := ⟨RX12, TX12, 32, tyX12, q_ciX12, by decide, Or.inl (q_g6 (i := 55) rfl rfl)⟩
theorem lk_X12_461 : q_fl RX12 461 11 24 := ⟨RX12, TX12, 32, tyX12, q_ciX12, by decide, Or.inl (q_g6 (i := 59) rfl rfl)⟩
theorem lk_X12_480 : q_fl RX12 480 11 26 := ⟨RX12, TX12, 32, tyX12, q_ciX12, by decide, Or.inl (q_g6 (i := 61) rfl rfl)⟩
theorem lk_X12_483 : q_fl RX12 483 11 27 := ⟨RX12, TX12, 32, tyX12, q_ciX12, by decide, Or.inl (q_g6 (i := 62) rfl rfl)⟩
theorem lk_X12_486 : q_fl RX12 486 11 28 := ⟨RX12, TX12, 32, tyX12, q_ciX12, by decide, Or.inl (q_g6 (i := 63) rfl rfl)⟩
theorem lk_X12_534 : q_fl RX12 534 11 31 := ⟨RX12, TX12, 32, tyX12, q_ciX12, by decide, Or.inl (q_g6 (i := 66) rfl rfl)⟩
theorem lk_X2_14 : q_fl RX2 14 1 0 := ⟨RX2, TX2, 4, tyX2, q_ciX2, by decide, Or.inl (q_g2 (i := 44) rfl rfl)⟩
theorem lk_X2_20 : q_fl RX2 20 1 1 := ⟨RX2, TX2, 4, tyX2, q_ciX2, by decide, Or.inl (q_g2 (i := 45) rfl rfl)⟩
theorem lk_X2_23 : q_fl RX2 23 1 2 := ⟨RX2, TX2, 4, tyX2, q_ciX2, by decide, Or.inl (q_g2 (i := 46) rfl rfl)⟩
theorem lk_X2_27 : q_fl RX2 27 1 3 := ⟨RX2, TX2, 4, tyX2, q_ciX2, by decide, Or.inl (q_g2 (i := 47) rfl rfl)⟩
theorem lk_X2_51 : q_fl RX2 51 2 8 := ⟨RX3, TX3, 10, tyX3, q_ciX3, by decide, Or.inr ⟨_, q_n1 (i := 93) (rfl : _ = some (Cond.fieldLinkNest "SecondPaper$Choice" 51 "SecondPaper$College" "takeTrams" "LSecondPaper$Table;" "SecondPaper")) rfl⟩⟩
theorem lk_X3_14 : q_fl RX3 14 2 0 := ⟨RX3, TX3, 10, tyX3, q_ciX3, by decide, Or.inl (q_g1 (i := 68) rfl rfl)⟩
theorem lk_X3_20 : q_fl RX3 20 2 1 := ⟨RX3, TX3, 10, tyX3, q_ciX3, by decide, Or.inl (q_g1 (i := 71) rfl rfl)⟩
theorem lk_X3_23 : q_fl RX3 23 2 2 := ⟨RX3, TX3, 10, tyX3, q_ciX3, by decide, Or.inl (q_g1 (i := 74) rfl rfl)⟩
theorem lk_X3_26 : q_fl RX3 26 2 3 := ⟨RX3, TX3, 10, tyX3, q_ciX3, by decide, Or.inl (q_g1 (i := 77) rfl rfl)⟩
theorem lk_X3_32 : q_fl RX3 32 2 5 := ⟨RX3, TX3, 10, tyX3, q_ciX3, by decide, Or.inl (q_g1 (i := 83) rfl rfl)⟩
theorem lk_X3_35 : q_fl RX3 35 2 6 := ⟨RX3, TX3, 10, tyX3, q_ciX3, by decide, Or.inl (q_g1 (i := 87) rfl rfl)⟩
theorem lk_X3_38 : q_fl RX3 38 2 7 := ⟨RX3, TX3, 10, tyX3, q_ciX3, by decide, Or.inl (q_g1 (i := 89) rfl rfl)⟩
theorem lk_X3_41 : q_fl RX3 41 2 8 := ⟨RX3, TX3, 10, tyX3, q_ciX3, by decide, Or.inl (q_g1 (i := 92) rfl rfl)⟩
theorem lk_X3_44 : q_fl RX3 44 2 9 := ⟨RX3, TX3, 10, tyX3, q_ciX3, by decide, Or.inl (q_g1 (i := 97) rfl rfl)⟩
theorem lk_X4_18 : q_fl RX4 18 3 0 := ⟨RX4, TX4, 5, tyX4, q_ciX4, by decide, Or.inl (q_g1 (i := 201) rfl rfl)⟩
theorem lk_X4_22 : q_fl RX4 22 3 1 := ⟨RX4, TX4, 5, tyX4, q_ciX4, by decide, Or.inl (q_g1 (i := 202) rfl rfl)⟩
theorem lk_X4_25 : q_fl RX4 25 3 2 := ⟨RX4, TX4, 5, tyX4, q_ciX4, by decide, Or.inl (q_g1 (i := 203) rfl rfl)⟩
theorem lk_X4_29 : q_fl RX4 29 3 3 := ⟨RX4, TX4, 5, tyX4, q_ciX4, by decide, Or.inl (q_g1 (i := 204) rfl rfl)⟩
theorem lk_X4_32 : q_fl RX4 32 3 4 := ⟨RX4, TX4, 5, tyX4, q_ciX4, by decide, Or.inl (q_g1 (i := 205) rfl rfl)⟩
theorem lk_X5_12 : q_fl RX5 12 4 0 := ⟨RX5, TX5, 3, tyX5, q_ciX5, by decide, Or.inl (q_g1 (i := 227) rfl rfl)⟩
theorem lk_X5_23 : q_fl RX5 23 4 1 := ⟨RX5, TX5, 3, tyX5, q_ciX5, by decide, Or.inl (q_g1 (i := 228) rfl rfl)⟩
theorem lk_X5_27 : q_fl RX5 27 4 2 := ⟨RX5, TX5, 3, tyX5, q_ciX5, by decide, Or.inl (q_g1 (i := 229) rfl rfl)⟩
theorem lk_X5_60 : q_fl RX5 60 2 4 := ⟨RX3, TX3, 10, tyX3, q_ciX3, by decide, Or.inr ⟨_, q_n1 (i := 81) (rfl : _ = some (Cond.fieldLinkNest "SecondPaper$Plan" 60 "SecondPaper$College" "gifts" "LSecondPaper$Table;" "SecondPaper")) rfl⟩⟩
theorem lk_X6_9 : q_fl RX6 9 5 0 := ⟨RX6, TX6, 15, tyX6, q_ciX6, by decide, Or.inl (q_g1 (i := 122) rfl rfl)⟩
theorem lk_X6_15 : q_fl RX6 15 5 1 := ⟨RX6, TX6, 15, tyX6, q_ciX6, by decide, Or.inl (q_g1 (i := 123) rfl rfl)⟩
theorem lk_X6_22 : q_fl RX6 22 5 2 := ⟨RX6, TX6, 15, tyX6, q_ciX6, by decide, Or.inl (q_g1 (i := 124) rfl rfl)⟩
theorem lk_X6_26 : q_fl RX6 26 5 3 := ⟨RX6, TX6, 15, tyX6, q_ciX6, by decide, Or.inl (q_g1 (i := 125) rfl rfl)⟩
theorem lk_X6_35 : q_fl RX6 35 5 4 := ⟨RX6, TX6, 15, tyX6, q_ciX6, by decide, Or.inl (q_g1 (i := 126) rfl rfl)⟩
theorem lk_X6_39 : q_fl RX6 39 5 5 := ⟨RX6, TX6, 15, tyX6, q_ciX6, by decide, Or.inl (q_g1 (i := 127) rfl rfl)⟩
theorem lk_X6_42 : q_fl RX6 42 5 6 := ⟨RX6, TX6, 15, tyX6, q_ciX6, by decide, Or.inl (q_g1 (i := 128) rfl rfl)⟩
theorem lk_X6_45 : q_fl RX6 45 5 7 := ⟨RX6, TX6, 15, tyX6, q_ciX6, by decide, Or.inl (q_g1 (i := 129) rfl rfl)⟩
theorem lk_X6_48 : q_fl RX6 48 5 8 := ⟨RX6, TX6, 15, tyX6, q_ciX6, by decide, Or.inl (q_g1 (i := 130) rfl rfl)⟩
theorem lk_X6_51 : q_fl RX6 51 5 9 := ⟨RX6, TX6, 15, tyX6, q_ciX6, by decide, Or.inl (q_g1 (i := 131) rfl rfl)⟩
theorem lk_X6_54 : q_fl RX6 54 5 10 := ⟨RX6, TX6, 15, tyX6, q_ciX6, by decide, Or.inl (q_g1 (i := 132) rfl rfl)⟩
theorem lk_X6_58 : q_fl RX6 58 5 11 := ⟨RX6, TX6, 15, tyX6, q_ciX6, by decide, Or.inl (q_g1 (i := 133) rfl rfl)⟩
theorem lk_X6_61 : q_fl RX6 61 5 12 := ⟨RX6, TX6, 15, tyX6, q_ciX6, by decide, Or.inl (q_g1 (i := 134) rfl rfl)⟩
theorem lk_X6_64 : q_fl RX6 64 5 13 := ⟨RX6, TX6, 15, tyX6, q_ciX6, by decide, Or.inl (q_g1 (i := 135) rfl rfl)⟩
theorem lk_X6_67 : q_fl RX6 67 5 14 := ⟨RX6, TX6, 15, tyX6, q_ciX6, by decide, Or.inl (q_g1 (i := 136) rfl rfl)⟩
theorem lk_X6_185 : q_fl RX6 185 2 7 := ⟨RX3, TX3, 10, tyX3, q_ciX3, by decide, Or.inr ⟨_, q_n1 (i := 91) (rfl : _ = some (Cond.fieldLinkNest "SecondPaper$Reader" 185 "SecondPaper$College" "rideTrams" "LSecondPaper$Table;" "SecondPaper")) rfl⟩⟩
theorem lk_X6_192 : q_fl RX6 192 2 8 := ⟨RX3, TX3, 10, tyX3, q_ciX3, by decide, Or.inr ⟨_, q_n1 (i := 96) (rfl : _ = some (Cond.fieldLinkNest "SecondPaper$Reader" 192 "SecondPaper$College" "takeTrams" "LSecondPaper$Table;" "SecondPaper")) rfl⟩⟩
theorem lk_X6_204 : q_fl RX6 204 2 9 := ⟨RX3, TX3, 10, tyX3, q_ciX3, by decide, Or.inr ⟨_, q_n1 (i := 98) (rfl : _ = some (Cond.fieldLinkNest "SecondPaper$Reader" 204 "SecondPaper$College" "counts" "LSecondPaper$Table;" "SecondPaper")) rfl⟩⟩
theorem lk_X6_240 : q_fl RX6 240 2 0 := ⟨RX3, TX3, 10, tyX3, q_ciX3, by decide, Or.inr ⟨_, q_n1 (i := 70) (rfl : _ = some (Cond.fieldLinkNest "SecondPaper$Reader" 240 "SecondPaper$College" "things" "LSecondPaper$Table;" "SecondPaper")) rfl⟩⟩
theorem lk_X6_253 : q_fl RX6 253 2 1 := ⟨RX3, TX3, 10, tyX3, q_ciX3, by decide, Or.inr ⟨_, q_n1 (i := 73) (rfl : _ = some (Cond.fieldLinkNest "SecondPaper$Reader" 253 "SecondPaper$College" "people" "LSecondPaper$Table;" "SecondPaper")) rfl⟩⟩
theorem lk_X6_262 : q_fl RX6 262 2 2 := ⟨RX3, TX3, 10, tyX3, q_ciX3, by decide, Or.inr ⟨_, q_n1 (i := 76) (rfl : _ = some (Cond.fieldLinkNest "SecondPaper$Reader" 262 "SecondPaper$College" "trams" "LSecondPaper$Table;" "SecondPaper")) rfl⟩⟩
theorem lk_X6_269 : q_fl RX6 269 2 3 := ⟨RX3, TX3, 10, tyX3, q_ciX3, by decide, Or.inr ⟨_, q_n1 (i := 79) (rfl : _ = some (Cond.fieldLinkNest "SecondPaper$Reader" 269 "SecondPaper$College" "givers" "LSecondPaper$Table;" "SecondPaper")) rfl⟩⟩
theorem lk_X6_275 : q_fl RX6 275 2 4 := ⟨RX3, TX3, 10, tyX3, q_ciX3, by decide, Or.inr ⟨_, q_n1 (i := 82) (rfl : _ = some (Cond.fieldLinkNest "SecondPaper$Reader" 275 "SecondPaper$College" "gifts" "LSecondPaper$Table;" "SecondPaper")) rfl⟩⟩
theorem lk_X6_281 : q_fl RX6 281 2 5 := ⟨RX3, TX3, 10, tyX3, q_ciX3, by decide, Or.inr ⟨_, q_n1 (i := 86) (rfl : _ = some (Cond.fieldLinkNest "SecondPaper$Reader" 281 "SecondPaper$College" "founds" "LSecondPaper$Table;" "SecondPaper")) rfl⟩⟩
theorem lk_X6_284 : q_fl RX6 284 2 6 := ⟨RX3, TX3, 10, tyX3, q_ciX3, by decide, Or.inr ⟨_, q_n1 (i := 88) (rfl : _ = some (Cond.fieldLinkNest "SecondPaper$Reader" 284 "SecondPaper$College" "exams" "LSecondPaper$Table;" "SecondPaper")) rfl⟩⟩
theorem lk_X7_16 : q_fl RX7 16 6 0 := ⟨RX7, TX7, 1, tyX7, q_ciX7, by decide, Or.inl (q_g1 (i := 189) rfl rfl)⟩
theorem lk_X8_18 : q_fl RX8 18 7 0 := ⟨RX8, TX8, 3, tyX8, q_ciX8, by decide, Or.inl (q_g1 (i := 56) rfl rfl)⟩
theorem lk_X8_22 : q_fl RX8 22 7 1 := ⟨RX8, TX8, 3, tyX8, q_ciX8, by decide, Or.inl (q_g1 (i := 57) rfl rfl)⟩
theorem lk_X8_25 : q_fl RX8 25 7 2 := ⟨RX8, TX8, 3, tyX8, q_ciX8, by decide, Or.inl (q_g1 (i := 58) rfl rfl)⟩
theorem lk_X9_14 : q_fl RX9 14 8 0 := ⟨RX9, TX9, 4, tyX9, q_ciX9, by decide, Or.inl (q_g2 (i := 23) rfl rfl)⟩
theorem lk_X9_20 : q_fl RX9 20 8 1 := ⟨RX9, TX9, 4, tyX9, q_ciX9, by decide, Or.inl (q_g2 (i := 24) rfl rfl)⟩
theorem lk_X9_23 : q_fl RX9 23 8 2 := ⟨RX9, TX9, 4, tyX9, q_ciX9, by decide, Or.inl (q_g2 (i := 25) rfl rfl)⟩
theorem lk_X9_27 : q_fl RX9 27 8 3 := ⟨RX9, TX9, 4, tyX9, q_ciX9, by decide, Or.inl (q_g2 (i := 26) rfl rfl)⟩
theorem lk_X9_56 : q_fl RX9 56 2 5 := ⟨RX3, TX3, 10, tyX3, q_ciX3, by decide, Or.inr ⟨_, q_n1 (i := 84) (rfl : _ = some (Cond.fieldLinkNest "SecondPaper$WhoGave" 56 "SecondPaper$College" "founds" "LSecondPaper$Table;" "SecondPaper")) rfl⟩⟩
theorem fp_X0_20 : q_fp RX0 20 0 1 .boolean := ⟨RX0, TX0, 3, tyX0, q_ciX0, by decide, rfl, by decide +kernel, Or.inl (q_g2 (i := 6) rfl rfl)⟩
theorem fp_X0_24 : q_fp RX0 24 0 2 .int := ⟨RX0, TX0, 3, tyX0, q_ciX0, by decide, rfl, by decide +kernel, Or.inl (q_g2 (i := 7) rfl rfl)⟩
theorem fp_X10_58 : q_fp RX10 58 9 7 .int := ⟨RX10, TX10, 9, tyX10, q_ciX10, by decide, rfl, by decide +kernel, Or.inl (q_g2 (i := 66) rfl rfl)⟩
theorem fp_X10_65 : q_fp RX10 65 9 8 (.object "SecondPaper$College") := ⟨RX10, TX10, 9, tyX10, q_ciX10, by decide, rfl, by decide +kernel, Or.inl (q_g2 (i := 67) rfl rfl)⟩
theorem fp_X12_9 : q_fp RX12 9 11 2 .int := ⟨RX12, TX12, 32, tyX12, q_ciX12, by decide, rfl, by decide +kernel, Or.inl (q_g6 (i := 37) rfl rfl)⟩
theorem fp_X12_48 : q_fp RX12 48 11 0 .int := ⟨RX12, TX12, 32, tyX12, q_ciX12, by decide, rfl, by decide +kernel, Or.inl (q_g6 (i := 35) rfl rfl)⟩
theorem fp_X12_51 : q_fp RX12 51 11 1 .int := ⟨RX12, TX12, 32, tyX12, q_ciX12, by decide, rfl, by decide +kernel, Or.inl (q_g6 (i := 36) rfl rfl)⟩
theorem fp_X12_80 : q_fp RX12 80 11 9 .int := ⟨RX12, TX12, 32, tyX12, q_ciX12, by decide, rfl, by decide +kernel, Or.inl (q_g6 (i := 44) rfl rfl)⟩
theorem fp_X12_83 : q_fp RX12 83 11 8 .int := ⟨RX12, TX12, 32, tyX12, q_ciX12, by decide, rfl, by decide +kernel, Or.inl (q_g6 (i := 43) rfl rfl)⟩
theorem fp_X12_89 : q_fp RX12 89 11 10 .int := ⟨RX12, TX12, 32, tyX12, q_ciX12, by decide, rfl, by decide +kernel, Or.inl (q_g6 (i := 45) rfl rfl)⟩
theorem fp_X12_96 : q_fp RX12 96 11 14 .long := ⟨RX12, TX12, 32, tyX12, q_ciX12, by decide, rfl, by decide +kernel, Or.inl (q_g6 (i := 49) rfl rfl)⟩
theorem fp_X12_103 : q_fp RX12 103 11 11 .int := ⟨RX12, TX12, 32, tyX12, q_ciX12, by decide, rfl, by decide +kernel, Or.inl (q_g6 (i := 46) rfl rfl)⟩
theorem fp_X12_106 : q_fp RX12 106 11 12 .int := ⟨RX12, TX12, 32, tyX12, q_ciX12, by decide, rfl, by decide +kernel, Or.inl (q_g6 (i := 47) rfl rfl)⟩
theorem fp_X12_109 : q_fp RX12 109 11 13 .int := ⟨RX12, TX12, 32, tyX12, q_ciX12, by decide, rfl, by decide +kernel, Or.inl (q_g6 (i := 48) rfl rfl)⟩
theorem fp_X12_166 : q_fp RX12 166 10 0 .int := ⟨RX11, TX11, 35, tyX11, q_ciX11, by decide, rfl, by decide +kernel, Or.inr ⟨_, q_n6 (i := 154) (rfl : _ = some (Cond.fieldLinkNest "SecondPaperModel" 166 "SecondPaperModel$College" "days" "I" "SecondPaperModel")) rfl⟩⟩
theorem fp_X12_183 : q_fp RX12 183 10 10 .int := ⟨RX11, TX11, 35, tyX11, q_ciX11, by decide, rfl, by decide +kernel, Or.inr ⟨_, q_n6 (i := 165) (rfl : _ = some (Cond.fieldLinkNest "SecondPaperModel" 183 "SecondPaperModel$College" "names" "I" "SecondPaperModel")) rfl⟩⟩
theorem fp_X12_201 : q_fp RX12 201 10 2 .int := ⟨RX11, TX11, 35, tyX11, q_ciX11, by decide, rfl, by decide +kernel, Or.inr ⟨_, q_n6 (i := 156) (rfl : _ = some (Cond.fieldLinkNest "SecondPaperModel" 201 "SecondPaperModel$College" "things" "I" "SecondPaperModel")) rfl⟩⟩
theorem fp_X12_204 : q_fp RX12 204 10 3 .int := ⟨RX11, TX11, 35, tyX11, q_ciX11, by decide, rfl, by decide +kernel, Or.inr ⟨_, q_n6 (i := 157) (rfl : _ = some (Cond.fieldLinkNest "SecondPaperModel" 204 "SecondPaperModel$College" "people" "I" "SecondPaperModel")) rfl⟩⟩
theorem fp_X12_207 : q_fp RX12 207 10 5 .int := ⟨RX11, TX11, 35, tyX11, q_ciX11, by decide, rfl, by decide +kernel, Or.inr ⟨_, q_n6 (i := 159) (rfl : _ = some (Cond.fieldLinkNest "SecondPaperModel" 207 "SecondPaperModel$College" "givers" "I" "SecondPaperModel")) rfl⟩⟩
theorem fp_X12_249 : q_fp RX12 249 10 1 .int := ⟨RX11, TX11, 35, tyX11, q_ciX11, by decide, rfl, by decide +kernel, Or.inr ⟨_, q_n6 (i := 155) (rfl : _ = some (Cond.fieldLinkNest "SecondPaperModel" 249 "SecondPaperModel$College" "limit" "I" "SecondPaperModel")) rfl⟩⟩
theorem fp_X12_297 : q_fp RX12 297 10 4 .int := ⟨RX11, TX11, 35, tyX11, q_ciX11, by decide, rfl, by decide +kernel, Or.inr ⟨_, q_n6 (i := 158) (rfl : _ = some (Cond.fieldLinkNest "SecondPaperModel" 297 "SecondPaperModel$College" "trams" "I" "SecondPaperModel")) rfl⟩⟩
theorem fp_X12_312 : q_fp RX12 312 10 6 .int := ⟨RX11, TX11, 35, tyX11, q_ciX11, by decide, rfl, by decide +kernel, Or.inr ⟨_, q_n6 (i := 160) (rfl : _ = some (Cond.fieldLinkNest "SecondPaperModel" 312 "SecondPaperModel$College" "lines" "I" "SecondPaperModel")) rfl⟩⟩
theorem fp_X12_318 : q_fp RX12 318 10 7 .int := ⟨RX11, TX11, 35, tyX11, q_ciX11, by decide, rfl, by decide +kernel, Or.inr ⟨_, q_n6 (i := 161) (rfl : _ = some (Cond.fieldLinkNest "SecondPaperModel" 318 "SecondPaperModel$College" "gifts" "I" "SecondPaperModel")) rfl⟩⟩
theorem fp_X12_336 : q_fp RX12 336 10 8 .int := ⟨RX11, TX11, 35, tyX11, q_ciX11, by decide, rfl, by decide +kernel, Or.inr ⟨_, q_n6 (i := 162) (rfl : _ = some (Cond.fieldLinkNest "SecondPaperModel" 336 "SecondPaperModel$College" "finds" "I" "SecondPaperModel")) rfl⟩⟩
theorem fp_X12_339 : q_fp RX12 339 10 9 .int := ⟨RX11, TX11, 35, tyX11, q_ciX11, by decide, rfl, by decide +kernel, Or.inr ⟨_, q_n6 (i := 163) (rfl : _ = some (Cond.fieldLinkNest "SecondPaperModel" 339 "SecondPaperModel$College" "exams" "I" "SecondPaperModel")) rfl⟩⟩
theorem fp_X12_362 : q_fp RX12 362 11 6 .int := ⟨RX12, TX12, 32, tyX12, q_ciX12, by decide, rfl, by decide +kernel, Or.inl (q_g6 (i := 41) rfl rfl)⟩
theorem fp_X12_371 : q_fp RX12 371 11 19 .int := ⟨RX12, TX12, 32, tyX12, q_ciX12, by decide, rfl, by decide +kernel, Or.inl (q_g6 (i := 54) rfl rfl)⟩
theorem fp_X12_374 : q_fp RX12 374 11 20 .int := ⟨RX12, TX12, 32, tyX12, q_ciX12, by decide, rfl, by decide +kernel, Or.inl (q_g6 (i := 55) rfl rfl)⟩
theorem fp_X12_461 : q_fp RX12 461 11 24 .int := ⟨RX12, TX12, 32, tyX12, q_ciX12, by decide, rfl, by decide +kernel, Or.inl (q_g6 (i := 59) rfl rfl)⟩
theorem fp_X12_480 : q_fp RX12 480 11 26 .int := ⟨RX12, TX12, 32, tyX12, q_ciX12, by decide, rfl, by decide +kernel, Or.inl (q_g6 (i := 61) rfl rfl)⟩
theorem fp_X12_483 : q_fp RX12 483 11 27 .long := ⟨RX12, TX12, 32, tyX12, q_ciX12, by decide, rfl, by decide +kernel, Or.inl (q_g6 (i := 62) rfl rfl)⟩
theorem fp_X12_486 : q_fp RX12 486 11 28 .long := ⟨RX12, TX12, 32, tyX12, q_ciX12, by decide, rfl, by decide +kernel, Or.inl (q_g6 (i := 63) rfl rfl)⟩
theorem fp_X12_534 : q_fp RX12 534 11 31 .int := ⟨RX12, TX12, 32, tyX12, q_ciX12, by decide, rfl, by decide +kernel, Or.inl (q_g6 (i := 66) rfl rfl)⟩
theorem fp_X2_23 : q_fp RX2 23 1 2 .int := ⟨RX2, TX2, 4, tyX2, q_ciX2, by decide, rfl, by decide +kernel, Or.inl (q_g2 (i := 46) rfl rfl)⟩
theorem fp_X2_27 : q_fp RX2 27 1 3 .int := ⟨RX2, TX2, 4, tyX2, q_ciX2, by decide, rfl, by decide +kernel, Or.inl (q_g2 (i := 47) rfl rfl)⟩
theorem fp_X4_25 : q_fp RX4 25 3 2 .int := ⟨RX4, TX4, 5, tyX4, q_ciX4, by decide, rfl, by decide +kernel, Or.inl (q_g1 (i := 203) rfl rfl)⟩
theorem fp_X4_29 : q_fp RX4 29 3 3 .int := ⟨RX4, TX4, 5, tyX4, q_ciX4, by decide, rfl, by decide +kernel, Or.inl (q_g1 (i := 204) rfl rfl)⟩
theorem fp_X4_32 : q_fp RX4 32 3 4 .int := ⟨RX4, TX4, 5, tyX4, q_ciX4, by decide, rfl, by decide +kernel, Or.inl (q_g1 (i := 205) rfl rfl)⟩
theorem fp_X5_27 : q_fp RX5 27 4 2 .int := ⟨RX5, TX5, 3, tyX5, q_ciX5, by decide, rfl, by decide +kernel, Or.inl (q_g1 (i := 229) rfl rfl)⟩
theorem fp_X6_15 : q_fp RX6 15 5 1 .int := ⟨RX6, TX6, 15, tyX6, q_ciX6, by decide, rfl, by decide +kernel, Or.inl (q_g1 (i := 123) rfl rfl)⟩
theorem fp_X6_22 : q_fp RX6 22 5 2 (.object "SecondPaper$College") := ⟨RX6, TX6, 15, tyX6, q_ciX6, by decide, rfl, by decide +kernel, Or.inl (q_g1 (i := 124) rfl rfl)⟩
theorem fp_X6_39 : q_fp RX6 39 5 5 .int := ⟨RX6, TX6, 15, tyX6, q_ciX6, by decide, rfl, by decide +kernel, Or.inl (q_g1 (i := 127) rfl rfl)⟩
theorem fp_X6_42 : q_fp RX6 42 5 6 .int := ⟨RX6, TX6, 15, tyX6, q_ciX6, by decide, rfl, by decide +kernel, Or.inl (q_g1 (i := 128) rfl rfl)⟩
theorem fp_X6_45 : q_fp RX6 45 5 7 .int := ⟨RX6, TX6, 15, tyX6, q_ciX6, by decide, rfl, by decide +kernel, Or.inl (q_g1 (i := 129) rfl rfl)⟩
theorem fp_X6_48 : q_fp RX6 48 5 8 .int := ⟨RX6, TX6, 15, tyX6, q_ciX6, by decide, rfl, by decide +kernel, Or.inl (q_g1 (i := 130) rfl rfl)⟩
theorem fp_X6_51 : q_fp RX6 51 5 9 .int := ⟨RX6, TX6, 15, tyX6, q_ciX6, by decide, rfl, by decide +kernel, Or.inl (q_g1 (i := 131) rfl rfl)⟩
theorem fp_X6_54 : q_fp RX6 54 5 10 .long := ⟨RX6, TX6, 15, tyX6, q_ciX6, by decide, rfl, by decide +kernel, Or.inl (q_g1 (i := 132) rfl rfl)⟩
theorem fp_X6_58 : q_fp RX6 58 5 11 .int := ⟨RX6, TX6, 15, tyX6, q_ciX6, by decide, rfl, by decide +kernel, Or.inl (q_g1 (i := 133) rfl rfl)⟩
theorem fp_X6_61 : q_fp RX6 61 5 12 .int := ⟨RX6, TX6, 15, tyX6, q_ciX6, by decide, rfl, by decide +kernel, Or.inl (q_g1 (i := 134) rfl rfl)⟩
theorem fp_X6_64 : q_fp RX6 64 5 13 .int := ⟨RX6, TX6, 15, tyX6, q_ciX6, by decide, rfl, by decide +kernel, Or.inl (q_g1 (i := 135) rfl rfl)⟩
theorem fp_X6_67 : q_fp RX6 67 5 14 .int := ⟨RX6, TX6, 15, tyX6, q_ciX6, by decide, rfl, by decide +kernel, Or.inl (q_g1 (i := 136) rfl rfl)⟩
theorem fp_X9_23 : q_fp RX9 23 8 2 .boolean := ⟨RX9, TX9, 4, tyX9, q_ciX9, by decide, rfl, by decide +kernel, Or.inl (q_g2 (i := 25) rfl rfl)⟩
theorem fp_X9_27 : q_fp RX9 27 8 3 .int := ⟨RX9, TX9, 4, tyX9, q_ciX9, by decide, rfl, by decide +kernel, Or.inl (q_g2 (i := 26) rfl rfl)⟩
theorem cw_X0_28 : q_cw RX0 28 7 yX8_get cX8_get 4 (some .int) 2 := ⟨q_g4 (i := 133) rfl rfl, q_g2 (i := 212) rfl rfl, q_g2 (i := 213) rfl rfl, q_g1 (i := 4) rfl rfl, q_g2 (i := 214) rfl rfl, ⟨by decide +kernel, by decide +kernel⟩, by decide +kernel, _, _, rfl⟩
theorem cw_X0_32 : q_cw RX0 32 2 yX3_neverGiven cX3_neverGiven 3 (some .int) 0 := ⟨q_g4 (i := 111) rfl rfl, q_g4 (i := 112) rfl rfl, q_g4 (i := 113) rfl rfl, q_g1 (i := 3) rfl rfl, q_g4 (i := 114) rfl rfl, ⟨by decide +kernel, by decide +kernel⟩, by decide +kernel, _, _, rfl⟩
theorem cw_X0_38 : q_cw RX0 38 2 yX3_count cX3_count 2 (some .int) 1 := ⟨q_g4 (i := 124) rfl rfl, q_g2 (i := 208) rfl rfl, q_g2 (i := 209) rfl rfl, q_g1 (i := 3) rfl rfl, q_g2 (i := 210) rfl rfl, ⟨by decide +kernel, by decide +kernel⟩, by decide +kernel, _, _, rfl⟩
theorem cw_X0_42 : q_cw RX0 42 2 yX3_anybodyTogether cX3_anybodyTogether 4 (some .boolean) 1 := ⟨q_g4 (i := 125) rfl rfl, q_g4 (i := 126) rfl rfl, q_g4 (i := 127) rfl rfl, q_g1 (i := 3) rfl rfl, q_g4 (i := 128) rfl rfl, ⟨by decide +kernel, by decide +kernel⟩, by decide +kernel, _, _, rfl⟩
theorem cw_X0_46 : q_cw RX0 46 0 yX0_place cX0_place 9 (some .boolean) 4 := ⟨q_g4 (i := 129) rfl rfl, q_g4 (i := 131) rfl rfl, q_gs (i := 35) (by decide +kernel) rfl, q_g1 (i := 9) rfl rfl, q_g4 (i := 132) rfl rfl, ⟨by decide +kernel, by decide +kernel⟩, by decide +kernel, _, _, rfl⟩
theorem cw_X0_53 : q_cw RX0 53 0 yX0_choose cX0_choose 5 none 4 := ⟨q_g4 (i := 134) rfl rfl, q_g4 (i := 136) rfl rfl, q_gs (i := 36) (by decide +kernel) rfl, q_g1 (i := 9) rfl rfl, q_g4 (i := 137) rfl rfl, ⟨by decide +kernel, by decide +kernel⟩, by decide +kernel, _, _, rfl⟩
theorem cw_X0_57 : q_cw RX0 57 0 yX0_standsBy cX0_standsBy 4 (some .boolean) 2 := ⟨q_g4 (i := 139) rfl rfl, q_g4 (i := 141) rfl rfl, q_gs (i := 37) (by decide +kernel) rfl, q_g1 (i := 9) rfl rfl, q_g4 (i := 142) rfl rfl, ⟨by decide +kernel, by decide +kernel⟩, by decide +kernel, _, _, rfl⟩
theorem cw_X0_61 : q_cw RX0 61 7 yX8_set cX8_set 5 none 3 := ⟨q_g4 (i := 138) rfl rfl, q_g1 (i := 186) rfl rfl, q_g1 (i := 187) rfl rfl, q_g1 (i := 4) rfl rfl, q_g1 (i := 188) rfl rfl, ⟨by decide +kernel, by decide +kernel⟩, by decide +kernel, _, _, rfl⟩
theorem cw_X0_65 : q_cw RX0 65 0 yX0_stands cX0_stands 10 (some .boolean) 3 := ⟨q_g4 (i := 143) rfl rfl, q_g4 (i := 145) rfl rfl, q_gs (i := 38) (by decide +kernel) rfl, q_g1 (i := 9) rfl rfl, q_g4 (i := 146) rfl rfl, ⟨by decide +kernel, by decide +kernel⟩, by decide +kernel, _, _, rfl⟩
theorem cw_X0_69 : q_cw RX0 69 2 yX3_canGive cX3_canGive 7 (some .boolean) 5 := ⟨q_g4 (i := 147) rfl rfl, q_g4 (i := 120) rfl rfl, q_g4 (i := 121) rfl rfl, q_g1 (i := 3) rfl rfl, q_g4 (i := 122) rfl rfl, ⟨by decide +kernel, by decide +kernel⟩, by decide +kernel, _, _, rfl⟩
theorem cw_X1_9 : q_cs RX1 9 yX1_bestCount cX1_bestCount 7 (some .int) 1 := ⟨q_g4 (i := 215) rfl rfl, q_g4 (i := 216) rfl rfl, q_g1 (i := 19) rfl rfl, q_g4 (i := 217) rfl rfl, ⟨by decide +kernel, by decide +kernel⟩, by decide +kernel⟩
theorem cw_X1_15 : q_cs RX1 15 yX1_product cX1_product 5 (some .long) 2 := ⟨q_g4 (i := 219) rfl rfl, q_g4 (i := 220) rfl rfl, q_g1 (i := 19) rfl rfl, q_g4 (i := 221) rfl rfl, ⟨by decide +kernel, by decide +kernel⟩, by decide +kernel⟩
theorem cw_X1_19 : q_cs RX1 19 yX1_sum cX1_sum 8 (some .long) 2 := ⟨q_g4 (i := 226) rfl rfl, q_g4 (i := 227) rfl rfl, q_g1 (i := 19) rfl rfl, q_g4 (i := 228) rfl rfl, ⟨by decide +kernel, by decide +kernel⟩, by decide +kernel⟩
theorem cw_X1_22 : q_cs RX1 22 yX1_part cX1_part 12 (some .long) 3 := ⟨q_g4 (i := 229) rfl rfl, q_g4 (i := 230) rfl rfl, q_g1 (i := 19) rfl rfl, q_g4 (i := 231) rfl rfl, ⟨by decide +kernel, by decide +kernel⟩, by decide +kernel⟩
theorem cw_X1_32 : q_cw RX1 32 7 yX8_get cX8_get 4 (some .int) 2 := ⟨q_g4 (i := 225) rfl rfl, q_g2 (i := 212) rfl rfl, q_g2 (i := 213) rfl rfl, q_g1 (i := 4) rfl rfl, q_g2 (i := 214) rfl rfl, ⟨by decide +kernel, by decide +kernel⟩, by decide +kernel, _, _, rfl⟩
theorem cw_X1_38 : q_cs RX1 38 yX1_rank cX1_rank 6 (some .int) 2 := ⟨q_g4 (i := 222) rfl rfl, q_g4 (i := 223) rfl rfl, q_g1 (i := 19) rfl rfl, q_g4 (i := 224) rfl rfl, ⟨by decide +kernel, by decide +kernel⟩, by decide +kernel⟩
theorem cw_X1_42 : q_cw RX1 42 2 yX3_count cX3_count 2 (some .int) 1 := ⟨q_g4 (i := 218) rfl rfl, q_g2 (i := 208) rfl rfl, q_g2 (i := 209) rfl rfl, q_g1 (i := 3) rfl rfl, q_g2 (i := 210) rfl rfl, ⟨by decide +kernel, by decide +kernel⟩, by decide +kernel, _, _, rfl⟩
theorem cw_X1_46 : q_cs RX1 46 yX1_scaledMean cX1_scaledMean 2 (some .long) 2 := ⟨q_g5 (i := 73) rfl rfl, q_g5 (i := 74) rfl rfl, q_g1 (i := 19) rfl rfl, q_g5 (i := 75) rfl rfl, ⟨by decide +kernel, by decide +kernel⟩, by decide +kernel⟩
theorem cw_X1_50 : q_cs RX1 50 yX1_bestSteps cX1_bestSteps 3 (some .int) 1 := ⟨q_g5 (i := 87) rfl rfl, q_g5 (i := 71) rfl rfl, q_g1 (i := 19) rfl rfl, q_g5 (i := 72) rfl rfl, ⟨by decide +kernel, by decide +kernel⟩, by decide +kernel⟩
theorem cw_X1_53 : q_cs RX1 53 yX1_power cX1_power 6 (some .long) 2 := ⟨q_g5 (i := 76) rfl rfl, q_g5 (i := 77) rfl rfl, q_g1 (i := 19) rfl rfl, q_g5 (i := 78) rfl rfl, ⟨by decide +kernel, by decide +kernel⟩, by decide +kernel⟩
theorem cw_X10_69 : q_cw RX10 69 5 yX6_tapeLength cX6_tapeLength 1 (some .int) 0 := ⟨q_g2 (i := 91) rfl rfl, q_g2 (i := 92) rfl rfl, q_g2 (i := 93) rfl rfl, q_g1 (i := 2) rfl rfl, q_g2 (i := 94) rfl rfl, ⟨by decide +kernel, by decide +kernel⟩, by decide +kernel, _, _, rfl⟩
theorem cw_X10_73 : q_cw RX10 73 5 yX6_append cX6_append 3 none 1 := ⟨q_g2 (i := 95) rfl rfl, q_g2 (i := 96) rfl rfl, q_g2 (i := 97) rfl rfl, q_g1 (i := 2) rfl rfl, q_g2 (i := 98) rfl rfl, ⟨by decide +kernel, by decide +kernel⟩, by decide +kernel, _, _, rfl⟩
theorem cw_X10_77 : q_cw RX10 77 9 yX10_refused cX10_refused 2 (some .int) 1 := ⟨q_g2 (i := 103) rfl rfl, q_g2 (i := 105) rfl rfl, q_gs (i := 0) (by decide +kernel) rfl, q_g1 (i := 1) rfl rfl, q_g2 (i := 106) rfl rfl, ⟨by decide +kernel, by decide +kernel⟩, by decide +kernel, _, _, rfl⟩
theorem cw_X10_81 : q_cw RX10 81 5 yX6_read cX6_read 3 (some .boolean) 1 := ⟨q_g2 (i := 107) rfl rfl, q_g2 (i := 108) rfl rfl, q_g2 (i := 109) rfl rfl, q_g1 (i := 2) rfl rfl, q_g2 (i := 110) rfl rfl, ⟨by decide +kernel, by decide +kernel⟩, by decide +kernel, _, _, rfl⟩
theorem cw_X10_85 : q_cw RX10 85 5 yX6_exchange cX6_exchange 3 (some (.object "SecondPaper$College")) 1 := ⟨q_g3 (i := 86) rfl rfl, q_g3 (i := 87) rfl rfl, q_g3 (i := 88) rfl rfl, q_g1 (i := 2) rfl rfl, q_g3 (i := 89) rfl rfl, ⟨by decide +kernel, by decide +kernel⟩, by decide +kernel, _, _, rfl⟩
theorem cw_X10_89 : q_cw RX10 89 6 yX7_begin cX7_begin 2 none 0 := ⟨q_g3 (i := 90) rfl rfl, q_g1 (i := 178) rfl rfl, q_g1 (i := 179) rfl rfl, q_g1 (i := 6) rfl rfl, q_g1 (i := 180) rfl rfl, ⟨by decide +kernel, by decide +kernel⟩, by decide +kernel, _, _, rfl⟩
theorem cw_X10_92 : q_cw RX10 92 3 yX4_forgetAll cX4_forgetAll 1 none 0 := ⟨q_g3 (i := 91) rfl rfl, q_g3 (i := 92) rfl rfl, q_g3 (i := 93) rfl rfl, q_g1 (i := 7) rfl rfl, q_g3 (i := 94) rfl rfl, ⟨by decide +kernel, by decide +kernel⟩, by decide +kernel, _, _, rfl⟩
theorem cw_X10_95 : q_cw RX10 95 0 yX0_forget cX0_forget 1 none 0 := ⟨q_g3 (i := 95) rfl rfl, q_g3 (i := 96) rfl rfl, q_g3 (i := 97) rfl rfl, q_g1 (i := 9) rfl rfl, q_g3 (i := 98) rfl rfl, ⟨by decide +kernel, by decide +kernel⟩, by decide +kernel, _, _, rfl⟩
theorem cw_X10_98 : q_cw RX10 98 8 yX9_forget cX9_forget 1 none 0 := ⟨q_g3 (i := 99) rfl rfl, q_g3 (i := 100) rfl rfl, q_g3 (i := 101) rfl rfl, q_g1 (i := 10) rfl rfl, q_g3 (i := 102) rfl rfl, ⟨by decide +kernel, by decide +kernel⟩, by decide +kernel, _, _, rfl⟩
theorem cw_X10_99 : q_cw RX10 99 2 yX3_count cX3_count 2 (some .int) 1 := ⟨q_g3 (i := 103) rfl rfl, q_g2 (i := 208) rfl rfl, q_g2 (i := 209) rfl rfl, q_g1 (i := 3) rfl rfl, q_g2 (i := 210) rfl rfl, ⟨by decide +kernel, by decide +kernel⟩, by decide +kernel, _, _, rfl⟩
theorem cw_X10_102 : q_cw RX10 102 9 yX10_fine cX10_fine 2 (some .int) 1 := ⟨q_g3 (i := 104) rfl rfl, q_g3 (i := 106) rfl rfl, q_gs (i := 27) (by decide +kernel) rfl, q_g1 (i := 1) rfl rfl, q_g3 (i := 107) rfl rfl, ⟨by decide +kernel, by decide +kernel⟩, by decide +kernel, _, _, rfl⟩
theorem cw_X10_105 : q_cw RX10 105 5 yX6_faultNumber cX6_faultNumber 1 (some .int) 0 := ⟨q_g3 (i := 112) rfl rfl, q_g3 (i := 113) rfl rfl, q_g3 (i := 114) rfl rfl, q_g1 (i := 2) rfl rfl, q_g3 (i := 115) rfl rfl, ⟨by decide +kernel, by decide +kernel⟩, by decide +kernel, _, _, rfl⟩
theorem cw_X10_108 : q_cw RX10 108 5 yX6_faultPlace cX6_faultPlace 1 (some .int) 0 := ⟨q_g3 (i := 120) rfl rfl, q_g3 (i := 121) rfl rfl, q_g3 (i := 122) rfl rfl, q_g1 (i := 2) rfl rfl, q_g3 (i := 123) rfl rfl, ⟨by decide +kernel, by decide +kernel⟩, by decide +kernel, _, _, rfl⟩
theorem cw_X10_111 : q_cw RX10 111 2 yX3_has cX3_has 3 (some .boolean) 2 := ⟨q_g3 (i := 128) rfl rfl, q_g3 (i := 129) rfl rfl, q_g3 (i := 130) rfl rfl, q_g1 (i := 3) rfl rfl, q_g3 (i := 131) rfl rfl, ⟨by decide +kernel, by decide +kernel⟩, by decide +kernel, _, _, rfl⟩
theorem cw_X10_119 : q_cw RX10 119 7 yX8_get cX8_get 4 (some .int) 2 := ⟨q_g3 (i := 132) rfl rfl, q_g2 (i := 212) rfl rfl, q_g2 (i := 213) rfl rfl, q_g1 (i := 4) rfl rfl, q_g2 (i := 214) rfl rfl, ⟨by decide +kernel, by decide +kernel⟩, by decide +kernel, _, _, rfl⟩
theorem cw_X10_125 : q_cw RX10 125 6 yX7_holder cX7_holder 2 (some .int) 1 := ⟨q_g3 (i := 133) rfl rfl, q_g3 (i := 134) rfl rfl, q_g3 (i := 135) rfl rfl, q_g1 (i := 6) rfl rfl, q_g3 (i := 136) rfl rfl, ⟨by decide +kernel, by decide +kernel⟩, by decide +kernel, _, _, rfl⟩
theorem cw_X10_131 : q_cw RX10 131 6 yX7_roomOf cX7_roomOf 3 (some .int) 2 := ⟨q_g3 (i := 142) rfl rfl, q_g3 (i := 143) rfl rfl, q_g3 (i := 144) rfl rfl, q_g1 (i := 6) rfl rfl, q_g3 (i := 145) rfl rfl, ⟨by decide +kernel, by decide +kernel⟩, by decide +kernel, _, _, rfl⟩
theorem cw_X10_135 : q_cw RX10 135 6 yX7_thingsOf cX7_thingsOf 4 (some .int) 1 := ⟨q_g3 (i := 150) rfl rfl, q_g3 (i := 151) rfl rfl, q_g3 (i := 152) rfl rfl, q_g1 (i := 6) rfl rfl, q_g3 (i := 153) rfl rfl, ⟨by decide +kernel, by decide +kernel⟩, by decide +kernel, _, _, rfl⟩
theorem cw_X10_141 : q_cw RX10 141 6 yX7_scoreOf cX7_scoreOf 2 (some .int) 1 := ⟨q_g3 (i := 158) rfl rfl, q_g3 (i := 159) rfl rfl, q_g3 (i := 160) rfl rfl, q_g1 (i := 6) rfl rfl, q_g3 (i := 161) rfl rfl, ⟨by decide +kernel, by decide +kernel⟩, by decide +kernel, _, _, rfl⟩
theorem cw_X10_144 : q_cw RX10 144 6 yX7_timesCaught cX7_timesCaught 2 (some .int) 1 := ⟨q_g3 (i := 162) rfl rfl, q_g3 (i := 163) rfl rfl, q_g3 (i := 164) rfl rfl, q_g1 (i := 6) rfl rfl, q_g3 (i := 165) rfl rfl, ⟨by decide +kernel, by decide +kernel⟩, by decide +kernel, _, _, rfl⟩
theorem cw_X10_147 : q_cw RX10 147 9 yX10_whyNot cX10_whyNot 4 (some .int) 3 := ⟨q_g3 (i := 170) rfl rfl, q_g3 (i := 172) rfl rfl, q_gs (i := 28) (by decide +kernel) rfl, q_g1 (i := 1) rfl rfl, q_g3 (i := 173) rfl rfl, ⟨by decide +kernel, by decide +kernel⟩, by decide +kernel, _, _, rfl⟩
theorem cw_X10_157 : q_cw RX10 157 9 yX10_isGift cX10_isGift 4 (some .boolean) 3 := ⟨q_g3 (i := 186) rfl rfl, q_g3 (i := 188) rfl rfl, q_gs (i := 29) (by decide +kernel) rfl, q_g1 (i := 1) rfl rfl, q_g3 (i := 189) rfl rfl, ⟨by decide +kernel, by decide +kernel⟩, by decide +kernel, _, _, rfl⟩
theorem cw_X10_161 : q_cw RX10 161 6 yX7_howManyOf cX7_howManyOf 2 (some .int) 1 := ⟨q_g3 (i := 190) rfl rfl, q_g3 (i := 191) rfl rfl, q_g3 (i := 192) rfl rfl, q_g1 (i := 6) rfl rfl, q_g3 (i := 193) rfl rfl, ⟨by decide +kernel, by decide +kernel⟩, by decide +kernel, _, _, rfl⟩
theorem cw_X10_164 : q_cw RX10 164 2 yX3_nearness cX3_nearness 9 (some .int) 5 := ⟨q_g3 (i := 201) rfl rfl, q_g3 (i := 202) rfl rfl, q_g3 (i := 203) rfl rfl, q_g1 (i := 3) rfl rfl, q_g3 (i := 204) rfl rfl, ⟨by decide +kernel, by decide +kernel⟩, by decide +kernel, _, _, rfl⟩
theorem cw_X10_168 : q_cw RX10 168 6 yX7_today cX7_today 1 (some .int) 0 := ⟨q_g3 (i := 211) rfl rfl, q_g3 (i := 212) rfl rfl, q_g3 (i := 213) rfl rfl, q_g1 (i := 6) rfl rfl, q_g3 (i := 214) rfl rfl, ⟨by decide +kernel, by decide +kernel⟩, by decide +kernel, _, _, rfl⟩
theorem cw_X10_171 : q_cw RX10 171 6 yX7_outcome cX7_outcome 7 (some .int) 5 := ⟨q_g3 (i := 215) rfl rfl, q_g3 (i := 216) rfl rfl, q_g3 (i := 217) rfl rfl, q_g1 (i := 6) rfl rfl, q_g3 (i := 218) rfl rfl, ⟨by decide +kernel, by decide +kernel⟩, by decide +kernel, _, _, rfl⟩
theorem cw_X10_180 : q_cw RX10 180 2 yX3_safestGift cX3_safestGift 9 (some .int) 1 := ⟨q_g4 (i := 12) rfl rfl, q_g4 (i := 13) rfl rfl, q_g4 (i := 14) rfl rfl, q_g1 (i := 3) rfl rfl, q_g4 (i := 15) rfl rfl, ⟨by decide +kernel, by decide +kernel⟩, by decide +kernel, _, _, rfl⟩
theorem cw_X10_183 : q_cw RX10 183 4 yX5_runAll cX5_runAll 2 none 1 := ⟨q_g4 (i := 23) rfl rfl, q_g4 (i := 24) rfl rfl, q_g4 (i := 25) rfl rfl, q_g1 (i := 8) rfl rfl, q_g4 (i := 26) rfl rfl, ⟨by decide +kernel, by decide +kernel⟩, by decide +kernel, _, _, rfl⟩
theorem cw_X10_187 : q_cw RX10 187 4 yX5_outcomeOf cX5_outcomeOf 2 (some .int) 1 := ⟨q_g4 (i := 56) rfl rfl, q_g4 (i := 57) rfl rfl, q_g4 (i := 58) rfl rfl, q_g1 (i := 8) rfl rfl, q_g4 (i := 59) rfl rfl, ⟨by decide +kernel, by decide +kernel⟩, by decide +kernel, _, _, rfl⟩
theorem cw_X10_190 : q_cw RX10 190 4 yX5_runThrough cX5_runThrough 3 none 2 := ⟨q_g4 (i := 64) rfl rfl, q_g4 (i := 65) rfl rfl, q_g4 (i := 66) rfl rfl, q_g1 (i := 8) rfl rfl, q_g4 (i := 67) rfl rfl, ⟨by decide +kernel, by decide +kernel⟩, by decide +kernel, _, _, rfl⟩
theorem cw_X10_194 : q_cw RX10 194 4 yX5_thingsOf cX5_thingsOf 2 (some .int) 1 := ⟨q_g4 (i := 68) rfl rfl, q_g4 (i := 69) rfl rfl, q_g4 (i := 70) rfl rfl, q_g1 (i := 8) rfl rfl, q_g4 (i := 71) rfl rfl, ⟨by decide +kernel, by decide +kernel⟩, by decide +kernel, _, _, rfl⟩
theorem cw_X10_195 : q_cw RX10 195 4 yX5_scoreOf cX5_scoreOf 2 (some .int) 1 := ⟨q_g4 (i := 77) rfl rfl, q_g4 (i := 78) rfl rfl, q_g4 (i := 79) rfl rfl, q_g1 (i := 8) rfl rfl, q_g4 (i := 80) rfl rfl, ⟨by decide +kernel, by decide +kernel⟩, by decide +kernel, _, _, rfl⟩
theorem cw_X10_196 : q_cw RX10 196 9 yX10_noCollege cX10_noCollege 1 (some .boolean) 0 := ⟨q_g4 (i := 86) rfl rfl, q_g4 (i := 88) rfl rfl, q_gs (i := 33) (by decide +kernel) rfl, q_g1 (i := 1) rfl rfl, q_g4 (i := 89) rfl rfl, ⟨by decide +kernel, by decide +kernel⟩, by decide +kernel, _, _, rfl⟩
theorem cw_X10_203 : q_cw RX10 203 4 yX5_holder cX5_holder 2 (some .int) 1 := ⟨q_g4 (i := 98) rfl rfl, q_g4 (i := 99) rfl rfl, q_g4 (i := 100) rfl rfl, q_g1 (i := 8) rfl rfl, q_g4 (i := 101) rfl rfl, ⟨by decide +kernel, by decide +kernel⟩, by decide +kernel, _, _, rfl⟩
theorem cw_X10_204 : q_cw RX10 204 0 yX0_find cX0_find 3 none 1 := ⟨q_g4 (i := 107) rfl rfl, q_g4 (i := 108) rfl rfl, q_g4 (i := 109) rfl rfl, q_g1 (i := 9) rfl rfl, q_g4 (i := 110) rfl rfl, ⟨by decide +kernel, by decide +kernel⟩, by decide +kernel, _, _, rfl⟩
theorem cw_X10_207 : q_cw RX10 207 0 yX0_lastDay cX0_lastDay 1 (some .int) 0 := ⟨q_g4 (i := 148) rfl rfl, q_g4 (i := 149) rfl rfl, q_g4 (i := 150) rfl rfl, q_g1 (i := 9) rfl rfl, q_g4 (i := 151) rfl rfl, ⟨by decide +kernel, by decide +kernel⟩, by decide +kernel, _, _, rfl⟩
theorem cw_X10_210 : q_cw RX10 210 0 yX0_giftOf cX0_giftOf 2 (some .int) 1 := ⟨q_g4 (i := 156) rfl rfl, q_g4 (i := 157) rfl rfl, q_g4 (i := 158) rfl rfl, q_g1 (i := 9) rfl rfl, q_g4 (i := 159) rfl rfl, ⟨by decide +kernel, by decide +kernel⟩, by decide +kernel, _, _, rfl⟩
theorem cw_X10_213 : q_cw RX10 213 2 yX3_neverGiven cX3_neverGiven 3 (some .int) 0 := ⟨q_g4 (i := 164) rfl rfl, q_g4 (i := 112) rfl rfl, q_g4 (i := 113) rfl rfl, q_g1 (i := 3) rfl rfl, q_g4 (i := 114) rfl rfl, ⟨by decide +kernel, by decide +kernel⟩, by decide +kernel, _, _, rfl⟩
theorem cw_X10_216 : q_cw RX10 216 8 yX9_find cX9_find 2 none 1 := ⟨q_g4 (i := 169) rfl rfl, q_g4 (i := 170) rfl rfl, q_g4 (i := 171) rfl rfl, q_g1 (i := 10) rfl rfl, q_g4 (i := 172) rfl rfl, ⟨by decide +kernel, by decide +kernel⟩, by decide +kernel, _, _, rfl⟩
theorem cw_X10_217 : q_cw RX10 217 8 yX9_rowCount cX9_rowCount 1 (some .int) 0 := ⟨q_g4 (i := 186) rfl rfl, q_g4 (i := 187) rfl rfl, q_g4 (i := 188) rfl rfl, q_g1 (i := 10) rfl rfl, q_g4 (i := 189) rfl rfl, ⟨by decide +kernel, by decide +kernel⟩, by decide +kernel, _, _, rfl⟩
theorem cw_X10_220 : q_cw RX10 220 2 yX3_isFound cX3_isFound 3 (some .boolean) 1 := ⟨q_g4 (i := 194) rfl rfl, q_g3 (i := 72) rfl rfl, q_g3 (i := 73) rfl rfl, q_g1 (i := 3) rfl rfl, q_g3 (i := 74) rfl rfl, ⟨by decide +kernel, by decide +kernel⟩, by decide +kernel, _, _, rfl⟩
theorem cw_X10_223 : q_cw RX10 223 8 yX9_giversOf cX9_giversOf 2 (some .int) 1 := ⟨q_g4 (i := 195) rfl rfl, q_g4 (i := 196) rfl rfl, q_g4 (i := 197) rfl rfl, q_g1 (i := 10) rfl rfl, q_g4 (i := 198) rfl rfl, ⟨by decide +kernel, by decide +kernel⟩, by decide +kernel, _, _, rfl⟩
theorem cw_X10_226 : q_cw RX10 226 8 yX9_onlyGiverOf cX9_onlyGiverOf 3 (some .int) 1 := ⟨q_g4 (i := 203) rfl rfl, q_g4 (i := 204) rfl rfl, q_g4 (i := 205) rfl rfl, q_g1 (i := 10) rfl rfl, q_g4 (i := 206) rfl rfl, ⟨by decide +kernel, by decide +kernel⟩, by decide +kernel, _, _, rfl⟩
theorem cw_X10_229 : q_cs RX10 229 yX1_lotValue cX1_lotValue 3 (some .long) 2 := ⟨q_g4 (i := 212) rfl rfl, q_g4 (i := 213) rfl rfl, q_g1 (i := 19) rfl rfl, q_g4 (i := 214) rfl rfl, ⟨by decide +kernel, by decide +kernel⟩, by decide +kernel⟩
theorem cw_X10_235 : q_cw RX10 235 9 yX10_fineLong cX10_fineLong 3 (some .long) 1 := ⟨q_g4 (i := 232) rfl rfl, q_g4 (i := 234) rfl rfl, q_gs (i := 41) (by decide +kernel) rfl, q_g1 (i := 1) rfl rfl, q_g4 (i := 235) rfl rfl, ⟨by decide +kernel, by decide +kernel⟩, by decide +kernel, _, _, rfl⟩
theorem cw_X10_239 : q_cs RX10 239 yX1_lotOf cX1_lotOf 5 (some .long) 3 := ⟨q_g5 (i := 0) rfl rfl, q_g5 (i := 1) rfl rfl, q_g1 (i := 19) rfl rfl, q_g5 (i := 2) rfl rfl, ⟨by decide +kernel, by decide +kernel⟩, by decide +kernel⟩
theorem cw_X10_243 : q_cw RX10 243 9 yX10_whyNoChoice cX10_whyNoChoice 2 (some .int) 1 := ⟨q_g5 (i := 7) rfl rfl, q_g5 (i := 9) rfl rfl, q_gs (i := 42) (by decide +kernel) rfl, q_g1 (i := 1) rfl rfl, q_g5 (i := 10) rfl rfl, ⟨by decide +kernel, by decide +kernel⟩, by decide +kernel, _, _, rfl⟩
theorem cw_X10_246 : q_cw RX10 246 1 yX2_find cX2_find 5 none 2 := ⟨q_g5 (i := 11) rfl rfl, q_g5 (i := 12) rfl rfl, q_g5 (i := 13) rfl rfl, q_g1 (i := 11) rfl rfl, q_g5 (i := 14) rfl rfl, ⟨by decide +kernel, by decide +kernel⟩, by decide +kernel, _, _, rfl⟩
theorem cw_X10_248 : q_cw RX10 248 1 yX2_rowCount cX2_rowCount 1 (some .int) 0 := ⟨q_g5 (i := 37) rfl rfl, q_g5 (i := 38) rfl rfl, q_g5 (i := 39) rfl rfl, q_g1 (i := 11) rfl rfl, q_g5 (i := 40) rfl rfl, ⟨by decide +kernel, by decide +kernel⟩, by decide +kernel, _, _, rfl⟩
theorem cw_X10_249 : q_cw RX10 249 1 yX2_firstTramOf cX2_firstTramOf 6 (some .int) 2 := ⟨q_g5 (i := 45) rfl rfl, q_g5 (i := 46) rfl rfl, q_g5 (i := 47) rfl rfl, q_g1 (i := 11) rfl rfl, q_g5 (i := 48) rfl rfl, ⟨by decide +kernel, by decide +kernel⟩, by decide +kernel, _, _, rfl⟩
theorem cw_X10_252 : q_cw RX10 252 2 yX3_examNearness cX3_examNearness 2 (some .int) 1 := ⟨q_g5 (i := 53) rfl rfl, q_g5 (i := 54) rfl rfl, q_g5 (i := 55) rfl rfl, q_g1 (i := 3) rfl rfl, q_g5 (i := 56) rfl rfl, ⟨by decide +kernel, by decide +kernel⟩, by decide +kernel, _, _, rfl⟩
theorem cw_X10_255 : q_cw RX10 255 2 yX3_examCaught cX3_examCaught 2 (some .boolean) 1 := ⟨q_g5 (i := 57) rfl rfl, q_g5 (i := 58) rfl rfl, q_g5 (i := 59) rfl rfl, q_g1 (i := 3) rfl rfl, q_g5 (i := 60) rfl rfl, ⟨by decide +kernel, by decide +kernel⟩, by decide +kernel, _, _, rfl⟩
theorem cw_X10_261 : q_cw RX10 261 9 yX10_whyNoDare cX10_whyNoDare 2 (some .int) 1 := ⟨q_g5 (i := 66) rfl rfl, q_g5 (i := 68) rfl rfl, q_gs (i := 47) (by decide +kernel) rfl, q_g1 (i := 1) rfl rfl, q_g5 (i := 69) rfl rfl, ⟨by decide +kernel, by decide +kernel⟩, by decide +kernel, _, _, rfl⟩
theorem cw_X10_264 : q_cs RX10 264 yX1_bestSteps cX1_bestSteps 3 (some .int) 1 := ⟨q_g5 (i := 70) rfl rfl, q_g5 (i := 71) rfl rfl, q_g1 (i := 19) rfl rfl, q_g5 (i := 72) rfl rfl, ⟨by decide +kernel, by decide +kernel⟩, by decide +kernel⟩
theorem cw_X10_267 : q_cs RX10 267 yX1_bestMean cX1_bestMean 3 (some .long) 2 := ⟨q_g5 (i := 84) rfl rfl, q_g5 (i := 85) rfl rfl, q_g1 (i := 19) rfl rfl, q_g5 (i := 86) rfl rfl, ⟨by decide +kernel, by decide +kernel⟩, by decide +kernel⟩
theorem cw_X10_271 : q_cs RX10 271 yX10_isSeed cX10_isSeed 1 (some .boolean) 1 := ⟨q_g5 (i := 92) rfl rfl, q_g5 (i := 93) rfl rfl, q_g1 (i := 1) rfl rfl, q_g5 (i := 94) rfl rfl, ⟨by decide +kernel, by decide +kernel⟩, by decide +kernel⟩
theorem cw_X10_274 : q_cw RX10 274 4 yX5_runByDraws cX5_runByDraws 3 (some .int) 2 := ⟨q_g5 (i := 96) rfl rfl, q_g5 (i := 97) rfl rfl, q_g5 (i := 98) rfl rfl, q_g1 (i := 8) rfl rfl, q_g5 (i := 99) rfl rfl, ⟨by decide +kernel, by decide +kernel⟩, by decide +kernel, _, _, rfl⟩
theorem cw_X10_277 : q_cw RX10 277 4 yX5_timesCaught cX5_timesCaught 2 (some .int) 1 := ⟨q_g5 (i := 104) rfl rfl, q_g5 (i := 105) rfl rfl, q_g5 (i := 106) rfl rfl, q_g1 (i := 8) rfl rfl, q_g5 (i := 107) rfl rfl, ⟨by decide +kernel, by decide +kernel⟩, by decide +kernel, _, _, rfl⟩
theorem cw_X10_278 : q_cw RX10 278 3 yX4_keep cX4_keep 2 none 1 := ⟨q_g5 (i := 113) rfl rfl, q_g5 (i := 114) rfl rfl, q_g5 (i := 115) rfl rfl, q_g1 (i := 7) rfl rfl, q_g5 (i := 116) rfl rfl, ⟨by decide +kernel, by decide +kernel⟩, by decide +kernel, _, _, rfl⟩
theorem cw_X10_282 : q_cw RX10 282 6 yX7_settle cX7_settle 6 none 5 := ⟨q_g5 (i := 126) rfl rfl, q_g4 (i := 48) rfl rfl, q_g4 (i := 49) rfl rfl, q_g1 (i := 6) rfl rfl, q_g4 (i := 50) rfl rfl, ⟨by decide +kernel, by decide +kernel⟩, by decide +kernel, _, _, rfl⟩
theorem cw_X10_286 : q_cw RX10 286 6 yX7_goOn cX7_goOn 3 none 1 := ⟨q_g5 (i := 131) rfl rfl, q_g5 (i := 132) rfl rfl, q_g5 (i := 133) rfl rfl, q_g1 (i := 6) rfl rfl, q_g5 (i := 134) rfl rfl, ⟨by decide +kernel, by decide +kernel⟩, by decide +kernel, _, _, rfl⟩
theorem cw_X10_289 : q_cw RX10 289 9 yX10_no cX10_no 2 (some .boolean) 1 := ⟨q_g5 (i := 140) rfl rfl, q_g5 (i := 142) rfl rfl, q_gs (i := 48) (by decide +kernel) rfl, q_g1 (i := 1) rfl rfl, q_g5 (i := 143) rfl rfl, ⟨by decide +kernel, by decide +kernel⟩, by decide +kernel, _, _, rfl⟩
theorem cw_X10_292 : q_cw RX10 292 6 yX7_sewUp cX7_sewUp 2 none 1 := ⟨q_g5 (i := 144) rfl rfl, q_g5 (i := 145) rfl rfl, q_g5 (i := 146) rfl rfl, q_g1 (i := 6) rfl rfl, q_g5 (i := 147) rfl rfl, ⟨by decide +kernel, by decide +kernel⟩, by decide +kernel, _, _, rfl⟩
theorem cw_X10_295 : q_cw RX10 295 9 yX10_yes cX10_yes 1 (some .boolean) 0 := ⟨q_g5 (i := 148) rfl rfl, q_g5 (i := 150) rfl rfl, q_gs (i := 49) (by decide +kernel) rfl, q_g1 (i := 1) rfl rfl, q_g5 (i := 151) rfl rfl, ⟨by decide +kernel, by decide +kernel⟩, by decide +kernel, _, _, rfl⟩
theorem cw_X10_298 : q_cw RX10 298 3 yX4_takeBack cX4_takeBack 2 (some .boolean) 1 := ⟨q_g5 (i := 156) rfl rfl, q_g5 (i := 157) rfl rfl, q_g5 (i := 158) rfl rfl, q_g1 (i := 7) rfl rfl, q_g5 (i := 159) rfl rfl, ⟨by decide +kernel, by decide +kernel⟩, by decide +kernel, _, _, rfl⟩
theorem cw_X10_302 : q_cw RX10 302 3 yX4_setMark cX4_setMark 2 (some .int) 1 := ⟨q_g5 (i := 168) rfl rfl, q_g5 (i := 169) rfl rfl, q_g5 (i := 170) rfl rfl, q_g1 (i := 7) rfl rfl, q_g5 (i := 171) rfl rfl, ⟨by decide +kernel, by decide +kernel⟩, by decide +kernel, _, _, rfl⟩
theorem cw_X10_306 : q_cw RX10 306 3 yX4_goBack cX4_goBack 3 (some .boolean) 2 := ⟨q_g5 (i := 176) rfl rfl, q_g5 (i := 177) rfl rfl, q_g5 (i := 178) rfl rfl, q_g1 (i := 7) rfl rfl, q_g5 (i := 179) rfl rfl, ⟨by decide +kernel, by decide +kernel⟩, by decide +kernel, _, _, rfl⟩
theorem cw_X10_317 : q_cw RX10 317 3 yX4_actCount cX4_actCount 1 (some .int) 0 := ⟨q_g5 (i := 184) rfl rfl, q_g5 (i := 185) rfl rfl, q_g5 (i := 186) rfl rfl, q_g1 (i := 7) rfl rfl, q_g5 (i := 187) rfl rfl, ⟨by decide +kernel, by decide +kernel⟩, by decide +kernel, _, _, rfl⟩
theorem cw_X10_320 : q_cw RX10 320 3 yX4_markCount cX4_markCount 1 (some .int) 0 := ⟨q_g5 (i := 188) rfl rfl, q_g5 (i := 189) rfl rfl, q_g5 (i := 190) rfl rfl, q_g1 (i := 7) rfl rfl, q_g5 (i := 191) rfl rfl, ⟨by decide +kernel, by decide +kernel⟩, by decide +kernel, _, _, rfl⟩
theorem cw_X12_54 : q_cw RX12 54 11 yX12_refused cX12_refused 2 (some .int) 1 := ⟨q_g6 (i := 144) rfl rfl, q_g6 (i := 146) rfl rfl, q_gs (i := 51) (by decide +kernel) rfl, q_g1 (i := 12) rfl rfl, q_g6 (i := 147) rfl rfl, ⟨by decide +kernel, by decide +kernel⟩, by decide +kernel, _, _, rfl⟩
theorem cw_X12_58 : q_cw RX12 58 11 yX12_good cX12_good 2 (some .int) 1 := ⟨q_g7 (i := 196) rfl rfl, q_g7 (i := 198) rfl rfl, q_gs (i := 78) (by decide +kernel) rfl, q_g1 (i := 12) rfl rfl, q_g7 (i := 199) rfl rfl, ⟨by decide +kernel, by decide +kernel⟩, by decide +kernel, _, _, rfl⟩
theorem cw_X12_61 : q_cs RX12 61 yX12_common cX12_common 10 (some .long) 2 := ⟨q_g8 (i := 196) rfl rfl, q_g8 (i := 197) rfl rfl, q_g1 (i := 12) rfl rfl, q_g8 (i := 198) rfl rfl, ⟨by decide +kernel, by decide +kernel⟩, by decide +kernel⟩
theorem cw_X12_86 : q_cw RX12 86 11 yX12_byteAt cX12_byteAt 2 (some .int) 1 := ⟨q_g7 (i := 50) rfl rfl, q_g7 (i := 52) rfl rfl, q_gs (i := 53) (by decide +kernel) rfl, q_g1 (i := 12) rfl rfl, q_g7 (i := 53) rfl rfl, ⟨by decide +kernel, by decide +kernel⟩, by decide +kernel, _, _, rfl⟩
theorem cw_X12_92 : q_cs RX12 92 yX12_isLetter cX12_isLetter 1 (some .boolean) 1 := ⟨q_g7 (i := 54) rfl rfl, q_g7 (i := 55) rfl rfl, q_g1 (i := 12) rfl rfl, q_g7 (i := 56) rfl rfl, ⟨by decide +kernel, by decide +kernel⟩, by decide +kernel⟩
theorem cw_X12_100 : q_cs RX12 100 yX12_isDigit cX12_isDigit 1 (some .boolean) 1 := ⟨q_g7 (i := 58) rfl rfl, q_g7 (i := 59) rfl rfl, q_g1 (i := 12) rfl rfl, q_g7 (i := 60) rfl rfl, ⟨by decide +kernel, by decide +kernel⟩, by decide +kernel⟩
theorem cw_X12_112 : q_cs RX12 112 yX12_packed cX12_packed 4 (some .long) 1 := ⟨q_g7 (i := 74) rfl rfl, q_g7 (i := 75) rfl rfl, q_g1 (i := 12) rfl rfl, q_g7 (i := 76) rfl rfl, ⟨by decide +kernel, by decide +kernel⟩, by decide +kernel⟩
theorem cw_X12_116 : q_cw RX12 116 11 yX12_goesOn cX12_goesOn 3 none 0 := ⟨q_g7 (i := 46) rfl rfl, q_g7 (i := 48) rfl rfl, q_gs (i := 52) (by decide +kernel) rfl, q_g1 (i := 12) rfl rfl, q_g7 (i := 49) rfl rfl, ⟨by decide +kernel, by decide +kernel⟩, by decide +kernel, _, _, rfl⟩
theorem cw_X12_119 : q_cw RX12 119 11 yX12_isWord cX12_isWord 2 (some .boolean) 1 := ⟨q_g7 (i := 70) rfl rfl, q_g7 (i := 72) rfl rfl, q_gs (i := 56) (by decide +kernel) rfl, q_g1 (i := 12) rfl rfl, q_g7 (i := 73) rfl rfl, ⟨by decide +kernel, by decide +kernel⟩, by decide +kernel, _, _, rfl⟩
theorem cw_X12_123 : q_cw RX12 123 11 yX12_flaw cX12_flaw 2 none 1 := ⟨q_g7 (i := 83) rfl rfl, q_g7 (i := 85) rfl rfl, q_gs (i := 58) (by decide +kernel) rfl, q_g1 (i := 12) rfl rfl, q_g7 (i := 86) rfl rfl, ⟨by decide +kernel, by decide +kernel⟩, by decide +kernel, _, _, rfl⟩
theorem cw_X12_127 : q_cs RX12 127 yX12_in cX12_in 3 (some .boolean) 3 := ⟨q_g7 (i := 104) rfl rfl, q_g7 (i := 105) rfl rfl, q_g1 (i := 12) rfl rfl, q_g7 (i := 106) rfl rfl, ⟨by decide +kernel, by decide +kernel⟩, by decide +kernel⟩
theorem cw_X12_131 : q_cw RX12 131 11 yX12_bounded cX12_bounded 3 (some .int) 2 := ⟨q_g7 (i := 100) rfl rfl, q_g7 (i := 102) rfl rfl, q_gs (i := 62) (by decide +kernel) rfl, q_g1 (i := 12) rfl rfl, q_g7 (i := 103) rfl rfl, ⟨by decide +kernel, by decide +kernel⟩, by decide +kernel, _, _, rfl⟩
theorem cw_X12_135 : q_cw RX12 135 11 yX12_needs cX12_needs 2 none 1 := ⟨q_g7 (i := 92) rfl rfl, q_g7 (i := 94) rfl rfl, q_gs (i := 60) (by decide +kernel) rfl, q_g1 (i := 12) rfl rfl, q_g7 (i := 95) rfl rfl, ⟨by decide +kernel, by decide +kernel⟩, by decide +kernel, _, _, rfl⟩
theorem cw_X12_139 : q_cw RX12 139 11 yX12_readWhole cX12_readWhole 4 (some .int) 2 := ⟨q_g7 (i := 96) rfl rfl, q_g7 (i := 98) rfl rfl, q_gs (i := 61) (by decide +kernel) rfl, q_g1 (i := 12) rfl rfl, q_g7 (i := 99) rfl rfl, ⟨by decide +kernel, by decide +kernel⟩, by decide +kernel, _, _, rfl⟩
theorem cw_X12_171 : q_cw RX12 171 11 yX12_isName cX12_isName 1 (some .boolean) 0 := ⟨q_g7 (i := 121) rfl rfl, q_g7 (i := 123) rfl rfl, q_gs (i := 66) (by decide +kernel) rfl, q_g1 (i := 12) rfl rfl, q_g7 (i := 124) rfl rfl, ⟨by decide +kernel, by decide +kernel⟩, by decide +kernel, _, _, rfl⟩
theorem cw_X12_175 : q_cw RX12 175 10 yX11_find cX11_find 4 (some .int) 1 := ⟨q_g7 (i := 133) rfl rfl, q_g7 (i := 134) rfl rfl, q_g7 (i := 135) rfl rfl, q_g1 (i := 17) rfl rfl, q_g7 (i := 136) rfl rfl, ⟨by decide +kernel, by decide +kernel⟩, by decide +kernel, _, _, rfl⟩
theorem cw_X12_192 : q_cw RX12 192 11 yX12_knownOne cX12_knownOne 3 (some .int) 1 := ⟨q_g7 (i := 174) rfl rfl, q_g7 (i := 176) rfl rfl, q_gs (i := 73) (by decide +kernel) rfl, q_g1 (i := 12) rfl rfl, q_g7 (i := 177) rfl rfl, ⟨by decide +kernel, by decide +kernel⟩, by decide +kernel, _, _, rfl⟩
theorem cw_X12_195 : q_cw RX12 195 11 yX12_readLine cX12_readLine 1 none 0 := ⟨q_g7 (i := 65) rfl rfl, q_g7 (i := 67) rfl rfl, q_gs (i := 55) (by decide +kernel) rfl, q_g1 (i := 12) rfl rfl, q_g7 (i := 68) rfl rfl, ⟨by decide +kernel, by decide +kernel⟩, by decide +kernel, _, _, rfl⟩
theorem cw_X12_198 : q_cw RX12 198 11 yX12_eatsSemicolon cX12_eatsSemicolon 2 (some .boolean) 0 := ⟨q_g7 (i := 192) rfl rfl, q_g7 (i := 194) rfl rfl, q_gs (i := 77) (by decide +kernel) rfl, q_g1 (i := 12) rfl rfl, q_g7 (i := 195) rfl rfl, ⟨by decide +kernel, by decide +kernel⟩, by decide +kernel, _, _, rfl⟩
theorem cw_X12_210 : q_cw RX12 210 11 yX12_readCollege cX12_readCollege 4 none 0 := ⟨q_g7 (i := 79) rfl rfl, q_g7 (i := 81) rfl rfl, q_gs (i := 57) (by decide +kernel) rfl, q_g1 (i := 12) rfl rfl, q_g7 (i := 82) rfl rfl, ⟨by decide +kernel, by decide +kernel⟩, by decide +kernel, _, _, rfl⟩
theorem cw_X12_213 : q_cw RX12 213 11 yX12_readThing cX12_readThing 5 none 0 := ⟨q_g7 (i := 109) rfl rfl, q_g7 (i := 111) rfl rfl, q_gs (i := 63) (by decide +kernel) rfl, q_g1 (i := 12) rfl rfl, q_g7 (i := 112) rfl rfl, ⟨by decide +kernel, by decide +kernel⟩, by decide +kernel, _, _, rfl⟩
theorem cw_X12_216 : q_cw RX12 216 11 yX12_readPersonLine cX12_readPersonLine 6 none 0 := ⟨q_g7 (i := 145) rfl rfl, q_g7 (i := 147) rfl rfl, q_gs (i := 68) (by decide +kernel) rfl, q_g1 (i := 12) rfl rfl, q_g7 (i := 148) rfl rfl, ⟨by decide +kernel, by decide +kernel⟩, by decide +kernel, _, _, rfl⟩
theorem cw_X12_219 : q_cw RX12 219 11 yX12_readTram cX12_readTram 5 none 0 := ⟨q_g7 (i := 155) rfl rfl, q_g7 (i := 157) rfl rfl, q_gs (i := 69) (by decide +kernel) rfl, q_g1 (i := 12) rfl rfl, q_g7 (i := 158) rfl rfl, ⟨by decide +kernel, by decide +kernel⟩, by decide +kernel, _, _, rfl⟩
theorem cw_X12_222 : q_cw RX12 222 11 yX12_readGiver cX12_readGiver 4 none 0 := ⟨q_g7 (i := 161) rfl rfl, q_g7 (i := 163) rfl rfl, q_gs (i := 70) (by decide +kernel) rfl, q_g1 (i := 12) rfl rfl, q_g7 (i := 164) rfl rfl, ⟨by decide +kernel, by decide +kernel⟩, by decide +kernel, _, _, rfl⟩
theorem cw_X12_227 : q_cw RX12 227 11 yX12_readRow cX12_readRow 6 none 2 := ⟨q_g7 (i := 166) rfl rfl, q_g7 (i := 168) rfl rfl, q_gs (i := 71) (by decide +kernel) rfl, q_g1 (i := 12) rfl rfl, q_g7 (i := 169) rfl rfl, ⟨by decide +kernel, by decide +kernel⟩, by decide +kernel, _, _, rfl⟩
theorem cw_X12_233 : q_cw RX12 233 11 yX12_readGives cX12_readGives 5 none 0 := ⟨q_g7 (i := 178) rfl rfl, q_g7 (i := 180) rfl rfl, q_gs (i := 74) (by decide +kernel) rfl, q_g1 (i := 12) rfl rfl, q_g7 (i := 181) rfl rfl, ⟨by decide +kernel, by decide +kernel⟩, by decide +kernel, _, _, rfl⟩
theorem cw_X12_236 : q_cw RX12 236 11 yX12_readFound cX12_readFound 3 none 0 := ⟨q_g7 (i := 182) rfl rfl, q_g7 (i := 184) rfl rfl, q_gs (i := 75) (by decide +kernel) rfl, q_g1 (i := 12) rfl rfl, q_g7 (i := 185) rfl rfl, ⟨by decide +kernel, by decide +kernel⟩, by decide +kernel, _, _, rfl⟩
theorem cw_X12_239 : q_cw RX12 239 11 yX12_readExam cX12_readExam 6 none 0 := ⟨q_g7 (i := 186) rfl rfl, q_g7 (i := 188) rfl rfl, q_gs (i := 76) (by decide +kernel) rfl, q_g1 (i := 12) rfl rfl, q_g7 (i := 189) rfl rfl, ⟨by decide +kernel, by decide +kernel⟩, by decide +kernel, _, _, rfl⟩
theorem cw_X12_243 : q_cw RX12 243 11 yX12_readPart cX12_readPart 4 (some .int) 3 := ⟨q_g7 (i := 88) rfl rfl, q_g7 (i := 90) rfl rfl, q_gs (i := 59) (by decide +kernel) rfl, q_g1 (i := 12) rfl rfl, q_g7 (i := 91) rfl rfl, ⟨by decide +kernel, by decide +kernel⟩, by decide +kernel, _, _, rfl⟩
theorem cw_X12_254 : q_cw RX12 254 11 yX12_begins cX12_begins 3 none 2 := ⟨q_g7 (i := 113) rfl rfl, q_g7 (i := 115) rfl rfl, q_gs (i := 64) (by decide +kernel) rfl, q_g1 (i := 12) rfl rfl, q_g7 (i := 116) rfl rfl, ⟨by decide +kernel, by decide +kernel⟩, by decide +kernel, _, _, rfl⟩
theorem cw_X12_258 : q_cw RX12 258 11 yX12_readFresh cX12_readFresh 3 (some .long) 0 := ⟨q_g7 (i := 117) rfl rfl, q_g7 (i := 119) rfl rfl, q_gs (i := 65) (by decide +kernel) rfl, q_g1 (i := 12) rfl rfl, q_g7 (i := 120) rfl rfl, ⟨by decide +kernel, by decide +kernel⟩, by decide +kernel, _, _, rfl⟩
theorem cw_X12_270 : q_cw RX12 270 11 yX12_names cX12_names 5 none 3 := ⟨q_g7 (i := 141) rfl rfl, q_g7 (i := 143) rfl rfl, q_gs (i := 67) (by decide +kernel) rfl, q_g1 (i := 12) rfl rfl, q_g7 (i := 144) rfl rfl, ⟨by decide +kernel, by decide +kernel⟩, by decide +kernel, _, _, rfl⟩
theorem cw_X12_315 : q_cw RX12 315 11 yX12_readKnown cX12_readKnown 3 (some .int) 1 := ⟨q_g7 (i := 170) rfl rfl, q_g7 (i := 172) rfl rfl, q_gs (i := 72) (by decide +kernel) rfl, q_g1 (i := 12) rfl rfl, q_g7 (i := 173) rfl rfl, ⟨by decide +kernel, by decide +kernel⟩, by decide +kernel, _, _, rfl⟩
theorem cw_X12_377 : q_cw RX12 377 10 yX11_roomOf cX11_roomOf 2 (some .int) 1 := ⟨q_g7 (i := 228) rfl rfl, q_g7 (i := 229) rfl rfl, q_g7 (i := 230) rfl rfl, q_g1 (i := 17) rfl rfl, q_g7 (i := 231) rfl rfl, ⟨by decide +kernel, by decide +kernel⟩, by decide +kernel, _, _, rfl⟩
theorem cw_X12_380 : q_cs RX12 380 yX12_many cX12_many 4 (some .int) 2 := ⟨q_g8 (i := 36) rfl rfl, q_g8 (i := 37) rfl rfl, q_g1 (i := 12) rfl rfl, q_g8 (i := 38) rfl rfl, ⟨by decide +kernel, by decide +kernel⟩, by decide +kernel⟩
theorem cw_X12_384 : q_cw RX12 384 10 yX11_near cX11_near 7 (some .int) 5 := ⟨q_g8 (i := 39) rfl rfl, q_g8 (i := 40) rfl rfl, q_g8 (i := 41) rfl rfl, q_g1 (i := 17) rfl rfl, q_g8 (i := 42) rfl rfl, ⟨by decide +kernel, by decide +kernel⟩, by decide +kernel, _, _, rfl⟩
theorem cw_X12_388 : q_cw RX12 388 10 yX11_together cX11_together 5 (some .int) 3 := ⟨q_g8 (i := 55) rfl rfl, q_g8 (i := 56) rfl rfl, q_g8 (i := 57) rfl rfl, q_g1 (i := 17) rfl rfl, q_g8 (i := 58) rfl rfl, ⟨by decide +kernel, by decide +kernel⟩, by decide +kernel, _, _, rfl⟩
theorem cw_X12_392 : q_cw RX12 392 11 yX12_roomIn cX12_roomIn 4 (some .int) 2 := ⟨q_g7 (i := 224) rfl rfl, q_g7 (i := 226) rfl rfl, q_gs (i := 81) (by decide +kernel) rfl, q_g1 (i := 12) rfl rfl, q_g7 (i := 227) rfl rfl, ⟨by decide +kernel, by decide +kernel⟩, by decide +kernel, _, _, rfl⟩
theorem cw_X12_395 : q_cw RX12 395 11 yX12_hinders cX12_hinders 6 (some .int) 5 := ⟨q_g8 (i := 51) rfl rfl, q_g8 (i := 53) rfl rfl, q_gs (i := 89) (by decide +kernel) rfl, q_g1 (i := 12) rfl rfl, q_g8 (i := 54) rfl rfl, ⟨by decide +kernel, by decide +kernel⟩, by decide +kernel, _, _, rfl⟩
theorem cw_X12_399 : q_cw RX12 399 11 yX12_nearIn cX12_nearIn 6 (some .int) 5 := ⟨q_g8 (i := 32) rfl rfl, q_g8 (i := 34) rfl rfl, q_gs (i := 87) (by decide +kernel) rfl, q_g1 (i := 12) rfl rfl, q_g8 (i := 35) rfl rfl, ⟨by decide +kernel, by decide +kernel⟩, by decide +kernel, _, _, rfl⟩
theorem cw_X12_402 : q_cw RX12 402 11 yX12_isDay cX12_isDay 2 (some .boolean) 1 := ⟨q_g8 (i := 12) rfl rfl, q_g8 (i := 14) rfl rfl, q_gs (i := 85) (by decide +kernel) rfl, q_g1 (i := 12) rfl rfl, q_g8 (i := 15) rfl rfl, ⟨by decide +kernel, by decide +kernel⟩, by decide +kernel, _, _, rfl⟩
theorem cw_X12_405 : q_cw RX12 405 11 yX12_isThing cX12_isThing 2 (some .boolean) 1 := ⟨q_g7 (i := 212) rfl rfl, q_g7 (i := 214) rfl rfl, q_gs (i := 79) (by decide +kernel) rfl, q_g1 (i := 12) rfl rfl, q_g7 (i := 215) rfl rfl, ⟨by decide +kernel, by decide +kernel⟩, by decide +kernel, _, _, rfl⟩
theorem cw_X12_408 : q_cw RX12 408 11 yX12_isPerson cX12_isPerson 2 (some .boolean) 1 := ⟨q_g7 (i := 220) rfl rfl, q_g7 (i := 222) rfl rfl, q_gs (i := 80) (by decide +kernel) rfl, q_g1 (i := 12) rfl rfl, q_g7 (i := 223) rfl rfl, ⟨by decide +kernel, by decide +kernel⟩, by decide +kernel, _, _, rfl⟩
theorem cw_X12_411 : q_cw RX12 411 11 yX12_setOf cX12_setOf 5 (some .int) 2 := ⟨q_g7 (i := 232) rfl rfl, q_g7 (i := 234) rfl rfl, q_gs (i := 82) (by decide +kernel) rfl, q_g1 (i := 12) rfl rfl, q_g7 (i := 235) rfl rfl, ⟨by decide +kernel, by decide +kernel⟩, by decide +kernel, _, _, rfl⟩
theorem cw_X12_414 : q_cw RX12 414 11 yX12_isGiver cX12_isGiver 2 (some .boolean) 1 := ⟨q_g8 (i := 0) rfl rfl, q_g8 (i := 2) rfl rfl, q_gs (i := 83) (by decide +kernel) rfl, q_g1 (i := 12) rfl rfl, q_g8 (i := 3) rfl rfl, ⟨by decide +kernel, by decide +kernel⟩, by decide +kernel, _, _, rfl⟩
theorem cw_X12_417 : q_cw RX12 417 11 yX12_refusesDay cX12_refusesDay 3 (some .int) 2 := ⟨q_g8 (i := 8) rfl rfl, q_g8 (i := 10) rfl rfl, q_gs (i := 84) (by decide +kernel) rfl, q_g1 (i := 12) rfl rfl, q_g8 (i := 11) rfl rfl, ⟨by decide +kernel, by decide +kernel⟩, by decide +kernel, _, _, rfl⟩
theorem cw_X12_421 : q_cw RX12 421 11 yX12_isTram cX12_isTram 2 (some .boolean) 1 := ⟨q_g8 (i := 28) rfl rfl, q_g8 (i := 30) rfl rfl, q_gs (i := 86) (by decide +kernel) rfl, q_g1 (i := 12) rfl rfl, q_g8 (i := 31) rfl rfl, ⟨by decide +kernel, by decide +kernel⟩, by decide +kernel, _, _, rfl⟩
theorem cw_X12_424 : q_cw RX12 424 11 yX12_comes cX12_comes 7 (some .int) 5 := ⟨q_g8 (i := 47) rfl rfl, q_g8 (i := 49) rfl rfl, q_gs (i := 88) (by decide +kernel) rfl, q_g1 (i := 12) rfl rfl, q_g8 (i := 50) rfl rfl, ⟨by decide +kernel, by decide +kernel⟩, by decide +kernel, _, _, rfl⟩
theorem cw_X12_427 : q_cs RX12 427 yX12_dayOf cX12_dayOf 1 (some .int) 1 := ⟨q_g8 (i := 71) rfl rfl, q_g8 (i := 72) rfl rfl, q_g1 (i := 12) rfl rfl, q_g8 (i := 73) rfl rfl, ⟨by decide +kernel, by decide +kernel⟩, by decide +kernel⟩
theorem cw_X12_430 : q_cs RX12 430 yX12_giverOf cX12_giverOf 1 (some .int) 1 := ⟨q_g8 (i := 74) rfl rfl, q_g8 (i := 75) rfl rfl, q_g1 (i := 12) rfl rfl, q_g8 (i := 76) rfl rfl, ⟨by decide +kernel, by decide +kernel⟩, by decide +kernel⟩
theorem cw_X12_433 : q_cs RX12 433 yX12_personOf cX12_personOf 1 (some .int) 1 := ⟨q_g8 (i := 77) rfl rfl, q_g8 (i := 78) rfl rfl, q_g1 (i := 12) rfl rfl, q_g8 (i := 79) rfl rfl, ⟨by decide +kernel, by decide +kernel⟩, by decide +kernel⟩
theorem cw_X12_436 : q_cw RX12 436 11 yX12_starts cX12_starts 2 none 0 := ⟨q_g8 (i := 88) rfl rfl, q_g8 (i := 90) rfl rfl, q_gs (i := 91) (by decide +kernel) rfl, q_g1 (i := 12) rfl rfl, q_g8 (i := 91) rfl rfl, ⟨by decide +kernel, by decide +kernel⟩, by decide +kernel, _, _, rfl⟩
theorem cw_X12_439 : q_cw RX12 439 11 yX12_does cX12_does 6 none 5 := ⟨q_g8 (i := 92) rfl rfl, q_g8 (i := 94) rfl rfl, q_gs (i := 92) (by decide +kernel) rfl, q_g1 (i := 12) rfl rfl, q_g8 (i := 95) rfl rfl, ⟨by decide +kernel, by decide +kernel⟩, by decide +kernel, _, _, rfl⟩
theorem cw_X12_443 : q_cw RX12 443 11 yX12_plans cX12_plans 4 none 1 := ⟨q_g8 (i := 84) rfl rfl, q_g8 (i := 86) rfl rfl, q_gs (i := 90) (by decide +kernel) rfl, q_g1 (i := 12) rfl rfl, q_g8 (i := 87) rfl rfl, ⟨by decide +kernel, by decide +kernel⟩, by decide +kernel, _, _, rfl⟩
theorem cw_X12_446 : q_cw RX12 446 11 yX12_isAlone cX12_isAlone 6 (some .boolean) 2 := ⟨q_g8 (i := 128) rfl rfl, q_g8 (i := 130) rfl rfl, q_gs (i := 95) (by decide +kernel) rfl, q_g1 (i := 12) rfl rfl, q_g8 (i := 131) rfl rfl, ⟨by decide +kernel, by decide +kernel⟩, by decide +kernel, _, _, rfl⟩
theorem cw_X12_450 : q_cw RX12 450 11 yX12_isFree cX12_isFree 3 (some .boolean) 1 := ⟨q_g8 (i := 132) rfl rfl, q_g8 (i := 134) rfl rfl, q_gs (i := 96) (by decide +kernel) rfl, q_g1 (i := 12) rfl rfl, q_g8 (i := 135) rfl rfl, ⟨by decide +kernel, by decide +kernel⟩, by decide +kernel, _, _, rfl⟩
theorem cw_X12_453 : q_cw RX12 453 11 yX12_areGiven cX12_areGiven 3 (some .boolean) 0 := ⟨q_g8 (i := 136) rfl rfl, q_g8 (i := 138) rfl rfl, q_gs (i := 97) (by decide +kernel) rfl, q_g1 (i := 12) rfl rfl, q_g8 (i := 139) rfl rfl, ⟨by decide +kernel, by decide +kernel⟩, by decide +kernel, _, _, rfl⟩
theorem cw_X12_456 : q_cw RX12 456 11 yX12_gives cX12_gives 4 (some .boolean) 1 := ⟨q_g8 (i := 124) rfl rfl, q_g8 (i := 126) rfl rfl, q_gs (i := 94) (by decide +kernel) rfl, q_g1 (i := 12) rfl rfl, q_g8 (i := 127) rfl rfl, ⟨by decide +kernel, by decide +kernel⟩, by decide +kernel, _, _, rfl⟩
theorem cw_X12_458 : q_cw RX12 458 11 yX12_soonestDay cX12_soonestDay 2 (some .int) 0 := ⟨q_g8 (i := 120) rfl rfl, q_g8 (i := 122) rfl rfl, q_gs (i := 93) (by decide +kernel) rfl, q_g1 (i := 12) rfl rfl, q_g8 (i := 123) rfl rfl, ⟨by decide +kernel, by decide +kernel⟩, by decide +kernel, _, _, rfl⟩
theorem cw_X12_464 : q_cw RX12 464 11 yX12_isFound cX12_isFound 3 (some .boolean) 1 := ⟨q_g8 (i := 156) rfl rfl, q_g8 (i := 158) rfl rfl, q_gs (i := 99) (by decide +kernel) rfl, q_g1 (i := 12) rfl rfl, q_g8 (i := 159) rfl rfl, ⟨by decide +kernel, by decide +kernel⟩, by decide +kernel, _, _, rfl⟩
theorem cw_X12_467 : q_cw RX12 467 11 yX12_fitting cX12_fitting 3 none 0 := ⟨q_g8 (i := 152) rfl rfl, q_g8 (i := 154) rfl rfl, q_gs (i := 98) (by decide +kernel) rfl, q_g1 (i := 12) rfl rfl, q_g8 (i := 155) rfl rfl, ⟨by decide +kernel, by decide +kernel⟩, by decide +kernel, _, _, rfl⟩
theorem cw_X12_470 : q_cw RX12 470 11 yX12_isFoundThing cX12_isFoundThing 2 (some .boolean) 1 := ⟨q_g8 (i := 164) rfl rfl, q_g8 (i := 166) rfl rfl, q_gs (i := 100) (by decide +kernel) rfl, q_g1 (i := 12) rfl rfl, q_g8 (i := 167) rfl rfl, ⟨by decide +kernel, by decide +kernel⟩, by decide +kernel, _, _, rfl⟩
theorem cw_X12_473 : q_cw RX12 473 11 yX12_productOf cX12_productOf 5 (some .long) 1 := ⟨q_g8 (i := 184) rfl rfl, q_g8 (i := 186) rfl rfl, q_gs (i := 103) (by decide +kernel) rfl, q_g1 (i := 12) rfl rfl, q_g8 (i := 187) rfl rfl, ⟨by decide +kernel, by decide +kernel⟩, by decide +kernel, _, _, rfl⟩
theorem cw_X12_477 : q_cw RX12 477 11 yX12_ranks cX12_ranks 3 none 0 := ⟨q_g8 (i := 180) rfl rfl, q_g8 (i := 182) rfl rfl, q_gs (i := 102) (by decide +kernel) rfl, q_g1 (i := 12) rfl rfl, q_g8 (i := 183) rfl rfl, ⟨by decide +kernel, by decide +kernel⟩, by decide +kernel, _, _, rfl⟩
theorem cw_X12_489 : q_cw RX12 489 11 yX12_sumOf cX12_sumOf 5 (some .long) 1 := ⟨q_g8 (i := 188) rfl rfl, q_g8 (i := 190) rfl rfl, q_gs (i := 104) (by decide +kernel) rfl, q_g1 (i := 12) rfl rfl, q_g8 (i := 191) rfl rfl, ⟨by decide +kernel, by decide +kernel⟩, by decide +kernel, _, _, rfl⟩
theorem cw_X12_492 : q_cw RX12 492 11 yX12_lots cX12_lots 6 none 0 := ⟨q_g8 (i := 176) rfl rfl, q_g8 (i := 178) rfl rfl, q_gs (i := 101) (by decide +kernel) rfl, q_g1 (i := 12) rfl rfl, q_g8 (i := 179) rfl rfl, ⟨by decide +kernel, by decide +kernel⟩, by decide +kernel, _, _, rfl⟩
theorem cw_X12_495 : q_cw RX12 495 11 yX12_fraction cX12_fraction 6 (some .long) 3 := ⟨q_g8 (i := 192) rfl rfl, q_g8 (i := 194) rfl rfl, q_gs (i := 105) (by decide +kernel) rfl, q_g1 (i := 12) rfl rfl, q_g8 (i := 195) rfl rfl, ⟨by decide +kernel, by decide +kernel⟩, by decide +kernel, _, _, rfl⟩
theorem cw_X12_499 : q_cw RX12 499 11 yX12_ridersOf cX12_ridersOf 4 (some .int) 1 := ⟨q_g8 (i := 219) rfl rfl, q_g8 (i := 221) rfl rfl, q_gs (i := 109) (by decide +kernel) rfl, q_g1 (i := 12) rfl rfl, q_g8 (i := 222) rfl rfl, ⟨by decide +kernel, by decide +kernel⟩, by decide +kernel, _, _, rfl⟩
theorem cw_X12_502 : q_cw RX12 502 11 yX12_shareOf cX12_shareOf 6 (some .int) 3 := ⟨q_g8 (i := 223) rfl rfl, q_g8 (i := 225) rfl rfl, q_gs (i := 110) (by decide +kernel) rfl, q_g1 (i := 12) rfl rfl, q_g8 (i := 226) rfl rfl, ⟨by decide +kernel, by decide +kernel⟩, by decide +kernel, _, _, rfl⟩
theorem cw_X12_505 : q_cw RX12 505 11 yX12_isRest cX12_isRest 5 (some .boolean) 1 := ⟨q_g8 (i := 215) rfl rfl, q_g8 (i := 217) rfl rfl, q_gs (i := 108) (by decide +kernel) rfl, q_g1 (i := 12) rfl rfl, q_g8 (i := 218) rfl rfl, ⟨by decide +kernel, by decide +kernel⟩, by decide +kernel, _, _, rfl⟩
theorem cw_X12_508 : q_cw RX12 508 11 yX12_nextChoice cX12_nextChoice 2 (some .boolean) 0 := ⟨q_g8 (i := 227) rfl rfl, q_g8 (i := 229) rfl rfl, q_gs (i := 111) (by decide +kernel) rfl, q_g1 (i := 12) rfl rfl, q_g8 (i := 230) rfl rfl, ⟨by decide +kernel, by decide +kernel⟩, by decide +kernel, _, _, rfl⟩
theorem cw_X12_511 : q_cw RX12 511 11 yX12_refusesRests cX12_refusesRests 3 (some .int) 2 := ⟨q_g8 (i := 207) rfl rfl, q_g8 (i := 209) rfl rfl, q_gs (i := 106) (by decide +kernel) rfl, q_g1 (i := 12) rfl rfl, q_g8 (i := 210) rfl rfl, ⟨by decide +kernel, by decide +kernel⟩, by decide +kernel, _, _, rfl⟩
theorem cw_X12_514 : q_cw RX12 514 11 yX12_resting cX12_resting 5 (some .int) 1 := ⟨q_g8 (i := 211) rfl rfl, q_g8 (i := 213) rfl rfl, q_gs (i := 107) (by decide +kernel) rfl, q_g1 (i := 12) rfl rfl, q_g8 (i := 214) rfl rfl, ⟨by decide +kernel, by decide +kernel⟩, by decide +kernel, _, _, rfl⟩
theorem cw_X12_517 : q_cw RX12 517 11 yX12_isLimit cX12_isLimit 4 (some .boolean) 1 := ⟨q_g8 (i := 239) rfl rfl, q_g9 (i := 1) rfl rfl, q_gs (i := 112) (by decide +kernel) rfl, q_g1 (i := 12) rfl rfl, q_g9 (i := 2) rfl rfl, ⟨by decide +kernel, by decide +kernel⟩, by decide +kernel, _, _, rfl⟩
theorem cw_X12_522 : q_cs RX12 522 yX12_power cX12_power 6 (some .long) 2 := ⟨q_g9 (i := 16) rfl rfl, q_g9 (i := 17) rfl rfl, q_g1 (i := 12) rfl rfl, q_g9 (i := 18) rfl rfl, ⟨by decide +kernel, by decide +kernel⟩, by decide +kernel⟩
theorem cw_X12_526 : q_cw RX12 526 11 yX12_refusesDare cX12_refusesDare 2 (some .int) 1 := ⟨q_g9 (i := 7) rfl rfl, q_g9 (i := 9) rfl rfl, q_gs (i := 113) (by decide +kernel) rfl, q_g1 (i := 12) rfl rfl, q_g9 (i := 10) rfl rfl, ⟨by decide +kernel, by decide +kernel⟩, by decide +kernel, _, _, rfl⟩
theorem cw_X12_529 : q_cw RX12 529 11 yX12_dares cX12_dares 8 (some .int) 1 := ⟨q_g9 (i := 11) rfl rfl, q_g9 (i := 13) rfl rfl, q_gs (i := 114) (by decide +kernel) rfl, q_g1 (i := 12) rfl rfl, q_g9 (i := 14) rfl rfl, ⟨by decide +kernel, by decide +kernel⟩, by decide +kernel, _, _, rfl⟩
theorem cw_X12_542 : q_cw RX12 542 11 yX12_draws cX12_draws 8 (some .int) 0 := ⟨q_g9 (i := 28) rfl rfl, q_g9 (i := 30) rfl rfl, q_gs (i := 115) (by decide +kernel) rfl, q_g1 (i := 12) rfl rfl, q_g9 (i := 31) rfl rfl, ⟨by decide +kernel, by decide +kernel⟩, by decide +kernel, _, _, rfl⟩
theorem cw_X12_545 : q_cw RX12 545 11 yX12_remembers cX12_remembers 2 none 0 := ⟨q_g9 (i := 43) rfl rfl, q_g9 (i := 45) rfl rfl, q_gs (i := 116) (by decide +kernel) rfl, q_g1 (i := 12) rfl rfl, q_g9 (i := 46) rfl rfl, ⟨by decide +kernel, by decide +kernel⟩, by decide +kernel, _, _, rfl⟩
theorem cw_X12_548 : q_cw RX12 548 11 yX12_denied cX12_denied 2 (some .boolean) 1 := ⟨q_g9 (i := 55) rfl rfl, q_g9 (i := 57) rfl rfl, q_gs (i := 117) (by decide +kernel) rfl, q_g1 (i := 12) rfl rfl, q_g9 (i := 58) rfl rfl, ⟨by decide +kernel, by decide +kernel⟩, by decide +kernel, _, _, rfl⟩
theorem cw_X12_551 : q_cw RX12 551 11 yX12_granted cX12_granted 1 (some .boolean) 0 := ⟨q_g9 (i := 59) rfl rfl, q_g9 (i := 61) rfl rfl, q_gs (i := 118) (by decide +kernel) rfl, q_g1 (i := 12) rfl rfl, q_g9 (i := 62) rfl rfl, ⟨by decide +kernel, by decide +kernel⟩, by decide +kernel, _, _, rfl⟩
theorem cw_X2_30 : q_cw RX2 30 2 yX3_count cX3_count 2 (some .int) 1 := ⟨q_g5 (i := 20) rfl rfl, q_g2 (i := 208) rfl rfl, q_g2 (i := 209) rfl rfl, q_g1 (i := 3) rfl rfl, q_g2 (i := 210) rfl rfl, ⟨by decide +kernel, by decide +kernel⟩, by decide +kernel, _, _, rfl⟩
theorem cw_X2_36 : q_cw RX2 36 1 yX2_countGivers cX2_countGivers 4 none 2 := ⟨q_g5 (i := 15) rfl rfl, q_g5 (i := 17) rfl rfl, q_gs (i := 43) (by decide +kernel) rfl, q_g1 (i := 11) rfl rfl, q_g5 (i := 18) rfl rfl, ⟨by decide +kernel, by decide +kernel⟩, by decide +kernel, _, _, rfl⟩
theorem cw_X2_40 : q_cw RX2 40 1 yX2_seat cX2_seat 6 none 2 := ⟨q_g5 (i := 23) rfl rfl, q_g5 (i := 25) rfl rfl, q_gs (i := 44) (by decide +kernel) rfl, q_g1 (i := 11) rfl rfl, q_g5 (i := 26) rfl rfl, ⟨by decide +kernel, by decide +kernel⟩, by decide +kernel, _, _, rfl⟩
theorem cw_X2_43 : q_cw RX2 43 1 yX2_isRest cX2_isRest 6 (some .boolean) 1 := ⟨q_g5 (i := 27) rfl rfl, q_g5 (i := 29) rfl rfl, q_gs (i := 45) (by decide +kernel) rfl, q_g1 (i := 11) rfl rfl, q_g5 (i := 30) rfl rfl, ⟨by decide +kernel, by decide +kernel⟩, by decide +kernel, _, _, rfl⟩
theorem cw_X2_47 : q_cw RX2 47 7 yX8_fill cX8_fill 3 none 1 := ⟨q_g5 (i := 19) rfl rfl, q_g1 (i := 182) rfl rfl, q_g1 (i := 183) rfl rfl, q_g1 (i := 4) rfl rfl, q_g1 (i := 184) rfl rfl, ⟨by decide +kernel, by decide +kernel⟩, by decide +kernel, _, _, rfl⟩
theorem cw_X2_54 : q_cw RX2 54 7 yX8_get cX8_get 4 (some .int) 2 := ⟨q_g5 (i := 21) rfl rfl, q_g2 (i := 212) rfl rfl, q_g2 (i := 213) rfl rfl, q_g1 (i := 4) rfl rfl, q_g2 (i := 214) rfl rfl, ⟨by decide +kernel, by decide +kernel⟩, by decide +kernel, _, _, rfl⟩
theorem cw_X2_58 : q_cw RX2 58 7 yX8_add cX8_add 4 none 3 := ⟨q_g5 (i := 22) rfl rfl, q_g3 (i := 28) rfl rfl, q_g3 (i := 29) rfl rfl, q_g1 (i := 4) rfl rfl, q_g3 (i := 30) rfl rfl, ⟨by decide +kernel, by decide +kernel⟩, by decide +kernel, _, _, rfl⟩
theorem cw_X2_62 : q_cw RX2 62 1 yX2_share cX2_share 3 (some .int) 2 := ⟨q_g5 (i := 31) rfl rfl, q_g5 (i := 33) rfl rfl, q_gs (i := 46) (by decide +kernel) rfl, q_g1 (i := 11) rfl rfl, q_g5 (i := 34) rfl rfl, ⟨by decide +kernel, by decide +kernel⟩, by decide +kernel, _, _, rfl⟩
theorem cw_X3_47 : q_cw RX3 47 7 yX8_fill cX8_fill 3 none 1 := ⟨q_g2 (i := 119) rfl rfl, q_g1 (i := 182) rfl rfl, q_g1 (i := 183) rfl rfl, q_g1 (i := 4) rfl rfl, q_g1 (i := 184) rfl rfl, ⟨by decide +kernel, by decide +kernel⟩, by decide +kernel, _, _, rfl⟩
theorem cw_X3_51 : q_cw RX3 51 7 yX8_get cX8_get 4 (some .int) 2 := ⟨q_g2 (i := 211) rfl rfl, q_g2 (i := 212) rfl rfl, q_g2 (i := 213) rfl rfl, q_g1 (i := 4) rfl rfl, q_g2 (i := 214) rfl rfl, ⟨by decide +kernel, by decide +kernel⟩, by decide +kernel, _, _, rfl⟩
theorem cw_X3_55 : q_cw RX3 55 2 yX3_count cX3_count 2 (some .int) 1 := ⟨q_g3 (i := 75) rfl rfl, q_g2 (i := 208) rfl rfl, q_g2 (i := 209) rfl rfl, q_g1 (i := 3) rfl rfl, q_g2 (i := 210) rfl rfl, ⟨by decide +kernel, by decide +kernel⟩, by decide +kernel, _, _, rfl⟩
theorem cw_X3_59 : q_cw RX3 59 2 yX3_nearness cX3_nearness 9 (some .int) 5 := ⟨q_g4 (i := 18) rfl rfl, q_g3 (i := 202) rfl rfl, q_g3 (i := 203) rfl rfl, q_g1 (i := 3) rfl rfl, q_g3 (i := 204) rfl rfl, ⟨by decide +kernel, by decide +kernel⟩, by decide +kernel, _, _, rfl⟩
theorem cw_X3_71 : q_cw RX3 71 2 yX3_sharedTram cX3_sharedTram 5 (some .int) 3 := ⟨q_g4 (i := 16) rfl rfl, q_g3 (i := 224) rfl rfl, q_g3 (i := 225) rfl rfl, q_g1 (i := 3) rfl rfl, q_g3 (i := 226) rfl rfl, ⟨by decide +kernel, by decide +kernel⟩, by decide +kernel, _, _, rfl⟩
theorem cw_X3_75 : q_cw RX3 75 2 yX3_roomTold cX3_roomTold 3 (some .int) 1 := ⟨q_g4 (i := 17) rfl rfl, q_g3 (i := 147) rfl rfl, q_g3 (i := 148) rfl rfl, q_g1 (i := 3) rfl rfl, q_g3 (i := 149) rfl rfl, ⟨by decide +kernel, by decide +kernel⟩, by decide +kernel, _, _, rfl⟩
theorem cw_X3_78 : q_cw RX3 78 2 yX3_isNoticed cX3_isNoticed 2 (some .boolean) 1 := ⟨q_g4 (i := 123) rfl rfl, q_g3 (i := 236) rfl rfl, q_g3 (i := 237) rfl rfl, q_g1 (i := 3) rfl rfl, q_g3 (i := 238) rfl rfl, ⟨by decide +kernel, by decide +kernel⟩, by decide +kernel, _, _, rfl⟩
theorem cw_X3_82 : q_cw RX3 82 2 yX3_canEverGive cX3_canEverGive 5 (some .boolean) 1 := ⟨q_g4 (i := 115) rfl rfl, q_g4 (i := 117) rfl rfl, q_gs (i := 34) (by decide +kernel) rfl, q_g1 (i := 3) rfl rfl, q_g4 (i := 118) rfl rfl, ⟨by decide +kernel, by decide +kernel⟩, by decide +kernel, _, _, rfl⟩
theorem cw_X3_85 : q_cw RX3 85 2 yX3_canGive cX3_canGive 7 (some .boolean) 5 := ⟨q_g4 (i := 119) rfl rfl, q_g4 (i := 120) rfl rfl, q_g4 (i := 121) rfl rfl, q_g1 (i := 3) rfl rfl, q_g4 (i := 122) rfl rfl, ⟨by decide +kernel, by decide +kernel⟩, by decide +kernel, _, _, rfl⟩
theorem cw_X4_35 : q_cw RX4 35 6 yX7_saveTo cX7_saveTo 3 none 2 := ⟨q_g5 (i := 117) rfl rfl, q_g5 (i := 118) rfl rfl, q_g5 (i := 119) rfl rfl, q_g1 (i := 6) rfl rfl, q_g5 (i := 120) rfl rfl, ⟨by decide +kernel, by decide +kernel⟩, by decide +kernel, _, _, rfl⟩
theorem cw_X4_45 : q_cw RX4 45 6 yX7_loadFrom cX7_loadFrom 3 none 2 := ⟨q_g5 (i := 160) rfl rfl, q_g5 (i := 161) rfl rfl, q_g5 (i := 162) rfl rfl, q_g1 (i := 6) rfl rfl, q_g5 (i := 163) rfl rfl, ⟨by decide +kernel, by decide +kernel⟩, by decide +kernel, _, _, rfl⟩
theorem cw_X5_31 : q_cw RX5 31 2 yX3_count cX3_count 2 (some .int) 1 := ⟨q_g4 (i := 27) rfl rfl, q_g2 (i := 208) rfl rfl, q_g2 (i := 209) rfl rfl, q_g1 (i := 3) rfl rfl, q_g2 (i := 210) rfl rfl, ⟨by decide +kernel, by decide +kernel⟩, by decide +kernel, _, _, rfl⟩
theorem cw_X5_37 : q_cw RX5 37 4 yX5_runGifts cX5_runGifts 5 none 2 := ⟨q_g4 (i := 28) rfl rfl, q_g4 (i := 30) rfl rfl, q_gs (i := 30) (by decide +kernel) rfl, q_g1 (i := 8) rfl rfl, q_g4 (i := 31) rfl rfl, ⟨by decide +kernel, by decide +kernel⟩, by decide +kernel, _, _, rfl⟩
theorem cw_X5_41 : q_cw RX5 41 7 yX8_get cX8_get 4 (some .int) 2 := ⟨q_g4 (i := 33) rfl rfl, q_g2 (i := 212) rfl rfl, q_g2 (i := 213) rfl rfl, q_g1 (i := 4) rfl rfl, q_g2 (i := 214) rfl rfl, ⟨by decide +kernel, by decide +kernel⟩, by decide +kernel, _, _, rfl⟩
theorem cw_X5_45 : q_cw RX5 45 6 yX7_thingsOf cX7_thingsOf 4 (some .int) 1 := ⟨q_g4 (i := 72) rfl rfl, q_g3 (i := 151) rfl rfl, q_g3 (i := 152) rfl rfl, q_g1 (i := 6) rfl rfl, q_g3 (i := 153) rfl rfl, ⟨by decide +kernel, by decide +kernel⟩, by decide +kernel, _, _, rfl⟩
theorem cw_X5_48 : q_cw RX5 48 6 yX7_holder cX7_holder 2 (some .int) 1 := ⟨q_g4 (i := 102) rfl rfl, q_g3 (i := 134) rfl rfl, q_g3 (i := 135) rfl rfl, q_g1 (i := 6) rfl rfl, q_g3 (i := 136) rfl rfl, ⟨by decide +kernel, by decide +kernel⟩, by decide +kernel, _, _, rfl⟩
theorem cw_X5_51 : q_cw RX5 51 6 yX7_scoreOf cX7_scoreOf 2 (some .int) 1 := ⟨q_g4 (i := 81) rfl rfl, q_g3 (i := 159) rfl rfl, q_g3 (i := 160) rfl rfl, q_g1 (i := 6) rfl rfl, q_g3 (i := 161) rfl rfl, ⟨by decide +kernel, by decide +kernel⟩, by decide +kernel, _, _, rfl⟩
theorem cw_X5_54 : q_cw RX5 54 6 yX7_timesCaught cX7_timesCaught 2 (some .int) 1 := ⟨q_g5 (i := 108) rfl rfl, q_g3 (i := 163) rfl rfl, q_g3 (i := 164) rfl rfl, q_g1 (i := 6) rfl rfl, q_g3 (i := 165) rfl rfl, ⟨by decide +kernel, by decide +kernel⟩, by decide +kernel, _, _, rfl⟩
theorem cw_X5_57 : q_cw RX5 57 6 yX7_begin cX7_begin 2 none 0 := ⟨q_g4 (i := 32) rfl rfl, q_g1 (i := 178) rfl rfl, q_g1 (i := 179) rfl rfl, q_g1 (i := 6) rfl rfl, q_g1 (i := 180) rfl rfl, ⟨by decide +kernel, by decide +kernel⟩, by decide +kernel, _, _, rfl⟩
theorem cw_X5_63 : q_cw RX5 63 4 yX5_runGift cX5_runGift 8 none 3 := ⟨q_g4 (i := 34) rfl rfl, q_g4 (i := 36) rfl rfl, q_gs (i := 31) (by decide +kernel) rfl, q_g1 (i := 8) rfl rfl, q_g4 (i := 37) rfl rfl, ⟨by decide +kernel, by decide +kernel⟩, by decide +kernel, _, _, rfl⟩
theorem cw_X5_67 : q_cw RX5 67 6 yX7_hindrance cX7_hindrance 6 (some .int) 5 := ⟨q_g4 (i := 38) rfl rfl, q_g3 (i := 220) rfl rfl, q_g3 (i := 221) rfl rfl, q_g1 (i := 6) rfl rfl, q_g3 (i := 222) rfl rfl, ⟨by decide +kernel, by decide +kernel⟩, by decide +kernel, _, _, rfl⟩
theorem cw_X5_71 : q_cw RX5 71 6 yX7_nearOn cX7_nearOn 6 (some .int) 5 := ⟨q_g4 (i := 39) rfl rfl, q_g3 (i := 231) rfl rfl, q_g3 (i := 232) rfl rfl, q_g1 (i := 6) rfl rfl, q_g3 (i := 233) rfl rfl, ⟨by decide +kernel, by decide +kernel⟩, by decide +kernel, _, _, rfl⟩
theorem cw_X5_74 : q_cw RX5 74 4 yX5_isCaught cX5_isCaught 3 (some .boolean) 2 := ⟨q_g4 (i := 40) rfl rfl, q_g4 (i := 42) rfl rfl, q_gs (i := 32) (by decide +kernel) rfl, q_g1 (i := 8) rfl rfl, q_g4 (i := 43) rfl rfl, ⟨by decide +kernel, by decide +kernel⟩, by decide +kernel, _, _, rfl⟩
theorem cw_X5_78 : q_cw RX5 78 7 yX8_set cX8_set 5 none 3 := ⟨q_g4 (i := 46) rfl rfl, q_g1 (i := 186) rfl rfl, q_g1 (i := 187) rfl rfl, q_g1 (i := 4) rfl rfl, q_g1 (i := 188) rfl rfl, ⟨by decide +kernel, by decide +kernel⟩, by decide +kernel, _, _, rfl⟩
theorem cw_X5_82 : q_cw RX5 82 6 yX7_settle cX7_settle 6 none 5 := ⟨q_g4 (i := 47) rfl rfl, q_g4 (i := 48) rfl rfl, q_g4 (i := 49) rfl rfl, q_g1 (i := 6) rfl rfl, q_g4 (i := 50) rfl rfl, ⟨by decide +kernel, by decide +kernel⟩, by decide +kernel, _, _, rfl⟩
theorem cw_X5_86 : q_cw RX5 86 2 yX3_isNoticed cX3_isNoticed 2 (some .boolean) 1 := ⟨q_g4 (i := 44) rfl rfl, q_g3 (i := 236) rfl rfl, q_g3 (i := 237) rfl rfl, q_g1 (i := 3) rfl rfl, q_g3 (i := 238) rfl rfl, ⟨by decide +kernel, by decide +kernel⟩, by decide +kernel, _, _, rfl⟩
theorem cw_X6_70 : q_cw RX6 70 5 yX6_begin cX6_begin 2 none 1 := ⟨q_g2 (i := 111) rfl rfl, q_g2 (i := 113) rfl rfl, q_gs (i := 1) (by decide +kernel) rfl, q_g1 (i := 2) rfl rfl, q_g2 (i := 114) rfl rfl, ⟨by decide +kernel, by decide +kernel⟩, by decide +kernel, _, _, rfl⟩
theorem cw_X6_74 : q_cw RX6 74 5 yX6_readLine cX6_readLine 3 (some .boolean) 0 := ⟨q_g2 (i := 130) rfl rfl, q_g2 (i := 132) rfl rfl, q_gs (i := 4) (by decide +kernel) rfl, q_g1 (i := 2) rfl rfl, q_g2 (i := 133) rfl rfl, ⟨by decide +kernel, by decide +kernel⟩, by decide +kernel, _, _, rfl⟩
theorem cw_X6_78 : q_cw RX6 78 5 yX6_lacksNothing cX6_lacksNothing 2 (some .boolean) 0 := ⟨q_g3 (i := 82) rfl rfl, q_g3 (i := 84) rfl rfl, q_gs (i := 26) (by decide +kernel) rfl, q_g1 (i := 2) rfl rfl, q_g3 (i := 85) rfl rfl, ⟨by decide +kernel, by decide +kernel⟩, by decide +kernel, _, _, rfl⟩
theorem cw_X6_81 : q_cw RX6 81 5 yX6_failAt cX6_failAt 3 (some .boolean) 2 := ⟨q_g2 (i := 203) rfl rfl, q_g2 (i := 205) rfl rfl, q_gs (i := 6) (by decide +kernel) rfl, q_g1 (i := 2) rfl rfl, q_g2 (i := 206) rfl rfl, ⟨by decide +kernel, by decide +kernel⟩, by decide +kernel, _, _, rfl⟩
theorem cw_X6_85 : q_cw RX6 85 5 yX6_take cX6_take 4 (some .boolean) 1 := ⟨q_g2 (i := 121) rfl rfl, q_g2 (i := 123) rfl rfl, q_gs (i := 2) (by decide +kernel) rfl, q_g1 (i := 2) rfl rfl, q_g2 (i := 124) rfl rfl, ⟨by decide +kernel, by decide +kernel⟩, by decide +kernel, _, _, rfl⟩
theorem cw_X6_89 : q_cw RX6 89 2 yX3_clear cX3_clear 1 none 0 := ⟨q_g2 (i := 115) rfl rfl, q_g2 (i := 116) rfl rfl, q_g2 (i := 117) rfl rfl, q_g1 (i := 3) rfl rfl, q_g2 (i := 118) rfl rfl, ⟨by decide +kernel, by decide +kernel⟩, by decide +kernel, _, _, rfl⟩
theorem cw_X6_98 : q_cw RX6 98 2 yX3_count cX3_count 2 (some .int) 1 := ⟨q_g2 (i := 207) rfl rfl, q_g2 (i := 208) rfl rfl, q_g2 (i := 209) rfl rfl, q_g1 (i := 3) rfl rfl, q_g2 (i := 210) rfl rfl, ⟨by decide +kernel, by decide +kernel⟩, by decide +kernel, _, _, rfl⟩
theorem cw_X6_105 : q_cw RX6 105 5 yX6_findRun cX6_findRun 6 (some .int) 4 := ⟨q_g2 (i := 126) rfl rfl, q_g2 (i := 128) rfl rfl, q_gs (i := 3) (by decide +kernel) rfl, q_g1 (i := 2) rfl rfl, q_g2 (i := 129) rfl rfl, ⟨by decide +kernel, by decide +kernel⟩, by decide +kernel, _, _, rfl⟩
theorem cw_X6_120 : q_cs RX6 120 yX6_codeOf cX6_codeOf 4 (some .long) 1 := ⟨q_g2 (i := 151) rfl rfl, q_g2 (i := 152) rfl rfl, q_g1 (i := 2) rfl rfl, q_g2 (i := 153) rfl rfl, ⟨by decide +kernel, by decide +kernel⟩, by decide +kernel⟩
theorem cw_X6_124 : q_cw RX6 124 5 yX6_lineSort cX6_lineSort 2 (some .int) 0 := ⟨q_g2 (i := 134) rfl rfl, q_g2 (i := 136) rfl rfl, q_gs (i := 5) (by decide +kernel) rfl, q_g1 (i := 2) rfl rfl, q_g2 (i := 137) rfl rfl, ⟨by decide +kernel, by decide +kernel⟩, by decide +kernel, _, _, rfl⟩
theorem cw_X6_127 : q_cw RX6 127 5 yX6_findName cX6_findName 2 (some .int) 0 := ⟨q_g3 (i := 10) rfl rfl, q_g3 (i := 12) rfl rfl, q_gs (i := 15) (by decide +kernel) rfl, q_g1 (i := 2) rfl rfl, q_g3 (i := 13) rfl rfl, ⟨by decide +kernel, by decide +kernel⟩, by decide +kernel, _, _, rfl⟩
theorem cw_X6_130 : q_cw RX6 130 7 yX8_set cX8_set 5 none 3 := ⟨q_g2 (i := 232) rfl rfl, q_g1 (i := 186) rfl rfl, q_g1 (i := 187) rfl rfl, q_g1 (i := 4) rfl rfl, q_g1 (i := 188) rfl rfl, ⟨by decide +kernel, by decide +kernel⟩, by decide +kernel, _, _, rfl⟩
theorem cw_X6_134 : q_cw RX6 134 7 yX8_get cX8_get 4 (some .int) 2 := ⟨q_g3 (i := 62) rfl rfl, q_g2 (i := 212) rfl rfl, q_g2 (i := 213) rfl rfl, q_g1 (i := 4) rfl rfl, q_g2 (i := 214) rfl rfl, ⟨by decide +kernel, by decide +kernel⟩, by decide +kernel, _, _, rfl⟩
theorem cw_X6_137 : q_cs RX6 137 yX6_lineWord cX6_lineWord 1 (some (.object "java/lang/String")) 1 := ⟨q_g2 (i := 138) rfl rfl, q_g2 (i := 139) rfl rfl, q_g1 (i := 2) rfl rfl, q_g2 (i := 140) rfl rfl, ⟨by decide +kernel, by decide +kernel⟩, by decide +kernel⟩
theorem cw_X6_161 : q_cw RX6 161 5 yX6_readCollege cX6_readCollege 1 (some .boolean) 0 := ⟨q_g2 (i := 215) rfl rfl, q_g2 (i := 217) rfl rfl, q_gs (i := 7) (by decide +kernel) rfl, q_g1 (i := 2) rfl rfl, q_g2 (i := 218) rfl rfl, ⟨by decide +kernel, by decide +kernel⟩, by decide +kernel, _, _, rfl⟩
theorem cw_X6_164 : q_cw RX6 164 5 yX6_isFull cX6_isFull 2 (some .boolean) 1 := ⟨q_g2 (i := 234) rfl rfl, q_g2 (i := 236) rfl rfl, q_gs (i := 11) (by decide +kernel) rfl, q_g1 (i := 2) rfl rfl, q_g2 (i := 237) rfl rfl, ⟨by decide +kernel, by decide +kernel⟩, by decide +kernel, _, _, rfl⟩
theorem cw_X6_167 : q_cw RX6 167 5 yX6_readRest cX6_readRest 2 (some .boolean) 1 := ⟨q_g2 (i := 238) rfl rfl, q_g3 (i := 0) rfl rfl, q_gs (i := 12) (by decide +kernel) rfl, q_g1 (i := 2) rfl rfl, q_g3 (i := 1) rfl rfl, ⟨by decide +kernel, by decide +kernel⟩, by decide +kernel, _, _, rfl⟩
theorem cw_X6_170 : q_cw RX6 170 5 yX6_readThing cX6_readThing 2 (some .boolean) 0 := ⟨q_g3 (i := 2) rfl rfl, q_g3 (i := 4) rfl rfl, q_gs (i := 13) (by decide +kernel) rfl, q_g1 (i := 2) rfl rfl, q_g3 (i := 5) rfl rfl, ⟨by decide +kernel, by decide +kernel⟩, by decide +kernel, _, _, rfl⟩
theorem cw_X6_173 : q_cw RX6 173 5 yX6_addTo cX6_addTo 2 (some .boolean) 1 := ⟨q_g3 (i := 23) rfl rfl, q_g3 (i := 25) rfl rfl, q_gs (i := 17) (by decide +kernel) rfl, q_g1 (i := 2) rfl rfl, q_g3 (i := 26) rfl rfl, ⟨by decide +kernel, by decide +kernel⟩, by decide +kernel, _, _, rfl⟩
theorem cw_X6_176 : q_cw RX6 176 5 yX6_readPerson cX6_readPerson 2 (some .boolean) 0 := ⟨q_g3 (i := 33) rfl rfl, q_g3 (i := 35) rfl rfl, q_gs (i := 18) (by decide +kernel) rfl, q_g1 (i := 2) rfl rfl, q_g3 (i := 36) rfl rfl, ⟨by decide +kernel, by decide +kernel⟩, by decide +kernel, _, _, rfl⟩
theorem cw_X6_179 : q_cw RX6 179 5 yX6_readTram cX6_readTram 2 (some .boolean) 0 := ⟨q_g3 (i := 43) rfl rfl, q_g3 (i := 45) rfl rfl, q_gs (i := 19) (by decide +kernel) rfl, q_g1 (i := 2) rfl rfl, q_g3 (i := 46) rfl rfl, ⟨by decide +kernel, by decide +kernel⟩, by decide +kernel, _, _, rfl⟩
theorem cw_X6_182 : q_cw RX6 182 5 yX6_readGiver cX6_readGiver 2 (some .boolean) 0 := ⟨q_g3 (i := 49) rfl rfl, q_g3 (i := 51) rfl rfl, q_gs (i := 20) (by decide +kernel) rfl, q_g1 (i := 2) rfl rfl, q_g3 (i := 52) rfl rfl, ⟨by decide +kernel, by decide +kernel⟩, by decide +kernel, _, _, rfl⟩
theorem cw_X6_188 : q_cw RX6 188 5 yX6_readJourney cX6_readJourney 5 (some .boolean) 2 := ⟨q_g3 (i := 54) rfl rfl, q_g3 (i := 56) rfl rfl, q_gs (i := 21) (by decide +kernel) rfl, q_g1 (i := 2) rfl rfl, q_g3 (i := 57) rfl rfl, ⟨by decide +kernel, by decide +kernel⟩, by decide +kernel, _, _, rfl⟩
theorem cw_X6_195 : q_cw RX6 195 5 yX6_readGift cX6_readGift 2 (some .boolean) 0 := ⟨q_g3 (i := 63) rfl rfl, q_g3 (i := 65) rfl rfl, q_gs (i := 23) (by decide +kernel) rfl, q_g1 (i := 2) rfl rfl, q_g3 (i := 66) rfl rfl, ⟨by decide +kernel, by decide +kernel⟩, by decide +kernel, _, _, rfl⟩
theorem cw_X6_198 : q_cw RX6 198 5 yX6_readFound cX6_readFound 2 (some .boolean) 0 := ⟨q_g3 (i := 67) rfl rfl, q_g3 (i := 69) rfl rfl, q_gs (i := 24) (by decide +kernel) rfl, q_g1 (i := 2) rfl rfl, q_g3 (i := 70) rfl rfl, ⟨by decide +kernel, by decide +kernel⟩, by decide +kernel, _, _, rfl⟩
theorem cw_X6_201 : q_cw RX6 201 5 yX6_readExam cX6_readExam 2 (some .boolean) 0 := ⟨q_g3 (i := 76) rfl rfl, q_g3 (i := 78) rfl rfl, q_gs (i := 25) (by decide +kernel) rfl, q_g1 (i := 2) rfl rfl, q_g3 (i := 79) rfl rfl, ⟨by decide +kernel, by decide +kernel⟩, by decide +kernel, _, _, rfl⟩
theorem cw_X6_207 : q_cw RX6 207 7 yX8_add cX8_add 4 none 3 := ⟨q_g3 (i := 27) rfl rfl, q_g3 (i := 28) rfl rfl, q_g3 (i := 29) rfl rfl, q_g1 (i := 4) rfl rfl, q_g3 (i := 30) rfl rfl, ⟨by decide +kernel, by decide +kernel⟩, by decide +kernel, _, _, rfl⟩
theorem cw_X6_212 : q_cw RX6 212 5 yX6_takeWord cX6_takeWord 2 (some .boolean) 1 := ⟨q_g2 (i := 220) rfl rfl, q_g2 (i := 222) rfl rfl, q_gs (i := 8) (by decide +kernel) rfl, q_g1 (i := 2) rfl rfl, q_g2 (i := 223) rfl rfl, ⟨by decide +kernel, by decide +kernel⟩, by decide +kernel, _, _, rfl⟩
theorem cw_X6_216 : q_cw RX6 216 5 yX6_takeWhole cX6_takeWhole 3 (some .boolean) 2 := ⟨q_g2 (i := 224) rfl rfl, q_g2 (i := 226) rfl rfl, q_gs (i := 9) (by decide +kernel) rfl, q_g1 (i := 2) rfl rfl, q_g2 (i := 227) rfl rfl, ⟨by decide +kernel, by decide +kernel⟩, by decide +kernel, _, _, rfl⟩
theorem cw_X6_219 : q_cw RX6 219 5 yX6_put cX6_put 4 (some .boolean) 3 := ⟨q_g2 (i := 228) rfl rfl, q_g2 (i := 230) rfl rfl, q_gs (i := 10) (by decide +kernel) rfl, q_g1 (i := 2) rfl rfl, q_g2 (i := 231) rfl rfl, ⟨by decide +kernel, by decide +kernel⟩, by decide +kernel, _, _, rfl⟩
theorem cw_X6_225 : q_cw RX6 225 5 yX6_takeNewName cX6_takeNewName 2 (some .boolean) 1 := ⟨q_g3 (i := 6) rfl rfl, q_g3 (i := 8) rfl rfl, q_gs (i := 14) (by decide +kernel) rfl, q_g1 (i := 2) rfl rfl, q_g3 (i := 9) rfl rfl, ⟨by decide +kernel, by decide +kernel⟩, by decide +kernel, _, _, rfl⟩
theorem cw_X6_236 : q_cw RX6 236 5 yX6_takeOneOf cX6_takeOneOf 5 (some .boolean) 4 := ⟨q_g3 (i := 18) rfl rfl, q_g3 (i := 20) rfl rfl, q_gs (i := 16) (by decide +kernel) rfl, q_g1 (i := 2) rfl rfl, q_g3 (i := 21) rfl rfl, ⟨by decide +kernel, by decide +kernel⟩, by decide +kernel, _, _, rfl⟩
theorem cw_X6_272 : q_cw RX6 272 5 yX6_takeName cX6_takeName 3 (some .boolean) 1 := ⟨q_g3 (i := 58) rfl rfl, q_g3 (i := 60) rfl rfl, q_gs (i := 22) (by decide +kernel) rfl, q_g1 (i := 2) rfl rfl, q_g3 (i := 61) rfl rfl, ⟨by decide +kernel, by decide +kernel⟩, by decide +kernel, _, _, rfl⟩
theorem cw_X6_278 : q_cw RX6 278 2 yX3_isFound cX3_isFound 3 (some .boolean) 1 := ⟨q_g3 (i := 71) rfl rfl, q_g3 (i := 72) rfl rfl, q_g3 (i := 73) rfl rfl, q_g1 (i := 3) rfl rfl, q_g3 (i := 74) rfl rfl, ⟨by decide +kernel, by decide +kernel⟩, by decide +kernel, _, _, rfl⟩
theorem cw_X7_23 : q_cw RX7 23 7 yX8_fill cX8_fill 3 none 1 := ⟨q_g1 (i := 181) rfl rfl, q_g1 (i := 182) rfl rfl, q_g1 (i := 183) rfl rfl, q_g1 (i := 4) rfl rfl, q_g1 (i := 184) rfl rfl, ⟨by decide +kernel, by decide +kernel⟩, by decide +kernel, _, _, rfl⟩
theorem cw_X7_27 : q_cw RX7 27 7 yX8_set cX8_set 5 none 3 := ⟨q_g1 (i := 185) rfl rfl, q_g1 (i := 186) rfl rfl, q_g1 (i := 187) rfl rfl, q_g1 (i := 4) rfl rfl, q_g1 (i := 188) rfl rfl, ⟨by decide +kernel, by decide +kernel⟩, by decide +kernel, _, _, rfl⟩
theorem cw_X7_31 : q_cw RX7 31 7 yX8_copyRow cX8_copyRow 5 none 3 := ⟨q_g5 (i := 121) rfl rfl, q_g5 (i := 122) rfl rfl, q_g5 (i := 123) rfl rfl, q_g1 (i := 4) rfl rfl, q_g5 (i := 124) rfl rfl, ⟨by decide +kernel, by decide +kernel⟩, by decide +kernel, _, _, rfl⟩
theorem cw_X7_35 : q_cw RX7 35 7 yX8_get cX8_get 4 (some .int) 2 := ⟨q_g3 (i := 137) rfl rfl, q_g2 (i := 212) rfl rfl, q_g2 (i := 213) rfl rfl, q_g1 (i := 4) rfl rfl, q_g2 (i := 214) rfl rfl, ⟨by decide +kernel, by decide +kernel⟩, by decide +kernel, _, _, rfl⟩
theorem cw_X7_39 : q_cw RX7 39 2 yX3_roomTold cX3_roomTold 3 (some .int) 1 := ⟨q_g3 (i := 146) rfl rfl, q_g3 (i := 147) rfl rfl, q_g3 (i := 148) rfl rfl, q_g1 (i := 3) rfl rfl, q_g3 (i := 149) rfl rfl, ⟨by decide +kernel, by decide +kernel⟩, by decide +kernel, _, _, rfl⟩
theorem cw_X7_45 : q_cw RX7 45 6 yX7_thingsOf cX7_thingsOf 4 (some .int) 1 := ⟨q_g3 (i := 194) rfl rfl, q_g3 (i := 151) rfl rfl, q_g3 (i := 152) rfl rfl, q_g1 (i := 6) rfl rfl, q_g3 (i := 153) rfl rfl, ⟨by decide +kernel, by decide +kernel⟩, by decide +kernel, _, _, rfl⟩
theorem cw_X7_48 : q_cs RX7 48 yJ6_bitCount_0f7a4 cJ6_bitCount_0f7a4 1 (some .int) 1 := ⟨q_g3 (i := 195) rfl rfl, q_g3 (i := 196) rfl rfl, q_g1 (i := 18) rfl rfl, q_g3 (i := 197) rfl rfl, ⟨by decide +kernel, by decide +kernel⟩, by decide +kernel⟩
theorem cw_X7_53 : q_cw RX7 53 2 yX3_sharedTram cX3_sharedTram 5 (some .int) 3 := ⟨q_g3 (i := 223) rfl rfl, q_g3 (i := 224) rfl rfl, q_g3 (i := 225) rfl rfl, q_g1 (i := 3) rfl rfl, q_g3 (i := 226) rfl rfl, ⟨by decide +kernel, by decide +kernel⟩, by decide +kernel, _, _, rfl⟩
theorem cw_X7_57 : q_cw RX7 57 6 yX7_holder cX7_holder 2 (some .int) 1 := ⟨q_g3 (i := 227) rfl rfl, q_g3 (i := 134) rfl rfl, q_g3 (i := 135) rfl rfl, q_g1 (i := 6) rfl rfl, q_g3 (i := 136) rfl rfl, ⟨by decide +kernel, by decide +kernel⟩, by decide +kernel, _, _, rfl⟩
theorem cw_X7_60 : q_cw RX7 60 6 yX7_howManyOf cX7_howManyOf 2 (some .int) 1 := ⟨q_g3 (i := 228) rfl rfl, q_g3 (i := 191) rfl rfl, q_g3 (i := 192) rfl rfl, q_g1 (i := 6) rfl rfl, q_g3 (i := 193) rfl rfl, ⟨by decide +kernel, by decide +kernel⟩, by decide +kernel, _, _, rfl⟩
theorem cw_X7_63 : q_cw RX7 63 6 yX7_roomOf cX7_roomOf 3 (some .int) 2 := ⟨q_g3 (i := 229) rfl rfl, q_g3 (i := 143) rfl rfl, q_g3 (i := 144) rfl rfl, q_g1 (i := 6) rfl rfl, q_g3 (i := 145) rfl rfl, ⟨by decide +kernel, by decide +kernel⟩, by decide +kernel, _, _, rfl⟩
theorem cw_X7_67 : q_cw RX7 67 2 yX3_nearness cX3_nearness 9 (some .int) 5 := ⟨q_g3 (i := 234) rfl rfl, q_g3 (i := 202) rfl rfl, q_g3 (i := 203) rfl rfl, q_g1 (i := 3) rfl rfl, q_g3 (i := 204) rfl rfl, ⟨by decide +kernel, by decide +kernel⟩, by decide +kernel, _, _, rfl⟩
theorem cw_X7_71 : q_cw RX7 71 6 yX7_hindrance cX7_hindrance 6 (some .int) 5 := ⟨q_g3 (i := 219) rfl rfl, q_g3 (i := 220) rfl rfl, q_g3 (i := 221) rfl rfl, q_g1 (i := 6) rfl rfl, q_g3 (i := 222) rfl rfl, ⟨by decide +kernel, by decide +kernel⟩, by decide +kernel, _, _, rfl⟩
theorem cw_X7_75 : q_cw RX7 75 6 yX7_nearOn cX7_nearOn 6 (some .int) 5 := ⟨q_g3 (i := 230) rfl rfl, q_g3 (i := 231) rfl rfl, q_g3 (i := 232) rfl rfl, q_g1 (i := 6) rfl rfl, q_g3 (i := 233) rfl rfl, ⟨by decide +kernel, by decide +kernel⟩, by decide +kernel, _, _, rfl⟩
theorem cw_X7_78 : q_cw RX7 78 2 yX3_isNoticed cX3_isNoticed 2 (some .boolean) 1 := ⟨q_g3 (i := 235) rfl rfl, q_g3 (i := 236) rfl rfl, q_g3 (i := 237) rfl rfl, q_g1 (i := 3) rfl rfl, q_g3 (i := 238) rfl rfl, ⟨by decide +kernel, by decide +kernel⟩, by decide +kernel, _, _, rfl⟩
theorem cw_X7_82 : q_cw RX7 82 2 yX3_honourOf cX3_honourOf 3 (some .int) 1 := ⟨q_g4 (i := 51) rfl rfl, q_g4 (i := 52) rfl rfl, q_g4 (i := 53) rfl rfl, q_g1 (i := 3) rfl rfl, q_g4 (i := 54) rfl rfl, ⟨by decide +kernel, by decide +kernel⟩, by decide +kernel, _, _, rfl⟩
theorem cw_X7_85 : q_cw RX7 85 7 yX8_add cX8_add 4 none 3 := ⟨q_g4 (i := 55) rfl rfl, q_g3 (i := 28) rfl rfl, q_g3 (i := 29) rfl rfl, q_g1 (i := 4) rfl rfl, q_g3 (i := 30) rfl rfl, ⟨by decide +kernel, by decide +kernel⟩, by decide +kernel, _, _, rfl⟩
theorem cw_X7_88 : q_cw RX7 88 6 yX7_today cX7_today 1 (some .int) 0 := ⟨q_g5 (i := 135) rfl rfl, q_g3 (i := 212) rfl rfl, q_g3 (i := 213) rfl rfl, q_g1 (i := 6) rfl rfl, q_g3 (i := 214) rfl rfl, ⟨by decide +kernel, by decide +kernel⟩, by decide +kernel, _, _, rfl⟩
theorem cw_X8_29 : q_cw RX8 29 7 yX8_get cX8_get 4 (some .int) 2 := ⟨q_g3 (i := 31) rfl rfl, q_g2 (i := 212) rfl rfl, q_g2 (i := 213) rfl rfl, q_g1 (i := 4) rfl rfl, q_g2 (i := 214) rfl rfl, ⟨by decide +kernel, by decide +kernel⟩, by decide +kernel, _, _, rfl⟩
theorem cw_X8_32 : q_cw RX8 32 7 yX8_set cX8_set 5 none 3 := ⟨q_g3 (i := 32) rfl rfl, q_g1 (i := 186) rfl rfl, q_g1 (i := 187) rfl rfl, q_g1 (i := 4) rfl rfl, q_g1 (i := 188) rfl rfl, ⟨by decide +kernel, by decide +kernel⟩, by decide +kernel, _, _, rfl⟩
theorem cw_X9_31 : q_cw RX9 31 7 yX8_get cX8_get 4 (some .int) 2 := ⟨q_g4 (i := 183) rfl rfl, q_g2 (i := 212) rfl rfl, q_g2 (i := 213) rfl rfl, q_g1 (i := 4) rfl rfl, q_g2 (i := 214) rfl rfl, ⟨by decide +kernel, by decide +kernel⟩, by decide +kernel, _, _, rfl⟩
theorem cw_X9_35 : q_cw RX9 35 8 yX9_giversOf cX9_giversOf 2 (some .int) 1 := ⟨q_g4 (i := 207) rfl rfl, q_g4 (i := 196) rfl rfl, q_g4 (i := 197) rfl rfl, q_g1 (i := 10) rfl rfl, q_g4 (i := 198) rfl rfl, ⟨by decide +kernel, by decide +kernel⟩, by decide +kernel, _, _, rfl⟩
theorem cw_X9_39 : q_cw RX9 39 7 yX8_fill cX8_fill 3 none 1 := ⟨q_g4 (i := 173) rfl rfl, q_g1 (i := 182) rfl rfl, q_g1 (i := 183) rfl rfl, q_g1 (i := 4) rfl rfl, q_g1 (i := 184) rfl rfl, ⟨by decide +kernel, by decide +kernel⟩, by decide +kernel, _, _, rfl⟩
theorem cw_X9_43 : q_cw RX9 43 8 yX9_choose cX9_choose 9 none 3 := ⟨q_g4 (i := 174) rfl rfl, q_g4 (i := 176) rfl rfl, q_gs (i := 39) (by decide +kernel) rfl, q_g1 (i := 10) rfl rfl, q_g4 (i := 177) rfl rfl, ⟨by decide +kernel, by decide +kernel⟩, by decide +kernel, _, _, rfl⟩
theorem cw_X9_47 : q_cw RX9 47 2 yX3_count cX3_count 2 (some .int) 1 := ⟨q_g4 (i := 178) rfl rfl, q_g2 (i := 208) rfl rfl, q_g2 (i := 209) rfl rfl, q_g1 (i := 3) rfl rfl, q_g2 (i := 210) rfl rfl, ⟨by decide +kernel, by decide +kernel⟩, by decide +kernel, _, _, rfl⟩
theorem cw_X9_52 : q_cw RX9 52 8 yX9_countRow cX9_countRow 4 none 1 := ⟨q_g4 (i := 179) rfl rfl, q_g4 (i := 181) rfl rfl, q_gs (i := 40) (by decide +kernel) rfl, q_g1 (i := 10) rfl rfl, q_g4 (i := 182) rfl rfl, ⟨by decide +kernel, by decide +kernel⟩, by decide +kernel, _, _, rfl⟩
theorem cw_X9_59 : q_cw RX9 59 2 yX3_canGive cX3_canGive 7 (some .boolean) 5 := ⟨q_g4 (i := 185) rfl rfl, q_g4 (i := 120) rfl rfl, q_g4 (i := 121) rfl rfl, q_g1 (i := 3) rfl rfl, q_g4 (i := 122) rfl rfl, ⟨by decide +kernel, by decide +kernel⟩, by decide +kernel, _, _, rfl⟩
theorem cw_X9_63 : q_cw RX9 63 7 yX8_set cX8_set 5 none 3 := ⟨q_g4 (i := 184) rfl rfl, q_g1 (i := 186) rfl rfl, q_g1 (i := 187) rfl rfl, q_g1 (i := 4) rfl rfl, q_g1 (i := 188) rfl rfl, ⟨by decide +kernel, by decide +kernel⟩, by decide +kernel, _, _, rfl⟩
theorem kc_J6_265 : Cond.constant RJ6 265 1431655765 ∈ q_GW := q_g3 (i := 198) rfl rfl
theorem kc_J6_266 : Cond.constant RJ6 266 858993459 ∈ q_GW := q_g3 (i := 199) rfl rfl
theorem kc_J6_267 : Cond.constant RJ6 267 252645135 ∈ q_GW := q_g3 (i := 200) rfl rfl
theorem kc_X10_323 : Cond.constant RX10 323 65536 ∈ q_GW := q_g5 (i := 95) rfl rfl
theorem kc_X12_541 : Cond.constant RX12 541 65536 ∈ q_GW := q_g9 (i := 27) rfl rfl
theorem kc_X5_90 : Cond.constant RX5 90 65537 ∈ q_GW := q_g4 (i := 45) rfl rfl
theorem kc_X1_57 : Cond.constantLong RX1 57 100 ∈ q_GW := q_g5 (i := 79) rfl rfl
theorem kc_X12_74 : Cond.constantLong RX12 74 32 ∈ q_GW := q_g7 (i := 57) rfl rfl
theorem kc_X12_520 : Cond.constantLong RX12 520 100 ∈ q_GW := q_g9 (i := 15) rfl rfl
theorem kc_X12_532 : Cond.constantLong RX12 532 75 ∈ q_GW := q_g9 (i := 32) rfl rfl
theorem kc_X12_537 : Cond.constantLong RX12 537 74 ∈ q_GW := q_g9 (i := 33) rfl rfl
theorem kc_X12_539 : Cond.constantLong RX12 539 65537 ∈ q_GW := q_g9 (i := 34) rfl rfl
theorem kc_X6_114 : Cond.constantLong RX6 114 27 ∈ q_GW := q_g2 (i := 164) rfl rfl
theorem q_ml_X10_175 : Cond.methodLink RX10 175 Lib.Math.max.name ∈ q_GW := q_g4 (i := 7) rfl rfl
theorem q_ml_X10_258 : Cond.methodLink RX10 258 Lib.Math.min.name ∈ q_GW := q_g5 (i := 61) rfl rfl
theorem q_ml_X2_65 : Cond.methodLink RX2 65 Lib.Math.min.name ∈ q_GW := q_g5 (i := 35) rfl rfl
theorem q_ml_X2_70 : Cond.methodLink RX2 70 Lib.Math.max.name ∈ q_GW := q_g5 (i := 36) rfl rfl
theorem q_ml_X3_63 : Cond.methodLink RX3 63 Lib.Math.max.name ∈ q_GW := q_g3 (i := 205) rfl rfl
theorem q_ml_X3_68 : Cond.methodLink RX3 68 Lib.Math.min.name ∈ q_GW := q_g3 (i := 206) rfl rfl
theorem q_ml_X4_39 : Cond.methodLink RX4 39 Lib.Math.min.name ∈ q_GW := q_g5 (i := 125) rfl rfl
theorem q_ml_X6_92 : Cond.methodLink RX6 92 Lib.Math.min.name ∈ q_GW := q_g2 (i := 120) rfl rfl
theorem q_ml_X6_102 : Cond.methodLink RX6 102 Lib.Math.max.name ∈ q_GW := q_g2 (i := 125) rfl rfl
theorem cw_X12_68 : q_sw RX12 68 yJ0_length_8abf5 cJ0_length_8abf5 1 (some .int) 0 := ⟨q_g7 (i := 77) rfl rfl, q_g2 (i := 155) rfl rfl, q_g2 (i := 156) rfl rfl, q_g1 (i := 13) rfl rfl, q_g2 (i := 157) rfl rfl, by decide +kernel⟩
theorem cw_X12_76 : q_sw RX12 76 yJ0_charAt_5068e cJ0_charAt_5068e 2 (some .char) 1 := ⟨q_g7 (i := 78) rfl rfl, q_g2 (i := 166) rfl rfl, q_g2 (i := 167) rfl rfl, q_g1 (i := 13) rfl rfl, q_g2 (i := 168) rfl rfl, by decide +kernel⟩
theorem cw_X6_109 : q_sw RX6 109 yJ0_length_8abf5 cJ0_length_8abf5 1 (some .int) 0 := ⟨q_g2 (i := 154) rfl rfl, q_g2 (i := 155) rfl rfl, q_g2 (i := 156) rfl rfl, q_g1 (i := 13) rfl rfl, q_g2 (i := 157) rfl rfl, by decide +kernel⟩
theorem cw_X6_116 : q_sw RX6 116 yJ0_charAt_5068e cJ0_charAt_5068e 2 (some .char) 1 := ⟨q_g2 (i := 165) rfl rfl, q_g2 (i := 166) rfl rfl, q_g2 (i := 167) rfl rfl, q_g1 (i := 13) rfl rfl, q_g2 (i := 168) rfl rfl, by decide +kernel⟩
