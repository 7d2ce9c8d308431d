theorem nw_X0_9 : q_nw RX0 9 7 3 [.int 0, .int 0, .null] := ⟨RX8, TX8, tyX8, q_ciX8, by decide +kernel, fun _ => rfl, q_g2 (i := 3) rfl rfl, q_g1 (i := 45) rfl rfl, q_g1 (i := 4) rfl rfl⟩
theorem nw_X10_7 : q_nw RX10 7 5 15 [.null, .int 0, .null, .null, .null, .int 0, .int 0, .int 0, .int 0, .int 0, .long 0, .int 0, .int 0, .int 0, .int 0] := ⟨RX6, TX6, tyX6, q_ciX6, by decide +kernel, fun _ => rfl, q_g1 (i := 32) rfl rfl, q_g1 (i := 33) rfl rfl, q_g1 (i := 2) rfl rfl⟩
theorem nw_X10_16 : q_nw RX10 16 6 1 [.null] := ⟨RX7, TX7, tyX7, q_ciX7, by decide +kernel, fun _ => rfl, q_g1 (i := 169) rfl rfl, q_g1 (i := 170) rfl rfl, q_g1 (i := 6) rfl rfl⟩
theorem nw_X10_23 : q_nw RX10 23 3 5 [.null, .null, .int 0, .int 0, .int 0] := ⟨RX4, TX4, tyX4, q_ciX4, by decide +kernel, fun _ => rfl, q_g1 (i := 193) rfl rfl, q_g1 (i := 194) rfl rfl, q_g1 (i := 7) rfl rfl⟩
theorem nw_X10_30 : q_nw RX10 30 4 3 [.null, .null, .int 0] := ⟨RX5, TX5, tyX5, q_ciX5, by decide +kernel, fun _ => rfl, q_g1 (i := 217) rfl rfl, q_g1 (i := 218) rfl rfl, q_g1 (i := 8) rfl rfl⟩
theorem nw_X10_37 : q_nw RX10 37 0 3 [.null, .int 0, .int 0] := ⟨RX0, TX0, tyX0, q_ciX0, by decide +kernel, fun _ => rfl, q_g1 (i := 237) rfl rfl, q_g1 (i := 238) rfl rfl, q_g1 (i := 9) rfl rfl⟩
theorem nw_X10_44 : q_nw RX10 44 8 4 [.null, .null, .int 0, .int 0] := ⟨RX9, TX9, tyX9, q_ciX9, by decide +kernel, fun _ => rfl, q_g2 (i := 15) rfl rfl, q_g2 (i := 16) rfl rfl, q_g1 (i := 10) rfl rfl⟩
theorem nw_X10_51 : q_nw RX10 51 1 4 [.null, .null, .int 0, .int 0] := ⟨RX2, TX2, tyX2, q_ciX2, by decide +kernel, fun _ => rfl, q_g2 (i := 36) rfl rfl, q_g2 (i := 37) rfl rfl, q_g1 (i := 11) rfl rfl⟩
theorem nw_X10_62 : q_nw RX10 62 2 10 [.null, .null, .null, .null, .null, .null, .null, .null, .null, .null] := ⟨RX3, TX3, tyX3, q_ciX3, by decide +kernel, fun _ => rfl, q_g2 (i := 57) rfl rfl, q_g1 (i := 39) rfl rfl, q_g1 (i := 3) rfl rfl⟩
theorem nw_X2_9 : q_nw RX2 9 7 3 [.int 0, .int 0, .null] := ⟨RX8, TX8, tyX8, q_ciX8, by decide +kernel, fun _ => rfl, q_g2 (i := 42) rfl rfl, q_g1 (i := 45) rfl rfl, q_g1 (i := 4) rfl rfl⟩
theorem nw_X3_9 : q_nw RX3 9 7 3 [.int 0, .int 0, .null] := ⟨RX8, TX8, tyX8, q_ciX8, by decide +kernel, fun _ => rfl, q_g1 (i := 44) rfl rfl, q_g1 (i := 45) rfl rfl, q_g1 (i := 4) rfl rfl⟩
theorem nw_X4_9 : q_nw RX4 9 7 3 [.int 0, .int 0, .null] := ⟨RX8, TX8, tyX8, q_ciX8, by decide +kernel, fun _ => rfl, q_g1 (i := 199) rfl rfl, q_g1 (i := 45) rfl rfl, q_g1 (i := 4) rfl rfl⟩
theorem nw_X5_9 : q_nw RX5 9 6 1 [.null] := ⟨RX7, TX7, tyX7, q_ciX7, by decide +kernel, fun _ => rfl, q_g1 (i := 223) rfl rfl, q_g1 (i := 170) rfl rfl, q_g1 (i := 6) rfl rfl⟩
theorem nw_X5_18 : q_nw RX5 18 7 3 [.int 0, .int 0, .null] := ⟨RX8, TX8, tyX8, q_ciX8, by decide +kernel, fun _ => rfl, q_g1 (i := 225) rfl rfl, q_g1 (i := 45) rfl rfl, q_g1 (i := 4) rfl rfl⟩
theorem nw_X6_19 : q_nw RX6 19 2 10 [.null, .null, .null, .null, .null, .null, .null, .null, .null, .null] := ⟨RX3, TX3, tyX3, q_ciX3, by decide +kernel, fun _ => rfl, q_g1 (i := 38) rfl rfl, q_g1 (i := 39) rfl rfl, q_g1 (i := 3) rfl rfl⟩
theorem nw_X6_30 : q_nw RX6 30 7 3 [.int 0, .int 0, .null] := ⟨RX8, TX8, tyX8, q_ciX8, by decide +kernel, fun _ => rfl, q_g1 (i := 120) rfl rfl, q_g1 (i := 45) rfl rfl, q_g1 (i := 4) rfl rfl⟩
theorem nw_X7_11 : q_nw RX7 11 7 3 [.int 0, .int 0, .null] := ⟨RX8, TX8, tyX8, q_ciX8, by decide +kernel, fun _ => rfl, q_g1 (i := 175) rfl rfl, q_g1 (i := 45) rfl rfl, q_g1 (i := 4) rfl rfl⟩
theorem nw_X9_9 : q_nw RX9 9 7 3 [.int 0, .int 0, .null] := ⟨RX8, TX8, tyX8, q_ciX8, by decide +kernel, fun _ => rfl, q_g2 (i := 21) rfl rfl, q_g1 (i := 45) rfl rfl, q_g1 (i := 4) rfl rfl⟩
theorem ff_X0_14 : q_ff RX0 14 0 0 (.object "SecondPaper$Table") := ⟨TX0, 3, tyX0, q_ciX0, by decide, rfl, rfl, by decide +kernel, q_g2 (i := 5) rfl rfl⟩
theorem ff_X10_10 : q_ff RX10 10 9 0 (.object "SecondPaper$Reader") := ⟨TX10, 9, tyX10, q_ciX10, by decide, rfl, rfl, by decide +kernel, q_g2 (i := 59) rfl rfl⟩
theorem ff_X10_19 : q_ff RX10 19 9 1 (.object "SecondPaper$State") := ⟨TX10, 9, tyX10, q_ciX10, by decide, rfl, rfl, by decide +kernel, q_g2 (i := 60) rfl rfl⟩
theorem ff_X10_26 : q_ff RX10 26 9 2 (.object "SecondPaper$History") := ⟨TX10, 9, tyX10, q_ciX10, by decide, rfl, rfl, by decide +kernel, q_g2 (i := 61) rfl rfl⟩
theorem ff_X10_33 : q_ff RX10 33 9 3 (.object "SecondPaper$Plan") := ⟨TX10, 9, tyX10, q_ciX10, by decide, rfl, rfl, by decide +kernel, q_g2 (i := 62) rfl rfl⟩
theorem ff_X10_40 : q_ff RX10 40 9 4 (.object "SecondPaper$AllGiven") := ⟨TX10, 9, tyX10, q_ciX10, by decide, rfl, rfl, by decide +kernel, q_g2 (i := 63) rfl rfl⟩
theorem ff_X10_47 : q_ff RX10 47 9 5 (.object "SecondPaper$WhoGave") := ⟨TX10, 9, tyX10, q_ciX10, by decide, rfl, rfl, by decide +kernel, q_g2 (i := 64) rfl rfl⟩
theorem ff_X10_54 : q_ff RX10 54 9 6 (.object "SecondPaper$Choice") := ⟨TX10, 9, tyX10, q_ciX10, by decide, rfl, rfl, by decide +kernel, q_g2 (i := 65) rfl rfl⟩
theorem ff_X11_9 : q_ff RX11 9 10 11 (.array .int) := ⟨TX11, 35, tyX11, q_ciX11, by decide, rfl, rfl, by decide +kernel, q_g6 (i := 166) rfl rfl⟩
theorem ff_X11_15 : q_ff RX11 15 10 12 (.array .int) := ⟨TX11, 35, tyX11, q_ciX11, by decide, rfl, rfl, by decide +kernel, q_g6 (i := 168) rfl rfl⟩
theorem ff_X11_18 : q_ff RX11 18 10 13 (.array .int) := ⟨TX11, 35, tyX11, q_ciX11, by decide, rfl, rfl, by decide +kernel, q_g6 (i := 170) rfl rfl⟩
theorem ff_X11_21 : q_ff RX11 21 10 14 (.array .int) := ⟨TX11, 35, tyX11, q_ciX11, by decide, rfl, rfl, by decide +kernel, q_g6 (i := 172) rfl rfl⟩
theorem ff_X11_24 : q_ff RX11 24 10 15 (.array .int) := ⟨TX11, 35, tyX11, q_ciX11, by decide, rfl, rfl, by decide +kernel, q_g6 (i := 174) rfl rfl⟩
theorem ff_X11_27 : q_ff RX11 27 10 16 (.array .int) := ⟨TX11, 35, tyX11, q_ciX11, by decide, rfl, rfl, by decide +kernel, q_g6 (i := 176) rfl rfl⟩
theorem ff_X11_30 : q_ff RX11 30 10 17 (.array .int) := ⟨TX11, 35, tyX11, q_ciX11, by decide, rfl, rfl, by decide +kernel, q_g6 (i := 178) rfl rfl⟩
theorem ff_X11_33 : q_ff RX11 33 10 18 (.array .int) := ⟨TX11, 35, tyX11, q_ciX11, by decide, rfl, rfl, by decide +kernel, q_g6 (i := 180) rfl rfl⟩
theorem ff_X11_36 : q_ff RX11 36 10 19 (.array .int) := ⟨TX11, 35, tyX11, q_ciX11, by decide, rfl, rfl, by decide +kernel, q_g6 (i := 182) rfl rfl⟩
theorem ff_X11_39 : q_ff RX11 39 10 20 (.array .int) := ⟨TX11, 35, tyX11, q_ciX11, by decide, rfl, rfl, by decide +kernel, q_g6 (i := 184) rfl rfl⟩
theorem ff_X11_42 : q_ff RX11 42 10 21 (.array .int) := ⟨TX11, 35, tyX11, q_ciX11, by decide, rfl, rfl, by decide +kernel, q_g6 (i := 186) rfl rfl⟩
theorem ff_X11_45 : q_ff RX11 45 10 22 (.array .int) := ⟨TX11, 35, tyX11, q_ciX11, by decide, rfl, rfl, by decide +kernel, q_g6 (i := 188) rfl rfl⟩
theorem ff_X11_48 : q_ff RX11 48 10 23 (.array .int) := ⟨TX11, 35, tyX11, q_ciX11, by decide, rfl, rfl, by decide +kernel, q_g6 (i := 190) rfl rfl⟩
theorem ff_X11_51 : q_ff RX11 51 10 24 (.array .int) := ⟨TX11, 35, tyX11, q_ciX11, by decide, rfl, rfl, by decide +kernel, q_g6 (i := 192) rfl rfl⟩
theorem ff_X11_54 : q_ff RX11 54 10 25 (.array .int) := ⟨TX11, 35, tyX11, q_ciX11, by decide, rfl, rfl, by decide +kernel, q_g6 (i := 194) rfl rfl⟩
theorem ff_X11_57 : q_ff RX11 57 10 26 (.array .int) := ⟨TX11, 35, tyX11, q_ciX11, by decide, rfl, rfl, by decide +kernel, q_g6 (i := 196) rfl rfl⟩
theorem ff_X11_60 : q_ff RX11 60 10 27 (.array .int) := ⟨TX11, 35, tyX11, q_ciX11, by decide, rfl, rfl, by decide +kernel, q_g6 (i := 198) rfl rfl⟩
theorem ff_X11_63 : q_ff RX11 63 10 28 (.array .int) := ⟨TX11, 35, tyX11, q_ciX11, by decide, rfl, rfl, by decide +kernel, q_g6 (i := 200) rfl rfl⟩
theorem ff_X11_66 : q_ff RX11 66 10 29 (.array .int) := ⟨TX11, 35, tyX11, q_ciX11, by decide, rfl, rfl, by decide +kernel, q_g6 (i := 202) rfl rfl⟩
theorem ff_X11_69 : q_ff RX11 69 10 30 (.array .int) := ⟨TX11, 35, tyX11, q_ciX11, by decide, rfl, rfl, by decide +kernel, q_g6 (i := 204) rfl rfl⟩
theorem ff_X11_72 : q_ff RX11 72 10 31 (.array .boolean) := ⟨TX11, 35, tyX11, q_ciX11, by decide, rfl, rfl, by decide +kernel, q_g6 (i := 206) rfl rfl⟩
theorem ff_X11_76 : q_ff RX11 76 10 32 (.array .long) := ⟨TX11, 35, tyX11, q_ciX11, by decide, rfl, rfl, by decide +kernel, q_g6 (i := 208) rfl rfl⟩
theorem ff_X11_80 : q_ff RX11 80 10 33 (.array .int) := ⟨TX11, 35, tyX11, q_ciX11, by decide, rfl, rfl, by decide +kernel, q_g6 (i := 210) rfl rfl⟩
theorem ff_X11_83 : q_ff RX11 83 10 34 (.array .int) := ⟨TX11, 35, tyX11, q_ciX11, by decide, rfl, rfl, by decide +kernel, q_g6 (i := 212) rfl rfl⟩
theorem ff_X12_13 : q_ff RX12 13 11 5 (.array .byte) := ⟨TX12, 32, tyX12, q_ciX12, by decide, rfl, rfl, by decide +kernel, q_g6 (i := 40) rfl rfl⟩
theorem ff_X12_17 : q_ff RX12 17 11 15 (.array .int) := ⟨TX12, 32, tyX12, q_ciX12, by decide, rfl, rfl, by decide +kernel, q_g6 (i := 50) rfl rfl⟩
theorem ff_X12_21 : q_ff RX12 21 11 16 (.array .int) := ⟨TX12, 32, tyX12, q_ciX12, by decide, rfl, rfl, by decide +kernel, q_g6 (i := 51) rfl rfl⟩
theorem ff_X12_24 : q_ff RX12 24 11 17 (.array .int) := ⟨TX12, 32, tyX12, q_ciX12, by decide, rfl, rfl, by decide +kernel, q_g6 (i := 52) rfl rfl⟩
theorem ff_X12_27 : q_ff RX12 27 11 18 (.array .int) := ⟨TX12, 32, tyX12, q_ciX12, by decide, rfl, rfl, by decide +kernel, q_g6 (i := 53) rfl rfl⟩
theorem ff_X12_30 : q_ff RX12 30 11 21 (.array .int) := ⟨TX12, 32, tyX12, q_ciX12, by decide, rfl, rfl, by decide +kernel, q_g6 (i := 56) rfl rfl⟩
theorem ff_X12_33 : q_ff RX12 33 11 22 (.array .int) := ⟨TX12, 32, tyX12, q_ciX12, by decide, rfl, rfl, by decide +kernel, q_g6 (i := 57) rfl rfl⟩
theorem ff_X12_36 : q_ff RX12 36 11 23 (.array .int) := ⟨TX12, 32, tyX12, q_ciX12, by decide, rfl, rfl, by decide +kernel, q_g6 (i := 58) rfl rfl⟩
theorem ff_X12_39 : q_ff RX12 39 11 25 (.array .int) := ⟨TX12, 32, tyX12, q_ciX12, by decide, rfl, rfl, by decide +kernel, q_g6 (i := 60) rfl rfl⟩
theorem ff_X12_42 : q_ff RX12 42 11 29 (.array .int) := ⟨TX12, 32, tyX12, q_ciX12, by decide, rfl, rfl, by decide +kernel, q_g6 (i := 64) rfl rfl⟩
theorem ff_X12_45 : q_ff RX12 45 11 30 (.array .int) := ⟨TX12, 32, tyX12, q_ciX12, by decide, rfl, rfl, by decide +kernel, q_g6 (i := 65) rfl rfl⟩
theorem ff_X2_14 : q_ff RX2 14 1 0 (.object "SecondPaper$Table") := ⟨TX2, 4, tyX2, q_ciX2, by decide, rfl, rfl, by decide +kernel, q_g2 (i := 44) rfl rfl⟩
theorem ff_X2_20 : q_ff RX2 20 1 1 (.object "SecondPaper$Table") := ⟨TX2, 4, tyX2, q_ciX2, by decide, rfl, rfl, by decide +kernel, q_g2 (i := 45) rfl rfl⟩
theorem ff_X3_14 : q_ff RX3 14 2 0 (.object "SecondPaper$Table") := ⟨TX3, 10, tyX3, q_ciX3, by decide, rfl, rfl, by decide +kernel, q_g1 (i := 68) rfl rfl⟩
theorem ff_X3_20 : q_ff RX3 20 2 1 (.object "SecondPaper$Table") := ⟨TX3, 10, tyX3, q_ciX3, by decide, rfl, rfl, by decide +kernel, q_g1 (i := 71) rfl rfl⟩
theorem ff_X3_23 : q_ff RX3 23 2 2 (.object "SecondPaper$Table") := ⟨TX3, 10, tyX3, q_ciX3, by decide, rfl, rfl, by decide +kernel, q_g1 (i := 74) rfl rfl⟩
theorem ff_X3_26 : q_ff RX3 26 2 3 (.object "SecondPaper$Table") := ⟨TX3, 10, tyX3, q_ciX3, by decide, rfl, rfl, by decide +kernel, q_g1 (i := 77) rfl rfl⟩
theorem ff_X3_29 : q_ff RX3 29 2 4 (.object "SecondPaper$Table") := ⟨TX3, 10, tyX3, q_ciX3, by decide, rfl, rfl, by decide +kernel, q_g1 (i := 80) rfl rfl⟩
theorem ff_X3_32 : q_ff RX3 32 2 5 (.object "SecondPaper$Table") := ⟨TX3, 10, tyX3, q_ciX3, by decide, rfl, rfl, by decide +kernel, q_g1 (i := 83) rfl rfl⟩
theorem ff_X3_35 : q_ff RX3 35 2 6 (.object "SecondPaper$Table") := ⟨TX3, 10, tyX3, q_ciX3, by decide, rfl, rfl, by decide +kernel, q_g1 (i := 87) rfl rfl⟩
theorem ff_X3_38 : q_ff RX3 38 2 7 (.object "SecondPaper$Table") := ⟨TX3, 10, tyX3, q_ciX3, by decide, rfl, rfl, by decide +kernel, q_g1 (i := 89) rfl rfl⟩
theorem ff_X3_41 : q_ff RX3 41 2 8 (.object "SecondPaper$Table") := ⟨TX3, 10, tyX3, q_ciX3, by decide, rfl, rfl, by decide +kernel, q_g1 (i := 92) rfl rfl⟩
theorem ff_X3_44 : q_ff RX3 44 2 9 (.object "SecondPaper$Table") := ⟨TX3, 10, tyX3, q_ciX3, by decide, rfl, rfl, by decide +kernel, q_g1 (i := 97) rfl rfl⟩
theorem ff_X4_18 : q_ff RX4 18 3 0 (.object "SecondPaper$Table") := ⟨TX4, 5, tyX4, q_ciX4, by decide, rfl, rfl, by decide +kernel, q_g1 (i := 201) rfl rfl⟩
theorem ff_X4_22 : q_ff RX4 22 3 1 (.object "SecondPaper$Table") := ⟨TX4, 5, tyX4, q_ciX4, by decide, rfl, rfl, by decide +kernel, q_g1 (i := 202) rfl rfl⟩
theorem ff_X5_12 : q_ff RX5 12 4 0 (.object "SecondPaper$State") := ⟨TX5, 3, tyX5, q_ciX5, by decide, rfl, rfl, by decide +kernel, q_g1 (i := 227) rfl rfl⟩
theorem ff_X5_23 : q_ff RX5 23 4 1 (.object "SecondPaper$Table") := ⟨TX5, 3, tyX5, q_ciX5, by decide, rfl, rfl, by decide +kernel, q_g1 (i := 228) rfl rfl⟩
theorem ff_X6_9 : q_ff RX6 9 5 0 (.array .byte) := ⟨TX6, 15, tyX6, q_ciX6, by decide, rfl, rfl, by decide +kernel, q_g1 (i := 122) rfl rfl⟩
theorem ff_X6_26 : q_ff RX6 26 5 3 (.array .long) := ⟨TX6, 15, tyX6, q_ciX6, by decide, rfl, rfl, by decide +kernel, q_g1 (i := 125) rfl rfl⟩
theorem ff_X6_35 : q_ff RX6 35 5 4 (.object "SecondPaper$Table") := ⟨TX6, 15, tyX6, q_ciX6, by decide, rfl, rfl, by decide +kernel, q_g1 (i := 126) rfl rfl⟩
theorem ff_X7_16 : q_ff RX7 16 6 0 (.object "SecondPaper$Table") := ⟨TX7, 1, tyX7, q_ciX7, by decide, rfl, rfl, by decide +kernel, q_g1 (i := 189) rfl rfl⟩
theorem ff_X8_18 : q_ff RX8 18 7 0 .int := ⟨TX8, 3, tyX8, q_ciX8, by decide, rfl, rfl, by decide +kernel, q_g1 (i := 56) rfl rfl⟩
theorem ff_X8_22 : q_ff RX8 22 7 1 .int := ⟨TX8, 3, tyX8, q_ciX8, by decide, rfl, rfl, by decide +kernel, q_g1 (i := 57) rfl rfl⟩
theorem ff_X8_25 : q_ff RX8 25 7 2 (.array .int) := ⟨TX8, 3, tyX8, q_ciX8, by decide, rfl, rfl, by decide +kernel, q_g1 (i := 58) rfl rfl⟩
theorem ff_X9_14 : q_ff RX9 14 8 0 (.object "SecondPaper$Table") := ⟨TX9, 4, tyX9, q_ciX9, by decide, rfl, rfl, by decide +kernel, q_g2 (i := 23) rfl rfl⟩
theorem ff_X9_20 : q_ff RX9 20 8 1 (.object "SecondPaper$Table") := ⟨TX9, 4, tyX9, q_ciX9, by decide, rfl, rfl, by decide +kernel, q_g2 (i := 24) rfl rfl⟩
theorem oi_X0_3 : Cond.methodLink RX0 3 objectInit ∈ q_GW := q_g2 (i := 2) rfl rfl
theorem oi_X10_1 : Cond.methodLink RX10 1 objectInit ∈ q_GW := q_g1 (i := 29) rfl rfl
theorem oi_X11_3 : Cond.methodLink RX11 3 objectInit ∈ q_GW := q_g6 (i := 153) rfl rfl
theorem oi_X12_3 : Cond.methodLink RX12 3 objectInit ∈ q_GW := q_g6 (i := 34) rfl rfl
theorem oi_X2_3 : Cond.methodLink RX2 3 objectInit ∈ q_GW := q_g2 (i := 41) rfl rfl
theorem oi_X3_3 : Cond.methodLink RX3 3 objectInit ∈ q_GW := q_g1 (i := 43) rfl rfl
theorem oi_X4_3 : Cond.methodLink RX4 3 objectInit ∈ q_GW := q_g1 (i := 198) rfl rfl
theorem oi_X5_3 : Cond.methodLink RX5 3 objectInit ∈ q_GW := q_g1 (i := 222) rfl rfl
theorem oi_X6_3 : Cond.methodLink RX6 3 objectInit ∈ q_GW := q_g1 (i := 37) rfl rfl
theorem oi_X7_5 : Cond.methodLink RX7 5 objectInit ∈ q_GW := q_g1 (i := 174) rfl rfl
theorem oi_X8_1 : Cond.methodLink RX8 1 objectInit ∈ q_GW := q_g1 (i := 49) rfl rfl
theorem oi_X9_3 : Cond.methodLink RX9 3 objectInit ∈ q_GW := q_g2 (i := 20) rfl rfl
theorem cn_X0_11 : q_cn RX0 11 yX8_init cX8_init 3 2 := ⟨q_g2 (i := 4) rfl rfl, q_g1 (i := 47) rfl rfl, q_g1 (i := 4) rfl rfl, q_g1 (i := 48) rfl rfl, ⟨by decide +kernel, by decide +kernel⟩, by decide +kernel, rfl⟩
theorem cn_X10_9 : q_cn RX10 9 yX6_init cX6_init 1 0 := ⟨q_g1 (i := 34) rfl rfl, q_g1 (i := 35) rfl rfl, q_g1 (i := 2) rfl rfl, q_g1 (i := 36) rfl rfl, ⟨by decide +kernel, by decide +kernel⟩, by decide +kernel, rfl⟩
theorem cn_X10_18 : q_cn RX10 18 yX7_init cX7_init 1 0 := ⟨q_g1 (i := 171) rfl rfl, q_g1 (i := 172) rfl rfl, q_g1 (i := 6) rfl rfl, q_g1 (i := 173) rfl rfl, ⟨by decide +kernel, by decide +kernel⟩, by decide +kernel, rfl⟩
theorem cn_X10_25 : q_cn RX10 25 yX4_init cX4_init 1 0 := ⟨q_g1 (i := 195) rfl rfl, q_g1 (i := 196) rfl rfl, q_g1 (i := 7) rfl rfl, q_g1 (i := 197) rfl rfl, ⟨by decide +kernel, by decide +kernel⟩, by decide +kernel, rfl⟩
theorem cn_X10_32 : q_cn RX10 32 yX5_init cX5_init 1 0 := ⟨q_g1 (i := 219) rfl rfl, q_g1 (i := 220) rfl rfl, q_g1 (i := 8) rfl rfl, q_g1 (i := 221) rfl rfl, ⟨by decide +kernel, by decide +kernel⟩, by decide +kernel, rfl⟩
theorem cn_X10_39 : q_cn RX10 39 yX0_init cX0_init 1 0 := ⟨q_g1 (i := 239) rfl rfl, q_g2 (i := 0) rfl rfl, q_g1 (i := 9) rfl rfl, q_g2 (i := 1) rfl rfl, ⟨by decide +kernel, by decide +kernel⟩, by decide +kernel, rfl⟩
theorem cn_X10_46 : q_cn RX10 46 yX9_init cX9_init 1 0 := ⟨q_g2 (i := 17) rfl rfl, q_g2 (i := 18) rfl rfl, q_g1 (i := 10) rfl rfl, q_g2 (i := 19) rfl rfl, ⟨by decide +kernel, by decide +kernel⟩, by decide +kernel, rfl⟩
theorem cn_X10_53 : q_cn RX10 53 yX2_init cX2_init 1 0 := ⟨q_g2 (i := 38) rfl rfl, q_g2 (i := 39) rfl rfl, q_g1 (i := 11) rfl rfl, q_g2 (i := 40) rfl rfl, ⟨by decide +kernel, by decide +kernel⟩, by decide +kernel, rfl⟩
theorem cn_X10_64 : q_cn RX10 64 yX3_init cX3_init 1 0 := ⟨q_g2 (i := 58) rfl rfl, q_g1 (i := 41) rfl rfl, q_g1 (i := 3) rfl rfl, q_g1 (i := 42) rfl rfl, ⟨by decide +kernel, by decide +kernel⟩, by decide +kernel, rfl⟩
theorem cn_X2_11 : q_cn RX2 11 yX8_init cX8_init 3 2 := ⟨q_g2 (i := 43) rfl rfl, q_g1 (i := 47) rfl rfl, q_g1 (i := 4) rfl rfl, q_g1 (i := 48) rfl rfl, ⟨by decide +kernel, by decide +kernel⟩, by decide +kernel, rfl⟩
theorem cn_X3_11 : q_cn RX3 11 yX8_init cX8_init 3 2 := ⟨q_g1 (i := 46) rfl rfl, q_g1 (i := 47) rfl rfl, q_g1 (i := 4) rfl rfl, q_g1 (i := 48) rfl rfl, ⟨by decide +kernel, by decide +kernel⟩, by decide +kernel, rfl⟩
theorem cn_X4_15 : q_cn RX4 15 yX8_init cX8_init 3 2 := ⟨q_g1 (i := 200) rfl rfl, q_g1 (i := 47) rfl rfl, q_g1 (i := 4) rfl rfl, q_g1 (i := 48) rfl rfl, ⟨by decide +kernel, by decide +kernel⟩, by decide +kernel, rfl⟩
theorem cn_X5_11 : q_cn RX5 11 yX7_init cX7_init 1 0 := ⟨q_g1 (i := 224) rfl rfl, q_g1 (i := 172) rfl rfl, q_g1 (i := 6) rfl rfl, q_g1 (i := 173) rfl rfl, ⟨by decide +kernel, by decide +kernel⟩, by decide +kernel, rfl⟩
theorem cn_X5_20 : q_cn RX5 20 yX8_init cX8_init 3 2 := ⟨q_g1 (i := 226) rfl rfl, q_g1 (i := 47) rfl rfl, q_g1 (i := 4) rfl rfl, q_g1 (i := 48) rfl rfl, ⟨by decide +kernel, by decide +kernel⟩, by decide +kernel, rfl⟩
theorem cn_X6_21 : q_cn RX6 21 yX3_init cX3_init 1 0 := ⟨q_g1 (i := 40) rfl rfl, q_g1 (i := 41) rfl rfl, q_g1 (i := 3) rfl rfl, q_g1 (i := 42) rfl rfl, ⟨by decide +kernel, by decide +kernel⟩, by decide +kernel, rfl⟩
theorem cn_X6_32 : q_cn RX6 32 yX8_init cX8_init 3 2 := ⟨q_g1 (i := 121) rfl rfl, q_g1 (i := 47) rfl rfl, q_g1 (i := 4) rfl rfl, q_g1 (i := 48) rfl rfl, ⟨by decide +kernel, by decide +kernel⟩, by decide +kernel, rfl⟩
theorem cn_X7_13 : q_cn RX7 13 yX8_init cX8_init 3 2 := ⟨q_g1 (i := 176) rfl rfl, q_g1 (i := 47) rfl rfl, q_g1 (i := 4) rfl rfl, q_g1 (i := 48) rfl rfl, ⟨by decide +kernel, by decide +kernel⟩, by decide +kernel, rfl⟩
theorem cn_X9_11 : q_cn RX9 11 yX8_init cX8_init 3 2 := ⟨q_g2 (i := 22) rfl rfl, q_g1 (i := 47) rfl rfl, q_g1 (i := 4) rfl rfl, q_g1 (i := 48) rfl rfl, ⟨by decide +kernel, by decide +kernel⟩, by decide +kernel, rfl⟩
theorem cw_X7_20 : q_cw RX7 20 6 yX7_begin cX7_begin 2 none 0 := ⟨q_g1 (i := 177) rfl rfl, q_g1 (i := 178) rfl rfl, q_g1 (i := 179) rfl rfl, q_g1 (i := 6) rfl rfl, q_g1 (i := 180) rfl rfl, ⟨by decide +kernel, by decide +kernel⟩, by decide +kernel, _, _, rfl⟩
theorem q_ml_X8_9 : Cond.methodLink RX8 9 Lib.Math.max.name ∈ q_GW := q_g1 (i := 50) rfl rfl
theorem q_ml_X8_15 : Cond.methodLink RX8 15 Lib.Math.min.name ∈ q_GW := q_g1 (i := 53) rfl rfl
def f_X8_init (g : qS) (n : Nat) (a0 : Nat) (a1 : Int32) (a2 : Int32) : Option qS := (p_N g a0 7 0 (.int (q_mn 100 (q_mx 0 a1)))).bind fun g1 => (p_N g1 a0 7 1 (.int (q_mn 100 (q_mx 0 a2)))).bind fun g2 => (g_I g2 a0 7 0).bind fun v3 => (g_I g2 a0 7 1).bind fun v4 => (n_K 1 300 g2 (n + 0) (v3 * v4)).bind fun g5 => (p_N g5 a0 7 2 (.ref (n + 0))).bind fun g6 => some g6
set_option maxHeartbeats 4000000 in
set_option maxRecDepth 100000 in
theorem c_X8_init (l : Launch) (E : qV) {g : qS} {n : Nat} {a0 : Nat} {a1 : Int32} {a2 : Int32} {res : qS} (hf : f_X8_init g n a0 a1 a2 = some res) : q_MA l yX8_init cX8_init 3 1 24 1 300 E [.ref (q_ad E a0), .int a1, .int a2] g n res := by
  unfold f_X8_init at hf
  refine q_ofA (by decide) rfl rfl ?_
  intro p e s m args below meth c ls C hin hj har hl
  have hx := C.1
  have hb := C.2.1
  have C : q_C E p s m args meth c cX8_init RX8 3 none := C
  have hl : lv_has ls 3 [(0, .ref (q_ad E a0)), (1, .int a1), (2, .int a2)] := hl
  have hz : s.heap.size = s.heap.size + 0 := rfl
  refine lv_aload_n hx hb dX8_init_0 rfl (lv_at hl 0 rfl) ?_
  refine q_oi C oi_X8_1 hl rfl dX8_init_1 ?_
  refine lv_aload_n hx hb dX8_init_4 rfl (lv_at hl 0 rfl) ?_
  refine lv_bipush (v := 100) hx hb dX8_init_5 (by decide) ?_
  refine lv_iconst (v := 0) hx hb dX8_init_7 qi_0 ?_
  refine lv_iload_n hx hb dX8_init_8 rfl (lv_at hl 1 rfl) ?_
  refine q_max C (q_ml_X8_9) rfl hl dX8_init_9 ?_
  refine q_min C (q_ml_X8_15) rfl hl dX8_init_12 ?_
  refine q_putF (v := .int (q_mn 100 (q_mx 0 a1))) C hin hj hz ff_X8_18 dX8_init_15 rfl rfl hf (fun g1 H9 locs hj hz9 hf => ?_)
  replace hz := hz9.trans hz
  refine lv_aload_n hx hb dX8_init_18 rfl (lv_at hl 0 rfl) ?_
  refine lv_bipush (v := 100) hx hb dX8_init_19 (by decide) ?_
  refine lv_iconst (v := 0) hx hb dX8_init_21 qi_0 ?_
  refine lv_iload_n hx hb dX8_init_22 rfl (lv_at hl 2 rfl) ?_
  refine q_max C (q_ml_X8_9) rfl hl dX8_init_23 ?_
  refine q_min C (q_ml_X8_15) rfl hl dX8_init_26 ?_
  refine q_putF (v := .int (q_mn 100 (q_mx 0 a2))) C hin hj hz ff_X8_22 dX8_init_29 rfl rfl hf (fun g2 H9 locs hj hz9 hf => ?_)
  replace hz := hz9.trans hz
  refine lv_aload_n hx hb dX8_init_32 rfl (lv_at hl 0 rfl) ?_
  refine lv_aload_n hx hb dX8_init_33 rfl (lv_at hl 0 rfl) ?_
  refine q_getI C hj lk_X8_18 dX8_init_34 hf (fun v3 hf => ?_)
  refine lv_aload_n hx hb dX8_init_37 rfl (lv_at hl 0 rfl) ?_
  refine q_getI C hj lk_X8_22 dX8_init_38 hf (fun v4 hf => ?_)
  refine lv_imul hx hb dX8_init_41 ?_
  refine q_newI (k := 0) C hj hz har rfl rfl rfl rfl dX8_init_42 hf (fun g5 H hj hz hf => ?_)
  refine q_putF (v := .ref (n + 0)) C hin hj hz ff_X8_25 dX8_init_44 rfl rfl hf (fun g6 H9 locs hj hz9 hf => ?_)
  replace hz := hz9.trans hz
  exact q_vretA C hj hz dX8_init_47 hf
def f_X3_init (g : qS) (n : Nat) (a0 : Nat) : Option qS := (n_O g (n + 0) 7 [.int 0, .int 0, .null]).bind fun g1 => (f_X8_init g1 (n + 1) (n + 0) 4 2).bind fun g2 => (p_N g2 a0 2 0 (.ref (n + 0))).bind fun g3 => (n_O g3 (n + 2) 7 [.int 0, .int 0, .null]).bind fun g4 => (f_X8_init g4 (n + 3) (n + 2) 5 3).bind fun g5 => (p_N g5 a0 2 1 (.ref (n + 2))).bind fun g6 => (n_O g6 (n + 4) 7 [.int 0, .int 0, .null]).bind fun g7 => (f_X8_init g7 (n + 5) (n + 4) 4 2).bind fun g8 => (p_N g8 a0 2 2 (.ref (n + 4))).bind fun g9 => (n_O g9 (n + 6) 7 [.int 0, .int 0, .null]).bind fun g10 => (f_X8_init g10 (n + 7) (n + 6) 3 1).bind fun g11 => (p_N g11 a0 2 3 (.ref (n + 6))).bind fun g12 => (n_O g12 (n + 8) 7 [.int 0, .int 0, .null]).bind fun g13 => (f_X8_init g13 (n + 9) (n + 8) 12 4).bind fun g14 => (p_N g14 a0 2 4 (.ref (n + 8))).bind fun g15 => (n_O g15 (n + 10) 7 [.int 0, .int 0, .null]).bind fun g16 => (f_X8_init g16 (n + 11) (n + 10) 4 2).bind fun g17 => (p_N g17 a0 2 5 (.ref (n + 10))).bind fun g18 => (n_O g18 (n + 12) 7 [.int 0, .int 0, .null]).bind fun g19 => (f_X8_init g19 (n + 13) (n + 12) 8 5).bind fun g20 => (p_N g20 a0 2 6 (.ref (n + 12))).bind fun g21 => (n_O g21 (n + 14) 7 [.int 0, .int 0, .null]).bind fun g22 => (f_X8_init g22 (n + 15) (n + 14) 5 7).bind fun g23 => (p_N g23 a0 2 7 (.ref (n + 14))).bind fun g24 => (n_O g24 (n + 16) 7 [.int 0, .int 0, .null]).bind fun g25 => (f_X8_init g25 (n + 17) (n + 16) 3 7).bind fun g26 => (p_N g26 a0 2 8 (.ref (n + 16))).bind fun g27 => (n_O g27 (n + 18) 7 [.int 0, .int 0, .null]).bind fun g28 => (f_X8_init g28 (n + 19) (n + 18) 1 10).bind fun g29 => (p_N g29 a0 2 9 (.ref (n + 18))).bind fun g30 => some g30
set_option maxHeartbeats 4000000 in
set_option maxRecDepth 100000 in
theorem c_X3_init (l : Launch) (E : qV) {g : qS} {n : Nat} {a0 : Nat} {res : qS} (hf : f_X3_init g n a0 = some res) : q_MA l yX3_init cX3_init 1 2 46 20 3030 E [.ref (q_ad E a0)] g n res := by
  unfold f_X3_init at hf
  refine q_ofA (by decide) rfl rfl ?_
  intro p e s m args below meth c ls C hin hj har hl
  have hx := C.1
  have hb := C.2.1
  have C : q_C E p s m args meth c cX3_init RX3 1 none := C
  have hl : lv_has ls 1 [(0, .ref (q_ad E a0))] := hl
  have hz : s.heap.size = s.heap.size + 0 := rfl
  refine lv_aload_n hx hb dX3_init_0 rfl (lv_at hl 0 rfl) ?_
  refine q_oi C oi_X3_3 hl rfl dX3_init_1 ?_
  refine lv_aload_n hx hb dX3_init_4 rfl (lv_at hl 0 rfl) ?_
  refine q_newO (k := 0) C hj hz har rfl nw_X3_9 rfl rfl dX3_init_5 hf (fun g1 H hj hz hf => ?_)
  refine lv_dup hx hb dX3_init_8 rfl ?_
  refine lv_iconst (v := 4) hx hb dX3_init_9 qi_4 ?_
  refine lv_iconst (v := 2) hx hb dX3_init_10 qi_2 ?_
  refine q_cI (k := 1) C hj hz har rfl cn_X3_11 (As := [.int 4, .int 2]) (rest := [.ref (q_ad E (n + 0)), .ref (q_ad E a0)]) hf (fun g9 h9 => c_X8_init l E h9) rfl hl rfl rfl rfl dX3_init_11 rfl rfl (fun g2 H locs hj hz hf => ?_)
  refine q_putF (v := .ref (n + 0)) C hin hj hz ff_X3_14 dX3_init_14 rfl rfl hf (fun g3 H9 locs hj hz9 hf => ?_)
  replace hz := hz9.trans hz
  refine lv_aload_n hx hb dX3_init_17 rfl (lv_at hl 0 rfl) ?_
  refine q_newO (k := 2) C hj hz har rfl nw_X3_9 rfl rfl dX3_init_18 hf (fun g4 H hj hz hf => ?_)
  refine lv_dup hx hb dX3_init_21 rfl ?_
  refine lv_iconst (v := 5) hx hb dX3_init_22 qi_5 ?_
  refine lv_iconst (v := 3) hx hb dX3_init_23 qi_3 ?_
  refine q_cI (k := 3) C hj hz har rfl cn_X3_11 (As := [.int 5, .int 3]) (rest := [.ref (q_ad E (n + 2)), .ref (q_ad E a0)]) hf (fun g9 h9 => c_X8_init l E h9) rfl hl rfl rfl rfl dX3_init_24 rfl rfl (fun g5 H locs hj hz hf => ?_)
  refine q_putF (v := .ref (n + 2)) C hin hj hz ff_X3_20 dX3_init_27 rfl rfl hf (fun g6 H9 locs hj hz9 hf => ?_)
  replace hz := hz9.trans hz
  refine lv_aload_n hx hb dX3_init_30 rfl (lv_at hl 0 rfl) ?_
  refine q_newO (k := 4) C hj hz har rfl nw_X3_9 rfl rfl dX3_init_31 hf (fun g7 H hj hz hf => ?_)
  refine lv_dup hx hb dX3_init_34 rfl ?_
  refine lv_iconst (v := 4) hx hb dX3_init_35 qi_4 ?_
  refine lv_iconst (v := 2) hx hb dX3_init_36 qi_2 ?_
  refine q_cI (k := 5) C hj hz har rfl cn_X3_11 (As := [.int 4, .int 2]) (rest := [.ref (q_ad E (n + 4)), .ref (q_ad E a0)]) hf (fun g9 h9 => c_X8_init l E h9) rfl hl rfl rfl rfl dX3_init_37 rfl rfl (fun g8 H locs hj hz hf => ?_)
  refine q_putF (v := .ref (n + 4)) C hin hj hz ff_X3_23 dX3_init_40 rfl rfl hf (fun g9 H9 locs hj hz9 hf => ?_)
  replace hz := hz9.trans hz
  refine lv_aload_n hx hb dX3_init_43 rfl (lv_at hl 0 rfl) ?_
  refine q_newO (k := 6) C hj hz har rfl nw_X3_9 rfl rfl dX3_init_44 hf (fun g10 H hj hz hf => ?_)
  refine lv_dup hx hb dX3_init_47 rfl ?_
  refine lv_iconst (v := 3) hx hb dX3_init_48 qi_3 ?_
  refine lv_iconst (v := 1) hx hb dX3_init_49 qi_1 ?_
  refine q_cI (k := 7) C hj hz har rfl cn_X3_11 (As := [.int 3, .int 1]) (rest := [.ref (q_ad E (n + 6)), .ref (q_ad E a0)]) hf (fun g9 h9 => c_X8_init l E h9) rfl hl rfl rfl rfl dX3_init_50 rfl rfl (fun g11 H locs hj hz hf => ?_)
  refine q_putF (v := .ref (n + 6)) C hin hj hz ff_X3_26 dX3_init_53 rfl rfl hf (fun g12 H9 locs hj hz9 hf => ?_)
  replace hz := hz9.trans hz
  refine lv_aload_n hx hb dX3_init_56 rfl (lv_at hl 0 rfl) ?_
  refine q_newO (k := 8) C hj hz har rfl nw_X3_9 rfl rfl dX3_init_57 hf (fun g13 H hj hz hf => ?_)
  refine lv_dup hx hb dX3_init_60 rfl ?_
  refine lv_bipush (v := 12) hx hb dX3_init_61 (by decide) ?_
  refine lv_iconst (v := 4) hx hb dX3_init_63 qi_4 ?_
  refine q_cI (k := 9) C hj hz har rfl cn_X3_11 (As := [.int 12, .int 4]) (rest := [.ref (q_ad E (n + 8)), .ref (q_ad E a0)]) hf (fun g9 h9 => c_X8_init l E h9) rfl hl rfl rfl rfl dX3_init_64 rfl rfl (fun g14 H locs hj hz hf => ?_)
  refine q_putF (v := .ref (n + 8)) C hin hj hz ff_X3_29 dX3_init_67 rfl rfl hf (fun g15 H9 locs hj hz9 hf => ?_)
  replace hz := hz9.trans hz
  refine lv_aload_n hx hb dX3_init_70 rfl (lv_at hl 0 rfl) ?_
  refine q_newO (k := 10) C hj hz har rfl nw_X3_9 rfl rfl dX3_init_71 hf (fun g16 H hj hz hf => ?_)
  refine lv_dup hx hb dX3_init_74 rfl ?_
  refine lv_iconst (v := 4) hx hb dX3_init_75 qi_4 ?_
  refine lv_iconst (v := 2) hx hb dX3_init_76 qi_2 ?_
  refine q_cI (k := 11) C hj hz har rfl cn_X3_11 (As := [.int 4, .int 2]) (rest := [.ref (q_ad E (n + 10)), .ref (q_ad E a0)]) hf (fun g9 h9 => c_X8_init l E h9) rfl hl rfl rfl rfl dX3_init_77 rfl rfl (fun g17 H locs hj hz hf => ?_)
  refine q_putF (v := .ref (n + 10)) C hin hj hz ff_X3_32 dX3_init_80 rfl rfl hf (fun g18 H9 locs hj hz9 hf => ?_)
  replace hz := hz9.trans hz
  refine lv_aload_n hx hb dX3_init_83 rfl (lv_at hl 0 rfl) ?_
  refine q_newO (k := 12) C hj hz har rfl nw_X3_9 rfl rfl dX3_init_84 hf (fun g19 H hj hz hf => ?_)
  refine lv_dup hx hb dX3_init_87 rfl ?_
  refine lv_bipush (v := 8) hx hb dX3_init_88 (by decide) ?_
  refine lv_iconst (v := 5) hx hb dX3_init_90 qi_5 ?_
  refine q_cI (k := 13) C hj hz har rfl cn_X3_11 (As := [.int 8, .int 5]) (rest := [.ref (q_ad E (n + 12)), .ref (q_ad E a0)]) hf (fun g9 h9 => c_X8_init l E h9) rfl hl rfl rfl rfl dX3_init_91 rfl rfl (fun g20 H locs hj hz hf => ?_)
  refine q_putF (v := .ref (n + 12)) C hin hj hz ff_X3_35 dX3_init_94 rfl rfl hf (fun g21 H9 locs hj hz9 hf => ?_)
  replace hz := hz9.trans hz
  refine lv_aload_n hx hb dX3_init_97 rfl (lv_at hl 0 rfl) ?_
  refine q_newO (k := 14) C hj hz har rfl nw_X3_9 rfl rfl dX3_init_98 hf (fun g22 H hj hz hf => ?_)
  refine lv_dup hx hb dX3_init_101 rfl ?_
  refine lv_iconst (v := 5) hx hb dX3_init_102 qi_5 ?_
  refine lv_bipush (v := 7) hx hb dX3_init_103 (by decide) ?_
  refine q_cI (k := 15) C hj hz har rfl cn_X3_11 (As := [.int 5, .int 7]) (rest := [.ref (q_ad E (n + 14)), .ref (q_ad E a0)]) hf (fun g9 h9 => c_X8_init l E h9) rfl hl rfl rfl rfl dX3_init_105 rfl rfl (fun g23 H locs hj hz hf => ?_)
  refine q_putF (v := .ref (n + 14)) C hin hj hz ff_X3_38 dX3_init_108 rfl rfl hf (fun g24 H9 locs hj hz9 hf => ?_)
  replace hz := hz9.trans hz
  refine lv_aload_n hx hb dX3_init_111 rfl (lv_at hl 0 rfl) ?_
  refine q_newO (k := 16) C hj hz har rfl nw_X3_9 rfl rfl dX3_init_112 hf (fun g25 H hj hz hf => ?_)
  refine lv_dup hx hb dX3_init_115 rfl ?_
  refine lv_iconst (v := 3) hx hb dX3_init_116 qi_3 ?_
  refine lv_bipush (v := 7) hx hb dX3_init_117 (by decide) ?_
  refine q_cI (k := 17) C hj hz har rfl cn_X3_11 (As := [.int 3, .int 7]) (rest := [.ref (q_ad E (n + 16)), .ref (q_ad E a0)]) hf (fun g9 h9 => c_X8_init l E h9) rfl hl rfl rfl rfl dX3_init_119 rfl rfl (fun g26 H locs hj hz hf => ?_)
  refine q_putF (v := .ref (n + 16)) C hin hj hz ff_X3_41 dX3_init_122 rfl rfl hf (fun g27 H9 locs hj hz9 hf => ?_)
  replace hz := hz9.trans hz
  refine lv_aload_n hx hb dX3_init_125 rfl (lv_at hl 0 rfl) ?_
  refine q_newO (k := 18) C hj hz har rfl nw_X3_9 rfl rfl dX3_init_126 hf (fun g28 H hj hz hf => ?_)
  refine lv_dup hx hb dX3_init_129 rfl ?_
  refine lv_iconst (v := 1) hx hb dX3_init_130 qi_1 ?_
  refine lv_bipush (v := 10) hx hb dX3_init_131 (by decide) ?_
  refine q_cI (k := 19) C hj hz har rfl cn_X3_11 (As := [.int 1, .int 10]) (rest := [.ref (q_ad E (n + 18)), .ref (q_ad E a0)]) hf (fun g9 h9 => c_X8_init l E h9) rfl hl rfl rfl rfl dX3_init_133 rfl rfl (fun g29 H locs hj hz hf => ?_)
  refine q_putF (v := .ref (n + 18)) C hin hj hz ff_X3_44 dX3_init_136 rfl rfl hf (fun g30 H9 locs hj hz9 hf => ?_)
  replace hz := hz9.trans hz
  exact q_vretA C hj hz dX3_init_139 hf
def f_X6_init (g : qS) (n : Nat) (a0 : Nat) : Option qS := (n_K 0 1000 g (n + 0) 1000).bind fun g1 => (p_N g1 a0 5 0 (.ref (n + 0))).bind fun g2 => (p_N g2 a0 5 1 (.int 0)).bind fun g3 => (n_O g3 (n + 1) 2 [.null, .null, .null, .null, .null, .null, .null, .null, .null, .null]).bind fun g4 => (f_X3_init g4 (n + 2) (n + 1)).bind fun g5 => (p_N g5 a0 5 2 (.ref (n + 1))).bind fun g6 => (n_L 16 g6 (n + 22) 16).bind fun g7 => (p_N g7 a0 5 3 (.ref (n + 22))).bind fun g8 => (n_O g8 (n + 23) 7 [.int 0, .int 0, .null]).bind fun g9 => (f_X8_init g9 (n + 24) (n + 23) 16 2).bind fun g10 => (p_N g10 a0 5 4 (.ref (n + 23))).bind fun g11 => (p_N g11 a0 5 5 (.int 0)).bind fun g12 => (p_N g12 a0 5 6 (.int 0)).bind fun g13 => (p_N g13 a0 5 7 (.int 0)).bind fun g14 => (p_N g14 a0 5 8 (.int 0)).bind fun g15 => (p_N g15 a0 5 9 (.int 0)).bind fun g16 => (p_N g16 a0 5 10 (.long 0)).bind fun g17 => (p_N g17 a0 5 11 (.int 0)).bind fun g18 => (p_N g18 a0 5 12 (.int 0)).bind fun g19 => (p_N g19 a0 5 13 (.int 0)).bind fun g20 => (p_N g20 a0 5 14 (.int 0)).bind fun g21 => some g21
set_option maxHeartbeats 4000000 in
set_option maxRecDepth 100000 in
theorem c_X6_init (l : Launch) (E : qV) {g : qS} {n : Nat} {a0 : Nat} {res : qS} (hf : f_X6_init g n a0 = some res) : q_MA l yX6_init cX6_init 1 3 66 25 4359 E [.ref (q_ad E a0)] g n res := by
  unfold f_X6_init at hf
  refine q_ofA (by decide) rfl rfl ?_
  intro p e s m args below meth c ls C hin hj har hl
  have hx := C.1
  have hb := C.2.1
  have C : q_C E p s m args meth c cX6_init RX6 1 none := C
  have hl : lv_has ls 1 [(0, .ref (q_ad E a0))] := hl
  have hz : s.heap.size = s.heap.size + 0 := rfl
  refine lv_aload_n hx hb dX6_init_0 rfl (lv_at hl 0 rfl) ?_
  refine q_oi C oi_X6_3 hl rfl dX6_init_1 ?_
  refine lv_aload_n hx hb dX6_init_4 rfl (lv_at hl 0 rfl) ?_
  refine lv_sipush (v := 1000) hx hb dX6_init_5 (by decide) ?_
  refine q_newB (k := 0) C hj hz har rfl rfl rfl rfl dX6_init_8 hf (fun g1 H hj hz hf => ?_)
  refine q_putF (v := .ref (n + 0)) C hin hj hz ff_X6_9 dX6_init_10 rfl rfl hf (fun g2 H9 locs hj hz9 hf => ?_)
  replace hz := hz9.trans hz
  refine lv_aload_n hx hb dX6_init_13 rfl (lv_at hl 0 rfl) ?_
  refine lv_iconst (v := 0) hx hb dX6_init_14 qi_0 ?_
  refine q_putG (v := .int 0) C hj hz fp_X6_15 dX6_init_15 rfl rfl hf (fun g3 H9 locs hj hz9 hf => ?_)
  replace hz := hz9.trans hz
  refine lv_aload_n hx hb dX6_init_18 rfl (lv_at hl 0 rfl) ?_
  refine q_newO (k := 1) C hj hz har rfl nw_X6_19 rfl rfl dX6_init_19 hf (fun g4 H hj hz hf => ?_)
  refine lv_dup hx hb dX6_init_22 rfl ?_
  refine q_cI (k := 2) C hj hz har rfl cn_X6_21 (As := []) (rest := [.ref (q_ad E (n + 1)), .ref (q_ad E a0)]) hf (fun g9 h9 => c_X3_init l E h9) rfl hl rfl rfl rfl dX6_init_23 rfl rfl (fun g5 H locs hj hz hf => ?_)
  refine q_putG (v := .ref (n + 1)) C hj hz fp_X6_22 dX6_init_26 rfl rfl hf (fun g6 H9 locs hj hz9 hf => ?_)
  replace hz := hz9.trans hz
  refine lv_aload_n hx hb dX6_init_29 rfl (lv_at hl 0 rfl) ?_
  refine lv_bipush (v := 16) hx hb dX6_init_30 (by decide) ?_
  refine q_newJ (k := 22) C hj hz har rfl rfl rfl rfl dX6_init_32 hf (fun g7 H hj hz hf => ?_)
  refine q_putF (v := .ref (n + 22)) C hin hj hz ff_X6_26 dX6_init_34 rfl rfl hf (fun g8 H9 locs hj hz9 hf => ?_)
  replace hz := hz9.trans hz
  refine lv_aload_n hx hb dX6_init_37 rfl (lv_at hl 0 rfl) ?_
  refine q_newO (k := 23) C hj hz har rfl nw_X6_30 rfl rfl dX6_init_38 hf (fun g9 H hj hz hf => ?_)
  refine lv_dup hx hb dX6_init_41 rfl ?_
  refine lv_bipush (v := 16) hx hb dX6_init_42 (by decide) ?_
  refine lv_iconst (v := 2) hx hb dX6_init_44 qi_2 ?_
  refine q_cI (k := 24) C hj hz har rfl cn_X6_32 (As := [.int 16, .int 2]) (rest := [.ref (q_ad E (n + 23)), .ref (q_ad E a0)]) hf (fun g9 h9 => c_X8_init l E h9) rfl hl rfl rfl rfl dX6_init_45 rfl rfl (fun g10 H locs hj hz hf => ?_)
  refine q_putF (v := .ref (n + 23)) C hin hj hz ff_X6_35 dX6_init_48 rfl rfl hf (fun g11 H9 locs hj hz9 hf => ?_)
  replace hz := hz9.trans hz
  refine lv_aload_n hx hb dX6_init_51 rfl (lv_at hl 0 rfl) ?_
  refine lv_iconst (v := 0) hx hb dX6_init_52 qi_0 ?_
  refine q_putG (v := .int 0) C hj hz fp_X6_39 dX6_init_53 rfl rfl hf (fun g12 H9 locs hj hz9 hf => ?_)
  replace hz := hz9.trans hz
  refine lv_aload_n hx hb dX6_init_56 rfl (lv_at hl 0 rfl) ?_
  refine lv_iconst (v := 0) hx hb dX6_init_57 qi_0 ?_
  refine q_putG (v := .int 0) C hj hz fp_X6_42 dX6_init_58 rfl rfl hf (fun g13 H9 locs hj hz9 hf => ?_)
  replace hz := hz9.trans hz
  refine lv_aload_n hx hb dX6_init_61 rfl (lv_at hl 0 rfl) ?_
  refine lv_iconst (v := 0) hx hb dX6_init_62 qi_0 ?_
  refine q_putG (v := .int 0) C hj hz fp_X6_45 dX6_init_63 rfl rfl hf (fun g14 H9 locs hj hz9 hf => ?_)
  replace hz := hz9.trans hz
  refine lv_aload_n hx hb dX6_init_66 rfl (lv_at hl 0 rfl) ?_
  refine lv_iconst (v := 0) hx hb dX6_init_67 qi_0 ?_
  refine q_putG (v := .int 0) C hj hz fp_X6_48 dX6_init_68 rfl rfl hf (fun g15 H9 locs hj hz9 hf => ?_)
  replace hz := hz9.trans hz
  refine lv_aload_n hx hb dX6_init_71 rfl (lv_at hl 0 rfl) ?_
  refine lv_iconst (v := 0) hx hb dX6_init_72 qi_0 ?_
  refine q_putG (v := .int 0) C hj hz fp_X6_51 dX6_init_73 rfl rfl hf (fun g16 H9 locs hj hz9 hf => ?_)
  replace hz := hz9.trans hz
  refine lv_aload_n hx hb dX6_init_76 rfl (lv_at hl 0 rfl) ?_
  refine lv_lconst (v := 0) hx hb dX6_init_77 (by decide) ?_
  refine q_putG (v := .long 0) C hj hz fp_X6_54 dX6_init_78 rfl rfl hf (fun g17 H9 locs hj hz9 hf => ?_)
  replace hz := hz9.trans hz
  refine lv_aload_n hx hb dX6_init_81 rfl (lv_at hl 0 rfl) ?_
  refine lv_iconst (v := 0) hx hb dX6_init_82 qi_0 ?_
  refine q_putG (v := .int 0) C hj hz fp_X6_58 dX6_init_83 rfl rfl hf (fun g18 H9 locs hj hz9 hf => ?_)
  replace hz := hz9.trans hz
  refine lv_aload_n hx hb dX6_init_86 rfl (lv_at hl 0 rfl) ?_
  refine lv_iconst (v := 0) hx hb dX6_init_87 qi_0 ?_
  refine q_putG (v := .int 0) C hj hz fp_X6_61 dX6_init_88 rfl rfl hf (fun g19 H9 locs hj hz9 hf => ?_)
  replace hz := hz9.trans hz
  refine lv_aload_n hx hb dX6_init_91 rfl (lv_at hl 0 rfl) ?_
  refine lv_iconst (v := 0) hx hb dX6_init_92 qi_0 ?_
  refine q_putG (v := .int 0) C hj hz fp_X6_64 dX6_init_93 rfl rfl hf (fun g20 H9 locs hj hz9 hf => ?_)
  replace hz := hz9.trans hz
  refine lv_aload_n hx hb dX6_init_96 rfl (lv_at hl 0 rfl) ?_
  refine lv_iconst (v := 0) hx hb dX6_init_97 qi_0 ?_
  refine q_putG (v := .int 0) C hj hz fp_X6_67 dX6_init_98 rfl rfl hf (fun g21 H9 locs hj hz9 hf => ?_)
  replace hz := hz9.trans hz
  exact q_vretA C hj hz dX6_init_101 hf
def f_X7_init (g : qS) (n : Nat) (a0 : Nat) : Option qS := (n_O g (n + 0) 7 [.int 0, .int 0, .null]).bind fun g1 => (f_X8_init g1 (n + 1) (n + 0) 1 16).bind fun g2 => (p_N g2 a0 6 0 (.ref (n + 0))).bind fun g3 => (f_X7_begin g3 a0).bind fun g4 => some g4
set_option maxHeartbeats 4000000 in
set_option maxRecDepth 100000 in
theorem c_X7_init (l : Launch) (E : qV) {g : qS} {n : Nat} {a0 : Nat} {res : qS} (hf : f_X7_init g n a0 = some res) : q_MA l yX7_init cX7_init 1 2 46 2 303 E [.ref (q_ad E a0)] g n res := by
  unfold f_X7_init at hf
  refine q_ofA (by decide) rfl rfl ?_
  intro p e s m args below meth c ls C hin hj har hl
  have hx := C.1
  have hb := C.2.1
  have C : q_C E p s m args meth c cX7_init RX7 1 none := C
  have hl : lv_has ls 1 [(0, .ref (q_ad E a0))] := hl
  have hz : s.heap.size = s.heap.size + 0 := rfl
  refine lv_aload_n hx hb dX7_init_0 rfl (lv_at hl 0 rfl) ?_
  refine q_oi C oi_X7_5 hl rfl dX7_init_1 ?_
  refine lv_aload_n hx hb dX7_init_4 rfl (lv_at hl 0 rfl) ?_
  refine q_newO (k := 0) C hj hz har rfl nw_X7_11 rfl rfl dX7_init_5 hf (fun g1 H hj hz hf => ?_)
  refine lv_dup hx hb dX7_init_8 rfl ?_
  refine lv_iconst (v := 1) hx hb dX7_init_9 qi_1 ?_
  refine lv_bipush (v := 16) hx hb dX7_init_10 (by decide) ?_
  refine q_cI (k := 1) C hj hz har rfl cn_X7_13 (As := [.int 1, .int 16]) (rest := [.ref (q_ad E (n + 0)), .ref (q_ad E a0)]) hf (fun g9 h9 => c_X8_init l E h9) rfl hl rfl rfl rfl dX7_init_12 rfl rfl (fun g2 H locs hj hz hf => ?_)
  refine q_putF (v := .ref (n + 0)) C hin hj hz ff_X7_16 dX7_init_15 rfl rfl hf (fun g3 H9 locs hj hz9 hf => ?_)
  replace hz := hz9.trans hz
  refine lv_aload_n hx hb dX7_init_18 rfl (lv_at hl 0 rfl) ?_
  refine q_cVWVz C hj cw_X7_20 (As := []) (rest := []) hf (fun g9 h9 => c_X7_begin l E h9) rfl hl rfl rfl rfl dX7_init_19 ⟨Nat.le_of_ble_eq_true rfl, Nat.le_of_ble_eq_true rfl⟩ (fun g4 H9 locs hj hz9 hf => ?_)
  replace hz := hz9.trans hz
  exact q_vretA C hj hz dX7_init_22 hf
def f_X4_init (g : qS) (n : Nat) (a0 : Nat) : Option qS := (n_O g (n + 0) 7 [.int 0, .int 0, .null]).bind fun g1 => (f_X8_init g1 (n + 1) (n + 0) 16 16).bind fun g2 => (p_N g2 a0 3 0 (.ref (n + 0))).bind fun g3 => (n_O g3 (n + 2) 7 [.int 0, .int 0, .null]).bind fun g4 => (f_X8_init g4 (n + 3) (n + 2) 3 16).bind fun g5 => (p_N g5 a0 3 1 (.ref (n + 2))).bind fun g6 => (p_N g6 a0 3 2 (.int 0)).bind fun g7 => (p_N g7 a0 3 3 (.int 0)).bind fun g8 => (p_N g8 a0 3 4 (.int 0)).bind fun g9 => some g9
set_option maxHeartbeats 4000000 in
set_option maxRecDepth 100000 in
theorem c_X4_init (l : Launch) (E : qV) {g : qS} {n : Nat} {a0 : Nat} {res : qS} (hf : f_X4_init g n a0 = some res) : q_MA l yX4_init cX4_init 1 2 46 4 606 E [.ref (q_ad E a0)] g n res := by
  unfold f_X4_init at hf
  refine q_ofA (by decide) rfl rfl ?_
  intro p e s m args below meth c ls C hin hj har hl
  have hx := C.1
  have hb := C.2.1
  have C : q_C E p s m args meth c cX4_init RX4 1 none := C
  have hl : lv_has ls 1 [(0, .ref (q_ad E a0))] := hl
  have hz : s.heap.size = s.heap.size + 0 := rfl
  refine lv_aload_n hx hb dX4_init_0 rfl (lv_at hl 0 rfl) ?_
  refine q_oi C oi_X4_3 hl rfl dX4_init_1 ?_
  refine lv_aload_n hx hb dX4_init_4 rfl (lv_at hl 0 rfl) ?_
  refine q_newO (k := 0) C hj hz har rfl nw_X4_9 rfl rfl dX4_init_5 hf (fun g1 H hj hz hf => ?_)
  refine lv_dup hx hb dX4_init_8 rfl ?_
  refine lv_bipush (v := 16) hx hb dX4_init_9 (by decide) ?_
  refine lv_bipush (v := 16) hx hb dX4_init_11 (by decide) ?_
  refine q_cI (k := 1) C hj hz har rfl cn_X4_15 (As := [.int 16, .int 16]) (rest := [.ref (q_ad E (n + 0)), .ref (q_ad E a0)]) hf (fun g9 h9 => c_X8_init l E h9) rfl hl rfl rfl rfl dX4_init_13 rfl rfl (fun g2 H locs hj hz hf => ?_)
  refine q_putF (v := .ref (n + 0)) C hin hj hz ff_X4_18 dX4_init_16 rfl rfl hf (fun g3 H9 locs hj hz9 hf => ?_)
  replace hz := hz9.trans hz
  refine lv_aload_n hx hb dX4_init_19 rfl (lv_at hl 0 rfl) ?_
  refine q_newO (k := 2) C hj hz har rfl nw_X4_9 rfl rfl dX4_init_20 hf (fun g4 H hj hz hf => ?_)
  refine lv_dup hx hb dX4_init_23 rfl ?_
  refine lv_iconst (v := 3) hx hb dX4_init_24 qi_3 ?_
  refine lv_bipush (v := 16) hx hb dX4_init_25 (by decide) ?_
  refine q_cI (k := 3) C hj hz har rfl cn_X4_15 (As := [.int 3, .int 16]) (rest := [.ref (q_ad E (n + 2)), .ref (q_ad E a0)]) hf (fun g9 h9 => c_X8_init l E h9) rfl hl rfl rfl rfl dX4_init_27 rfl rfl (fun g5 H locs hj hz hf => ?_)
  refine q_putF (v := .ref (n + 2)) C hin hj hz ff_X4_22 dX4_init_30 rfl rfl hf (fun g6 H9 locs hj hz9 hf => ?_)
  replace hz := hz9.trans hz
  refine lv_aload_n hx hb dX4_init_33 rfl (lv_at hl 0 rfl) ?_
  refine lv_iconst (v := 0) hx hb dX4_init_34 qi_0 ?_
  refine q_putG (v := .int 0) C hj hz fp_X4_25 dX4_init_35 rfl rfl hf (fun g7 H9 locs hj hz9 hf => ?_)
  replace hz := hz9.trans hz
  refine lv_aload_n hx hb dX4_init_38 rfl (lv_at hl 0 rfl) ?_
  refine lv_iconst (v := 0) hx hb dX4_init_39 qi_0 ?_
  refine q_putG (v := .int 0) C hj hz fp_X4_29 dX4_init_40 rfl rfl hf (fun g8 H9 locs hj hz9 hf => ?_)
  replace hz := hz9.trans hz
  refine lv_aload_n hx hb dX4_init_43 rfl (lv_at hl 0 rfl) ?_
  refine lv_iconst (v := 0) hx hb dX4_init_44 qi_0 ?_
  refine q_putG (v := .int 0) C hj hz fp_X4_32 dX4_init_45 rfl rfl hf (fun g9 H9 locs hj hz9 hf => ?_)
  replace hz := hz9.trans hz
  exact q_vretA C hj hz dX4_init_48 hf
def f_X5_init (g : qS) (n : Nat) (a0 : Nat) : Option qS := (n_O g (n + 0) 6 [.null]).bind fun g1 => (f_X7_init g1 (n + 1) (n + 0)).bind fun g2 => (p_N g2 a0 4 0 (.ref (n + 0))).bind fun g3 => (n_O g3 (n + 3) 7 [.int 0, .int 0, .null]).bind fun g4 => (f_X8_init g4 (n + 4) (n + 3) 1 12).bind fun g5 => (p_N g5 a0 4 1 (.ref (n + 3))).bind fun g6 => (p_N g6 a0 4 2 (.int (-1))).bind fun g7 => some g7
set_option maxHeartbeats 4000000 in
set_option maxRecDepth 100000 in
theorem c_X5_init (l : Launch) (E : qV) {g : qS} {n : Nat} {a0 : Nat} {res : qS} (hf : f_X5_init g n a0 = some res) : q_MA l yX5_init cX5_init 1 3 66 5 607 E [.ref (q_ad E a0)] g n res := by
  unfold f_X5_init at hf
  refine q_ofA (by decide) rfl rfl ?_
  intro p e s m args below meth c ls C hin hj har hl
  have hx := C.1
  have hb := C.2.1
  have C : q_C E p s m args meth c cX5_init RX5 1 none := C
  have hl : lv_has ls 1 [(0, .ref (q_ad E a0))] := hl
  have hz : s.heap.size = s.heap.size + 0 := rfl
  refine lv_aload_n hx hb dX5_init_0 rfl (lv_at hl 0 rfl) ?_
  refine q_oi C oi_X5_3 hl rfl dX5_init_1 ?_
  refine lv_aload_n hx hb dX5_init_4 rfl (lv_at hl 0 rfl) ?_
  refine q_newO (k := 0) C hj hz har rfl nw_X5_9 rfl rfl dX5_init_5 hf (fun g1 H hj hz hf => ?_)
  refine lv_dup hx hb dX5_init_8 rfl ?_
  refine q_cI (k := 1) C hj hz har rfl cn_X5_11 (As := []) (rest := [.ref (q_ad E (n + 0)), .ref (q_ad E a0)]) hf (fun g9 h9 => c_X7_init l E h9) rfl hl rfl rfl rfl dX5_init_9 rfl rfl (fun g2 H locs hj hz hf => ?_)
  refine q_putF (v := .ref (n + 0)) C hin hj hz ff_X5_12 dX5_init_12 rfl rfl hf (fun g3 H9 locs hj hz9 hf => ?_)
  replace hz := hz9.trans hz
  refine lv_aload_n hx hb dX5_init_15 rfl (lv_at hl 0 rfl) ?_
  refine q_newO (k := 3) C hj hz har rfl nw_X5_18 rfl rfl dX5_init_16 hf (fun g4 H hj hz hf => ?_)
  refine lv_dup hx hb dX5_init_19 rfl ?_
  refine lv_iconst (v := 1) hx hb dX5_init_20 qi_1 ?_
  refine lv_bipush (v := 12) hx hb dX5_init_21 (by decide) ?_
  refine q_cI (k := 4) C hj hz har rfl cn_X5_20 (As := [.int 1, .int 12]) (rest := [.ref (q_ad E (n + 3)), .ref (q_ad E a0)]) hf (fun g9 h9 => c_X8_init l E h9) rfl hl rfl rfl rfl dX5_init_23 rfl rfl (fun g5 H locs hj hz hf => ?_)
  refine q_putF (v := .ref (n + 3)) C hin hj hz ff_X5_23 dX5_init_26 rfl rfl hf (fun g6 H9 locs hj hz9 hf => ?_)
  replace hz := hz9.trans hz
  refine lv_aload_n hx hb dX5_init_29 rfl (lv_at hl 0 rfl) ?_
  refine lv_iconst (v := -1) hx hb dX5_init_30 qi_m1 ?_
  refine q_putG (v := .int (-1)) C hj hz fp_X5_27 dX5_init_31 rfl rfl hf (fun g7 H9 locs hj hz9 hf => ?_)
  replace hz := hz9.trans hz
  exact q_vretA C hj hz dX5_init_34 hf
def f_X0_init (g : qS) (n : Nat) (a0 : Nat) : Option qS := (n_O g (n + 0) 7 [.int 0, .int 0, .null]).bind fun g1 => (f_X8_init g1 (n + 1) (n + 0) 4 3).bind fun g2 => (p_N g2 a0 0 0 (.ref (n + 0))).bind fun g3 => (p_N g3 a0 0 1 (.int 0)).bind fun g4 => (p_N g4 a0 0 2 (.int (-2))).bind fun g5 => some g5
set_option maxHeartbeats 4000000 in
set_option maxRecDepth 100000 in
theorem c_X0_init (l : Launch) (E : qV) {g : qS} {n : Nat} {a0 : Nat} {res : qS} (hf : f_X0_init g n a0 = some res) : q_MA l yX0_init cX0_init 1 2 46 2 303 E [.ref (q_ad E a0)] g n res := by
  unfold f_X0_init at hf
  refine q_ofA (by decide) rfl rfl ?_
  intro p e s m args below meth c ls C hin hj har hl
  have hx := C.1
  have hb := C.2.1
  have C : q_C E p s m args meth c cX0_init RX0 1 none := C
  have hl : lv_has ls 1 [(0, .ref (q_ad E a0))] := hl
  have hz : s.heap.size = s.heap.size + 0 := rfl
  refine lv_aload_n hx hb dX0_init_0 rfl (lv_at hl 0 rfl) ?_
  refine q_oi C oi_X0_3 hl rfl dX0_init_1 ?_
  refine lv_aload_n hx hb dX0_init_4 rfl (lv_at hl 0 rfl) ?_
  refine q_newO (k := 0) C hj hz har rfl nw_X0_9 rfl rfl dX0_init_5 hf (fun g1 H hj hz hf => ?_)
  refine lv_dup hx hb dX0_init_8 rfl ?_
  refine lv_iconst (v := 4) hx hb dX0_init_9 qi_4 ?_
  refine lv_iconst (v := 3) hx hb dX0_init_10 qi_3 ?_
  refine q_cI (k := 1) C hj hz har rfl cn_X0_11 (As := [.int 4, .int 3]) (rest := [.ref (q_ad E (n + 0)), .ref (q_ad E a0)]) hf (fun g9 h9 => c_X8_init l E h9) rfl hl rfl rfl rfl dX0_init_11 rfl rfl (fun g2 H locs hj hz hf => ?_)
  refine q_putF (v := .ref (n + 0)) C hin hj hz ff_X0_14 dX0_init_14 rfl rfl hf (fun g3 H9 locs hj hz9 hf => ?_)
  replace hz := hz9.trans hz
  refine lv_aload_n hx hb dX0_init_17 rfl (lv_at hl 0 rfl) ?_
  refine lv_iconst (v := 0) hx hb dX0_init_18 qi_0 ?_
  refine q_putG (v := .int 0) C hj hz fp_X0_20 dX0_init_19 (show narrow .boolean (.int 0) = .int 0 by decide +kernel) (show fits .boolean (.int 0) = true by decide +kernel) hf (fun g4 H9 locs hj hz9 hf => ?_)
  replace hz := hz9.trans hz
  refine lv_aload_n hx hb dX0_init_22 rfl (lv_at hl 0 rfl) ?_
  refine lv_bipush (v := -2) hx hb dX0_init_23 (by decide) ?_
  refine q_putG (v := .int (-2)) C hj hz fp_X0_24 dX0_init_25 rfl rfl hf (fun g5 H9 locs hj hz9 hf => ?_)
  replace hz := hz9.trans hz
  exact q_vretA C hj hz dX0_init_28 hf
def f_X9_init (g : qS) (n : Nat) (a0 : Nat) : Option qS := (n_O g (n + 0) 7 [.int 0, .int 0, .null]).bind fun g1 => (f_X8_init g1 (n + 1) (n + 0) 1 4).bind fun g2 => (p_N g2 a0 8 0 (.ref (n + 0))).bind fun g3 => (n_O g3 (n + 2) 7 [.int 0, .int 0, .null]).bind fun g4 => (f_X8_init g4 (n + 3) (n + 2) 1 4).bind fun g5 => (p_N g5 a0 8 1 (.ref (n + 2))).bind fun g6 => (p_N g6 a0 8 2 (.int 0)).bind fun g7 => (p_N g7 a0 8 3 (.int 0)).bind fun g8 => some g8
set_option maxHeartbeats 4000000 in
set_option maxRecDepth 100000 in
theorem c_X9_init (l : Launch) (E : qV) {g : qS} {n : Nat} {a0 : Nat} {res : qS} (hf : f_X9_init g n a0 = some res) : q_MA l yX9_init cX9_init 1 2 46 4 606 E [.ref (q_ad E a0)] g n res := by
  unfold f_X9_init at hf
  refine q_ofA (by decide) rfl rfl ?_
  intro p e s m args below meth c ls C hin hj har hl
  have hx := C.1
  have hb := C.2.1
  have C : q_C E p s m args meth c cX9_init RX9 1 none := C
  have hl : lv_has ls 1 [(0, .ref (q_ad E a0))] := hl
  have hz : s.heap.size = s.heap.size + 0 := rfl
  refine lv_aload_n hx hb dX9_init_0 rfl (lv_at hl 0 rfl) ?_
  refine q_oi C oi_X9_3 hl rfl dX9_init_1 ?_
  refine lv_aload_n hx hb dX9_init_4 rfl (lv_at hl 0 rfl) ?_
  refine q_newO (k := 0) C hj hz har rfl nw_X9_9 rfl rfl dX9_init_5 hf (fun g1 H hj hz hf => ?_)
  refine lv_dup hx hb dX9_init_8 rfl ?_
  refine lv_iconst (v := 1) hx hb dX9_init_9 qi_1 ?_
  refine lv_iconst (v := 4) hx hb dX9_init_10 qi_4 ?_
  refine q_cI (k := 1) C hj hz har rfl cn_X9_11 (As := [.int 1, .int 4]) (rest := [.ref (q_ad E (n + 0)), .ref (q_ad E a0)]) hf (fun g9 h9 => c_X8_init l E h9) rfl hl rfl rfl rfl dX9_init_11 rfl rfl (fun g2 H locs hj hz hf => ?_)
  refine q_putF (v := .ref (n + 0)) C hin hj hz ff_X9_14 dX9_init_14 rfl rfl hf (fun g3 H9 locs hj hz9 hf => ?_)
  replace hz := hz9.trans hz
  refine lv_aload_n hx hb dX9_init_17 rfl (lv_at hl 0 rfl) ?_
  refine q_newO (k := 2) C hj hz har rfl nw_X9_9 rfl rfl dX9_init_18 hf (fun g4 H hj hz hf => ?_)
  refine lv_dup hx hb dX9_init_21 rfl ?_
  refine lv_iconst (v := 1) hx hb dX9_init_22 qi_1 ?_
  refine lv_iconst (v := 4) hx hb dX9_init_23 qi_4 ?_
  refine q_cI (k := 3) C hj hz har rfl cn_X9_11 (As := [.int 1, .int 4]) (rest := [.ref (q_ad E (n + 2)), .ref (q_ad E a0)]) hf (fun g9 h9 => c_X8_init l E h9) rfl hl rfl rfl rfl dX9_init_24 rfl rfl (fun g5 H locs hj hz hf => ?_)
  refine q_putF (v := .ref (n + 2)) C hin hj hz ff_X9_20 dX9_init_27 rfl rfl hf (fun g6 H9 locs hj hz9 hf => ?_)
  replace hz := hz9.trans hz
  refine lv_aload_n hx hb dX9_init_30 rfl (lv_at hl 0 rfl) ?_
  refine lv_iconst (v := 0) hx hb dX9_init_31 qi_0 ?_
  refine q_putG (v := .int 0) C hj hz fp_X9_23 dX9_init_32 (show narrow .boolean (.int 0) = .int 0 by decide +kernel) (show fits .boolean (.int 0) = true by decide +kernel) hf (fun g7 H9 locs hj hz9 hf => ?_)
  replace hz := hz9.trans hz
  refine lv_aload_n hx hb dX9_init_35 rfl (lv_at hl 0 rfl) ?_
  refine lv_iconst (v := 0) hx hb dX9_init_36 qi_0 ?_
  refine q_putG (v := .int 0) C hj hz fp_X9_27 dX9_init_37 rfl rfl hf (fun g8 H9 locs hj hz9 hf => ?_)
  replace hz := hz9.trans hz
  exact q_vretA C hj hz dX9_init_40 hf
def f_X2_init (g : qS) (n : Nat) (a0 : Nat) : Option qS := (n_O g (n + 0) 7 [.int 0, .int 0, .null]).bind fun g1 => (f_X8_init g1 (n + 1) (n + 0) 1 4).bind fun g2 => (p_N g2 a0 1 0 (.ref (n + 0))).bind fun g3 => (n_O g3 (n + 2) 7 [.int 0, .int 0, .null]).bind fun g4 => (f_X8_init g4 (n + 3) (n + 2) 1 4).bind fun g5 => (p_N g5 a0 1 1 (.ref (n + 2))).bind fun g6 => (p_N g6 a0 1 2 (.int 0)).bind fun g7 => (p_N g7 a0 1 3 (.int (-1))).bind fun g8 => some g8
set_option maxHeartbeats 4000000 in
set_option maxRecDepth 100000 in
theorem c_X2_init (l : Launch) (E : qV) {g : qS} {n : Nat} {a0 : Nat} {res : qS} (hf : f_X2_init g n a0 = some res) : q_MA l yX2_init cX2_init 1 2 46 4 606 E [.ref (q_ad E a0)] g n res := by
  unfold f_X2_init at hf
  refine q_ofA (by decide) rfl rfl ?_
  intro p e s m args below meth c ls C hin hj har hl
  have hx := C.1
  have hb := C.2.1
  have C : q_C E p s m args meth c cX2_init RX2 1 none := C
  have hl : lv_has ls 1 [(0, .ref (q_ad E a0))] := hl
  have hz : s.heap.size = s.heap.size + 0 := rfl
  refine lv_aload_n hx hb dX2_init_0 rfl (lv_at hl 0 rfl) ?_
  refine q_oi C oi_X2_3 hl rfl dX2_init_1 ?_
  refine lv_aload_n hx hb dX2_init_4 rfl (lv_at hl 0 rfl) ?_
  refine q_newO (k := 0) C hj hz har rfl nw_X2_9 rfl rfl dX2_init_5 hf (fun g1 H hj hz hf => ?_)
  refine lv_dup hx hb dX2_init_8 rfl ?_
  refine lv_iconst (v := 1) hx hb dX2_init_9 qi_1 ?_
  refine lv_iconst (v := 4) hx hb dX2_init_10 qi_4 ?_
  refine q_cI (k := 1) C hj hz har rfl cn_X2_11 (As := [.int 1, .int 4]) (rest := [.ref (q_ad E (n + 0)), .ref (q_ad E a0)]) hf (fun g9 h9 => c_X8_init l E h9) rfl hl rfl rfl rfl dX2_init_11 rfl rfl (fun g2 H locs hj hz hf => ?_)
  refine q_putF (v := .ref (n + 0)) C hin hj hz ff_X2_14 dX2_init_14 rfl rfl hf (fun g3 H9 locs hj hz9 hf => ?_)
  replace hz := hz9.trans hz
  refine lv_aload_n hx hb dX2_init_17 rfl (lv_at hl 0 rfl) ?_
  refine q_newO (k := 2) C hj hz har rfl nw_X2_9 rfl rfl dX2_init_18 hf (fun g4 H hj hz hf => ?_)
  refine lv_dup hx hb dX2_init_21 rfl ?_
  refine lv_iconst (v := 1) hx hb dX2_init_22 qi_1 ?_
  refine lv_iconst (v := 4) hx hb dX2_init_23 qi_4 ?_
  refine q_cI (k := 3) C hj hz har rfl cn_X2_11 (As := [.int 1, .int 4]) (rest := [.ref (q_ad E (n + 2)), .ref (q_ad E a0)]) hf (fun g9 h9 => c_X8_init l E h9) rfl hl rfl rfl rfl dX2_init_24 rfl rfl (fun g5 H locs hj hz hf => ?_)
  refine q_putF (v := .ref (n + 2)) C hin hj hz ff_X2_20 dX2_init_27 rfl rfl hf (fun g6 H9 locs hj hz9 hf => ?_)
  replace hz := hz9.trans hz
  refine lv_aload_n hx hb dX2_init_30 rfl (lv_at hl 0 rfl) ?_
  refine lv_iconst (v := 0) hx hb dX2_init_31 qi_0 ?_
  refine q_putG (v := .int 0) C hj hz fp_X2_23 dX2_init_32 rfl rfl hf (fun g7 H9 locs hj hz9 hf => ?_)
  replace hz := hz9.trans hz
  refine lv_aload_n hx hb dX2_init_35 rfl (lv_at hl 0 rfl) ?_
  refine lv_iconst (v := -1) hx hb dX2_init_36 qi_m1 ?_
  refine q_putG (v := .int (-1)) C hj hz fp_X2_27 dX2_init_37 rfl rfl hf (fun g8 H9 locs hj hz9 hf => ?_)
  replace hz := hz9.trans hz
  exact q_vretA C hj hz dX2_init_40 hf
def f_X10_init (g : qS) (n : Nat) (a0 : Nat) : Option qS := (n_O g (n + 0) 5 [.null, .int 0, .null, .null, .null, .int 0, .int 0, .int 0, .int 0, .int 0, .long 0, .int 0, .int 0, .int 0, .int 0]).bind fun g1 => (f_X6_init g1 (n + 1) (n + 0)).bind fun g2 => (p_N g2 a0 9 0 (.ref (n + 0))).bind fun g3 => (n_O g3 (n + 26) 6 [.null]).bind fun g4 => (f_X7_init g4 (n + 27) (n + 26)).bind fun g5 => (p_N g5 a0 9 1 (.ref (n + 26))).bind fun g6 => (n_O g6 (n + 29) 3 [.null, .null, .int 0, .int 0, .int 0]).bind fun g7 => (f_X4_init g7 (n + 30) (n + 29)).bind fun g8 => (p_N g8 a0 9 2 (.ref (n + 29))).bind fun g9 => (n_O g9 (n + 34) 4 [.null, .null, .int 0]).bind fun g10 => (f_X5_init g10 (n + 35) (n + 34)).bind fun g11 => (p_N g11 a0 9 3 (.ref (n + 34))).bind fun g12 => (n_O g12 (n + 40) 0 [.null, .int 0, .int 0]).bind fun g13 => (f_X0_init g13 (n + 41) (n + 40)).bind fun g14 => (p_N g14 a0 9 4 (.ref (n + 40))).bind fun g15 => (n_O g15 (n + 43) 8 [.null, .null, .int 0, .int 0]).bind fun g16 => (f_X9_init g16 (n + 44) (n + 43)).bind fun g17 => (p_N g17 a0 9 5 (.ref (n + 43))).bind fun g18 => (n_O g18 (n + 48) 1 [.null, .null, .int 0, .int 0]).bind fun g19 => (f_X2_init g19 (n + 49) (n + 48)).bind fun g20 => (p_N g20 a0 9 6 (.ref (n + 48))).bind fun g21 => (p_N g21 a0 9 7 (.int 0)).bind fun g22 => (n_O g22 (n + 53) 2 [.null, .null, .null, .null, .null, .null, .null, .null, .null, .null]).bind fun g23 => (f_X3_init g23 (n + 54) (n + 53)).bind fun g24 => (p_N g24 a0 9 8 (.ref (n + 53))).bind fun g25 => some g25
set_option maxHeartbeats 4000000 in
set_option maxRecDepth 100000 in
theorem c_X10_init (l : Launch) (E : qV) {g : qS} {n : Nat} {a0 : Nat} {res : qS} (hf : f_X10_init g n a0 = some res) : q_MA l yX10_init cX10_init 1 4 86 74 10465 E [.ref (q_ad E a0)] g n res := by
  unfold f_X10_init at hf
  refine q_ofA (by decide) rfl rfl ?_
  intro p e s m args below meth c ls C hin hj har hl
  have hx := C.1
  have hb := C.2.1
  have C : q_C E p s m args meth c cX10_init RX10 1 none := C
  have hl : lv_has ls 1 [(0, .ref (q_ad E a0))] := hl
  have hz : s.heap.size = s.heap.size + 0 := rfl
  refine lv_aload_n hx hb dX10_init_0 rfl (lv_at hl 0 rfl) ?_
  refine q_oi C oi_X10_1 hl rfl dX10_init_1 ?_
  refine lv_aload_n hx hb dX10_init_4 rfl (lv_at hl 0 rfl) ?_
  refine q_newO (k := 0) C hj hz har rfl nw_X10_7 rfl rfl dX10_init_5 hf (fun g1 H hj hz hf => ?_)
  refine lv_dup hx hb dX10_init_8 rfl ?_
  refine q_cI (k := 1) C hj hz har rfl cn_X10_9 (As := []) (rest := [.ref (q_ad E (n + 0)), .ref (q_ad E a0)]) hf (fun g9 h9 => c_X6_init l E h9) rfl hl rfl rfl rfl dX10_init_9 rfl rfl (fun g2 H locs hj hz hf => ?_)
  refine q_putF (v := .ref (n + 0)) C hin hj hz ff_X10_10 dX10_init_12 rfl rfl hf (fun g3 H9 locs hj hz9 hf => ?_)
  replace hz := hz9.trans hz
  refine lv_aload_n hx hb dX10_init_15 rfl (lv_at hl 0 rfl) ?_
  refine q_newO (k := 26) C hj hz har rfl nw_X10_16 rfl rfl dX10_init_16 hf (fun g4 H hj hz hf => ?_)
  refine lv_dup hx hb dX10_init_19 rfl ?_
  refine q_cI (k := 27) C hj hz har rfl cn_X10_18 (As := []) (rest := [.ref (q_ad E (n + 26)), .ref (q_ad E a0)]) hf (fun g9 h9 => c_X7_init l E h9) rfl hl rfl rfl rfl dX10_init_20 rfl rfl (fun g5 H locs hj hz hf => ?_)
  refine q_putF (v := .ref (n + 26)) C hin hj hz ff_X10_19 dX10_init_23 rfl rfl hf (fun g6 H9 locs hj hz9 hf => ?_)
  replace hz := hz9.trans hz
  refine lv_aload_n hx hb dX10_init_26 rfl (lv_at hl 0 rfl) ?_
  refine q_newO (k := 29) C hj hz har rfl nw_X10_23 rfl rfl dX10_init_27 hf (fun g7 H hj hz hf => ?_)
  refine lv_dup hx hb dX10_init_30 rfl ?_
  refine q_cI (k := 30) C hj hz har rfl cn_X10_25 (As := []) (rest := [.ref (q_ad E (n + 29)), .ref (q_ad E a0)]) hf (fun g9 h9 => c_X4_init l E h9) rfl hl rfl rfl rfl dX10_init_31 rfl rfl (fun g8 H locs hj hz hf => ?_)
  refine q_putF (v := .ref (n + 29)) C hin hj hz ff_X10_26 dX10_init_34 rfl rfl hf (fun g9 H9 locs hj hz9 hf => ?_)
  replace hz := hz9.trans hz
  refine lv_aload_n hx hb dX10_init_37 rfl (lv_at hl 0 rfl) ?_
  refine q_newO (k := 34) C hj hz har rfl nw_X10_30 rfl rfl dX10_init_38 hf (fun g10 H hj hz hf => ?_)
  refine lv_dup hx hb dX10_init_41 rfl ?_
  refine q_cI (k := 35) C hj hz har rfl cn_X10_32 (As := []) (rest := [.ref (q_ad E (n + 34)), .ref (q_ad E a0)]) hf (fun g9 h9 => c_X5_init l E h9) rfl hl rfl rfl rfl dX10_init_42 rfl rfl (fun g11 H locs hj hz hf => ?_)
  refine q_putF (v := .ref (n + 34)) C hin hj hz ff_X10_33 dX10_init_45 rfl rfl hf (fun g12 H9 locs hj hz9 hf => ?_)
  replace hz := hz9.trans hz
  refine lv_aload_n hx hb dX10_init_48 rfl (lv_at hl 0 rfl) ?_
  refine q_newO (k := 40) C hj hz har rfl nw_X10_37 rfl rfl dX10_init_49 hf (fun g13 H hj hz hf => ?_)
  refine lv_dup hx hb dX10_init_52 rfl ?_
  refine q_cI (k := 41) C hj hz har rfl cn_X10_39 (As := []) (rest := [.ref (q_ad E (n + 40)), .ref (q_ad E a0)]) hf (fun g9 h9 => c_X0_init l E h9) rfl hl rfl rfl rfl dX10_init_53 rfl rfl (fun g14 H locs hj hz hf => ?_)
  refine q_putF (v := .ref (n + 40)) C hin hj hz ff_X10_40 dX10_init_56 rfl rfl hf (fun g15 H9 locs hj hz9 hf => ?_)
  replace hz := hz9.trans hz
  refine lv_aload_n hx hb dX10_init_59 rfl (lv_at hl 0 rfl) ?_
  refine q_newO (k := 43) C hj hz har rfl nw_X10_44 rfl rfl dX10_init_60 hf (fun g16 H hj hz hf => ?_)
  refine lv_dup hx hb dX10_init_63 rfl ?_
  refine q_cI (k := 44) C hj hz har rfl cn_X10_46 (As := []) (rest := [.ref (q_ad E (n + 43)), .ref (q_ad E a0)]) hf (fun g9 h9 => c_X9_init l E h9) rfl hl rfl rfl rfl dX10_init_64 rfl rfl (fun g17 H locs hj hz hf => ?_)
  refine q_putF (v := .ref (n + 43)) C hin hj hz ff_X10_47 dX10_init_67 rfl rfl hf (fun g18 H9 locs hj hz9 hf => ?_)
  replace hz := hz9.trans hz
  refine lv_aload_n hx hb dX10_init_70 rfl (lv_at hl 0 rfl) ?_
  refine q_newO (k := 48) C hj hz har rfl nw_X10_51 rfl rfl dX10_init_71 hf (fun g19 H hj hz hf => ?_)
  refine lv_dup hx hb dX10_init_74 rfl ?_
  refine q_cI (k := 49) C hj hz har rfl cn_X10_53 (As := []) (rest := [.ref (q_ad E (n + 48)), .ref (q_ad E a0)]) hf (fun g9 h9 => c_X2_init l E h9) rfl hl rfl rfl rfl dX10_init_75 rfl rfl (fun g20 H locs hj hz hf => ?_)
  refine q_putF (v := .ref (n + 48)) C hin hj hz ff_X10_54 dX10_init_78 rfl rfl hf (fun g21 H9 locs hj hz9 hf => ?_)
  replace hz := hz9.trans hz
  refine lv_aload_n hx hb dX10_init_81 rfl (lv_at hl 0 rfl) ?_
  refine lv_iconst (v := 0) hx hb dX10_init_82 qi_0 ?_
  refine q_putG (v := .int 0) C hj hz fp_X10_58 dX10_init_83 rfl rfl hf (fun g22 H9 locs hj hz9 hf => ?_)
  replace hz := hz9.trans hz
  refine lv_aload_n hx hb dX10_init_86 rfl (lv_at hl 0 rfl) ?_
  refine q_newO (k := 53) C hj hz har rfl nw_X10_62 rfl rfl dX10_init_87 hf (fun g23 H hj hz hf => ?_)
  refine lv_dup hx hb dX10_init_90 rfl ?_
  refine q_cI (k := 54) C hj hz har rfl cn_X10_64 (As := []) (rest := [.ref (q_ad E (n + 53)), .ref (q_ad E a0)]) hf (fun g9 h9 => c_X3_init l E h9) rfl hl rfl rfl rfl dX10_init_91 rfl rfl (fun g24 H locs hj hz hf => ?_)
  refine q_putG (v := .ref (n + 53)) C hj hz fp_X10_65 dX10_init_94 rfl rfl hf (fun g25 H9 locs hj hz9 hf => ?_)
  replace hz := hz9.trans hz
  exact q_vretA C hj hz dX10_init_97 hf
def f_X12_init (g : qS) (n : Nat) (a0 : Nat) : Option qS := (p_N g a0 11 2 (.int (-1))).bind fun g1 => (n_K 0 1000 g1 (n + 0) 1000).bind fun g2 => (p_N g2 a0 11 5 (.ref (n + 0))).bind fun g3 => (n_K 1 16 g3 (n + 1) 16).bind fun g4 => (p_N g4 a0 11 15 (.ref (n + 1))).bind fun g5 => (n_K 1 16 g5 (n + 2) 16).bind fun g6 => (p_N g6 a0 11 16 (.ref (n + 2))).bind fun g7 => (n_K 1 256 g7 (n + 3) 256).bind fun g8 => (p_N g8 a0 11 17 (.ref (n + 3))).bind fun g9 => (n_K 1 48 g9 (n + 4) 48).bind fun g10 => (p_N g10 a0 11 18 (.ref (n + 4))).bind fun g11 => (n_K 1 12 g11 (n + 5) 12).bind fun g12 => (p_N g12 a0 11 21 (.ref (n + 5))).bind fun g13 => (n_K 1 4 g13 (n + 6) 4).bind fun g14 => (p_N g14 a0 11 22 (.ref (n + 6))).bind fun g15 => (n_K 1 4 g15 (n + 7) 4).bind fun g16 => (p_N g16 a0 11 23 (.ref (n + 7))).bind fun g17 => (n_K 1 4 g17 (n + 8) 4).bind fun g18 => (p_N g18 a0 11 25 (.ref (n + 8))).bind fun g19 => (n_K 1 5 g19 (n + 9) 5).bind fun g20 => (p_N g20 a0 11 29 (.ref (n + 9))).bind fun g21 => (n_K 1 5 g21 (n + 10) 5).bind fun g22 => (p_N g22 a0 11 30 (.ref (n + 10))).bind fun g23 => some g23
set_option maxHeartbeats 4000000 in
set_option maxRecDepth 100000 in
theorem c_X12_init (l : Launch) (E : qV) {g : qS} {n : Nat} {a0 : Nat} {res : qS} (hf : f_X12_init g n a0 = some res) : q_MA l yX12_init cX12_init 1 1 24 11 1370 E [.ref (q_ad E a0)] g n res := by
  unfold f_X12_init at hf
  refine q_ofA (by decide) rfl rfl ?_
  intro p e s m args below meth c ls C hin hj har hl
  have hx := C.1
  have hb := C.2.1
  have C : q_C E p s m args meth c cX12_init RX12 1 none := C
  have hl : lv_has ls 1 [(0, .ref (q_ad E a0))] := hl
  have hz : s.heap.size = s.heap.size + 0 := rfl
  refine lv_aload_n hx hb dX12_init_0 rfl (lv_at hl 0 rfl) ?_
  refine q_oi C oi_X12_3 hl rfl dX12_init_1 ?_
  refine lv_aload_n hx hb dX12_init_4 rfl (lv_at hl 0 rfl) ?_
  refine lv_iconst (v := -1) hx hb dX12_init_5 qi_m1 ?_
  refine q_putG (v := .int (-1)) C hj hz fp_X12_9 dX12_init_6 rfl rfl hf (fun g1 H9 locs hj hz9 hf => ?_)
  replace hz := hz9.trans hz
  refine lv_aload_n hx hb dX12_init_9 rfl (lv_at hl 0 rfl) ?_
  refine lv_sipush (v := 1000) hx hb dX12_init_10 (by decide) ?_
  refine q_newB (k := 0) C hj hz har rfl rfl rfl rfl dX12_init_13 hf (fun g2 H hj hz hf => ?_)
  refine q_putF (v := .ref (n + 0)) C hin hj hz ff_X12_13 dX12_init_15 rfl rfl hf (fun g3 H9 locs hj hz9 hf => ?_)
  replace hz := hz9.trans hz
  refine lv_aload_n hx hb dX12_init_18 rfl (lv_at hl 0 rfl) ?_
  refine lv_bipush (v := 16) hx hb dX12_init_19 (by decide) ?_
  refine q_newI (k := 1) C hj hz har rfl rfl rfl rfl dX12_init_21 hf (fun g4 H hj hz hf => ?_)
  refine q_putF (v := .ref (n + 1)) C hin hj hz ff_X12_17 dX12_init_23 rfl rfl hf (fun g5 H9 locs hj hz9 hf => ?_)
  replace hz := hz9.trans hz
  refine lv_aload_n hx hb dX12_init_26 rfl (lv_at hl 0 rfl) ?_
  refine lv_bipush (v := 16) hx hb dX12_init_27 (by decide) ?_
  refine q_newI (k := 2) C hj hz har rfl rfl rfl rfl dX12_init_29 hf (fun g6 H hj hz hf => ?_)
  refine q_putF (v := .ref (n + 2)) C hin hj hz ff_X12_21 dX12_init_31 rfl rfl hf (fun g7 H9 locs hj hz9 hf => ?_)
  replace hz := hz9.trans hz
  refine lv_aload_n hx hb dX12_init_34 rfl (lv_at hl 0 rfl) ?_
  refine lv_sipush (v := 256) hx hb dX12_init_35 (by decide) ?_
  refine q_newI (k := 3) C hj hz har rfl rfl rfl rfl dX12_init_38 hf (fun g8 H hj hz hf => ?_)
  refine q_putF (v := .ref (n + 3)) C hin hj hz ff_X12_24 dX12_init_40 rfl rfl hf (fun g9 H9 locs hj hz9 hf => ?_)
  replace hz := hz9.trans hz
  refine lv_aload_n hx hb dX12_init_43 rfl (lv_at hl 0 rfl) ?_
  refine lv_bipush (v := 48) hx hb dX12_init_44 (by decide) ?_
  refine q_newI (k := 4) C hj hz har rfl rfl rfl rfl dX12_init_46 hf (fun g10 H hj hz hf => ?_)
  refine q_putF (v := .ref (n + 4)) C hin hj hz ff_X12_27 dX12_init_48 rfl rfl hf (fun g11 H9 locs hj hz9 hf => ?_)
  replace hz := hz9.trans hz
  refine lv_aload_n hx hb dX12_init_51 rfl (lv_at hl 0 rfl) ?_
  refine lv_bipush (v := 12) hx hb dX12_init_52 (by decide) ?_
  refine q_newI (k := 5) C hj hz har rfl rfl rfl rfl dX12_init_54 hf (fun g12 H hj hz hf => ?_)
  refine q_putF (v := .ref (n + 5)) C hin hj hz ff_X12_30 dX12_init_56 rfl rfl hf (fun g13 H9 locs hj hz9 hf => ?_)
  replace hz := hz9.trans hz
  refine lv_aload_n hx hb dX12_init_59 rfl (lv_at hl 0 rfl) ?_
  refine lv_iconst (v := 4) hx hb dX12_init_60 qi_4 ?_
  refine q_newI (k := 6) C hj hz har rfl rfl rfl rfl dX12_init_61 hf (fun g14 H hj hz hf => ?_)
  refine q_putF (v := .ref (n + 6)) C hin hj hz ff_X12_33 dX12_init_63 rfl rfl hf (fun g15 H9 locs hj hz9 hf => ?_)
  replace hz := hz9.trans hz
  refine lv_aload_n hx hb dX12_init_66 rfl (lv_at hl 0 rfl) ?_
  refine lv_iconst (v := 4) hx hb dX12_init_67 qi_4 ?_
  refine q_newI (k := 7) C hj hz har rfl rfl rfl rfl dX12_init_68 hf (fun g16 H hj hz hf => ?_)
  refine q_putF (v := .ref (n + 7)) C hin hj hz ff_X12_36 dX12_init_70 rfl rfl hf (fun g17 H9 locs hj hz9 hf => ?_)
  replace hz := hz9.trans hz
  refine lv_aload_n hx hb dX12_init_73 rfl (lv_at hl 0 rfl) ?_
  refine lv_iconst (v := 4) hx hb dX12_init_74 qi_4 ?_
  refine q_newI (k := 8) C hj hz har rfl rfl rfl rfl dX12_init_75 hf (fun g18 H hj hz hf => ?_)
  refine q_putF (v := .ref (n + 8)) C hin hj hz ff_X12_39 dX12_init_77 rfl rfl hf (fun g19 H9 locs hj hz9 hf => ?_)
  replace hz := hz9.trans hz
  refine lv_aload_n hx hb dX12_init_80 rfl (lv_at hl 0 rfl) ?_
  refine lv_iconst (v := 5) hx hb dX12_init_81 qi_5 ?_
  refine q_newI (k := 9) C hj hz har rfl rfl rfl rfl dX12_init_82 hf (fun g20 H hj hz hf => ?_)
  refine q_putF (v := .ref (n + 9)) C hin hj hz ff_X12_42 dX12_init_84 rfl rfl hf (fun g21 H9 locs hj hz9 hf => ?_)
  replace hz := hz9.trans hz
  refine lv_aload_n hx hb dX12_init_87 rfl (lv_at hl 0 rfl) ?_
  refine lv_iconst (v := 5) hx hb dX12_init_88 qi_5 ?_
  refine q_newI (k := 10) C hj hz har rfl rfl rfl rfl dX12_init_89 hf (fun g22 H hj hz hf => ?_)
  refine q_putF (v := .ref (n + 10)) C hin hj hz ff_X12_45 dX12_init_91 rfl rfl hf (fun g23 H9 locs hj hz9 hf => ?_)
  replace hz := hz9.trans hz
  exact q_vretA C hj hz dX12_init_94 hf
def f_X11_init (g : qS) (n : Nat) (a0 : Nat) : Option qS := (n_K 1 4 g (n + 0) 4).bind fun g1 => (p_N g1 a0 10 11 (.ref (n + 0))).bind fun g2 => (n_K 1 4 g2 (n + 1) 4).bind fun g3 => (p_N g3 a0 10 12 (.ref (n + 1))).bind fun g4 => (n_K 1 4 g4 (n + 2) 4).bind fun g5 => (p_N g5 a0 10 13 (.ref (n + 2))).bind fun g6 => (n_K 1 4 g6 (n + 3) 4).bind fun g7 => (p_N g7 a0 10 14 (.ref (n + 3))).bind fun g8 => (n_K 1 5 g8 (n + 4) 5).bind fun g9 => (p_N g9 a0 10 15 (.ref (n + 4))).bind fun g10 => (n_K 1 5 g10 (n + 5) 5).bind fun g11 => (p_N g11 a0 10 16 (.ref (n + 5))).bind fun g12 => (n_K 1 5 g12 (n + 6) 5).bind fun g13 => (p_N g13 a0 10 17 (.ref (n + 6))).bind fun g14 => (n_K 1 35 g14 (n + 7) 35).bind fun g15 => (p_N g15 a0 10 18 (.ref (n + 7))).bind fun g16 => (n_K 1 4 g16 (n + 8) 4).bind fun g17 => (p_N g17 a0 10 19 (.ref (n + 8))).bind fun g18 => (n_K 1 4 g18 (n + 9) 4).bind fun g19 => (p_N g19 a0 10 20 (.ref (n + 9))).bind fun g20 => (n_K 1 3 g20 (n + 10) 3).bind fun g21 => (p_N g21 a0 10 21 (.ref (n + 10))).bind fun g22 => (n_K 1 21 g22 (n + 11) 21).bind fun g23 => (p_N g23 a0 10 22 (.ref (n + 11))).bind fun g24 => (n_K 1 12 g24 (n + 12) 12).bind fun g25 => (p_N g25 a0 10 23 (.ref (n + 12))).bind fun g26 => (n_K 1 12 g26 (n + 13) 12).bind fun g27 => (p_N g27 a0 10 24 (.ref (n + 13))).bind fun g28 => (n_K 1 12 g28 (n + 14) 12).bind fun g29 => (p_N g29 a0 10 25 (.ref (n + 14))).bind fun g30 => (n_K 1 12 g30 (n + 15) 12).bind fun g31 => (p_N g31 a0 10 26 (.ref (n + 15))).bind fun g32 => (n_K 1 8 g32 (n + 16) 8).bind fun g33 => (p_N g33 a0 10 27 (.ref (n + 16))).bind fun g34 => (n_K 1 8 g34 (n + 17) 8).bind fun g35 => (p_N g35 a0 10 28 (.ref (n + 17))).bind fun g36 => (n_K 1 8 g36 (n + 18) 8).bind fun g37 => (p_N g37 a0 10 29 (.ref (n + 18))).bind fun g38 => (n_K 1 8 g38 (n + 19) 8).bind fun g39 => (p_N g39 a0 10 30 (.ref (n + 19))).bind fun g40 => (n_K 3 8 g40 (n + 20) 8).bind fun g41 => (p_N g41 a0 10 31 (.ref (n + 20))).bind fun g42 => (n_L 16 g42 (n + 21) 16).bind fun g43 => (p_N g43 a0 10 32 (.ref (n + 21))).bind fun g44 => (n_K 1 16 g44 (n + 22) 16).bind fun g45 => (p_N g45 a0 10 33 (.ref (n + 22))).bind fun g46 => (n_K 1 16 g46 (n + 23) 16).bind fun g47 => (p_N g47 a0 10 34 (.ref (n + 23))).bind fun g48 => some g48
set_option maxHeartbeats 4000000 in
set_option maxRecDepth 100000 in
theorem c_X11_init (l : Launch) (E : qV) {g : qS} {n : Nat} {a0 : Nat} {res : qS} (hf : f_X11_init g n a0 = some res) : q_MA l yX11_init cX11_init 1 1 24 24 234 E [.ref (q_ad E a0)] g n res := by
  unfold f_X11_init at hf
  refine q_ofA (by decide) rfl rfl ?_
  intro p e s m args below meth c ls C hin hj har hl
  have hx := C.1
  have hb := C.2.1
  have C : q_C E p s m args meth c cX11_init RX11 1 none := C
  have hl : lv_has ls 1 [(0, .ref (q_ad E a0))] := hl
  have hz : s.heap.size = s.heap.size + 0 := rfl
  refine lv_aload_n hx hb dX11_init_0 rfl (lv_at hl 0 rfl) ?_
  refine q_oi C oi_X11_3 hl rfl dX11_init_1 ?_
  refine lv_aload_n hx hb dX11_init_4 rfl (lv_at hl 0 rfl) ?_
  refine lv_iconst (v := 4) hx hb dX11_init_5 qi_4 ?_
  refine q_newI (k := 0) C hj hz har rfl rfl rfl rfl dX11_init_6 hf (fun g1 H hj hz hf => ?_)
  refine q_putF (v := .ref (n + 0)) C hin hj hz ff_X11_9 dX11_init_8 rfl rfl hf (fun g2 H9 locs hj hz9 hf => ?_)
  replace hz := hz9.trans hz
  refine lv_aload_n hx hb dX11_init_11 rfl (lv_at hl 0 rfl) ?_
  refine lv_iconst (v := 4) hx hb dX11_init_12 qi_4 ?_
  refine q_newI (k := 1) C hj hz har rfl rfl rfl rfl dX11_init_13 hf (fun g3 H hj hz hf => ?_)
  refine q_putF (v := .ref (n + 1)) C hin hj hz ff_X11_15 dX11_init_15 rfl rfl hf (fun g4 H9 locs hj hz9 hf => ?_)
  replace hz := hz9.trans hz
  refine lv_aload_n hx hb dX11_init_18 rfl (lv_at hl 0 rfl) ?_
  refine lv_iconst (v := 4) hx hb dX11_init_19 qi_4 ?_
  refine q_newI (k := 2) C hj hz har rfl rfl rfl rfl dX11_init_20 hf (fun g5 H hj hz hf => ?_)
  refine q_putF (v := .ref (n + 2)) C hin hj hz ff_X11_18 dX11_init_22 rfl rfl hf (fun g6 H9 locs hj hz9 hf => ?_)
  replace hz := hz9.trans hz
  refine lv_aload_n hx hb dX11_init_25 rfl (lv_at hl 0 rfl) ?_
  refine lv_iconst (v := 4) hx hb dX11_init_26 qi_4 ?_
  refine q_newI (k := 3) C hj hz har rfl rfl rfl rfl dX11_init_27 hf (fun g7 H hj hz hf => ?_)
  refine q_putF (v := .ref (n + 3)) C hin hj hz ff_X11_21 dX11_init_29 rfl rfl hf (fun g8 H9 locs hj hz9 hf => ?_)
  replace hz := hz9.trans hz
  refine lv_aload_n hx hb dX11_init_32 rfl (lv_at hl 0 rfl) ?_
  refine lv_iconst (v := 5) hx hb dX11_init_33 qi_5 ?_
  refine q_newI (k := 4) C hj hz har rfl rfl rfl rfl dX11_init_34 hf (fun g9 H hj hz hf => ?_)
  refine q_putF (v := .ref (n + 4)) C hin hj hz ff_X11_24 dX11_init_36 rfl rfl hf (fun g10 H9 locs hj hz9 hf => ?_)
  replace hz := hz9.trans hz
  refine lv_aload_n hx hb dX11_init_39 rfl (lv_at hl 0 rfl) ?_
  refine lv_iconst (v := 5) hx hb dX11_init_40 qi_5 ?_
  refine q_newI (k := 5) C hj hz har rfl rfl rfl rfl dX11_init_41 hf (fun g11 H hj hz hf => ?_)
  refine q_putF (v := .ref (n + 5)) C hin hj hz ff_X11_27 dX11_init_43 rfl rfl hf (fun g12 H9 locs hj hz9 hf => ?_)
  replace hz := hz9.trans hz
  refine lv_aload_n hx hb dX11_init_46 rfl (lv_at hl 0 rfl) ?_
  refine lv_iconst (v := 5) hx hb dX11_init_47 qi_5 ?_
  refine q_newI (k := 6) C hj hz har rfl rfl rfl rfl dX11_init_48 hf (fun g13 H hj hz hf => ?_)
  refine q_putF (v := .ref (n + 6)) C hin hj hz ff_X11_30 dX11_init_50 rfl rfl hf (fun g14 H9 locs hj hz9 hf => ?_)
  replace hz := hz9.trans hz
  refine lv_aload_n hx hb dX11_init_53 rfl (lv_at hl 0 rfl) ?_
  refine lv_bipush (v := 35) hx hb dX11_init_54 (by decide) ?_
  refine q_newI (k := 7) C hj hz har rfl rfl rfl rfl dX11_init_56 hf (fun g15 H hj hz hf => ?_)
  refine q_putF (v := .ref (n + 7)) C hin hj hz ff_X11_33 dX11_init_58 rfl rfl hf (fun g16 H9 locs hj hz9 hf => ?_)
  replace hz := hz9.trans hz
  refine lv_aload_n hx hb dX11_init_61 rfl (lv_at hl 0 rfl) ?_
  refine lv_iconst (v := 4) hx hb dX11_init_62 qi_4 ?_
  refine q_newI (k := 8) C hj hz har rfl rfl rfl rfl dX11_init_63 hf (fun g17 H hj hz hf => ?_)
  refine q_putF (v := .ref (n + 8)) C hin hj hz ff_X11_36 dX11_init_65 rfl rfl hf (fun g18 H9 locs hj hz9 hf => ?_)
  replace hz := hz9.trans hz
  refine lv_aload_n hx hb dX11_init_68 rfl (lv_at hl 0 rfl) ?_
  refine lv_iconst (v := 4) hx hb dX11_init_69 qi_4 ?_
  refine q_newI (k := 9) C hj hz har rfl rfl rfl rfl dX11_init_70 hf (fun g19 H hj hz hf => ?_)
  refine q_putF (v := .ref (n + 9)) C hin hj hz ff_X11_39 dX11_init_72 rfl rfl hf (fun g20 H9 locs hj hz9 hf => ?_)
  replace hz := hz9.trans hz
  refine lv_aload_n hx hb dX11_init_75 rfl (lv_at hl 0 rfl) ?_
  refine lv_iconst (v := 3) hx hb dX11_init_76 qi_3 ?_
  refine q_newI (k := 10) C hj hz har rfl rfl rfl rfl dX11_init_77 hf (fun g21 H hj hz hf => ?_)
  refine q_putF (v := .ref (n + 10)) C hin hj hz ff_X11_42 dX11_init_79 rfl rfl hf (fun g22 H9 locs hj hz9 hf => ?_)
  replace hz := hz9.trans hz
  refine lv_aload_n hx hb dX11_init_82 rfl (lv_at hl 0 rfl) ?_
  refine lv_bipush (v := 21) hx hb dX11_init_83 (by decide) ?_
  refine q_newI (k := 11) C hj hz har rfl rfl rfl rfl dX11_init_85 hf (fun g23 H hj hz hf => ?_)
  refine q_putF (v := .ref (n + 11)) C hin hj hz ff_X11_45 dX11_init_87 rfl rfl hf (fun g24 H9 locs hj hz9 hf => ?_)
  replace hz := hz9.trans hz
  refine lv_aload_n hx hb dX11_init_90 rfl (lv_at hl 0 rfl) ?_
  refine lv_bipush (v := 12) hx hb dX11_init_91 (by decide) ?_
  refine q_newI (k := 12) C hj hz har rfl rfl rfl rfl dX11_init_93 hf (fun g25 H hj hz hf => ?_)
  refine q_putF (v := .ref (n + 12)) C hin hj hz ff_X11_48 dX11_init_95 rfl rfl hf (fun g26 H9 locs hj hz9 hf => ?_)
  replace hz := hz9.trans hz
  refine lv_aload_n hx hb dX11_init_98 rfl (lv_at hl 0 rfl) ?_
  refine lv_bipush (v := 12) hx hb dX11_init_99 (by decide) ?_
  refine q_newI (k := 13) C hj hz har rfl rfl rfl rfl dX11_init_101 hf (fun g27 H hj hz hf => ?_)
  refine q_putF (v := .ref (n + 13)) C hin hj hz ff_X11_51 dX11_init_103 rfl rfl hf (fun g28 H9 locs hj hz9 hf => ?_)
  replace hz := hz9.trans hz
  refine lv_aload_n hx hb dX11_init_106 rfl (lv_at hl 0 rfl) ?_
  refine lv_bipush (v := 12) hx hb dX11_init_107 (by decide) ?_
  refine q_newI (k := 14) C hj hz har rfl rfl rfl rfl dX11_init_109 hf (fun g29 H hj hz hf => ?_)
  refine q_putF (v := .ref (n + 14)) C hin hj hz ff_X11_54 dX11_init_111 rfl rfl hf (fun g30 H9 locs hj hz9 hf => ?_)
  replace hz := hz9.trans hz
  refine lv_aload_n hx hb dX11_init_114 rfl (lv_at hl 0 rfl) ?_
  refine lv_bipush (v := 12) hx hb dX11_init_115 (by decide) ?_
  refine q_newI (k := 15) C hj hz har rfl rfl rfl rfl dX11_init_117 hf (fun g31 H hj hz hf => ?_)
  refine q_putF (v := .ref (n + 15)) C hin hj hz ff_X11_57 dX11_init_119 rfl rfl hf (fun g32 H9 locs hj hz9 hf => ?_)
  replace hz := hz9.trans hz
  refine lv_aload_n hx hb dX11_init_122 rfl (lv_at hl 0 rfl) ?_
  refine lv_bipush (v := 8) hx hb dX11_init_123 (by decide) ?_
  refine q_newI (k := 16) C hj hz har rfl rfl rfl rfl dX11_init_125 hf (fun g33 H hj hz hf => ?_)
  refine q_putF (v := .ref (n + 16)) C hin hj hz ff_X11_60 dX11_init_127 rfl rfl hf (fun g34 H9 locs hj hz9 hf => ?_)
  replace hz := hz9.trans hz
  refine lv_aload_n hx hb dX11_init_130 rfl (lv_at hl 0 rfl) ?_
  refine lv_bipush (v := 8) hx hb dX11_init_131 (by decide) ?_
  refine q_newI (k := 17) C hj hz har rfl rfl rfl rfl dX11_init_133 hf (fun g35 H hj hz hf => ?_)
  refine q_putF (v := .ref (n + 17)) C hin hj hz ff_X11_63 dX11_init_135 rfl rfl hf (fun g36 H9 locs hj hz9 hf => ?_)
  replace hz := hz9.trans hz
  refine lv_aload_n hx hb dX11_init_138 rfl (lv_at hl 0 rfl) ?_
  refine lv_bipush (v := 8) hx hb dX11_init_139 (by decide) ?_
  refine q_newI (k := 18) C hj hz har rfl rfl rfl rfl dX11_init_141 hf (fun g37 H hj hz hf => ?_)
  refine q_putF (v := .ref (n + 18)) C hin hj hz ff_X11_66 dX11_init_143 rfl rfl hf (fun g38 H9 locs hj hz9 hf => ?_)
  replace hz := hz9.trans hz
  refine lv_aload_n hx hb dX11_init_146 rfl (lv_at hl 0 rfl) ?_
  refine lv_bipush (v := 8) hx hb dX11_init_147 (by decide) ?_
  refine q_newI (k := 19) C hj hz har rfl rfl rfl rfl dX11_init_149 hf (fun g39 H hj hz hf => ?_)
  refine q_putF (v := .ref (n + 19)) C hin hj hz ff_X11_69 dX11_init_151 rfl rfl hf (fun g40 H9 locs hj hz9 hf => ?_)
  replace hz := hz9.trans hz
  refine lv_aload_n hx hb dX11_init_154 rfl (lv_at hl 0 rfl) ?_
  refine lv_bipush (v := 8) hx hb dX11_init_155 (by decide) ?_
  refine q_newZ (k := 20) C hj hz har rfl rfl rfl rfl dX11_init_157 hf (fun g41 H hj hz hf => ?_)
  refine q_putF (v := .ref (n + 20)) C hin hj hz ff_X11_72 dX11_init_159 rfl rfl hf (fun g42 H9 locs hj hz9 hf => ?_)
  replace hz := hz9.trans hz
  refine lv_aload_n hx hb dX11_init_162 rfl (lv_at hl 0 rfl) ?_
  refine lv_bipush (v := 16) hx hb dX11_init_163 (by decide) ?_
  refine q_newJ (k := 21) C hj hz har rfl rfl rfl rfl dX11_init_165 hf (fun g43 H hj hz hf => ?_)
  refine q_putF (v := .ref (n + 21)) C hin hj hz ff_X11_76 dX11_init_167 rfl rfl hf (fun g44 H9 locs hj hz9 hf => ?_)
  replace hz := hz9.trans hz
  refine lv_aload_n hx hb dX11_init_170 rfl (lv_at hl 0 rfl) ?_
  refine lv_bipush (v := 16) hx hb dX11_init_171 (by decide) ?_
  refine q_newI (k := 22) C hj hz har rfl rfl rfl rfl dX11_init_173 hf (fun g45 H hj hz hf => ?_)
  refine q_putF (v := .ref (n + 22)) C hin hj hz ff_X11_80 dX11_init_175 rfl rfl hf (fun g46 H9 locs hj hz9 hf => ?_)
  replace hz := hz9.trans hz
  refine lv_aload_n hx hb dX11_init_178 rfl (lv_at hl 0 rfl) ?_
  refine lv_bipush (v := 16) hx hb dX11_init_179 (by decide) ?_
  refine q_newI (k := 23) C hj hz har rfl rfl rfl rfl dX11_init_181 hf (fun g47 H hj hz hf => ?_)
  refine q_putF (v := .ref (n + 23)) C hin hj hz ff_X11_83 dX11_init_183 rfl rfl hf (fun g48 H9 locs hj hz9 hf => ?_)
  replace hz := hz9.trans hz
  exact q_vretA C hj hz dX11_init_186 hf
