section FLD
variable {T D m k : Nat} {c3 c4 : sF} {u : mU} {v : mV} {x : Int32} {y : Int64}
theorem wS_0 : SH T D c3 c4 m 0 = some (hO 9 [fR 1, fR 27, fR 30, fR 35, fR 41, fR 44, fR 49, fI, fR T]) := rfl
theorem gC_0 : g_C (Rep (SH T D c3 c4 m) u v) 0 9 = some () := Rep_gC wS_0
theorem gR_0_0 : g_R (Rep (SH T D c3 c4 m) u v) 0 9 0 = some 1 := Rep_gR wS_0 rfl
theorem gR_0_1 : g_R (Rep (SH T D c3 c4 m) u v) 0 9 1 = some 27 := Rep_gR wS_0 rfl
theorem gR_0_2 : g_R (Rep (SH T D c3 c4 m) u v) 0 9 2 = some 30 := Rep_gR wS_0 rfl
theorem gR_0_3 : g_R (Rep (SH T D c3 c4 m) u v) 0 9 3 = some 35 := Rep_gR wS_0 rfl
theorem gR_0_4 : g_R (Rep (SH T D c3 c4 m) u v) 0 9 4 = some 41 := Rep_gR wS_0 rfl
theorem gR_0_5 : g_R (Rep (SH T D c3 c4 m) u v) 0 9 5 = some 44 := Rep_gR wS_0 rfl
theorem gR_0_6 : g_R (Rep (SH T D c3 c4 m) u v) 0 9 6 = some 49 := Rep_gR wS_0 rfl
theorem gI_0_7 : g_I (Rep (SH T D c3 c4 m) u v) 0 9 7 = some (u 0 7) := Rep_gI wS_0 rfl
theorem pI_0_7 : p_I (Rep (SH T D c3 c4 m) u v) 0 9 7 x = some (Rep (SH T D c3 c4 m) (wr u 0 7 x) v) := Rep_pI wS_0 rfl
theorem gR_0_8 : g_R (Rep (SH T D c3 c4 m) u v) 0 9 8 = some T := Rep_gR wS_0 rfl
theorem wS_1 : SH T D c3 c4 m 1 = some (hO 5 [fR 2, fI, fR D, fR 24, fR 25, fI, fI, fI, fI, fI, fL, fI, fI, fI, fI]) := rfl
theorem gC_1 : g_C (Rep (SH T D c3 c4 m) u v) 1 5 = some () := Rep_gC wS_1
theorem gR_1_0 : g_R (Rep (SH T D c3 c4 m) u v) 1 5 0 = some 2 := Rep_gR wS_1 rfl
theorem gI_1_1 : g_I (Rep (SH T D c3 c4 m) u v) 1 5 1 = some (u 1 1) := Rep_gI wS_1 rfl
theorem pI_1_1 : p_I (Rep (SH T D c3 c4 m) u v) 1 5 1 x = some (Rep (SH T D c3 c4 m) (wr u 1 1 x) v) := Rep_pI wS_1 rfl
theorem gR_1_2 : g_R (Rep (SH T D c3 c4 m) u v) 1 5 2 = some D := Rep_gR wS_1 rfl
theorem gR_1_3 : g_R (Rep (SH T D c3 c4 m) u v) 1 5 3 = some 24 := Rep_gR wS_1 rfl
theorem gR_1_4 : g_R (Rep (SH T D c3 c4 m) u v) 1 5 4 = some 25 := Rep_gR wS_1 rfl
theorem gI_1_5 : g_I (Rep (SH T D c3 c4 m) u v) 1 5 5 = some (u 1 5) := Rep_gI wS_1 rfl
theorem pI_1_5 : p_I (Rep (SH T D c3 c4 m) u v) 1 5 5 x = some (Rep (SH T D c3 c4 m) (wr u 1 5 x) v) := Rep_pI wS_1 rfl
theorem gI_1_6 : g_I (Rep (SH T D c3 c4 m) u v) 1 5 6 = some (u 1 6) := Rep_gI wS_1 rfl
theorem pI_1_6 : p_I (Rep (SH T D c3 c4 m) u v) 1 5 6 x = some (Rep (SH T D c3 c4 m) (wr u 1 6 x) v) := Rep_pI wS_1 rfl
theorem gI_1_7 : g_I (Rep (SH T D c3 c4 m) u v) 1 5 7 = some (u 1 7) := Rep_gI wS_1 rfl
theorem pI_1_7 : p_I (Rep (SH T D c3 c4 m) u v) 1 5 7 x = some (Rep (SH T D c3 c4 m) (wr u 1 7 x) v) := Rep_pI wS_1 rfl
theorem gI_1_8 : g_I (Rep (SH T D c3 c4 m) u v) 1 5 8 = some (u 1 8) := Rep_gI wS_1 rfl
theorem pI_1_8 : p_I (Rep (SH T D c3 c4 m) u v) 1 5 8 x = some (Rep (SH T D c3 c4 m) (wr u 1 8 x) v) := Rep_pI wS_1 rfl
theorem gI_1_9 : g_I (Rep (SH T D c3 c4 m) u v) 1 5 9 = some (u 1 9) := Rep_gI wS_1 rfl
theorem pI_1_9 : p_I (Rep (SH T D c3 c4 m) u v) 1 5 9 x = some (Rep (SH T D c3 c4 m) (wr u 1 9 x) v) := Rep_pI wS_1 rfl
theorem gL_1_10 : g_L (Rep (SH T D c3 c4 m) u v) 1 5 10 = some (v 1 10) := Rep_gL wS_1 rfl
theorem pL_1_10 : p_L (Rep (SH T D c3 c4 m) u v) 1 5 10 y = some (Rep (SH T D c3 c4 m) u (wrL v 1 10 y)) := Rep_pL wS_1 rfl
theorem gI_1_11 : g_I (Rep (SH T D c3 c4 m) u v) 1 5 11 = some (u 1 11) := Rep_gI wS_1 rfl
theorem pI_1_11 : p_I (Rep (SH T D c3 c4 m) u v) 1 5 11 x = some (Rep (SH T D c3 c4 m) (wr u 1 11 x) v) := Rep_pI wS_1 rfl
theorem gI_1_12 : g_I (Rep (SH T D c3 c4 m) u v) 1 5 12 = some (u 1 12) := Rep_gI wS_1 rfl
theorem pI_1_12 : p_I (Rep (SH T D c3 c4 m) u v) 1 5 12 x = some (Rep (SH T D c3 c4 m) (wr u 1 12 x) v) := Rep_pI wS_1 rfl
theorem gI_1_13 : g_I (Rep (SH T D c3 c4 m) u v) 1 5 13 = some (u 1 13) := Rep_gI wS_1 rfl
theorem pI_1_13 : p_I (Rep (SH T D c3 c4 m) u v) 1 5 13 x = some (Rep (SH T D c3 c4 m) (wr u 1 13 x) v) := Rep_pI wS_1 rfl
theorem gI_1_14 : g_I (Rep (SH T D c3 c4 m) u v) 1 5 14 = some (u 1 14) := Rep_gI wS_1 rfl
theorem pI_1_14 : p_I (Rep (SH T D c3 c4 m) u v) 1 5 14 x = some (Rep (SH T D c3 c4 m) (wr u 1 14 x) v) := Rep_pI wS_1 rfl
theorem wS_2 : SH T D c3 c4 m 2 = some (hA 0 1000) := rfl
theorem aB_2 (h : k < 1000) : a_B (Rep (SH T D c3 c4 m) u v) 2 (nI k) = some (u 2 k) := by rw [Rep_aB wS_2 (nI_in h (by decide)), nI_clamp (by omega)]
theorem sB_2 (h : k < 1000) : s_B (Rep (SH T D c3 c4 m) u v) 2 (nI k) x = some (Rep (SH T D c3 c4 m) (wr u 2 k (vp_nar .byte x)) v) := by rw [Rep_sB wS_2 (nI_in h (by decide)), nI_clamp (by omega)]
theorem an_2 : a_n (Rep (SH T D c3 c4 m) u v) 2 = some (nI 1000) := Rep_an wS_2 (by decide)
theorem wS_27 : SH T D c3 c4 m 27 = some (hO 6 [fR 28]) := rfl
theorem gC_27 : g_C (Rep (SH T D c3 c4 m) u v) 27 6 = some () := Rep_gC wS_27
theorem gR_27_0 : g_R (Rep (SH T D c3 c4 m) u v) 27 6 0 = some 28 := Rep_gR wS_27 rfl
theorem wS_30 : SH T D c3 c4 m 30 = some (hO 3 [fR 31, fR 33, fI, fI, fI]) := rfl
theorem gC_30 : g_C (Rep (SH T D c3 c4 m) u v) 30 3 = some () := Rep_gC wS_30
theorem gR_30_0 : g_R (Rep (SH T D c3 c4 m) u v) 30 3 0 = some 31 := Rep_gR wS_30 rfl
theorem gR_30_1 : g_R (Rep (SH T D c3 c4 m) u v) 30 3 1 = some 33 := Rep_gR wS_30 rfl
theorem gI_30_2 : g_I (Rep (SH T D c3 c4 m) u v) 30 3 2 = some (u 30 2) := Rep_gI wS_30 rfl
theorem pI_30_2 : p_I (Rep (SH T D c3 c4 m) u v) 30 3 2 x = some (Rep (SH T D c3 c4 m) (wr u 30 2 x) v) := Rep_pI wS_30 rfl
theorem gI_30_3 : g_I (Rep (SH T D c3 c4 m) u v) 30 3 3 = some (u 30 3) := Rep_gI wS_30 rfl
theorem pI_30_3 : p_I (Rep (SH T D c3 c4 m) u v) 30 3 3 x = some (Rep (SH T D c3 c4 m) (wr u 30 3 x) v) := Rep_pI wS_30 rfl
theorem gI_30_4 : g_I (Rep (SH T D c3 c4 m) u v) 30 3 4 = some (u 30 4) := Rep_gI wS_30 rfl
theorem pI_30_4 : p_I (Rep (SH T D c3 c4 m) u v) 30 3 4 x = some (Rep (SH T D c3 c4 m) (wr u 30 4 x) v) := Rep_pI wS_30 rfl
theorem wS_35 : SH T D c3 c4 m 35 = some (hO 4 [fR 36, fR 39, fI]) := rfl
theorem gC_35 : g_C (Rep (SH T D c3 c4 m) u v) 35 4 = some () := Rep_gC wS_35
theorem gR_35_0 : g_R (Rep (SH T D c3 c4 m) u v) 35 4 0 = some 36 := Rep_gR wS_35 rfl
theorem gR_35_1 : g_R (Rep (SH T D c3 c4 m) u v) 35 4 1 = some 39 := Rep_gR wS_35 rfl
theorem gI_35_2 : g_I (Rep (SH T D c3 c4 m) u v) 35 4 2 = some (u 35 2) := Rep_gI wS_35 rfl
theorem pI_35_2 : p_I (Rep (SH T D c3 c4 m) u v) 35 4 2 x = some (Rep (SH T D c3 c4 m) (wr u 35 2 x) v) := Rep_pI wS_35 rfl
theorem wS_36 : SH T D c3 c4 m 36 = some (hO 6 [fR 37]) := rfl
theorem gC_36 : g_C (Rep (SH T D c3 c4 m) u v) 36 6 = some () := Rep_gC wS_36
theorem gR_36_0 : g_R (Rep (SH T D c3 c4 m) u v) 36 6 0 = some 37 := Rep_gR wS_36 rfl
theorem wS_41 : SH T D c3 c4 m 41 = some (hO 0 [fR 42, fI, fI]) := rfl
theorem gC_41 : g_C (Rep (SH T D c3 c4 m) u v) 41 0 = some () := Rep_gC wS_41
theorem gR_41_0 : g_R (Rep (SH T D c3 c4 m) u v) 41 0 0 = some 42 := Rep_gR wS_41 rfl
theorem gI_41_1 : g_I (Rep (SH T D c3 c4 m) u v) 41 0 1 = some (u 41 1) := Rep_gI wS_41 rfl
theorem pI_41_1 : p_I (Rep (SH T D c3 c4 m) u v) 41 0 1 x = some (Rep (SH T D c3 c4 m) (wr u 41 1 x) v) := Rep_pI wS_41 rfl
theorem pZ0_41_1 : p_Z (Rep (SH T D c3 c4 m) u v) 41 0 1 0 = some (Rep (SH T D c3 c4 m) (wr u 41 1 0) v) := Rep_pZ wS_41 rfl (by decide)
theorem pZ1_41_1 : p_Z (Rep (SH T D c3 c4 m) u v) 41 0 1 1 = some (Rep (SH T D c3 c4 m) (wr u 41 1 1) v) := Rep_pZ wS_41 rfl (by decide)
theorem gI_41_2 : g_I (Rep (SH T D c3 c4 m) u v) 41 0 2 = some (u 41 2) := Rep_gI wS_41 rfl
theorem pI_41_2 : p_I (Rep (SH T D c3 c4 m) u v) 41 0 2 x = some (Rep (SH T D c3 c4 m) (wr u 41 2 x) v) := Rep_pI wS_41 rfl
theorem wS_44 : SH T D c3 c4 m 44 = some (hO 8 [fR 45, fR 47, fI, fI]) := rfl
theorem gC_44 : g_C (Rep (SH T D c3 c4 m) u v) 44 8 = some () := Rep_gC wS_44
theorem gR_44_0 : g_R (Rep (SH T D c3 c4 m) u v) 44 8 0 = some 45 := Rep_gR wS_44 rfl
theorem gR_44_1 : g_R (Rep (SH T D c3 c4 m) u v) 44 8 1 = some 47 := Rep_gR wS_44 rfl
theorem gI_44_2 : g_I (Rep (SH T D c3 c4 m) u v) 44 8 2 = some (u 44 2) := Rep_gI wS_44 rfl
theorem pI_44_2 : p_I (Rep (SH T D c3 c4 m) u v) 44 8 2 x = some (Rep (SH T D c3 c4 m) (wr u 44 2 x) v) := Rep_pI wS_44 rfl
theorem pZ0_44_2 : p_Z (Rep (SH T D c3 c4 m) u v) 44 8 2 0 = some (Rep (SH T D c3 c4 m) (wr u 44 2 0) v) := Rep_pZ wS_44 rfl (by decide)
theorem pZ1_44_2 : p_Z (Rep (SH T D c3 c4 m) u v) 44 8 2 1 = some (Rep (SH T D c3 c4 m) (wr u 44 2 1) v) := Rep_pZ wS_44 rfl (by decide)
theorem gI_44_3 : g_I (Rep (SH T D c3 c4 m) u v) 44 8 3 = some (u 44 3) := Rep_gI wS_44 rfl
theorem pI_44_3 : p_I (Rep (SH T D c3 c4 m) u v) 44 8 3 x = some (Rep (SH T D c3 c4 m) (wr u 44 3 x) v) := Rep_pI wS_44 rfl
theorem wS_49 : SH T D c3 c4 m 49 = some (hO 1 [fR 50, fR 52, fI, fI]) := rfl
theorem gC_49 : g_C (Rep (SH T D c3 c4 m) u v) 49 1 = some () := Rep_gC wS_49
theorem gR_49_0 : g_R (Rep (SH T D c3 c4 m) u v) 49 1 0 = some 50 := Rep_gR wS_49 rfl
theorem gR_49_1 : g_R (Rep (SH T D c3 c4 m) u v) 49 1 1 = some 52 := Rep_gR wS_49 rfl
theorem gI_49_2 : g_I (Rep (SH T D c3 c4 m) u v) 49 1 2 = some (u 49 2) := Rep_gI wS_49 rfl
theorem pI_49_2 : p_I (Rep (SH T D c3 c4 m) u v) 49 1 2 x = some (Rep (SH T D c3 c4 m) (wr u 49 2 x) v) := Rep_pI wS_49 rfl
theorem gI_49_3 : g_I (Rep (SH T D c3 c4 m) u v) 49 1 3 = some (u 49 3) := Rep_gI wS_49 rfl
theorem pI_49_3 : p_I (Rep (SH T D c3 c4 m) u v) 49 1 3 x = some (Rep (SH T D c3 c4 m) (wr u 49 3 x) v) := Rep_pI wS_49 rfl
theorem wS_75 : SH T D c3 c4 m 75 = some (hO 11 [fI, fI, fI, c3, c4, fR 76, fI, fI, fI, fI, fI, fI, fI, fI, fL, fR 77, fR 78, fR 79, fR 80, fI, fI, fR 81, fR 82, fR 83, fI, fR 84, fI, fL, fL, fR 85, fR 86, fI]) := rfl
theorem gC_75 : g_C (Rep (SH T D c3 c4 m) u v) 75 11 = some () := Rep_gC wS_75
theorem gI_75_0 : g_I (Rep (SH T D c3 c4 m) u v) 75 11 0 = some (u 75 0) := Rep_gI wS_75 rfl
theorem pI_75_0 : p_I (Rep (SH T D c3 c4 m) u v) 75 11 0 x = some (Rep (SH T D c3 c4 m) (wr u 75 0 x) v) := Rep_pI wS_75 rfl
theorem gI_75_1 : g_I (Rep (SH T D c3 c4 m) u v) 75 11 1 = some (u 75 1) := Rep_gI wS_75 rfl
theorem pI_75_1 : p_I (Rep (SH T D c3 c4 m) u v) 75 11 1 x = some (Rep (SH T D c3 c4 m) (wr u 75 1 x) v) := Rep_pI wS_75 rfl
theorem gI_75_2 : g_I (Rep (SH T D c3 c4 m) u v) 75 11 2 = some (u 75 2) := Rep_gI wS_75 rfl
theorem pI_75_2 : p_I (Rep (SH T D c3 c4 m) u v) 75 11 2 x = some (Rep (SH T D c3 c4 m) (wr u 75 2 x) v) := Rep_pI wS_75 rfl
theorem gR_75_5 : g_R (Rep (SH T D c3 c4 m) u v) 75 11 5 = some 76 := Rep_gR wS_75 rfl
theorem gI_75_6 : g_I (Rep (SH T D c3 c4 m) u v) 75 11 6 = some (u 75 6) := Rep_gI wS_75 rfl
theorem pI_75_6 : p_I (Rep (SH T D c3 c4 m) u v) 75 11 6 x = some (Rep (SH T D c3 c4 m) (wr u 75 6 x) v) := Rep_pI wS_75 rfl
theorem gI_75_7 : g_I (Rep (SH T D c3 c4 m) u v) 75 11 7 = some (u 75 7) := Rep_gI wS_75 rfl
theorem pI_75_7 : p_I (Rep (SH T D c3 c4 m) u v) 75 11 7 x = some (Rep (SH T D c3 c4 m) (wr u 75 7 x) v) := Rep_pI wS_75 rfl
theorem gI_75_8 : g_I (Rep (SH T D c3 c4 m) u v) 75 11 8 = some (u 75 8) := Rep_gI wS_75 rfl
theorem pI_75_8 : p_I (Rep (SH T D c3 c4 m) u v) 75 11 8 x = some (Rep (SH T D c3 c4 m) (wr u 75 8 x) v) := Rep_pI wS_75 rfl
theorem gI_75_9 : g_I (Rep (SH T D c3 c4 m) u v) 75 11 9 = some (u 75 9) := Rep_gI wS_75 rfl
theorem pI_75_9 : p_I (Rep (SH T D c3 c4 m) u v) 75 11 9 x = some (Rep (SH T D c3 c4 m) (wr u 75 9 x) v) := Rep_pI wS_75 rfl
theorem gI_75_10 : g_I (Rep (SH T D c3 c4 m) u v) 75 11 10 = some (u 75 10) := Rep_gI wS_75 rfl
theorem pI_75_10 : p_I (Rep (SH T D c3 c4 m) u v) 75 11 10 x = some (Rep (SH T D c3 c4 m) (wr u 75 10 x) v) := Rep_pI wS_75 rfl
theorem gI_75_11 : g_I (Rep (SH T D c3 c4 m) u v) 75 11 11 = some (u 75 11) := Rep_gI wS_75 rfl
theorem pI_75_11 : p_I (Rep (SH T D c3 c4 m) u v) 75 11 11 x = some (Rep (SH T D c3 c4 m) (wr u 75 11 x) v) := Rep_pI wS_75 rfl
theorem gI_75_12 : g_I (Rep (SH T D c3 c4 m) u v) 75 11 12 = some (u 75 12) := Rep_gI wS_75 rfl
theorem pI_75_12 : p_I (Rep (SH T D c3 c4 m) u v) 75 11 12 x = some (Rep (SH T D c3 c4 m) (wr u 75 12 x) v) := Rep_pI wS_75 rfl
theorem gI_75_13 : g_I (Rep (SH T D c3 c4 m) u v) 75 11 13 = some (u 75 13) := Rep_gI wS_75 rfl
theorem pI_75_13 : p_I (Rep (SH T D c3 c4 m) u v) 75 11 13 x = some (Rep (SH T D c3 c4 m) (wr u 75 13 x) v) := Rep_pI wS_75 rfl
theorem gL_75_14 : g_L (Rep (SH T D c3 c4 m) u v) 75 11 14 = some (v 75 14) := Rep_gL wS_75 rfl
theorem pL_75_14 : p_L (Rep (SH T D c3 c4 m) u v) 75 11 14 y = some (Rep (SH T D c3 c4 m) u (wrL v 75 14 y)) := Rep_pL wS_75 rfl
theorem gR_75_15 : g_R (Rep (SH T D c3 c4 m) u v) 75 11 15 = some 77 := Rep_gR wS_75 rfl
theorem gR_75_16 : g_R (Rep (SH T D c3 c4 m) u v) 75 11 16 = some 78 := Rep_gR wS_75 rfl
theorem gR_75_17 : g_R (Rep (SH T D c3 c4 m) u v) 75 11 17 = some 79 := Rep_gR wS_75 rfl
theorem gR_75_18 : g_R (Rep (SH T D c3 c4 m) u v) 75 11 18 = some 80 := Rep_gR wS_75 rfl
theorem gI_75_19 : g_I (Rep (SH T D c3 c4 m) u v) 75 11 19 = some (u 75 19) := Rep_gI wS_75 rfl
theorem pI_75_19 : p_I (Rep (SH T D c3 c4 m) u v) 75 11 19 x = some (Rep (SH T D c3 c4 m) (wr u 75 19 x) v) := Rep_pI wS_75 rfl
theorem gI_75_20 : g_I (Rep (SH T D c3 c4 m) u v) 75 11 20 = some (u 75 20) := Rep_gI wS_75 rfl
theorem pI_75_20 : p_I (Rep (SH T D c3 c4 m) u v) 75 11 20 x = some (Rep (SH T D c3 c4 m) (wr u 75 20 x) v) := Rep_pI wS_75 rfl
theorem gR_75_21 : g_R (Rep (SH T D c3 c4 m) u v) 75 11 21 = some 81 := Rep_gR wS_75 rfl
theorem gR_75_22 : g_R (Rep (SH T D c3 c4 m) u v) 75 11 22 = some 82 := Rep_gR wS_75 rfl
theorem gR_75_23 : g_R (Rep (SH T D c3 c4 m) u v) 75 11 23 = some 83 := Rep_gR wS_75 rfl
theorem gI_75_24 : g_I (Rep (SH T D c3 c4 m) u v) 75 11 24 = some (u 75 24) := Rep_gI wS_75 rfl
theorem pI_75_24 : p_I (Rep (SH T D c3 c4 m) u v) 75 11 24 x = some (Rep (SH T D c3 c4 m) (wr u 75 24 x) v) := Rep_pI wS_75 rfl
theorem gR_75_25 : g_R (Rep (SH T D c3 c4 m) u v) 75 11 25 = some 84 := Rep_gR wS_75 rfl
theorem gI_75_26 : g_I (Rep (SH T D c3 c4 m) u v) 75 11 26 = some (u 75 26) := Rep_gI wS_75 rfl
theorem pI_75_26 : p_I (Rep (SH T D c3 c4 m) u v) 75 11 26 x = some (Rep (SH T D c3 c4 m) (wr u 75 26 x) v) := Rep_pI wS_75 rfl
theorem gL_75_27 : g_L (Rep (SH T D c3 c4 m) u v) 75 11 27 = some (v 75 27) := Rep_gL wS_75 rfl
theorem pL_75_27 : p_L (Rep (SH T D c3 c4 m) u v) 75 11 27 y = some (Rep (SH T D c3 c4 m) u (wrL v 75 27 y)) := Rep_pL wS_75 rfl
theorem gL_75_28 : g_L (Rep (SH T D c3 c4 m) u v) 75 11 28 = some (v 75 28) := Rep_gL wS_75 rfl
theorem pL_75_28 : p_L (Rep (SH T D c3 c4 m) u v) 75 11 28 y = some (Rep (SH T D c3 c4 m) u (wrL v 75 28 y)) := Rep_pL wS_75 rfl
theorem gR_75_29 : g_R (Rep (SH T D c3 c4 m) u v) 75 11 29 = some 85 := Rep_gR wS_75 rfl
theorem gR_75_30 : g_R (Rep (SH T D c3 c4 m) u v) 75 11 30 = some 86 := Rep_gR wS_75 rfl
theorem gI_75_31 : g_I (Rep (SH T D c3 c4 m) u v) 75 11 31 = some (u 75 31) := Rep_gI wS_75 rfl
theorem pI_75_31 : p_I (Rep (SH T D c3 c4 m) u v) 75 11 31 x = some (Rep (SH T D c3 c4 m) (wr u 75 31 x) v) := Rep_pI wS_75 rfl
theorem wS_76 : SH T D c3 c4 m 76 = some (hA 0 1000) := rfl
theorem aB_76 (h : k < 1000) : a_B (Rep (SH T D c3 c4 m) u v) 76 (nI k) = some (u 76 k) := by rw [Rep_aB wS_76 (nI_in h (by decide)), nI_clamp (by omega)]
theorem sB_76 (h : k < 1000) : s_B (Rep (SH T D c3 c4 m) u v) 76 (nI k) x = some (Rep (SH T D c3 c4 m) (wr u 76 k (vp_nar .byte x)) v) := by rw [Rep_sB wS_76 (nI_in h (by decide)), nI_clamp (by omega)]
theorem an_76 : a_n (Rep (SH T D c3 c4 m) u v) 76 = some (nI 1000) := Rep_an wS_76 (by decide)
theorem wS_77 : SH T D c3 c4 m 77 = some (hA 1 16) := rfl
theorem aI_77 (h : k < 16) : a_I (Rep (SH T D c3 c4 m) u v) 77 (nI k) = some (u 77 k) := by rw [Rep_aI wS_77 (nI_in h (by decide)), nI_clamp (by omega)]
theorem sI_77 (h : k < 16) : s_I (Rep (SH T D c3 c4 m) u v) 77 (nI k) x = some (Rep (SH T D c3 c4 m) (wr u 77 k x) v) := by rw [Rep_sI wS_77 (nI_in h (by decide)), nI_clamp (by omega)]
theorem wS_78 : SH T D c3 c4 m 78 = some (hA 1 16) := rfl
theorem aI_78 (h : k < 16) : a_I (Rep (SH T D c3 c4 m) u v) 78 (nI k) = some (u 78 k) := by rw [Rep_aI wS_78 (nI_in h (by decide)), nI_clamp (by omega)]
theorem sI_78 (h : k < 16) : s_I (Rep (SH T D c3 c4 m) u v) 78 (nI k) x = some (Rep (SH T D c3 c4 m) (wr u 78 k x) v) := by rw [Rep_sI wS_78 (nI_in h (by decide)), nI_clamp (by omega)]
theorem wS_79 : SH T D c3 c4 m 79 = some (hA 1 256) := rfl
theorem aI_79 (h : k < 256) : a_I (Rep (SH T D c3 c4 m) u v) 79 (nI k) = some (u 79 k) := by rw [Rep_aI wS_79 (nI_in h (by decide)), nI_clamp (by omega)]
theorem sI_79 (h : k < 256) : s_I (Rep (SH T D c3 c4 m) u v) 79 (nI k) x = some (Rep (SH T D c3 c4 m) (wr u 79 k x) v) := by rw [Rep_sI wS_79 (nI_in h (by decide)), nI_clamp (by omega)]
theorem wS_80 : SH T D c3 c4 m 80 = some (hA 1 48) := rfl
theorem aI_80 (h : k < 48) : a_I (Rep (SH T D c3 c4 m) u v) 80 (nI k) = some (u 80 k) := by rw [Rep_aI wS_80 (nI_in h (by decide)), nI_clamp (by omega)]
theorem sI_80 (h : k < 48) : s_I (Rep (SH T D c3 c4 m) u v) 80 (nI k) x = some (Rep (SH T D c3 c4 m) (wr u 80 k x) v) := by rw [Rep_sI wS_80 (nI_in h (by decide)), nI_clamp (by omega)]
theorem wS_81 : SH T D c3 c4 m 81 = some (hA 1 12) := rfl
theorem aI_81 (h : k < 12) : a_I (Rep (SH T D c3 c4 m) u v) 81 (nI k) = some (u 81 k) := by rw [Rep_aI wS_81 (nI_in h (by decide)), nI_clamp (by omega)]
theorem sI_81 (h : k < 12) : s_I (Rep (SH T D c3 c4 m) u v) 81 (nI k) x = some (Rep (SH T D c3 c4 m) (wr u 81 k x) v) := by rw [Rep_sI wS_81 (nI_in h (by decide)), nI_clamp (by omega)]
theorem wS_82 : SH T D c3 c4 m 82 = some (hA 1 4) := rfl
theorem aI_82 (h : k < 4) : a_I (Rep (SH T D c3 c4 m) u v) 82 (nI k) = some (u 82 k) := by rw [Rep_aI wS_82 (nI_in h (by decide)), nI_clamp (by omega)]
theorem sI_82 (h : k < 4) : s_I (Rep (SH T D c3 c4 m) u v) 82 (nI k) x = some (Rep (SH T D c3 c4 m) (wr u 82 k x) v) := by rw [Rep_sI wS_82 (nI_in h (by decide)), nI_clamp (by omega)]
theorem wS_83 : SH T D c3 c4 m 83 = some (hA 1 4) := rfl
theorem aI_83 (h : k < 4) : a_I (Rep (SH T D c3 c4 m) u v) 83 (nI k) = some (u 83 k) := by rw [Rep_aI wS_83 (nI_in h (by decide)), nI_clamp (by omega)]
theorem sI_83 (h : k < 4) : s_I (Rep (SH T D c3 c4 m) u v) 83 (nI k) x = some (Rep (SH T D c3 c4 m) (wr u 83 k x) v) := by rw [Rep_sI wS_83 (nI_in h (by decide)), nI_clamp (by omega)]
theorem wS_84 : SH T D c3 c4 m 84 = some (hA 1 4) := rfl
theorem aI_84 (h : k < 4) : a_I (Rep (SH T D c3 c4 m) u v) 84 (nI k) = some (u 84 k) := by rw [Rep_aI wS_84 (nI_in h (by decide)), nI_clamp (by omega)]
theorem sI_84 (h : k < 4) : s_I (Rep (SH T D c3 c4 m) u v) 84 (nI k) x = some (Rep (SH T D c3 c4 m) (wr u 84 k x) v) := by rw [Rep_sI wS_84 (nI_in h (by decide)), nI_clamp (by omega)]
theorem wS_85 : SH T D c3 c4 m 85 = some (hA 1 5) := rfl
theorem aI_85 (h : k < 5) : a_I (Rep (SH T D c3 c4 m) u v) 85 (nI k) = some (u 85 k) := by rw [Rep_aI wS_85 (nI_in h (by decide)), nI_clamp (by omega)]
theorem sI_85 (h : k < 5) : s_I (Rep (SH T D c3 c4 m) u v) 85 (nI k) x = some (Rep (SH T D c3 c4 m) (wr u 85 k x) v) := by rw [Rep_sI wS_85 (nI_in h (by decide)), nI_clamp (by omega)]
theorem wS_86 : SH T D c3 c4 m 86 = some (hA 1 5) := rfl
theorem aI_86 (h : k < 5) : a_I (Rep (SH T D c3 c4 m) u v) 86 (nI k) = some (u 86 k) := by rw [Rep_aI wS_86 (nI_in h (by decide)), nI_clamp (by omega)]
theorem sI_86 (h : k < 5) : s_I (Rep (SH T D c3 c4 m) u v) 86 (nI k) x = some (Rep (SH T D c3 c4 m) (wr u 86 k x) v) := by rw [Rep_sI wS_86 (nI_in h (by decide)), nI_clamp (by omega)]
theorem gR_75_3 : g_R (Rep (SH T D (fR k) c4 m) u v) 75 11 3 = some k := Rep_gR wS_75 rfl
theorem gQ_75_3 : g_Q (Rep (SH T D (fR k) c4 m) u v) 75 11 3 = some (some k) := Rep_gQ wS_75 rfl
theorem gN_75_3 : g_Q (Rep (SH T D fN c4 m) u v) 75 11 3 = some none := Rep_gQn wS_75 rfl
theorem gR_75_4 : g_R (Rep (SH T D c3 (fR k) m) u v) 75 11 4 = some k := Rep_gR wS_75 rfl
theorem gQ_75_4 : g_Q (Rep (SH T D c3 (fR k) m) u v) 75 11 4 = some (some k) := Rep_gQ wS_75 rfl
theorem gN_75_4 : g_Q (Rep (SH T D c3 fN m) u v) 75 11 4 = some none := Rep_gQn wS_75 rfl
end FLD
section FLM
variable {sh : mS} {M k : Nat} {u : mU} {v : mV} {x : Int32} {y : Int64}
theorem mC (h : mSh sh M) : g_C (Rep sh u v) M 10 = some () := Rep_gC (h 0 (by omega) : sh M = _)
theorem mI_0 (h : mSh sh M) : g_I (Rep sh u v) M 10 0 = some (u M 0) := Rep_gI (h 0 (by omega) : sh M = _) rfl
theorem mW_0 (h : mSh sh M) : p_I (Rep sh u v) M 10 0 x = some (Rep sh (wr u M 0 x) v) := Rep_pI (h 0 (by omega) : sh M = _) rfl
theorem mI_1 (h : mSh sh M) : g_I (Rep sh u v) M 10 1 = some (u M 1) := Rep_gI (h 0 (by omega) : sh M = _) rfl
theorem mW_1 (h : mSh sh M) : p_I (Rep sh u v) M 10 1 x = some (Rep sh (wr u M 1 x) v) := Rep_pI (h 0 (by omega) : sh M = _) rfl
theorem mI_2 (h : mSh sh M) : g_I (Rep sh u v) M 10 2 = some (u M 2) := Rep_gI (h 0 (by omega) : sh M = _) rfl
theorem mW_2 (h : mSh sh M) : p_I (Rep sh u v) M 10 2 x = some (Rep sh (wr u M 2 x) v) := Rep_pI (h 0 (by omega) : sh M = _) rfl
theorem mI_3 (h : mSh sh M) : g_I (Rep sh u v) M 10 3 = some (u M 3) := Rep_gI (h 0 (by omega) : sh M = _) rfl
theorem mW_3 (h : mSh sh M) : p_I (Rep sh u v) M 10 3 x = some (Rep sh (wr u M 3 x) v) := Rep_pI (h 0 (by omega) : sh M = _) rfl
theorem mI_4 (h : mSh sh M) : g_I (Rep sh u v) M 10 4 = some (u M 4) := Rep_gI (h 0 (by omega) : sh M = _) rfl
theorem mW_4 (h : mSh sh M) : p_I (Rep sh u v) M 10 4 x = some (Rep sh (wr u M 4 x) v) := Rep_pI (h 0 (by omega) : sh M = _) rfl
theorem mI_5 (h : mSh sh M) : g_I (Rep sh u v) M 10 5 = some (u M 5) := Rep_gI (h 0 (by omega) : sh M = _) rfl
theorem mW_5 (h : mSh sh M) : p_I (Rep sh u v) M 10 5 x = some (Rep sh (wr u M 5 x) v) := Rep_pI (h 0 (by omega) : sh M = _) rfl
theorem mI_6 (h : mSh sh M) : g_I (Rep sh u v) M 10 6 = some (u M 6) := Rep_gI (h 0 (by omega) : sh M = _) rfl
theorem mW_6 (h : mSh sh M) : p_I (Rep sh u v) M 10 6 x = some (Rep sh (wr u M 6 x) v) := Rep_pI (h 0 (by omega) : sh M = _) rfl
theorem mI_7 (h : mSh sh M) : g_I (Rep sh u v) M 10 7 = some (u M 7) := Rep_gI (h 0 (by omega) : sh M = _) rfl
theorem mW_7 (h : mSh sh M) : p_I (Rep sh u v) M 10 7 x = some (Rep sh (wr u M 7 x) v) := Rep_pI (h 0 (by omega) : sh M = _) rfl
theorem mI_8 (h : mSh sh M) : g_I (Rep sh u v) M 10 8 = some (u M 8) := Rep_gI (h 0 (by omega) : sh M = _) rfl
theorem mW_8 (h : mSh sh M) : p_I (Rep sh u v) M 10 8 x = some (Rep sh (wr u M 8 x) v) := Rep_pI (h 0 (by omega) : sh M = _) rfl
theorem mI_9 (h : mSh sh M) : g_I (Rep sh u v) M 10 9 = some (u M 9) := Rep_gI (h 0 (by omega) : sh M = _) rfl
theorem mW_9 (h : mSh sh M) : p_I (Rep sh u v) M 10 9 x = some (Rep sh (wr u M 9 x) v) := Rep_pI (h 0 (by omega) : sh M = _) rfl
theorem mI_10 (h : mSh sh M) : g_I (Rep sh u v) M 10 10 = some (u M 10) := Rep_gI (h 0 (by omega) : sh M = _) rfl
theorem mW_10 (h : mSh sh M) : p_I (Rep sh u v) M 10 10 x = some (Rep sh (wr u M 10 x) v) := Rep_pI (h 0 (by omega) : sh M = _) rfl
theorem mR_11 (h : mSh sh M) : g_R (Rep sh u v) M 10 11 = some (M + 1) := Rep_gR (h 0 (by omega) : sh M = _) rfl
theorem mR_12 (h : mSh sh M) : g_R (Rep sh u v) M 10 12 = some (M + 2) := Rep_gR (h 0 (by omega) : sh M = _) rfl
theorem mR_13 (h : mSh sh M) : g_R (Rep sh u v) M 10 13 = some (M + 3) := Rep_gR (h 0 (by omega) : sh M = _) rfl
theorem mR_14 (h : mSh sh M) : g_R (Rep sh u v) M 10 14 = some (M + 4) := Rep_gR (h 0 (by omega) : sh M = _) rfl
theorem mR_15 (h : mSh sh M) : g_R (Rep sh u v) M 10 15 = some (M + 5) := Rep_gR (h 0 (by omega) : sh M = _) rfl
theorem mR_16 (h : mSh sh M) : g_R (Rep sh u v) M 10 16 = some (M + 6) := Rep_gR (h 0 (by omega) : sh M = _) rfl
theorem mR_17 (h : mSh sh M) : g_R (Rep sh u v) M 10 17 = some (M + 7) := Rep_gR (h 0 (by omega) : sh M = _) rfl
theorem mR_18 (h : mSh sh M) : g_R (Rep sh u v) M 10 18 = some (M + 8) := Rep_gR (h 0 (by omega) : sh M = _) rfl
theorem mR_19 (h : mSh sh M) : g_R (Rep sh u v) M 10 19 = some (M + 9) := Rep_gR (h 0 (by omega) : sh M = _) rfl
theorem mR_20 (h : mSh sh M) : g_R (Rep sh u v) M 10 20 = some (M + 10) := Rep_gR (h 0 (by omega) : sh M = _) rfl
theorem mR_21 (h : mSh sh M) : g_R (Rep sh u v) M 10 21 = some (M + 11) := Rep_gR (h 0 (by omega) : sh M = _) rfl
theorem mR_22 (h : mSh sh M) : g_R (Rep sh u v) M 10 22 = some (M + 12) := Rep_gR (h 0 (by omega) : sh M = _) rfl
theorem mR_23 (h : mSh sh M) : g_R (Rep sh u v) M 10 23 = some (M + 13) := Rep_gR (h 0 (by omega) : sh M = _) rfl
theorem mR_24 (h : mSh sh M) : g_R (Rep sh u v) M 10 24 = some (M + 14) := Rep_gR (h 0 (by omega) : sh M = _) rfl
theorem mR_25 (h : mSh sh M) : g_R (Rep sh u v) M 10 25 = some (M + 15) := Rep_gR (h 0 (by omega) : sh M = _) rfl
theorem mR_26 (h : mSh sh M) : g_R (Rep sh u v) M 10 26 = some (M + 16) := Rep_gR (h 0 (by omega) : sh M = _) rfl
theorem mR_27 (h : mSh sh M) : g_R (Rep sh u v) M 10 27 = some (M + 17) := Rep_gR (h 0 (by omega) : sh M = _) rfl
theorem mR_28 (h : mSh sh M) : g_R (Rep sh u v) M 10 28 = some (M + 18) := Rep_gR (h 0 (by omega) : sh M = _) rfl
theorem mR_29 (h : mSh sh M) : g_R (Rep sh u v) M 10 29 = some (M + 19) := Rep_gR (h 0 (by omega) : sh M = _) rfl
theorem mR_30 (h : mSh sh M) : g_R (Rep sh u v) M 10 30 = some (M + 20) := Rep_gR (h 0 (by omega) : sh M = _) rfl
theorem mR_31 (h : mSh sh M) : g_R (Rep sh u v) M 10 31 = some (M + 21) := Rep_gR (h 0 (by omega) : sh M = _) rfl
theorem mR_32 (h : mSh sh M) : g_R (Rep sh u v) M 10 32 = some (M + 22) := Rep_gR (h 0 (by omega) : sh M = _) rfl
theorem mR_33 (h : mSh sh M) : g_R (Rep sh u v) M 10 33 = some (M + 23) := Rep_gR (h 0 (by omega) : sh M = _) rfl
theorem mR_34 (h : mSh sh M) : g_R (Rep sh u v) M 10 34 = some (M + 24) := Rep_gR (h 0 (by omega) : sh M = _) rfl
theorem ma_1 (h : mSh sh M) (hk : k < 4) : a_I (Rep sh u v) (M + 1) (nI k) = some (u (M + 1) k) := by rw [Rep_aI (h 1 (by omega) : sh (M + 1) = some (hA 1 4)) (nI_in hk (by decide)), nI_clamp (by omega)]
theorem ms_1 (h : mSh sh M) (hk : k < 4) : s_I (Rep sh u v) (M + 1) (nI k) x = some (Rep sh (wr u (M + 1) k x) v) := by rw [Rep_sI (h 1 (by omega) : sh (M + 1) = some (hA 1 4)) (nI_in hk (by decide)), nI_clamp (by omega)]
theorem ma_2 (h : mSh sh M) (hk : k < 4) : a_I (Rep sh u v) (M + 2) (nI k) = some (u (M + 2) k) := by rw [Rep_aI (h 2 (by omega) : sh (M + 2) = some (hA 1 4)) (nI_in hk (by decide)), nI_clamp (by omega)]
theorem ms_2 (h : mSh sh M) (hk : k < 4) : s_I (Rep sh u v) (M + 2) (nI k) x = some (Rep sh (wr u (M + 2) k x) v) := by rw [Rep_sI (h 2 (by omega) : sh (M + 2) = some (hA 1 4)) (nI_in hk (by decide)), nI_clamp (by omega)]
theorem ma_3 (h : mSh sh M) (hk : k < 4) : a_I (Rep sh u v) (M + 3) (nI k) = some (u (M + 3) k) := by rw [Rep_aI (h 3 (by omega) : sh (M + 3) = some (hA 1 4)) (nI_in hk (by decide)), nI_clamp (by omega)]
theorem ms_3 (h : mSh sh M) (hk : k < 4) : s_I (Rep sh u v) (M + 3) (nI k) x = some (Rep sh (wr u (M + 3) k x) v) := by rw [Rep_sI (h 3 (by omega) : sh (M + 3) = some (hA 1 4)) (nI_in hk (by decide)), nI_clamp (by omega)]
theorem ma_4 (h : mSh sh M) (hk : k < 4) : a_I (Rep sh u v) (M + 4) (nI k) = some (u (M + 4) k) := by rw [Rep_aI (h 4 (by omega) : sh (M + 4) = some (hA 1 4)) (nI_in hk (by decide)), nI_clamp (by omega)]
theorem ms_4 (h : mSh sh M) (hk : k < 4) : s_I (Rep sh u v) (M + 4) (nI k) x = some (Rep sh (wr u (M + 4) k x) v) := by rw [Rep_sI (h 4 (by omega) : sh (M + 4) = some (hA 1 4)) (nI_in hk (by decide)), nI_clamp (by omega)]
theorem ma_5 (h : mSh sh M) (hk : k < 5) : a_I (Rep sh u v) (M + 5) (nI k) = some (u (M + 5) k) := by rw [Rep_aI (h 5 (by omega) : sh (M + 5) = some (hA 1 5)) (nI_in hk (by decide)), nI_clamp (by omega)]
theorem ms_5 (h : mSh sh M) (hk : k < 5) : s_I (Rep sh u v) (M + 5) (nI k) x = some (Rep sh (wr u (M + 5) k x) v) := by rw [Rep_sI (h 5 (by omega) : sh (M + 5) = some (hA 1 5)) (nI_in hk (by decide)), nI_clamp (by omega)]
theorem ma_6 (h : mSh sh M) (hk : k < 5) : a_I (Rep sh u v) (M + 6) (nI k) = some (u (M + 6) k) := by rw [Rep_aI (h 6 (by omega) : sh (M + 6) = some (hA 1 5)) (nI_in hk (by decide)), nI_clamp (by omega)]
theorem ms_6 (h : mSh sh M) (hk : k < 5) : s_I (Rep sh u v) (M + 6) (nI k) x = some (Rep sh (wr u (M + 6) k x) v) := by rw [Rep_sI (h 6 (by omega) : sh (M + 6) = some (hA 1 5)) (nI_in hk (by decide)), nI_clamp (by omega)]
theorem ma_7 (h : mSh sh M) (hk : k < 5) : a_I (Rep sh u v) (M + 7) (nI k) = some (u (M + 7) k) := by rw [Rep_aI (h 7 (by omega) : sh (M + 7) = some (hA 1 5)) (nI_in hk (by decide)), nI_clamp (by omega)]
theorem ms_7 (h : mSh sh M) (hk : k < 5) : s_I (Rep sh u v) (M + 7) (nI k) x = some (Rep sh (wr u (M + 7) k x) v) := by rw [Rep_sI (h 7 (by omega) : sh (M + 7) = some (hA 1 5)) (nI_in hk (by decide)), nI_clamp (by omega)]
theorem ma_8 (h : mSh sh M) (hk : k < 35) : a_I (Rep sh u v) (M + 8) (nI k) = some (u (M + 8) k) := by rw [Rep_aI (h 8 (by omega) : sh (M + 8) = some (hA 1 35)) (nI_in hk (by decide)), nI_clamp (by omega)]
theorem ms_8 (h : mSh sh M) (hk : k < 35) : s_I (Rep sh u v) (M + 8) (nI k) x = some (Rep sh (wr u (M + 8) k x) v) := by rw [Rep_sI (h 8 (by omega) : sh (M + 8) = some (hA 1 35)) (nI_in hk (by decide)), nI_clamp (by omega)]
theorem ma_9 (h : mSh sh M) (hk : k < 4) : a_I (Rep sh u v) (M + 9) (nI k) = some (u (M + 9) k) := by rw [Rep_aI (h 9 (by omega) : sh (M + 9) = some (hA 1 4)) (nI_in hk (by decide)), nI_clamp (by omega)]
theorem ms_9 (h : mSh sh M) (hk : k < 4) : s_I (Rep sh u v) (M + 9) (nI k) x = some (Rep sh (wr u (M + 9) k x) v) := by rw [Rep_sI (h 9 (by omega) : sh (M + 9) = some (hA 1 4)) (nI_in hk (by decide)), nI_clamp (by omega)]
theorem ma_10 (h : mSh sh M) (hk : k < 4) : a_I (Rep sh u v) (M + 10) (nI k) = some (u (M + 10) k) := by rw [Rep_aI (h 10 (by omega) : sh (M + 10) = some (hA 1 4)) (nI_in hk (by decide)), nI_clamp (by omega)]
theorem ms_10 (h : mSh sh M) (hk : k < 4) : s_I (Rep sh u v) (M + 10) (nI k) x = some (Rep sh (wr u (M + 10) k x) v) := by rw [Rep_sI (h 10 (by omega) : sh (M + 10) = some (hA 1 4)) (nI_in hk (by decide)), nI_clamp (by omega)]
theorem ma_11 (h : mSh sh M) (hk : k < 3) : a_I (Rep sh u v) (M + 11) (nI k) = some (u (M + 11) k) := by rw [Rep_aI (h 11 (by omega) : sh (M + 11) = some (hA 1 3)) (nI_in hk (by decide)), nI_clamp (by omega)]
theorem ms_11 (h : mSh sh M) (hk : k < 3) : s_I (Rep sh u v) (M + 11) (nI k) x = some (Rep sh (wr u (M + 11) k x) v) := by rw [Rep_sI (h 11 (by omega) : sh (M + 11) = some (hA 1 3)) (nI_in hk (by decide)), nI_clamp (by omega)]
theorem ma_12 (h : mSh sh M) (hk : k < 21) : a_I (Rep sh u v) (M + 12) (nI k) = some (u (M + 12) k) := by rw [Rep_aI (h 12 (by omega) : sh (M + 12) = some (hA 1 21)) (nI_in hk (by decide)), nI_clamp (by omega)]
theorem ms_12 (h : mSh sh M) (hk : k < 21) : s_I (Rep sh u v) (M + 12) (nI k) x = some (Rep sh (wr u (M + 12) k x) v) := by rw [Rep_sI (h 12 (by omega) : sh (M + 12) = some (hA 1 21)) (nI_in hk (by decide)), nI_clamp (by omega)]
theorem ma_13 (h : mSh sh M) (hk : k < 12) : a_I (Rep sh u v) (M + 13) (nI k) = some (u (M + 13) k) := by rw [Rep_aI (h 13 (by omega) : sh (M + 13) = some (hA 1 12)) (nI_in hk (by decide)), nI_clamp (by omega)]
theorem ms_13 (h : mSh sh M) (hk : k < 12) : s_I (Rep sh u v) (M + 13) (nI k) x = some (Rep sh (wr u (M + 13) k x) v) := by rw [Rep_sI (h 13 (by omega) : sh (M + 13) = some (hA 1 12)) (nI_in hk (by decide)), nI_clamp (by omega)]
theorem ma_14 (h : mSh sh M) (hk : k < 12) : a_I (Rep sh u v) (M + 14) (nI k) = some (u (M + 14) k) := by rw [Rep_aI (h 14 (by omega) : sh (M + 14) = some (hA 1 12)) (nI_in hk (by decide)), nI_clamp (by omega)]
theorem ms_14 (h : mSh sh M) (hk : k < 12) : s_I (Rep sh u v) (M + 14) (nI k) x = some (Rep sh (wr u (M + 14) k x) v) := by rw [Rep_sI (h 14 (by omega) : sh (M + 14) = some (hA 1 12)) (nI_in hk (by decide)), nI_clamp (by omega)]
theorem ma_15 (h : mSh sh M) (hk : k < 12) : a_I (Rep sh u v) (M + 15) (nI k) = some (u (M + 15) k) := by rw [Rep_aI (h 15 (by omega) : sh (M + 15) = some (hA 1 12)) (nI_in hk (by decide)), nI_clamp (by omega)]
theorem ms_15 (h : mSh sh M) (hk : k < 12) : s_I (Rep sh u v) (M + 15) (nI k) x = some (Rep sh (wr u (M + 15) k x) v) := by rw [Rep_sI (h 15 (by omega) : sh (M + 15) = some (hA 1 12)) (nI_in hk (by decide)), nI_clamp (by omega)]
theorem ma_16 (h : mSh sh M) (hk : k < 12) : a_I (Rep sh u v) (M + 16) (nI k) = some (u (M + 16) k) := by rw [Rep_aI (h 16 (by omega) : sh (M + 16) = some (hA 1 12)) (nI_in hk (by decide)), nI_clamp (by omega)]
theorem ms_16 (h : mSh sh M) (hk : k < 12) : s_I (Rep sh u v) (M + 16) (nI k) x = some (Rep sh (wr u (M + 16) k x) v) := by rw [Rep_sI (h 16 (by omega) : sh (M + 16) = some (hA 1 12)) (nI_in hk (by decide)), nI_clamp (by omega)]
theorem ma_17 (h : mSh sh M) (hk : k < 8) : a_I (Rep sh u v) (M + 17) (nI k) = some (u (M + 17) k) := by rw [Rep_aI (h 17 (by omega) : sh (M + 17) = some (hA 1 8)) (nI_in hk (by decide)), nI_clamp (by omega)]
theorem ms_17 (h : mSh sh M) (hk : k < 8) : s_I (Rep sh u v) (M + 17) (nI k) x = some (Rep sh (wr u (M + 17) k x) v) := by rw [Rep_sI (h 17 (by omega) : sh (M + 17) = some (hA 1 8)) (nI_in hk (by decide)), nI_clamp (by omega)]
theorem ma_18 (h : mSh sh M) (hk : k < 8) : a_I (Rep sh u v) (M + 18) (nI k) = some (u (M + 18) k) := by rw [Rep_aI (h 18 (by omega) : sh (M + 18) = some (hA 1 8)) (nI_in hk (by decide)), nI_clamp (by omega)]
theorem ms_18 (h : mSh sh M) (hk : k < 8) : s_I (Rep sh u v) (M + 18) (nI k) x = some (Rep sh (wr u (M + 18) k x) v) := by rw [Rep_sI (h 18 (by omega) : sh (M + 18) = some (hA 1 8)) (nI_in hk (by decide)), nI_clamp (by omega)]
theorem ma_19 (h : mSh sh M) (hk : k < 8) : a_I (Rep sh u v) (M + 19) (nI k) = some (u (M + 19) k) := by rw [Rep_aI (h 19 (by omega) : sh (M + 19) = some (hA 1 8)) (nI_in hk (by decide)), nI_clamp (by omega)]
theorem ms_19 (h : mSh sh M) (hk : k < 8) : s_I (Rep sh u v) (M + 19) (nI k) x = some (Rep sh (wr u (M + 19) k x) v) := by rw [Rep_sI (h 19 (by omega) : sh (M + 19) = some (hA 1 8)) (nI_in hk (by decide)), nI_clamp (by omega)]
theorem ma_20 (h : mSh sh M) (hk : k < 8) : a_I (Rep sh u v) (M + 20) (nI k) = some (u (M + 20) k) := by rw [Rep_aI (h 20 (by omega) : sh (M + 20) = some (hA 1 8)) (nI_in hk (by decide)), nI_clamp (by omega)]
theorem ms_20 (h : mSh sh M) (hk : k < 8) : s_I (Rep sh u v) (M + 20) (nI k) x = some (Rep sh (wr u (M + 20) k x) v) := by rw [Rep_sI (h 20 (by omega) : sh (M + 20) = some (hA 1 8)) (nI_in hk (by decide)), nI_clamp (by omega)]
theorem ma_21 (h : mSh sh M) (hk : k < 8) : a_Z (Rep sh u v) (M + 21) (nI k) = some (u (M + 21) k) := by rw [Rep_aZ (h 21 (by omega) : sh (M + 21) = some (hA 3 8)) (nI_in hk (by decide)), nI_clamp (by omega)]
theorem ms_21 (h : mSh sh M) (hk : k < 8) : s_Z (Rep sh u v) (M + 21) (nI k) x = some (Rep sh (wr u (M + 21) k (vp_nar .boolean x)) v) := by rw [Rep_sZ (h 21 (by omega) : sh (M + 21) = some (hA 3 8)) (nI_in hk (by decide)), nI_clamp (by omega)]
theorem ma_22 (h : mSh sh M) (hk : k < 16) : a_L (Rep sh u v) (M + 22) (nI k) = some (v (M + 22) k) := by rw [Rep_aL (h 22 (by omega) : sh (M + 22) = some (hB 16)) (nI_in hk (by decide)), nI_clamp (by omega)]
theorem ms_22 (h : mSh sh M) (hk : k < 16) : s_L (Rep sh u v) (M + 22) (nI k) y = some (Rep sh u (wrL v (M + 22) k y)) := by rw [Rep_sL (h 22 (by omega) : sh (M + 22) = some (hB 16)) (nI_in hk (by decide)), nI_clamp (by omega)]
theorem ma_23 (h : mSh sh M) (hk : k < 16) : a_I (Rep sh u v) (M + 23) (nI k) = some (u (M + 23) k) := by rw [Rep_aI (h 23 (by omega) : sh (M + 23) = some (hA 1 16)) (nI_in hk (by decide)), nI_clamp (by omega)]
theorem ms_23 (h : mSh sh M) (hk : k < 16) : s_I (Rep sh u v) (M + 23) (nI k) x = some (Rep sh (wr u (M + 23) k x) v) := by rw [Rep_sI (h 23 (by omega) : sh (M + 23) = some (hA 1 16)) (nI_in hk (by decide)), nI_clamp (by omega)]
theorem ma_24 (h : mSh sh M) (hk : k < 16) : a_I (Rep sh u v) (M + 24) (nI k) = some (u (M + 24) k) := by rw [Rep_aI (h 24 (by omega) : sh (M + 24) = some (hA 1 16)) (nI_in hk (by decide)), nI_clamp (by omega)]
theorem ms_24 (h : mSh sh M) (hk : k < 16) : s_I (Rep sh u v) (M + 24) (nI k) x = some (Rep sh (wr u (M + 24) k x) v) := by rw [Rep_sI (h 24 (by omega) : sh (M + 24) = some (hA 1 16)) (nI_in hk (by decide)), nI_clamp (by omega)]
end FLM
section FLC
variable {sh : mS} {B : Nat} {u : mU} {v : mV} {x y z : Int32}
theorem cC (h : cSh sh B) : g_C (Rep sh u v) B 2 = some () := Rep_gC h.1
theorem cR_0 (h : cSh sh B) : g_R (Rep sh u v) B 2 0 = some (B + 1) := Rep_gR h.1 rfl
theorem cG_0 (h : cSh sh B) : f_X8_get (Rep sh u v) (B + 1) x y = some (tG u (B + 2) 4 2 x y) := tab_get h.2.1
theorem cS_0 (h : cSh sh B) : f_X8_set (Rep sh u v) (B + 1) x y z = some (Rep sh (tS u (B + 2) 4 2 x y z) v) := tab_set h.2.1
theorem cR_1 (h : cSh sh B) : g_R (Rep sh u v) B 2 1 = some (B + 3) := Rep_gR h.1 rfl
theorem cG_1 (h : cSh sh B) : f_X8_get (Rep sh u v) (B + 3) x y = some (tG u (B + 4) 5 3 x y) := tab_get h.2.2.1
theorem cS_1 (h : cSh sh B) : f_X8_set (Rep sh u v) (B + 3) x y z = some (Rep sh (tS u (B + 4) 5 3 x y z) v) := tab_set h.2.2.1
theorem cR_2 (h : cSh sh B) : g_R (Rep sh u v) B 2 2 = some (B + 5) := Rep_gR h.1 rfl
theorem cG_2 (h : cSh sh B) : f_X8_get (Rep sh u v) (B + 5) x y = some (tG u (B + 6) 4 2 x y) := tab_get h.2.2.2.1
theorem cS_2 (h : cSh sh B) : f_X8_set (Rep sh u v) (B + 5) x y z = some (Rep sh (tS u (B + 6) 4 2 x y z) v) := tab_set h.2.2.2.1
theorem cR_3 (h : cSh sh B) : g_R (Rep sh u v) B 2 3 = some (B + 7) := Rep_gR h.1 rfl
theorem cG_3 (h : cSh sh B) : f_X8_get (Rep sh u v) (B + 7) x y = some (tG u (B + 8) 3 1 x y) := tab_get h.2.2.2.2.1
theorem cS_3 (h : cSh sh B) : f_X8_set (Rep sh u v) (B + 7) x y z = some (Rep sh (tS u (B + 8) 3 1 x y z) v) := tab_set h.2.2.2.2.1
theorem cR_4 (h : cSh sh B) : g_R (Rep sh u v) B 2 4 = some (B + 9) := Rep_gR h.1 rfl
theorem cG_4 (h : cSh sh B) : f_X8_get (Rep sh u v) (B + 9) x y = some (tG u (B + 10) 12 4 x y) := tab_get h.2.2.2.2.2.1
theorem cS_4 (h : cSh sh B) : f_X8_set (Rep sh u v) (B + 9) x y z = some (Rep sh (tS u (B + 10) 12 4 x y z) v) := tab_set h.2.2.2.2.2.1
theorem cR_5 (h : cSh sh B) : g_R (Rep sh u v) B 2 5 = some (B + 11) := Rep_gR h.1 rfl
theorem cG_5 (h : cSh sh B) : f_X8_get (Rep sh u v) (B + 11) x y = some (tG u (B + 12) 4 2 x y) := tab_get h.2.2.2.2.2.2.1
theorem cS_5 (h : cSh sh B) : f_X8_set (Rep sh u v) (B + 11) x y z = some (Rep sh (tS u (B + 12) 4 2 x y z) v) := tab_set h.2.2.2.2.2.2.1
theorem cR_6 (h : cSh sh B) : g_R (Rep sh u v) B 2 6 = some (B + 13) := Rep_gR h.1 rfl
theorem cG_6 (h : cSh sh B) : f_X8_get (Rep sh u v) (B + 13) x y = some (tG u (B + 14) 8 5 x y) := tab_get h.2.2.2.2.2.2.2.1
theorem cS_6 (h : cSh sh B) : f_X8_set (Rep sh u v) (B + 13) x y z = some (Rep sh (tS u (B + 14) 8 5 x y z) v) := tab_set h.2.2.2.2.2.2.2.1
theorem cR_7 (h : cSh sh B) : g_R (Rep sh u v) B 2 7 = some (B + 15) := Rep_gR h.1 rfl
theorem cG_7 (h : cSh sh B) : f_X8_get (Rep sh u v) (B + 15) x y = some (tG u (B + 16) 5 7 x y) := tab_get h.2.2.2.2.2.2.2.2.1
theorem cS_7 (h : cSh sh B) : f_X8_set (Rep sh u v) (B + 15) x y z = some (Rep sh (tS u (B + 16) 5 7 x y z) v) := tab_set h.2.2.2.2.2.2.2.2.1
theorem cR_8 (h : cSh sh B) : g_R (Rep sh u v) B 2 8 = some (B + 17) := Rep_gR h.1 rfl
theorem cG_8 (h : cSh sh B) : f_X8_get (Rep sh u v) (B + 17) x y = some (tG u (B + 18) 3 7 x y) := tab_get h.2.2.2.2.2.2.2.2.2.1
theorem cS_8 (h : cSh sh B) : f_X8_set (Rep sh u v) (B + 17) x y z = some (Rep sh (tS u (B + 18) 3 7 x y z) v) := tab_set h.2.2.2.2.2.2.2.2.2.1
theorem cR_9 (h : cSh sh B) : g_R (Rep sh u v) B 2 9 = some (B + 19) := Rep_gR h.1 rfl
theorem cG_9 (h : cSh sh B) : f_X8_get (Rep sh u v) (B + 19) x y = some (tG u (B + 20) 1 10 x y) := tab_get h.2.2.2.2.2.2.2.2.2.2
theorem cS_9 (h : cSh sh B) : f_X8_set (Rep sh u v) (B + 19) x y z = some (Rep sh (tS u (B + 20) 1 10 x y z) v) := tab_set h.2.2.2.2.2.2.2.2.2.2
end FLC
