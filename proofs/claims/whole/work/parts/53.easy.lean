section ESY
variable {P Q : cP}
theorem TR_thr {u : mU} {x : Int32} (h : TR u) : TR (wr u 75 0 x) := by
  unfold TR at *
  rw [wr_ix (q := 75) (j := 1) (by decide), wr_ix (q := 75) (j := 2) (by decide), wr_role (q := 0) (by decide), wr_role (q := 1) (by decide)]
  exact h
theorem P44 : q_P44c (Inv P Q) := by
  intro g n hI
  obtain ⟨T, D, c3, c4, m, u, v, rfl, rfl, ho, h3, h4, ht, hK⟩ := hI
  refine ⟨Rep (SH T D c3 c4 m) (wr u 75 0 0) v, ?_, Inv_mk ho h3 h4 hK (keep_wr keep_refl rfl) ?_⟩
  · unfold lop_44
    rw [x10_trouble, Option.bind_some, x12_trouble, q_b2_some, ht.1, if_pos rfl]
  · exact TR_thr ht
theorem P2 : q_P2c (Inv P Q) := by
  intro g n hI
  obtain ⟨T, D, c3, c4, m, u, v, rfl, rfl, ho, h3, h4, ht, hK⟩ := hI
  refine ⟨Rep (SH T D c3 c4 m) (wr u 75 0 0) v, ?_, Inv_mk ho h3 h4 hK (keep_wr keep_refl rfl) ?_⟩
  · unfold lop_2 f_X10_fault f_X6_faultNumber f_X12_fault
    simp only [gC_0, gR_0_0, gR_0_1, gR_0_2, gR_0_3, gR_0_4, gR_0_5, gR_0_6, gI_0_7, gR_0_8, gC_1, gR_1_0, gI_1_1, gR_1_2, gR_1_3, gR_1_4, gI_1_5, gI_1_6, gI_1_7, gI_1_8, gI_1_9, gL_1_10, gI_1_11, gI_1_12, gI_1_13, gI_1_14, gC_27, gR_27_0, gC_30, gR_30_0, gR_30_1, gI_30_2, gI_30_3, gI_30_4, gC_35, gR_35_0, gR_35_1, gI_35_2, gC_36, gR_36_0, gC_41, gR_41_0, gI_41_1, gI_41_2, gC_44, gR_44_0, gR_44_1, gI_44_2, gI_44_3, gC_49, gR_49_0, gR_49_1, gI_49_2, gI_49_3, gC_75, gI_75_0, gI_75_1, gI_75_2, gR_75_5, gI_75_6, gI_75_7, gI_75_8, gI_75_9, gI_75_10, gI_75_11, gI_75_12, gI_75_13, gL_75_14, gR_75_15, gR_75_16, gR_75_17, gR_75_18, gI_75_19, gI_75_20, gR_75_21, gR_75_22, gR_75_23, gI_75_24, gR_75_25, gI_75_26, gL_75_27, gL_75_28, gR_75_29, gR_75_30, gI_75_31, gR_75_3, gQ_75_3, gN_75_3, gR_75_4, gQ_75_4, gN_75_4, pI_0_7, pI_1_1, pI_1_5, pI_1_6, pI_1_7, pI_1_8, pI_1_9, pL_1_10, pI_1_11, pI_1_12, pI_1_13, pI_1_14, pI_30_2, pI_30_3, pI_30_4, pI_35_2, pI_41_1, pZ0_41_1, pZ1_41_1, pI_41_2, pI_44_2, pZ0_44_2, pZ1_44_2, pI_44_3, pI_49_2, pI_49_3, pI_75_0, pI_75_1, pI_75_2, pI_75_6, pI_75_7, pI_75_8, pI_75_9, pI_75_10, pI_75_11, pI_75_12, pI_75_13, pL_75_14, pI_75_19, pI_75_20, pI_75_24, pI_75_26, pL_75_27, pL_75_28, pI_75_31, Option.bind_some, q_b2_some, q_zr_0, q_zr_1, x10_fine, x10_refused, x12_good, x12_refused]
    rw [wr_ix (by decide), hK.1.1, if_pos rfl]
  · exact TR_thr ht
theorem P3 : q_P3c (Inv P Q) := by
  intro g n hI
  obtain ⟨T, D, c3, c4, m, u, v, rfl, rfl, ho, h3, h4, ht, hK⟩ := hI
  refine ⟨Rep (SH T D c3 c4 m) (wr u 75 0 0) v, ?_, Inv_mk ho h3 h4 hK (keep_wr keep_refl rfl) ?_⟩
  · unfold lop_3 f_X10_where f_X6_faultPlace f_X12_where
    simp only [gC_0, gR_0_0, gR_0_1, gR_0_2, gR_0_3, gR_0_4, gR_0_5, gR_0_6, gI_0_7, gR_0_8, gC_1, gR_1_0, gI_1_1, gR_1_2, gR_1_3, gR_1_4, gI_1_5, gI_1_6, gI_1_7, gI_1_8, gI_1_9, gL_1_10, gI_1_11, gI_1_12, gI_1_13, gI_1_14, gC_27, gR_27_0, gC_30, gR_30_0, gR_30_1, gI_30_2, gI_30_3, gI_30_4, gC_35, gR_35_0, gR_35_1, gI_35_2, gC_36, gR_36_0, gC_41, gR_41_0, gI_41_1, gI_41_2, gC_44, gR_44_0, gR_44_1, gI_44_2, gI_44_3, gC_49, gR_49_0, gR_49_1, gI_49_2, gI_49_3, gC_75, gI_75_0, gI_75_1, gI_75_2, gR_75_5, gI_75_6, gI_75_7, gI_75_8, gI_75_9, gI_75_10, gI_75_11, gI_75_12, gI_75_13, gL_75_14, gR_75_15, gR_75_16, gR_75_17, gR_75_18, gI_75_19, gI_75_20, gR_75_21, gR_75_22, gR_75_23, gI_75_24, gR_75_25, gI_75_26, gL_75_27, gL_75_28, gR_75_29, gR_75_30, gI_75_31, gR_75_3, gQ_75_3, gN_75_3, gR_75_4, gQ_75_4, gN_75_4, pI_0_7, pI_1_1, pI_1_5, pI_1_6, pI_1_7, pI_1_8, pI_1_9, pL_1_10, pI_1_11, pI_1_12, pI_1_13, pI_1_14, pI_30_2, pI_30_3, pI_30_4, pI_35_2, pI_41_1, pZ0_41_1, pZ1_41_1, pI_41_2, pI_44_2, pZ0_44_2, pZ1_44_2, pI_44_3, pI_49_2, pI_49_3, pI_75_0, pI_75_1, pI_75_2, pI_75_6, pI_75_7, pI_75_8, pI_75_9, pI_75_10, pI_75_11, pI_75_12, pI_75_13, pL_75_14, pI_75_19, pI_75_20, pI_75_24, pI_75_26, pL_75_27, pL_75_28, pI_75_31, Option.bind_some, q_b2_some, q_zr_0, q_zr_1, x10_fine, x10_refused, x12_good, x12_refused]
    rw [wr_ix (by decide), ht.2]
    by_cases c : u 0 7 = 4
    · rw [if_pos c, if_pos c, Option.bind_some, if_pos rfl]
    · rw [if_neg c, if_neg c, Option.bind_some, if_pos rfl]
  · exact TR_thr ht
end ESY
