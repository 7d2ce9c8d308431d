theorem Inv_dom {P Q : cP} : ∀ g n, Inv P Q g n → q_dom g n ∧ 88 ≤ n := by
  intro g n h
  obtain ⟨T, D, c3, c4, m, u, v, rfl, rfl, ho, h3, h4, -, -⟩ := h
  exact ⟨SH_dom ho h3 h4, by omega⟩
theorem all_PA : q_PA (Inv fPs fQ) := ⟨Inv_dom, P0, P1, P2, P3, P4, P5, P6, P7, P8, P9, P10, P11, P12, P13, P14, P15, P16, P17, P18, P19, P20, P21, P22, P23, P24, P25, P26, P27, P28, P29, P30, P31, P32, P33, P34, P35, P36, P37, P38, P39, P40, P41, P42, P43, P44⟩
theorem i_vc : Claimed_1_1 ∧ Claimed_1_2 := i_vc_of all_PA Inv_start
