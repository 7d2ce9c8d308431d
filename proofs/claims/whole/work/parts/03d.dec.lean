theorem dX12_never_65 : decode cX12_never 65 = .ok (.ifCond .eq 7, 3) := by decide +kernel
theorem dX12_never_68 : decode cX12_never 68 = .ok (.iconst 0, 1) := by decide +kernel
theorem dX12_never_69 : decode cX12_never 69 = .ok (.goto 6, 3) := by decide +kernel
theorem dX12_never_72 : decode cX12_never 72 = .ok (.iconst 1, 1) := by decide +kernel
theorem dX12_never_73 : decode cX12_never 73 = .ok (.iload_n 2, 1) := by decide +kernel
theorem dX12_never_74 : decode cX12_never 74 = .ok (.ishl, 1) := by decide +kernel
theorem dX12_never_75 : decode cX12_never 75 = .ok (.ior, 1) := by decide +kernel
theorem dX12_never_76 : decode cX12_never 76 = .ok (.istore_n 1, 1) := by decide +kernel
theorem dX12_never_77 : decode cX12_never 77 = .ok (.iinc 2 1, 3) := by decide +kernel
theorem dX12_never_80 : decode cX12_never 80 = .ok (.goto (-58), 3) := by decide +kernel
theorem dX12_never_83 : decode cX12_never 83 = .ok (.aload_n 0, 1) := by decide +kernel
theorem dX12_never_84 : decode cX12_never 84 = .ok (.iload_n 1, 1) := by decide +kernel
theorem dX12_never_85 : decode cX12_never 85 = .ok (.invokevirtual 58, 3) := by decide +kernel
theorem dX12_never_88 : decode cX12_never 88 = .ok (.ireturn, 1) := by decide +kernel
theorem dX12_fitting_0 : decode cX12_fitting 0 = .ok (.aload_n 0, 1) := by decide +kernel
theorem dX12_fitting_1 : decode cX12_fitting 1 = .ok (.iconst 0, 1) := by decide +kernel
theorem dX12_fitting_2 : decode cX12_fitting 2 = .ok (.putfield 461, 3) := by decide +kernel
theorem dX12_fitting_5 : decode cX12_fitting 5 = .ok (.iconst 0, 1) := by decide +kernel
theorem dX12_fitting_6 : decode cX12_fitting 6 = .ok (.istore_n 1, 1) := by decide +kernel
theorem dX12_fitting_7 : decode cX12_fitting 7 = .ok (.iload_n 1, 1) := by decide +kernel
theorem dX12_fitting_8 : decode cX12_fitting 8 = .ok (.iconst 4, 1) := by decide +kernel
theorem dX12_fitting_9 : decode cX12_fitting 9 = .ok (.if_icmp .ge 16, 3) := by decide +kernel
theorem dX12_fitting_12 : decode cX12_fitting 12 = .ok (.aload_n 0, 1) := by decide +kernel
theorem dX12_fitting_13 : decode cX12_fitting 13 = .ok (.getfield 36, 3) := by decide +kernel
theorem dX12_fitting_16 : decode cX12_fitting 16 = .ok (.iload_n 1, 1) := by decide +kernel
theorem dX12_fitting_17 : decode cX12_fitting 17 = .ok (.iconst 0, 1) := by decide +kernel
theorem dX12_fitting_18 : decode cX12_fitting 18 = .ok (.iastore, 1) := by decide +kernel
theorem dX12_fitting_19 : decode cX12_fitting 19 = .ok (.iinc 1 1, 3) := by decide +kernel
theorem dX12_fitting_22 : decode cX12_fitting 22 = .ok (.goto (-15), 3) := by decide +kernel
theorem dX12_fitting_25 : decode cX12_fitting 25 = .ok (.iconst 0, 1) := by decide +kernel
theorem dX12_fitting_26 : decode cX12_fitting 26 = .ok (.istore_n 1, 1) := by decide +kernel
theorem dX12_fitting_27 : decode cX12_fitting 27 = .ok (.aload_n 0, 1) := by decide +kernel
theorem dX12_fitting_28 : decode cX12_fitting 28 = .ok (.getfield 33, 3) := by decide +kernel
theorem dX12_fitting_31 : decode cX12_fitting 31 = .ok (.iconst 0, 1) := by decide +kernel
theorem dX12_fitting_32 : decode cX12_fitting 32 = .ok (.iconst (-1), 1) := by decide +kernel
theorem dX12_fitting_33 : decode cX12_fitting 33 = .ok (.iastore, 1) := by decide +kernel
theorem dX12_fitting_34 : decode cX12_fitting 34 = .ok (.iload_n 1, 1) := by decide +kernel
theorem dX12_fitting_35 : decode cX12_fitting 35 = .ok (.ifCond .lt 148, 3) := by decide +kernel
theorem dX12_fitting_38 : decode cX12_fitting 38 = .ok (.aload_n 0, 1) := by decide +kernel
theorem dX12_fitting_39 : decode cX12_fitting 39 = .ok (.getfield 33, 3) := by decide +kernel
theorem dX12_fitting_42 : decode cX12_fitting 42 = .ok (.iload_n 1, 1) := by decide +kernel
theorem dX12_fitting_43 : decode cX12_fitting 43 = .ok (.dup2, 1) := by decide +kernel
theorem dX12_fitting_44 : decode cX12_fitting 44 = .ok (.iaload, 1) := by decide +kernel
theorem dX12_fitting_45 : decode cX12_fitting 45 = .ok (.iconst 1, 1) := by decide +kernel
theorem dX12_fitting_46 : decode cX12_fitting 46 = .ok (.iadd, 1) := by decide +kernel
theorem dX12_fitting_47 : decode cX12_fitting 47 = .ok (.iastore, 1) := by decide +kernel
theorem dX12_fitting_48 : decode cX12_fitting 48 = .ok (.aload_n 0, 1) := by decide +kernel
theorem dX12_fitting_49 : decode cX12_fitting 49 = .ok (.getfield 33, 3) := by decide +kernel
theorem dX12_fitting_52 : decode cX12_fitting 52 = .ok (.iload_n 1, 1) := by decide +kernel
theorem dX12_fitting_53 : decode cX12_fitting 53 = .ok (.iaload, 1) := by decide +kernel
theorem dX12_fitting_54 : decode cX12_fitting 54 = .ok (.bipush 105, 2) := by decide +kernel
theorem dX12_fitting_56 : decode cX12_fitting 56 = .ok (.if_icmp .ge 24, 3) := by decide +kernel
theorem dX12_fitting_59 : decode cX12_fitting 59 = .ok (.aload_n 0, 1) := by decide +kernel
theorem dX12_fitting_60 : decode cX12_fitting 60 = .ok (.iload_n 1, 1) := by decide +kernel
theorem dX12_fitting_61 : decode cX12_fitting 61 = .ok (.invokevirtual 464, 3) := by decide +kernel
theorem dX12_fitting_64 : decode cX12_fitting 64 = .ok (.ifCond .ne 16, 3) := by decide +kernel
theorem dX12_fitting_67 : decode cX12_fitting 67 = .ok (.aload_n 0, 1) := by decide +kernel
theorem dX12_fitting_68 : decode cX12_fitting 68 = .ok (.getfield 33, 3) := by decide +kernel
theorem dX12_fitting_71 : decode cX12_fitting 71 = .ok (.iload_n 1, 1) := by decide +kernel
theorem dX12_fitting_72 : decode cX12_fitting 72 = .ok (.dup2, 1) := by decide +kernel
theorem dX12_fitting_73 : decode cX12_fitting 73 = .ok (.iaload, 1) := by decide +kernel
theorem dX12_fitting_74 : decode cX12_fitting 74 = .ok (.iconst 1, 1) := by decide +kernel
theorem dX12_fitting_75 : decode cX12_fitting 75 = .ok (.iadd, 1) := by decide +kernel
theorem dX12_fitting_76 : decode cX12_fitting 76 = .ok (.iastore, 1) := by decide +kernel
theorem dX12_fitting_77 : decode cX12_fitting 77 = .ok (.goto (-29), 3) := by decide +kernel
theorem dX12_fitting_80 : decode cX12_fitting 80 = .ok (.aload_n 0, 1) := by decide +kernel
theorem dX12_fitting_81 : decode cX12_fitting 81 = .ok (.getfield 33, 3) := by decide +kernel
theorem dX12_fitting_84 : decode cX12_fitting 84 = .ok (.iload_n 1, 1) := by decide +kernel
theorem dX12_fitting_85 : decode cX12_fitting 85 = .ok (.iaload, 1) := by decide +kernel
theorem dX12_fitting_86 : decode cX12_fitting 86 = .ok (.bipush 105, 2) := by decide +kernel
theorem dX12_fitting_88 : decode cX12_fitting 88 = .ok (.if_icmp .lt 9, 3) := by decide +kernel
theorem dX12_fitting_91 : decode cX12_fitting 91 = .ok (.iinc 1 (-1), 3) := by decide +kernel
theorem dX12_fitting_94 : decode cX12_fitting 94 = .ok (.goto (-60), 3) := by decide +kernel
theorem dX12_fitting_97 : decode cX12_fitting 97 = .ok (.iload_n 1, 1) := by decide +kernel
theorem dX12_fitting_98 : decode cX12_fitting 98 = .ok (.iconst 1, 1) := by decide +kernel
theorem dX12_fitting_99 : decode cX12_fitting 99 = .ok (.iadd, 1) := by decide +kernel
theorem dX12_fitting_100 : decode cX12_fitting 100 = .ok (.aload_n 0, 1) := by decide +kernel
theorem dX12_fitting_101 : decode cX12_fitting 101 = .ok (.getfield 369, 3) := by decide +kernel
theorem dX12_fitting_104 : decode cX12_fitting 104 = .ok (.getfield 336, 3) := by decide +kernel
theorem dX12_fitting_107 : decode cX12_fitting 107 = .ok (.if_icmp .ge 16, 3) := by decide +kernel
theorem dX12_fitting_110 : decode cX12_fitting 110 = .ok (.iinc 1 1, 3) := by decide +kernel
theorem dX12_fitting_113 : decode cX12_fitting 113 = .ok (.aload_n 0, 1) := by decide +kernel
theorem dX12_fitting_114 : decode cX12_fitting 114 = .ok (.getfield 33, 3) := by decide +kernel
theorem dX12_fitting_117 : decode cX12_fitting 117 = .ok (.iload_n 1, 1) := by decide +kernel
theorem dX12_fitting_118 : decode cX12_fitting 118 = .ok (.iconst (-1), 1) := by decide +kernel
theorem dX12_fitting_119 : decode cX12_fitting 119 = .ok (.iastore, 1) := by decide +kernel
theorem dX12_fitting_120 : decode cX12_fitting 120 = .ok (.goto (-86), 3) := by decide +kernel
theorem dX12_fitting_123 : decode cX12_fitting 123 = .ok (.aload_n 0, 1) := by decide +kernel
theorem dX12_fitting_124 : decode cX12_fitting 124 = .ok (.dup, 1) := by decide +kernel
theorem dX12_fitting_125 : decode cX12_fitting 125 = .ok (.getfield 461, 3) := by decide +kernel
theorem dX12_fitting_128 : decode cX12_fitting 128 = .ok (.iconst 1, 1) := by decide +kernel
theorem dX12_fitting_129 : decode cX12_fitting 129 = .ok (.iadd, 1) := by decide +kernel
theorem dX12_fitting_130 : decode cX12_fitting 130 = .ok (.putfield 461, 3) := by decide +kernel
theorem dX12_fitting_133 : decode cX12_fitting 133 = .ok (.iconst 0, 1) := by decide +kernel
theorem dX12_fitting_134 : decode cX12_fitting 134 = .ok (.istore_n 2, 1) := by decide +kernel
theorem dX12_fitting_135 : decode cX12_fitting 135 = .ok (.iload_n 2, 1) := by decide +kernel
theorem dX12_fitting_136 : decode cX12_fitting 136 = .ok (.aload_n 0, 1) := by decide +kernel
theorem dX12_fitting_137 : decode cX12_fitting 137 = .ok (.getfield 369, 3) := by decide +kernel
theorem dX12_fitting_140 : decode cX12_fitting 140 = .ok (.getfield 336, 3) := by decide +kernel
theorem dX12_fitting_143 : decode cX12_fitting 143 = .ok (.if_icmp .ge 37, 3) := by decide +kernel
theorem dX12_fitting_146 : decode cX12_fitting 146 = .ok (.aload_n 0, 1) := by decide +kernel
theorem dX12_fitting_147 : decode cX12_fitting 147 = .ok (.getfield 36, 3) := by decide +kernel
theorem dX12_fitting_150 : decode cX12_fitting 150 = .ok (.aload_n 0, 1) := by decide +kernel
theorem dX12_fitting_151 : decode cX12_fitting 151 = .ok (.getfield 369, 3) := by decide +kernel
theorem dX12_fitting_154 : decode cX12_fitting 154 = .ok (.getfield 333, 3) := by decide +kernel
theorem dX12_fitting_157 : decode cX12_fitting 157 = .ok (.iload_n 2, 1) := by decide +kernel
theorem dX12_fitting_158 : decode cX12_fitting 158 = .ok (.iaload, 1) := by decide +kernel
theorem dX12_fitting_159 : decode cX12_fitting 159 = .ok (.dup2, 1) := by decide +kernel
theorem dX12_fitting_160 : decode cX12_fitting 160 = .ok (.iaload, 1) := by decide +kernel
theorem dX12_fitting_161 : decode cX12_fitting 161 = .ok (.iconst 1, 1) := by decide +kernel
theorem dX12_fitting_162 : decode cX12_fitting 162 = .ok (.aload_n 0, 1) := by decide +kernel
theorem dX12_fitting_163 : decode cX12_fitting 163 = .ok (.getfield 33, 3) := by decide +kernel
theorem dX12_fitting_166 : decode cX12_fitting 166 = .ok (.iload_n 2, 1) := by decide +kernel
theorem dX12_fitting_167 : decode cX12_fitting 167 = .ok (.iaload, 1) := by decide +kernel
theorem dX12_fitting_168 : decode cX12_fitting 168 = .ok (.invokestatic 430, 3) := by decide +kernel
theorem dX12_fitting_171 : decode cX12_fitting 171 = .ok (.ishl, 1) := by decide +kernel
theorem dX12_fitting_172 : decode cX12_fitting 172 = .ok (.ior, 1) := by decide +kernel
theorem dX12_fitting_173 : decode cX12_fitting 173 = .ok (.iastore, 1) := by decide +kernel
theorem dX12_fitting_174 : decode cX12_fitting 174 = .ok (.iinc 2 1, 3) := by decide +kernel
theorem dX12_fitting_177 : decode cX12_fitting 177 = .ok (.goto (-42), 3) := by decide +kernel
theorem dX12_fitting_180 : decode cX12_fitting 180 = .ok (.goto (-146), 3) := by decide +kernel
theorem dX12_fitting_183 : decode cX12_fitting 183 = .ok (.return_, 1) := by decide +kernel
theorem dX12_isFound_0 : decode cX12_isFound 0 = .ok (.aload_n 0, 1) := by decide +kernel
theorem dX12_isFound_1 : decode cX12_isFound 1 = .ok (.getfield 369, 3) := by decide +kernel
theorem dX12_isFound_4 : decode cX12_isFound 4 = .ok (.getfield 333, 3) := by decide +kernel
theorem dX12_isFound_7 : decode cX12_isFound 7 = .ok (.iload_n 1, 1) := by decide +kernel
theorem dX12_isFound_8 : decode cX12_isFound 8 = .ok (.iaload, 1) := by decide +kernel
theorem dX12_isFound_9 : decode cX12_isFound 9 = .ok (.istore_n 2, 1) := by decide +kernel
theorem dX12_isFound_10 : decode cX12_isFound 10 = .ok (.aload_n 0, 1) := by decide +kernel
theorem dX12_isFound_11 : decode cX12_isFound 11 = .ok (.getfield 33, 3) := by decide +kernel
theorem dX12_isFound_14 : decode cX12_isFound 14 = .ok (.iload_n 1, 1) := by decide +kernel
theorem dX12_isFound_15 : decode cX12_isFound 15 = .ok (.iaload, 1) := by decide +kernel
theorem dX12_isFound_16 : decode cX12_isFound 16 = .ok (.invokestatic 433, 3) := by decide +kernel
theorem dX12_isFound_19 : decode cX12_isFound 19 = .ok (.aload_n 0, 1) := by decide +kernel
theorem dX12_isFound_20 : decode cX12_isFound 20 = .ok (.getfield 369, 3) := by decide +kernel
theorem dX12_isFound_23 : decode cX12_isFound 23 = .ok (.getfield 251, 3) := by decide +kernel
theorem dX12_isFound_26 : decode cX12_isFound 26 = .ok (.iload_n 2, 1) := by decide +kernel
theorem dX12_isFound_27 : decode cX12_isFound 27 = .ok (.iaload, 1) := by decide +kernel
theorem dX12_isFound_28 : decode cX12_isFound 28 = .ok (.if_icmp .ne 29, 3) := by decide +kernel
theorem dX12_isFound_31 : decode cX12_isFound 31 = .ok (.aload_n 0, 1) := by decide +kernel
theorem dX12_isFound_32 : decode cX12_isFound 32 = .ok (.iload_n 2, 1) := by decide +kernel
theorem dX12_isFound_33 : decode cX12_isFound 33 = .ok (.aload_n 0, 1) := by decide +kernel
theorem dX12_isFound_34 : decode cX12_isFound 34 = .ok (.getfield 33, 3) := by decide +kernel
theorem dX12_isFound_37 : decode cX12_isFound 37 = .ok (.iload_n 1, 1) := by decide +kernel
theorem dX12_isFound_38 : decode cX12_isFound 38 = .ok (.iaload, 1) := by decide +kernel
theorem dX12_isFound_39 : decode cX12_isFound 39 = .ok (.invokevirtual 446, 3) := by decide +kernel
theorem dX12_isFound_42 : decode cX12_isFound 42 = .ok (.ifCond .eq 15, 3) := by decide +kernel
theorem dX12_isFound_45 : decode cX12_isFound 45 = .ok (.aload_n 0, 1) := by decide +kernel
theorem dX12_isFound_46 : decode cX12_isFound 46 = .ok (.iload_n 1, 1) := by decide +kernel
theorem dX12_isFound_47 : decode cX12_isFound 47 = .ok (.invokevirtual 450, 3) := by decide +kernel
theorem dX12_isFound_50 : decode cX12_isFound 50 = .ok (.ifCond .eq 7, 3) := by decide +kernel
theorem dX12_isFound_53 : decode cX12_isFound 53 = .ok (.iconst 1, 1) := by decide +kernel
theorem dX12_isFound_54 : decode cX12_isFound 54 = .ok (.goto 4, 3) := by decide +kernel
theorem dX12_isFound_57 : decode cX12_isFound 57 = .ok (.iconst 0, 1) := by decide +kernel
theorem dX12_isFound_58 : decode cX12_isFound 58 = .ok (.ireturn, 1) := by decide +kernel
theorem dX12_fits_0 : decode cX12_fits 0 = .ok (.aload_n 0, 1) := by decide +kernel
theorem dX12_fits_1 : decode cX12_fits 1 = .ok (.iconst 0, 1) := by decide +kernel
theorem dX12_fits_2 : decode cX12_fits 2 = .ok (.putfield 48, 3) := by decide +kernel
theorem dX12_fits_5 : decode cX12_fits 5 = .ok (.aload_n 0, 1) := by decide +kernel
theorem dX12_fits_6 : decode cX12_fits 6 = .ok (.getfield 369, 3) := by decide +kernel
theorem dX12_fits_9 : decode cX12_fits 9 = .ok (.ifnonnull 9, 3) := by decide +kernel
theorem dX12_fits_12 : decode cX12_fits 12 = .ok (.aload_n 0, 1) := by decide +kernel
theorem dX12_fits_13 : decode cX12_fits 13 = .ok (.iconst 1, 1) := by decide +kernel
theorem dX12_fits_14 : decode cX12_fits 14 = .ok (.invokevirtual 54, 3) := by decide +kernel
theorem dX12_fits_17 : decode cX12_fits 17 = .ok (.ireturn, 1) := by decide +kernel
theorem dX12_fits_18 : decode cX12_fits 18 = .ok (.aload_n 0, 1) := by decide +kernel
theorem dX12_fits_19 : decode cX12_fits 19 = .ok (.getfield 369, 3) := by decide +kernel
theorem dX12_fits_22 : decode cX12_fits 22 = .ok (.getfield 336, 3) := by decide +kernel
theorem dX12_fits_25 : decode cX12_fits 25 = .ok (.ifCond .ne 10, 3) := by decide +kernel
theorem dX12_fits_28 : decode cX12_fits 28 = .ok (.aload_n 0, 1) := by decide +kernel
theorem dX12_fits_29 : decode cX12_fits 29 = .ok (.bipush 6, 2) := by decide +kernel
theorem dX12_fits_31 : decode cX12_fits 31 = .ok (.invokevirtual 54, 3) := by decide +kernel
theorem dX12_fits_34 : decode cX12_fits 34 = .ok (.ireturn, 1) := by decide +kernel
theorem dX12_fits_35 : decode cX12_fits 35 = .ok (.aload_n 0, 1) := by decide +kernel
theorem dX12_fits_36 : decode cX12_fits 36 = .ok (.invokevirtual 467, 3) := by decide +kernel
theorem dX12_fits_39 : decode cX12_fits 39 = .ok (.aload_n 0, 1) := by decide +kernel
theorem dX12_fits_40 : decode cX12_fits 40 = .ok (.aload_n 0, 1) := by decide +kernel
theorem dX12_fits_41 : decode cX12_fits 41 = .ok (.getfield 461, 3) := by decide +kernel
theorem dX12_fits_44 : decode cX12_fits 44 = .ok (.invokevirtual 58, 3) := by decide +kernel
theorem dX12_fits_47 : decode cX12_fits 47 = .ok (.ireturn, 1) := by decide +kernel
theorem dX12_isFoundThing_0 : decode cX12_isFoundThing 0 = .ok (.aload_n 0, 1) := by decide +kernel
theorem dX12_isFoundThing_1 : decode cX12_isFoundThing 1 = .ok (.iload_n 1, 1) := by decide +kernel
theorem dX12_isFoundThing_2 : decode cX12_isFoundThing 2 = .ok (.invokevirtual 405, 3) := by decide +kernel
theorem dX12_isFoundThing_5 : decode cX12_isFoundThing 5 = .ok (.ifCond .eq 21, 3) := by decide +kernel
theorem dX12_isFoundThing_8 : decode cX12_isFoundThing 8 = .ok (.aload_n 0, 1) := by decide +kernel
theorem dX12_isFoundThing_9 : decode cX12_isFoundThing 9 = .ok (.getfield 369, 3) := by decide +kernel
theorem dX12_isFoundThing_12 : decode cX12_isFoundThing 12 = .ok (.getfield 251, 3) := by decide +kernel
theorem dX12_isFoundThing_15 : decode cX12_isFoundThing 15 = .ok (.iload_n 1, 1) := by decide +kernel
theorem dX12_isFoundThing_16 : decode cX12_isFoundThing 16 = .ok (.iaload, 1) := by decide +kernel
theorem dX12_isFoundThing_17 : decode cX12_isFoundThing 17 = .ok (.bipush (-2), 2) := by decide +kernel
theorem dX12_isFoundThing_19 : decode cX12_isFoundThing 19 = .ok (.if_icmp .eq 7, 3) := by decide +kernel
theorem dX12_isFoundThing_22 : decode cX12_isFoundThing 22 = .ok (.iconst 1, 1) := by decide +kernel
theorem dX12_isFoundThing_23 : decode cX12_isFoundThing 23 = .ok (.goto 4, 3) := by decide +kernel
theorem dX12_isFoundThing_26 : decode cX12_isFoundThing 26 = .ok (.iconst 0, 1) := by decide +kernel
theorem dX12_isFoundThing_27 : decode cX12_isFoundThing 27 = .ok (.ireturn, 1) := by decide +kernel
theorem dX12_could_0 : decode cX12_could 0 = .ok (.aload_n 0, 1) := by decide +kernel
theorem dX12_could_1 : decode cX12_could 1 = .ok (.iconst 0, 1) := by decide +kernel
theorem dX12_could_2 : decode cX12_could 2 = .ok (.putfield 48, 3) := by decide +kernel
theorem dX12_could_5 : decode cX12_could 5 = .ok (.aload_n 0, 1) := by decide +kernel
theorem dX12_could_6 : decode cX12_could 6 = .ok (.iload_n 1, 1) := by decide +kernel
theorem dX12_could_7 : decode cX12_could 7 = .ok (.invokevirtual 470, 3) := by decide +kernel
theorem dX12_could_10 : decode cX12_could 10 = .ok (.ifCond .ne 9, 3) := by decide +kernel
theorem dX12_could_13 : decode cX12_could 13 = .ok (.aload_n 0, 1) := by decide +kernel
theorem dX12_could_14 : decode cX12_could 14 = .ok (.iconst 1, 1) := by decide +kernel
theorem dX12_could_15 : decode cX12_could 15 = .ok (.invokevirtual 54, 3) := by decide +kernel
theorem dX12_could_18 : decode cX12_could 18 = .ok (.ireturn, 1) := by decide +kernel
theorem dX12_could_19 : decode cX12_could 19 = .ok (.aload_n 0, 1) := by decide +kernel
theorem dX12_could_20 : decode cX12_could 20 = .ok (.invokevirtual 467, 3) := by decide +kernel
theorem dX12_could_23 : decode cX12_could 23 = .ok (.aload_n 0, 1) := by decide +kernel
theorem dX12_could_24 : decode cX12_could 24 = .ok (.aload_n 0, 1) := by decide +kernel
theorem dX12_could_25 : decode cX12_could 25 = .ok (.getfield 36, 3) := by decide +kernel
theorem dX12_could_28 : decode cX12_could 28 = .ok (.iload_n 1, 1) := by decide +kernel
theorem dX12_could_29 : decode cX12_could 29 = .ok (.iaload, 1) := by decide +kernel
theorem dX12_could_30 : decode cX12_could 30 = .ok (.invokevirtual 58, 3) := by decide +kernel
theorem dX12_could_33 : decode cX12_could 33 = .ok (.ireturn, 1) := by decide +kernel
theorem dX12_surely_0 : decode cX12_surely 0 = .ok (.aload_n 0, 1) := by decide +kernel
theorem dX12_surely_1 : decode cX12_surely 1 = .ok (.iconst 0, 1) := by decide +kernel
theorem dX12_surely_2 : decode cX12_surely 2 = .ok (.putfield 48, 3) := by decide +kernel
theorem dX12_surely_5 : decode cX12_surely 5 = .ok (.aload_n 0, 1) := by decide +kernel
theorem dX12_surely_6 : decode cX12_surely 6 = .ok (.iload_n 1, 1) := by decide +kernel
theorem dX12_surely_7 : decode cX12_surely 7 = .ok (.invokevirtual 470, 3) := by decide +kernel
theorem dX12_surely_10 : decode cX12_surely 10 = .ok (.ifCond .ne 9, 3) := by decide +kernel
theorem dX12_surely_13 : decode cX12_surely 13 = .ok (.aload_n 0, 1) := by decide +kernel
theorem dX12_surely_14 : decode cX12_surely 14 = .ok (.iconst 1, 1) := by decide +kernel
theorem dX12_surely_15 : decode cX12_surely 15 = .ok (.invokevirtual 54, 3) := by decide +kernel
theorem dX12_surely_18 : decode cX12_surely 18 = .ok (.ireturn, 1) := by decide +kernel
theorem dX12_surely_19 : decode cX12_surely 19 = .ok (.aload_n 0, 1) := by decide +kernel
theorem dX12_surely_20 : decode cX12_surely 20 = .ok (.invokevirtual 467, 3) := by decide +kernel
theorem dX12_surely_23 : decode cX12_surely 23 = .ok (.iconst 0, 1) := by decide +kernel
theorem dX12_surely_24 : decode cX12_surely 24 = .ok (.istore_n 2, 1) := by decide +kernel
theorem dX12_surely_25 : decode cX12_surely 25 = .ok (.iload_n 2, 1) := by decide +kernel
theorem dX12_surely_26 : decode cX12_surely 26 = .ok (.aload_n 0, 1) := by decide +kernel
theorem dX12_surely_27 : decode cX12_surely 27 = .ok (.getfield 369, 3) := by decide +kernel
theorem dX12_surely_30 : decode cX12_surely 30 = .ok (.getfield 207, 3) := by decide +kernel
theorem dX12_surely_33 : decode cX12_surely 33 = .ok (.if_icmp .ge 27, 3) := by decide +kernel
theorem dX12_surely_36 : decode cX12_surely 36 = .ok (.aload_n 0, 1) := by decide +kernel
theorem dX12_surely_37 : decode cX12_surely 37 = .ok (.getfield 36, 3) := by decide +kernel
theorem dX12_surely_40 : decode cX12_surely 40 = .ok (.iload_n 1, 1) := by decide +kernel
theorem dX12_surely_41 : decode cX12_surely 41 = .ok (.iaload, 1) := by decide +kernel
theorem dX12_surely_42 : decode cX12_surely 42 = .ok (.iconst 1, 1) := by decide +kernel
theorem dX12_surely_43 : decode cX12_surely 43 = .ok (.iload_n 2, 1) := by decide +kernel
theorem dX12_surely_44 : decode cX12_surely 44 = .ok (.ishl, 1) := by decide +kernel
theorem dX12_surely_45 : decode cX12_surely 45 = .ok (.if_icmp .ne 9, 3) := by decide +kernel
theorem dX12_surely_48 : decode cX12_surely 48 = .ok (.aload_n 0, 1) := by decide +kernel
theorem dX12_surely_49 : decode cX12_surely 49 = .ok (.iload_n 2, 1) := by decide +kernel
theorem dX12_surely_50 : decode cX12_surely 50 = .ok (.invokevirtual 58, 3) := by decide +kernel
theorem dX12_surely_53 : decode cX12_surely 53 = .ok (.ireturn, 1) := by decide +kernel
theorem dX12_surely_54 : decode cX12_surely 54 = .ok (.iinc 2 1, 3) := by decide +kernel
theorem dX12_surely_57 : decode cX12_surely 57 = .ok (.goto (-32), 3) := by decide +kernel
theorem dX12_surely_60 : decode cX12_surely 60 = .ok (.aload_n 0, 1) := by decide +kernel
theorem dX12_surely_61 : decode cX12_surely 61 = .ok (.bipush (-2), 2) := by decide +kernel
theorem dX12_surely_63 : decode cX12_surely 63 = .ok (.invokevirtual 58, 3) := by decide +kernel
theorem dX12_surely_66 : decode cX12_surely 66 = .ok (.ireturn, 1) := by decide +kernel
theorem dX12_ranks_0 : decode cX12_ranks 0 = .ok (.iconst 0, 1) := by decide +kernel
theorem dX12_ranks_1 : decode cX12_ranks 1 = .ok (.istore_n 1, 1) := by decide +kernel
theorem dX12_ranks_2 : decode cX12_ranks 2 = .ok (.iload_n 1, 1) := by decide +kernel
theorem dX12_ranks_3 : decode cX12_ranks 3 = .ok (.aload_n 0, 1) := by decide +kernel
theorem dX12_ranks_4 : decode cX12_ranks 4 = .ok (.getfield 369, 3) := by decide +kernel
theorem dX12_ranks_7 : decode cX12_ranks 7 = .ok (.getfield 297, 3) := by decide +kernel
theorem dX12_ranks_10 : decode cX12_ranks 10 = .ok (.if_icmp .ge 70, 3) := by decide +kernel
theorem dX12_ranks_13 : decode cX12_ranks 13 = .ok (.iload_n 1, 1) := by decide +kernel
theorem dX12_ranks_14 : decode cX12_ranks 14 = .ok (.istore_n 2, 1) := by decide +kernel
theorem dX12_ranks_15 : decode cX12_ranks 15 = .ok (.iload_n 2, 1) := by decide +kernel
theorem dX12_ranks_16 : decode cX12_ranks 16 = .ok (.ifCond .le 51, 3) := by decide +kernel
theorem dX12_ranks_19 : decode cX12_ranks 19 = .ok (.aload_n 0, 1) := by decide +kernel
theorem dX12_ranks_20 : decode cX12_ranks 20 = .ok (.getfield 369, 3) := by decide +kernel
theorem dX12_ranks_23 : decode cX12_ranks 23 = .ok (.getfield 306, 3) := by decide +kernel
theorem dX12_ranks_26 : decode cX12_ranks 26 = .ok (.aload_n 0, 1) := by decide +kernel
theorem dX12_ranks_27 : decode cX12_ranks 27 = .ok (.getfield 39, 3) := by decide +kernel
theorem dX12_ranks_30 : decode cX12_ranks 30 = .ok (.iload_n 2, 1) := by decide +kernel
theorem dX12_ranks_31 : decode cX12_ranks 31 = .ok (.iconst 1, 1) := by decide +kernel
theorem dX12_ranks_32 : decode cX12_ranks 32 = .ok (.isub, 1) := by decide +kernel
theorem dX12_ranks_33 : decode cX12_ranks 33 = .ok (.iaload, 1) := by decide +kernel
theorem dX12_ranks_34 : decode cX12_ranks 34 = .ok (.iaload, 1) := by decide +kernel
theorem dX12_ranks_35 : decode cX12_ranks 35 = .ok (.aload_n 0, 1) := by decide +kernel
theorem dX12_ranks_36 : decode cX12_ranks 36 = .ok (.getfield 369, 3) := by decide +kernel
theorem dX12_ranks_39 : decode cX12_ranks 39 = .ok (.getfield 306, 3) := by decide +kernel
theorem dX12_ranks_42 : decode cX12_ranks 42 = .ok (.iload_n 1, 1) := by decide +kernel
theorem dX12_ranks_43 : decode cX12_ranks 43 = .ok (.iaload, 1) := by decide +kernel
theorem dX12_ranks_44 : decode cX12_ranks 44 = .ok (.if_icmp .ge 23, 3) := by decide +kernel
theorem dX12_ranks_47 : decode cX12_ranks 47 = .ok (.aload_n 0, 1) := by decide +kernel
theorem dX12_ranks_48 : decode cX12_ranks 48 = .ok (.getfield 39, 3) := by decide +kernel
theorem dX12_ranks_51 : decode cX12_ranks 51 = .ok (.iload_n 2, 1) := by decide +kernel
theorem dX12_ranks_52 : decode cX12_ranks 52 = .ok (.aload_n 0, 1) := by decide +kernel
theorem dX12_ranks_53 : decode cX12_ranks 53 = .ok (.getfield 39, 3) := by decide +kernel
theorem dX12_ranks_56 : decode cX12_ranks 56 = .ok (.iload_n 2, 1) := by decide +kernel
theorem dX12_ranks_57 : decode cX12_ranks 57 = .ok (.iconst 1, 1) := by decide +kernel
theorem dX12_ranks_58 : decode cX12_ranks 58 = .ok (.isub, 1) := by decide +kernel
theorem dX12_ranks_59 : decode cX12_ranks 59 = .ok (.iaload, 1) := by decide +kernel
theorem dX12_ranks_60 : decode cX12_ranks 60 = .ok (.iastore, 1) := by decide +kernel
theorem dX12_ranks_61 : decode cX12_ranks 61 = .ok (.iinc 2 (-1), 3) := by decide +kernel
theorem dX12_ranks_64 : decode cX12_ranks 64 = .ok (.goto (-49), 3) := by decide +kernel
theorem dX12_ranks_67 : decode cX12_ranks 67 = .ok (.aload_n 0, 1) := by decide +kernel
theorem dX12_ranks_68 : decode cX12_ranks 68 = .ok (.getfield 39, 3) := by decide +kernel
theorem dX12_ranks_71 : decode cX12_ranks 71 = .ok (.iload_n 2, 1) := by decide +kernel
theorem dX12_ranks_72 : decode cX12_ranks 72 = .ok (.iload_n 1, 1) := by decide +kernel
theorem dX12_ranks_73 : decode cX12_ranks 73 = .ok (.iastore, 1) := by decide +kernel
theorem dX12_ranks_74 : decode cX12_ranks 74 = .ok (.iinc 1 1, 3) := by decide +kernel
theorem dX12_ranks_77 : decode cX12_ranks 77 = .ok (.goto (-75), 3) := by decide +kernel
theorem dX12_ranks_80 : decode cX12_ranks 80 = .ok (.return_, 1) := by decide +kernel
theorem dX12_productOf_0 : decode cX12_productOf 0 = .ok (.lconst 1, 1) := by decide +kernel
theorem dX12_productOf_1 : decode cX12_productOf 1 = .ok (.lstore_n 2, 1) := by decide +kernel
theorem dX12_productOf_2 : decode cX12_productOf 2 = .ok (.iconst 0, 1) := by decide +kernel
theorem dX12_productOf_3 : decode cX12_productOf 3 = .ok (.istore 4, 2) := by decide +kernel
theorem dX12_productOf_5 : decode cX12_productOf 5 = .ok (.iload 4, 2) := by decide +kernel
theorem dX12_productOf_7 : decode cX12_productOf 7 = .ok (.iload_n 1, 1) := by decide +kernel
theorem dX12_productOf_8 : decode cX12_productOf 8 = .ok (.if_icmp .ge 28, 3) := by decide +kernel
theorem dX12_productOf_11 : decode cX12_productOf 11 = .ok (.lload_n 2, 1) := by decide +kernel
theorem dX12_productOf_12 : decode cX12_productOf 12 = .ok (.aload_n 0, 1) := by decide +kernel
theorem dX12_productOf_13 : decode cX12_productOf 13 = .ok (.getfield 369, 3) := by decide +kernel
theorem dX12_productOf_16 : decode cX12_productOf 16 = .ok (.getfield 306, 3) := by decide +kernel
theorem dX12_productOf_19 : decode cX12_productOf 19 = .ok (.aload_n 0, 1) := by decide +kernel
theorem dX12_productOf_20 : decode cX12_productOf 20 = .ok (.getfield 39, 3) := by decide +kernel
theorem dX12_productOf_23 : decode cX12_productOf 23 = .ok (.iload 4, 2) := by decide +kernel
theorem dX12_productOf_25 : decode cX12_productOf 25 = .ok (.iaload, 1) := by decide +kernel
theorem dX12_productOf_26 : decode cX12_productOf 26 = .ok (.iaload, 1) := by decide +kernel
theorem dX12_productOf_27 : decode cX12_productOf 27 = .ok (.i2l, 1) := by decide +kernel
theorem dX12_productOf_28 : decode cX12_productOf 28 = .ok (.lmul, 1) := by decide +kernel
theorem dX12_productOf_29 : decode cX12_productOf 29 = .ok (.lstore_n 2, 1) := by decide +kernel
theorem dX12_productOf_30 : decode cX12_productOf 30 = .ok (.iinc 4 1, 3) := by decide +kernel
theorem dX12_productOf_33 : decode cX12_productOf 33 = .ok (.goto (-28), 3) := by decide +kernel
theorem dX12_productOf_36 : decode cX12_productOf 36 = .ok (.lload_n 2, 1) := by decide +kernel
theorem dX12_productOf_37 : decode cX12_productOf 37 = .ok (.lreturn, 1) := by decide +kernel
theorem dX12_sumOf_0 : decode cX12_sumOf 0 = .ok (.lconst 0, 1) := by decide +kernel
theorem dX12_sumOf_1 : decode cX12_sumOf 1 = .ok (.lstore_n 2, 1) := by decide +kernel
theorem dX12_sumOf_2 : decode cX12_sumOf 2 = .ok (.iconst 0, 1) := by decide +kernel
theorem dX12_sumOf_3 : decode cX12_sumOf 3 = .ok (.istore 4, 2) := by decide +kernel
theorem dX12_sumOf_5 : decode cX12_sumOf 5 = .ok (.iload 4, 2) := by decide +kernel
theorem dX12_sumOf_7 : decode cX12_sumOf 7 = .ok (.iload_n 1, 1) := by decide +kernel
theorem dX12_sumOf_8 : decode cX12_sumOf 8 = .ok (.if_icmp .ge 34, 3) := by decide +kernel
theorem dX12_sumOf_11 : decode cX12_sumOf 11 = .ok (.lload_n 2, 1) := by decide +kernel
theorem dX12_sumOf_12 : decode cX12_sumOf 12 = .ok (.aload_n 0, 1) := by decide +kernel
theorem dX12_sumOf_13 : decode cX12_sumOf 13 = .ok (.iload_n 1, 1) := by decide +kernel
theorem dX12_sumOf_14 : decode cX12_sumOf 14 = .ok (.invokevirtual 473, 3) := by decide +kernel
theorem dX12_sumOf_17 : decode cX12_sumOf 17 = .ok (.aload_n 0, 1) := by decide +kernel
theorem dX12_sumOf_18 : decode cX12_sumOf 18 = .ok (.getfield 369, 3) := by decide +kernel
theorem dX12_sumOf_21 : decode cX12_sumOf 21 = .ok (.getfield 306, 3) := by decide +kernel
theorem dX12_sumOf_24 : decode cX12_sumOf 24 = .ok (.aload_n 0, 1) := by decide +kernel
theorem dX12_sumOf_25 : decode cX12_sumOf 25 = .ok (.getfield 39, 3) := by decide +kernel
theorem dX12_sumOf_28 : decode cX12_sumOf 28 = .ok (.iload 4, 2) := by decide +kernel
theorem dX12_sumOf_30 : decode cX12_sumOf 30 = .ok (.iaload, 1) := by decide +kernel
theorem dX12_sumOf_31 : decode cX12_sumOf 31 = .ok (.iaload, 1) := by decide +kernel
theorem dX12_sumOf_32 : decode cX12_sumOf 32 = .ok (.i2l, 1) := by decide +kernel
theorem dX12_sumOf_33 : decode cX12_sumOf 33 = .ok (.ldiv, 1) := by decide +kernel
theorem dX12_sumOf_34 : decode cX12_sumOf 34 = .ok (.ladd, 1) := by decide +kernel
theorem dX12_sumOf_35 : decode cX12_sumOf 35 = .ok (.lstore_n 2, 1) := by decide +kernel
theorem dX12_sumOf_36 : decode cX12_sumOf 36 = .ok (.iinc 4 1, 3) := by decide +kernel
theorem dX12_sumOf_39 : decode cX12_sumOf 39 = .ok (.goto (-34), 3) := by decide +kernel
theorem dX12_sumOf_42 : decode cX12_sumOf 42 = .ok (.lload_n 2, 1) := by decide +kernel
theorem dX12_sumOf_43 : decode cX12_sumOf 43 = .ok (.lreturn, 1) := by decide +kernel
theorem dX12_lots_0 : decode cX12_lots 0 = .ok (.aload_n 0, 1) := by decide +kernel
theorem dX12_lots_1 : decode cX12_lots 1 = .ok (.invokevirtual 477, 3) := by decide +kernel
theorem dX12_lots_4 : decode cX12_lots 4 = .ok (.aload_n 0, 1) := by decide +kernel
theorem dX12_lots_5 : decode cX12_lots 5 = .ok (.iconst 1, 1) := by decide +kernel
theorem dX12_lots_6 : decode cX12_lots 6 = .ok (.putfield 480, 3) := by decide +kernel
theorem dX12_lots_9 : decode cX12_lots 9 = .ok (.aload_n 0, 1) := by decide +kernel
theorem dX12_lots_10 : decode cX12_lots 10 = .ok (.lconst 0, 1) := by decide +kernel
theorem dX12_lots_11 : decode cX12_lots 11 = .ok (.putfield 483, 3) := by decide +kernel
theorem dX12_lots_14 : decode cX12_lots 14 = .ok (.aload_n 0, 1) := by decide +kernel
theorem dX12_lots_15 : decode cX12_lots 15 = .ok (.lconst 1, 1) := by decide +kernel
theorem dX12_lots_16 : decode cX12_lots 16 = .ok (.putfield 486, 3) := by decide +kernel
theorem dX12_lots_19 : decode cX12_lots 19 = .ok (.iconst 2, 1) := by decide +kernel
theorem dX12_lots_20 : decode cX12_lots 20 = .ok (.istore_n 1, 1) := by decide +kernel
theorem dX12_lots_21 : decode cX12_lots 21 = .ok (.iload_n 1, 1) := by decide +kernel
theorem dX12_lots_22 : decode cX12_lots 22 = .ok (.aload_n 0, 1) := by decide +kernel
theorem dX12_lots_23 : decode cX12_lots 23 = .ok (.getfield 369, 3) := by decide +kernel
theorem dX12_lots_26 : decode cX12_lots 26 = .ok (.getfield 297, 3) := by decide +kernel
theorem dX12_lots_29 : decode cX12_lots 29 = .ok (.if_icmp .gt 63, 3) := by decide +kernel
theorem dX12_lots_32 : decode cX12_lots 32 = .ok (.iload_n 1, 1) := by decide +kernel
theorem dX12_lots_33 : decode cX12_lots 33 = .ok (.iconst 1, 1) := by decide +kernel
theorem dX12_lots_34 : decode cX12_lots 34 = .ok (.isub, 1) := by decide +kernel
theorem dX12_lots_35 : decode cX12_lots 35 = .ok (.i2l, 1) := by decide +kernel
theorem dX12_lots_36 : decode cX12_lots 36 = .ok (.aload_n 0, 1) := by decide +kernel
theorem dX12_lots_37 : decode cX12_lots 37 = .ok (.iload_n 1, 1) := by decide +kernel
theorem dX12_lots_38 : decode cX12_lots 38 = .ok (.invokevirtual 473, 3) := by decide +kernel
theorem dX12_lots_41 : decode cX12_lots 41 = .ok (.lmul, 1) := by decide +kernel
theorem dX12_lots_42 : decode cX12_lots 42 = .ok (.lstore_n 2, 1) := by decide +kernel
theorem dX12_lots_43 : decode cX12_lots 43 = .ok (.aload_n 0, 1) := by decide +kernel
theorem dX12_lots_44 : decode cX12_lots 44 = .ok (.iload_n 1, 1) := by decide +kernel
theorem dX12_lots_45 : decode cX12_lots 45 = .ok (.invokevirtual 489, 3) := by decide +kernel
theorem dX12_lots_48 : decode cX12_lots 48 = .ok (.lstore 4, 2) := by decide +kernel
theorem dX12_lots_50 : decode cX12_lots 50 = .ok (.lload_n 2, 1) := by decide +kernel
theorem dX12_lots_51 : decode cX12_lots 51 = .ok (.aload_n 0, 1) := by decide +kernel
theorem dX12_lots_52 : decode cX12_lots 52 = .ok (.getfield 486, 3) := by decide +kernel
theorem dX12_lots_55 : decode cX12_lots 55 = .ok (.lmul, 1) := by decide +kernel
theorem dX12_lots_56 : decode cX12_lots 56 = .ok (.aload_n 0, 1) := by decide +kernel
theorem dX12_lots_57 : decode cX12_lots 57 = .ok (.getfield 483, 3) := by decide +kernel
theorem dX12_lots_60 : decode cX12_lots 60 = .ok (.lload 4, 2) := by decide +kernel
theorem dX12_lots_62 : decode cX12_lots 62 = .ok (.lmul, 1) := by decide +kernel
theorem dX12_lots_63 : decode cX12_lots 63 = .ok (.lcmp, 1) := by decide +kernel
theorem dX12_lots_64 : decode cX12_lots 64 = .ok (.ifCond .gt 6, 3) := by decide +kernel
theorem dX12_lots_67 : decode cX12_lots 67 = .ok (.goto 19, 3) := by decide +kernel
theorem dX12_lots_70 : decode cX12_lots 70 = .ok (.aload_n 0, 1) := by decide +kernel
theorem dX12_lots_71 : decode cX12_lots 71 = .ok (.iload_n 1, 1) := by decide +kernel
theorem dX12_lots_72 : decode cX12_lots 72 = .ok (.putfield 480, 3) := by decide +kernel
theorem dX12_lots_75 : decode cX12_lots 75 = .ok (.aload_n 0, 1) := by decide +kernel
theorem dX12_lots_76 : decode cX12_lots 76 = .ok (.lload_n 2, 1) := by decide +kernel
theorem dX12_lots_77 : decode cX12_lots 77 = .ok (.putfield 483, 3) := by decide +kernel
theorem dX12_lots_80 : decode cX12_lots 80 = .ok (.aload_n 0, 1) := by decide +kernel
theorem dX12_lots_81 : decode cX12_lots 81 = .ok (.lload 4, 2) := by decide +kernel
theorem dX12_lots_83 : decode cX12_lots 83 = .ok (.putfield 486, 3) := by decide +kernel
theorem dX12_lots_86 : decode cX12_lots 86 = .ok (.iinc 1 1, 3) := by decide +kernel
theorem dX12_lots_89 : decode cX12_lots 89 = .ok (.goto (-68), 3) := by decide +kernel
theorem dX12_lots_92 : decode cX12_lots 92 = .ok (.return_, 1) := by decide +kernel
theorem dX12_value_0 : decode cX12_value 0 = .ok (.aload_n 0, 1) := by decide +kernel
theorem dX12_value_1 : decode cX12_value 1 = .ok (.iconst 0, 1) := by decide +kernel
theorem dX12_value_2 : decode cX12_value 2 = .ok (.putfield 48, 3) := by decide +kernel
theorem dX12_value_5 : decode cX12_value 5 = .ok (.aload_n 0, 1) := by decide +kernel
theorem dX12_value_6 : decode cX12_value 6 = .ok (.getfield 369, 3) := by decide +kernel
theorem dX12_value_9 : decode cX12_value 9 = .ok (.ifnonnull 10, 3) := by decide +kernel
theorem dX12_value_12 : decode cX12_value 12 = .ok (.aload_n 0, 1) := by decide +kernel
theorem dX12_value_13 : decode cX12_value 13 = .ok (.iconst 1, 1) := by decide +kernel
theorem dX12_value_14 : decode cX12_value 14 = .ok (.invokevirtual 54, 3) := by decide +kernel
theorem dX12_value_17 : decode cX12_value 17 = .ok (.i2l, 1) := by decide +kernel
theorem dX12_value_18 : decode cX12_value 18 = .ok (.lreturn, 1) := by decide +kernel
theorem dX12_value_19 : decode cX12_value 19 = .ok (.aload_n 0, 1) := by decide +kernel
theorem dX12_value_20 : decode cX12_value 20 = .ok (.getfield 369, 3) := by decide +kernel
theorem dX12_value_23 : decode cX12_value 23 = .ok (.getfield 297, 3) := by decide +kernel
theorem dX12_value_26 : decode cX12_value 26 = .ok (.ifCond .ne 11, 3) := by decide +kernel
theorem dX12_value_29 : decode cX12_value 29 = .ok (.aload_n 0, 1) := by decide +kernel
theorem dX12_value_30 : decode cX12_value 30 = .ok (.bipush 6, 2) := by decide +kernel
theorem dX12_value_32 : decode cX12_value 32 = .ok (.invokevirtual 54, 3) := by decide +kernel
theorem dX12_value_35 : decode cX12_value 35 = .ok (.i2l, 1) := by decide +kernel
theorem dX12_value_36 : decode cX12_value 36 = .ok (.lreturn, 1) := by decide +kernel
theorem dX12_value_37 : decode cX12_value 37 = .ok (.aload_n 0, 1) := by decide +kernel
theorem dX12_value_38 : decode cX12_value 38 = .ok (.invokevirtual 492, 3) := by decide +kernel
theorem dX12_value_41 : decode cX12_value 41 = .ok (.aload_n 0, 1) := by decide +kernel
theorem dX12_value_42 : decode cX12_value 42 = .ok (.aload_n 0, 1) := by decide +kernel
theorem dX12_value_43 : decode cX12_value 43 = .ok (.getfield 483, 3) := by decide +kernel
theorem dX12_value_46 : decode cX12_value 46 = .ok (.aload_n 0, 1) := by decide +kernel
theorem dX12_value_47 : decode cX12_value 47 = .ok (.getfield 486, 3) := by decide +kernel
theorem dX12_value_50 : decode cX12_value 50 = .ok (.iload_n 1, 1) := by decide +kernel
theorem dX12_value_51 : decode cX12_value 51 = .ok (.invokevirtual 495, 3) := by decide +kernel
theorem dX12_value_54 : decode cX12_value 54 = .ok (.lreturn, 1) := by decide +kernel
theorem dX12_lot_0 : decode cX12_lot 0 = .ok (.aload_n 0, 1) := by decide +kernel
theorem dX12_lot_1 : decode cX12_lot 1 = .ok (.iconst 0, 1) := by decide +kernel
theorem dX12_lot_2 : decode cX12_lot 2 = .ok (.putfield 48, 3) := by decide +kernel
theorem dX12_lot_5 : decode cX12_lot 5 = .ok (.aload_n 0, 1) := by decide +kernel
theorem dX12_lot_6 : decode cX12_lot 6 = .ok (.iload_n 1, 1) := by decide +kernel
theorem dX12_lot_7 : decode cX12_lot 7 = .ok (.invokevirtual 421, 3) := by decide +kernel
theorem dX12_lot_10 : decode cX12_lot 10 = .ok (.ifCond .ne 10, 3) := by decide +kernel
theorem dX12_lot_13 : decode cX12_lot 13 = .ok (.aload_n 0, 1) := by decide +kernel
theorem dX12_lot_14 : decode cX12_lot 14 = .ok (.iconst 1, 1) := by decide +kernel
theorem dX12_lot_15 : decode cX12_lot 15 = .ok (.invokevirtual 54, 3) := by decide +kernel
theorem dX12_lot_18 : decode cX12_lot 18 = .ok (.i2l, 1) := by decide +kernel
theorem dX12_lot_19 : decode cX12_lot 19 = .ok (.lreturn, 1) := by decide +kernel
theorem dX12_lot_20 : decode cX12_lot 20 = .ok (.aload_n 0, 1) := by decide +kernel
theorem dX12_lot_21 : decode cX12_lot 21 = .ok (.invokevirtual 492, 3) := by decide +kernel
theorem dX12_lot_24 : decode cX12_lot 24 = .ok (.iconst 0, 1) := by decide +kernel
theorem dX12_lot_25 : decode cX12_lot 25 = .ok (.istore_n 3, 1) := by decide +kernel
theorem dX12_lot_26 : decode cX12_lot 26 = .ok (.iload_n 3, 1) := by decide +kernel
theorem dX12_lot_27 : decode cX12_lot 27 = .ok (.aload_n 0, 1) := by decide +kernel
theorem dX12_lot_28 : decode cX12_lot 28 = .ok (.getfield 480, 3) := by decide +kernel
theorem dX12_lot_31 : decode cX12_lot 31 = .ok (.if_icmp .ge 52, 3) := by decide +kernel
theorem dX12_lot_34 : decode cX12_lot 34 = .ok (.aload_n 0, 1) := by decide +kernel
theorem dX12_lot_35 : decode cX12_lot 35 = .ok (.getfield 39, 3) := by decide +kernel
theorem dX12_lot_38 : decode cX12_lot 38 = .ok (.iload_n 3, 1) := by decide +kernel
theorem dX12_lot_39 : decode cX12_lot 39 = .ok (.iaload, 1) := by decide +kernel
theorem dX12_lot_40 : decode cX12_lot 40 = .ok (.iload_n 1, 1) := by decide +kernel
theorem dX12_lot_41 : decode cX12_lot 41 = .ok (.if_icmp .ne 36, 3) := by decide +kernel
theorem dX12_lot_44 : decode cX12_lot 44 = .ok (.aload_n 0, 1) := by decide +kernel
theorem dX12_lot_45 : decode cX12_lot 45 = .ok (.aload_n 0, 1) := by decide +kernel
theorem dX12_lot_46 : decode cX12_lot 46 = .ok (.aload_n 0, 1) := by decide +kernel
theorem dX12_lot_47 : decode cX12_lot 47 = .ok (.getfield 480, 3) := by decide +kernel
theorem dX12_lot_50 : decode cX12_lot 50 = .ok (.invokevirtual 473, 3) := by decide +kernel
theorem dX12_lot_53 : decode cX12_lot 53 = .ok (.aload_n 0, 1) := by decide +kernel
theorem dX12_lot_54 : decode cX12_lot 54 = .ok (.getfield 369, 3) := by decide +kernel
theorem dX12_lot_57 : decode cX12_lot 57 = .ok (.getfield 306, 3) := by decide +kernel
theorem dX12_lot_60 : decode cX12_lot 60 = .ok (.iload_n 1, 1) := by decide +kernel
theorem dX12_lot_61 : decode cX12_lot 61 = .ok (.iaload, 1) := by decide +kernel
theorem dX12_lot_62 : decode cX12_lot 62 = .ok (.i2l, 1) := by decide +kernel
theorem dX12_lot_63 : decode cX12_lot 63 = .ok (.ldiv, 1) := by decide +kernel
theorem dX12_lot_64 : decode cX12_lot 64 = .ok (.aload_n 0, 1) := by decide +kernel
theorem dX12_lot_65 : decode cX12_lot 65 = .ok (.aload_n 0, 1) := by decide +kernel
theorem dX12_lot_66 : decode cX12_lot 66 = .ok (.getfield 480, 3) := by decide +kernel
theorem dX12_lot_69 : decode cX12_lot 69 = .ok (.invokevirtual 489, 3) := by decide +kernel
theorem dX12_lot_72 : decode cX12_lot 72 = .ok (.iload_n 2, 1) := by decide +kernel
theorem dX12_lot_73 : decode cX12_lot 73 = .ok (.invokevirtual 495, 3) := by decide +kernel
theorem dX12_lot_76 : decode cX12_lot 76 = .ok (.lreturn, 1) := by decide +kernel
theorem dX12_lot_77 : decode cX12_lot 77 = .ok (.iinc 3 1, 3) := by decide +kernel
theorem dX12_lot_80 : decode cX12_lot 80 = .ok (.goto (-54), 3) := by decide +kernel
theorem dX12_lot_83 : decode cX12_lot 83 = .ok (.aload_n 0, 1) := by decide +kernel
theorem dX12_lot_84 : decode cX12_lot 84 = .ok (.lconst 0, 1) := by decide +kernel
theorem dX12_lot_85 : decode cX12_lot 85 = .ok (.lconst 1, 1) := by decide +kernel
theorem dX12_lot_86 : decode cX12_lot 86 = .ok (.iload_n 2, 1) := by decide +kernel
theorem dX12_lot_87 : decode cX12_lot 87 = .ok (.invokevirtual 495, 3) := by decide +kernel
theorem dX12_lot_90 : decode cX12_lot 90 = .ok (.lreturn, 1) := by decide +kernel
theorem dX12_shareOf_0 : decode cX12_shareOf 0 = .ok (.iconst 0, 1) := by decide +kernel
theorem dX12_shareOf_1 : decode cX12_shareOf 1 = .ok (.istore 4, 2) := by decide +kernel
theorem dX12_shareOf_3 : decode cX12_shareOf 3 = .ok (.iconst 0, 1) := by decide +kernel
theorem dX12_shareOf_4 : decode cX12_shareOf 4 = .ok (.istore 5, 2) := by decide +kernel
theorem dX12_shareOf_6 : decode cX12_shareOf 6 = .ok (.iload 5, 2) := by decide +kernel
theorem dX12_shareOf_8 : decode cX12_shareOf 8 = .ok (.aload_n 0, 1) := by decide +kernel
theorem dX12_shareOf_9 : decode cX12_shareOf 9 = .ok (.getfield 369, 3) := by decide +kernel
theorem dX12_shareOf_12 : decode cX12_shareOf 12 = .ok (.getfield 207, 3) := by decide +kernel
theorem dX12_shareOf_15 : decode cX12_shareOf 15 = .ok (.if_icmp .ge 38, 3) := by decide +kernel
theorem dX12_shareOf_18 : decode cX12_shareOf 18 = .ok (.iload 4, 2) := by decide +kernel
theorem dX12_shareOf_20 : decode cX12_shareOf 20 = .ok (.aload_n 0, 1) := by decide +kernel
theorem dX12_shareOf_21 : decode cX12_shareOf 21 = .ok (.getfield 369, 3) := by decide +kernel
theorem dX12_shareOf_24 : decode cX12_shareOf 24 = .ok (.getfield 231, 3) := by decide +kernel
theorem dX12_shareOf_27 : decode cX12_shareOf 27 = .ok (.bipush 7, 2) := by decide +kernel
theorem dX12_shareOf_29 : decode cX12_shareOf 29 = .ok (.iload 5, 2) := by decide +kernel
theorem dX12_shareOf_31 : decode cX12_shareOf 31 = .ok (.imul, 1) := by decide +kernel
theorem dX12_shareOf_32 : decode cX12_shareOf 32 = .ok (.iload_n 2, 1) := by decide +kernel
theorem dX12_shareOf_33 : decode cX12_shareOf 33 = .ok (.iadd, 1) := by decide +kernel
theorem dX12_shareOf_34 : decode cX12_shareOf 34 = .ok (.iaload, 1) := by decide +kernel
theorem dX12_shareOf_35 : decode cX12_shareOf 35 = .ok (.iload_n 1, 1) := by decide +kernel
theorem dX12_shareOf_36 : decode cX12_shareOf 36 = .ok (.if_icmp .ne 7, 3) := by decide +kernel
theorem dX12_shareOf_39 : decode cX12_shareOf 39 = .ok (.iconst 1, 1) := by decide +kernel
theorem dX12_shareOf_40 : decode cX12_shareOf 40 = .ok (.goto 4, 3) := by decide +kernel
theorem dX12_shareOf_43 : decode cX12_shareOf 43 = .ok (.iconst 0, 1) := by decide +kernel
theorem dX12_shareOf_44 : decode cX12_shareOf 44 = .ok (.iadd, 1) := by decide +kernel
theorem dX12_shareOf_45 : decode cX12_shareOf 45 = .ok (.istore 4, 2) := by decide +kernel
theorem dX12_shareOf_47 : decode cX12_shareOf 47 = .ok (.iinc 5 1, 3) := by decide +kernel
theorem dX12_shareOf_50 : decode cX12_shareOf 50 = .ok (.goto (-44), 3) := by decide +kernel
theorem dX12_shareOf_53 : decode cX12_shareOf 53 = .ok (.bipush 60, 2) := by decide +kernel
theorem dX12_shareOf_55 : decode cX12_shareOf 55 = .ok (.iload 4, 2) := by decide +kernel
theorem dX12_shareOf_57 : decode cX12_shareOf 57 = .ok (.imul, 1) := by decide +kernel
theorem dX12_shareOf_58 : decode cX12_shareOf 58 = .ok (.iload_n 3, 1) := by decide +kernel
theorem dX12_shareOf_59 : decode cX12_shareOf 59 = .ok (.idiv, 1) := by decide +kernel
theorem dX12_shareOf_60 : decode cX12_shareOf 60 = .ok (.ireturn, 1) := by decide +kernel
theorem dX12_ridersOf_0 : decode cX12_ridersOf 0 = .ok (.iconst 0, 1) := by decide +kernel
theorem dX12_ridersOf_1 : decode cX12_ridersOf 1 = .ok (.istore_n 2, 1) := by decide +kernel
theorem dX12_ridersOf_2 : decode cX12_ridersOf 2 = .ok (.iconst 0, 1) := by decide +kernel
theorem dX12_ridersOf_3 : decode cX12_ridersOf 3 = .ok (.istore_n 3, 1) := by decide +kernel
theorem dX12_ridersOf_4 : decode cX12_ridersOf 4 = .ok (.iload_n 3, 1) := by decide +kernel
theorem dX12_ridersOf_5 : decode cX12_ridersOf 5 = .ok (.aload_n 0, 1) := by decide +kernel
theorem dX12_ridersOf_6 : decode cX12_ridersOf 6 = .ok (.getfield 369, 3) := by decide +kernel
theorem dX12_ridersOf_9 : decode cX12_ridersOf 9 = .ok (.getfield 204, 3) := by decide +kernel
theorem dX12_ridersOf_12 : decode cX12_ridersOf 12 = .ok (.if_icmp .ge 27, 3) := by decide +kernel
theorem dX12_ridersOf_15 : decode cX12_ridersOf 15 = .ok (.iload_n 2, 1) := by decide +kernel
theorem dX12_ridersOf_16 : decode cX12_ridersOf 16 = .ok (.aload_n 0, 1) := by decide +kernel
theorem dX12_ridersOf_17 : decode cX12_ridersOf 17 = .ok (.getfield 42, 3) := by decide +kernel
theorem dX12_ridersOf_20 : decode cX12_ridersOf 20 = .ok (.iload_n 3, 1) := by decide +kernel
theorem dX12_ridersOf_21 : decode cX12_ridersOf 21 = .ok (.iaload, 1) := by decide +kernel
theorem dX12_ridersOf_22 : decode cX12_ridersOf 22 = .ok (.iload_n 1, 1) := by decide +kernel
theorem dX12_ridersOf_23 : decode cX12_ridersOf 23 = .ok (.if_icmp .ne 7, 3) := by decide +kernel
theorem dX12_ridersOf_26 : decode cX12_ridersOf 26 = .ok (.iconst 1, 1) := by decide +kernel
theorem dX12_ridersOf_27 : decode cX12_ridersOf 27 = .ok (.goto 4, 3) := by decide +kernel
theorem dX12_ridersOf_30 : decode cX12_ridersOf 30 = .ok (.iconst 0, 1) := by decide +kernel
theorem dX12_ridersOf_31 : decode cX12_ridersOf 31 = .ok (.iadd, 1) := by decide +kernel
theorem dX12_ridersOf_32 : decode cX12_ridersOf 32 = .ok (.istore_n 2, 1) := by decide +kernel
theorem dX12_ridersOf_33 : decode cX12_ridersOf 33 = .ok (.iinc 3 1, 3) := by decide +kernel
theorem dX12_ridersOf_36 : decode cX12_ridersOf 36 = .ok (.goto (-32), 3) := by decide +kernel
theorem dX12_ridersOf_39 : decode cX12_ridersOf 39 = .ok (.iload_n 2, 1) := by decide +kernel
theorem dX12_ridersOf_40 : decode cX12_ridersOf 40 = .ok (.ireturn, 1) := by decide +kernel
theorem dX12_isRest_0 : decode cX12_isRest 0 = .ok (.iconst 0, 1) := by decide +kernel
theorem dX12_isRest_1 : decode cX12_isRest 1 = .ok (.istore_n 2, 1) := by decide +kernel
theorem dX12_isRest_2 : decode cX12_isRest 2 = .ok (.iload_n 2, 1) := by decide +kernel
theorem dX12_isRest_3 : decode cX12_isRest 3 = .ok (.aload_n 0, 1) := by decide +kernel
theorem dX12_isRest_4 : decode cX12_isRest 4 = .ok (.getfield 369, 3) := by decide +kernel
theorem dX12_isRest_7 : decode cX12_isRest 7 = .ok (.getfield 204, 3) := by decide +kernel
theorem dX12_isRest_10 : decode cX12_isRest 10 = .ok (.if_icmp .ge 84, 3) := by decide +kernel
theorem dX12_isRest_13 : decode cX12_isRest 13 = .ok (.aload_n 0, 1) := by decide +kernel
theorem dX12_isRest_14 : decode cX12_isRest 14 = .ok (.aload_n 0, 1) := by decide +kernel
theorem dX12_isRest_15 : decode cX12_isRest 15 = .ok (.getfield 42, 3) := by decide +kernel
theorem dX12_isRest_18 : decode cX12_isRest 18 = .ok (.iload_n 2, 1) := by decide +kernel
theorem dX12_isRest_19 : decode cX12_isRest 19 = .ok (.iaload, 1) := by decide +kernel
theorem dX12_isRest_20 : decode cX12_isRest 20 = .ok (.iload_n 1, 1) := by decide +kernel
theorem dX12_isRest_21 : decode cX12_isRest 21 = .ok (.aload_n 0, 1) := by decide +kernel
theorem dX12_isRest_22 : decode cX12_isRest 22 = .ok (.aload_n 0, 1) := by decide +kernel
theorem dX12_isRest_23 : decode cX12_isRest 23 = .ok (.getfield 42, 3) := by decide +kernel
theorem dX12_isRest_26 : decode cX12_isRest 26 = .ok (.iload_n 2, 1) := by decide +kernel
theorem dX12_isRest_27 : decode cX12_isRest 27 = .ok (.iaload, 1) := by decide +kernel
theorem dX12_isRest_28 : decode cX12_isRest 28 = .ok (.invokevirtual 499, 3) := by decide +kernel
theorem dX12_isRest_31 : decode cX12_isRest 31 = .ok (.invokevirtual 502, 3) := by decide +kernel
theorem dX12_isRest_34 : decode cX12_isRest 34 = .ok (.istore_n 3, 1) := by decide +kernel
theorem dX12_isRest_35 : decode cX12_isRest 35 = .ok (.iconst 0, 1) := by decide +kernel
theorem dX12_isRest_36 : decode cX12_isRest 36 = .ok (.istore 4, 2) := by decide +kernel
theorem dX12_isRest_38 : decode cX12_isRest 38 = .ok (.iload 4, 2) := by decide +kernel
theorem dX12_isRest_40 : decode cX12_isRest 40 = .ok (.aload_n 0, 1) := by decide +kernel
theorem dX12_isRest_41 : decode cX12_isRest 41 = .ok (.getfield 369, 3) := by decide +kernel
theorem dX12_isRest_44 : decode cX12_isRest 44 = .ok (.getfield 297, 3) := by decide +kernel
theorem dX12_isRest_47 : decode cX12_isRest 47 = .ok (.if_icmp .ge 41, 3) := by decide +kernel
theorem dX12_isRest_50 : decode cX12_isRest 50 = .ok (.iload 4, 2) := by decide +kernel
theorem dX12_isRest_52 : decode cX12_isRest 52 = .ok (.aload_n 0, 1) := by decide +kernel
theorem dX12_isRest_53 : decode cX12_isRest 53 = .ok (.getfield 42, 3) := by decide +kernel
theorem dX12_isRest_56 : decode cX12_isRest 56 = .ok (.iload_n 2, 1) := by decide +kernel
theorem dX12_isRest_57 : decode cX12_isRest 57 = .ok (.iaload, 1) := by decide +kernel
theorem dX12_isRest_58 : decode cX12_isRest 58 = .ok (.if_icmp .eq 24, 3) := by decide +kernel
theorem dX12_isRest_61 : decode cX12_isRest 61 = .ok (.aload_n 0, 1) := by decide +kernel
theorem dX12_isRest_62 : decode cX12_isRest 62 = .ok (.iload 4, 2) := by decide +kernel
theorem dX12_isRest_64 : decode cX12_isRest 64 = .ok (.iload_n 1, 1) := by decide +kernel
theorem dX12_isRest_65 : decode cX12_isRest 65 = .ok (.aload_n 0, 1) := by decide +kernel
theorem dX12_isRest_66 : decode cX12_isRest 66 = .ok (.iload 4, 2) := by decide +kernel
theorem dX12_isRest_68 : decode cX12_isRest 68 = .ok (.invokevirtual 499, 3) := by decide +kernel
theorem dX12_isRest_71 : decode cX12_isRest 71 = .ok (.iconst 1, 1) := by decide +kernel
theorem dX12_isRest_72 : decode cX12_isRest 72 = .ok (.iadd, 1) := by decide +kernel
theorem dX12_isRest_73 : decode cX12_isRest 73 = .ok (.invokevirtual 502, 3) := by decide +kernel
theorem dX12_isRest_76 : decode cX12_isRest 76 = .ok (.iload_n 3, 1) := by decide +kernel
theorem dX12_isRest_77 : decode cX12_isRest 77 = .ok (.if_icmp .le 5, 3) := by decide +kernel
theorem dX12_isRest_80 : decode cX12_isRest 80 = .ok (.iconst 0, 1) := by decide +kernel
theorem dX12_isRest_81 : decode cX12_isRest 81 = .ok (.ireturn, 1) := by decide +kernel
theorem dX12_isRest_82 : decode cX12_isRest 82 = .ok (.iinc 4 1, 3) := by decide +kernel
theorem dX12_isRest_85 : decode cX12_isRest 85 = .ok (.goto (-47), 3) := by decide +kernel
theorem dX12_isRest_88 : decode cX12_isRest 88 = .ok (.iinc 2 1, 3) := by decide +kernel
theorem dX12_isRest_91 : decode cX12_isRest 91 = .ok (.goto (-89), 3) := by decide +kernel
theorem dX12_isRest_94 : decode cX12_isRest 94 = .ok (.iconst 1, 1) := by decide +kernel
theorem dX12_isRest_95 : decode cX12_isRest 95 = .ok (.ireturn, 1) := by decide +kernel
theorem dX12_resting_0 : decode cX12_resting 0 = .ok (.iconst 0, 1) := by decide +kernel
theorem dX12_resting_1 : decode cX12_resting 1 = .ok (.istore_n 2, 1) := by decide +kernel
theorem dX12_resting_2 : decode cX12_resting 2 = .ok (.iconst 0, 1) := by decide +kernel
theorem dX12_resting_3 : decode cX12_resting 3 = .ok (.istore_n 3, 1) := by decide +kernel
theorem dX12_resting_4 : decode cX12_resting 4 = .ok (.iload_n 3, 1) := by decide +kernel
theorem dX12_resting_5 : decode cX12_resting 5 = .ok (.iconst 5, 1) := by decide +kernel
theorem dX12_resting_6 : decode cX12_resting 6 = .ok (.if_icmp .ge 16, 3) := by decide +kernel
theorem dX12_resting_9 : decode cX12_resting 9 = .ok (.aload_n 0, 1) := by decide +kernel
theorem dX12_resting_10 : decode cX12_resting 10 = .ok (.getfield 42, 3) := by decide +kernel
theorem dX12_resting_13 : decode cX12_resting 13 = .ok (.iload_n 3, 1) := by decide +kernel
theorem dX12_resting_14 : decode cX12_resting 14 = .ok (.iconst 0, 1) := by decide +kernel
theorem dX12_resting_15 : decode cX12_resting 15 = .ok (.iastore, 1) := by decide +kernel
theorem dX12_resting_16 : decode cX12_resting 16 = .ok (.iinc 3 1, 3) := by decide +kernel
theorem dX12_resting_19 : decode cX12_resting 19 = .ok (.goto (-15), 3) := by decide +kernel
theorem dX12_resting_22 : decode cX12_resting 22 = .ok (.iconst 1, 1) := by decide +kernel
theorem dX12_resting_23 : decode cX12_resting 23 = .ok (.istore_n 3, 1) := by decide +kernel
theorem dX12_resting_24 : decode cX12_resting 24 = .ok (.iload_n 3, 1) := by decide +kernel
theorem dX12_resting_25 : decode cX12_resting 25 = .ok (.ifCond .eq 55, 3) := by decide +kernel
theorem dX12_resting_28 : decode cX12_resting 28 = .ok (.aload_n 0, 1) := by decide +kernel
theorem dX12_resting_29 : decode cX12_resting 29 = .ok (.iload_n 1, 1) := by decide +kernel
theorem dX12_resting_30 : decode cX12_resting 30 = .ok (.invokevirtual 505, 3) := by decide +kernel
theorem dX12_resting_33 : decode cX12_resting 33 = .ok (.ifCond .eq 39, 3) := by decide +kernel
theorem dX12_resting_36 : decode cX12_resting 36 = .ok (.iconst 0, 1) := by decide +kernel
theorem dX12_resting_37 : decode cX12_resting 37 = .ok (.istore 4, 2) := by decide +kernel
theorem dX12_resting_39 : decode cX12_resting 39 = .ok (.iload 4, 2) := by decide +kernel
theorem dX12_resting_41 : decode cX12_resting 41 = .ok (.iconst 5, 1) := by decide +kernel
theorem dX12_resting_42 : decode cX12_resting 42 = .ok (.if_icmp .ge 27, 3) := by decide +kernel
theorem dX12_resting_45 : decode cX12_resting 45 = .ok (.iload_n 2, 1) := by decide +kernel
theorem dX12_resting_46 : decode cX12_resting 46 = .ok (.ifCond .ne 23, 3) := by decide +kernel
theorem dX12_resting_49 : decode cX12_resting 49 = .ok (.aload_n 0, 1) := by decide +kernel
theorem dX12_resting_50 : decode cX12_resting 50 = .ok (.getfield 45, 3) := by decide +kernel
theorem dX12_resting_53 : decode cX12_resting 53 = .ok (.iload 4, 2) := by decide +kernel
theorem dX12_resting_55 : decode cX12_resting 55 = .ok (.aload_n 0, 1) := by decide +kernel
theorem dX12_resting_56 : decode cX12_resting 56 = .ok (.getfield 42, 3) := by decide +kernel
theorem dX12_resting_59 : decode cX12_resting 59 = .ok (.iload 4, 2) := by decide +kernel
theorem dX12_resting_61 : decode cX12_resting 61 = .ok (.iaload, 1) := by decide +kernel
theorem dX12_resting_62 : decode cX12_resting 62 = .ok (.iastore, 1) := by decide +kernel
theorem dX12_resting_63 : decode cX12_resting 63 = .ok (.iinc 4 1, 3) := by decide +kernel
theorem dX12_resting_66 : decode cX12_resting 66 = .ok (.goto (-27), 3) := by decide +kernel
theorem dX12_resting_69 : decode cX12_resting 69 = .ok (.iinc 2 1, 3) := by decide +kernel
theorem dX12_resting_72 : decode cX12_resting 72 = .ok (.aload_n 0, 1) := by decide +kernel
theorem dX12_resting_73 : decode cX12_resting 73 = .ok (.invokevirtual 508, 3) := by decide +kernel
theorem dX12_resting_76 : decode cX12_resting 76 = .ok (.istore_n 3, 1) := by decide +kernel
theorem dX12_resting_77 : decode cX12_resting 77 = .ok (.goto (-53), 3) := by decide +kernel
theorem dX12_resting_80 : decode cX12_resting 80 = .ok (.iload_n 2, 1) := by decide +kernel
theorem dX12_resting_81 : decode cX12_resting 81 = .ok (.ireturn, 1) := by decide +kernel
theorem dX12_nextChoice_0 : decode cX12_nextChoice 0 = .ok (.aload_n 0, 1) := by decide +kernel
theorem dX12_nextChoice_1 : decode cX12_nextChoice 1 = .ok (.getfield 369, 3) := by decide +kernel
theorem dX12_nextChoice_4 : decode cX12_nextChoice 4 = .ok (.getfield 204, 3) := by decide +kernel
theorem dX12_nextChoice_7 : decode cX12_nextChoice 7 = .ok (.iconst 1, 1) := by decide +kernel
theorem dX12_nextChoice_8 : decode cX12_nextChoice 8 = .ok (.isub, 1) := by decide +kernel
theorem dX12_nextChoice_9 : decode cX12_nextChoice 9 = .ok (.istore_n 1, 1) := by decide +kernel
theorem dX12_nextChoice_10 : decode cX12_nextChoice 10 = .ok (.iload_n 1, 1) := by decide +kernel
theorem dX12_nextChoice_11 : decode cX12_nextChoice 11 = .ok (.ifCond .lt 44, 3) := by decide +kernel
theorem dX12_nextChoice_14 : decode cX12_nextChoice 14 = .ok (.aload_n 0, 1) := by decide +kernel
theorem dX12_nextChoice_15 : decode cX12_nextChoice 15 = .ok (.getfield 42, 3) := by decide +kernel
theorem dX12_nextChoice_18 : decode cX12_nextChoice 18 = .ok (.iload_n 1, 1) := by decide +kernel
theorem dX12_nextChoice_19 : decode cX12_nextChoice 19 = .ok (.dup2, 1) := by decide +kernel
theorem dX12_nextChoice_20 : decode cX12_nextChoice 20 = .ok (.iaload, 1) := by decide +kernel
theorem dX12_nextChoice_21 : decode cX12_nextChoice 21 = .ok (.iconst 1, 1) := by decide +kernel
theorem dX12_nextChoice_22 : decode cX12_nextChoice 22 = .ok (.iadd, 1) := by decide +kernel
theorem dX12_nextChoice_23 : decode cX12_nextChoice 23 = .ok (.iastore, 1) := by decide +kernel
theorem dX12_nextChoice_24 : decode cX12_nextChoice 24 = .ok (.aload_n 0, 1) := by decide +kernel
theorem dX12_nextChoice_25 : decode cX12_nextChoice 25 = .ok (.getfield 42, 3) := by decide +kernel
theorem dX12_nextChoice_28 : decode cX12_nextChoice 28 = .ok (.iload_n 1, 1) := by decide +kernel
theorem dX12_nextChoice_29 : decode cX12_nextChoice 29 = .ok (.iaload, 1) := by decide +kernel
theorem dX12_nextChoice_30 : decode cX12_nextChoice 30 = .ok (.aload_n 0, 1) := by decide +kernel
theorem dX12_nextChoice_31 : decode cX12_nextChoice 31 = .ok (.getfield 369, 3) := by decide +kernel
theorem dX12_nextChoice_34 : decode cX12_nextChoice 34 = .ok (.getfield 297, 3) := by decide +kernel
theorem dX12_nextChoice_37 : decode cX12_nextChoice 37 = .ok (.if_icmp .ge 5, 3) := by decide +kernel
theorem dX12_nextChoice_40 : decode cX12_nextChoice 40 = .ok (.iconst 1, 1) := by decide +kernel
theorem dX12_nextChoice_41 : decode cX12_nextChoice 41 = .ok (.ireturn, 1) := by decide +kernel
theorem dX12_nextChoice_42 : decode cX12_nextChoice 42 = .ok (.aload_n 0, 1) := by decide +kernel
theorem dX12_nextChoice_43 : decode cX12_nextChoice 43 = .ok (.getfield 42, 3) := by decide +kernel
theorem dX12_nextChoice_46 : decode cX12_nextChoice 46 = .ok (.iload_n 1, 1) := by decide +kernel
theorem dX12_nextChoice_47 : decode cX12_nextChoice 47 = .ok (.iconst 0, 1) := by decide +kernel
theorem dX12_nextChoice_48 : decode cX12_nextChoice 48 = .ok (.iastore, 1) := by decide +kernel
theorem dX12_nextChoice_49 : decode cX12_nextChoice 49 = .ok (.iinc 1 (-1), 3) := by decide +kernel
theorem dX12_nextChoice_52 : decode cX12_nextChoice 52 = .ok (.goto (-42), 3) := by decide +kernel
theorem dX12_nextChoice_55 : decode cX12_nextChoice 55 = .ok (.iconst 0, 1) := by decide +kernel
theorem dX12_nextChoice_56 : decode cX12_nextChoice 56 = .ok (.ireturn, 1) := by decide +kernel
theorem dX12_refusesRests_0 : decode cX12_refusesRests 0 = .ok (.iload_n 1, 1) := by decide +kernel
theorem dX12_refusesRests_1 : decode cX12_refusesRests 1 = .ok (.ifCond .ne 7, 3) := by decide +kernel
theorem dX12_refusesRests_4 : decode cX12_refusesRests 4 = .ok (.iconst 1, 1) := by decide +kernel
theorem dX12_refusesRests_5 : decode cX12_refusesRests 5 = .ok (.goto 31, 3) := by decide +kernel
theorem dX12_refusesRests_8 : decode cX12_refusesRests 8 = .ok (.aload_n 0, 1) := by decide +kernel
theorem dX12_refusesRests_9 : decode cX12_refusesRests 9 = .ok (.getfield 369, 3) := by decide +kernel
theorem dX12_refusesRests_12 : decode cX12_refusesRests 12 = .ok (.getfield 297, 3) := by decide +kernel
theorem dX12_refusesRests_15 : decode cX12_refusesRests 15 = .ok (.ifCond .ne 8, 3) := by decide +kernel
theorem dX12_refusesRests_18 : decode cX12_refusesRests 18 = .ok (.bipush 6, 2) := by decide +kernel
theorem dX12_refusesRests_20 : decode cX12_refusesRests 20 = .ok (.goto 16, 3) := by decide +kernel
theorem dX12_refusesRests_23 : decode cX12_refusesRests 23 = .ok (.aload_n 0, 1) := by decide +kernel
theorem dX12_refusesRests_24 : decode cX12_refusesRests 24 = .ok (.iload_n 2, 1) := by decide +kernel
theorem dX12_refusesRests_25 : decode cX12_refusesRests 25 = .ok (.invokevirtual 402, 3) := by decide +kernel
theorem dX12_refusesRests_28 : decode cX12_refusesRests 28 = .ok (.ifCond .eq 7, 3) := by decide +kernel
theorem dX12_refusesRests_31 : decode cX12_refusesRests 31 = .ok (.iconst 0, 1) := by decide +kernel
theorem dX12_refusesRests_32 : decode cX12_refusesRests 32 = .ok (.goto 4, 3) := by decide +kernel
theorem dX12_refusesRests_35 : decode cX12_refusesRests 35 = .ok (.iconst 2, 1) := by decide +kernel
theorem dX12_refusesRests_36 : decode cX12_refusesRests 36 = .ok (.ireturn, 1) := by decide +kernel
theorem dX12_rests_0 : decode cX12_rests 0 = .ok (.aload_n 0, 1) := by decide +kernel
theorem dX12_rests_1 : decode cX12_rests 1 = .ok (.iconst 0, 1) := by decide +kernel
theorem dX12_rests_2 : decode cX12_rests 2 = .ok (.putfield 48, 3) := by decide +kernel
theorem dX12_rests_5 : decode cX12_rests 5 = .ok (.aload_n 0, 1) := by decide +kernel
theorem dX12_rests_6 : decode cX12_rests 6 = .ok (.aload_n 0, 1) := by decide +kernel
theorem dX12_rests_7 : decode cX12_rests 7 = .ok (.getfield 369, 3) := by decide +kernel
theorem dX12_rests_10 : decode cX12_rests 10 = .ok (.ifnull 7, 3) := by decide +kernel
theorem dX12_rests_13 : decode cX12_rests 13 = .ok (.iconst 1, 1) := by decide +kernel
theorem dX12_rests_14 : decode cX12_rests 14 = .ok (.goto 4, 3) := by decide +kernel
theorem dX12_rests_17 : decode cX12_rests 17 = .ok (.iconst 0, 1) := by decide +kernel
theorem dX12_rests_18 : decode cX12_rests 18 = .ok (.iload_n 1, 1) := by decide +kernel
theorem dX12_rests_19 : decode cX12_rests 19 = .ok (.invokevirtual 511, 3) := by decide +kernel
theorem dX12_rests_22 : decode cX12_rests 22 = .ok (.istore_n 2, 1) := by decide +kernel
theorem dX12_rests_23 : decode cX12_rests 23 = .ok (.iload_n 2, 1) := by decide +kernel
theorem dX12_rests_24 : decode cX12_rests 24 = .ok (.ifCond .le 11, 3) := by decide +kernel
theorem dX12_rests_27 : decode cX12_rests 27 = .ok (.aload_n 0, 1) := by decide +kernel
theorem dX12_rests_28 : decode cX12_rests 28 = .ok (.iload_n 2, 1) := by decide +kernel
theorem dX12_rests_29 : decode cX12_rests 29 = .ok (.invokevirtual 54, 3) := by decide +kernel
theorem dX12_rests_32 : decode cX12_rests 32 = .ok (.goto 12, 3) := by decide +kernel
theorem dX12_rests_35 : decode cX12_rests 35 = .ok (.aload_n 0, 1) := by decide +kernel
theorem dX12_rests_36 : decode cX12_rests 36 = .ok (.aload_n 0, 1) := by decide +kernel
theorem dX12_rests_37 : decode cX12_rests 37 = .ok (.iload_n 1, 1) := by decide +kernel
theorem dX12_rests_38 : decode cX12_rests 38 = .ok (.invokevirtual 514, 3) := by decide +kernel
theorem dX12_rests_41 : decode cX12_rests 41 = .ok (.invokevirtual 58, 3) := by decide +kernel
theorem dX12_rests_44 : decode cX12_rests 44 = .ok (.ireturn, 1) := by decide +kernel
theorem dX12_restOf_0 : decode cX12_restOf 0 = .ok (.aload_n 0, 1) := by decide +kernel
theorem dX12_restOf_1 : decode cX12_restOf 1 = .ok (.iconst 0, 1) := by decide +kernel
theorem dX12_restOf_2 : decode cX12_restOf 2 = .ok (.putfield 48, 3) := by decide +kernel
theorem dX12_restOf_5 : decode cX12_restOf 5 = .ok (.aload_n 0, 1) := by decide +kernel
theorem dX12_restOf_6 : decode cX12_restOf 6 = .ok (.aload_n 0, 1) := by decide +kernel
theorem dX12_restOf_7 : decode cX12_restOf 7 = .ok (.iload_n 2, 1) := by decide +kernel
theorem dX12_restOf_8 : decode cX12_restOf 8 = .ok (.invokevirtual 408, 3) := by decide +kernel
theorem dX12_restOf_11 : decode cX12_restOf 11 = .ok (.iload_n 1, 1) := by decide +kernel
theorem dX12_restOf_12 : decode cX12_restOf 12 = .ok (.invokevirtual 511, 3) := by decide +kernel
theorem dX12_restOf_15 : decode cX12_restOf 15 = .ok (.istore_n 3, 1) := by decide +kernel
theorem dX12_restOf_16 : decode cX12_restOf 16 = .ok (.iload_n 3, 1) := by decide +kernel
theorem dX12_restOf_17 : decode cX12_restOf 17 = .ok (.ifCond .le 9, 3) := by decide +kernel
theorem dX12_restOf_20 : decode cX12_restOf 20 = .ok (.aload_n 0, 1) := by decide +kernel
theorem dX12_restOf_21 : decode cX12_restOf 21 = .ok (.iload_n 3, 1) := by decide +kernel
theorem dX12_restOf_22 : decode cX12_restOf 22 = .ok (.invokevirtual 54, 3) := by decide +kernel
theorem dX12_restOf_25 : decode cX12_restOf 25 = .ok (.ireturn, 1) := by decide +kernel
theorem dX12_restOf_26 : decode cX12_restOf 26 = .ok (.aload_n 0, 1) := by decide +kernel
theorem dX12_restOf_27 : decode cX12_restOf 27 = .ok (.aload_n 0, 1) := by decide +kernel
theorem dX12_restOf_28 : decode cX12_restOf 28 = .ok (.iload_n 1, 1) := by decide +kernel
theorem dX12_restOf_29 : decode cX12_restOf 29 = .ok (.invokevirtual 514, 3) := by decide +kernel
theorem dX12_restOf_32 : decode cX12_restOf 32 = .ok (.ifCond .ne 8, 3) := by decide +kernel
theorem dX12_restOf_35 : decode cX12_restOf 35 = .ok (.bipush (-2), 2) := by decide +kernel
theorem dX12_restOf_37 : decode cX12_restOf 37 = .ok (.goto 9, 3) := by decide +kernel
theorem dX12_restOf_40 : decode cX12_restOf 40 = .ok (.aload_n 0, 1) := by decide +kernel
theorem dX12_restOf_41 : decode cX12_restOf 41 = .ok (.getfield 45, 3) := by decide +kernel
theorem dX12_restOf_44 : decode cX12_restOf 44 = .ok (.iload_n 2, 1) := by decide +kernel
theorem dX12_restOf_45 : decode cX12_restOf 45 = .ok (.iaload, 1) := by decide +kernel
theorem dX12_restOf_46 : decode cX12_restOf 46 = .ok (.invokevirtual 58, 3) := by decide +kernel
theorem dX12_restOf_49 : decode cX12_restOf 49 = .ok (.ireturn, 1) := by decide +kernel
theorem dX12_isLimit_0 : decode cX12_isLimit 0 = .ok (.iconst 0, 1) := by decide +kernel
theorem dX12_isLimit_1 : decode cX12_isLimit 1 = .ok (.istore_n 2, 1) := by decide +kernel
theorem dX12_isLimit_2 : decode cX12_isLimit 2 = .ok (.iload_n 2, 1) := by decide +kernel
theorem dX12_isLimit_3 : decode cX12_isLimit 3 = .ok (.aload_n 0, 1) := by decide +kernel
theorem dX12_isLimit_4 : decode cX12_isLimit 4 = .ok (.getfield 369, 3) := by decide +kernel
theorem dX12_isLimit_7 : decode cX12_isLimit 7 = .ok (.getfield 339, 3) := by decide +kernel
theorem dX12_isLimit_10 : decode cX12_isLimit 10 = .ok (.if_icmp .ge 78, 3) := by decide +kernel
theorem dX12_isLimit_13 : decode cX12_isLimit 13 = .ok (.aload_n 0, 1) := by decide +kernel
theorem dX12_isLimit_14 : decode cX12_isLimit 14 = .ok (.getfield 369, 3) := by decide +kernel
theorem dX12_isLimit_17 : decode cX12_isLimit 17 = .ok (.aload_n 0, 1) := by decide +kernel
theorem dX12_isLimit_18 : decode cX12_isLimit 18 = .ok (.getfield 369, 3) := by decide +kernel
theorem dX12_isLimit_21 : decode cX12_isLimit 21 = .ok (.getfield 346, 3) := by decide +kernel
theorem dX12_isLimit_24 : decode cX12_isLimit 24 = .ok (.iload_n 2, 1) := by decide +kernel
theorem dX12_isLimit_25 : decode cX12_isLimit 25 = .ok (.iaload, 1) := by decide +kernel
theorem dX12_isLimit_26 : decode cX12_isLimit 26 = .ok (.aload_n 0, 1) := by decide +kernel
theorem dX12_isLimit_27 : decode cX12_isLimit 27 = .ok (.getfield 369, 3) := by decide +kernel
theorem dX12_isLimit_30 : decode cX12_isLimit 30 = .ok (.getfield 349, 3) := by decide +kernel
theorem dX12_isLimit_33 : decode cX12_isLimit 33 = .ok (.iload_n 2, 1) := by decide +kernel
theorem dX12_isLimit_34 : decode cX12_isLimit 34 = .ok (.iaload, 1) := by decide +kernel
theorem dX12_isLimit_35 : decode cX12_isLimit 35 = .ok (.aload_n 0, 1) := by decide +kernel
theorem dX12_isLimit_36 : decode cX12_isLimit 36 = .ok (.getfield 369, 3) := by decide +kernel
theorem dX12_isLimit_39 : decode cX12_isLimit 39 = .ok (.getfield 352, 3) := by decide +kernel
theorem dX12_isLimit_42 : decode cX12_isLimit 42 = .ok (.iload_n 2, 1) := by decide +kernel
theorem dX12_isLimit_43 : decode cX12_isLimit 43 = .ok (.iaload, 1) := by decide +kernel
theorem dX12_isLimit_44 : decode cX12_isLimit 44 = .ok (.aload_n 0, 1) := by decide +kernel
theorem dX12_isLimit_45 : decode cX12_isLimit 45 = .ok (.getfield 369, 3) := by decide +kernel
theorem dX12_isLimit_48 : decode cX12_isLimit 48 = .ok (.getfield 355, 3) := by decide +kernel
theorem dX12_isLimit_51 : decode cX12_isLimit 51 = .ok (.iload_n 2, 1) := by decide +kernel
theorem dX12_isLimit_52 : decode cX12_isLimit 52 = .ok (.iaload, 1) := by decide +kernel
theorem dX12_isLimit_53 : decode cX12_isLimit 53 = .ok (.iconst 0, 1) := by decide +kernel
theorem dX12_isLimit_54 : decode cX12_isLimit 54 = .ok (.invokevirtual 384, 3) := by decide +kernel
theorem dX12_isLimit_57 : decode cX12_isLimit 57 = .ok (.istore_n 3, 1) := by decide +kernel
theorem dX12_isLimit_58 : decode cX12_isLimit 58 = .ok (.iload_n 3, 1) := by decide +kernel
theorem dX12_isLimit_59 : decode cX12_isLimit 59 = .ok (.iload_n 1, 1) := by decide +kernel
theorem dX12_isLimit_60 : decode cX12_isLimit 60 = .ok (.if_icmp .le 7, 3) := by decide +kernel
theorem dX12_isLimit_63 : decode cX12_isLimit 63 = .ok (.iconst 1, 1) := by decide +kernel
theorem dX12_isLimit_64 : decode cX12_isLimit 64 = .ok (.goto 4, 3) := by decide +kernel
theorem dX12_isLimit_67 : decode cX12_isLimit 67 = .ok (.iconst 0, 1) := by decide +kernel
theorem dX12_isLimit_68 : decode cX12_isLimit 68 = .ok (.aload_n 0, 1) := by decide +kernel
theorem dX12_isLimit_69 : decode cX12_isLimit 69 = .ok (.getfield 369, 3) := by decide +kernel
theorem dX12_isLimit_72 : decode cX12_isLimit 72 = .ok (.getfield 358, 3) := by decide +kernel
theorem dX12_isLimit_75 : decode cX12_isLimit 75 = .ok (.iload_n 2, 1) := by decide +kernel
theorem dX12_isLimit_76 : decode cX12_isLimit 76 = .ok (.baload, 1) := by decide +kernel
theorem dX12_isLimit_77 : decode cX12_isLimit 77 = .ok (.if_icmp .eq 5, 3) := by decide +kernel
theorem dX12_isLimit_80 : decode cX12_isLimit 80 = .ok (.iconst 0, 1) := by decide +kernel
theorem dX12_isLimit_81 : decode cX12_isLimit 81 = .ok (.ireturn, 1) := by decide +kernel
theorem dX12_isLimit_82 : decode cX12_isLimit 82 = .ok (.iinc 2 1, 3) := by decide +kernel
theorem dX12_isLimit_85 : decode cX12_isLimit 85 = .ok (.goto (-83), 3) := by decide +kernel
theorem dX12_isLimit_88 : decode cX12_isLimit 88 = .ok (.iconst 1, 1) := by decide +kernel
theorem dX12_isLimit_89 : decode cX12_isLimit 89 = .ok (.ireturn, 1) := by decide +kernel
theorem dX12_limit_0 : decode cX12_limit 0 = .ok (.aload_n 0, 1) := by decide +kernel
theorem dX12_limit_1 : decode cX12_limit 1 = .ok (.iconst 0, 1) := by decide +kernel
theorem dX12_limit_2 : decode cX12_limit 2 = .ok (.putfield 48, 3) := by decide +kernel
theorem dX12_limit_5 : decode cX12_limit 5 = .ok (.aload_n 0, 1) := by decide +kernel
theorem dX12_limit_6 : decode cX12_limit 6 = .ok (.getfield 369, 3) := by decide +kernel
theorem dX12_limit_9 : decode cX12_limit 9 = .ok (.ifnonnull 9, 3) := by decide +kernel
theorem dX12_limit_12 : decode cX12_limit 12 = .ok (.aload_n 0, 1) := by decide +kernel
theorem dX12_limit_13 : decode cX12_limit 13 = .ok (.iconst 1, 1) := by decide +kernel
theorem dX12_limit_14 : decode cX12_limit 14 = .ok (.invokevirtual 54, 3) := by decide +kernel
theorem dX12_limit_17 : decode cX12_limit 17 = .ok (.ireturn, 1) := by decide +kernel
theorem dX12_limit_18 : decode cX12_limit 18 = .ok (.bipush (-2), 2) := by decide +kernel
theorem dX12_limit_20 : decode cX12_limit 20 = .ok (.istore_n 2, 1) := by decide +kernel
theorem dX12_limit_21 : decode cX12_limit 21 = .ok (.iconst 0, 1) := by decide +kernel
theorem dX12_limit_22 : decode cX12_limit 22 = .ok (.istore_n 3, 1) := by decide +kernel
theorem dX12_limit_23 : decode cX12_limit 23 = .ok (.iload_n 3, 1) := by decide +kernel
theorem dX12_limit_24 : decode cX12_limit 24 = .ok (.bipush 100, 2) := by decide +kernel
theorem dX12_limit_26 : decode cX12_limit 26 = .ok (.if_icmp .gt 29, 3) := by decide +kernel
theorem dX12_limit_29 : decode cX12_limit 29 = .ok (.aload_n 0, 1) := by decide +kernel
theorem dX12_limit_30 : decode cX12_limit 30 = .ok (.iload_n 3, 1) := by decide +kernel
theorem dX12_limit_31 : decode cX12_limit 31 = .ok (.invokevirtual 517, 3) := by decide +kernel
theorem dX12_limit_34 : decode cX12_limit 34 = .ok (.ifCond .eq 15, 3) := by decide +kernel
theorem dX12_limit_37 : decode cX12_limit 37 = .ok (.iload_n 1, 1) := by decide +kernel
theorem dX12_limit_38 : decode cX12_limit 38 = .ok (.ifCond .ne 9, 3) := by decide +kernel
theorem dX12_limit_41 : decode cX12_limit 41 = .ok (.iload_n 2, 1) := by decide +kernel
theorem dX12_limit_42 : decode cX12_limit 42 = .ok (.bipush (-2), 2) := by decide +kernel
theorem dX12_limit_44 : decode cX12_limit 44 = .ok (.if_icmp .ne 5, 3) := by decide +kernel
theorem dX12_limit_47 : decode cX12_limit 47 = .ok (.iload_n 3, 1) := by decide +kernel
theorem dX12_limit_48 : decode cX12_limit 48 = .ok (.istore_n 2, 1) := by decide +kernel
theorem dX12_limit_49 : decode cX12_limit 49 = .ok (.iinc 3 1, 3) := by decide +kernel
theorem dX12_limit_52 : decode cX12_limit 52 = .ok (.goto (-29), 3) := by decide +kernel
theorem dX12_limit_55 : decode cX12_limit 55 = .ok (.aload_n 0, 1) := by decide +kernel
theorem dX12_limit_56 : decode cX12_limit 56 = .ok (.iload_n 2, 1) := by decide +kernel
theorem dX12_limit_57 : decode cX12_limit 57 = .ok (.invokevirtual 58, 3) := by decide +kernel
theorem dX12_limit_60 : decode cX12_limit 60 = .ok (.ireturn, 1) := by decide +kernel
theorem dX12_power_0 : decode cX12_power 0 = .ok (.lconst 1, 1) := by decide +kernel
theorem dX12_power_1 : decode cX12_power 1 = .ok (.lstore_n 3, 1) := by decide +kernel
theorem dX12_power_2 : decode cX12_power 2 = .ok (.iconst 0, 1) := by decide +kernel
theorem dX12_power_3 : decode cX12_power 3 = .ok (.istore 5, 2) := by decide +kernel
theorem dX12_power_5 : decode cX12_power 5 = .ok (.iload 5, 2) := by decide +kernel
theorem dX12_power_7 : decode cX12_power 7 = .ok (.iload_n 2, 1) := by decide +kernel
theorem dX12_power_8 : decode cX12_power 8 = .ok (.if_icmp .ge 13, 3) := by decide +kernel
theorem dX12_power_11 : decode cX12_power 11 = .ok (.lload_n 3, 1) := by decide +kernel
theorem dX12_power_12 : decode cX12_power 12 = .ok (.lload_n 0, 1) := by decide +kernel
theorem dX12_power_13 : decode cX12_power 13 = .ok (.lmul, 1) := by decide +kernel
theorem dX12_power_14 : decode cX12_power 14 = .ok (.lstore_n 3, 1) := by decide +kernel
theorem dX12_power_15 : decode cX12_power 15 = .ok (.iinc 5 1, 3) := by decide +kernel
theorem dX12_power_18 : decode cX12_power 18 = .ok (.goto (-13), 3) := by decide +kernel
theorem dX12_power_21 : decode cX12_power 21 = .ok (.lload_n 3, 1) := by decide +kernel
theorem dX12_power_22 : decode cX12_power 22 = .ok (.lreturn, 1) := by decide +kernel
theorem dX12_dares_0 : decode cX12_dares 0 = .ok (.iconst 0, 1) := by decide +kernel
theorem dX12_dares_1 : decode cX12_dares 1 = .ok (.istore_n 2, 1) := by decide +kernel
theorem dX12_dares_2 : decode cX12_dares 2 = .ok (.lconst 0, 1) := by decide +kernel
theorem dX12_dares_3 : decode cX12_dares 3 = .ok (.lstore_n 3, 1) := by decide +kernel
theorem dX12_dares_4 : decode cX12_dares 4 = .ok (.iconst 1, 1) := by decide +kernel
theorem dX12_dares_5 : decode cX12_dares 5 = .ok (.istore 5, 2) := by decide +kernel
theorem dX12_dares_7 : decode cX12_dares 7 = .ok (.iload 5, 2) := by decide +kernel
theorem dX12_dares_9 : decode cX12_dares 9 = .ok (.bipush 8, 2) := by decide +kernel
theorem dX12_dares_11 : decode cX12_dares 11 = .ok (.if_icmp .gt 54, 3) := by decide +kernel
theorem dX12_dares_14 : decode cX12_dares 14 = .ok (.iload 5, 2) := by decide +kernel
theorem dX12_dares_16 : decode cX12_dares 16 = .ok (.i2l, 1) := by decide +kernel
theorem dX12_dares_17 : decode cX12_dares 17 = .ok (.ldc2_w 520, 3) := by decide +kernel
theorem dX12_dares_20 : decode cX12_dares 20 = .ok (.iload_n 1, 1) := by decide +kernel
theorem dX12_dares_21 : decode cX12_dares 21 = .ok (.i2l, 1) := by decide +kernel
theorem dX12_dares_22 : decode cX12_dares 22 = .ok (.lsub, 1) := by decide +kernel
theorem dX12_dares_23 : decode cX12_dares 23 = .ok (.iload 5, 2) := by decide +kernel
theorem dX12_dares_25 : decode cX12_dares 25 = .ok (.invokestatic 522, 3) := by decide +kernel
theorem dX12_dares_28 : decode cX12_dares 28 = .ok (.lmul, 1) := by decide +kernel
theorem dX12_dares_29 : decode cX12_dares 29 = .ok (.ldc2_w 520, 3) := by decide +kernel
theorem dX12_dares_32 : decode cX12_dares 32 = .ok (.bipush 8, 2) := by decide +kernel
theorem dX12_dares_34 : decode cX12_dares 34 = .ok (.iload 5, 2) := by decide +kernel
theorem dX12_dares_36 : decode cX12_dares 36 = .ok (.isub, 1) := by decide +kernel
theorem dX12_dares_37 : decode cX12_dares 37 = .ok (.invokestatic 522, 3) := by decide +kernel
theorem dX12_dares_40 : decode cX12_dares 40 = .ok (.lmul, 1) := by decide +kernel
theorem dX12_dares_41 : decode cX12_dares 41 = .ok (.lstore 6, 2) := by decide +kernel
theorem dX12_dares_43 : decode cX12_dares 43 = .ok (.lload 6, 2) := by decide +kernel
theorem dX12_dares_45 : decode cX12_dares 45 = .ok (.lload_n 3, 1) := by decide +kernel
theorem dX12_dares_46 : decode cX12_dares 46 = .ok (.lcmp, 1) := by decide +kernel
theorem dX12_dares_47 : decode cX12_dares 47 = .ok (.ifCond .gt 6, 3) := by decide +kernel
theorem dX12_dares_50 : decode cX12_dares 50 = .ok (.goto 9, 3) := by decide +kernel
theorem dX12_dares_53 : decode cX12_dares 53 = .ok (.lload 6, 2) := by decide +kernel
theorem dX12_dares_55 : decode cX12_dares 55 = .ok (.lstore_n 3, 1) := by decide +kernel
theorem dX12_dares_56 : decode cX12_dares 56 = .ok (.iload 5, 2) := by decide +kernel
theorem dX12_dares_58 : decode cX12_dares 58 = .ok (.istore_n 2, 1) := by decide +kernel
theorem dX12_dares_59 : decode cX12_dares 59 = .ok (.iinc 5 1, 3) := by decide +kernel
theorem dX12_dares_62 : decode cX12_dares 62 = .ok (.goto (-55), 3) := by decide +kernel
theorem dX12_dares_65 : decode cX12_dares 65 = .ok (.iload_n 2, 1) := by decide +kernel
theorem dX12_dares_66 : decode cX12_dares 66 = .ok (.ireturn, 1) := by decide +kernel
theorem dX12_refusesDare_0 : decode cX12_refusesDare 0 = .ok (.aload_n 0, 1) := by decide +kernel
theorem dX12_refusesDare_1 : decode cX12_refusesDare 1 = .ok (.getfield 369, 3) := by decide +kernel
theorem dX12_refusesDare_4 : decode cX12_refusesDare 4 = .ok (.ifnonnull 7, 3) := by decide +kernel
theorem dX12_refusesDare_7 : decode cX12_refusesDare 7 = .ok (.iconst 1, 1) := by decide +kernel
theorem dX12_refusesDare_8 : decode cX12_refusesDare 8 = .ok (.goto 18, 3) := by decide +kernel
theorem dX12_refusesDare_11 : decode cX12_refusesDare 11 = .ok (.iload_n 1, 1) := by decide +kernel
theorem dX12_refusesDare_12 : decode cX12_refusesDare 12 = .ok (.iconst 0, 1) := by decide +kernel
theorem dX12_refusesDare_13 : decode cX12_refusesDare 13 = .ok (.bipush 100, 2) := by decide +kernel
theorem dX12_refusesDare_15 : decode cX12_refusesDare 15 = .ok (.invokestatic 127, 3) := by decide +kernel
theorem dX12_refusesDare_18 : decode cX12_refusesDare 18 = .ok (.ifCond .eq 7, 3) := by decide +kernel
theorem dX12_refusesDare_21 : decode cX12_refusesDare 21 = .ok (.iconst 0, 1) := by decide +kernel
theorem dX12_refusesDare_22 : decode cX12_refusesDare 22 = .ok (.goto 4, 3) := by decide +kernel
theorem dX12_refusesDare_25 : decode cX12_refusesDare 25 = .ok (.iconst 2, 1) := by decide +kernel
theorem dX12_refusesDare_26 : decode cX12_refusesDare 26 = .ok (.ireturn, 1) := by decide +kernel
theorem dX12_dare_0 : decode cX12_dare 0 = .ok (.aload_n 0, 1) := by decide +kernel
theorem dX12_dare_1 : decode cX12_dare 1 = .ok (.iconst 0, 1) := by decide +kernel
theorem dX12_dare_2 : decode cX12_dare 2 = .ok (.putfield 48, 3) := by decide +kernel
theorem dX12_dare_5 : decode cX12_dare 5 = .ok (.aload_n 0, 1) := by decide +kernel
theorem dX12_dare_6 : decode cX12_dare 6 = .ok (.iload_n 1, 1) := by decide +kernel
theorem dX12_dare_7 : decode cX12_dare 7 = .ok (.invokevirtual 526, 3) := by decide +kernel
theorem dX12_dare_10 : decode cX12_dare 10 = .ok (.istore_n 2, 1) := by decide +kernel
theorem dX12_dare_11 : decode cX12_dare 11 = .ok (.iload_n 2, 1) := by decide +kernel
theorem dX12_dare_12 : decode cX12_dare 12 = .ok (.ifCond .le 11, 3) := by decide +kernel
theorem dX12_dare_15 : decode cX12_dare 15 = .ok (.aload_n 0, 1) := by decide +kernel
theorem dX12_dare_16 : decode cX12_dare 16 = .ok (.iload_n 2, 1) := by decide +kernel
theorem dX12_dare_17 : decode cX12_dare 17 = .ok (.invokevirtual 54, 3) := by decide +kernel
theorem dX12_dare_20 : decode cX12_dare 20 = .ok (.goto 12, 3) := by decide +kernel
theorem dX12_dare_23 : decode cX12_dare 23 = .ok (.aload_n 0, 1) := by decide +kernel
theorem dX12_dare_24 : decode cX12_dare 24 = .ok (.aload_n 0, 1) := by decide +kernel
theorem dX12_dare_25 : decode cX12_dare 25 = .ok (.iload_n 1, 1) := by decide +kernel
theorem dX12_dare_26 : decode cX12_dare 26 = .ok (.invokevirtual 529, 3) := by decide +kernel
theorem dX12_dare_29 : decode cX12_dare 29 = .ok (.invokevirtual 58, 3) := by decide +kernel
theorem dX12_dare_32 : decode cX12_dare 32 = .ok (.ireturn, 1) := by decide +kernel
theorem dX12_honours_0 : decode cX12_honours 0 = .ok (.aload_n 0, 1) := by decide +kernel
theorem dX12_honours_1 : decode cX12_honours 1 = .ok (.iconst 0, 1) := by decide +kernel
theorem dX12_honours_2 : decode cX12_honours 2 = .ok (.putfield 48, 3) := by decide +kernel
theorem dX12_honours_5 : decode cX12_honours 5 = .ok (.aload_n 0, 1) := by decide +kernel
theorem dX12_honours_6 : decode cX12_honours 6 = .ok (.iload_n 1, 1) := by decide +kernel
theorem dX12_honours_7 : decode cX12_honours 7 = .ok (.invokevirtual 526, 3) := by decide +kernel
theorem dX12_honours_10 : decode cX12_honours 10 = .ok (.istore_n 3, 1) := by decide +kernel
theorem dX12_honours_11 : decode cX12_honours 11 = .ok (.iload_n 3, 1) := by decide +kernel
theorem dX12_honours_12 : decode cX12_honours 12 = .ok (.ifCond .le 10, 3) := by decide +kernel
theorem dX12_honours_15 : decode cX12_honours 15 = .ok (.aload_n 0, 1) := by decide +kernel
theorem dX12_honours_16 : decode cX12_honours 16 = .ok (.iload_n 3, 1) := by decide +kernel
theorem dX12_honours_17 : decode cX12_honours 17 = .ok (.invokevirtual 54, 3) := by decide +kernel
theorem dX12_honours_20 : decode cX12_honours 20 = .ok (.i2l, 1) := by decide +kernel
theorem dX12_honours_21 : decode cX12_honours 21 = .ok (.lreturn, 1) := by decide +kernel
theorem dX12_honours_22 : decode cX12_honours 22 = .ok (.aload_n 0, 1) := by decide +kernel
theorem dX12_honours_23 : decode cX12_honours 23 = .ok (.iload_n 1, 1) := by decide +kernel
theorem dX12_honours_24 : decode cX12_honours 24 = .ok (.invokevirtual 529, 3) := by decide +kernel
theorem dX12_honours_27 : decode cX12_honours 27 = .ok (.istore 4, 2) := by decide +kernel
theorem dX12_honours_29 : decode cX12_honours 29 = .ok (.aload_n 0, 1) := by decide +kernel
theorem dX12_honours_30 : decode cX12_honours 30 = .ok (.iload 4, 2) := by decide +kernel
theorem dX12_honours_32 : decode cX12_honours 32 = .ok (.i2l, 1) := by decide +kernel
theorem dX12_honours_33 : decode cX12_honours 33 = .ok (.ldc2_w 520, 3) := by decide +kernel
theorem dX12_honours_36 : decode cX12_honours 36 = .ok (.iload_n 1, 1) := by decide +kernel
theorem dX12_honours_37 : decode cX12_honours 37 = .ok (.i2l, 1) := by decide +kernel
theorem dX12_honours_38 : decode cX12_honours 38 = .ok (.lsub, 1) := by decide +kernel
theorem dX12_honours_39 : decode cX12_honours 39 = .ok (.iload 4, 2) := by decide +kernel
theorem dX12_honours_41 : decode cX12_honours 41 = .ok (.invokestatic 522, 3) := by decide +kernel
theorem dX12_honours_44 : decode cX12_honours 44 = .ok (.lmul, 1) := by decide +kernel
theorem dX12_honours_45 : decode cX12_honours 45 = .ok (.ldc2_w 520, 3) := by decide +kernel
theorem dX12_honours_48 : decode cX12_honours 48 = .ok (.iload 4, 2) := by decide +kernel
theorem dX12_honours_50 : decode cX12_honours 50 = .ok (.invokestatic 522, 3) := by decide +kernel
theorem dX12_honours_53 : decode cX12_honours 53 = .ok (.iload_n 2, 1) := by decide +kernel
theorem dX12_honours_54 : decode cX12_honours 54 = .ok (.invokevirtual 495, 3) := by decide +kernel
theorem dX12_honours_57 : decode cX12_honours 57 = .ok (.lreturn, 1) := by decide +kernel
theorem dX12_draws_0 : decode cX12_draws 0 = .ok (.iconst 0, 1) := by decide +kernel
theorem dX12_draws_1 : decode cX12_draws 1 = .ok (.istore_n 1, 1) := by decide +kernel
theorem dX12_draws_2 : decode cX12_draws 2 = .ok (.aload_n 0, 1) := by decide +kernel
theorem dX12_draws_3 : decode cX12_draws 3 = .ok (.invokevirtual 436, 3) := by decide +kernel
theorem dX12_draws_6 : decode cX12_draws 6 = .ok (.iconst 0, 1) := by decide +kernel
theorem dX12_draws_7 : decode cX12_draws 7 = .ok (.istore_n 2, 1) := by decide +kernel
theorem dX12_draws_8 : decode cX12_draws 8 = .ok (.iload_n 2, 1) := by decide +kernel
theorem dX12_draws_9 : decode cX12_draws 9 = .ok (.iconst 3, 1) := by decide +kernel
theorem dX12_draws_10 : decode cX12_draws 10 = .ok (.if_icmp .ge 19, 3) := by decide +kernel
theorem dX12_draws_13 : decode cX12_draws 13 = .ok (.aload_n 0, 1) := by decide +kernel
theorem dX12_draws_14 : decode cX12_draws 14 = .ok (.getfield 21, 3) := by decide +kernel
theorem dX12_draws_17 : decode cX12_draws 17 = .ok (.bipush 12, 2) := by decide +kernel
theorem dX12_draws_19 : decode cX12_draws 19 = .ok (.iload_n 2, 1) := by decide +kernel
theorem dX12_draws_20 : decode cX12_draws 20 = .ok (.iadd, 1) := by decide +kernel
theorem dX12_draws_21 : decode cX12_draws 21 = .ok (.iconst 0, 1) := by decide +kernel
theorem dX12_draws_22 : decode cX12_draws 22 = .ok (.iastore, 1) := by decide +kernel
theorem dX12_draws_23 : decode cX12_draws 23 = .ok (.iinc 2 1, 3) := by decide +kernel
theorem dX12_draws_26 : decode cX12_draws 26 = .ok (.goto (-18), 3) := by decide +kernel
theorem dX12_draws_29 : decode cX12_draws 29 = .ok (.iconst 0, 1) := by decide +kernel
theorem dX12_draws_30 : decode cX12_draws 30 = .ok (.istore_n 2, 1) := by decide +kernel
theorem dX12_draws_31 : decode cX12_draws 31 = .ok (.iload_n 2, 1) := by decide +kernel
theorem dX12_draws_32 : decode cX12_draws 32 = .ok (.aload_n 0, 1) := by decide +kernel
theorem dX12_draws_33 : decode cX12_draws 33 = .ok (.getfield 369, 3) := by decide +kernel
theorem dX12_draws_36 : decode cX12_draws 36 = .ok (.getfield 166, 3) := by decide +kernel
theorem dX12_draws_39 : decode cX12_draws 39 = .ok (.if_icmp .ge 192, 3) := by decide +kernel
theorem dX12_draws_42 : decode cX12_draws 42 = .ok (.iconst 0, 1) := by decide +kernel
theorem dX12_draws_43 : decode cX12_draws 43 = .ok (.istore_n 3, 1) := by decide +kernel
theorem dX12_draws_44 : decode cX12_draws 44 = .ok (.iload_n 3, 1) := by decide +kernel
theorem dX12_draws_45 : decode cX12_draws 45 = .ok (.aload_n 0, 1) := by decide +kernel
theorem dX12_draws_46 : decode cX12_draws 46 = .ok (.getfield 369, 3) := by decide +kernel
theorem dX12_draws_49 : decode cX12_draws 49 = .ok (.getfield 318, 3) := by decide +kernel
theorem dX12_draws_52 : decode cX12_draws 52 = .ok (.if_icmp .ge 173, 3) := by decide +kernel
theorem dX12_draws_55 : decode cX12_draws 55 = .ok (.aload_n 0, 1) := by decide +kernel
theorem dX12_draws_56 : decode cX12_draws 56 = .ok (.getfield 369, 3) := by decide +kernel
theorem dX12_draws_59 : decode cX12_draws 59 = .ok (.getfield 330, 3) := by decide +kernel
theorem dX12_draws_62 : decode cX12_draws 62 = .ok (.iload_n 3, 1) := by decide +kernel
theorem dX12_draws_63 : decode cX12_draws 63 = .ok (.iaload, 1) := by decide +kernel
theorem dX12_draws_64 : decode cX12_draws 64 = .ok (.iload_n 2, 1) := by decide +kernel
theorem dX12_draws_65 : decode cX12_draws 65 = .ok (.if_icmp .eq 6, 3) := by decide +kernel
theorem dX12_draws_68 : decode cX12_draws 68 = .ok (.goto 151, 3) := by decide +kernel
theorem dX12_draws_71 : decode cX12_draws 71 = .ok (.aload_n 0, 1) := by decide +kernel
theorem dX12_draws_72 : decode cX12_draws 72 = .ok (.getfield 369, 3) := by decide +kernel
theorem dX12_draws_75 : decode cX12_draws 75 = .ok (.getfield 321, 3) := by decide +kernel
theorem dX12_draws_78 : decode cX12_draws 78 = .ok (.iload_n 3, 1) := by decide +kernel
theorem dX12_draws_79 : decode cX12_draws 79 = .ok (.iaload, 1) := by decide +kernel
theorem dX12_draws_80 : decode cX12_draws 80 = .ok (.istore 4, 2) := by decide +kernel
theorem dX12_draws_82 : decode cX12_draws 82 = .ok (.aload_n 0, 1) := by decide +kernel
theorem dX12_draws_83 : decode cX12_draws 83 = .ok (.getfield 369, 3) := by decide +kernel
theorem dX12_draws_86 : decode cX12_draws 86 = .ok (.getfield 324, 3) := by decide +kernel
theorem dX12_draws_89 : decode cX12_draws 89 = .ok (.iload_n 3, 1) := by decide +kernel
theorem dX12_draws_90 : decode cX12_draws 90 = .ok (.iaload, 1) := by decide +kernel
theorem dX12_draws_91 : decode cX12_draws 91 = .ok (.istore 5, 2) := by decide +kernel
theorem dX12_draws_93 : decode cX12_draws 93 = .ok (.aload_n 0, 1) := by decide +kernel
theorem dX12_draws_94 : decode cX12_draws 94 = .ok (.getfield 369, 3) := by decide +kernel
theorem dX12_draws_97 : decode cX12_draws 97 = .ok (.getfield 327, 3) := by decide +kernel
theorem dX12_draws_100 : decode cX12_draws 100 = .ok (.iload_n 3, 1) := by decide +kernel
theorem dX12_draws_101 : decode cX12_draws 101 = .ok (.iaload, 1) := by decide +kernel
theorem dX12_draws_102 : decode cX12_draws 102 = .ok (.istore 6, 2) := by decide +kernel
theorem dX12_draws_104 : decode cX12_draws 104 = .ok (.aload_n 0, 1) := by decide +kernel
theorem dX12_draws_105 : decode cX12_draws 105 = .ok (.aload_n 0, 1) := by decide +kernel
theorem dX12_draws_106 : decode cX12_draws 106 = .ok (.getfield 21, 3) := by decide +kernel
theorem dX12_draws_109 : decode cX12_draws 109 = .ok (.iload 4, 2) := by decide +kernel
theorem dX12_draws_111 : decode cX12_draws 111 = .ok (.iload 5, 2) := by decide +kernel
theorem dX12_draws_113 : decode cX12_draws 113 = .ok (.iload 6, 2) := by decide +kernel
theorem dX12_draws_115 : decode cX12_draws 115 = .ok (.iload_n 2, 1) := by decide +kernel
theorem dX12_draws_116 : decode cX12_draws 116 = .ok (.invokevirtual 395, 3) := by decide +kernel
theorem dX12_draws_119 : decode cX12_draws 119 = .ok (.ifCond .eq 6, 3) := by decide +kernel
theorem dX12_draws_122 : decode cX12_draws 122 = .ok (.goto 97, 3) := by decide +kernel
theorem dX12_draws_125 : decode cX12_draws 125 = .ok (.aload_n 0, 1) := by decide +kernel
theorem dX12_draws_126 : decode cX12_draws 126 = .ok (.ldc2_w 532, 3) := by decide +kernel
theorem dX12_draws_129 : decode cX12_draws 129 = .ok (.aload_n 0, 1) := by decide +kernel
theorem dX12_draws_130 : decode cX12_draws 130 = .ok (.getfield 534, 3) := by decide +kernel
theorem dX12_draws_133 : decode cX12_draws 133 = .ok (.i2l, 1) := by decide +kernel
theorem dX12_draws_134 : decode cX12_draws 134 = .ok (.lmul, 1) := by decide +kernel
theorem dX12_draws_135 : decode cX12_draws 135 = .ok (.ldc2_w 537, 3) := by decide +kernel
theorem dX12_draws_138 : decode cX12_draws 138 = .ok (.ladd, 1) := by decide +kernel
theorem dX12_draws_139 : decode cX12_draws 139 = .ok (.ldc2_w 539, 3) := by decide +kernel
theorem dX12_draws_142 : decode cX12_draws 142 = .ok (.lrem, 1) := by decide +kernel
theorem dX12_draws_143 : decode cX12_draws 143 = .ok (.l2i, 1) := by decide +kernel
theorem dX12_draws_144 : decode cX12_draws 144 = .ok (.putfield 534, 3) := by decide +kernel
theorem dX12_draws_147 : decode cX12_draws 147 = .ok (.aload_n 0, 1) := by decide +kernel
theorem dX12_draws_148 : decode cX12_draws 148 = .ok (.getfield 534, 3) := by decide +kernel
theorem dX12_draws_151 : decode cX12_draws 151 = .ok (.bipush 100, 2) := by decide +kernel
theorem dX12_draws_153 : decode cX12_draws 153 = .ok (.irem, 1) := by decide +kernel
theorem dX12_draws_154 : decode cX12_draws 154 = .ok (.aload_n 0, 1) := by decide +kernel
theorem dX12_draws_155 : decode cX12_draws 155 = .ok (.aload_n 0, 1) := by decide +kernel
theorem dX12_draws_156 : decode cX12_draws 156 = .ok (.getfield 21, 3) := by decide +kernel
theorem dX12_draws_159 : decode cX12_draws 159 = .ok (.iload 4, 2) := by decide +kernel
theorem dX12_draws_161 : decode cX12_draws 161 = .ok (.iload 5, 2) := by decide +kernel
theorem dX12_draws_163 : decode cX12_draws 163 = .ok (.iload 6, 2) := by decide +kernel
theorem dX12_draws_165 : decode cX12_draws 165 = .ok (.aload_n 0, 1) := by decide +kernel
theorem dX12_draws_166 : decode cX12_draws 166 = .ok (.getfield 369, 3) := by decide +kernel
theorem dX12_draws_169 : decode cX12_draws 169 = .ok (.iload 4, 2) := by decide +kernel
theorem dX12_draws_171 : decode cX12_draws 171 = .ok (.iload 6, 2) := by decide +kernel
theorem dX12_draws_173 : decode cX12_draws 173 = .ok (.iload_n 2, 1) := by decide +kernel
theorem dX12_draws_174 : decode cX12_draws 174 = .ok (.invokevirtual 388, 3) := by decide +kernel
theorem dX12_draws_177 : decode cX12_draws 177 = .ok (.invokevirtual 399, 3) := by decide +kernel
theorem dX12_draws_180 : decode cX12_draws 180 = .ok (.if_icmp .ge 7, 3) := by decide +kernel
theorem dX12_draws_183 : decode cX12_draws 183 = .ok (.iconst 1, 1) := by decide +kernel
theorem dX12_draws_184 : decode cX12_draws 184 = .ok (.goto 4, 3) := by decide +kernel
theorem dX12_draws_187 : decode cX12_draws 187 = .ok (.iconst 0, 1) := by decide +kernel
theorem dX12_draws_188 : decode cX12_draws 188 = .ok (.istore 7, 2) := by decide +kernel
theorem dX12_draws_190 : decode cX12_draws 190 = .ok (.aload_n 0, 1) := by decide +kernel
theorem dX12_draws_191 : decode cX12_draws 191 = .ok (.aload_n 0, 1) := by decide +kernel
theorem dX12_draws_192 : decode cX12_draws 192 = .ok (.getfield 21, 3) := by decide +kernel
theorem dX12_draws_195 : decode cX12_draws 195 = .ok (.iload 7, 2) := by decide +kernel
theorem dX12_draws_197 : decode cX12_draws 197 = .ok (.iload 4, 2) := by decide +kernel
theorem dX12_draws_199 : decode cX12_draws 199 = .ok (.iload 5, 2) := by decide +kernel
theorem dX12_draws_201 : decode cX12_draws 201 = .ok (.iload 6, 2) := by decide +kernel
theorem dX12_draws_203 : decode cX12_draws 203 = .ok (.invokevirtual 439, 3) := by decide +kernel
theorem dX12_draws_206 : decode cX12_draws 206 = .ok (.iload_n 1, 1) := by decide +kernel
theorem dX12_draws_207 : decode cX12_draws 207 = .ok (.iload 7, 2) := by decide +kernel
theorem dX12_draws_209 : decode cX12_draws 209 = .ok (.ifCond .ne 7, 3) := by decide +kernel
theorem dX12_draws_212 : decode cX12_draws 212 = .ok (.iconst 1, 1) := by decide +kernel
theorem dX12_draws_213 : decode cX12_draws 213 = .ok (.goto 4, 3) := by decide +kernel
theorem dX12_draws_216 : decode cX12_draws 216 = .ok (.iconst 0, 1) := by decide +kernel
theorem dX12_draws_217 : decode cX12_draws 217 = .ok (.iadd, 1) := by decide +kernel
theorem dX12_draws_218 : decode cX12_draws 218 = .ok (.istore_n 1, 1) := by decide +kernel
theorem dX12_draws_219 : decode cX12_draws 219 = .ok (.iinc 3 1, 3) := by decide +kernel
theorem dX12_draws_222 : decode cX12_draws 222 = .ok (.goto (-178), 3) := by decide +kernel
theorem dX12_draws_225 : decode cX12_draws 225 = .ok (.iinc 2 1, 3) := by decide +kernel
theorem dX12_draws_228 : decode cX12_draws 228 = .ok (.goto (-197), 3) := by decide +kernel
theorem dX12_draws_231 : decode cX12_draws 231 = .ok (.iload_n 1, 1) := by decide +kernel
theorem dX12_draws_232 : decode cX12_draws 232 = .ok (.ireturn, 1) := by decide +kernel
theorem dX12_drawn_0 : decode cX12_drawn 0 = .ok (.aload_n 0, 1) := by decide +kernel
theorem dX12_drawn_1 : decode cX12_drawn 1 = .ok (.iconst 0, 1) := by decide +kernel
theorem dX12_drawn_2 : decode cX12_drawn 2 = .ok (.putfield 48, 3) := by decide +kernel
theorem dX12_drawn_5 : decode cX12_drawn 5 = .ok (.aload_n 0, 1) := by decide +kernel
theorem dX12_drawn_6 : decode cX12_drawn 6 = .ok (.getfield 369, 3) := by decide +kernel
theorem dX12_drawn_9 : decode cX12_drawn 9 = .ok (.ifnonnull 9, 3) := by decide +kernel
theorem dX12_drawn_12 : decode cX12_drawn 12 = .ok (.aload_n 0, 1) := by decide +kernel
theorem dX12_drawn_13 : decode cX12_drawn 13 = .ok (.iconst 1, 1) := by decide +kernel
theorem dX12_drawn_14 : decode cX12_drawn 14 = .ok (.invokevirtual 54, 3) := by decide +kernel
theorem dX12_drawn_17 : decode cX12_drawn 17 = .ok (.ireturn, 1) := by decide +kernel
theorem dX12_drawn_18 : decode cX12_drawn 18 = .ok (.iload_n 1, 1) := by decide +kernel
theorem dX12_drawn_19 : decode cX12_drawn 19 = .ok (.iconst 0, 1) := by decide +kernel
theorem dX12_drawn_20 : decode cX12_drawn 20 = .ok (.ldc_w 541, 3) := by decide +kernel
theorem dX12_drawn_23 : decode cX12_drawn 23 = .ok (.invokestatic 127, 3) := by decide +kernel
theorem dX12_drawn_26 : decode cX12_drawn 26 = .ok (.ifCond .ne 9, 3) := by decide +kernel
theorem dX12_drawn_29 : decode cX12_drawn 29 = .ok (.aload_n 0, 1) := by decide +kernel
theorem dX12_drawn_30 : decode cX12_drawn 30 = .ok (.iconst 2, 1) := by decide +kernel
theorem dX12_drawn_31 : decode cX12_drawn 31 = .ok (.invokevirtual 54, 3) := by decide +kernel
theorem dX12_drawn_34 : decode cX12_drawn 34 = .ok (.ireturn, 1) := by decide +kernel
theorem dX12_drawn_35 : decode cX12_drawn 35 = .ok (.aload_n 0, 1) := by decide +kernel
theorem dX12_drawn_36 : decode cX12_drawn 36 = .ok (.iload_n 1, 1) := by decide +kernel
theorem dX12_drawn_37 : decode cX12_drawn 37 = .ok (.putfield 534, 3) := by decide +kernel
theorem dX12_drawn_40 : decode cX12_drawn 40 = .ok (.aload_n 0, 1) := by decide +kernel
theorem dX12_drawn_41 : decode cX12_drawn 41 = .ok (.aload_n 0, 1) := by decide +kernel
theorem dX12_drawn_42 : decode cX12_drawn 42 = .ok (.invokevirtual 542, 3) := by decide +kernel
theorem dX12_drawn_45 : decode cX12_drawn 45 = .ok (.invokevirtual 58, 3) := by decide +kernel
theorem dX12_drawn_48 : decode cX12_drawn 48 = .ok (.ireturn, 1) := by decide +kernel
theorem dX12_caught_0 : decode cX12_caught 0 = .ok (.aload_n 0, 1) := by decide +kernel
theorem dX12_caught_1 : decode cX12_caught 1 = .ok (.iconst 0, 1) := by decide +kernel
theorem dX12_caught_2 : decode cX12_caught 2 = .ok (.putfield 48, 3) := by decide +kernel
theorem dX12_caught_5 : decode cX12_caught 5 = .ok (.aload_n 0, 1) := by decide +kernel
theorem dX12_caught_6 : decode cX12_caught 6 = .ok (.iload_n 1, 1) := by decide +kernel
theorem dX12_caught_7 : decode cX12_caught 7 = .ok (.invokevirtual 414, 3) := by decide +kernel
theorem dX12_caught_10 : decode cX12_caught 10 = .ok (.ifCond .ne 9, 3) := by decide +kernel
theorem dX12_caught_13 : decode cX12_caught 13 = .ok (.aload_n 0, 1) := by decide +kernel
theorem dX12_caught_14 : decode cX12_caught 14 = .ok (.iconst 1, 1) := by decide +kernel
theorem dX12_caught_15 : decode cX12_caught 15 = .ok (.invokevirtual 54, 3) := by decide +kernel
theorem dX12_caught_18 : decode cX12_caught 18 = .ok (.ireturn, 1) := by decide +kernel
theorem dX12_caught_19 : decode cX12_caught 19 = .ok (.iload_n 2, 1) := by decide +kernel
theorem dX12_caught_20 : decode cX12_caught 20 = .ok (.iconst 0, 1) := by decide +kernel
theorem dX12_caught_21 : decode cX12_caught 21 = .ok (.ldc_w 541, 3) := by decide +kernel
theorem dX12_caught_24 : decode cX12_caught 24 = .ok (.invokestatic 127, 3) := by decide +kernel
theorem dX12_caught_27 : decode cX12_caught 27 = .ok (.ifCond .eq 13, 3) := by decide +kernel
theorem dX12_caught_30 : decode cX12_caught 30 = .ok (.iload_n 3, 1) := by decide +kernel
theorem dX12_caught_31 : decode cX12_caught 31 = .ok (.iconst 1, 1) := by decide +kernel
theorem dX12_caught_32 : decode cX12_caught 32 = .ok (.bipush 50, 2) := by decide +kernel
theorem dX12_caught_34 : decode cX12_caught 34 = .ok (.invokestatic 127, 3) := by decide +kernel
theorem dX12_caught_37 : decode cX12_caught 37 = .ok (.ifCond .ne 9, 3) := by decide +kernel
theorem dX12_caught_40 : decode cX12_caught 40 = .ok (.aload_n 0, 1) := by decide +kernel
theorem dX12_caught_41 : decode cX12_caught 41 = .ok (.iconst 2, 1) := by decide +kernel
theorem dX12_caught_42 : decode cX12_caught 42 = .ok (.invokevirtual 54, 3) := by decide +kernel
theorem dX12_caught_45 : decode cX12_caught 45 = .ok (.ireturn, 1) := by decide +kernel
theorem dX12_caught_46 : decode cX12_caught 46 = .ok (.aload_n 0, 1) := by decide +kernel
theorem dX12_caught_47 : decode cX12_caught 47 = .ok (.iload_n 2, 1) := by decide +kernel
theorem dX12_caught_48 : decode cX12_caught 48 = .ok (.putfield 534, 3) := by decide +kernel
theorem dX12_caught_51 : decode cX12_caught 51 = .ok (.iconst 0, 1) := by decide +kernel
theorem dX12_caught_52 : decode cX12_caught 52 = .ok (.istore 4, 2) := by decide +kernel
theorem dX12_caught_54 : decode cX12_caught 54 = .ok (.iconst 0, 1) := by decide +kernel
theorem dX12_caught_55 : decode cX12_caught 55 = .ok (.istore 5, 2) := by decide +kernel
theorem dX12_caught_57 : decode cX12_caught 57 = .ok (.iload 5, 2) := by decide +kernel
theorem dX12_caught_59 : decode cX12_caught 59 = .ok (.iload_n 3, 1) := by decide +kernel
theorem dX12_caught_60 : decode cX12_caught 60 = .ok (.if_icmp .ge 28, 3) := by decide +kernel
theorem dX12_caught_63 : decode cX12_caught 63 = .ok (.aload_n 0, 1) := by decide +kernel
theorem dX12_caught_64 : decode cX12_caught 64 = .ok (.invokevirtual 542, 3) := by decide +kernel
theorem dX12_caught_67 : decode cX12_caught 67 = .ok (.pop, 1) := by decide +kernel
theorem dX12_caught_68 : decode cX12_caught 68 = .ok (.iload 4, 2) := by decide +kernel
theorem dX12_caught_70 : decode cX12_caught 70 = .ok (.aload_n 0, 1) := by decide +kernel
theorem dX12_caught_71 : decode cX12_caught 71 = .ok (.getfield 21, 3) := by decide +kernel
theorem dX12_caught_74 : decode cX12_caught 74 = .ok (.bipush 12, 2) := by decide +kernel
theorem dX12_caught_76 : decode cX12_caught 76 = .ok (.iload_n 1, 1) := by decide +kernel
theorem dX12_caught_77 : decode cX12_caught 77 = .ok (.iadd, 1) := by decide +kernel
theorem dX12_caught_78 : decode cX12_caught 78 = .ok (.iaload, 1) := by decide +kernel
theorem dX12_caught_79 : decode cX12_caught 79 = .ok (.iadd, 1) := by decide +kernel
theorem dX12_caught_80 : decode cX12_caught 80 = .ok (.istore 4, 2) := by decide +kernel
theorem dX12_caught_82 : decode cX12_caught 82 = .ok (.iinc 5 1, 3) := by decide +kernel
theorem dX12_caught_85 : decode cX12_caught 85 = .ok (.goto (-28), 3) := by decide +kernel
theorem dX12_caught_88 : decode cX12_caught 88 = .ok (.aload_n 0, 1) := by decide +kernel
theorem dX12_caught_89 : decode cX12_caught 89 = .ok (.iload 4, 2) := by decide +kernel
theorem dX12_caught_91 : decode cX12_caught 91 = .ok (.invokevirtual 58, 3) := by decide +kernel
theorem dX12_caught_94 : decode cX12_caught 94 = .ok (.ireturn, 1) := by decide +kernel
theorem dX12_remembers_0 : decode cX12_remembers 0 = .ok (.aload_n 0, 1) := by decide +kernel
theorem dX12_remembers_1 : decode cX12_remembers 1 = .ok (.getfield 371, 3) := by decide +kernel
theorem dX12_remembers_4 : decode cX12_remembers 4 = .ok (.bipush 16, 2) := by decide +kernel
theorem dX12_remembers_6 : decode cX12_remembers 6 = .ok (.if_icmp .ne 43, 3) := by decide +kernel
theorem dX12_remembers_9 : decode cX12_remembers 9 = .ok (.iconst 0, 1) := by decide +kernel
theorem dX12_remembers_10 : decode cX12_remembers 10 = .ok (.istore_n 1, 1) := by decide +kernel
theorem dX12_remembers_11 : decode cX12_remembers 11 = .ok (.iload_n 1, 1) := by decide +kernel
theorem dX12_remembers_12 : decode cX12_remembers 12 = .ok (.sipush 240, 3) := by decide +kernel
theorem dX12_remembers_15 : decode cX12_remembers 15 = .ok (.if_icmp .ge 24, 3) := by decide +kernel
theorem dX12_remembers_18 : decode cX12_remembers 18 = .ok (.aload_n 0, 1) := by decide +kernel
theorem dX12_remembers_19 : decode cX12_remembers 19 = .ok (.getfield 24, 3) := by decide +kernel
theorem dX12_remembers_22 : decode cX12_remembers 22 = .ok (.iload_n 1, 1) := by decide +kernel
theorem dX12_remembers_23 : decode cX12_remembers 23 = .ok (.aload_n 0, 1) := by decide +kernel
theorem dX12_remembers_24 : decode cX12_remembers 24 = .ok (.getfield 24, 3) := by decide +kernel
theorem dX12_remembers_27 : decode cX12_remembers 27 = .ok (.iload_n 1, 1) := by decide +kernel
theorem dX12_remembers_28 : decode cX12_remembers 28 = .ok (.bipush 16, 2) := by decide +kernel
theorem dX12_remembers_30 : decode cX12_remembers 30 = .ok (.iadd, 1) := by decide +kernel
theorem dX12_remembers_31 : decode cX12_remembers 31 = .ok (.iaload, 1) := by decide +kernel
theorem dX12_remembers_32 : decode cX12_remembers 32 = .ok (.iastore, 1) := by decide +kernel
theorem dX12_remembers_33 : decode cX12_remembers 33 = .ok (.iinc 1 1, 3) := by decide +kernel
theorem dX12_remembers_36 : decode cX12_remembers 36 = .ok (.goto (-25), 3) := by decide +kernel
theorem dX12_remembers_39 : decode cX12_remembers 39 = .ok (.aload_n 0, 1) := by decide +kernel
theorem dX12_remembers_40 : decode cX12_remembers 40 = .ok (.dup, 1) := by decide +kernel
theorem dX12_remembers_41 : decode cX12_remembers 41 = .ok (.getfield 371, 3) := by decide +kernel
theorem dX12_remembers_44 : decode cX12_remembers 44 = .ok (.iconst 1, 1) := by decide +kernel
theorem dX12_remembers_45 : decode cX12_remembers 45 = .ok (.isub, 1) := by decide +kernel
theorem dX12_remembers_46 : decode cX12_remembers 46 = .ok (.putfield 371, 3) := by decide +kernel
theorem dX12_remembers_49 : decode cX12_remembers 49 = .ok (.iconst 0, 1) := by decide +kernel
theorem dX12_remembers_50 : decode cX12_remembers 50 = .ok (.istore_n 1, 1) := by decide +kernel
theorem dX12_remembers_51 : decode cX12_remembers 51 = .ok (.iload_n 1, 1) := by decide +kernel
theorem dX12_remembers_52 : decode cX12_remembers 52 = .ok (.bipush 16, 2) := by decide +kernel
theorem dX12_remembers_54 : decode cX12_remembers 54 = .ok (.if_icmp .ge 29, 3) := by decide +kernel
theorem dX12_remembers_57 : decode cX12_remembers 57 = .ok (.aload_n 0, 1) := by decide +kernel
theorem dX12_remembers_58 : decode cX12_remembers 58 = .ok (.getfield 24, 3) := by decide +kernel
theorem dX12_remembers_61 : decode cX12_remembers 61 = .ok (.bipush 16, 2) := by decide +kernel
theorem dX12_remembers_63 : decode cX12_remembers 63 = .ok (.aload_n 0, 1) := by decide +kernel
theorem dX12_remembers_64 : decode cX12_remembers 64 = .ok (.getfield 371, 3) := by decide +kernel
theorem dX12_remembers_67 : decode cX12_remembers 67 = .ok (.imul, 1) := by decide +kernel
theorem dX12_remembers_68 : decode cX12_remembers 68 = .ok (.iload_n 1, 1) := by decide +kernel
theorem dX12_remembers_69 : decode cX12_remembers 69 = .ok (.iadd, 1) := by decide +kernel
theorem dX12_remembers_70 : decode cX12_remembers 70 = .ok (.aload_n 0, 1) := by decide +kernel
theorem dX12_remembers_71 : decode cX12_remembers 71 = .ok (.getfield 17, 3) := by decide +kernel
theorem dX12_remembers_74 : decode cX12_remembers 74 = .ok (.iload_n 1, 1) := by decide +kernel
theorem dX12_remembers_75 : decode cX12_remembers 75 = .ok (.iaload, 1) := by decide +kernel
theorem dX12_remembers_76 : decode cX12_remembers 76 = .ok (.iastore, 1) := by decide +kernel
theorem dX12_remembers_77 : decode cX12_remembers 77 = .ok (.iinc 1 1, 3) := by decide +kernel
theorem dX12_remembers_80 : decode cX12_remembers 80 = .ok (.goto (-29), 3) := by decide +kernel
theorem dX12_remembers_83 : decode cX12_remembers 83 = .ok (.aload_n 0, 1) := by decide +kernel
theorem dX12_remembers_84 : decode cX12_remembers 84 = .ok (.dup, 1) := by decide +kernel
theorem dX12_remembers_85 : decode cX12_remembers 85 = .ok (.getfield 371, 3) := by decide +kernel
theorem dX12_remembers_88 : decode cX12_remembers 88 = .ok (.iconst 1, 1) := by decide +kernel
theorem dX12_remembers_89 : decode cX12_remembers 89 = .ok (.iadd, 1) := by decide +kernel
theorem dX12_remembers_90 : decode cX12_remembers 90 = .ok (.putfield 371, 3) := by decide +kernel
theorem dX12_remembers_93 : decode cX12_remembers 93 = .ok (.return_, 1) := by decide +kernel
theorem dX12_give_0 : decode cX12_give 0 = .ok (.aload_n 0, 1) := by decide +kernel
theorem dX12_give_1 : decode cX12_give 1 = .ok (.iconst 0, 1) := by decide +kernel
theorem dX12_give_2 : decode cX12_give 2 = .ok (.putfield 48, 3) := by decide +kernel
theorem dX12_give_5 : decode cX12_give 5 = .ok (.aload_n 0, 1) := by decide +kernel
theorem dX12_give_6 : decode cX12_give 6 = .ok (.iload_n 1, 1) := by decide +kernel
theorem dX12_give_7 : decode cX12_give 7 = .ok (.invokevirtual 414, 3) := by decide +kernel
theorem dX12_give_10 : decode cX12_give 10 = .ok (.ifCond .eq 19, 3) := by decide +kernel
theorem dX12_give_13 : decode cX12_give 13 = .ok (.aload_n 0, 1) := by decide +kernel
theorem dX12_give_14 : decode cX12_give 14 = .ok (.iload_n 2, 1) := by decide +kernel
theorem dX12_give_15 : decode cX12_give 15 = .ok (.invokevirtual 405, 3) := by decide +kernel
theorem dX12_give_18 : decode cX12_give 18 = .ok (.ifCond .eq 11, 3) := by decide +kernel
theorem dX12_give_21 : decode cX12_give 21 = .ok (.aload_n 0, 1) := by decide +kernel
theorem dX12_give_22 : decode cX12_give 22 = .ok (.iload_n 3, 1) := by decide +kernel
theorem dX12_give_23 : decode cX12_give 23 = .ok (.invokevirtual 408, 3) := by decide +kernel
theorem dX12_give_26 : decode cX12_give 26 = .ok (.ifCond .ne 9, 3) := by decide +kernel
theorem dX12_give_29 : decode cX12_give 29 = .ok (.aload_n 0, 1) := by decide +kernel
theorem dX12_give_30 : decode cX12_give 30 = .ok (.iconst 1, 1) := by decide +kernel
theorem dX12_give_31 : decode cX12_give 31 = .ok (.invokevirtual 54, 3) := by decide +kernel
theorem dX12_give_34 : decode cX12_give 34 = .ok (.ireturn, 1) := by decide +kernel
theorem dX12_give_35 : decode cX12_give 35 = .ok (.aload_n 0, 1) := by decide +kernel
theorem dX12_give_36 : decode cX12_give 36 = .ok (.aload_n 0, 1) := by decide +kernel
theorem dX12_give_37 : decode cX12_give 37 = .ok (.getfield 17, 3) := by decide +kernel
theorem dX12_give_40 : decode cX12_give 40 = .ok (.iload_n 1, 1) := by decide +kernel
theorem dX12_give_41 : decode cX12_give 41 = .ok (.iload_n 2, 1) := by decide +kernel
theorem dX12_give_42 : decode cX12_give 42 = .ok (.iload_n 3, 1) := by decide +kernel
theorem dX12_give_43 : decode cX12_give 43 = .ok (.aload_n 0, 1) := by decide +kernel
theorem dX12_give_44 : decode cX12_give 44 = .ok (.getfield 17, 3) := by decide +kernel
theorem dX12_give_47 : decode cX12_give 47 = .ok (.bipush 15, 2) := by decide +kernel
theorem dX12_give_49 : decode cX12_give 49 = .ok (.iaload, 1) := by decide +kernel
theorem dX12_give_50 : decode cX12_give 50 = .ok (.invokevirtual 424, 3) := by decide +kernel
theorem dX12_give_53 : decode cX12_give 53 = .ok (.istore 4, 2) := by decide +kernel
theorem dX12_give_55 : decode cX12_give 55 = .ok (.iload 4, 2) := by decide +kernel
theorem dX12_give_57 : decode cX12_give 57 = .ok (.iconst 1, 1) := by decide +kernel
theorem dX12_give_58 : decode cX12_give 58 = .ok (.if_icmp .le 9, 3) := by decide +kernel
theorem dX12_give_61 : decode cX12_give 61 = .ok (.aload_n 0, 1) := by decide +kernel
theorem dX12_give_62 : decode cX12_give 62 = .ok (.iconst 5, 1) := by decide +kernel
theorem dX12_give_63 : decode cX12_give 63 = .ok (.invokevirtual 54, 3) := by decide +kernel
theorem dX12_give_66 : decode cX12_give 66 = .ok (.ireturn, 1) := by decide +kernel
theorem dX12_give_67 : decode cX12_give 67 = .ok (.aload_n 0, 1) := by decide +kernel
theorem dX12_give_68 : decode cX12_give 68 = .ok (.invokevirtual 545, 3) := by decide +kernel
theorem dX12_give_71 : decode cX12_give 71 = .ok (.aload_n 0, 1) := by decide +kernel
theorem dX12_give_72 : decode cX12_give 72 = .ok (.aload_n 0, 1) := by decide +kernel
theorem dX12_give_73 : decode cX12_give 73 = .ok (.getfield 17, 3) := by decide +kernel
theorem dX12_give_76 : decode cX12_give 76 = .ok (.iload 4, 2) := by decide +kernel
theorem dX12_give_78 : decode cX12_give 78 = .ok (.iload_n 1, 1) := by decide +kernel
theorem dX12_give_79 : decode cX12_give 79 = .ok (.iload_n 2, 1) := by decide +kernel
theorem dX12_give_80 : decode cX12_give 80 = .ok (.iload_n 3, 1) := by decide +kernel
theorem dX12_give_81 : decode cX12_give 81 = .ok (.invokevirtual 439, 3) := by decide +kernel
theorem dX12_give_84 : decode cX12_give 84 = .ok (.aload_n 0, 1) := by decide +kernel
theorem dX12_give_85 : decode cX12_give 85 = .ok (.iload 4, 2) := by decide +kernel
theorem dX12_give_87 : decode cX12_give 87 = .ok (.invokevirtual 58, 3) := by decide +kernel
theorem dX12_give_90 : decode cX12_give 90 = .ok (.ireturn, 1) := by decide +kernel
theorem dX12_day_0 : decode cX12_day 0 = .ok (.aload_n 0, 1) := by decide +kernel
theorem dX12_day_1 : decode cX12_day 1 = .ok (.iconst 0, 1) := by decide +kernel
theorem dX12_day_2 : decode cX12_day 2 = .ok (.putfield 48, 3) := by decide +kernel
theorem dX12_day_5 : decode cX12_day 5 = .ok (.aload_n 0, 1) := by decide +kernel
theorem dX12_day_6 : decode cX12_day 6 = .ok (.getfield 369, 3) := by decide +kernel
theorem dX12_day_9 : decode cX12_day 9 = .ok (.ifnonnull 9, 3) := by decide +kernel
theorem dX12_day_12 : decode cX12_day 12 = .ok (.aload_n 0, 1) := by decide +kernel
theorem dX12_day_13 : decode cX12_day 13 = .ok (.iconst 1, 1) := by decide +kernel
theorem dX12_day_14 : decode cX12_day 14 = .ok (.invokevirtual 54, 3) := by decide +kernel
theorem dX12_day_17 : decode cX12_day 17 = .ok (.ireturn, 1) := by decide +kernel
theorem dX12_day_18 : decode cX12_day 18 = .ok (.aload_n 0, 1) := by decide +kernel
theorem dX12_day_19 : decode cX12_day 19 = .ok (.invokevirtual 545, 3) := by decide +kernel
theorem dX12_day_22 : decode cX12_day 22 = .ok (.aload_n 0, 1) := by decide +kernel
theorem dX12_day_23 : decode cX12_day 23 = .ok (.getfield 17, 3) := by decide +kernel
theorem dX12_day_26 : decode cX12_day 26 = .ok (.bipush 15, 2) := by decide +kernel
theorem dX12_day_28 : decode cX12_day 28 = .ok (.aload_n 0, 1) := by decide +kernel
theorem dX12_day_29 : decode cX12_day 29 = .ok (.getfield 17, 3) := by decide +kernel
theorem dX12_day_32 : decode cX12_day 32 = .ok (.bipush 15, 2) := by decide +kernel
theorem dX12_day_34 : decode cX12_day 34 = .ok (.iaload, 1) := by decide +kernel
theorem dX12_day_35 : decode cX12_day 35 = .ok (.iconst 1, 1) := by decide +kernel
theorem dX12_day_36 : decode cX12_day 36 = .ok (.iadd, 1) := by decide +kernel
theorem dX12_day_37 : decode cX12_day 37 = .ok (.aload_n 0, 1) := by decide +kernel
theorem dX12_day_38 : decode cX12_day 38 = .ok (.getfield 369, 3) := by decide +kernel
theorem dX12_day_41 : decode cX12_day 41 = .ok (.getfield 166, 3) := by decide +kernel
theorem dX12_day_44 : decode cX12_day 44 = .ok (.irem, 1) := by decide +kernel
theorem dX12_day_45 : decode cX12_day 45 = .ok (.iastore, 1) := by decide +kernel
theorem dX12_day_46 : decode cX12_day 46 = .ok (.aload_n 0, 1) := by decide +kernel
theorem dX12_day_47 : decode cX12_day 47 = .ok (.aload_n 0, 1) := by decide +kernel
theorem dX12_day_48 : decode cX12_day 48 = .ok (.getfield 17, 3) := by decide +kernel
theorem dX12_day_51 : decode cX12_day 51 = .ok (.bipush 15, 2) := by decide +kernel
theorem dX12_day_53 : decode cX12_day 53 = .ok (.iaload, 1) := by decide +kernel
theorem dX12_day_54 : decode cX12_day 54 = .ok (.invokevirtual 58, 3) := by decide +kernel
theorem dX12_day_57 : decode cX12_day 57 = .ok (.ireturn, 1) := by decide +kernel
theorem dX12_sew_0 : decode cX12_sew 0 = .ok (.aload_n 0, 1) := by decide +kernel
theorem dX12_sew_1 : decode cX12_sew 1 = .ok (.iconst 0, 1) := by decide +kernel
theorem dX12_sew_2 : decode cX12_sew 2 = .ok (.putfield 48, 3) := by decide +kernel
theorem dX12_sew_5 : decode cX12_sew 5 = .ok (.aload_n 0, 1) := by decide +kernel
theorem dX12_sew_6 : decode cX12_sew 6 = .ok (.iload_n 1, 1) := by decide +kernel
theorem dX12_sew_7 : decode cX12_sew 7 = .ok (.invokevirtual 408, 3) := by decide +kernel
theorem dX12_sew_10 : decode cX12_sew 10 = .ok (.ifCond .ne 9, 3) := by decide +kernel
theorem dX12_sew_13 : decode cX12_sew 13 = .ok (.aload_n 0, 1) := by decide +kernel
theorem dX12_sew_14 : decode cX12_sew 14 = .ok (.iconst 1, 1) := by decide +kernel
theorem dX12_sew_15 : decode cX12_sew 15 = .ok (.invokevirtual 548, 3) := by decide +kernel
theorem dX12_sew_18 : decode cX12_sew 18 = .ok (.ireturn, 1) := by decide +kernel
theorem dX12_sew_19 : decode cX12_sew 19 = .ok (.aload_n 0, 1) := by decide +kernel
theorem dX12_sew_20 : decode cX12_sew 20 = .ok (.aload_n 0, 1) := by decide +kernel
theorem dX12_sew_21 : decode cX12_sew 21 = .ok (.getfield 17, 3) := by decide +kernel
theorem dX12_sew_24 : decode cX12_sew 24 = .ok (.iload_n 1, 1) := by decide +kernel
theorem dX12_sew_25 : decode cX12_sew 25 = .ok (.invokevirtual 392, 3) := by decide +kernel
theorem dX12_sew_28 : decode cX12_sew 28 = .ok (.ifCond .ne 9, 3) := by decide +kernel
theorem dX12_sew_31 : decode cX12_sew 31 = .ok (.aload_n 0, 1) := by decide +kernel
theorem dX12_sew_32 : decode cX12_sew 32 = .ok (.iconst 5, 1) := by decide +kernel
theorem dX12_sew_33 : decode cX12_sew 33 = .ok (.invokevirtual 548, 3) := by decide +kernel
theorem dX12_sew_36 : decode cX12_sew 36 = .ok (.ireturn, 1) := by decide +kernel
theorem dX12_sew_37 : decode cX12_sew 37 = .ok (.aload_n 0, 1) := by decide +kernel
theorem dX12_sew_38 : decode cX12_sew 38 = .ok (.invokevirtual 545, 3) := by decide +kernel
theorem dX12_sew_41 : decode cX12_sew 41 = .ok (.aload_n 0, 1) := by decide +kernel
theorem dX12_sew_42 : decode cX12_sew 42 = .ok (.getfield 17, 3) := by decide +kernel
theorem dX12_sew_45 : decode cX12_sew 45 = .ok (.iconst 4, 1) := by decide +kernel
theorem dX12_sew_46 : decode cX12_sew 46 = .ok (.iload_n 1, 1) := by decide +kernel
theorem dX12_sew_47 : decode cX12_sew 47 = .ok (.iadd, 1) := by decide +kernel
theorem dX12_sew_48 : decode cX12_sew 48 = .ok (.dup2, 1) := by decide +kernel
theorem dX12_sew_49 : decode cX12_sew 49 = .ok (.iaload, 1) := by decide +kernel
theorem dX12_sew_50 : decode cX12_sew 50 = .ok (.iconst 1, 1) := by decide +kernel
theorem dX12_sew_51 : decode cX12_sew 51 = .ok (.iadd, 1) := by decide +kernel
theorem dX12_sew_52 : decode cX12_sew 52 = .ok (.iastore, 1) := by decide +kernel
theorem dX12_sew_53 : decode cX12_sew 53 = .ok (.aload_n 0, 1) := by decide +kernel
theorem dX12_sew_54 : decode cX12_sew 54 = .ok (.invokevirtual 551, 3) := by decide +kernel
theorem dX12_sew_57 : decode cX12_sew 57 = .ok (.ireturn, 1) := by decide +kernel
theorem dX12_undo_0 : decode cX12_undo 0 = .ok (.aload_n 0, 1) := by decide +kernel
theorem dX12_undo_1 : decode cX12_undo 1 = .ok (.iconst 0, 1) := by decide +kernel
theorem dX12_undo_2 : decode cX12_undo 2 = .ok (.putfield 48, 3) := by decide +kernel
theorem dX12_undo_5 : decode cX12_undo 5 = .ok (.aload_n 0, 1) := by decide +kernel
theorem dX12_undo_6 : decode cX12_undo 6 = .ok (.getfield 369, 3) := by decide +kernel
theorem dX12_undo_9 : decode cX12_undo 9 = .ok (.ifnull 10, 3) := by decide +kernel
theorem dX12_undo_12 : decode cX12_undo 12 = .ok (.aload_n 0, 1) := by decide +kernel
theorem dX12_undo_13 : decode cX12_undo 13 = .ok (.getfield 371, 3) := by decide +kernel
theorem dX12_undo_16 : decode cX12_undo 16 = .ok (.ifCond .ne 10, 3) := by decide +kernel
theorem dX12_undo_19 : decode cX12_undo 19 = .ok (.aload_n 0, 1) := by decide +kernel
theorem dX12_undo_20 : decode cX12_undo 20 = .ok (.bipush 6, 2) := by decide +kernel
theorem dX12_undo_22 : decode cX12_undo 22 = .ok (.invokevirtual 548, 3) := by decide +kernel
theorem dX12_undo_25 : decode cX12_undo 25 = .ok (.ireturn, 1) := by decide +kernel
theorem dX12_undo_26 : decode cX12_undo 26 = .ok (.aload_n 0, 1) := by decide +kernel
theorem dX12_undo_27 : decode cX12_undo 27 = .ok (.dup, 1) := by decide +kernel
theorem dX12_undo_28 : decode cX12_undo 28 = .ok (.getfield 371, 3) := by decide +kernel
theorem dX12_undo_31 : decode cX12_undo 31 = .ok (.iconst 1, 1) := by decide +kernel
theorem dX12_undo_32 : decode cX12_undo 32 = .ok (.isub, 1) := by decide +kernel
theorem dX12_undo_33 : decode cX12_undo 33 = .ok (.putfield 371, 3) := by decide +kernel
theorem dX12_undo_36 : decode cX12_undo 36 = .ok (.iconst 0, 1) := by decide +kernel
theorem dX12_undo_37 : decode cX12_undo 37 = .ok (.istore_n 1, 1) := by decide +kernel
theorem dX12_undo_38 : decode cX12_undo 38 = .ok (.iload_n 1, 1) := by decide +kernel
theorem dX12_undo_39 : decode cX12_undo 39 = .ok (.bipush 16, 2) := by decide +kernel
theorem dX12_undo_41 : decode cX12_undo 41 = .ok (.if_icmp .ge 29, 3) := by decide +kernel
theorem dX12_undo_44 : decode cX12_undo 44 = .ok (.aload_n 0, 1) := by decide +kernel
theorem dX12_undo_45 : decode cX12_undo 45 = .ok (.getfield 17, 3) := by decide +kernel
theorem dX12_undo_48 : decode cX12_undo 48 = .ok (.iload_n 1, 1) := by decide +kernel
theorem dX12_undo_49 : decode cX12_undo 49 = .ok (.aload_n 0, 1) := by decide +kernel
theorem dX12_undo_50 : decode cX12_undo 50 = .ok (.getfield 24, 3) := by decide +kernel
theorem dX12_undo_53 : decode cX12_undo 53 = .ok (.bipush 16, 2) := by decide +kernel
theorem dX12_undo_55 : decode cX12_undo 55 = .ok (.aload_n 0, 1) := by decide +kernel
theorem dX12_undo_56 : decode cX12_undo 56 = .ok (.getfield 371, 3) := by decide +kernel
theorem dX12_undo_59 : decode cX12_undo 59 = .ok (.imul, 1) := by decide +kernel
theorem dX12_undo_60 : decode cX12_undo 60 = .ok (.iload_n 1, 1) := by decide +kernel
theorem dX12_undo_61 : decode cX12_undo 61 = .ok (.iadd, 1) := by decide +kernel
theorem dX12_undo_62 : decode cX12_undo 62 = .ok (.iaload, 1) := by decide +kernel
theorem dX12_undo_63 : decode cX12_undo 63 = .ok (.iastore, 1) := by decide +kernel
theorem dX12_undo_64 : decode cX12_undo 64 = .ok (.iinc 1 1, 3) := by decide +kernel
theorem dX12_undo_67 : decode cX12_undo 67 = .ok (.goto (-29), 3) := by decide +kernel
theorem dX12_undo_70 : decode cX12_undo 70 = .ok (.aload_n 0, 1) := by decide +kernel
theorem dX12_undo_71 : decode cX12_undo 71 = .ok (.invokevirtual 551, 3) := by decide +kernel
theorem dX12_undo_74 : decode cX12_undo 74 = .ok (.ireturn, 1) := by decide +kernel
theorem dX12_mark_0 : decode cX12_mark 0 = .ok (.aload_n 0, 1) := by decide +kernel
theorem dX12_mark_1 : decode cX12_mark 1 = .ok (.iconst 0, 1) := by decide +kernel
theorem dX12_mark_2 : decode cX12_mark 2 = .ok (.putfield 48, 3) := by decide +kernel
theorem dX12_mark_5 : decode cX12_mark 5 = .ok (.aload_n 0, 1) := by decide +kernel
theorem dX12_mark_6 : decode cX12_mark 6 = .ok (.getfield 369, 3) := by decide +kernel
theorem dX12_mark_9 : decode cX12_mark 9 = .ok (.ifnonnull 9, 3) := by decide +kernel
theorem dX12_mark_12 : decode cX12_mark 12 = .ok (.aload_n 0, 1) := by decide +kernel
theorem dX12_mark_13 : decode cX12_mark 13 = .ok (.iconst 1, 1) := by decide +kernel
theorem dX12_mark_14 : decode cX12_mark 14 = .ok (.invokevirtual 54, 3) := by decide +kernel
theorem dX12_mark_17 : decode cX12_mark 17 = .ok (.ireturn, 1) := by decide +kernel
theorem dX12_mark_18 : decode cX12_mark 18 = .ok (.aload_n 0, 1) := by decide +kernel
theorem dX12_mark_19 : decode cX12_mark 19 = .ok (.getfield 374, 3) := by decide +kernel
theorem dX12_mark_22 : decode cX12_mark 22 = .ok (.iconst 3, 1) := by decide +kernel
theorem dX12_mark_23 : decode cX12_mark 23 = .ok (.if_icmp .ne 9, 3) := by decide +kernel
theorem dX12_mark_26 : decode cX12_mark 26 = .ok (.aload_n 0, 1) := by decide +kernel
theorem dX12_mark_27 : decode cX12_mark 27 = .ok (.iconst 3, 1) := by decide +kernel
theorem dX12_mark_28 : decode cX12_mark 28 = .ok (.invokevirtual 54, 3) := by decide +kernel
theorem dX12_mark_31 : decode cX12_mark 31 = .ok (.ireturn, 1) := by decide +kernel
theorem dX12_mark_32 : decode cX12_mark 32 = .ok (.iconst 0, 1) := by decide +kernel
theorem dX12_mark_33 : decode cX12_mark 33 = .ok (.istore_n 1, 1) := by decide +kernel
theorem dX12_mark_34 : decode cX12_mark 34 = .ok (.iload_n 1, 1) := by decide +kernel
theorem dX12_mark_35 : decode cX12_mark 35 = .ok (.bipush 16, 2) := by decide +kernel
theorem dX12_mark_37 : decode cX12_mark 37 = .ok (.if_icmp .ge 29, 3) := by decide +kernel
theorem dX12_mark_40 : decode cX12_mark 40 = .ok (.aload_n 0, 1) := by decide +kernel
theorem dX12_mark_41 : decode cX12_mark 41 = .ok (.getfield 27, 3) := by decide +kernel
theorem dX12_mark_44 : decode cX12_mark 44 = .ok (.bipush 16, 2) := by decide +kernel
theorem dX12_mark_46 : decode cX12_mark 46 = .ok (.aload_n 0, 1) := by decide +kernel
theorem dX12_mark_47 : decode cX12_mark 47 = .ok (.getfield 374, 3) := by decide +kernel
theorem dX12_mark_50 : decode cX12_mark 50 = .ok (.imul, 1) := by decide +kernel
theorem dX12_mark_51 : decode cX12_mark 51 = .ok (.iload_n 1, 1) := by decide +kernel
theorem dX12_mark_52 : decode cX12_mark 52 = .ok (.iadd, 1) := by decide +kernel
theorem dX12_mark_53 : decode cX12_mark 53 = .ok (.aload_n 0, 1) := by decide +kernel
theorem dX12_mark_54 : decode cX12_mark 54 = .ok (.getfield 17, 3) := by decide +kernel
theorem dX12_mark_57 : decode cX12_mark 57 = .ok (.iload_n 1, 1) := by decide +kernel
theorem dX12_mark_58 : decode cX12_mark 58 = .ok (.iaload, 1) := by decide +kernel
theorem dX12_mark_59 : decode cX12_mark 59 = .ok (.iastore, 1) := by decide +kernel
theorem dX12_mark_60 : decode cX12_mark 60 = .ok (.iinc 1 1, 3) := by decide +kernel
theorem dX12_mark_63 : decode cX12_mark 63 = .ok (.goto (-29), 3) := by decide +kernel
theorem dX12_mark_66 : decode cX12_mark 66 = .ok (.aload_n 0, 1) := by decide +kernel
theorem dX12_mark_67 : decode cX12_mark 67 = .ok (.dup, 1) := by decide +kernel
theorem dX12_mark_68 : decode cX12_mark 68 = .ok (.getfield 374, 3) := by decide +kernel
theorem dX12_mark_71 : decode cX12_mark 71 = .ok (.iconst 1, 1) := by decide +kernel
theorem dX12_mark_72 : decode cX12_mark 72 = .ok (.iadd, 1) := by decide +kernel
theorem dX12_mark_73 : decode cX12_mark 73 = .ok (.putfield 374, 3) := by decide +kernel
theorem dX12_mark_76 : decode cX12_mark 76 = .ok (.aload_n 0, 1) := by decide +kernel
theorem dX12_mark_77 : decode cX12_mark 77 = .ok (.aload_n 0, 1) := by decide +kernel
theorem dX12_mark_78 : decode cX12_mark 78 = .ok (.getfield 374, 3) := by decide +kernel
theorem dX12_mark_81 : decode cX12_mark 81 = .ok (.iconst 1, 1) := by decide +kernel
theorem dX12_mark_82 : decode cX12_mark 82 = .ok (.isub, 1) := by decide +kernel
theorem dX12_mark_83 : decode cX12_mark 83 = .ok (.invokevirtual 58, 3) := by decide +kernel
theorem dX12_mark_86 : decode cX12_mark 86 = .ok (.ireturn, 1) := by decide +kernel
theorem dX12_back_0 : decode cX12_back 0 = .ok (.aload_n 0, 1) := by decide +kernel
theorem dX12_back_1 : decode cX12_back 1 = .ok (.iconst 0, 1) := by decide +kernel
theorem dX12_back_2 : decode cX12_back 2 = .ok (.putfield 48, 3) := by decide +kernel
theorem dX12_back_5 : decode cX12_back 5 = .ok (.aload_n 0, 1) := by decide +kernel
theorem dX12_back_6 : decode cX12_back 6 = .ok (.getfield 369, 3) := by decide +kernel
theorem dX12_back_9 : decode cX12_back 9 = .ok (.ifnull 15, 3) := by decide +kernel
theorem dX12_back_12 : decode cX12_back 12 = .ok (.iload_n 1, 1) := by decide +kernel
theorem dX12_back_13 : decode cX12_back 13 = .ok (.ifCond .lt 11, 3) := by decide +kernel
theorem dX12_back_16 : decode cX12_back 16 = .ok (.iload_n 1, 1) := by decide +kernel
theorem dX12_back_17 : decode cX12_back 17 = .ok (.aload_n 0, 1) := by decide +kernel
theorem dX12_back_18 : decode cX12_back 18 = .ok (.getfield 374, 3) := by decide +kernel
theorem dX12_back_21 : decode cX12_back 21 = .ok (.if_icmp .lt 9, 3) := by decide +kernel
theorem dX12_back_24 : decode cX12_back 24 = .ok (.aload_n 0, 1) := by decide +kernel
theorem dX12_back_25 : decode cX12_back 25 = .ok (.iconst 1, 1) := by decide +kernel
theorem dX12_back_26 : decode cX12_back 26 = .ok (.invokevirtual 548, 3) := by decide +kernel
theorem dX12_back_29 : decode cX12_back 29 = .ok (.ireturn, 1) := by decide +kernel
theorem dX12_back_30 : decode cX12_back 30 = .ok (.iconst 0, 1) := by decide +kernel
theorem dX12_back_31 : decode cX12_back 31 = .ok (.istore_n 2, 1) := by decide +kernel
theorem dX12_back_32 : decode cX12_back 32 = .ok (.iload_n 2, 1) := by decide +kernel
theorem dX12_back_33 : decode cX12_back 33 = .ok (.bipush 16, 2) := by decide +kernel
theorem dX12_back_35 : decode cX12_back 35 = .ok (.if_icmp .ge 26, 3) := by decide +kernel
theorem dX12_back_38 : decode cX12_back 38 = .ok (.aload_n 0, 1) := by decide +kernel
theorem dX12_back_39 : decode cX12_back 39 = .ok (.getfield 17, 3) := by decide +kernel
theorem dX12_back_42 : decode cX12_back 42 = .ok (.iload_n 2, 1) := by decide +kernel
theorem dX12_back_43 : decode cX12_back 43 = .ok (.aload_n 0, 1) := by decide +kernel
theorem dX12_back_44 : decode cX12_back 44 = .ok (.getfield 27, 3) := by decide +kernel
theorem dX12_back_47 : decode cX12_back 47 = .ok (.bipush 16, 2) := by decide +kernel
theorem dX12_back_49 : decode cX12_back 49 = .ok (.iload_n 1, 1) := by decide +kernel
theorem dX12_back_50 : decode cX12_back 50 = .ok (.imul, 1) := by decide +kernel
theorem dX12_back_51 : decode cX12_back 51 = .ok (.iload_n 2, 1) := by decide +kernel
theorem dX12_back_52 : decode cX12_back 52 = .ok (.iadd, 1) := by decide +kernel
theorem dX12_back_53 : decode cX12_back 53 = .ok (.iaload, 1) := by decide +kernel
theorem dX12_back_54 : decode cX12_back 54 = .ok (.iastore, 1) := by decide +kernel
theorem dX12_back_55 : decode cX12_back 55 = .ok (.iinc 2 1, 3) := by decide +kernel
theorem dX12_back_58 : decode cX12_back 58 = .ok (.goto (-26), 3) := by decide +kernel
theorem dX12_back_61 : decode cX12_back 61 = .ok (.aload_n 0, 1) := by decide +kernel
theorem dX12_back_62 : decode cX12_back 62 = .ok (.iconst 0, 1) := by decide +kernel
theorem dX12_back_63 : decode cX12_back 63 = .ok (.putfield 371, 3) := by decide +kernel
theorem dX12_back_66 : decode cX12_back 66 = .ok (.aload_n 0, 1) := by decide +kernel
theorem dX12_back_67 : decode cX12_back 67 = .ok (.invokevirtual 551, 3) := by decide +kernel
theorem dX12_back_70 : decode cX12_back 70 = .ok (.ireturn, 1) := by decide +kernel
theorem dX12_led_0 : decode cX12_led 0 = .ok (.aload_n 0, 1) := by decide +kernel
theorem dX12_led_1 : decode cX12_led 1 = .ok (.iconst 0, 1) := by decide +kernel
theorem dX12_led_2 : decode cX12_led 2 = .ok (.putfield 48, 3) := by decide +kernel
theorem dX12_led_5 : decode cX12_led 5 = .ok (.iconst 0, 1) := by decide +kernel
theorem dX12_led_6 : decode cX12_led 6 = .ok (.istore_n 2, 1) := by decide +kernel
theorem dX12_led_7 : decode cX12_led 7 = .ok (.iconst 0, 1) := by decide +kernel
theorem dX12_led_8 : decode cX12_led 8 = .ok (.istore_n 3, 1) := by decide +kernel
theorem dX12_led_9 : decode cX12_led 9 = .ok (.aload_n 0, 1) := by decide +kernel
theorem dX12_led_10 : decode cX12_led 10 = .ok (.getfield 369, 3) := by decide +kernel
theorem dX12_led_13 : decode cX12_led 13 = .ok (.ifnull 46, 3) := by decide +kernel
theorem dX12_led_16 : decode cX12_led 16 = .ok (.iload_n 3, 1) := by decide +kernel
theorem dX12_led_17 : decode cX12_led 17 = .ok (.aload_n 0, 1) := by decide +kernel
theorem dX12_led_18 : decode cX12_led 18 = .ok (.getfield 369, 3) := by decide +kernel
theorem dX12_led_21 : decode cX12_led 21 = .ok (.getfield 201, 3) := by decide +kernel
theorem dX12_led_24 : decode cX12_led 24 = .ok (.if_icmp .ge 35, 3) := by decide +kernel
theorem dX12_led_27 : decode cX12_led 27 = .ok (.aload_n 0, 1) := by decide +kernel
theorem dX12_led_28 : decode cX12_led 28 = .ok (.getfield 17, 3) := by decide +kernel
theorem dX12_led_31 : decode cX12_led 31 = .ok (.iconst 0, 1) := by decide +kernel
theorem dX12_led_32 : decode cX12_led 32 = .ok (.iload_n 3, 1) := by decide +kernel
theorem dX12_led_33 : decode cX12_led 33 = .ok (.iadd, 1) := by decide +kernel
theorem dX12_led_34 : decode cX12_led 34 = .ok (.iaload, 1) := by decide +kernel
theorem dX12_led_35 : decode cX12_led 35 = .ok (.bipush (-2), 2) := by decide +kernel
theorem dX12_led_37 : decode cX12_led 37 = .ok (.if_icmp .eq 6, 3) := by decide +kernel
theorem dX12_led_40 : decode cX12_led 40 = .ok (.goto 13, 3) := by decide +kernel
theorem dX12_led_43 : decode cX12_led 43 = .ok (.iload_n 2, 1) := by decide +kernel
theorem dX12_led_44 : decode cX12_led 44 = .ok (.iload_n 1, 1) := by decide +kernel
theorem dX12_led_45 : decode cX12_led 45 = .ok (.if_icmp .ne 5, 3) := by decide +kernel
theorem dX12_led_48 : decode cX12_led 48 = .ok (.iload_n 3, 1) := by decide +kernel
theorem dX12_led_49 : decode cX12_led 49 = .ok (.ireturn, 1) := by decide +kernel
theorem dX12_led_50 : decode cX12_led 50 = .ok (.iinc 2 1, 3) := by decide +kernel
theorem dX12_led_53 : decode cX12_led 53 = .ok (.iinc 3 1, 3) := by decide +kernel
theorem dX12_led_56 : decode cX12_led 56 = .ok (.goto (-47), 3) := by decide +kernel
theorem dX12_led_59 : decode cX12_led 59 = .ok (.aload_n 0, 1) := by decide +kernel
theorem dX12_led_60 : decode cX12_led 60 = .ok (.iconst 1, 1) := by decide +kernel
theorem dX12_led_61 : decode cX12_led 61 = .ok (.putfield 48, 3) := by decide +kernel
theorem dX12_led_64 : decode cX12_led 64 = .ok (.iconst 0, 1) := by decide +kernel
theorem dX12_led_65 : decode cX12_led 65 = .ok (.ireturn, 1) := by decide +kernel
theorem dX12_size_0 : decode cX12_size 0 = .ok (.aload_n 0, 1) := by decide +kernel
theorem dX12_size_1 : decode cX12_size 1 = .ok (.iconst 0, 1) := by decide +kernel
theorem dX12_size_2 : decode cX12_size 2 = .ok (.putfield 48, 3) := by decide +kernel
theorem dX12_size_5 : decode cX12_size 5 = .ok (.iload_n 1, 1) := by decide +kernel
theorem dX12_size_6 : decode cX12_size 6 = .ok (.bipush 13, 2) := by decide +kernel
theorem dX12_size_8 : decode cX12_size 8 = .ok (.if_icmp .ne 8, 3) := by decide +kernel
theorem dX12_size_11 : decode cX12_size 11 = .ok (.aload_n 0, 1) := by decide +kernel
theorem dX12_size_12 : decode cX12_size 12 = .ok (.getfield 362, 3) := by decide +kernel
theorem dX12_size_15 : decode cX12_size 15 = .ok (.ireturn, 1) := by decide +kernel
theorem dX12_size_16 : decode cX12_size 16 = .ok (.iload_n 1, 1) := by decide +kernel
theorem dX12_size_17 : decode cX12_size 17 = .ok (.iconst 0, 1) := by decide +kernel
theorem dX12_size_18 : decode cX12_size 18 = .ok (.bipush 12, 2) := by decide +kernel
theorem dX12_size_20 : decode cX12_size 20 = .ok (.invokestatic 127, 3) := by decide +kernel
theorem dX12_size_23 : decode cX12_size 23 = .ok (.ifCond .ne 5, 3) := by decide +kernel
theorem dX12_size_26 : decode cX12_size 26 = .ok (.iconst (-1), 1) := by decide +kernel
theorem dX12_size_27 : decode cX12_size 27 = .ok (.ireturn, 1) := by decide +kernel
theorem dX12_size_28 : decode cX12_size 28 = .ok (.aload_n 0, 1) := by decide +kernel
theorem dX12_size_29 : decode cX12_size 29 = .ok (.getfield 369, 3) := by decide +kernel
theorem dX12_size_32 : decode cX12_size 32 = .ok (.ifnonnull 5, 3) := by decide +kernel
theorem dX12_size_35 : decode cX12_size 35 = .ok (.iconst 0, 1) := by decide +kernel
theorem dX12_size_36 : decode cX12_size 36 = .ok (.ireturn, 1) := by decide +kernel
theorem dX12_size_37 : decode cX12_size 37 = .ok (.iload_n 1, 1) := by decide +kernel
theorem dX12_size_38 : decode cX12_size 38 = .ok (.tableswitch 155 0 11 #[62, 70, 78, 86, 94, 102, 110, 118, 126, 134, 142, 150], 62) := by decide +kernel
theorem dX12_size_100 : decode cX12_size 100 = .ok (.aload_n 0, 1) := by decide +kernel
theorem dX12_size_101 : decode cX12_size 101 = .ok (.getfield 369, 3) := by decide +kernel
theorem dX12_size_104 : decode cX12_size 104 = .ok (.getfield 166, 3) := by decide +kernel
theorem dX12_size_107 : decode cX12_size 107 = .ok (.ireturn, 1) := by decide +kernel
theorem dX12_size_108 : decode cX12_size 108 = .ok (.aload_n 0, 1) := by decide +kernel
theorem dX12_size_109 : decode cX12_size 109 = .ok (.getfield 369, 3) := by decide +kernel
theorem dX12_size_112 : decode cX12_size 112 = .ok (.getfield 249, 3) := by decide +kernel
theorem dX12_size_115 : decode cX12_size 115 = .ok (.ireturn, 1) := by decide +kernel
theorem dX12_size_116 : decode cX12_size 116 = .ok (.aload_n 0, 1) := by decide +kernel
theorem dX12_size_117 : decode cX12_size 117 = .ok (.getfield 369, 3) := by decide +kernel
theorem dX12_size_120 : decode cX12_size 120 = .ok (.getfield 201, 3) := by decide +kernel
theorem dX12_size_123 : decode cX12_size 123 = .ok (.ireturn, 1) := by decide +kernel
theorem dX12_size_124 : decode cX12_size 124 = .ok (.aload_n 0, 1) := by decide +kernel
theorem dX12_size_125 : decode cX12_size 125 = .ok (.getfield 369, 3) := by decide +kernel
theorem dX12_size_128 : decode cX12_size 128 = .ok (.getfield 204, 3) := by decide +kernel
theorem dX12_size_131 : decode cX12_size 131 = .ok (.ireturn, 1) := by decide +kernel
theorem dX12_size_132 : decode cX12_size 132 = .ok (.aload_n 0, 1) := by decide +kernel
theorem dX12_size_133 : decode cX12_size 133 = .ok (.getfield 369, 3) := by decide +kernel
theorem dX12_size_136 : decode cX12_size 136 = .ok (.getfield 297, 3) := by decide +kernel
theorem dX12_size_139 : decode cX12_size 139 = .ok (.ireturn, 1) := by decide +kernel
theorem dX12_size_140 : decode cX12_size 140 = .ok (.aload_n 0, 1) := by decide +kernel
theorem dX12_size_141 : decode cX12_size 141 = .ok (.getfield 369, 3) := by decide +kernel
theorem dX12_size_144 : decode cX12_size 144 = .ok (.getfield 207, 3) := by decide +kernel
theorem dX12_size_147 : decode cX12_size 147 = .ok (.ireturn, 1) := by decide +kernel
theorem dX12_size_148 : decode cX12_size 148 = .ok (.aload_n 0, 1) := by decide +kernel
theorem dX12_size_149 : decode cX12_size 149 = .ok (.getfield 369, 3) := by decide +kernel
theorem dX12_size_152 : decode cX12_size 152 = .ok (.getfield 312, 3) := by decide +kernel
theorem dX12_size_155 : decode cX12_size 155 = .ok (.ireturn, 1) := by decide +kernel
theorem dX12_size_156 : decode cX12_size 156 = .ok (.aload_n 0, 1) := by decide +kernel
theorem dX12_size_157 : decode cX12_size 157 = .ok (.getfield 369, 3) := by decide +kernel
theorem dX12_size_160 : decode cX12_size 160 = .ok (.getfield 318, 3) := by decide +kernel
theorem dX12_size_163 : decode cX12_size 163 = .ok (.ireturn, 1) := by decide +kernel
theorem dX12_size_164 : decode cX12_size 164 = .ok (.aload_n 0, 1) := by decide +kernel
theorem dX12_size_165 : decode cX12_size 165 = .ok (.getfield 369, 3) := by decide +kernel
theorem dX12_size_168 : decode cX12_size 168 = .ok (.getfield 336, 3) := by decide +kernel
theorem dX12_size_171 : decode cX12_size 171 = .ok (.ireturn, 1) := by decide +kernel
theorem dX12_size_172 : decode cX12_size 172 = .ok (.aload_n 0, 1) := by decide +kernel
theorem dX12_size_173 : decode cX12_size 173 = .ok (.getfield 369, 3) := by decide +kernel
theorem dX12_size_176 : decode cX12_size 176 = .ok (.getfield 339, 3) := by decide +kernel
theorem dX12_size_179 : decode cX12_size 179 = .ok (.ireturn, 1) := by decide +kernel
theorem dX12_size_180 : decode cX12_size 180 = .ok (.aload_n 0, 1) := by decide +kernel
theorem dX12_size_181 : decode cX12_size 181 = .ok (.getfield 17, 3) := by decide +kernel
theorem dX12_size_184 : decode cX12_size 184 = .ok (.bipush 15, 2) := by decide +kernel
theorem dX12_size_186 : decode cX12_size 186 = .ok (.iaload, 1) := by decide +kernel
theorem dX12_size_187 : decode cX12_size 187 = .ok (.ireturn, 1) := by decide +kernel
theorem dX12_size_188 : decode cX12_size 188 = .ok (.aload_n 0, 1) := by decide +kernel
theorem dX12_size_189 : decode cX12_size 189 = .ok (.getfield 371, 3) := by decide +kernel
theorem dX12_size_192 : decode cX12_size 192 = .ok (.ireturn, 1) := by decide +kernel
theorem dX12_size_193 : decode cX12_size 193 = .ok (.aload_n 0, 1) := by decide +kernel
theorem dX12_size_194 : decode cX12_size 194 = .ok (.getfield 374, 3) := by decide +kernel
theorem dX12_size_197 : decode cX12_size 197 = .ok (.ireturn, 1) := by decide +kernel
theorem dX12_trouble_0 : decode cX12_trouble 0 = .ok (.aload_n 0, 1) := by decide +kernel
theorem dX12_trouble_1 : decode cX12_trouble 1 = .ok (.iconst 0, 1) := by decide +kernel
theorem dX12_trouble_2 : decode cX12_trouble 2 = .ok (.putfield 48, 3) := by decide +kernel
theorem dX12_trouble_5 : decode cX12_trouble 5 = .ok (.aload_n 0, 1) := by decide +kernel
theorem dX12_trouble_6 : decode cX12_trouble 6 = .ok (.getfield 51, 3) := by decide +kernel
theorem dX12_trouble_9 : decode cX12_trouble 9 = .ok (.ireturn, 1) := by decide +kernel
theorem dJ6_bitCount_0f7a4_0 : decode cJ6_bitCount_0f7a4 0 = .ok (.iload_n 0, 1) := by decide +kernel
theorem dJ6_bitCount_0f7a4_1 : decode cJ6_bitCount_0f7a4 1 = .ok (.iload_n 0, 1) := by decide +kernel
theorem dJ6_bitCount_0f7a4_2 : decode cJ6_bitCount_0f7a4 2 = .ok (.iconst 1, 1) := by decide +kernel
theorem dJ6_bitCount_0f7a4_3 : decode cJ6_bitCount_0f7a4 3 = .ok (.iushr, 1) := by decide +kernel
theorem dJ6_bitCount_0f7a4_4 : decode cJ6_bitCount_0f7a4 4 = .ok (.ldc_w 265, 3) := by decide +kernel
theorem dJ6_bitCount_0f7a4_7 : decode cJ6_bitCount_0f7a4 7 = .ok (.iand, 1) := by decide +kernel
theorem dJ6_bitCount_0f7a4_8 : decode cJ6_bitCount_0f7a4 8 = .ok (.isub, 1) := by decide +kernel
theorem dJ6_bitCount_0f7a4_9 : decode cJ6_bitCount_0f7a4 9 = .ok (.istore_n 0, 1) := by decide +kernel
theorem dJ6_bitCount_0f7a4_10 : decode cJ6_bitCount_0f7a4 10 = .ok (.iload_n 0, 1) := by decide +kernel
theorem dJ6_bitCount_0f7a4_11 : decode cJ6_bitCount_0f7a4 11 = .ok (.ldc_w 266, 3) := by decide +kernel
theorem dJ6_bitCount_0f7a4_14 : decode cJ6_bitCount_0f7a4 14 = .ok (.iand, 1) := by decide +kernel
theorem dJ6_bitCount_0f7a4_15 : decode cJ6_bitCount_0f7a4 15 = .ok (.iload_n 0, 1) := by decide +kernel
theorem dJ6_bitCount_0f7a4_16 : decode cJ6_bitCount_0f7a4 16 = .ok (.iconst 2, 1) := by decide +kernel
theorem dJ6_bitCount_0f7a4_17 : decode cJ6_bitCount_0f7a4 17 = .ok (.iushr, 1) := by decide +kernel
theorem dJ6_bitCount_0f7a4_18 : decode cJ6_bitCount_0f7a4 18 = .ok (.ldc_w 266, 3) := by decide +kernel
theorem dJ6_bitCount_0f7a4_21 : decode cJ6_bitCount_0f7a4 21 = .ok (.iand, 1) := by decide +kernel
theorem dJ6_bitCount_0f7a4_22 : decode cJ6_bitCount_0f7a4 22 = .ok (.iadd, 1) := by decide +kernel
theorem dJ6_bitCount_0f7a4_23 : decode cJ6_bitCount_0f7a4 23 = .ok (.istore_n 0, 1) := by decide +kernel
theorem dJ6_bitCount_0f7a4_24 : decode cJ6_bitCount_0f7a4 24 = .ok (.iload_n 0, 1) := by decide +kernel
theorem dJ6_bitCount_0f7a4_25 : decode cJ6_bitCount_0f7a4 25 = .ok (.iload_n 0, 1) := by decide +kernel
theorem dJ6_bitCount_0f7a4_26 : decode cJ6_bitCount_0f7a4 26 = .ok (.iconst 4, 1) := by decide +kernel
theorem dJ6_bitCount_0f7a4_27 : decode cJ6_bitCount_0f7a4 27 = .ok (.iushr, 1) := by decide +kernel
theorem dJ6_bitCount_0f7a4_28 : decode cJ6_bitCount_0f7a4 28 = .ok (.iadd, 1) := by decide +kernel
theorem dJ6_bitCount_0f7a4_29 : decode cJ6_bitCount_0f7a4 29 = .ok (.ldc_w 267, 3) := by decide +kernel
theorem dJ6_bitCount_0f7a4_32 : decode cJ6_bitCount_0f7a4 32 = .ok (.iand, 1) := by decide +kernel
theorem dJ6_bitCount_0f7a4_33 : decode cJ6_bitCount_0f7a4 33 = .ok (.istore_n 0, 1) := by decide +kernel
theorem dJ6_bitCount_0f7a4_34 : decode cJ6_bitCount_0f7a4 34 = .ok (.iload_n 0, 1) := by decide +kernel
theorem dJ6_bitCount_0f7a4_35 : decode cJ6_bitCount_0f7a4 35 = .ok (.iload_n 0, 1) := by decide +kernel
theorem dJ6_bitCount_0f7a4_36 : decode cJ6_bitCount_0f7a4 36 = .ok (.bipush 8, 2) := by decide +kernel
theorem dJ6_bitCount_0f7a4_38 : decode cJ6_bitCount_0f7a4 38 = .ok (.iushr, 1) := by decide +kernel
theorem dJ6_bitCount_0f7a4_39 : decode cJ6_bitCount_0f7a4 39 = .ok (.iadd, 1) := by decide +kernel
theorem dJ6_bitCount_0f7a4_40 : decode cJ6_bitCount_0f7a4 40 = .ok (.istore_n 0, 1) := by decide +kernel
theorem dJ6_bitCount_0f7a4_41 : decode cJ6_bitCount_0f7a4 41 = .ok (.iload_n 0, 1) := by decide +kernel
theorem dJ6_bitCount_0f7a4_42 : decode cJ6_bitCount_0f7a4 42 = .ok (.iload_n 0, 1) := by decide +kernel
theorem dJ6_bitCount_0f7a4_43 : decode cJ6_bitCount_0f7a4 43 = .ok (.bipush 16, 2) := by decide +kernel
theorem dJ6_bitCount_0f7a4_45 : decode cJ6_bitCount_0f7a4 45 = .ok (.iushr, 1) := by decide +kernel
theorem dJ6_bitCount_0f7a4_46 : decode cJ6_bitCount_0f7a4 46 = .ok (.iadd, 1) := by decide +kernel
theorem dJ6_bitCount_0f7a4_47 : decode cJ6_bitCount_0f7a4 47 = .ok (.istore_n 0, 1) := by decide +kernel
theorem dJ6_bitCount_0f7a4_48 : decode cJ6_bitCount_0f7a4 48 = .ok (.iload_n 0, 1) := by decide +kernel
theorem dJ6_bitCount_0f7a4_49 : decode cJ6_bitCount_0f7a4 49 = .ok (.bipush 63, 2) := by decide +kernel
theorem dJ6_bitCount_0f7a4_51 : decode cJ6_bitCount_0f7a4 51 = .ok (.iand, 1) := by decide +kernel
theorem dJ6_bitCount_0f7a4_52 : decode cJ6_bitCount_0f7a4 52 = .ok (.ireturn, 1) := by decide +kernel
theorem dJ9_max_7cf53_0 : decode cJ9_max_7cf53 0 = .ok (.iload_n 0, 1) := by decide +kernel
theorem dJ9_max_7cf53_1 : decode cJ9_max_7cf53 1 = .ok (.iload_n 1, 1) := by decide +kernel
theorem dJ9_max_7cf53_2 : decode cJ9_max_7cf53 2 = .ok (.if_icmp .lt 7, 3) := by decide +kernel
theorem dJ9_max_7cf53_5 : decode cJ9_max_7cf53 5 = .ok (.iload_n 0, 1) := by decide +kernel
theorem dJ9_max_7cf53_6 : decode cJ9_max_7cf53 6 = .ok (.goto 4, 3) := by decide +kernel
theorem dJ9_max_7cf53_9 : decode cJ9_max_7cf53 9 = .ok (.iload_n 1, 1) := by decide +kernel
theorem dJ9_max_7cf53_10 : decode cJ9_max_7cf53 10 = .ok (.ireturn, 1) := by decide +kernel
theorem dJ9_min_7cf53_0 : decode cJ9_min_7cf53 0 = .ok (.iload_n 0, 1) := by decide +kernel
theorem dJ9_min_7cf53_1 : decode cJ9_min_7cf53 1 = .ok (.iload_n 1, 1) := by decide +kernel
theorem dJ9_min_7cf53_2 : decode cJ9_min_7cf53 2 = .ok (.if_icmp .gt 7, 3) := by decide +kernel
theorem dJ9_min_7cf53_5 : decode cJ9_min_7cf53 5 = .ok (.iload_n 0, 1) := by decide +kernel
theorem dJ9_min_7cf53_6 : decode cJ9_min_7cf53 6 = .ok (.goto 4, 3) := by decide +kernel
theorem dJ9_min_7cf53_9 : decode cJ9_min_7cf53 9 = .ok (.iload_n 1, 1) := by decide +kernel
theorem dJ9_min_7cf53_10 : decode cJ9_min_7cf53 10 = .ok (.ireturn, 1) := by decide +kernel
theorem dJ0_length_8abf5_0 : decode cJ0_length_8abf5 0 = .ok (.aload_n 0, 1) := by decide +kernel
theorem dJ0_length_8abf5_1 : decode cJ0_length_8abf5 1 = .ok (.getfield 9, 3) := by decide +kernel
theorem dJ0_length_8abf5_4 : decode cJ0_length_8abf5 4 = .ok (.arraylength, 1) := by decide +kernel
theorem dJ0_length_8abf5_5 : decode cJ0_length_8abf5 5 = .ok (.aload_n 0, 1) := by decide +kernel
theorem dJ0_length_8abf5_6 : decode cJ0_length_8abf5 6 = .ok (.invokevirtual 335, 3) := by decide +kernel
theorem dJ0_length_8abf5_9 : decode cJ0_length_8abf5 9 = .ok (.ishr, 1) := by decide +kernel
theorem dJ0_length_8abf5_10 : decode cJ0_length_8abf5 10 = .ok (.ireturn, 1) := by decide +kernel
theorem dJ0_charAt_5068e_0 : decode cJ0_charAt_5068e 0 = .ok (.aload_n 0, 1) := by decide +kernel
theorem dJ0_charAt_5068e_1 : decode cJ0_charAt_5068e 1 = .ok (.invokevirtual 492, 3) := by decide +kernel
theorem dJ0_charAt_5068e_4 : decode cJ0_charAt_5068e 4 = .ok (.ifCond .eq 12, 3) := by decide +kernel
theorem dJ0_charAt_5068e_7 : decode cJ0_charAt_5068e 7 = .ok (.aload_n 0, 1) := by decide +kernel
theorem dJ0_charAt_5068e_8 : decode cJ0_charAt_5068e 8 = .ok (.getfield 9, 3) := by decide +kernel
theorem dJ0_charAt_5068e_11 : decode cJ0_charAt_5068e 11 = .ok (.iload_n 1, 1) := by decide +kernel
theorem dJ0_charAt_5068e_12 : decode cJ0_charAt_5068e 12 = .ok (.invokestatic 495, 3) := by decide +kernel
theorem dJ0_charAt_5068e_15 : decode cJ0_charAt_5068e 15 = .ok (.ireturn, 1) := by decide +kernel
theorem dJ0_charAt_5068e_16 : decode cJ0_charAt_5068e 16 = .ok (.aload_n 0, 1) := by decide +kernel
theorem dJ0_charAt_5068e_17 : decode cJ0_charAt_5068e 17 = .ok (.getfield 9, 3) := by decide +kernel
theorem dJ0_charAt_5068e_20 : decode cJ0_charAt_5068e 20 = .ok (.iload_n 1, 1) := by decide +kernel
theorem dJ0_charAt_5068e_21 : decode cJ0_charAt_5068e 21 = .ok (.invokestatic 498, 3) := by decide +kernel
theorem dJ0_charAt_5068e_24 : decode cJ0_charAt_5068e 24 = .ok (.ireturn, 1) := by decide +kernel
theorem dJ0_coder_7d493_0 : decode cJ0_coder_7d493 0 = .ok (.getstatic 38, 3) := by decide +kernel
theorem dJ0_coder_7d493_3 : decode cJ0_coder_7d493 3 = .ok (.ifCond .eq 10, 3) := by decide +kernel
theorem dJ0_coder_7d493_6 : decode cJ0_coder_7d493 6 = .ok (.aload_n 0, 1) := by decide +kernel
theorem dJ0_coder_7d493_7 : decode cJ0_coder_7d493 7 = .ok (.getfield 15, 3) := by decide +kernel
theorem dJ0_coder_7d493_10 : decode cJ0_coder_7d493 10 = .ok (.goto 4, 3) := by decide +kernel
theorem dJ0_coder_7d493_13 : decode cJ0_coder_7d493 13 = .ok (.iconst 1, 1) := by decide +kernel
theorem dJ0_coder_7d493_14 : decode cJ0_coder_7d493 14 = .ok (.ireturn, 1) := by decide +kernel
theorem dJ0_isLatin1_aae02_0 : decode cJ0_isLatin1_aae02 0 = .ok (.getstatic 38, 3) := by decide +kernel
theorem dJ0_isLatin1_aae02_3 : decode cJ0_isLatin1_aae02 3 = .ok (.ifCond .eq 14, 3) := by decide +kernel
theorem dJ0_isLatin1_aae02_6 : decode cJ0_isLatin1_aae02 6 = .ok (.aload_n 0, 1) := by decide +kernel
theorem dJ0_isLatin1_aae02_7 : decode cJ0_isLatin1_aae02 7 = .ok (.getfield 15, 3) := by decide +kernel
theorem dJ0_isLatin1_aae02_10 : decode cJ0_isLatin1_aae02 10 = .ok (.ifCond .ne 7, 3) := by decide +kernel
theorem dJ0_isLatin1_aae02_13 : decode cJ0_isLatin1_aae02 13 = .ok (.iconst 1, 1) := by decide +kernel
theorem dJ0_isLatin1_aae02_14 : decode cJ0_isLatin1_aae02 14 = .ok (.goto 4, 3) := by decide +kernel
theorem dJ0_isLatin1_aae02_17 : decode cJ0_isLatin1_aae02 17 = .ok (.iconst 0, 1) := by decide +kernel
theorem dJ0_isLatin1_aae02_18 : decode cJ0_isLatin1_aae02 18 = .ok (.ireturn, 1) := by decide +kernel
theorem dJ0_checkIndex_df160_0 : decode cJ0_checkIndex_df160 0 = .ok (.iload_n 0, 1) := by decide +kernel
theorem dJ0_checkIndex_df160_1 : decode cJ0_checkIndex_df160 1 = .ok (.iload_n 1, 1) := by decide +kernel
theorem dJ0_checkIndex_df160_2 : decode cJ0_checkIndex_df160 2 = .ok (.getstatic 1053, 3) := by decide +kernel
theorem dJ0_checkIndex_df160_5 : decode cJ0_checkIndex_df160 5 = .ok (.invokestatic 1059, 3) := by decide +kernel
theorem dJ0_checkIndex_df160_8 : decode cJ0_checkIndex_df160 8 = .ok (.pop, 1) := by decide +kernel
theorem dJ0_checkIndex_df160_9 : decode cJ0_checkIndex_df160 9 = .ok (.return_, 1) := by decide +kernel
theorem dJ1_charAt_3b067_0 : decode cJ1_charAt_3b067 0 = .ok (.iload_n 1, 1) := by decide +kernel
theorem dJ1_charAt_3b067_1 : decode cJ1_charAt_3b067 1 = .ok (.aload_n 0, 1) := by decide +kernel
theorem dJ1_charAt_3b067_2 : decode cJ1_charAt_3b067 2 = .ok (.arraylength, 1) := by decide +kernel
theorem dJ1_charAt_3b067_3 : decode cJ1_charAt_3b067 3 = .ok (.invokestatic 9, 3) := by decide +kernel
theorem dJ1_charAt_3b067_6 : decode cJ1_charAt_3b067 6 = .ok (.aload_n 0, 1) := by decide +kernel
theorem dJ1_charAt_3b067_7 : decode cJ1_charAt_3b067 7 = .ok (.iload_n 1, 1) := by decide +kernel
theorem dJ1_charAt_3b067_8 : decode cJ1_charAt_3b067 8 = .ok (.baload, 1) := by decide +kernel
theorem dJ1_charAt_3b067_9 : decode cJ1_charAt_3b067 9 = .ok (.sipush 255, 3) := by decide +kernel
theorem dJ1_charAt_3b067_12 : decode cJ1_charAt_3b067 12 = .ok (.iand, 1) := by decide +kernel
theorem dJ1_charAt_3b067_13 : decode cJ1_charAt_3b067 13 = .ok (.i2c, 1) := by decide +kernel
theorem dJ1_charAt_3b067_14 : decode cJ1_charAt_3b067 14 = .ok (.ireturn, 1) := by decide +kernel
theorem dJ2_getChar_3b067_0 : decode cJ2_getChar_3b067 0 = .ok (.getstatic 44, 3) := by decide +kernel
theorem dJ2_getChar_3b067_3 : decode cJ2_getChar_3b067 3 = .ok (.ifCond .ne 25, 3) := by decide +kernel
theorem dJ2_getChar_3b067_6 : decode cJ2_getChar_3b067 6 = .ok (.iload_n 1, 1) := by decide +kernel
theorem dJ2_getChar_3b067_7 : decode cJ2_getChar_3b067 7 = .ok (.ifCond .lt 11, 3) := by decide +kernel
theorem dJ2_getChar_3b067_10 : decode cJ2_getChar_3b067 10 = .ok (.iload_n 1, 1) := by decide +kernel
theorem dJ2_getChar_3b067_11 : decode cJ2_getChar_3b067 11 = .ok (.aload_n 0, 1) := by decide +kernel
theorem dJ2_getChar_3b067_12 : decode cJ2_getChar_3b067 12 = .ok (.invokestatic 48, 3) := by decide +kernel
theorem dJ2_getChar_3b067_15 : decode cJ2_getChar_3b067 15 = .ok (.if_icmp .lt 13, 3) := by decide +kernel
theorem dJ2_getChar_3b067_18 : decode cJ2_getChar_3b067 18 = .ok (.new 52, 3) := by decide +kernel
theorem dJ2_getChar_3b067_21 : decode cJ2_getChar_3b067 21 = .ok (.dup, 1) := by decide +kernel
theorem dJ2_getChar_3b067_22 : decode cJ2_getChar_3b067 22 = .ok (.ldc 54, 2) := by decide +kernel
theorem dJ2_getChar_3b067_24 : decode cJ2_getChar_3b067 24 = .ok (.invokespecial 56, 3) := by decide +kernel
theorem dJ2_getChar_3b067_27 : decode cJ2_getChar_3b067 27 = .ok (.athrow, 1) := by decide +kernel
theorem dJ2_getChar_3b067_28 : decode cJ2_getChar_3b067 28 = .ok (.iload_n 1, 1) := by decide +kernel
theorem dJ2_getChar_3b067_29 : decode cJ2_getChar_3b067 29 = .ok (.iconst 1, 1) := by decide +kernel
theorem dJ2_getChar_3b067_30 : decode cJ2_getChar_3b067 30 = .ok (.ishl, 1) := by decide +kernel
theorem dJ2_getChar_3b067_31 : decode cJ2_getChar_3b067 31 = .ok (.istore_n 1, 1) := by decide +kernel
theorem dJ2_getChar_3b067_32 : decode cJ2_getChar_3b067 32 = .ok (.aload_n 0, 1) := by decide +kernel
theorem dJ2_getChar_3b067_33 : decode cJ2_getChar_3b067 33 = .ok (.iload_n 1, 1) := by decide +kernel
theorem dJ2_getChar_3b067_34 : decode cJ2_getChar_3b067 34 = .ok (.iinc 1 1, 3) := by decide +kernel
theorem dJ2_getChar_3b067_37 : decode cJ2_getChar_3b067 37 = .ok (.baload, 1) := by decide +kernel
theorem dJ2_getChar_3b067_38 : decode cJ2_getChar_3b067 38 = .ok (.sipush 255, 3) := by decide +kernel
theorem dJ2_getChar_3b067_41 : decode cJ2_getChar_3b067 41 = .ok (.iand, 1) := by decide +kernel
theorem dJ2_getChar_3b067_42 : decode cJ2_getChar_3b067 42 = .ok (.getstatic 59, 3) := by decide +kernel
theorem dJ2_getChar_3b067_45 : decode cJ2_getChar_3b067 45 = .ok (.ishl, 1) := by decide +kernel
theorem dJ2_getChar_3b067_46 : decode cJ2_getChar_3b067 46 = .ok (.aload_n 0, 1) := by decide +kernel
theorem dJ2_getChar_3b067_47 : decode cJ2_getChar_3b067 47 = .ok (.iload_n 1, 1) := by decide +kernel
theorem dJ2_getChar_3b067_48 : decode cJ2_getChar_3b067 48 = .ok (.baload, 1) := by decide +kernel
theorem dJ2_getChar_3b067_49 : decode cJ2_getChar_3b067 49 = .ok (.sipush 255, 3) := by decide +kernel
theorem dJ2_getChar_3b067_52 : decode cJ2_getChar_3b067 52 = .ok (.iand, 1) := by decide +kernel
theorem dJ2_getChar_3b067_53 : decode cJ2_getChar_3b067 53 = .ok (.getstatic 63, 3) := by decide +kernel
theorem dJ2_getChar_3b067_56 : decode cJ2_getChar_3b067 56 = .ok (.ishl, 1) := by decide +kernel
theorem dJ2_getChar_3b067_57 : decode cJ2_getChar_3b067 57 = .ok (.ior, 1) := by decide +kernel
theorem dJ2_getChar_3b067_58 : decode cJ2_getChar_3b067 58 = .ok (.i2c, 1) := by decide +kernel
theorem dJ2_getChar_3b067_59 : decode cJ2_getChar_3b067 59 = .ok (.ireturn, 1) := by decide +kernel
theorem dJ2_length_9d52b_0 : decode cJ2_length_9d52b 0 = .ok (.aload_n 0, 1) := by decide +kernel
theorem dJ2_length_9d52b_1 : decode cJ2_length_9d52b 1 = .ok (.arraylength, 1) := by decide +kernel
theorem dJ2_length_9d52b_2 : decode cJ2_length_9d52b 2 = .ok (.iconst 1, 1) := by decide +kernel
theorem dJ2_length_9d52b_3 : decode cJ2_length_9d52b 3 = .ok (.ishr, 1) := by decide +kernel
theorem dJ2_length_9d52b_4 : decode cJ2_length_9d52b 4 = .ok (.ireturn, 1) := by decide +kernel
theorem dJ2_charAt_3b067_0 : decode cJ2_charAt_3b067 0 = .ok (.iload_n 1, 1) := by decide +kernel
theorem dJ2_charAt_3b067_1 : decode cJ2_charAt_3b067 1 = .ok (.aload_n 0, 1) := by decide +kernel
theorem dJ2_charAt_3b067_2 : decode cJ2_charAt_3b067 2 = .ok (.invokestatic 67, 3) := by decide +kernel
theorem dJ2_charAt_3b067_5 : decode cJ2_charAt_3b067 5 = .ok (.aload_n 0, 1) := by decide +kernel
theorem dJ2_charAt_3b067_6 : decode cJ2_charAt_3b067 6 = .ok (.iload_n 1, 1) := by decide +kernel
theorem dJ2_charAt_3b067_7 : decode cJ2_charAt_3b067 7 = .ok (.invokestatic 71, 3) := by decide +kernel
theorem dJ2_charAt_3b067_10 : decode cJ2_charAt_3b067 10 = .ok (.ireturn, 1) := by decide +kernel
theorem dJ2_checkIndex_2214a_0 : decode cJ2_checkIndex_2214a 0 = .ok (.iload_n 0, 1) := by decide +kernel
theorem dJ2_checkIndex_2214a_1 : decode cJ2_checkIndex_2214a 1 = .ok (.aload_n 1, 1) := by decide +kernel
theorem dJ2_checkIndex_2214a_2 : decode cJ2_checkIndex_2214a 2 = .ok (.invokestatic 48, 3) := by decide +kernel
theorem dJ2_checkIndex_2214a_5 : decode cJ2_checkIndex_2214a 5 = .ok (.invokestatic 414, 3) := by decide +kernel
theorem dJ2_checkIndex_2214a_8 : decode cJ2_checkIndex_2214a 8 = .ok (.return_, 1) := by decide +kernel
theorem dJ3_checkIndex_8e157_0 : decode cJ3_checkIndex_8e157 0 = .ok (.iload_n 0, 1) := by decide +kernel
theorem dJ3_checkIndex_8e157_1 : decode cJ3_checkIndex_8e157 1 = .ok (.ifCond .lt 8, 3) := by decide +kernel
theorem dJ3_checkIndex_8e157_4 : decode cJ3_checkIndex_8e157 4 = .ok (.iload_n 0, 1) := by decide +kernel
theorem dJ3_checkIndex_8e157_5 : decode cJ3_checkIndex_8e157 5 = .ok (.iload_n 1, 1) := by decide +kernel
theorem dJ3_checkIndex_8e157_6 : decode cJ3_checkIndex_8e157 6 = .ok (.if_icmp .lt 10, 3) := by decide +kernel
theorem dJ3_checkIndex_8e157_9 : decode cJ3_checkIndex_8e157 9 = .ok (.aload_n 2, 1) := by decide +kernel
theorem dJ3_checkIndex_8e157_10 : decode cJ3_checkIndex_8e157 10 = .ok (.iload_n 0, 1) := by decide +kernel
theorem dJ3_checkIndex_8e157_11 : decode cJ3_checkIndex_8e157 11 = .ok (.iload_n 1, 1) := by decide +kernel
theorem dJ3_checkIndex_8e157_12 : decode cJ3_checkIndex_8e157 12 = .ok (.invokestatic 95, 3) := by decide +kernel
theorem dJ3_checkIndex_8e157_15 : decode cJ3_checkIndex_8e157 15 = .ok (.athrow, 1) := by decide +kernel
theorem dJ3_checkIndex_8e157_16 : decode cJ3_checkIndex_8e157 16 = .ok (.iload_n 0, 1) := by decide +kernel
theorem dJ3_checkIndex_8e157_17 : decode cJ3_checkIndex_8e157 17 = .ok (.ireturn, 1) := by decide +kernel
theorem dL_led_0 : decode cL_led 0 = .ok (.aload_n 2, 1) := by decide +kernel
theorem dL_led_1 : decode cL_led 1 = .ok (.iconst 0, 1) := by decide +kernel
theorem dL_led_2 : decode cL_led 2 = .ok (.aload_n 0, 1) := by decide +kernel
theorem dL_led_3 : decode cL_led 3 = .ok (.iload_n 1, 1) := by decide +kernel
theorem dL_led_4 : decode cL_led 4 = .ok (.invokevirtual 7, 3) := by decide +kernel
theorem dL_led_7 : decode cL_led 7 = .ok (.i2l, 1) := by decide +kernel
theorem dL_led_8 : decode cL_led 8 = .ok (.lastore, 1) := by decide +kernel
theorem dL_led_9 : decode cL_led 9 = .ok (.goto 6, 3) := by decide +kernel
theorem dL_led_12 : decode cL_led 12 = .ok (.astore_n 3, 1) := by decide +kernel
theorem dL_led_13 : decode cL_led 13 = .ok (.iconst 1, 1) := by decide +kernel
theorem dL_led_14 : decode cL_led 14 = .ok (.ireturn, 1) := by decide +kernel
theorem dL_led_15 : decode cL_led 15 = .ok (.iconst 0, 1) := by decide +kernel
theorem dL_led_16 : decode cL_led 16 = .ok (.ireturn, 1) := by decide +kernel
theorem dL_law_0 : decode cL_law 0 = .ok (.new 8, 3) := by decide +kernel
theorem dL_law_3 : decode cL_law 3 = .ok (.dup, 1) := by decide +kernel
theorem dL_law_4 : decode cL_law 4 = .ok (.invokespecial 15, 3) := by decide +kernel
theorem dL_law_7 : decode cL_law 7 = .ok (.astore_n 1, 1) := by decide +kernel
theorem dL_law_8 : decode cL_law 8 = .ok (.new 16, 3) := by decide +kernel
theorem dL_law_11 : decode cL_law 11 = .ok (.dup, 1) := by decide +kernel
theorem dL_law_12 : decode cL_law 12 = .ok (.invokespecial 18, 3) := by decide +kernel
theorem dL_law_15 : decode cL_law 15 = .ok (.astore_n 2, 1) := by decide +kernel
theorem dL_law_16 : decode cL_law 16 = .ok (.iconst 1, 1) := by decide +kernel
theorem dL_law_17 : decode cL_law 17 = .ok (.newarray .long, 2) := by decide +kernel
theorem dL_law_19 : decode cL_law 19 = .ok (.astore_n 3, 1) := by decide +kernel
theorem dL_law_20 : decode cL_law 20 = .ok (.iconst 0, 1) := by decide +kernel
theorem dL_law_21 : decode cL_law 21 = .ok (.istore 4, 2) := by decide +kernel
theorem dL_law_23 : decode cL_law 23 = .ok (.iload 4, 2) := by decide +kernel
theorem dL_law_25 : decode cL_law 25 = .ok (.aload_n 0, 1) := by decide +kernel
theorem dL_law_26 : decode cL_law 26 = .ok (.arraylength, 1) := by decide +kernel
theorem dL_law_27 : decode cL_law 27 = .ok (.bipush 6, 2) := by decide +kernel
theorem dL_law_29 : decode cL_law 29 = .ok (.isub, 1) := by decide +kernel
theorem dL_law_30 : decode cL_law 30 = .ok (.if_icmp .gt 1591, 3) := by decide +kernel
theorem dL_law_33 : decode cL_law 33 = .ok (.aload_n 0, 1) := by decide +kernel
theorem dL_law_34 : decode cL_law 34 = .ok (.iload 4, 2) := by decide +kernel
theorem dL_law_36 : decode cL_law 36 = .ok (.iaload, 1) := by decide +kernel
theorem dL_law_37 : decode cL_law 37 = .ok (.bipush 63, 2) := by decide +kernel
theorem dL_law_39 : decode cL_law 39 = .ok (.iand, 1) := by decide +kernel
theorem dL_law_40 : decode cL_law 40 = .ok (.tableswitch 1575 0 44 #[196, 269, 294, 307, 320, 357, 394, 431, 468, 505, 542, 603, 652, 689, 714, 739, 764, 801, 838, 851, 864, 877, 890, 915, 928, 941, 966, 991, 1033, 1087, 1112, 1149, 1190, 1215, 1269, 1294, 1343, 1392, 1405, 1430, 1443, 1456, 1481, 1537, 1562], 196) := by decide +kernel
theorem dL_law_236 : decode cL_law 236 = .ok (.aload_n 1, 1) := by decide +kernel
theorem dL_law_237 : decode cL_law 237 = .ok (.aload_n 0, 1) := by decide +kernel
theorem dL_law_238 : decode cL_law 238 = .ok (.iload 4, 2) := by decide +kernel
theorem dL_law_240 : decode cL_law 240 = .ok (.iconst 1, 1) := by decide +kernel
theorem dL_law_241 : decode cL_law 241 = .ok (.iadd, 1) := by decide +kernel
theorem dL_law_242 : decode cL_law 242 = .ok (.iaload, 1) := by decide +kernel
theorem dL_law_243 : decode cL_law 243 = .ok (.aload_n 0, 1) := by decide +kernel
theorem dL_law_244 : decode cL_law 244 = .ok (.iload 4, 2) := by decide +kernel
theorem dL_law_246 : decode cL_law 246 = .ok (.iconst 2, 1) := by decide +kernel
theorem dL_law_247 : decode cL_law 247 = .ok (.iadd, 1) := by decide +kernel
theorem dL_law_248 : decode cL_law 248 = .ok (.iaload, 1) := by decide +kernel
theorem dL_law_249 : decode cL_law 249 = .ok (.aload_n 0, 1) := by decide +kernel
theorem dL_law_250 : decode cL_law 250 = .ok (.iload 4, 2) := by decide +kernel
theorem dL_law_252 : decode cL_law 252 = .ok (.iconst 3, 1) := by decide +kernel
theorem dL_law_253 : decode cL_law 253 = .ok (.iadd, 1) := by decide +kernel
theorem dL_law_254 : decode cL_law 254 = .ok (.iaload, 1) := by decide +kernel
theorem dL_law_255 : decode cL_law 255 = .ok (.aload_n 0, 1) := by decide +kernel
theorem dL_law_256 : decode cL_law 256 = .ok (.iload 4, 2) := by decide +kernel
theorem dL_law_258 : decode cL_law 258 = .ok (.iconst 4, 1) := by decide +kernel
theorem dL_law_259 : decode cL_law 259 = .ok (.iadd, 1) := by decide +kernel
theorem dL_law_260 : decode cL_law 260 = .ok (.iaload, 1) := by decide +kernel
theorem dL_law_261 : decode cL_law 261 = .ok (.aload_n 0, 1) := by decide +kernel
theorem dL_law_262 : decode cL_law 262 = .ok (.iload 4, 2) := by decide +kernel
theorem dL_law_264 : decode cL_law 264 = .ok (.iconst 5, 1) := by decide +kernel
theorem dL_law_265 : decode cL_law 265 = .ok (.iadd, 1) := by decide +kernel
theorem dL_law_266 : decode cL_law 266 = .ok (.iaload, 1) := by decide +kernel
theorem dL_law_267 : decode cL_law 267 = .ok (.invokevirtual 19, 3) := by decide +kernel
theorem dL_law_270 : decode cL_law 270 = .ok (.aload_n 2, 1) := by decide +kernel
theorem dL_law_271 : decode cL_law 271 = .ok (.aload_n 0, 1) := by decide +kernel
theorem dL_law_272 : decode cL_law 272 = .ok (.iload 4, 2) := by decide +kernel
theorem dL_law_274 : decode cL_law 274 = .ok (.iconst 1, 1) := by decide +kernel
theorem dL_law_275 : decode cL_law 275 = .ok (.iadd, 1) := by decide +kernel
theorem dL_law_276 : decode cL_law 276 = .ok (.iaload, 1) := by decide +kernel
theorem dL_law_277 : decode cL_law 277 = .ok (.aload_n 0, 1) := by decide +kernel
theorem dL_law_278 : decode cL_law 278 = .ok (.iload 4, 2) := by decide +kernel
theorem dL_law_280 : decode cL_law 280 = .ok (.iconst 2, 1) := by decide +kernel
theorem dL_law_281 : decode cL_law 281 = .ok (.iadd, 1) := by decide +kernel
theorem dL_law_282 : decode cL_law 282 = .ok (.iaload, 1) := by decide +kernel
theorem dL_law_283 : decode cL_law 283 = .ok (.aload_n 0, 1) := by decide +kernel
theorem dL_law_284 : decode cL_law 284 = .ok (.iload 4, 2) := by decide +kernel
theorem dL_law_286 : decode cL_law 286 = .ok (.iconst 3, 1) := by decide +kernel
theorem dL_law_287 : decode cL_law 287 = .ok (.iadd, 1) := by decide +kernel
theorem dL_law_288 : decode cL_law 288 = .ok (.iaload, 1) := by decide +kernel
theorem dL_law_289 : decode cL_law 289 = .ok (.aload_n 0, 1) := by decide +kernel
theorem dL_law_290 : decode cL_law 290 = .ok (.iload 4, 2) := by decide +kernel
theorem dL_law_292 : decode cL_law 292 = .ok (.iconst 4, 1) := by decide +kernel
theorem dL_law_293 : decode cL_law 293 = .ok (.iadd, 1) := by decide +kernel
theorem dL_law_294 : decode cL_law 294 = .ok (.iaload, 1) := by decide +kernel
theorem dL_law_295 : decode cL_law 295 = .ok (.aload_n 0, 1) := by decide +kernel
theorem dL_law_296 : decode cL_law 296 = .ok (.iload 4, 2) := by decide +kernel
theorem dL_law_298 : decode cL_law 298 = .ok (.iconst 5, 1) := by decide +kernel
theorem dL_law_299 : decode cL_law 299 = .ok (.iadd, 1) := by decide +kernel
theorem dL_law_300 : decode cL_law 300 = .ok (.iaload, 1) := by decide +kernel
theorem dL_law_301 : decode cL_law 301 = .ok (.invokevirtual 23, 3) := by decide +kernel
theorem dL_law_304 : decode cL_law 304 = .ok (.if_icmp .eq 1311, 3) := by decide +kernel
theorem dL_law_307 : decode cL_law 307 = .ok (.iconst 0, 1) := by decide +kernel
theorem dL_law_308 : decode cL_law 308 = .ok (.ireturn, 1) := by decide +kernel
theorem dL_law_309 : decode cL_law 309 = .ok (.aload_n 1, 1) := by decide +kernel
theorem dL_law_310 : decode cL_law 310 = .ok (.aload_n 0, 1) := by decide +kernel
theorem dL_law_311 : decode cL_law 311 = .ok (.iload 4, 2) := by decide +kernel
theorem dL_law_313 : decode cL_law 313 = .ok (.iconst 1, 1) := by decide +kernel
theorem dL_law_314 : decode cL_law 314 = .ok (.iadd, 1) := by decide +kernel
theorem dL_law_315 : decode cL_law 315 = .ok (.iaload, 1) := by decide +kernel
theorem dL_law_316 : decode cL_law 316 = .ok (.invokevirtual 24, 3) := by decide +kernel
theorem dL_law_319 : decode cL_law 319 = .ok (.aload_n 2, 1) := by decide +kernel
theorem dL_law_320 : decode cL_law 320 = .ok (.aload_n 0, 1) := by decide +kernel
theorem dL_law_321 : decode cL_law 321 = .ok (.iload 4, 2) := by decide +kernel
theorem dL_law_323 : decode cL_law 323 = .ok (.iconst 1, 1) := by decide +kernel
theorem dL_law_324 : decode cL_law 324 = .ok (.iadd, 1) := by decide +kernel
theorem dL_law_325 : decode cL_law 325 = .ok (.iaload, 1) := by decide +kernel
theorem dL_law_326 : decode cL_law 326 = .ok (.invokevirtual 27, 3) := by decide +kernel
theorem dL_law_329 : decode cL_law 329 = .ok (.if_icmp .eq 1286, 3) := by decide +kernel
theorem dL_law_332 : decode cL_law 332 = .ok (.iconst 0, 1) := by decide +kernel
theorem dL_law_333 : decode cL_law 333 = .ok (.ireturn, 1) := by decide +kernel
theorem dL_law_334 : decode cL_law 334 = .ok (.aload_n 1, 1) := by decide +kernel
theorem dL_law_335 : decode cL_law 335 = .ok (.invokevirtual 28, 3) := by decide +kernel
theorem dL_law_338 : decode cL_law 338 = .ok (.aload_n 2, 1) := by decide +kernel
theorem dL_law_339 : decode cL_law 339 = .ok (.invokevirtual 32, 3) := by decide +kernel
theorem dL_law_342 : decode cL_law 342 = .ok (.if_icmp .eq 1273, 3) := by decide +kernel
theorem dL_law_345 : decode cL_law 345 = .ok (.iconst 0, 1) := by decide +kernel
theorem dL_law_346 : decode cL_law 346 = .ok (.ireturn, 1) := by decide +kernel
theorem dL_law_347 : decode cL_law 347 = .ok (.aload_n 1, 1) := by decide +kernel
theorem dL_law_348 : decode cL_law 348 = .ok (.invokevirtual 33, 3) := by decide +kernel
theorem dL_law_351 : decode cL_law 351 = .ok (.aload_n 2, 1) := by decide +kernel
theorem dL_law_352 : decode cL_law 352 = .ok (.invokevirtual 36, 3) := by decide +kernel
theorem dL_law_355 : decode cL_law 355 = .ok (.if_icmp .eq 1260, 3) := by decide +kernel
theorem dL_law_358 : decode cL_law 358 = .ok (.iconst 0, 1) := by decide +kernel
theorem dL_law_359 : decode cL_law 359 = .ok (.ireturn, 1) := by decide +kernel
theorem dL_law_360 : decode cL_law 360 = .ok (.aload_n 1, 1) := by decide +kernel
theorem dL_law_361 : decode cL_law 361 = .ok (.aload_n 0, 1) := by decide +kernel
theorem dL_law_362 : decode cL_law 362 = .ok (.iload 4, 2) := by decide +kernel
theorem dL_law_364 : decode cL_law 364 = .ok (.iconst 1, 1) := by decide +kernel
theorem dL_law_365 : decode cL_law 365 = .ok (.iadd, 1) := by decide +kernel
theorem dL_law_366 : decode cL_law 366 = .ok (.iaload, 1) := by decide +kernel
theorem dL_law_367 : decode cL_law 367 = .ok (.aload_n 0, 1) := by decide +kernel
theorem dL_law_368 : decode cL_law 368 = .ok (.iload 4, 2) := by decide +kernel
theorem dL_law_370 : decode cL_law 370 = .ok (.iconst 2, 1) := by decide +kernel
theorem dL_law_371 : decode cL_law 371 = .ok (.iadd, 1) := by decide +kernel
theorem dL_law_372 : decode cL_law 372 = .ok (.iaload, 1) := by decide +kernel
theorem dL_law_373 : decode cL_law 373 = .ok (.invokevirtual 37, 3) := by decide +kernel
theorem dL_law_376 : decode cL_law 376 = .ok (.aload_n 2, 1) := by decide +kernel
theorem dL_law_377 : decode cL_law 377 = .ok (.aload_n 0, 1) := by decide +kernel
theorem dL_law_378 : decode cL_law 378 = .ok (.iload 4, 2) := by decide +kernel
theorem dL_law_380 : decode cL_law 380 = .ok (.iconst 1, 1) := by decide +kernel
theorem dL_law_381 : decode cL_law 381 = .ok (.iadd, 1) := by decide +kernel
theorem dL_law_382 : decode cL_law 382 = .ok (.iaload, 1) := by decide +kernel
theorem dL_law_383 : decode cL_law 383 = .ok (.aload_n 0, 1) := by decide +kernel
theorem dL_law_384 : decode cL_law 384 = .ok (.iload 4, 2) := by decide +kernel
theorem dL_law_386 : decode cL_law 386 = .ok (.iconst 2, 1) := by decide +kernel
theorem dL_law_387 : decode cL_law 387 = .ok (.iadd, 1) := by decide +kernel
theorem dL_law_388 : decode cL_law 388 = .ok (.iaload, 1) := by decide +kernel
theorem dL_law_389 : decode cL_law 389 = .ok (.invokevirtual 41, 3) := by decide +kernel
theorem dL_law_392 : decode cL_law 392 = .ok (.if_icmp .eq 1223, 3) := by decide +kernel
theorem dL_law_395 : decode cL_law 395 = .ok (.iconst 0, 1) := by decide +kernel
theorem dL_law_396 : decode cL_law 396 = .ok (.ireturn, 1) := by decide +kernel
theorem dL_law_397 : decode cL_law 397 = .ok (.aload_n 1, 1) := by decide +kernel
theorem dL_law_398 : decode cL_law 398 = .ok (.aload_n 0, 1) := by decide +kernel
theorem dL_law_399 : decode cL_law 399 = .ok (.iload 4, 2) := by decide +kernel
theorem dL_law_401 : decode cL_law 401 = .ok (.iconst 1, 1) := by decide +kernel
theorem dL_law_402 : decode cL_law 402 = .ok (.iadd, 1) := by decide +kernel
theorem dL_law_403 : decode cL_law 403 = .ok (.iaload, 1) := by decide +kernel
theorem dL_law_404 : decode cL_law 404 = .ok (.aload_n 0, 1) := by decide +kernel
theorem dL_law_405 : decode cL_law 405 = .ok (.iload 4, 2) := by decide +kernel
theorem dL_law_407 : decode cL_law 407 = .ok (.iconst 2, 1) := by decide +kernel
theorem dL_law_408 : decode cL_law 408 = .ok (.iadd, 1) := by decide +kernel
theorem dL_law_409 : decode cL_law 409 = .ok (.iaload, 1) := by decide +kernel
theorem dL_law_410 : decode cL_law 410 = .ok (.invokevirtual 42, 3) := by decide +kernel
theorem dL_law_413 : decode cL_law 413 = .ok (.aload_n 2, 1) := by decide +kernel
theorem dL_law_414 : decode cL_law 414 = .ok (.aload_n 0, 1) := by decide +kernel
theorem dL_law_415 : decode cL_law 415 = .ok (.iload 4, 2) := by decide +kernel
theorem dL_law_417 : decode cL_law 417 = .ok (.iconst 1, 1) := by decide +kernel
theorem dL_law_418 : decode cL_law 418 = .ok (.iadd, 1) := by decide +kernel
theorem dL_law_419 : decode cL_law 419 = .ok (.iaload, 1) := by decide +kernel
theorem dL_law_420 : decode cL_law 420 = .ok (.aload_n 0, 1) := by decide +kernel
theorem dL_law_421 : decode cL_law 421 = .ok (.iload 4, 2) := by decide +kernel
theorem dL_law_423 : decode cL_law 423 = .ok (.iconst 2, 1) := by decide +kernel
theorem dL_law_424 : decode cL_law 424 = .ok (.iadd, 1) := by decide +kernel
theorem dL_law_425 : decode cL_law 425 = .ok (.iaload, 1) := by decide +kernel
theorem dL_law_426 : decode cL_law 426 = .ok (.invokevirtual 45, 3) := by decide +kernel
theorem dL_law_429 : decode cL_law 429 = .ok (.if_icmp .eq 1186, 3) := by decide +kernel
theorem dL_law_432 : decode cL_law 432 = .ok (.iconst 0, 1) := by decide +kernel
theorem dL_law_433 : decode cL_law 433 = .ok (.ireturn, 1) := by decide +kernel
theorem dL_law_434 : decode cL_law 434 = .ok (.aload_n 1, 1) := by decide +kernel
theorem dL_law_435 : decode cL_law 435 = .ok (.aload_n 0, 1) := by decide +kernel
theorem dL_law_436 : decode cL_law 436 = .ok (.iload 4, 2) := by decide +kernel
theorem dL_law_438 : decode cL_law 438 = .ok (.iconst 1, 1) := by decide +kernel
theorem dL_law_439 : decode cL_law 439 = .ok (.iadd, 1) := by decide +kernel
theorem dL_law_440 : decode cL_law 440 = .ok (.iaload, 1) := by decide +kernel
theorem dL_law_441 : decode cL_law 441 = .ok (.aload_n 0, 1) := by decide +kernel
theorem dL_law_442 : decode cL_law 442 = .ok (.iload 4, 2) := by decide +kernel
theorem dL_law_444 : decode cL_law 444 = .ok (.iconst 2, 1) := by decide +kernel
theorem dL_law_445 : decode cL_law 445 = .ok (.iadd, 1) := by decide +kernel
theorem dL_law_446 : decode cL_law 446 = .ok (.iaload, 1) := by decide +kernel
theorem dL_law_447 : decode cL_law 447 = .ok (.invokevirtual 46, 3) := by decide +kernel
theorem dL_law_450 : decode cL_law 450 = .ok (.aload_n 2, 1) := by decide +kernel
theorem dL_law_451 : decode cL_law 451 = .ok (.aload_n 0, 1) := by decide +kernel
theorem dL_law_452 : decode cL_law 452 = .ok (.iload 4, 2) := by decide +kernel
theorem dL_law_454 : decode cL_law 454 = .ok (.iconst 1, 1) := by decide +kernel
theorem dL_law_455 : decode cL_law 455 = .ok (.iadd, 1) := by decide +kernel
theorem dL_law_456 : decode cL_law 456 = .ok (.iaload, 1) := by decide +kernel
theorem dL_law_457 : decode cL_law 457 = .ok (.aload_n 0, 1) := by decide +kernel
theorem dL_law_458 : decode cL_law 458 = .ok (.iload 4, 2) := by decide +kernel
theorem dL_law_460 : decode cL_law 460 = .ok (.iconst 2, 1) := by decide +kernel
theorem dL_law_461 : decode cL_law 461 = .ok (.iadd, 1) := by decide +kernel
theorem dL_law_462 : decode cL_law 462 = .ok (.iaload, 1) := by decide +kernel
theorem dL_law_463 : decode cL_law 463 = .ok (.invokevirtual 49, 3) := by decide +kernel
theorem dL_law_466 : decode cL_law 466 = .ok (.if_icmp .eq 1149, 3) := by decide +kernel
theorem dL_law_469 : decode cL_law 469 = .ok (.iconst 0, 1) := by decide +kernel
theorem dL_law_470 : decode cL_law 470 = .ok (.ireturn, 1) := by decide +kernel
theorem dL_law_471 : decode cL_law 471 = .ok (.aload_n 1, 1) := by decide +kernel
theorem dL_law_472 : decode cL_law 472 = .ok (.aload_n 0, 1) := by decide +kernel
theorem dL_law_473 : decode cL_law 473 = .ok (.iload 4, 2) := by decide +kernel
theorem dL_law_475 : decode cL_law 475 = .ok (.iconst 1, 1) := by decide +kernel
theorem dL_law_476 : decode cL_law 476 = .ok (.iadd, 1) := by decide +kernel
theorem dL_law_477 : decode cL_law 477 = .ok (.iaload, 1) := by decide +kernel
theorem dL_law_478 : decode cL_law 478 = .ok (.aload_n 0, 1) := by decide +kernel
theorem dL_law_479 : decode cL_law 479 = .ok (.iload 4, 2) := by decide +kernel
theorem dL_law_481 : decode cL_law 481 = .ok (.iconst 2, 1) := by decide +kernel
theorem dL_law_482 : decode cL_law 482 = .ok (.iadd, 1) := by decide +kernel
theorem dL_law_483 : decode cL_law 483 = .ok (.iaload, 1) := by decide +kernel
theorem dL_law_484 : decode cL_law 484 = .ok (.invokevirtual 50, 3) := by decide +kernel
theorem dL_law_487 : decode cL_law 487 = .ok (.aload_n 2, 1) := by decide +kernel
theorem dL_law_488 : decode cL_law 488 = .ok (.aload_n 0, 1) := by decide +kernel
theorem dL_law_489 : decode cL_law 489 = .ok (.iload 4, 2) := by decide +kernel
theorem dL_law_491 : decode cL_law 491 = .ok (.iconst 1, 1) := by decide +kernel
theorem dL_law_492 : decode cL_law 492 = .ok (.iadd, 1) := by decide +kernel
theorem dL_law_493 : decode cL_law 493 = .ok (.iaload, 1) := by decide +kernel
theorem dL_law_494 : decode cL_law 494 = .ok (.aload_n 0, 1) := by decide +kernel
theorem dL_law_495 : decode cL_law 495 = .ok (.iload 4, 2) := by decide +kernel
theorem dL_law_497 : decode cL_law 497 = .ok (.iconst 2, 1) := by decide +kernel
theorem dL_law_498 : decode cL_law 498 = .ok (.iadd, 1) := by decide +kernel
theorem dL_law_499 : decode cL_law 499 = .ok (.iaload, 1) := by decide +kernel
theorem dL_law_500 : decode cL_law 500 = .ok (.invokevirtual 53, 3) := by decide +kernel
theorem dL_law_503 : decode cL_law 503 = .ok (.if_icmp .eq 1112, 3) := by decide +kernel
theorem dL_law_506 : decode cL_law 506 = .ok (.iconst 0, 1) := by decide +kernel
theorem dL_law_507 : decode cL_law 507 = .ok (.ireturn, 1) := by decide +kernel
theorem dL_law_508 : decode cL_law 508 = .ok (.aload_n 1, 1) := by decide +kernel
theorem dL_law_509 : decode cL_law 509 = .ok (.aload_n 0, 1) := by decide +kernel
theorem dL_law_510 : decode cL_law 510 = .ok (.iload 4, 2) := by decide +kernel
theorem dL_law_512 : decode cL_law 512 = .ok (.iconst 1, 1) := by decide +kernel
theorem dL_law_513 : decode cL_law 513 = .ok (.iadd, 1) := by decide +kernel
theorem dL_law_514 : decode cL_law 514 = .ok (.iaload, 1) := by decide +kernel
theorem dL_law_515 : decode cL_law 515 = .ok (.aload_n 0, 1) := by decide +kernel
theorem dL_law_516 : decode cL_law 516 = .ok (.iload 4, 2) := by decide +kernel
theorem dL_law_518 : decode cL_law 518 = .ok (.iconst 2, 1) := by decide +kernel
theorem dL_law_519 : decode cL_law 519 = .ok (.iadd, 1) := by decide +kernel
theorem dL_law_520 : decode cL_law 520 = .ok (.iaload, 1) := by decide +kernel
theorem dL_law_521 : decode cL_law 521 = .ok (.invokevirtual 54, 3) := by decide +kernel
theorem dL_law_524 : decode cL_law 524 = .ok (.aload_n 2, 1) := by decide +kernel
theorem dL_law_525 : decode cL_law 525 = .ok (.aload_n 0, 1) := by decide +kernel
theorem dL_law_526 : decode cL_law 526 = .ok (.iload 4, 2) := by decide +kernel
theorem dL_law_528 : decode cL_law 528 = .ok (.iconst 1, 1) := by decide +kernel
theorem dL_law_529 : decode cL_law 529 = .ok (.iadd, 1) := by decide +kernel
theorem dL_law_530 : decode cL_law 530 = .ok (.iaload, 1) := by decide +kernel
theorem dL_law_531 : decode cL_law 531 = .ok (.aload_n 0, 1) := by decide +kernel
theorem dL_law_532 : decode cL_law 532 = .ok (.iload 4, 2) := by decide +kernel
theorem dL_law_534 : decode cL_law 534 = .ok (.iconst 2, 1) := by decide +kernel
theorem dL_law_535 : decode cL_law 535 = .ok (.iadd, 1) := by decide +kernel
theorem dL_law_536 : decode cL_law 536 = .ok (.iaload, 1) := by decide +kernel
theorem dL_law_537 : decode cL_law 537 = .ok (.invokevirtual 57, 3) := by decide +kernel
theorem dL_law_540 : decode cL_law 540 = .ok (.if_icmp .eq 1075, 3) := by decide +kernel
theorem dL_law_543 : decode cL_law 543 = .ok (.iconst 0, 1) := by decide +kernel
theorem dL_law_544 : decode cL_law 544 = .ok (.ireturn, 1) := by decide +kernel
theorem dL_law_545 : decode cL_law 545 = .ok (.aload_n 1, 1) := by decide +kernel
theorem dL_law_546 : decode cL_law 546 = .ok (.aload_n 0, 1) := by decide +kernel
theorem dL_law_547 : decode cL_law 547 = .ok (.iload 4, 2) := by decide +kernel
theorem dL_law_549 : decode cL_law 549 = .ok (.iconst 1, 1) := by decide +kernel
theorem dL_law_550 : decode cL_law 550 = .ok (.iadd, 1) := by decide +kernel
theorem dL_law_551 : decode cL_law 551 = .ok (.iaload, 1) := by decide +kernel
theorem dL_law_552 : decode cL_law 552 = .ok (.aload_n 0, 1) := by decide +kernel
theorem dL_law_553 : decode cL_law 553 = .ok (.iload 4, 2) := by decide +kernel
theorem dL_law_555 : decode cL_law 555 = .ok (.iconst 2, 1) := by decide +kernel
theorem dL_law_556 : decode cL_law 556 = .ok (.iadd, 1) := by decide +kernel
theorem dL_law_557 : decode cL_law 557 = .ok (.iaload, 1) := by decide +kernel
theorem dL_law_558 : decode cL_law 558 = .ok (.invokevirtual 58, 3) := by decide +kernel
theorem dL_law_561 : decode cL_law 561 = .ok (.aload_n 2, 1) := by decide +kernel
theorem dL_law_562 : decode cL_law 562 = .ok (.aload_n 0, 1) := by decide +kernel
theorem dL_law_563 : decode cL_law 563 = .ok (.iload 4, 2) := by decide +kernel
theorem dL_law_565 : decode cL_law 565 = .ok (.iconst 1, 1) := by decide +kernel
theorem dL_law_566 : decode cL_law 566 = .ok (.iadd, 1) := by decide +kernel
theorem dL_law_567 : decode cL_law 567 = .ok (.iaload, 1) := by decide +kernel
theorem dL_law_568 : decode cL_law 568 = .ok (.aload_n 0, 1) := by decide +kernel
theorem dL_law_569 : decode cL_law 569 = .ok (.iload 4, 2) := by decide +kernel
theorem dL_law_571 : decode cL_law 571 = .ok (.iconst 2, 1) := by decide +kernel
theorem dL_law_572 : decode cL_law 572 = .ok (.iadd, 1) := by decide +kernel
theorem dL_law_573 : decode cL_law 573 = .ok (.iaload, 1) := by decide +kernel
theorem dL_law_574 : decode cL_law 574 = .ok (.invokevirtual 61, 3) := by decide +kernel
theorem dL_law_577 : decode cL_law 577 = .ok (.if_icmp .eq 1038, 3) := by decide +kernel
theorem dL_law_580 : decode cL_law 580 = .ok (.iconst 0, 1) := by decide +kernel
theorem dL_law_581 : decode cL_law 581 = .ok (.ireturn, 1) := by decide +kernel
theorem dL_law_582 : decode cL_law 582 = .ok (.aload_n 1, 1) := by decide +kernel
theorem dL_law_583 : decode cL_law 583 = .ok (.aload_n 0, 1) := by decide +kernel
theorem dL_law_584 : decode cL_law 584 = .ok (.iload 4, 2) := by decide +kernel
theorem dL_law_586 : decode cL_law 586 = .ok (.iconst 1, 1) := by decide +kernel
theorem dL_law_587 : decode cL_law 587 = .ok (.iadd, 1) := by decide +kernel
theorem dL_law_588 : decode cL_law 588 = .ok (.iaload, 1) := by decide +kernel
theorem dL_law_589 : decode cL_law 589 = .ok (.aload_n 0, 1) := by decide +kernel
theorem dL_law_590 : decode cL_law 590 = .ok (.iload 4, 2) := by decide +kernel
theorem dL_law_592 : decode cL_law 592 = .ok (.iconst 2, 1) := by decide +kernel
theorem dL_law_593 : decode cL_law 593 = .ok (.iadd, 1) := by decide +kernel
theorem dL_law_594 : decode cL_law 594 = .ok (.iaload, 1) := by decide +kernel
theorem dL_law_595 : decode cL_law 595 = .ok (.aload_n 0, 1) := by decide +kernel
theorem dL_law_596 : decode cL_law 596 = .ok (.iload 4, 2) := by decide +kernel
theorem dL_law_598 : decode cL_law 598 = .ok (.iconst 3, 1) := by decide +kernel
theorem dL_law_599 : decode cL_law 599 = .ok (.iadd, 1) := by decide +kernel
theorem dL_law_600 : decode cL_law 600 = .ok (.iaload, 1) := by decide +kernel
theorem dL_law_601 : decode cL_law 601 = .ok (.aload_n 0, 1) := by decide +kernel
theorem dL_law_602 : decode cL_law 602 = .ok (.iload 4, 2) := by decide +kernel
theorem dL_law_604 : decode cL_law 604 = .ok (.iconst 4, 1) := by decide +kernel
theorem dL_law_605 : decode cL_law 605 = .ok (.iadd, 1) := by decide +kernel
theorem dL_law_606 : decode cL_law 606 = .ok (.iaload, 1) := by decide +kernel
theorem dL_law_607 : decode cL_law 607 = .ok (.invokevirtual 62, 3) := by decide +kernel
theorem dL_law_610 : decode cL_law 610 = .ok (.aload_n 2, 1) := by decide +kernel
theorem dL_law_611 : decode cL_law 611 = .ok (.aload_n 0, 1) := by decide +kernel
theorem dL_law_612 : decode cL_law 612 = .ok (.iload 4, 2) := by decide +kernel
theorem dL_law_614 : decode cL_law 614 = .ok (.iconst 1, 1) := by decide +kernel
theorem dL_law_615 : decode cL_law 615 = .ok (.iadd, 1) := by decide +kernel
theorem dL_law_616 : decode cL_law 616 = .ok (.iaload, 1) := by decide +kernel
theorem dL_law_617 : decode cL_law 617 = .ok (.aload_n 0, 1) := by decide +kernel
theorem dL_law_618 : decode cL_law 618 = .ok (.iload 4, 2) := by decide +kernel
theorem dL_law_620 : decode cL_law 620 = .ok (.iconst 2, 1) := by decide +kernel
theorem dL_law_621 : decode cL_law 621 = .ok (.iadd, 1) := by decide +kernel
theorem dL_law_622 : decode cL_law 622 = .ok (.iaload, 1) := by decide +kernel
theorem dL_law_623 : decode cL_law 623 = .ok (.aload_n 0, 1) := by decide +kernel
theorem dL_law_624 : decode cL_law 624 = .ok (.iload 4, 2) := by decide +kernel
theorem dL_law_626 : decode cL_law 626 = .ok (.iconst 3, 1) := by decide +kernel
theorem dL_law_627 : decode cL_law 627 = .ok (.iadd, 1) := by decide +kernel
theorem dL_law_628 : decode cL_law 628 = .ok (.iaload, 1) := by decide +kernel
theorem dL_law_629 : decode cL_law 629 = .ok (.aload_n 0, 1) := by decide +kernel
theorem dL_law_630 : decode cL_law 630 = .ok (.iload 4, 2) := by decide +kernel
theorem dL_law_632 : decode cL_law 632 = .ok (.iconst 4, 1) := by decide +kernel
theorem dL_law_633 : decode cL_law 633 = .ok (.iadd, 1) := by decide +kernel
theorem dL_law_634 : decode cL_law 634 = .ok (.iaload, 1) := by decide +kernel
theorem dL_law_635 : decode cL_law 635 = .ok (.invokevirtual 66, 3) := by decide +kernel
theorem dL_law_638 : decode cL_law 638 = .ok (.if_icmp .eq 977, 3) := by decide +kernel
theorem dL_law_641 : decode cL_law 641 = .ok (.iconst 0, 1) := by decide +kernel
theorem dL_law_642 : decode cL_law 642 = .ok (.ireturn, 1) := by decide +kernel
theorem dL_law_643 : decode cL_law 643 = .ok (.aload_n 1, 1) := by decide +kernel
theorem dL_law_644 : decode cL_law 644 = .ok (.aload_n 0, 1) := by decide +kernel
theorem dL_law_645 : decode cL_law 645 = .ok (.iload 4, 2) := by decide +kernel
theorem dL_law_647 : decode cL_law 647 = .ok (.iconst 1, 1) := by decide +kernel
theorem dL_law_648 : decode cL_law 648 = .ok (.iadd, 1) := by decide +kernel
theorem dL_law_649 : decode cL_law 649 = .ok (.iaload, 1) := by decide +kernel
theorem dL_law_650 : decode cL_law 650 = .ok (.aload_n 0, 1) := by decide +kernel
theorem dL_law_651 : decode cL_law 651 = .ok (.iload 4, 2) := by decide +kernel
theorem dL_law_653 : decode cL_law 653 = .ok (.iconst 2, 1) := by decide +kernel
theorem dL_law_654 : decode cL_law 654 = .ok (.iadd, 1) := by decide +kernel
theorem dL_law_655 : decode cL_law 655 = .ok (.iaload, 1) := by decide +kernel
theorem dL_law_656 : decode cL_law 656 = .ok (.aload_n 0, 1) := by decide +kernel
theorem dL_law_657 : decode cL_law 657 = .ok (.iload 4, 2) := by decide +kernel
theorem dL_law_659 : decode cL_law 659 = .ok (.iconst 3, 1) := by decide +kernel
theorem dL_law_660 : decode cL_law 660 = .ok (.iadd, 1) := by decide +kernel
theorem dL_law_661 : decode cL_law 661 = .ok (.iaload, 1) := by decide +kernel
theorem dL_law_662 : decode cL_law 662 = .ok (.invokevirtual 67, 3) := by decide +kernel
theorem dL_law_665 : decode cL_law 665 = .ok (.aload_n 2, 1) := by decide +kernel
theorem dL_law_666 : decode cL_law 666 = .ok (.aload_n 0, 1) := by decide +kernel
theorem dL_law_667 : decode cL_law 667 = .ok (.iload 4, 2) := by decide +kernel
theorem dL_law_669 : decode cL_law 669 = .ok (.iconst 1, 1) := by decide +kernel
theorem dL_law_670 : decode cL_law 670 = .ok (.iadd, 1) := by decide +kernel
theorem dL_law_671 : decode cL_law 671 = .ok (.iaload, 1) := by decide +kernel
theorem dL_law_672 : decode cL_law 672 = .ok (.aload_n 0, 1) := by decide +kernel
theorem dL_law_673 : decode cL_law 673 = .ok (.iload 4, 2) := by decide +kernel
theorem dL_law_675 : decode cL_law 675 = .ok (.iconst 2, 1) := by decide +kernel
theorem dL_law_676 : decode cL_law 676 = .ok (.iadd, 1) := by decide +kernel
theorem dL_law_677 : decode cL_law 677 = .ok (.iaload, 1) := by decide +kernel
theorem dL_law_678 : decode cL_law 678 = .ok (.aload_n 0, 1) := by decide +kernel
theorem dL_law_679 : decode cL_law 679 = .ok (.iload 4, 2) := by decide +kernel
theorem dL_law_681 : decode cL_law 681 = .ok (.iconst 3, 1) := by decide +kernel
theorem dL_law_682 : decode cL_law 682 = .ok (.iadd, 1) := by decide +kernel
theorem dL_law_683 : decode cL_law 683 = .ok (.iaload, 1) := by decide +kernel
theorem dL_law_684 : decode cL_law 684 = .ok (.invokevirtual 71, 3) := by decide +kernel
theorem dL_law_687 : decode cL_law 687 = .ok (.if_icmp .eq 928, 3) := by decide +kernel
theorem dL_law_690 : decode cL_law 690 = .ok (.iconst 0, 1) := by decide +kernel
theorem dL_law_691 : decode cL_law 691 = .ok (.ireturn, 1) := by decide +kernel
theorem dL_law_692 : decode cL_law 692 = .ok (.aload_n 1, 1) := by decide +kernel
theorem dL_law_693 : decode cL_law 693 = .ok (.aload_n 0, 1) := by decide +kernel
theorem dL_law_694 : decode cL_law 694 = .ok (.iload 4, 2) := by decide +kernel
theorem dL_law_696 : decode cL_law 696 = .ok (.iconst 1, 1) := by decide +kernel
theorem dL_law_697 : decode cL_law 697 = .ok (.iadd, 1) := by decide +kernel
theorem dL_law_698 : decode cL_law 698 = .ok (.iaload, 1) := by decide +kernel
theorem dL_law_699 : decode cL_law 699 = .ok (.aload_n 0, 1) := by decide +kernel
theorem dL_law_700 : decode cL_law 700 = .ok (.iload 4, 2) := by decide +kernel
theorem dL_law_702 : decode cL_law 702 = .ok (.iconst 2, 1) := by decide +kernel
theorem dL_law_703 : decode cL_law 703 = .ok (.iadd, 1) := by decide +kernel
theorem dL_law_704 : decode cL_law 704 = .ok (.iaload, 1) := by decide +kernel
theorem dL_law_705 : decode cL_law 705 = .ok (.invokevirtual 72, 3) := by decide +kernel
theorem dL_law_708 : decode cL_law 708 = .ok (.aload_n 2, 1) := by decide +kernel
theorem dL_law_709 : decode cL_law 709 = .ok (.aload_n 0, 1) := by decide +kernel
theorem dL_law_710 : decode cL_law 710 = .ok (.iload 4, 2) := by decide +kernel
theorem dL_law_712 : decode cL_law 712 = .ok (.iconst 1, 1) := by decide +kernel
theorem dL_law_713 : decode cL_law 713 = .ok (.iadd, 1) := by decide +kernel
theorem dL_law_714 : decode cL_law 714 = .ok (.iaload, 1) := by decide +kernel
theorem dL_law_715 : decode cL_law 715 = .ok (.aload_n 0, 1) := by decide +kernel
theorem dL_law_716 : decode cL_law 716 = .ok (.iload 4, 2) := by decide +kernel
theorem dL_law_718 : decode cL_law 718 = .ok (.iconst 2, 1) := by decide +kernel
theorem dL_law_719 : decode cL_law 719 = .ok (.iadd, 1) := by decide +kernel
theorem dL_law_720 : decode cL_law 720 = .ok (.iaload, 1) := by decide +kernel
theorem dL_law_721 : decode cL_law 721 = .ok (.invokevirtual 75, 3) := by decide +kernel
theorem dL_law_724 : decode cL_law 724 = .ok (.if_icmp .eq 891, 3) := by decide +kernel
theorem dL_law_727 : decode cL_law 727 = .ok (.iconst 0, 1) := by decide +kernel
theorem dL_law_728 : decode cL_law 728 = .ok (.ireturn, 1) := by decide +kernel
theorem dL_law_729 : decode cL_law 729 = .ok (.aload_n 1, 1) := by decide +kernel
theorem dL_law_730 : decode cL_law 730 = .ok (.aload_n 0, 1) := by decide +kernel
theorem dL_law_731 : decode cL_law 731 = .ok (.iload 4, 2) := by decide +kernel
theorem dL_law_733 : decode cL_law 733 = .ok (.iconst 1, 1) := by decide +kernel
theorem dL_law_734 : decode cL_law 734 = .ok (.iadd, 1) := by decide +kernel
theorem dL_law_735 : decode cL_law 735 = .ok (.iaload, 1) := by decide +kernel
theorem dL_law_736 : decode cL_law 736 = .ok (.invokevirtual 76, 3) := by decide +kernel
theorem dL_law_739 : decode cL_law 739 = .ok (.aload_n 2, 1) := by decide +kernel
theorem dL_law_740 : decode cL_law 740 = .ok (.aload_n 0, 1) := by decide +kernel
theorem dL_law_741 : decode cL_law 741 = .ok (.iload 4, 2) := by decide +kernel
theorem dL_law_743 : decode cL_law 743 = .ok (.iconst 1, 1) := by decide +kernel
theorem dL_law_744 : decode cL_law 744 = .ok (.iadd, 1) := by decide +kernel
theorem dL_law_745 : decode cL_law 745 = .ok (.iaload, 1) := by decide +kernel
theorem dL_law_746 : decode cL_law 746 = .ok (.invokevirtual 79, 3) := by decide +kernel
theorem dL_law_749 : decode cL_law 749 = .ok (.if_icmp .eq 866, 3) := by decide +kernel
theorem dL_law_752 : decode cL_law 752 = .ok (.iconst 0, 1) := by decide +kernel
theorem dL_law_753 : decode cL_law 753 = .ok (.ireturn, 1) := by decide +kernel
theorem dL_law_754 : decode cL_law 754 = .ok (.aload_n 1, 1) := by decide +kernel
theorem dL_law_755 : decode cL_law 755 = .ok (.aload_n 0, 1) := by decide +kernel
theorem dL_law_756 : decode cL_law 756 = .ok (.iload 4, 2) := by decide +kernel
theorem dL_law_758 : decode cL_law 758 = .ok (.iconst 1, 1) := by decide +kernel
theorem dL_law_759 : decode cL_law 759 = .ok (.iadd, 1) := by decide +kernel
theorem dL_law_760 : decode cL_law 760 = .ok (.iaload, 1) := by decide +kernel
theorem dL_law_761 : decode cL_law 761 = .ok (.invokevirtual 80, 3) := by decide +kernel
theorem dL_law_764 : decode cL_law 764 = .ok (.aload_n 2, 1) := by decide +kernel
theorem dL_law_765 : decode cL_law 765 = .ok (.aload_n 0, 1) := by decide +kernel
theorem dL_law_766 : decode cL_law 766 = .ok (.iload 4, 2) := by decide +kernel
theorem dL_law_768 : decode cL_law 768 = .ok (.iconst 1, 1) := by decide +kernel
theorem dL_law_769 : decode cL_law 769 = .ok (.iadd, 1) := by decide +kernel
theorem dL_law_770 : decode cL_law 770 = .ok (.iaload, 1) := by decide +kernel
theorem dL_law_771 : decode cL_law 771 = .ok (.invokevirtual 83, 3) := by decide +kernel
theorem dL_law_774 : decode cL_law 774 = .ok (.if_icmp .eq 841, 3) := by decide +kernel
theorem dL_law_777 : decode cL_law 777 = .ok (.iconst 0, 1) := by decide +kernel
theorem dL_law_778 : decode cL_law 778 = .ok (.ireturn, 1) := by decide +kernel
theorem dL_law_779 : decode cL_law 779 = .ok (.aload_n 1, 1) := by decide +kernel
theorem dL_law_780 : decode cL_law 780 = .ok (.aload_n 0, 1) := by decide +kernel
theorem dL_law_781 : decode cL_law 781 = .ok (.iload 4, 2) := by decide +kernel
theorem dL_law_783 : decode cL_law 783 = .ok (.iconst 1, 1) := by decide +kernel
theorem dL_law_784 : decode cL_law 784 = .ok (.iadd, 1) := by decide +kernel
theorem dL_law_785 : decode cL_law 785 = .ok (.iaload, 1) := by decide +kernel
theorem dL_law_786 : decode cL_law 786 = .ok (.invokevirtual 84, 3) := by decide +kernel
theorem dL_law_789 : decode cL_law 789 = .ok (.aload_n 2, 1) := by decide +kernel
theorem dL_law_790 : decode cL_law 790 = .ok (.aload_n 0, 1) := by decide +kernel
theorem dL_law_791 : decode cL_law 791 = .ok (.iload 4, 2) := by decide +kernel
theorem dL_law_793 : decode cL_law 793 = .ok (.iconst 1, 1) := by decide +kernel
theorem dL_law_794 : decode cL_law 794 = .ok (.iadd, 1) := by decide +kernel
theorem dL_law_795 : decode cL_law 795 = .ok (.iaload, 1) := by decide +kernel
theorem dL_law_796 : decode cL_law 796 = .ok (.invokevirtual 87, 3) := by decide +kernel
theorem dL_law_799 : decode cL_law 799 = .ok (.if_icmp .eq 816, 3) := by decide +kernel
theorem dL_law_802 : decode cL_law 802 = .ok (.iconst 0, 1) := by decide +kernel
theorem dL_law_803 : decode cL_law 803 = .ok (.ireturn, 1) := by decide +kernel
theorem dL_law_804 : decode cL_law 804 = .ok (.aload_n 1, 1) := by decide +kernel
theorem dL_law_805 : decode cL_law 805 = .ok (.aload_n 0, 1) := by decide +kernel
theorem dL_law_806 : decode cL_law 806 = .ok (.iload 4, 2) := by decide +kernel
theorem dL_law_808 : decode cL_law 808 = .ok (.iconst 1, 1) := by decide +kernel
theorem dL_law_809 : decode cL_law 809 = .ok (.iadd, 1) := by decide +kernel
theorem dL_law_810 : decode cL_law 810 = .ok (.iaload, 1) := by decide +kernel
theorem dL_law_811 : decode cL_law 811 = .ok (.aload_n 0, 1) := by decide +kernel
theorem dL_law_812 : decode cL_law 812 = .ok (.iload 4, 2) := by decide +kernel
theorem dL_law_814 : decode cL_law 814 = .ok (.iconst 2, 1) := by decide +kernel
theorem dL_law_815 : decode cL_law 815 = .ok (.iadd, 1) := by decide +kernel
theorem dL_law_816 : decode cL_law 816 = .ok (.iaload, 1) := by decide +kernel
theorem dL_law_817 : decode cL_law 817 = .ok (.invokevirtual 88, 3) := by decide +kernel
theorem dL_law_820 : decode cL_law 820 = .ok (.aload_n 2, 1) := by decide +kernel
theorem dL_law_821 : decode cL_law 821 = .ok (.aload_n 0, 1) := by decide +kernel
theorem dL_law_822 : decode cL_law 822 = .ok (.iload 4, 2) := by decide +kernel
theorem dL_law_824 : decode cL_law 824 = .ok (.iconst 1, 1) := by decide +kernel
theorem dL_law_825 : decode cL_law 825 = .ok (.iadd, 1) := by decide +kernel
theorem dL_law_826 : decode cL_law 826 = .ok (.iaload, 1) := by decide +kernel
theorem dL_law_827 : decode cL_law 827 = .ok (.aload_n 0, 1) := by decide +kernel
theorem dL_law_828 : decode cL_law 828 = .ok (.iload 4, 2) := by decide +kernel
theorem dL_law_830 : decode cL_law 830 = .ok (.iconst 2, 1) := by decide +kernel
theorem dL_law_831 : decode cL_law 831 = .ok (.iadd, 1) := by decide +kernel
theorem dL_law_832 : decode cL_law 832 = .ok (.iaload, 1) := by decide +kernel
theorem dL_law_833 : decode cL_law 833 = .ok (.invokevirtual 91, 3) := by decide +kernel
theorem dL_law_836 : decode cL_law 836 = .ok (.if_icmp .eq 779, 3) := by decide +kernel
theorem dL_law_839 : decode cL_law 839 = .ok (.iconst 0, 1) := by decide +kernel
theorem dL_law_840 : decode cL_law 840 = .ok (.ireturn, 1) := by decide +kernel
theorem dL_law_841 : decode cL_law 841 = .ok (.aload_n 1, 1) := by decide +kernel
theorem dL_law_842 : decode cL_law 842 = .ok (.aload_n 0, 1) := by decide +kernel
theorem dL_law_843 : decode cL_law 843 = .ok (.iload 4, 2) := by decide +kernel
theorem dL_law_845 : decode cL_law 845 = .ok (.iconst 1, 1) := by decide +kernel
theorem dL_law_846 : decode cL_law 846 = .ok (.iadd, 1) := by decide +kernel
theorem dL_law_847 : decode cL_law 847 = .ok (.iaload, 1) := by decide +kernel
theorem dL_law_848 : decode cL_law 848 = .ok (.aload_n 0, 1) := by decide +kernel
theorem dL_law_849 : decode cL_law 849 = .ok (.iload 4, 2) := by decide +kernel
theorem dL_law_851 : decode cL_law 851 = .ok (.iconst 2, 1) := by decide +kernel
theorem dL_law_852 : decode cL_law 852 = .ok (.iadd, 1) := by decide +kernel
theorem dL_law_853 : decode cL_law 853 = .ok (.iaload, 1) := by decide +kernel
theorem dL_law_854 : decode cL_law 854 = .ok (.invokevirtual 92, 3) := by decide +kernel
theorem dL_law_857 : decode cL_law 857 = .ok (.aload_n 2, 1) := by decide +kernel
theorem dL_law_858 : decode cL_law 858 = .ok (.aload_n 0, 1) := by decide +kernel
theorem dL_law_859 : decode cL_law 859 = .ok (.iload 4, 2) := by decide +kernel
theorem dL_law_861 : decode cL_law 861 = .ok (.iconst 1, 1) := by decide +kernel
theorem dL_law_862 : decode cL_law 862 = .ok (.iadd, 1) := by decide +kernel
theorem dL_law_863 : decode cL_law 863 = .ok (.iaload, 1) := by decide +kernel
theorem dL_law_864 : decode cL_law 864 = .ok (.aload_n 0, 1) := by decide +kernel
theorem dL_law_865 : decode cL_law 865 = .ok (.iload 4, 2) := by decide +kernel
theorem dL_law_867 : decode cL_law 867 = .ok (.iconst 2, 1) := by decide +kernel
theorem dL_law_868 : decode cL_law 868 = .ok (.iadd, 1) := by decide +kernel
theorem dL_law_869 : decode cL_law 869 = .ok (.iaload, 1) := by decide +kernel
theorem dL_law_870 : decode cL_law 870 = .ok (.invokevirtual 95, 3) := by decide +kernel
theorem dL_law_873 : decode cL_law 873 = .ok (.if_icmp .eq 742, 3) := by decide +kernel
theorem dL_law_876 : decode cL_law 876 = .ok (.iconst 0, 1) := by decide +kernel
theorem dL_law_877 : decode cL_law 877 = .ok (.ireturn, 1) := by decide +kernel
theorem dL_law_878 : decode cL_law 878 = .ok (.aload_n 1, 1) := by decide +kernel
theorem dL_law_879 : decode cL_law 879 = .ok (.invokevirtual 96, 3) := by decide +kernel
theorem dL_law_882 : decode cL_law 882 = .ok (.aload_n 2, 1) := by decide +kernel
theorem dL_law_883 : decode cL_law 883 = .ok (.invokevirtual 99, 3) := by decide +kernel
theorem dL_law_886 : decode cL_law 886 = .ok (.if_icmp .eq 729, 3) := by decide +kernel
theorem dL_law_889 : decode cL_law 889 = .ok (.iconst 0, 1) := by decide +kernel
theorem dL_law_890 : decode cL_law 890 = .ok (.ireturn, 1) := by decide +kernel
theorem dL_law_891 : decode cL_law 891 = .ok (.aload_n 1, 1) := by decide +kernel
theorem dL_law_892 : decode cL_law 892 = .ok (.invokevirtual 100, 3) := by decide +kernel
theorem dL_law_895 : decode cL_law 895 = .ok (.aload_n 2, 1) := by decide +kernel
theorem dL_law_896 : decode cL_law 896 = .ok (.invokevirtual 103, 3) := by decide +kernel
theorem dL_law_899 : decode cL_law 899 = .ok (.if_icmp .eq 716, 3) := by decide +kernel
theorem dL_law_902 : decode cL_law 902 = .ok (.iconst 0, 1) := by decide +kernel
theorem dL_law_903 : decode cL_law 903 = .ok (.ireturn, 1) := by decide +kernel
theorem dL_law_904 : decode cL_law 904 = .ok (.aload_n 1, 1) := by decide +kernel
theorem dL_law_905 : decode cL_law 905 = .ok (.invokevirtual 104, 3) := by decide +kernel
theorem dL_law_908 : decode cL_law 908 = .ok (.aload_n 2, 1) := by decide +kernel
theorem dL_law_909 : decode cL_law 909 = .ok (.invokevirtual 107, 3) := by decide +kernel
theorem dL_law_912 : decode cL_law 912 = .ok (.if_icmp .eq 703, 3) := by decide +kernel
theorem dL_law_915 : decode cL_law 915 = .ok (.iconst 0, 1) := by decide +kernel
theorem dL_law_916 : decode cL_law 916 = .ok (.ireturn, 1) := by decide +kernel
theorem dL_law_917 : decode cL_law 917 = .ok (.aload_n 1, 1) := by decide +kernel
theorem dL_law_918 : decode cL_law 918 = .ok (.invokevirtual 108, 3) := by decide +kernel
theorem dL_law_921 : decode cL_law 921 = .ok (.aload_n 2, 1) := by decide +kernel
theorem dL_law_922 : decode cL_law 922 = .ok (.invokevirtual 111, 3) := by decide +kernel
theorem dL_law_925 : decode cL_law 925 = .ok (.if_icmp .eq 690, 3) := by decide +kernel
theorem dL_law_928 : decode cL_law 928 = .ok (.iconst 0, 1) := by decide +kernel
theorem dL_law_929 : decode cL_law 929 = .ok (.ireturn, 1) := by decide +kernel
theorem dL_law_930 : decode cL_law 930 = .ok (.aload_n 1, 1) := by decide +kernel
theorem dL_law_931 : decode cL_law 931 = .ok (.aload_n 0, 1) := by decide +kernel
theorem dL_law_932 : decode cL_law 932 = .ok (.iload 4, 2) := by decide +kernel
theorem dL_law_934 : decode cL_law 934 = .ok (.iconst 1, 1) := by decide +kernel
theorem dL_law_935 : decode cL_law 935 = .ok (.iadd, 1) := by decide +kernel
theorem dL_law_936 : decode cL_law 936 = .ok (.iaload, 1) := by decide +kernel
theorem dL_law_937 : decode cL_law 937 = .ok (.invokevirtual 112, 3) := by decide +kernel
theorem dL_law_940 : decode cL_law 940 = .ok (.aload_n 2, 1) := by decide +kernel
theorem dL_law_941 : decode cL_law 941 = .ok (.aload_n 0, 1) := by decide +kernel
theorem dL_law_942 : decode cL_law 942 = .ok (.iload 4, 2) := by decide +kernel
theorem dL_law_944 : decode cL_law 944 = .ok (.iconst 1, 1) := by decide +kernel
theorem dL_law_945 : decode cL_law 945 = .ok (.iadd, 1) := by decide +kernel
theorem dL_law_946 : decode cL_law 946 = .ok (.iaload, 1) := by decide +kernel
theorem dL_law_947 : decode cL_law 947 = .ok (.invokevirtual 115, 3) := by decide +kernel
theorem dL_law_950 : decode cL_law 950 = .ok (.if_icmp .eq 665, 3) := by decide +kernel
theorem dL_law_953 : decode cL_law 953 = .ok (.iconst 0, 1) := by decide +kernel
theorem dL_law_954 : decode cL_law 954 = .ok (.ireturn, 1) := by decide +kernel
theorem dL_law_955 : decode cL_law 955 = .ok (.aload_n 1, 1) := by decide +kernel
theorem dL_law_956 : decode cL_law 956 = .ok (.invokevirtual 116, 3) := by decide +kernel
theorem dL_law_959 : decode cL_law 959 = .ok (.aload_n 2, 1) := by decide +kernel
theorem dL_law_960 : decode cL_law 960 = .ok (.invokevirtual 119, 3) := by decide +kernel
theorem dL_law_963 : decode cL_law 963 = .ok (.if_icmp .eq 652, 3) := by decide +kernel
theorem dL_law_966 : decode cL_law 966 = .ok (.iconst 0, 1) := by decide +kernel
theorem dL_law_967 : decode cL_law 967 = .ok (.ireturn, 1) := by decide +kernel
theorem dL_law_968 : decode cL_law 968 = .ok (.aload_n 1, 1) := by decide +kernel
theorem dL_law_969 : decode cL_law 969 = .ok (.invokevirtual 120, 3) := by decide +kernel
theorem dL_law_972 : decode cL_law 972 = .ok (.aload_n 2, 1) := by decide +kernel
theorem dL_law_973 : decode cL_law 973 = .ok (.invokevirtual 123, 3) := by decide +kernel
theorem dL_law_976 : decode cL_law 976 = .ok (.if_icmp .eq 639, 3) := by decide +kernel
theorem dL_law_979 : decode cL_law 979 = .ok (.iconst 0, 1) := by decide +kernel
theorem dL_law_980 : decode cL_law 980 = .ok (.ireturn, 1) := by decide +kernel
theorem dL_law_981 : decode cL_law 981 = .ok (.aload_n 1, 1) := by decide +kernel
theorem dL_law_982 : decode cL_law 982 = .ok (.aload_n 0, 1) := by decide +kernel
theorem dL_law_983 : decode cL_law 983 = .ok (.iload 4, 2) := by decide +kernel
theorem dL_law_985 : decode cL_law 985 = .ok (.iconst 1, 1) := by decide +kernel
theorem dL_law_986 : decode cL_law 986 = .ok (.iadd, 1) := by decide +kernel
theorem dL_law_987 : decode cL_law 987 = .ok (.iaload, 1) := by decide +kernel
theorem dL_law_988 : decode cL_law 988 = .ok (.invokevirtual 124, 3) := by decide +kernel
theorem dL_law_991 : decode cL_law 991 = .ok (.aload_n 2, 1) := by decide +kernel
theorem dL_law_992 : decode cL_law 992 = .ok (.aload_n 0, 1) := by decide +kernel
theorem dL_law_993 : decode cL_law 993 = .ok (.iload 4, 2) := by decide +kernel
theorem dL_law_995 : decode cL_law 995 = .ok (.iconst 1, 1) := by decide +kernel
theorem dL_law_996 : decode cL_law 996 = .ok (.iadd, 1) := by decide +kernel
theorem dL_law_997 : decode cL_law 997 = .ok (.iaload, 1) := by decide +kernel
theorem dL_law_998 : decode cL_law 998 = .ok (.invokevirtual 127, 3) := by decide +kernel
theorem dL_law_1001 : decode cL_law 1001 = .ok (.if_icmp .eq 614, 3) := by decide +kernel
theorem dL_law_1004 : decode cL_law 1004 = .ok (.iconst 0, 1) := by decide +kernel
theorem dL_law_1005 : decode cL_law 1005 = .ok (.ireturn, 1) := by decide +kernel
theorem dL_law_1006 : decode cL_law 1006 = .ok (.aload_n 1, 1) := by decide +kernel
theorem dL_law_1007 : decode cL_law 1007 = .ok (.aload_n 0, 1) := by decide +kernel
theorem dL_law_1008 : decode cL_law 1008 = .ok (.iload 4, 2) := by decide +kernel
theorem dL_law_1010 : decode cL_law 1010 = .ok (.iconst 1, 1) := by decide +kernel
theorem dL_law_1011 : decode cL_law 1011 = .ok (.iadd, 1) := by decide +kernel
theorem dL_law_1012 : decode cL_law 1012 = .ok (.iaload, 1) := by decide +kernel
theorem dL_law_1013 : decode cL_law 1013 = .ok (.invokevirtual 128, 3) := by decide +kernel
theorem dL_law_1016 : decode cL_law 1016 = .ok (.aload_n 2, 1) := by decide +kernel
theorem dL_law_1017 : decode cL_law 1017 = .ok (.aload_n 0, 1) := by decide +kernel
theorem dL_law_1018 : decode cL_law 1018 = .ok (.iload 4, 2) := by decide +kernel
theorem dL_law_1020 : decode cL_law 1020 = .ok (.iconst 1, 1) := by decide +kernel
theorem dL_law_1021 : decode cL_law 1021 = .ok (.iadd, 1) := by decide +kernel
theorem dL_law_1022 : decode cL_law 1022 = .ok (.iaload, 1) := by decide +kernel
theorem dL_law_1023 : decode cL_law 1023 = .ok (.invokevirtual 131, 3) := by decide +kernel
theorem dL_law_1026 : decode cL_law 1026 = .ok (.if_icmp .eq 589, 3) := by decide +kernel
theorem dL_law_1029 : decode cL_law 1029 = .ok (.iconst 0, 1) := by decide +kernel
theorem dL_law_1030 : decode cL_law 1030 = .ok (.ireturn, 1) := by decide +kernel
theorem dL_law_1031 : decode cL_law 1031 = .ok (.aload_n 1, 1) := by decide +kernel
theorem dL_law_1032 : decode cL_law 1032 = .ok (.aload_n 0, 1) := by decide +kernel
theorem dL_law_1033 : decode cL_law 1033 = .ok (.iload 4, 2) := by decide +kernel
theorem dL_law_1035 : decode cL_law 1035 = .ok (.iconst 1, 1) := by decide +kernel
theorem dL_law_1036 : decode cL_law 1036 = .ok (.iadd, 1) := by decide +kernel
theorem dL_law_1037 : decode cL_law 1037 = .ok (.iaload, 1) := by decide +kernel
theorem dL_law_1038 : decode cL_law 1038 = .ok (.ifCond .eq 7, 3) := by decide +kernel
theorem dL_law_1041 : decode cL_law 1041 = .ok (.iconst 1, 1) := by decide +kernel
theorem dL_law_1042 : decode cL_law 1042 = .ok (.goto 4, 3) := by decide +kernel
theorem dL_law_1045 : decode cL_law 1045 = .ok (.iconst 0, 1) := by decide +kernel
theorem dL_law_1046 : decode cL_law 1046 = .ok (.invokevirtual 132, 3) := by decide +kernel
theorem dL_law_1049 : decode cL_law 1049 = .ok (.aload_n 2, 1) := by decide +kernel
theorem dL_law_1050 : decode cL_law 1050 = .ok (.aload_n 0, 1) := by decide +kernel
theorem dL_law_1051 : decode cL_law 1051 = .ok (.iload 4, 2) := by decide +kernel
theorem dL_law_1053 : decode cL_law 1053 = .ok (.iconst 1, 1) := by decide +kernel
theorem dL_law_1054 : decode cL_law 1054 = .ok (.iadd, 1) := by decide +kernel
theorem dL_law_1055 : decode cL_law 1055 = .ok (.iaload, 1) := by decide +kernel
theorem dL_law_1056 : decode cL_law 1056 = .ok (.ifCond .eq 7, 3) := by decide +kernel
theorem dL_law_1059 : decode cL_law 1059 = .ok (.iconst 1, 1) := by decide +kernel
theorem dL_law_1060 : decode cL_law 1060 = .ok (.goto 4, 3) := by decide +kernel
theorem dL_law_1063 : decode cL_law 1063 = .ok (.iconst 0, 1) := by decide +kernel
theorem dL_law_1064 : decode cL_law 1064 = .ok (.invokevirtual 136, 3) := by decide +kernel
theorem dL_law_1067 : decode cL_law 1067 = .ok (.lcmp, 1) := by decide +kernel
theorem dL_law_1068 : decode cL_law 1068 = .ok (.ifCond .eq 547, 3) := by decide +kernel
theorem dL_law_1071 : decode cL_law 1071 = .ok (.iconst 0, 1) := by decide +kernel
theorem dL_law_1072 : decode cL_law 1072 = .ok (.ireturn, 1) := by decide +kernel
theorem dL_law_1073 : decode cL_law 1073 = .ok (.aload_n 1, 1) := by decide +kernel
theorem dL_law_1074 : decode cL_law 1074 = .ok (.aload_n 0, 1) := by decide +kernel
theorem dL_law_1075 : decode cL_law 1075 = .ok (.iload 4, 2) := by decide +kernel
theorem dL_law_1077 : decode cL_law 1077 = .ok (.iconst 1, 1) := by decide +kernel
theorem dL_law_1078 : decode cL_law 1078 = .ok (.iadd, 1) := by decide +kernel
theorem dL_law_1079 : decode cL_law 1079 = .ok (.iaload, 1) := by decide +kernel
theorem dL_law_1080 : decode cL_law 1080 = .ok (.aload_n 0, 1) := by decide +kernel
theorem dL_law_1081 : decode cL_law 1081 = .ok (.iload 4, 2) := by decide +kernel
theorem dL_law_1083 : decode cL_law 1083 = .ok (.iconst 2, 1) := by decide +kernel
theorem dL_law_1084 : decode cL_law 1084 = .ok (.iadd, 1) := by decide +kernel
theorem dL_law_1085 : decode cL_law 1085 = .ok (.iaload, 1) := by decide +kernel
theorem dL_law_1086 : decode cL_law 1086 = .ok (.ifCond .eq 7, 3) := by decide +kernel
theorem dL_law_1089 : decode cL_law 1089 = .ok (.iconst 1, 1) := by decide +kernel
theorem dL_law_1090 : decode cL_law 1090 = .ok (.goto 4, 3) := by decide +kernel
theorem dL_law_1093 : decode cL_law 1093 = .ok (.iconst 0, 1) := by decide +kernel
theorem dL_law_1094 : decode cL_law 1094 = .ok (.invokevirtual 137, 3) := by decide +kernel
theorem dL_law_1097 : decode cL_law 1097 = .ok (.aload_n 2, 1) := by decide +kernel
theorem dL_law_1098 : decode cL_law 1098 = .ok (.aload_n 0, 1) := by decide +kernel
theorem dL_law_1099 : decode cL_law 1099 = .ok (.iload 4, 2) := by decide +kernel
theorem dL_law_1101 : decode cL_law 1101 = .ok (.iconst 1, 1) := by decide +kernel
theorem dL_law_1102 : decode cL_law 1102 = .ok (.iadd, 1) := by decide +kernel
theorem dL_law_1103 : decode cL_law 1103 = .ok (.iaload, 1) := by decide +kernel
theorem dL_law_1104 : decode cL_law 1104 = .ok (.aload_n 0, 1) := by decide +kernel
theorem dL_law_1105 : decode cL_law 1105 = .ok (.iload 4, 2) := by decide +kernel
theorem dL_law_1107 : decode cL_law 1107 = .ok (.iconst 2, 1) := by decide +kernel
theorem dL_law_1108 : decode cL_law 1108 = .ok (.iadd, 1) := by decide +kernel
theorem dL_law_1109 : decode cL_law 1109 = .ok (.iaload, 1) := by decide +kernel
theorem dL_law_1110 : decode cL_law 1110 = .ok (.ifCond .eq 7, 3) := by decide +kernel
theorem dL_law_1113 : decode cL_law 1113 = .ok (.iconst 1, 1) := by decide +kernel
theorem dL_law_1114 : decode cL_law 1114 = .ok (.goto 4, 3) := by decide +kernel
theorem dL_law_1117 : decode cL_law 1117 = .ok (.iconst 0, 1) := by decide +kernel
theorem dL_law_1118 : decode cL_law 1118 = .ok (.invokevirtual 141, 3) := by decide +kernel
theorem dL_law_1121 : decode cL_law 1121 = .ok (.lcmp, 1) := by decide +kernel
theorem dL_law_1122 : decode cL_law 1122 = .ok (.ifCond .eq 493, 3) := by decide +kernel
theorem dL_law_1125 : decode cL_law 1125 = .ok (.iconst 0, 1) := by decide +kernel
theorem dL_law_1126 : decode cL_law 1126 = .ok (.ireturn, 1) := by decide +kernel
theorem dL_law_1127 : decode cL_law 1127 = .ok (.aload_n 1, 1) := by decide +kernel
theorem dL_law_1128 : decode cL_law 1128 = .ok (.aload_n 0, 1) := by decide +kernel
theorem dL_law_1129 : decode cL_law 1129 = .ok (.iload 4, 2) := by decide +kernel
theorem dL_law_1131 : decode cL_law 1131 = .ok (.iconst 1, 1) := by decide +kernel
theorem dL_law_1132 : decode cL_law 1132 = .ok (.iadd, 1) := by decide +kernel
theorem dL_law_1133 : decode cL_law 1133 = .ok (.iaload, 1) := by decide +kernel
theorem dL_law_1134 : decode cL_law 1134 = .ok (.invokevirtual 142, 3) := by decide +kernel
theorem dL_law_1137 : decode cL_law 1137 = .ok (.aload_n 2, 1) := by decide +kernel
theorem dL_law_1138 : decode cL_law 1138 = .ok (.aload_n 0, 1) := by decide +kernel
theorem dL_law_1139 : decode cL_law 1139 = .ok (.iload 4, 2) := by decide +kernel
theorem dL_law_1141 : decode cL_law 1141 = .ok (.iconst 1, 1) := by decide +kernel
theorem dL_law_1142 : decode cL_law 1142 = .ok (.iadd, 1) := by decide +kernel
theorem dL_law_1143 : decode cL_law 1143 = .ok (.iaload, 1) := by decide +kernel
theorem dL_law_1144 : decode cL_law 1144 = .ok (.invokevirtual 145, 3) := by decide +kernel
theorem dL_law_1147 : decode cL_law 1147 = .ok (.if_icmp .eq 468, 3) := by decide +kernel
theorem dL_law_1150 : decode cL_law 1150 = .ok (.iconst 0, 1) := by decide +kernel
theorem dL_law_1151 : decode cL_law 1151 = .ok (.ireturn, 1) := by decide +kernel
theorem dL_law_1152 : decode cL_law 1152 = .ok (.aload_n 1, 1) := by decide +kernel
theorem dL_law_1153 : decode cL_law 1153 = .ok (.aload_n 0, 1) := by decide +kernel
theorem dL_law_1154 : decode cL_law 1154 = .ok (.iload 4, 2) := by decide +kernel
theorem dL_law_1156 : decode cL_law 1156 = .ok (.iconst 1, 1) := by decide +kernel
theorem dL_law_1157 : decode cL_law 1157 = .ok (.iadd, 1) := by decide +kernel
theorem dL_law_1158 : decode cL_law 1158 = .ok (.iaload, 1) := by decide +kernel
theorem dL_law_1159 : decode cL_law 1159 = .ok (.aload_n 0, 1) := by decide +kernel
theorem dL_law_1160 : decode cL_law 1160 = .ok (.iload 4, 2) := by decide +kernel
theorem dL_law_1162 : decode cL_law 1162 = .ok (.iconst 2, 1) := by decide +kernel
theorem dL_law_1163 : decode cL_law 1163 = .ok (.iadd, 1) := by decide +kernel
theorem dL_law_1164 : decode cL_law 1164 = .ok (.iaload, 1) := by decide +kernel
theorem dL_law_1165 : decode cL_law 1165 = .ok (.invokevirtual 146, 3) := by decide +kernel
theorem dL_law_1168 : decode cL_law 1168 = .ok (.aload_n 2, 1) := by decide +kernel
theorem dL_law_1169 : decode cL_law 1169 = .ok (.aload_n 0, 1) := by decide +kernel
theorem dL_law_1170 : decode cL_law 1170 = .ok (.iload 4, 2) := by decide +kernel
theorem dL_law_1172 : decode cL_law 1172 = .ok (.iconst 1, 1) := by decide +kernel
theorem dL_law_1173 : decode cL_law 1173 = .ok (.iadd, 1) := by decide +kernel
theorem dL_law_1174 : decode cL_law 1174 = .ok (.iaload, 1) := by decide +kernel
theorem dL_law_1175 : decode cL_law 1175 = .ok (.aload_n 0, 1) := by decide +kernel
theorem dL_law_1176 : decode cL_law 1176 = .ok (.iload 4, 2) := by decide +kernel
theorem dL_law_1178 : decode cL_law 1178 = .ok (.iconst 2, 1) := by decide +kernel
theorem dL_law_1179 : decode cL_law 1179 = .ok (.iadd, 1) := by decide +kernel
theorem dL_law_1180 : decode cL_law 1180 = .ok (.iaload, 1) := by decide +kernel
theorem dL_law_1181 : decode cL_law 1181 = .ok (.invokevirtual 149, 3) := by decide +kernel
theorem dL_law_1184 : decode cL_law 1184 = .ok (.if_icmp .eq 431, 3) := by decide +kernel
theorem dL_law_1187 : decode cL_law 1187 = .ok (.iconst 0, 1) := by decide +kernel
theorem dL_law_1188 : decode cL_law 1188 = .ok (.ireturn, 1) := by decide +kernel
theorem dL_law_1189 : decode cL_law 1189 = .ok (.aload_n 1, 1) := by decide +kernel
theorem dL_law_1190 : decode cL_law 1190 = .ok (.aload_n 0, 1) := by decide +kernel
theorem dL_law_1191 : decode cL_law 1191 = .ok (.iload 4, 2) := by decide +kernel
theorem dL_law_1193 : decode cL_law 1193 = .ok (.iconst 1, 1) := by decide +kernel
theorem dL_law_1194 : decode cL_law 1194 = .ok (.iadd, 1) := by decide +kernel
theorem dL_law_1195 : decode cL_law 1195 = .ok (.iaload, 1) := by decide +kernel
theorem dL_law_1196 : decode cL_law 1196 = .ok (.ifCond .eq 7, 3) := by decide +kernel
theorem dL_law_1199 : decode cL_law 1199 = .ok (.iconst 1, 1) := by decide +kernel
theorem dL_law_1200 : decode cL_law 1200 = .ok (.goto 4, 3) := by decide +kernel
theorem dL_law_1203 : decode cL_law 1203 = .ok (.iconst 0, 1) := by decide +kernel
theorem dL_law_1204 : decode cL_law 1204 = .ok (.invokevirtual 150, 3) := by decide +kernel
theorem dL_law_1207 : decode cL_law 1207 = .ok (.aload_n 2, 1) := by decide +kernel
theorem dL_law_1208 : decode cL_law 1208 = .ok (.aload_n 0, 1) := by decide +kernel
theorem dL_law_1209 : decode cL_law 1209 = .ok (.iload 4, 2) := by decide +kernel
theorem dL_law_1211 : decode cL_law 1211 = .ok (.iconst 1, 1) := by decide +kernel
theorem dL_law_1212 : decode cL_law 1212 = .ok (.iadd, 1) := by decide +kernel
theorem dL_law_1213 : decode cL_law 1213 = .ok (.iaload, 1) := by decide +kernel
theorem dL_law_1214 : decode cL_law 1214 = .ok (.ifCond .eq 7, 3) := by decide +kernel
theorem dL_law_1217 : decode cL_law 1217 = .ok (.iconst 1, 1) := by decide +kernel
theorem dL_law_1218 : decode cL_law 1218 = .ok (.goto 4, 3) := by decide +kernel
theorem dL_law_1221 : decode cL_law 1221 = .ok (.iconst 0, 1) := by decide +kernel
theorem dL_law_1222 : decode cL_law 1222 = .ok (.invokevirtual 154, 3) := by decide +kernel
theorem dL_law_1225 : decode cL_law 1225 = .ok (.if_icmp .eq 390, 3) := by decide +kernel
theorem dL_law_1228 : decode cL_law 1228 = .ok (.iconst 0, 1) := by decide +kernel
theorem dL_law_1229 : decode cL_law 1229 = .ok (.ireturn, 1) := by decide +kernel
theorem dL_law_1230 : decode cL_law 1230 = .ok (.aload_n 1, 1) := by decide +kernel
theorem dL_law_1231 : decode cL_law 1231 = .ok (.aload_n 0, 1) := by decide +kernel
theorem dL_law_1232 : decode cL_law 1232 = .ok (.iload 4, 2) := by decide +kernel
theorem dL_law_1234 : decode cL_law 1234 = .ok (.iconst 1, 1) := by decide +kernel
theorem dL_law_1235 : decode cL_law 1235 = .ok (.iadd, 1) := by decide +kernel
theorem dL_law_1236 : decode cL_law 1236 = .ok (.iaload, 1) := by decide +kernel
theorem dL_law_1237 : decode cL_law 1237 = .ok (.invokevirtual 155, 3) := by decide +kernel
theorem dL_law_1240 : decode cL_law 1240 = .ok (.aload_n 2, 1) := by decide +kernel
theorem dL_law_1241 : decode cL_law 1241 = .ok (.aload_n 0, 1) := by decide +kernel
theorem dL_law_1242 : decode cL_law 1242 = .ok (.iload 4, 2) := by decide +kernel
theorem dL_law_1244 : decode cL_law 1244 = .ok (.iconst 1, 1) := by decide +kernel
theorem dL_law_1245 : decode cL_law 1245 = .ok (.iadd, 1) := by decide +kernel
theorem dL_law_1246 : decode cL_law 1246 = .ok (.iaload, 1) := by decide +kernel
theorem dL_law_1247 : decode cL_law 1247 = .ok (.invokevirtual 158, 3) := by decide +kernel
theorem dL_law_1250 : decode cL_law 1250 = .ok (.if_icmp .eq 365, 3) := by decide +kernel
theorem dL_law_1253 : decode cL_law 1253 = .ok (.iconst 0, 1) := by decide +kernel
theorem dL_law_1254 : decode cL_law 1254 = .ok (.ireturn, 1) := by decide +kernel
theorem dL_law_1255 : decode cL_law 1255 = .ok (.aload_n 1, 1) := by decide +kernel
theorem dL_law_1256 : decode cL_law 1256 = .ok (.aload_n 0, 1) := by decide +kernel
theorem dL_law_1257 : decode cL_law 1257 = .ok (.iload 4, 2) := by decide +kernel
theorem dL_law_1259 : decode cL_law 1259 = .ok (.iconst 1, 1) := by decide +kernel
theorem dL_law_1260 : decode cL_law 1260 = .ok (.iadd, 1) := by decide +kernel
theorem dL_law_1261 : decode cL_law 1261 = .ok (.iaload, 1) := by decide +kernel
theorem dL_law_1262 : decode cL_law 1262 = .ok (.aload_n 0, 1) := by decide +kernel
theorem dL_law_1263 : decode cL_law 1263 = .ok (.iload 4, 2) := by decide +kernel
theorem dL_law_1265 : decode cL_law 1265 = .ok (.iconst 2, 1) := by decide +kernel
theorem dL_law_1266 : decode cL_law 1266 = .ok (.iadd, 1) := by decide +kernel
theorem dL_law_1267 : decode cL_law 1267 = .ok (.iaload, 1) := by decide +kernel
theorem dL_law_1268 : decode cL_law 1268 = .ok (.ifCond .eq 7, 3) := by decide +kernel
theorem dL_law_1271 : decode cL_law 1271 = .ok (.iconst 1, 1) := by decide +kernel
theorem dL_law_1272 : decode cL_law 1272 = .ok (.goto 4, 3) := by decide +kernel
theorem dL_law_1275 : decode cL_law 1275 = .ok (.iconst 0, 1) := by decide +kernel
theorem dL_law_1276 : decode cL_law 1276 = .ok (.invokevirtual 159, 3) := by decide +kernel
theorem dL_law_1279 : decode cL_law 1279 = .ok (.aload_n 2, 1) := by decide +kernel
theorem dL_law_1280 : decode cL_law 1280 = .ok (.aload_n 0, 1) := by decide +kernel
theorem dL_law_1281 : decode cL_law 1281 = .ok (.iload 4, 2) := by decide +kernel
theorem dL_law_1283 : decode cL_law 1283 = .ok (.iconst 1, 1) := by decide +kernel
theorem dL_law_1284 : decode cL_law 1284 = .ok (.iadd, 1) := by decide +kernel
theorem dL_law_1285 : decode cL_law 1285 = .ok (.iaload, 1) := by decide +kernel
theorem dL_law_1286 : decode cL_law 1286 = .ok (.aload_n 0, 1) := by decide +kernel
theorem dL_law_1287 : decode cL_law 1287 = .ok (.iload 4, 2) := by decide +kernel
theorem dL_law_1289 : decode cL_law 1289 = .ok (.iconst 2, 1) := by decide +kernel
theorem dL_law_1290 : decode cL_law 1290 = .ok (.iadd, 1) := by decide +kernel
theorem dL_law_1291 : decode cL_law 1291 = .ok (.iaload, 1) := by decide +kernel
theorem dL_law_1292 : decode cL_law 1292 = .ok (.ifCond .eq 7, 3) := by decide +kernel
theorem dL_law_1295 : decode cL_law 1295 = .ok (.iconst 1, 1) := by decide +kernel
theorem dL_law_1296 : decode cL_law 1296 = .ok (.goto 4, 3) := by decide +kernel
theorem dL_law_1299 : decode cL_law 1299 = .ok (.iconst 0, 1) := by decide +kernel
theorem dL_law_1300 : decode cL_law 1300 = .ok (.invokevirtual 162, 3) := by decide +kernel
theorem dL_law_1303 : decode cL_law 1303 = .ok (.lcmp, 1) := by decide +kernel
theorem dL_law_1304 : decode cL_law 1304 = .ok (.ifCond .eq 311, 3) := by decide +kernel
theorem dL_law_1307 : decode cL_law 1307 = .ok (.iconst 0, 1) := by decide +kernel
theorem dL_law_1308 : decode cL_law 1308 = .ok (.ireturn, 1) := by decide +kernel
theorem dL_law_1309 : decode cL_law 1309 = .ok (.aload_n 1, 1) := by decide +kernel
theorem dL_law_1310 : decode cL_law 1310 = .ok (.aload_n 0, 1) := by decide +kernel
theorem dL_law_1311 : decode cL_law 1311 = .ok (.iload 4, 2) := by decide +kernel
theorem dL_law_1313 : decode cL_law 1313 = .ok (.iconst 1, 1) := by decide +kernel
theorem dL_law_1314 : decode cL_law 1314 = .ok (.iadd, 1) := by decide +kernel
theorem dL_law_1315 : decode cL_law 1315 = .ok (.iaload, 1) := by decide +kernel
theorem dL_law_1316 : decode cL_law 1316 = .ok (.invokevirtual 163, 3) := by decide +kernel
theorem dL_law_1319 : decode cL_law 1319 = .ok (.aload_n 2, 1) := by decide +kernel
theorem dL_law_1320 : decode cL_law 1320 = .ok (.aload_n 0, 1) := by decide +kernel
theorem dL_law_1321 : decode cL_law 1321 = .ok (.iload 4, 2) := by decide +kernel
theorem dL_law_1323 : decode cL_law 1323 = .ok (.iconst 1, 1) := by decide +kernel
theorem dL_law_1324 : decode cL_law 1324 = .ok (.iadd, 1) := by decide +kernel
theorem dL_law_1325 : decode cL_law 1325 = .ok (.iaload, 1) := by decide +kernel
theorem dL_law_1326 : decode cL_law 1326 = .ok (.invokevirtual 166, 3) := by decide +kernel
theorem dL_law_1329 : decode cL_law 1329 = .ok (.if_icmp .eq 286, 3) := by decide +kernel
theorem dL_law_1332 : decode cL_law 1332 = .ok (.iconst 0, 1) := by decide +kernel
theorem dL_law_1333 : decode cL_law 1333 = .ok (.ireturn, 1) := by decide +kernel
theorem dL_law_1334 : decode cL_law 1334 = .ok (.aload_n 1, 1) := by decide +kernel
theorem dL_law_1335 : decode cL_law 1335 = .ok (.aload_n 0, 1) := by decide +kernel
theorem dL_law_1336 : decode cL_law 1336 = .ok (.iload 4, 2) := by decide +kernel
theorem dL_law_1338 : decode cL_law 1338 = .ok (.iconst 1, 1) := by decide +kernel
theorem dL_law_1339 : decode cL_law 1339 = .ok (.iadd, 1) := by decide +kernel
theorem dL_law_1340 : decode cL_law 1340 = .ok (.iaload, 1) := by decide +kernel
theorem dL_law_1341 : decode cL_law 1341 = .ok (.aload_n 0, 1) := by decide +kernel
theorem dL_law_1342 : decode cL_law 1342 = .ok (.iload 4, 2) := by decide +kernel
theorem dL_law_1344 : decode cL_law 1344 = .ok (.iconst 2, 1) := by decide +kernel
theorem dL_law_1345 : decode cL_law 1345 = .ok (.iadd, 1) := by decide +kernel
theorem dL_law_1346 : decode cL_law 1346 = .ok (.iaload, 1) := by decide +kernel
theorem dL_law_1347 : decode cL_law 1347 = .ok (.aload_n 0, 1) := by decide +kernel
theorem dL_law_1348 : decode cL_law 1348 = .ok (.iload 4, 2) := by decide +kernel
theorem dL_law_1350 : decode cL_law 1350 = .ok (.iconst 3, 1) := by decide +kernel
theorem dL_law_1351 : decode cL_law 1351 = .ok (.iadd, 1) := by decide +kernel
theorem dL_law_1352 : decode cL_law 1352 = .ok (.iaload, 1) := by decide +kernel
theorem dL_law_1353 : decode cL_law 1353 = .ok (.invokevirtual 167, 3) := by decide +kernel
theorem dL_law_1356 : decode cL_law 1356 = .ok (.aload_n 2, 1) := by decide +kernel
theorem dL_law_1357 : decode cL_law 1357 = .ok (.aload_n 0, 1) := by decide +kernel
theorem dL_law_1358 : decode cL_law 1358 = .ok (.iload 4, 2) := by decide +kernel
theorem dL_law_1360 : decode cL_law 1360 = .ok (.iconst 1, 1) := by decide +kernel
theorem dL_law_1361 : decode cL_law 1361 = .ok (.iadd, 1) := by decide +kernel
theorem dL_law_1362 : decode cL_law 1362 = .ok (.iaload, 1) := by decide +kernel
theorem dL_law_1363 : decode cL_law 1363 = .ok (.aload_n 0, 1) := by decide +kernel
theorem dL_law_1364 : decode cL_law 1364 = .ok (.iload 4, 2) := by decide +kernel
theorem dL_law_1366 : decode cL_law 1366 = .ok (.iconst 2, 1) := by decide +kernel
theorem dL_law_1367 : decode cL_law 1367 = .ok (.iadd, 1) := by decide +kernel
theorem dL_law_1368 : decode cL_law 1368 = .ok (.iaload, 1) := by decide +kernel
theorem dL_law_1369 : decode cL_law 1369 = .ok (.aload_n 0, 1) := by decide +kernel
theorem dL_law_1370 : decode cL_law 1370 = .ok (.iload 4, 2) := by decide +kernel
theorem dL_law_1372 : decode cL_law 1372 = .ok (.iconst 3, 1) := by decide +kernel
theorem dL_law_1373 : decode cL_law 1373 = .ok (.iadd, 1) := by decide +kernel
theorem dL_law_1374 : decode cL_law 1374 = .ok (.iaload, 1) := by decide +kernel
theorem dL_law_1375 : decode cL_law 1375 = .ok (.invokevirtual 170, 3) := by decide +kernel
theorem dL_law_1378 : decode cL_law 1378 = .ok (.if_icmp .eq 237, 3) := by decide +kernel
theorem dL_law_1381 : decode cL_law 1381 = .ok (.iconst 0, 1) := by decide +kernel
theorem dL_law_1382 : decode cL_law 1382 = .ok (.ireturn, 1) := by decide +kernel
theorem dL_law_1383 : decode cL_law 1383 = .ok (.aload_n 1, 1) := by decide +kernel
theorem dL_law_1384 : decode cL_law 1384 = .ok (.aload_n 0, 1) := by decide +kernel
theorem dL_law_1385 : decode cL_law 1385 = .ok (.iload 4, 2) := by decide +kernel
theorem dL_law_1387 : decode cL_law 1387 = .ok (.iconst 1, 1) := by decide +kernel
theorem dL_law_1388 : decode cL_law 1388 = .ok (.iadd, 1) := by decide +kernel
theorem dL_law_1389 : decode cL_law 1389 = .ok (.iaload, 1) := by decide +kernel
theorem dL_law_1390 : decode cL_law 1390 = .ok (.aload_n 0, 1) := by decide +kernel
theorem dL_law_1391 : decode cL_law 1391 = .ok (.iload 4, 2) := by decide +kernel
theorem dL_law_1393 : decode cL_law 1393 = .ok (.iconst 2, 1) := by decide +kernel
theorem dL_law_1394 : decode cL_law 1394 = .ok (.iadd, 1) := by decide +kernel
theorem dL_law_1395 : decode cL_law 1395 = .ok (.iaload, 1) := by decide +kernel
theorem dL_law_1396 : decode cL_law 1396 = .ok (.aload_n 0, 1) := by decide +kernel
theorem dL_law_1397 : decode cL_law 1397 = .ok (.iload 4, 2) := by decide +kernel
theorem dL_law_1399 : decode cL_law 1399 = .ok (.iconst 3, 1) := by decide +kernel
theorem dL_law_1400 : decode cL_law 1400 = .ok (.iadd, 1) := by decide +kernel
theorem dL_law_1401 : decode cL_law 1401 = .ok (.iaload, 1) := by decide +kernel
theorem dL_law_1402 : decode cL_law 1402 = .ok (.invokevirtual 171, 3) := by decide +kernel
theorem dL_law_1405 : decode cL_law 1405 = .ok (.aload_n 2, 1) := by decide +kernel
theorem dL_law_1406 : decode cL_law 1406 = .ok (.aload_n 0, 1) := by decide +kernel
theorem dL_law_1407 : decode cL_law 1407 = .ok (.iload 4, 2) := by decide +kernel
theorem dL_law_1409 : decode cL_law 1409 = .ok (.iconst 1, 1) := by decide +kernel
theorem dL_law_1410 : decode cL_law 1410 = .ok (.iadd, 1) := by decide +kernel
theorem dL_law_1411 : decode cL_law 1411 = .ok (.iaload, 1) := by decide +kernel
theorem dL_law_1412 : decode cL_law 1412 = .ok (.aload_n 0, 1) := by decide +kernel
theorem dL_law_1413 : decode cL_law 1413 = .ok (.iload 4, 2) := by decide +kernel
theorem dL_law_1415 : decode cL_law 1415 = .ok (.iconst 2, 1) := by decide +kernel
theorem dL_law_1416 : decode cL_law 1416 = .ok (.iadd, 1) := by decide +kernel
theorem dL_law_1417 : decode cL_law 1417 = .ok (.iaload, 1) := by decide +kernel
theorem dL_law_1418 : decode cL_law 1418 = .ok (.aload_n 0, 1) := by decide +kernel
theorem dL_law_1419 : decode cL_law 1419 = .ok (.iload 4, 2) := by decide +kernel
theorem dL_law_1421 : decode cL_law 1421 = .ok (.iconst 3, 1) := by decide +kernel
theorem dL_law_1422 : decode cL_law 1422 = .ok (.iadd, 1) := by decide +kernel
theorem dL_law_1423 : decode cL_law 1423 = .ok (.iaload, 1) := by decide +kernel
theorem dL_law_1424 : decode cL_law 1424 = .ok (.invokevirtual 174, 3) := by decide +kernel
theorem dL_law_1427 : decode cL_law 1427 = .ok (.if_icmp .eq 188, 3) := by decide +kernel
theorem dL_law_1430 : decode cL_law 1430 = .ok (.iconst 0, 1) := by decide +kernel
theorem dL_law_1431 : decode cL_law 1431 = .ok (.ireturn, 1) := by decide +kernel
theorem dL_law_1432 : decode cL_law 1432 = .ok (.aload_n 1, 1) := by decide +kernel
theorem dL_law_1433 : decode cL_law 1433 = .ok (.invokevirtual 175, 3) := by decide +kernel
theorem dL_law_1436 : decode cL_law 1436 = .ok (.aload_n 2, 1) := by decide +kernel
theorem dL_law_1437 : decode cL_law 1437 = .ok (.invokevirtual 178, 3) := by decide +kernel
theorem dL_law_1440 : decode cL_law 1440 = .ok (.if_icmp .eq 175, 3) := by decide +kernel
theorem dL_law_1443 : decode cL_law 1443 = .ok (.iconst 0, 1) := by decide +kernel
theorem dL_law_1444 : decode cL_law 1444 = .ok (.ireturn, 1) := by decide +kernel
theorem dL_law_1445 : decode cL_law 1445 = .ok (.aload_n 1, 1) := by decide +kernel
theorem dL_law_1446 : decode cL_law 1446 = .ok (.aload_n 0, 1) := by decide +kernel
theorem dL_law_1447 : decode cL_law 1447 = .ok (.iload 4, 2) := by decide +kernel
theorem dL_law_1449 : decode cL_law 1449 = .ok (.iconst 1, 1) := by decide +kernel
theorem dL_law_1450 : decode cL_law 1450 = .ok (.iadd, 1) := by decide +kernel
theorem dL_law_1451 : decode cL_law 1451 = .ok (.iaload, 1) := by decide +kernel
theorem dL_law_1452 : decode cL_law 1452 = .ok (.invokevirtual 179, 3) := by decide +kernel
theorem dL_law_1455 : decode cL_law 1455 = .ok (.aload_n 2, 1) := by decide +kernel
theorem dL_law_1456 : decode cL_law 1456 = .ok (.aload_n 0, 1) := by decide +kernel
theorem dL_law_1457 : decode cL_law 1457 = .ok (.iload 4, 2) := by decide +kernel
theorem dL_law_1459 : decode cL_law 1459 = .ok (.iconst 1, 1) := by decide +kernel
theorem dL_law_1460 : decode cL_law 1460 = .ok (.iadd, 1) := by decide +kernel
theorem dL_law_1461 : decode cL_law 1461 = .ok (.iaload, 1) := by decide +kernel
theorem dL_law_1462 : decode cL_law 1462 = .ok (.invokevirtual 183, 3) := by decide +kernel
theorem dL_law_1465 : decode cL_law 1465 = .ok (.if_icmp .eq 150, 3) := by decide +kernel
theorem dL_law_1468 : decode cL_law 1468 = .ok (.iconst 0, 1) := by decide +kernel
theorem dL_law_1469 : decode cL_law 1469 = .ok (.ireturn, 1) := by decide +kernel
theorem dL_law_1470 : decode cL_law 1470 = .ok (.aload_n 1, 1) := by decide +kernel
theorem dL_law_1471 : decode cL_law 1471 = .ok (.invokevirtual 184, 3) := by decide +kernel
theorem dL_law_1474 : decode cL_law 1474 = .ok (.aload_n 2, 1) := by decide +kernel
theorem dL_law_1475 : decode cL_law 1475 = .ok (.invokevirtual 188, 3) := by decide +kernel
theorem dL_law_1478 : decode cL_law 1478 = .ok (.if_icmp .eq 137, 3) := by decide +kernel
theorem dL_law_1481 : decode cL_law 1481 = .ok (.iconst 0, 1) := by decide +kernel
theorem dL_law_1482 : decode cL_law 1482 = .ok (.ireturn, 1) := by decide +kernel
theorem dL_law_1483 : decode cL_law 1483 = .ok (.aload_n 1, 1) := by decide +kernel
theorem dL_law_1484 : decode cL_law 1484 = .ok (.invokevirtual 189, 3) := by decide +kernel
theorem dL_law_1487 : decode cL_law 1487 = .ok (.aload_n 2, 1) := by decide +kernel
theorem dL_law_1488 : decode cL_law 1488 = .ok (.invokevirtual 192, 3) := by decide +kernel
theorem dL_law_1491 : decode cL_law 1491 = .ok (.if_icmp .eq 124, 3) := by decide +kernel
theorem dL_law_1494 : decode cL_law 1494 = .ok (.iconst 0, 1) := by decide +kernel
theorem dL_law_1495 : decode cL_law 1495 = .ok (.ireturn, 1) := by decide +kernel
theorem dL_law_1496 : decode cL_law 1496 = .ok (.aload_n 1, 1) := by decide +kernel
theorem dL_law_1497 : decode cL_law 1497 = .ok (.aload_n 0, 1) := by decide +kernel
theorem dL_law_1498 : decode cL_law 1498 = .ok (.iload 4, 2) := by decide +kernel
theorem dL_law_1500 : decode cL_law 1500 = .ok (.iconst 1, 1) := by decide +kernel
theorem dL_law_1501 : decode cL_law 1501 = .ok (.iadd, 1) := by decide +kernel
theorem dL_law_1502 : decode cL_law 1502 = .ok (.iaload, 1) := by decide +kernel
theorem dL_law_1503 : decode cL_law 1503 = .ok (.invokevirtual 193, 3) := by decide +kernel
theorem dL_law_1506 : decode cL_law 1506 = .ok (.aload_n 2, 1) := by decide +kernel
theorem dL_law_1507 : decode cL_law 1507 = .ok (.aload_n 0, 1) := by decide +kernel
theorem dL_law_1508 : decode cL_law 1508 = .ok (.iload 4, 2) := by decide +kernel
theorem dL_law_1510 : decode cL_law 1510 = .ok (.iconst 1, 1) := by decide +kernel
theorem dL_law_1511 : decode cL_law 1511 = .ok (.iadd, 1) := by decide +kernel
theorem dL_law_1512 : decode cL_law 1512 = .ok (.iaload, 1) := by decide +kernel
theorem dL_law_1513 : decode cL_law 1513 = .ok (.invokevirtual 196, 3) := by decide +kernel
theorem dL_law_1516 : decode cL_law 1516 = .ok (.if_icmp .eq 99, 3) := by decide +kernel
theorem dL_law_1519 : decode cL_law 1519 = .ok (.iconst 0, 1) := by decide +kernel
theorem dL_law_1520 : decode cL_law 1520 = .ok (.ireturn, 1) := by decide +kernel
theorem dL_law_1521 : decode cL_law 1521 = .ok (.aload_n 1, 1) := by decide +kernel
theorem dL_law_1522 : decode cL_law 1522 = .ok (.aload_n 0, 1) := by decide +kernel
theorem dL_law_1523 : decode cL_law 1523 = .ok (.iload 4, 2) := by decide +kernel
theorem dL_law_1525 : decode cL_law 1525 = .ok (.iconst 1, 1) := by decide +kernel
theorem dL_law_1526 : decode cL_law 1526 = .ok (.iadd, 1) := by decide +kernel
theorem dL_law_1527 : decode cL_law 1527 = .ok (.iaload, 1) := by decide +kernel
theorem dL_law_1528 : decode cL_law 1528 = .ok (.aload_n 3, 1) := by decide +kernel
theorem dL_law_1529 : decode cL_law 1529 = .ok (.invokestatic 197, 3) := by decide +kernel
theorem dL_law_1532 : decode cL_law 1532 = .ok (.istore 5, 2) := by decide +kernel
theorem dL_law_1534 : decode cL_law 1534 = .ok (.aload_n 2, 1) := by decide +kernel
theorem dL_law_1535 : decode cL_law 1535 = .ok (.aload_n 0, 1) := by decide +kernel
theorem dL_law_1536 : decode cL_law 1536 = .ok (.iload 4, 2) := by decide +kernel
theorem dL_law_1538 : decode cL_law 1538 = .ok (.iconst 1, 1) := by decide +kernel
theorem dL_law_1539 : decode cL_law 1539 = .ok (.iadd, 1) := by decide +kernel
theorem dL_law_1540 : decode cL_law 1540 = .ok (.iaload, 1) := by decide +kernel
theorem dL_law_1541 : decode cL_law 1541 = .ok (.invokevirtual 202, 3) := by decide +kernel
theorem dL_law_1544 : decode cL_law 1544 = .ok (.istore 6, 2) := by decide +kernel
theorem dL_law_1546 : decode cL_law 1546 = .ok (.aload_n 2, 1) := by decide +kernel
theorem dL_law_1547 : decode cL_law 1547 = .ok (.invokevirtual 203, 3) := by decide +kernel
theorem dL_law_1550 : decode cL_law 1550 = .ok (.iload 5, 2) := by decide +kernel
theorem dL_law_1552 : decode cL_law 1552 = .ok (.if_icmp .eq 5, 3) := by decide +kernel
theorem dL_law_1555 : decode cL_law 1555 = .ok (.iconst 0, 1) := by decide +kernel
theorem dL_law_1556 : decode cL_law 1556 = .ok (.ireturn, 1) := by decide +kernel
theorem dL_law_1557 : decode cL_law 1557 = .ok (.iload 5, 2) := by decide +kernel
theorem dL_law_1559 : decode cL_law 1559 = .ok (.ifCond .ne 15, 3) := by decide +kernel
theorem dL_law_1562 : decode cL_law 1562 = .ok (.aload_n 3, 1) := by decide +kernel
theorem dL_law_1563 : decode cL_law 1563 = .ok (.iconst 0, 1) := by decide +kernel
theorem dL_law_1564 : decode cL_law 1564 = .ok (.laload, 1) := by decide +kernel
theorem dL_law_1565 : decode cL_law 1565 = .ok (.iload 6, 2) := by decide +kernel
theorem dL_law_1567 : decode cL_law 1567 = .ok (.i2l, 1) := by decide +kernel
theorem dL_law_1568 : decode cL_law 1568 = .ok (.lcmp, 1) := by decide +kernel
theorem dL_law_1569 : decode cL_law 1569 = .ok (.ifCond .eq 5, 3) := by decide +kernel
theorem dL_law_1572 : decode cL_law 1572 = .ok (.iconst 0, 1) := by decide +kernel
theorem dL_law_1573 : decode cL_law 1573 = .ok (.ireturn, 1) := by decide +kernel
theorem dL_law_1574 : decode cL_law 1574 = .ok (.goto 41, 3) := by decide +kernel
theorem dL_law_1577 : decode cL_law 1577 = .ok (.aload_n 1, 1) := by decide +kernel
theorem dL_law_1578 : decode cL_law 1578 = .ok (.aload_n 0, 1) := by decide +kernel
theorem dL_law_1579 : decode cL_law 1579 = .ok (.iload 4, 2) := by decide +kernel
theorem dL_law_1581 : decode cL_law 1581 = .ok (.iconst 1, 1) := by decide +kernel
theorem dL_law_1582 : decode cL_law 1582 = .ok (.iadd, 1) := by decide +kernel
theorem dL_law_1583 : decode cL_law 1583 = .ok (.iaload, 1) := by decide +kernel
theorem dL_law_1584 : decode cL_law 1584 = .ok (.invokevirtual 206, 3) := by decide +kernel
theorem dL_law_1587 : decode cL_law 1587 = .ok (.aload_n 2, 1) := by decide +kernel
theorem dL_law_1588 : decode cL_law 1588 = .ok (.aload_n 0, 1) := by decide +kernel
theorem dL_law_1589 : decode cL_law 1589 = .ok (.iload 4, 2) := by decide +kernel
theorem dL_law_1591 : decode cL_law 1591 = .ok (.iconst 1, 1) := by decide +kernel
theorem dL_law_1592 : decode cL_law 1592 = .ok (.iadd, 1) := by decide +kernel
theorem dL_law_1593 : decode cL_law 1593 = .ok (.iaload, 1) := by decide +kernel
theorem dL_law_1594 : decode cL_law 1594 = .ok (.invokevirtual 209, 3) := by decide +kernel
theorem dL_law_1597 : decode cL_law 1597 = .ok (.if_icmp .eq 18, 3) := by decide +kernel
theorem dL_law_1600 : decode cL_law 1600 = .ok (.iconst 0, 1) := by decide +kernel
theorem dL_law_1601 : decode cL_law 1601 = .ok (.ireturn, 1) := by decide +kernel
theorem dL_law_1602 : decode cL_law 1602 = .ok (.aload_n 1, 1) := by decide +kernel
theorem dL_law_1603 : decode cL_law 1603 = .ok (.invokevirtual 210, 3) := by decide +kernel
theorem dL_law_1606 : decode cL_law 1606 = .ok (.aload_n 2, 1) := by decide +kernel
theorem dL_law_1607 : decode cL_law 1607 = .ok (.invokevirtual 213, 3) := by decide +kernel
theorem dL_law_1610 : decode cL_law 1610 = .ok (.if_icmp .eq 5, 3) := by decide +kernel
theorem dL_law_1613 : decode cL_law 1613 = .ok (.iconst 0, 1) := by decide +kernel
theorem dL_law_1614 : decode cL_law 1614 = .ok (.ireturn, 1) := by decide +kernel
theorem dL_law_1615 : decode cL_law 1615 = .ok (.iinc 4 6, 3) := by decide +kernel
theorem dL_law_1618 : decode cL_law 1618 = .ok (.goto (-1595), 3) := by decide +kernel
theorem dL_law_1621 : decode cL_law 1621 = .ok (.iconst 1, 1) := by decide +kernel
theorem dL_law_1622 : decode cL_law 1622 = .ok (.ireturn, 1) := by decide +kernel
