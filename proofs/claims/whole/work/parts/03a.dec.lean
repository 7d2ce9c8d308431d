theorem dX0_init_0 : decode cX0_init 0 = .ok (.aload_n 0, 1) := by decide +kernel
theorem dX0_init_1 : decode cX0_init 1 = .ok (.invokespecial 3, 3) := by decide +kernel
theorem dX0_init_4 : decode cX0_init 4 = .ok (.aload_n 0, 1) := by decide +kernel
theorem dX0_init_5 : decode cX0_init 5 = .ok (.new 9, 3) := by decide +kernel
theorem dX0_init_8 : decode cX0_init 8 = .ok (.dup, 1) := by decide +kernel
theorem dX0_init_9 : decode cX0_init 9 = .ok (.iconst 4, 1) := by decide +kernel
theorem dX0_init_10 : decode cX0_init 10 = .ok (.iconst 3, 1) := by decide +kernel
theorem dX0_init_11 : decode cX0_init 11 = .ok (.invokespecial 11, 3) := by decide +kernel
theorem dX0_init_14 : decode cX0_init 14 = .ok (.putfield 14, 3) := by decide +kernel
theorem dX0_init_17 : decode cX0_init 17 = .ok (.aload_n 0, 1) := by decide +kernel
theorem dX0_init_18 : decode cX0_init 18 = .ok (.iconst 0, 1) := by decide +kernel
theorem dX0_init_19 : decode cX0_init 19 = .ok (.putfield 20, 3) := by decide +kernel
theorem dX0_init_22 : decode cX0_init 22 = .ok (.aload_n 0, 1) := by decide +kernel
theorem dX0_init_23 : decode cX0_init 23 = .ok (.bipush (-2), 2) := by decide +kernel
theorem dX0_init_25 : decode cX0_init 25 = .ok (.putfield 24, 3) := by decide +kernel
theorem dX0_init_28 : decode cX0_init 28 = .ok (.return_, 1) := by decide +kernel
theorem dX0_forget_0 : decode cX0_forget 0 = .ok (.aload_n 0, 1) := by decide +kernel
theorem dX0_forget_1 : decode cX0_forget 1 = .ok (.iconst 0, 1) := by decide +kernel
theorem dX0_forget_2 : decode cX0_forget 2 = .ok (.putfield 20, 3) := by decide +kernel
theorem dX0_forget_5 : decode cX0_forget 5 = .ok (.return_, 1) := by decide +kernel
theorem dX0_lastDay_0 : decode cX0_lastDay 0 = .ok (.aload_n 0, 1) := by decide +kernel
theorem dX0_lastDay_1 : decode cX0_lastDay 1 = .ok (.getfield 24, 3) := by decide +kernel
theorem dX0_lastDay_4 : decode cX0_lastDay 4 = .ok (.ireturn, 1) := by decide +kernel
theorem dX0_giftOf_0 : decode cX0_giftOf 0 = .ok (.bipush 100, 2) := by decide +kernel
theorem dX0_giftOf_2 : decode cX0_giftOf 2 = .ok (.aload_n 0, 1) := by decide +kernel
theorem dX0_giftOf_3 : decode cX0_giftOf 3 = .ok (.getfield 14, 3) := by decide +kernel
theorem dX0_giftOf_6 : decode cX0_giftOf 6 = .ok (.iload_n 1, 1) := by decide +kernel
theorem dX0_giftOf_7 : decode cX0_giftOf 7 = .ok (.iconst 0, 1) := by decide +kernel
theorem dX0_giftOf_8 : decode cX0_giftOf 8 = .ok (.invokevirtual 28, 3) := by decide +kernel
theorem dX0_giftOf_11 : decode cX0_giftOf 11 = .ok (.imul, 1) := by decide +kernel
theorem dX0_giftOf_12 : decode cX0_giftOf 12 = .ok (.bipush 10, 2) := by decide +kernel
theorem dX0_giftOf_14 : decode cX0_giftOf 14 = .ok (.aload_n 0, 1) := by decide +kernel
theorem dX0_giftOf_15 : decode cX0_giftOf 15 = .ok (.getfield 14, 3) := by decide +kernel
theorem dX0_giftOf_18 : decode cX0_giftOf 18 = .ok (.iload_n 1, 1) := by decide +kernel
theorem dX0_giftOf_19 : decode cX0_giftOf 19 = .ok (.iconst 1, 1) := by decide +kernel
theorem dX0_giftOf_20 : decode cX0_giftOf 20 = .ok (.invokevirtual 28, 3) := by decide +kernel
theorem dX0_giftOf_23 : decode cX0_giftOf 23 = .ok (.imul, 1) := by decide +kernel
theorem dX0_giftOf_24 : decode cX0_giftOf 24 = .ok (.iadd, 1) := by decide +kernel
theorem dX0_giftOf_25 : decode cX0_giftOf 25 = .ok (.aload_n 0, 1) := by decide +kernel
theorem dX0_giftOf_26 : decode cX0_giftOf 26 = .ok (.getfield 14, 3) := by decide +kernel
theorem dX0_giftOf_29 : decode cX0_giftOf 29 = .ok (.iload_n 1, 1) := by decide +kernel
theorem dX0_giftOf_30 : decode cX0_giftOf 30 = .ok (.iconst 2, 1) := by decide +kernel
theorem dX0_giftOf_31 : decode cX0_giftOf 31 = .ok (.invokevirtual 28, 3) := by decide +kernel
theorem dX0_giftOf_34 : decode cX0_giftOf 34 = .ok (.iadd, 1) := by decide +kernel
theorem dX0_giftOf_35 : decode cX0_giftOf 35 = .ok (.ireturn, 1) := by decide +kernel
theorem dX0_find_0 : decode cX0_find 0 = .ok (.aload_n 0, 1) := by decide +kernel
theorem dX0_find_1 : decode cX0_find 1 = .ok (.getfield 20, 3) := by decide +kernel
theorem dX0_find_4 : decode cX0_find 4 = .ok (.ifCond .eq 4, 3) := by decide +kernel
theorem dX0_find_7 : decode cX0_find 7 = .ok (.return_, 1) := by decide +kernel
theorem dX0_find_8 : decode cX0_find 8 = .ok (.aload_n 0, 1) := by decide +kernel
theorem dX0_find_9 : decode cX0_find 9 = .ok (.iconst 1, 1) := by decide +kernel
theorem dX0_find_10 : decode cX0_find 10 = .ok (.putfield 20, 3) := by decide +kernel
theorem dX0_find_13 : decode cX0_find 13 = .ok (.aload_n 0, 1) := by decide +kernel
theorem dX0_find_14 : decode cX0_find 14 = .ok (.bipush (-2), 2) := by decide +kernel
theorem dX0_find_16 : decode cX0_find 16 = .ok (.putfield 24, 3) := by decide +kernel
theorem dX0_find_19 : decode cX0_find 19 = .ok (.aload_n 1, 1) := by decide +kernel
theorem dX0_find_20 : decode cX0_find 20 = .ok (.invokevirtual 32, 3) := by decide +kernel
theorem dX0_find_23 : decode cX0_find 23 = .ok (.ifCond .eq 4, 3) := by decide +kernel
theorem dX0_find_26 : decode cX0_find 26 = .ok (.return_, 1) := by decide +kernel
theorem dX0_find_27 : decode cX0_find 27 = .ok (.iconst 0, 1) := by decide +kernel
theorem dX0_find_28 : decode cX0_find 28 = .ok (.istore_n 2, 1) := by decide +kernel
theorem dX0_find_29 : decode cX0_find 29 = .ok (.iload_n 2, 1) := by decide +kernel
theorem dX0_find_30 : decode cX0_find 30 = .ok (.aload_n 1, 1) := by decide +kernel
theorem dX0_find_31 : decode cX0_find 31 = .ok (.iconst 0, 1) := by decide +kernel
theorem dX0_find_32 : decode cX0_find 32 = .ok (.invokevirtual 38, 3) := by decide +kernel
theorem dX0_find_35 : decode cX0_find 35 = .ok (.if_icmp .ge 34, 3) := by decide +kernel
theorem dX0_find_38 : decode cX0_find 38 = .ok (.aload_n 1, 1) := by decide +kernel
theorem dX0_find_39 : decode cX0_find 39 = .ok (.iload_n 2, 1) := by decide +kernel
theorem dX0_find_40 : decode cX0_find 40 = .ok (.invokevirtual 42, 3) := by decide +kernel
theorem dX0_find_43 : decode cX0_find 43 = .ok (.ifCond .eq 20, 3) := by decide +kernel
theorem dX0_find_46 : decode cX0_find 46 = .ok (.aload_n 0, 1) := by decide +kernel
theorem dX0_find_47 : decode cX0_find 47 = .ok (.aload_n 1, 1) := by decide +kernel
theorem dX0_find_48 : decode cX0_find 48 = .ok (.iconst 0, 1) := by decide +kernel
theorem dX0_find_49 : decode cX0_find 49 = .ok (.iload_n 2, 1) := by decide +kernel
theorem dX0_find_50 : decode cX0_find 50 = .ok (.iconst 0, 1) := by decide +kernel
theorem dX0_find_51 : decode cX0_find 51 = .ok (.invokevirtual 46, 3) := by decide +kernel
theorem dX0_find_54 : decode cX0_find 54 = .ok (.ifCond .eq 9, 3) := by decide +kernel
theorem dX0_find_57 : decode cX0_find 57 = .ok (.aload_n 0, 1) := by decide +kernel
theorem dX0_find_58 : decode cX0_find 58 = .ok (.iload_n 2, 1) := by decide +kernel
theorem dX0_find_59 : decode cX0_find 59 = .ok (.putfield 24, 3) := by decide +kernel
theorem dX0_find_62 : decode cX0_find 62 = .ok (.return_, 1) := by decide +kernel
theorem dX0_find_63 : decode cX0_find 63 = .ok (.iinc 2 1, 3) := by decide +kernel
theorem dX0_find_66 : decode cX0_find 66 = .ok (.goto (-37), 3) := by decide +kernel
theorem dX0_find_69 : decode cX0_find 69 = .ok (.return_, 1) := by decide +kernel
theorem dX0_place_0 : decode cX0_place 0 = .ok (.iload_n 2, 1) := by decide +kernel
theorem dX0_place_1 : decode cX0_place 1 = .ok (.aload_n 1, 1) := by decide +kernel
theorem dX0_place_2 : decode cX0_place 2 = .ok (.iconst 2, 1) := by decide +kernel
theorem dX0_place_3 : decode cX0_place 3 = .ok (.invokevirtual 38, 3) := by decide +kernel
theorem dX0_place_6 : decode cX0_place 6 = .ok (.if_icmp .ge 8, 3) := by decide +kernel
theorem dX0_place_9 : decode cX0_place 9 = .ok (.iload_n 2, 1) := by decide +kernel
theorem dX0_place_10 : decode cX0_place 10 = .ok (.iconst 4, 1) := by decide +kernel
theorem dX0_place_11 : decode cX0_place 11 = .ok (.if_icmp .lt 5, 3) := by decide +kernel
theorem dX0_place_14 : decode cX0_place 14 = .ok (.iconst 1, 1) := by decide +kernel
theorem dX0_place_15 : decode cX0_place 15 = .ok (.ireturn, 1) := by decide +kernel
theorem dX0_place_16 : decode cX0_place 16 = .ok (.iconst 0, 1) := by decide +kernel
theorem dX0_place_17 : decode cX0_place 17 = .ok (.istore 5, 2) := by decide +kernel
theorem dX0_place_19 : decode cX0_place 19 = .ok (.iload 5, 2) := by decide +kernel
theorem dX0_place_21 : decode cX0_place 21 = .ok (.iload_n 3, 1) := by decide +kernel
theorem dX0_place_22 : decode cX0_place 22 = .ok (.if_icmp .gt 129, 3) := by decide +kernel
theorem dX0_place_25 : decode cX0_place 25 = .ok (.iload 5, 2) := by decide +kernel
theorem dX0_place_27 : decode cX0_place 27 = .ok (.bipush 7, 2) := by decide +kernel
theorem dX0_place_29 : decode cX0_place 29 = .ok (.if_icmp .ge 122, 3) := by decide +kernel
theorem dX0_place_32 : decode cX0_place 32 = .ok (.iconst 0, 1) := by decide +kernel
theorem dX0_place_33 : decode cX0_place 33 = .ok (.istore 6, 2) := by decide +kernel
theorem dX0_place_35 : decode cX0_place 35 = .ok (.iload 6, 2) := by decide +kernel
theorem dX0_place_37 : decode cX0_place 37 = .ok (.aload_n 1, 1) := by decide +kernel
theorem dX0_place_38 : decode cX0_place 38 = .ok (.iconst 5, 1) := by decide +kernel
theorem dX0_place_39 : decode cX0_place 39 = .ok (.invokevirtual 38, 3) := by decide +kernel
theorem dX0_place_42 : decode cX0_place 42 = .ok (.if_icmp .ge 103, 3) := by decide +kernel
theorem dX0_place_45 : decode cX0_place 45 = .ok (.iconst 1, 1) := by decide +kernel
theorem dX0_place_46 : decode cX0_place 46 = .ok (.iload 5, 2) := by decide +kernel
theorem dX0_place_48 : decode cX0_place 48 = .ok (.iconst 3, 1) := by decide +kernel
theorem dX0_place_49 : decode cX0_place 49 = .ok (.imul, 1) := by decide +kernel
theorem dX0_place_50 : decode cX0_place 50 = .ok (.iload 6, 2) := by decide +kernel
theorem dX0_place_52 : decode cX0_place 52 = .ok (.iadd, 1) := by decide +kernel
theorem dX0_place_53 : decode cX0_place 53 = .ok (.ishl, 1) := by decide +kernel
theorem dX0_place_54 : decode cX0_place 54 = .ok (.istore 7, 2) := by decide +kernel
theorem dX0_place_56 : decode cX0_place 56 = .ok (.iload 4, 2) := by decide +kernel
theorem dX0_place_58 : decode cX0_place 58 = .ok (.iload 7, 2) := by decide +kernel
theorem dX0_place_60 : decode cX0_place 60 = .ok (.iand, 1) := by decide +kernel
theorem dX0_place_61 : decode cX0_place 61 = .ok (.ifCond .ne 78, 3) := by decide +kernel
theorem dX0_place_64 : decode cX0_place 64 = .ok (.aload_n 1, 1) := by decide +kernel
theorem dX0_place_65 : decode cX0_place 65 = .ok (.getfield 50, 3) := by decide +kernel
theorem dX0_place_68 : decode cX0_place 68 = .ok (.iload 6, 2) := by decide +kernel
theorem dX0_place_70 : decode cX0_place 70 = .ok (.iload 5, 2) := by decide +kernel
theorem dX0_place_72 : decode cX0_place 72 = .ok (.invokevirtual 28, 3) := by decide +kernel
theorem dX0_place_75 : decode cX0_place 75 = .ok (.ifCond .ge 6, 3) := by decide +kernel
theorem dX0_place_78 : decode cX0_place 78 = .ok (.goto 61, 3) := by decide +kernel
theorem dX0_place_81 : decode cX0_place 81 = .ok (.iconst 0, 1) := by decide +kernel
theorem dX0_place_82 : decode cX0_place 82 = .ok (.istore 8, 2) := by decide +kernel
theorem dX0_place_84 : decode cX0_place 84 = .ok (.iload 8, 2) := by decide +kernel
theorem dX0_place_86 : decode cX0_place 86 = .ok (.aload_n 1, 1) := by decide +kernel
theorem dX0_place_87 : decode cX0_place 87 = .ok (.iconst 3, 1) := by decide +kernel
theorem dX0_place_88 : decode cX0_place 88 = .ok (.invokevirtual 38, 3) := by decide +kernel
theorem dX0_place_91 : decode cX0_place 91 = .ok (.if_icmp .ge 48, 3) := by decide +kernel
theorem dX0_place_94 : decode cX0_place 94 = .ok (.aload_n 0, 1) := by decide +kernel
theorem dX0_place_95 : decode cX0_place 95 = .ok (.iload_n 2, 1) := by decide +kernel
theorem dX0_place_96 : decode cX0_place 96 = .ok (.iload 5, 2) := by decide +kernel
theorem dX0_place_98 : decode cX0_place 98 = .ok (.iload 6, 2) := by decide +kernel
theorem dX0_place_100 : decode cX0_place 100 = .ok (.iload 8, 2) := by decide +kernel
theorem dX0_place_102 : decode cX0_place 102 = .ok (.invokevirtual 53, 3) := by decide +kernel
theorem dX0_place_105 : decode cX0_place 105 = .ok (.aload_n 0, 1) := by decide +kernel
theorem dX0_place_106 : decode cX0_place 106 = .ok (.aload_n 1, 1) := by decide +kernel
theorem dX0_place_107 : decode cX0_place 107 = .ok (.iload_n 2, 1) := by decide +kernel
theorem dX0_place_108 : decode cX0_place 108 = .ok (.invokevirtual 57, 3) := by decide +kernel
theorem dX0_place_111 : decode cX0_place 111 = .ok (.ifCond .eq 22, 3) := by decide +kernel
theorem dX0_place_114 : decode cX0_place 114 = .ok (.aload_n 0, 1) := by decide +kernel
theorem dX0_place_115 : decode cX0_place 115 = .ok (.aload_n 1, 1) := by decide +kernel
theorem dX0_place_116 : decode cX0_place 116 = .ok (.iload_n 2, 1) := by decide +kernel
theorem dX0_place_117 : decode cX0_place 117 = .ok (.iconst 1, 1) := by decide +kernel
theorem dX0_place_118 : decode cX0_place 118 = .ok (.iadd, 1) := by decide +kernel
theorem dX0_place_119 : decode cX0_place 119 = .ok (.iload_n 3, 1) := by decide +kernel
theorem dX0_place_120 : decode cX0_place 120 = .ok (.iload 4, 2) := by decide +kernel
theorem dX0_place_122 : decode cX0_place 122 = .ok (.iload 7, 2) := by decide +kernel
theorem dX0_place_124 : decode cX0_place 124 = .ok (.ior, 1) := by decide +kernel
theorem dX0_place_125 : decode cX0_place 125 = .ok (.invokevirtual 46, 3) := by decide +kernel
theorem dX0_place_128 : decode cX0_place 128 = .ok (.ifCond .eq 5, 3) := by decide +kernel
theorem dX0_place_131 : decode cX0_place 131 = .ok (.iconst 1, 1) := by decide +kernel
theorem dX0_place_132 : decode cX0_place 132 = .ok (.ireturn, 1) := by decide +kernel
theorem dX0_place_133 : decode cX0_place 133 = .ok (.iinc 8 1, 3) := by decide +kernel
theorem dX0_place_136 : decode cX0_place 136 = .ok (.goto (-52), 3) := by decide +kernel
theorem dX0_place_139 : decode cX0_place 139 = .ok (.iinc 6 1, 3) := by decide +kernel
theorem dX0_place_142 : decode cX0_place 142 = .ok (.goto (-107), 3) := by decide +kernel
theorem dX0_place_145 : decode cX0_place 145 = .ok (.iinc 5 1, 3) := by decide +kernel
theorem dX0_place_148 : decode cX0_place 148 = .ok (.goto (-129), 3) := by decide +kernel
theorem dX0_place_151 : decode cX0_place 151 = .ok (.iconst 0, 1) := by decide +kernel
theorem dX0_place_152 : decode cX0_place 152 = .ok (.ireturn, 1) := by decide +kernel
theorem dX0_choose_0 : decode cX0_choose 0 = .ok (.aload_n 0, 1) := by decide +kernel
theorem dX0_choose_1 : decode cX0_choose 1 = .ok (.getfield 14, 3) := by decide +kernel
theorem dX0_choose_4 : decode cX0_choose 4 = .ok (.iload_n 1, 1) := by decide +kernel
theorem dX0_choose_5 : decode cX0_choose 5 = .ok (.iconst 0, 1) := by decide +kernel
theorem dX0_choose_6 : decode cX0_choose 6 = .ok (.iload_n 2, 1) := by decide +kernel
theorem dX0_choose_7 : decode cX0_choose 7 = .ok (.invokevirtual 61, 3) := by decide +kernel
theorem dX0_choose_10 : decode cX0_choose 10 = .ok (.aload_n 0, 1) := by decide +kernel
theorem dX0_choose_11 : decode cX0_choose 11 = .ok (.getfield 14, 3) := by decide +kernel
theorem dX0_choose_14 : decode cX0_choose 14 = .ok (.iload_n 1, 1) := by decide +kernel
theorem dX0_choose_15 : decode cX0_choose 15 = .ok (.iconst 1, 1) := by decide +kernel
theorem dX0_choose_16 : decode cX0_choose 16 = .ok (.iload_n 3, 1) := by decide +kernel
theorem dX0_choose_17 : decode cX0_choose 17 = .ok (.invokevirtual 61, 3) := by decide +kernel
theorem dX0_choose_20 : decode cX0_choose 20 = .ok (.aload_n 0, 1) := by decide +kernel
theorem dX0_choose_21 : decode cX0_choose 21 = .ok (.getfield 14, 3) := by decide +kernel
theorem dX0_choose_24 : decode cX0_choose 24 = .ok (.iload_n 1, 1) := by decide +kernel
theorem dX0_choose_25 : decode cX0_choose 25 = .ok (.iconst 2, 1) := by decide +kernel
theorem dX0_choose_26 : decode cX0_choose 26 = .ok (.iload 4, 2) := by decide +kernel
theorem dX0_choose_28 : decode cX0_choose 28 = .ok (.invokevirtual 61, 3) := by decide +kernel
theorem dX0_choose_31 : decode cX0_choose 31 = .ok (.return_, 1) := by decide +kernel
theorem dX0_standsBy_0 : decode cX0_standsBy 0 = .ok (.iload_n 2, 1) := by decide +kernel
theorem dX0_standsBy_1 : decode cX0_standsBy 1 = .ok (.istore_n 3, 1) := by decide +kernel
theorem dX0_standsBy_2 : decode cX0_standsBy 2 = .ok (.iload_n 3, 1) := by decide +kernel
theorem dX0_standsBy_3 : decode cX0_standsBy 3 = .ok (.ifCond .lt 42, 3) := by decide +kernel
theorem dX0_standsBy_6 : decode cX0_standsBy 6 = .ok (.aload_n 0, 1) := by decide +kernel
theorem dX0_standsBy_7 : decode cX0_standsBy 7 = .ok (.getfield 14, 3) := by decide +kernel
theorem dX0_standsBy_10 : decode cX0_standsBy 10 = .ok (.iload_n 3, 1) := by decide +kernel
theorem dX0_standsBy_11 : decode cX0_standsBy 11 = .ok (.iconst 2, 1) := by decide +kernel
theorem dX0_standsBy_12 : decode cX0_standsBy 12 = .ok (.invokevirtual 28, 3) := by decide +kernel
theorem dX0_standsBy_15 : decode cX0_standsBy 15 = .ok (.aload_n 0, 1) := by decide +kernel
theorem dX0_standsBy_16 : decode cX0_standsBy 16 = .ok (.getfield 14, 3) := by decide +kernel
theorem dX0_standsBy_19 : decode cX0_standsBy 19 = .ok (.iload_n 2, 1) := by decide +kernel
theorem dX0_standsBy_20 : decode cX0_standsBy 20 = .ok (.iconst 2, 1) := by decide +kernel
theorem dX0_standsBy_21 : decode cX0_standsBy 21 = .ok (.invokevirtual 28, 3) := by decide +kernel
theorem dX0_standsBy_24 : decode cX0_standsBy 24 = .ok (.if_icmp .ne 15, 3) := by decide +kernel
theorem dX0_standsBy_27 : decode cX0_standsBy 27 = .ok (.aload_n 0, 1) := by decide +kernel
theorem dX0_standsBy_28 : decode cX0_standsBy 28 = .ok (.aload_n 1, 1) := by decide +kernel
theorem dX0_standsBy_29 : decode cX0_standsBy 29 = .ok (.iload_n 3, 1) := by decide +kernel
theorem dX0_standsBy_30 : decode cX0_standsBy 30 = .ok (.iload_n 2, 1) := by decide +kernel
theorem dX0_standsBy_31 : decode cX0_standsBy 31 = .ok (.invokevirtual 65, 3) := by decide +kernel
theorem dX0_standsBy_34 : decode cX0_standsBy 34 = .ok (.ifCond .ne 5, 3) := by decide +kernel
theorem dX0_standsBy_37 : decode cX0_standsBy 37 = .ok (.iconst 0, 1) := by decide +kernel
theorem dX0_standsBy_38 : decode cX0_standsBy 38 = .ok (.ireturn, 1) := by decide +kernel
theorem dX0_standsBy_39 : decode cX0_standsBy 39 = .ok (.iinc 3 (-1), 3) := by decide +kernel
theorem dX0_standsBy_42 : decode cX0_standsBy 42 = .ok (.goto (-40), 3) := by decide +kernel
theorem dX0_standsBy_45 : decode cX0_standsBy 45 = .ok (.iconst 1, 1) := by decide +kernel
theorem dX0_standsBy_46 : decode cX0_standsBy 46 = .ok (.ireturn, 1) := by decide +kernel
theorem dX0_stands_0 : decode cX0_stands 0 = .ok (.aload_n 0, 1) := by decide +kernel
theorem dX0_stands_1 : decode cX0_stands 1 = .ok (.getfield 14, 3) := by decide +kernel
theorem dX0_stands_4 : decode cX0_stands 4 = .ok (.iload_n 2, 1) := by decide +kernel
theorem dX0_stands_5 : decode cX0_stands 5 = .ok (.iconst 0, 1) := by decide +kernel
theorem dX0_stands_6 : decode cX0_stands 6 = .ok (.invokevirtual 28, 3) := by decide +kernel
theorem dX0_stands_9 : decode cX0_stands 9 = .ok (.istore 4, 2) := by decide +kernel
theorem dX0_stands_11 : decode cX0_stands 11 = .ok (.aload_n 0, 1) := by decide +kernel
theorem dX0_stands_12 : decode cX0_stands 12 = .ok (.getfield 14, 3) := by decide +kernel
theorem dX0_stands_15 : decode cX0_stands 15 = .ok (.iload_n 2, 1) := by decide +kernel
theorem dX0_stands_16 : decode cX0_stands 16 = .ok (.iconst 2, 1) := by decide +kernel
theorem dX0_stands_17 : decode cX0_stands 17 = .ok (.invokevirtual 28, 3) := by decide +kernel
theorem dX0_stands_20 : decode cX0_stands 20 = .ok (.istore 5, 2) := by decide +kernel
theorem dX0_stands_22 : decode cX0_stands 22 = .ok (.iconst 0, 1) := by decide +kernel
theorem dX0_stands_23 : decode cX0_stands 23 = .ok (.istore 6, 2) := by decide +kernel
theorem dX0_stands_25 : decode cX0_stands 25 = .ok (.iconst 0, 1) := by decide +kernel
theorem dX0_stands_26 : decode cX0_stands 26 = .ok (.istore 7, 2) := by decide +kernel
theorem dX0_stands_28 : decode cX0_stands 28 = .ok (.iload 7, 2) := by decide +kernel
theorem dX0_stands_30 : decode cX0_stands 30 = .ok (.iload_n 3, 1) := by decide +kernel
theorem dX0_stands_31 : decode cX0_stands 31 = .ok (.if_icmp .gt 71, 3) := by decide +kernel
theorem dX0_stands_34 : decode cX0_stands 34 = .ok (.aload_n 0, 1) := by decide +kernel
theorem dX0_stands_35 : decode cX0_stands 35 = .ok (.getfield 14, 3) := by decide +kernel
theorem dX0_stands_38 : decode cX0_stands 38 = .ok (.iload 7, 2) := by decide +kernel
theorem dX0_stands_40 : decode cX0_stands 40 = .ok (.iconst 0, 1) := by decide +kernel
theorem dX0_stands_41 : decode cX0_stands 41 = .ok (.invokevirtual 28, 3) := by decide +kernel
theorem dX0_stands_44 : decode cX0_stands 44 = .ok (.istore 8, 2) := by decide +kernel
theorem dX0_stands_46 : decode cX0_stands 46 = .ok (.iload 8, 2) := by decide +kernel
theorem dX0_stands_48 : decode cX0_stands 48 = .ok (.iload 4, 2) := by decide +kernel
theorem dX0_stands_50 : decode cX0_stands 50 = .ok (.if_icmp .lt 16, 3) := by decide +kernel
theorem dX0_stands_53 : decode cX0_stands 53 = .ok (.iload 8, 2) := by decide +kernel
theorem dX0_stands_55 : decode cX0_stands 55 = .ok (.iload 4, 2) := by decide +kernel
theorem dX0_stands_57 : decode cX0_stands 57 = .ok (.if_icmp .ne 13, 3) := by decide +kernel
theorem dX0_stands_60 : decode cX0_stands 60 = .ok (.iload 7, 2) := by decide +kernel
theorem dX0_stands_62 : decode cX0_stands 62 = .ok (.iload_n 2, 1) := by decide +kernel
theorem dX0_stands_63 : decode cX0_stands 63 = .ok (.if_icmp .ge 7, 3) := by decide +kernel
theorem dX0_stands_66 : decode cX0_stands 66 = .ok (.iconst 1, 1) := by decide +kernel
theorem dX0_stands_67 : decode cX0_stands 67 = .ok (.goto 4, 3) := by decide +kernel
theorem dX0_stands_70 : decode cX0_stands 70 = .ok (.iconst 0, 1) := by decide +kernel
theorem dX0_stands_71 : decode cX0_stands 71 = .ok (.istore 9, 2) := by decide +kernel
theorem dX0_stands_73 : decode cX0_stands 73 = .ok (.iload 9, 2) := by decide +kernel
theorem dX0_stands_75 : decode cX0_stands 75 = .ok (.ifCond .eq 21, 3) := by decide +kernel
theorem dX0_stands_78 : decode cX0_stands 78 = .ok (.aload_n 0, 1) := by decide +kernel
theorem dX0_stands_79 : decode cX0_stands 79 = .ok (.getfield 14, 3) := by decide +kernel
theorem dX0_stands_82 : decode cX0_stands 82 = .ok (.iload 7, 2) := by decide +kernel
theorem dX0_stands_84 : decode cX0_stands 84 = .ok (.iconst 2, 1) := by decide +kernel
theorem dX0_stands_85 : decode cX0_stands 85 = .ok (.invokevirtual 28, 3) := by decide +kernel
theorem dX0_stands_88 : decode cX0_stands 88 = .ok (.iload 5, 2) := by decide +kernel
theorem dX0_stands_90 : decode cX0_stands 90 = .ok (.if_icmp .ne 6, 3) := by decide +kernel
theorem dX0_stands_93 : decode cX0_stands 93 = .ok (.iinc 6 1, 3) := by decide +kernel
theorem dX0_stands_96 : decode cX0_stands 96 = .ok (.iinc 7 1, 3) := by decide +kernel
theorem dX0_stands_99 : decode cX0_stands 99 = .ok (.goto (-71), 3) := by decide +kernel
theorem dX0_stands_102 : decode cX0_stands 102 = .ok (.aload_n 1, 1) := by decide +kernel
theorem dX0_stands_103 : decode cX0_stands 103 = .ok (.iload 4, 2) := by decide +kernel
theorem dX0_stands_105 : decode cX0_stands 105 = .ok (.aload_n 0, 1) := by decide +kernel
theorem dX0_stands_106 : decode cX0_stands 106 = .ok (.getfield 14, 3) := by decide +kernel
theorem dX0_stands_109 : decode cX0_stands 109 = .ok (.iload_n 2, 1) := by decide +kernel
theorem dX0_stands_110 : decode cX0_stands 110 = .ok (.iconst 1, 1) := by decide +kernel
theorem dX0_stands_111 : decode cX0_stands 111 = .ok (.invokevirtual 28, 3) := by decide +kernel
theorem dX0_stands_114 : decode cX0_stands 114 = .ok (.iload_n 2, 1) := by decide +kernel
theorem dX0_stands_115 : decode cX0_stands 115 = .ok (.iload 5, 2) := by decide +kernel
theorem dX0_stands_117 : decode cX0_stands 117 = .ok (.iload 6, 2) := by decide +kernel
theorem dX0_stands_119 : decode cX0_stands 119 = .ok (.invokevirtual 69, 3) := by decide +kernel
theorem dX0_stands_122 : decode cX0_stands 122 = .ok (.ireturn, 1) := by decide +kernel
theorem dX1_part_0 : decode cX1_part 0 = .ok (.lload_n 0, 1) := by decide +kernel
theorem dX1_part_1 : decode cX1_part 1 = .ok (.lstore 5, 2) := by decide +kernel
theorem dX1_part_3 : decode cX1_part 3 = .ok (.lload_n 2, 1) := by decide +kernel
theorem dX1_part_4 : decode cX1_part 4 = .ok (.lstore 7, 2) := by decide +kernel
theorem dX1_part_6 : decode cX1_part 6 = .ok (.iconst 0, 1) := by decide +kernel
theorem dX1_part_7 : decode cX1_part 7 = .ok (.istore 9, 2) := by decide +kernel
theorem dX1_part_9 : decode cX1_part 9 = .ok (.iload 9, 2) := by decide +kernel
theorem dX1_part_11 : decode cX1_part 11 = .ok (.sipush 200, 3) := by decide +kernel
theorem dX1_part_14 : decode cX1_part 14 = .ok (.if_icmp .ge 31, 3) := by decide +kernel
theorem dX1_part_17 : decode cX1_part 17 = .ok (.lload 7, 2) := by decide +kernel
theorem dX1_part_19 : decode cX1_part 19 = .ok (.lconst 0, 1) := by decide +kernel
theorem dX1_part_20 : decode cX1_part 20 = .ok (.lcmp, 1) := by decide +kernel
theorem dX1_part_21 : decode cX1_part 21 = .ok (.ifCond .eq 24, 3) := by decide +kernel
theorem dX1_part_24 : decode cX1_part 24 = .ok (.lload 5, 2) := by decide +kernel
theorem dX1_part_26 : decode cX1_part 26 = .ok (.lload 7, 2) := by decide +kernel
theorem dX1_part_28 : decode cX1_part 28 = .ok (.lrem, 1) := by decide +kernel
theorem dX1_part_29 : decode cX1_part 29 = .ok (.lstore 10, 2) := by decide +kernel
theorem dX1_part_31 : decode cX1_part 31 = .ok (.lload 7, 2) := by decide +kernel
theorem dX1_part_33 : decode cX1_part 33 = .ok (.lstore 5, 2) := by decide +kernel
theorem dX1_part_35 : decode cX1_part 35 = .ok (.lload 10, 2) := by decide +kernel
theorem dX1_part_37 : decode cX1_part 37 = .ok (.lstore 7, 2) := by decide +kernel
theorem dX1_part_39 : decode cX1_part 39 = .ok (.iinc 9 1, 3) := by decide +kernel
theorem dX1_part_42 : decode cX1_part 42 = .ok (.goto (-33), 3) := by decide +kernel
theorem dX1_part_45 : decode cX1_part 45 = .ok (.iload 4, 2) := by decide +kernel
theorem dX1_part_47 : decode cX1_part 47 = .ok (.ifCond .eq 7, 3) := by decide +kernel
theorem dX1_part_50 : decode cX1_part 50 = .ok (.lload_n 2, 1) := by decide +kernel
theorem dX1_part_51 : decode cX1_part 51 = .ok (.goto 4, 3) := by decide +kernel
theorem dX1_part_54 : decode cX1_part 54 = .ok (.lload_n 0, 1) := by decide +kernel
theorem dX1_part_55 : decode cX1_part 55 = .ok (.lstore 9, 2) := by decide +kernel
theorem dX1_part_57 : decode cX1_part 57 = .ok (.lload 5, 2) := by decide +kernel
theorem dX1_part_59 : decode cX1_part 59 = .ok (.lconst 0, 1) := by decide +kernel
theorem dX1_part_60 : decode cX1_part 60 = .ok (.lcmp, 1) := by decide +kernel
theorem dX1_part_61 : decode cX1_part 61 = .ok (.ifCond .ne 8, 3) := by decide +kernel
theorem dX1_part_64 : decode cX1_part 64 = .ok (.lload 9, 2) := by decide +kernel
theorem dX1_part_66 : decode cX1_part 66 = .ok (.goto 8, 3) := by decide +kernel
theorem dX1_part_69 : decode cX1_part 69 = .ok (.lload 9, 2) := by decide +kernel
theorem dX1_part_71 : decode cX1_part 71 = .ok (.lload 5, 2) := by decide +kernel
theorem dX1_part_73 : decode cX1_part 73 = .ok (.ldiv, 1) := by decide +kernel
theorem dX1_part_74 : decode cX1_part 74 = .ok (.lreturn, 1) := by decide +kernel
theorem dX1_lotValue_0 : decode cX1_lotValue 0 = .ok (.aload_n 0, 1) := by decide +kernel
theorem dX1_lotValue_1 : decode cX1_lotValue 1 = .ok (.invokestatic 9, 3) := by decide +kernel
theorem dX1_lotValue_4 : decode cX1_lotValue 4 = .ok (.istore_n 2, 1) := by decide +kernel
theorem dX1_lotValue_5 : decode cX1_lotValue 5 = .ok (.iload_n 2, 1) := by decide +kernel
theorem dX1_lotValue_6 : decode cX1_lotValue 6 = .ok (.iconst 1, 1) := by decide +kernel
theorem dX1_lotValue_7 : decode cX1_lotValue 7 = .ok (.isub, 1) := by decide +kernel
theorem dX1_lotValue_8 : decode cX1_lotValue 8 = .ok (.i2l, 1) := by decide +kernel
theorem dX1_lotValue_9 : decode cX1_lotValue 9 = .ok (.aload_n 0, 1) := by decide +kernel
theorem dX1_lotValue_10 : decode cX1_lotValue 10 = .ok (.iload_n 2, 1) := by decide +kernel
theorem dX1_lotValue_11 : decode cX1_lotValue 11 = .ok (.invokestatic 15, 3) := by decide +kernel
theorem dX1_lotValue_14 : decode cX1_lotValue 14 = .ok (.lmul, 1) := by decide +kernel
theorem dX1_lotValue_15 : decode cX1_lotValue 15 = .ok (.aload_n 0, 1) := by decide +kernel
theorem dX1_lotValue_16 : decode cX1_lotValue 16 = .ok (.iload_n 2, 1) := by decide +kernel
theorem dX1_lotValue_17 : decode cX1_lotValue 17 = .ok (.invokestatic 19, 3) := by decide +kernel
theorem dX1_lotValue_20 : decode cX1_lotValue 20 = .ok (.iload_n 1, 1) := by decide +kernel
theorem dX1_lotValue_21 : decode cX1_lotValue 21 = .ok (.invokestatic 22, 3) := by decide +kernel
theorem dX1_lotValue_24 : decode cX1_lotValue 24 = .ok (.lreturn, 1) := by decide +kernel
theorem dX1_lotOf_0 : decode cX1_lotOf 0 = .ok (.aload_n 0, 1) := by decide +kernel
theorem dX1_lotOf_1 : decode cX1_lotOf 1 = .ok (.invokestatic 9, 3) := by decide +kernel
theorem dX1_lotOf_4 : decode cX1_lotOf 4 = .ok (.istore_n 3, 1) := by decide +kernel
theorem dX1_lotOf_5 : decode cX1_lotOf 5 = .ok (.aload_n 0, 1) := by decide +kernel
theorem dX1_lotOf_6 : decode cX1_lotOf 6 = .ok (.getfield 26, 3) := by decide +kernel
theorem dX1_lotOf_9 : decode cX1_lotOf 9 = .ok (.iload_n 1, 1) := by decide +kernel
theorem dX1_lotOf_10 : decode cX1_lotOf 10 = .ok (.iconst 1, 1) := by decide +kernel
theorem dX1_lotOf_11 : decode cX1_lotOf 11 = .ok (.invokevirtual 32, 3) := by decide +kernel
theorem dX1_lotOf_14 : decode cX1_lotOf 14 = .ok (.istore 4, 2) := by decide +kernel
theorem dX1_lotOf_16 : decode cX1_lotOf 16 = .ok (.aload_n 0, 1) := by decide +kernel
theorem dX1_lotOf_17 : decode cX1_lotOf 17 = .ok (.iload_n 1, 1) := by decide +kernel
theorem dX1_lotOf_18 : decode cX1_lotOf 18 = .ok (.invokestatic 38, 3) := by decide +kernel
theorem dX1_lotOf_21 : decode cX1_lotOf 21 = .ok (.iload_n 3, 1) := by decide +kernel
theorem dX1_lotOf_22 : decode cX1_lotOf 22 = .ok (.if_icmp .ge 8, 3) := by decide +kernel
theorem dX1_lotOf_25 : decode cX1_lotOf 25 = .ok (.iload 4, 2) := by decide +kernel
theorem dX1_lotOf_27 : decode cX1_lotOf 27 = .ok (.ifCond .gt 13, 3) := by decide +kernel
theorem dX1_lotOf_30 : decode cX1_lotOf 30 = .ok (.iload_n 2, 1) := by decide +kernel
theorem dX1_lotOf_31 : decode cX1_lotOf 31 = .ok (.ifCond .eq 7, 3) := by decide +kernel
theorem dX1_lotOf_34 : decode cX1_lotOf 34 = .ok (.lconst 1, 1) := by decide +kernel
theorem dX1_lotOf_35 : decode cX1_lotOf 35 = .ok (.goto 4, 3) := by decide +kernel
theorem dX1_lotOf_38 : decode cX1_lotOf 38 = .ok (.lconst 0, 1) := by decide +kernel
theorem dX1_lotOf_39 : decode cX1_lotOf 39 = .ok (.lreturn, 1) := by decide +kernel
theorem dX1_lotOf_40 : decode cX1_lotOf 40 = .ok (.aload_n 0, 1) := by decide +kernel
theorem dX1_lotOf_41 : decode cX1_lotOf 41 = .ok (.iload_n 3, 1) := by decide +kernel
theorem dX1_lotOf_42 : decode cX1_lotOf 42 = .ok (.invokestatic 15, 3) := by decide +kernel
theorem dX1_lotOf_45 : decode cX1_lotOf 45 = .ok (.iload 4, 2) := by decide +kernel
theorem dX1_lotOf_47 : decode cX1_lotOf 47 = .ok (.i2l, 1) := by decide +kernel
theorem dX1_lotOf_48 : decode cX1_lotOf 48 = .ok (.ldiv, 1) := by decide +kernel
theorem dX1_lotOf_49 : decode cX1_lotOf 49 = .ok (.aload_n 0, 1) := by decide +kernel
theorem dX1_lotOf_50 : decode cX1_lotOf 50 = .ok (.iload_n 3, 1) := by decide +kernel
theorem dX1_lotOf_51 : decode cX1_lotOf 51 = .ok (.invokestatic 19, 3) := by decide +kernel
theorem dX1_lotOf_54 : decode cX1_lotOf 54 = .ok (.iload_n 2, 1) := by decide +kernel
theorem dX1_lotOf_55 : decode cX1_lotOf 55 = .ok (.invokestatic 22, 3) := by decide +kernel
theorem dX1_lotOf_58 : decode cX1_lotOf 58 = .ok (.lreturn, 1) := by decide +kernel
theorem dX1_bestCount_0 : decode cX1_bestCount 0 = .ok (.iconst 1, 1) := by decide +kernel
theorem dX1_bestCount_1 : decode cX1_bestCount 1 = .ok (.istore_n 1, 1) := by decide +kernel
theorem dX1_bestCount_2 : decode cX1_bestCount 2 = .ok (.iconst 2, 1) := by decide +kernel
theorem dX1_bestCount_3 : decode cX1_bestCount 3 = .ok (.istore_n 2, 1) := by decide +kernel
theorem dX1_bestCount_4 : decode cX1_bestCount 4 = .ok (.iload_n 2, 1) := by decide +kernel
theorem dX1_bestCount_5 : decode cX1_bestCount 5 = .ok (.aload_n 0, 1) := by decide +kernel
theorem dX1_bestCount_6 : decode cX1_bestCount 6 = .ok (.iconst 4, 1) := by decide +kernel
theorem dX1_bestCount_7 : decode cX1_bestCount 7 = .ok (.invokevirtual 42, 3) := by decide +kernel
theorem dX1_bestCount_10 : decode cX1_bestCount 10 = .ok (.if_icmp .gt 53, 3) := by decide +kernel
theorem dX1_bestCount_13 : decode cX1_bestCount 13 = .ok (.iload_n 2, 1) := by decide +kernel
theorem dX1_bestCount_14 : decode cX1_bestCount 14 = .ok (.iconst 1, 1) := by decide +kernel
theorem dX1_bestCount_15 : decode cX1_bestCount 15 = .ok (.isub, 1) := by decide +kernel
theorem dX1_bestCount_16 : decode cX1_bestCount 16 = .ok (.i2l, 1) := by decide +kernel
theorem dX1_bestCount_17 : decode cX1_bestCount 17 = .ok (.aload_n 0, 1) := by decide +kernel
theorem dX1_bestCount_18 : decode cX1_bestCount 18 = .ok (.iload_n 2, 1) := by decide +kernel
theorem dX1_bestCount_19 : decode cX1_bestCount 19 = .ok (.invokestatic 15, 3) := by decide +kernel
theorem dX1_bestCount_22 : decode cX1_bestCount 22 = .ok (.lmul, 1) := by decide +kernel
theorem dX1_bestCount_23 : decode cX1_bestCount 23 = .ok (.lstore_n 3, 1) := by decide +kernel
theorem dX1_bestCount_24 : decode cX1_bestCount 24 = .ok (.iload_n 1, 1) := by decide +kernel
theorem dX1_bestCount_25 : decode cX1_bestCount 25 = .ok (.iconst 1, 1) := by decide +kernel
theorem dX1_bestCount_26 : decode cX1_bestCount 26 = .ok (.isub, 1) := by decide +kernel
theorem dX1_bestCount_27 : decode cX1_bestCount 27 = .ok (.i2l, 1) := by decide +kernel
theorem dX1_bestCount_28 : decode cX1_bestCount 28 = .ok (.aload_n 0, 1) := by decide +kernel
theorem dX1_bestCount_29 : decode cX1_bestCount 29 = .ok (.iload_n 1, 1) := by decide +kernel
theorem dX1_bestCount_30 : decode cX1_bestCount 30 = .ok (.invokestatic 15, 3) := by decide +kernel
theorem dX1_bestCount_33 : decode cX1_bestCount 33 = .ok (.lmul, 1) := by decide +kernel
theorem dX1_bestCount_34 : decode cX1_bestCount 34 = .ok (.lstore 5, 2) := by decide +kernel
theorem dX1_bestCount_36 : decode cX1_bestCount 36 = .ok (.lload_n 3, 1) := by decide +kernel
theorem dX1_bestCount_37 : decode cX1_bestCount 37 = .ok (.aload_n 0, 1) := by decide +kernel
theorem dX1_bestCount_38 : decode cX1_bestCount 38 = .ok (.iload_n 1, 1) := by decide +kernel
theorem dX1_bestCount_39 : decode cX1_bestCount 39 = .ok (.invokestatic 19, 3) := by decide +kernel
theorem dX1_bestCount_42 : decode cX1_bestCount 42 = .ok (.lmul, 1) := by decide +kernel
theorem dX1_bestCount_43 : decode cX1_bestCount 43 = .ok (.lload 5, 2) := by decide +kernel
theorem dX1_bestCount_45 : decode cX1_bestCount 45 = .ok (.aload_n 0, 1) := by decide +kernel
theorem dX1_bestCount_46 : decode cX1_bestCount 46 = .ok (.iload_n 2, 1) := by decide +kernel
theorem dX1_bestCount_47 : decode cX1_bestCount 47 = .ok (.invokestatic 19, 3) := by decide +kernel
theorem dX1_bestCount_50 : decode cX1_bestCount 50 = .ok (.lmul, 1) := by decide +kernel
theorem dX1_bestCount_51 : decode cX1_bestCount 51 = .ok (.lcmp, 1) := by decide +kernel
theorem dX1_bestCount_52 : decode cX1_bestCount 52 = .ok (.ifCond .le 5, 3) := by decide +kernel
theorem dX1_bestCount_55 : decode cX1_bestCount 55 = .ok (.iload_n 2, 1) := by decide +kernel
theorem dX1_bestCount_56 : decode cX1_bestCount 56 = .ok (.istore_n 1, 1) := by decide +kernel
theorem dX1_bestCount_57 : decode cX1_bestCount 57 = .ok (.iinc 2 1, 3) := by decide +kernel
theorem dX1_bestCount_60 : decode cX1_bestCount 60 = .ok (.goto (-56), 3) := by decide +kernel
theorem dX1_bestCount_63 : decode cX1_bestCount 63 = .ok (.iload_n 1, 1) := by decide +kernel
theorem dX1_bestCount_64 : decode cX1_bestCount 64 = .ok (.ireturn, 1) := by decide +kernel
theorem dX1_rank_0 : decode cX1_rank 0 = .ok (.iconst 0, 1) := by decide +kernel
theorem dX1_rank_1 : decode cX1_rank 1 = .ok (.istore_n 2, 1) := by decide +kernel
theorem dX1_rank_2 : decode cX1_rank 2 = .ok (.aload_n 0, 1) := by decide +kernel
theorem dX1_rank_3 : decode cX1_rank 3 = .ok (.getfield 26, 3) := by decide +kernel
theorem dX1_rank_6 : decode cX1_rank 6 = .ok (.iload_n 1, 1) := by decide +kernel
theorem dX1_rank_7 : decode cX1_rank 7 = .ok (.iconst 1, 1) := by decide +kernel
theorem dX1_rank_8 : decode cX1_rank 8 = .ok (.invokevirtual 32, 3) := by decide +kernel
theorem dX1_rank_11 : decode cX1_rank 11 = .ok (.istore_n 3, 1) := by decide +kernel
theorem dX1_rank_12 : decode cX1_rank 12 = .ok (.iconst 0, 1) := by decide +kernel
theorem dX1_rank_13 : decode cX1_rank 13 = .ok (.istore 4, 2) := by decide +kernel
theorem dX1_rank_15 : decode cX1_rank 15 = .ok (.iload 4, 2) := by decide +kernel
theorem dX1_rank_17 : decode cX1_rank 17 = .ok (.aload_n 0, 1) := by decide +kernel
theorem dX1_rank_18 : decode cX1_rank 18 = .ok (.iconst 4, 1) := by decide +kernel
theorem dX1_rank_19 : decode cX1_rank 19 = .ok (.invokevirtual 42, 3) := by decide +kernel
theorem dX1_rank_22 : decode cX1_rank 22 = .ok (.if_icmp .ge 42, 3) := by decide +kernel
theorem dX1_rank_25 : decode cX1_rank 25 = .ok (.aload_n 0, 1) := by decide +kernel
theorem dX1_rank_26 : decode cX1_rank 26 = .ok (.getfield 26, 3) := by decide +kernel
theorem dX1_rank_29 : decode cX1_rank 29 = .ok (.iload 4, 2) := by decide +kernel
theorem dX1_rank_31 : decode cX1_rank 31 = .ok (.iconst 1, 1) := by decide +kernel
theorem dX1_rank_32 : decode cX1_rank 32 = .ok (.invokevirtual 32, 3) := by decide +kernel
theorem dX1_rank_35 : decode cX1_rank 35 = .ok (.istore 5, 2) := by decide +kernel
theorem dX1_rank_37 : decode cX1_rank 37 = .ok (.iload 5, 2) := by decide +kernel
theorem dX1_rank_39 : decode cX1_rank 39 = .ok (.iload_n 3, 1) := by decide +kernel
theorem dX1_rank_40 : decode cX1_rank 40 = .ok (.if_icmp .gt 15, 3) := by decide +kernel
theorem dX1_rank_43 : decode cX1_rank 43 = .ok (.iload 5, 2) := by decide +kernel
theorem dX1_rank_45 : decode cX1_rank 45 = .ok (.iload_n 3, 1) := by decide +kernel
theorem dX1_rank_46 : decode cX1_rank 46 = .ok (.if_icmp .ne 12, 3) := by decide +kernel
theorem dX1_rank_49 : decode cX1_rank 49 = .ok (.iload 4, 2) := by decide +kernel
theorem dX1_rank_51 : decode cX1_rank 51 = .ok (.iload_n 1, 1) := by decide +kernel
theorem dX1_rank_52 : decode cX1_rank 52 = .ok (.if_icmp .ge 6, 3) := by decide +kernel
theorem dX1_rank_55 : decode cX1_rank 55 = .ok (.iinc 2 1, 3) := by decide +kernel
theorem dX1_rank_58 : decode cX1_rank 58 = .ok (.iinc 4 1, 3) := by decide +kernel
theorem dX1_rank_61 : decode cX1_rank 61 = .ok (.goto (-46), 3) := by decide +kernel
theorem dX1_rank_64 : decode cX1_rank 64 = .ok (.iload_n 2, 1) := by decide +kernel
theorem dX1_rank_65 : decode cX1_rank 65 = .ok (.ireturn, 1) := by decide +kernel
theorem dX1_product_0 : decode cX1_product 0 = .ok (.lconst 1, 1) := by decide +kernel
theorem dX1_product_1 : decode cX1_product 1 = .ok (.lstore_n 2, 1) := by decide +kernel
theorem dX1_product_2 : decode cX1_product 2 = .ok (.iconst 0, 1) := by decide +kernel
theorem dX1_product_3 : decode cX1_product 3 = .ok (.istore 4, 2) := by decide +kernel
theorem dX1_product_5 : decode cX1_product 5 = .ok (.iload 4, 2) := by decide +kernel
theorem dX1_product_7 : decode cX1_product 7 = .ok (.aload_n 0, 1) := by decide +kernel
theorem dX1_product_8 : decode cX1_product 8 = .ok (.iconst 4, 1) := by decide +kernel
theorem dX1_product_9 : decode cX1_product 9 = .ok (.invokevirtual 42, 3) := by decide +kernel
theorem dX1_product_12 : decode cX1_product 12 = .ok (.if_icmp .ge 33, 3) := by decide +kernel
theorem dX1_product_15 : decode cX1_product 15 = .ok (.aload_n 0, 1) := by decide +kernel
theorem dX1_product_16 : decode cX1_product 16 = .ok (.iload 4, 2) := by decide +kernel
theorem dX1_product_18 : decode cX1_product 18 = .ok (.invokestatic 38, 3) := by decide +kernel
theorem dX1_product_21 : decode cX1_product 21 = .ok (.iload_n 1, 1) := by decide +kernel
theorem dX1_product_22 : decode cX1_product 22 = .ok (.if_icmp .ge 17, 3) := by decide +kernel
theorem dX1_product_25 : decode cX1_product 25 = .ok (.lload_n 2, 1) := by decide +kernel
theorem dX1_product_26 : decode cX1_product 26 = .ok (.aload_n 0, 1) := by decide +kernel
theorem dX1_product_27 : decode cX1_product 27 = .ok (.getfield 26, 3) := by decide +kernel
theorem dX1_product_30 : decode cX1_product 30 = .ok (.iload 4, 2) := by decide +kernel
theorem dX1_product_32 : decode cX1_product 32 = .ok (.iconst 1, 1) := by decide +kernel
theorem dX1_product_33 : decode cX1_product 33 = .ok (.invokevirtual 32, 3) := by decide +kernel
theorem dX1_product_36 : decode cX1_product 36 = .ok (.i2l, 1) := by decide +kernel
theorem dX1_product_37 : decode cX1_product 37 = .ok (.lmul, 1) := by decide +kernel
theorem dX1_product_38 : decode cX1_product 38 = .ok (.lstore_n 2, 1) := by decide +kernel
theorem dX1_product_39 : decode cX1_product 39 = .ok (.iinc 4 1, 3) := by decide +kernel
theorem dX1_product_42 : decode cX1_product 42 = .ok (.goto (-37), 3) := by decide +kernel
theorem dX1_product_45 : decode cX1_product 45 = .ok (.lload_n 2, 1) := by decide +kernel
theorem dX1_product_46 : decode cX1_product 46 = .ok (.lreturn, 1) := by decide +kernel
theorem dX1_sum_0 : decode cX1_sum 0 = .ok (.aload_n 0, 1) := by decide +kernel
theorem dX1_sum_1 : decode cX1_sum 1 = .ok (.iload_n 1, 1) := by decide +kernel
theorem dX1_sum_2 : decode cX1_sum 2 = .ok (.invokestatic 15, 3) := by decide +kernel
theorem dX1_sum_5 : decode cX1_sum 5 = .ok (.lstore_n 2, 1) := by decide +kernel
theorem dX1_sum_6 : decode cX1_sum 6 = .ok (.lconst 0, 1) := by decide +kernel
theorem dX1_sum_7 : decode cX1_sum 7 = .ok (.lstore 4, 2) := by decide +kernel
theorem dX1_sum_9 : decode cX1_sum 9 = .ok (.iconst 0, 1) := by decide +kernel
theorem dX1_sum_10 : decode cX1_sum 10 = .ok (.istore 6, 2) := by decide +kernel
theorem dX1_sum_12 : decode cX1_sum 12 = .ok (.iload 6, 2) := by decide +kernel
theorem dX1_sum_14 : decode cX1_sum 14 = .ok (.aload_n 0, 1) := by decide +kernel
theorem dX1_sum_15 : decode cX1_sum 15 = .ok (.iconst 4, 1) := by decide +kernel
theorem dX1_sum_16 : decode cX1_sum 16 = .ok (.invokevirtual 42, 3) := by decide +kernel
theorem dX1_sum_19 : decode cX1_sum 19 = .ok (.if_icmp .ge 46, 3) := by decide +kernel
theorem dX1_sum_22 : decode cX1_sum 22 = .ok (.aload_n 0, 1) := by decide +kernel
theorem dX1_sum_23 : decode cX1_sum 23 = .ok (.getfield 26, 3) := by decide +kernel
theorem dX1_sum_26 : decode cX1_sum 26 = .ok (.iload 6, 2) := by decide +kernel
theorem dX1_sum_28 : decode cX1_sum 28 = .ok (.iconst 1, 1) := by decide +kernel
theorem dX1_sum_29 : decode cX1_sum 29 = .ok (.invokevirtual 32, 3) := by decide +kernel
theorem dX1_sum_32 : decode cX1_sum 32 = .ok (.istore 7, 2) := by decide +kernel
theorem dX1_sum_34 : decode cX1_sum 34 = .ok (.iload 7, 2) := by decide +kernel
theorem dX1_sum_36 : decode cX1_sum 36 = .ok (.ifCond .le 23, 3) := by decide +kernel
theorem dX1_sum_39 : decode cX1_sum 39 = .ok (.aload_n 0, 1) := by decide +kernel
theorem dX1_sum_40 : decode cX1_sum 40 = .ok (.iload 6, 2) := by decide +kernel
theorem dX1_sum_42 : decode cX1_sum 42 = .ok (.invokestatic 38, 3) := by decide +kernel
theorem dX1_sum_45 : decode cX1_sum 45 = .ok (.iload_n 1, 1) := by decide +kernel
theorem dX1_sum_46 : decode cX1_sum 46 = .ok (.if_icmp .ge 13, 3) := by decide +kernel
theorem dX1_sum_49 : decode cX1_sum 49 = .ok (.lload 4, 2) := by decide +kernel
theorem dX1_sum_51 : decode cX1_sum 51 = .ok (.lload_n 2, 1) := by decide +kernel
theorem dX1_sum_52 : decode cX1_sum 52 = .ok (.iload 7, 2) := by decide +kernel
theorem dX1_sum_54 : decode cX1_sum 54 = .ok (.i2l, 1) := by decide +kernel
theorem dX1_sum_55 : decode cX1_sum 55 = .ok (.ldiv, 1) := by decide +kernel
theorem dX1_sum_56 : decode cX1_sum 56 = .ok (.ladd, 1) := by decide +kernel
theorem dX1_sum_57 : decode cX1_sum 57 = .ok (.lstore 4, 2) := by decide +kernel
theorem dX1_sum_59 : decode cX1_sum 59 = .ok (.iinc 6 1, 3) := by decide +kernel
theorem dX1_sum_62 : decode cX1_sum 62 = .ok (.goto (-50), 3) := by decide +kernel
theorem dX1_sum_65 : decode cX1_sum 65 = .ok (.lload 4, 2) := by decide +kernel
theorem dX1_sum_67 : decode cX1_sum 67 = .ok (.lreturn, 1) := by decide +kernel
theorem dX1_bestSteps_0 : decode cX1_bestSteps 0 = .ok (.iconst 0, 1) := by decide +kernel
theorem dX1_bestSteps_1 : decode cX1_bestSteps 1 = .ok (.istore_n 1, 1) := by decide +kernel
theorem dX1_bestSteps_2 : decode cX1_bestSteps 2 = .ok (.iconst 1, 1) := by decide +kernel
theorem dX1_bestSteps_3 : decode cX1_bestSteps 3 = .ok (.istore_n 2, 1) := by decide +kernel
theorem dX1_bestSteps_4 : decode cX1_bestSteps 4 = .ok (.iload_n 2, 1) := by decide +kernel
theorem dX1_bestSteps_5 : decode cX1_bestSteps 5 = .ok (.bipush 8, 2) := by decide +kernel
theorem dX1_bestSteps_7 : decode cX1_bestSteps 7 = .ok (.if_icmp .gt 25, 3) := by decide +kernel
theorem dX1_bestSteps_10 : decode cX1_bestSteps 10 = .ok (.iload_n 2, 1) := by decide +kernel
theorem dX1_bestSteps_11 : decode cX1_bestSteps 11 = .ok (.iload_n 0, 1) := by decide +kernel
theorem dX1_bestSteps_12 : decode cX1_bestSteps 12 = .ok (.invokestatic 46, 3) := by decide +kernel
theorem dX1_bestSteps_15 : decode cX1_bestSteps 15 = .ok (.iload_n 1, 1) := by decide +kernel
theorem dX1_bestSteps_16 : decode cX1_bestSteps 16 = .ok (.iload_n 0, 1) := by decide +kernel
theorem dX1_bestSteps_17 : decode cX1_bestSteps 17 = .ok (.invokestatic 46, 3) := by decide +kernel
theorem dX1_bestSteps_20 : decode cX1_bestSteps 20 = .ok (.lcmp, 1) := by decide +kernel
theorem dX1_bestSteps_21 : decode cX1_bestSteps 21 = .ok (.ifCond .le 5, 3) := by decide +kernel
theorem dX1_bestSteps_24 : decode cX1_bestSteps 24 = .ok (.iload_n 2, 1) := by decide +kernel
theorem dX1_bestSteps_25 : decode cX1_bestSteps 25 = .ok (.istore_n 1, 1) := by decide +kernel
theorem dX1_bestSteps_26 : decode cX1_bestSteps 26 = .ok (.iinc 2 1, 3) := by decide +kernel
theorem dX1_bestSteps_29 : decode cX1_bestSteps 29 = .ok (.goto (-25), 3) := by decide +kernel
theorem dX1_bestSteps_32 : decode cX1_bestSteps 32 = .ok (.iload_n 1, 1) := by decide +kernel
theorem dX1_bestSteps_33 : decode cX1_bestSteps 33 = .ok (.ireturn, 1) := by decide +kernel
theorem dX1_bestMean_0 : decode cX1_bestMean 0 = .ok (.iload_n 0, 1) := by decide +kernel
theorem dX1_bestMean_1 : decode cX1_bestMean 1 = .ok (.invokestatic 50, 3) := by decide +kernel
theorem dX1_bestMean_4 : decode cX1_bestMean 4 = .ok (.istore_n 2, 1) := by decide +kernel
theorem dX1_bestMean_5 : decode cX1_bestMean 5 = .ok (.iload_n 2, 1) := by decide +kernel
theorem dX1_bestMean_6 : decode cX1_bestMean 6 = .ok (.i2l, 1) := by decide +kernel
theorem dX1_bestMean_7 : decode cX1_bestMean 7 = .ok (.bipush 100, 2) := by decide +kernel
theorem dX1_bestMean_9 : decode cX1_bestMean 9 = .ok (.iload_n 0, 1) := by decide +kernel
theorem dX1_bestMean_10 : decode cX1_bestMean 10 = .ok (.isub, 1) := by decide +kernel
theorem dX1_bestMean_11 : decode cX1_bestMean 11 = .ok (.i2l, 1) := by decide +kernel
theorem dX1_bestMean_12 : decode cX1_bestMean 12 = .ok (.iload_n 2, 1) := by decide +kernel
theorem dX1_bestMean_13 : decode cX1_bestMean 13 = .ok (.invokestatic 53, 3) := by decide +kernel
theorem dX1_bestMean_16 : decode cX1_bestMean 16 = .ok (.lmul, 1) := by decide +kernel
theorem dX1_bestMean_17 : decode cX1_bestMean 17 = .ok (.ldc2_w 57, 3) := by decide +kernel
theorem dX1_bestMean_20 : decode cX1_bestMean 20 = .ok (.iload_n 2, 1) := by decide +kernel
theorem dX1_bestMean_21 : decode cX1_bestMean 21 = .ok (.invokestatic 53, 3) := by decide +kernel
theorem dX1_bestMean_24 : decode cX1_bestMean 24 = .ok (.iload_n 1, 1) := by decide +kernel
theorem dX1_bestMean_25 : decode cX1_bestMean 25 = .ok (.invokestatic 22, 3) := by decide +kernel
theorem dX1_bestMean_28 : decode cX1_bestMean 28 = .ok (.lreturn, 1) := by decide +kernel
theorem dX1_scaledMean_0 : decode cX1_scaledMean 0 = .ok (.iload_n 0, 1) := by decide +kernel
theorem dX1_scaledMean_1 : decode cX1_scaledMean 1 = .ok (.i2l, 1) := by decide +kernel
theorem dX1_scaledMean_2 : decode cX1_scaledMean 2 = .ok (.bipush 100, 2) := by decide +kernel
theorem dX1_scaledMean_4 : decode cX1_scaledMean 4 = .ok (.iload_n 1, 1) := by decide +kernel
theorem dX1_scaledMean_5 : decode cX1_scaledMean 5 = .ok (.isub, 1) := by decide +kernel
theorem dX1_scaledMean_6 : decode cX1_scaledMean 6 = .ok (.i2l, 1) := by decide +kernel
theorem dX1_scaledMean_7 : decode cX1_scaledMean 7 = .ok (.iload_n 0, 1) := by decide +kernel
theorem dX1_scaledMean_8 : decode cX1_scaledMean 8 = .ok (.invokestatic 53, 3) := by decide +kernel
theorem dX1_scaledMean_11 : decode cX1_scaledMean 11 = .ok (.lmul, 1) := by decide +kernel
theorem dX1_scaledMean_12 : decode cX1_scaledMean 12 = .ok (.ldc2_w 57, 3) := by decide +kernel
theorem dX1_scaledMean_15 : decode cX1_scaledMean 15 = .ok (.bipush 8, 2) := by decide +kernel
theorem dX1_scaledMean_17 : decode cX1_scaledMean 17 = .ok (.iload_n 0, 1) := by decide +kernel
theorem dX1_scaledMean_18 : decode cX1_scaledMean 18 = .ok (.isub, 1) := by decide +kernel
theorem dX1_scaledMean_19 : decode cX1_scaledMean 19 = .ok (.invokestatic 53, 3) := by decide +kernel
theorem dX1_scaledMean_22 : decode cX1_scaledMean 22 = .ok (.lmul, 1) := by decide +kernel
theorem dX1_scaledMean_23 : decode cX1_scaledMean 23 = .ok (.lreturn, 1) := by decide +kernel
theorem dX1_power_0 : decode cX1_power 0 = .ok (.lconst 1, 1) := by decide +kernel
theorem dX1_power_1 : decode cX1_power 1 = .ok (.lstore_n 3, 1) := by decide +kernel
theorem dX1_power_2 : decode cX1_power 2 = .ok (.iconst 0, 1) := by decide +kernel
theorem dX1_power_3 : decode cX1_power 3 = .ok (.istore 5, 2) := by decide +kernel
theorem dX1_power_5 : decode cX1_power 5 = .ok (.iload 5, 2) := by decide +kernel
theorem dX1_power_7 : decode cX1_power 7 = .ok (.iload_n 2, 1) := by decide +kernel
theorem dX1_power_8 : decode cX1_power 8 = .ok (.if_icmp .ge 13, 3) := by decide +kernel
theorem dX1_power_11 : decode cX1_power 11 = .ok (.lload_n 3, 1) := by decide +kernel
theorem dX1_power_12 : decode cX1_power 12 = .ok (.lload_n 0, 1) := by decide +kernel
theorem dX1_power_13 : decode cX1_power 13 = .ok (.lmul, 1) := by decide +kernel
theorem dX1_power_14 : decode cX1_power 14 = .ok (.lstore_n 3, 1) := by decide +kernel
theorem dX1_power_15 : decode cX1_power 15 = .ok (.iinc 5 1, 3) := by decide +kernel
theorem dX1_power_18 : decode cX1_power 18 = .ok (.goto (-13), 3) := by decide +kernel
theorem dX1_power_21 : decode cX1_power 21 = .ok (.lload_n 3, 1) := by decide +kernel
theorem dX1_power_22 : decode cX1_power 22 = .ok (.lreturn, 1) := by decide +kernel
theorem dX2_init_0 : decode cX2_init 0 = .ok (.aload_n 0, 1) := by decide +kernel
theorem dX2_init_1 : decode cX2_init 1 = .ok (.invokespecial 3, 3) := by decide +kernel
theorem dX2_init_4 : decode cX2_init 4 = .ok (.aload_n 0, 1) := by decide +kernel
theorem dX2_init_5 : decode cX2_init 5 = .ok (.new 9, 3) := by decide +kernel
theorem dX2_init_8 : decode cX2_init 8 = .ok (.dup, 1) := by decide +kernel
theorem dX2_init_9 : decode cX2_init 9 = .ok (.iconst 1, 1) := by decide +kernel
theorem dX2_init_10 : decode cX2_init 10 = .ok (.iconst 4, 1) := by decide +kernel
theorem dX2_init_11 : decode cX2_init 11 = .ok (.invokespecial 11, 3) := by decide +kernel
theorem dX2_init_14 : decode cX2_init 14 = .ok (.putfield 14, 3) := by decide +kernel
theorem dX2_init_17 : decode cX2_init 17 = .ok (.aload_n 0, 1) := by decide +kernel
theorem dX2_init_18 : decode cX2_init 18 = .ok (.new 9, 3) := by decide +kernel
theorem dX2_init_21 : decode cX2_init 21 = .ok (.dup, 1) := by decide +kernel
theorem dX2_init_22 : decode cX2_init 22 = .ok (.iconst 1, 1) := by decide +kernel
theorem dX2_init_23 : decode cX2_init 23 = .ok (.iconst 4, 1) := by decide +kernel
theorem dX2_init_24 : decode cX2_init 24 = .ok (.invokespecial 11, 3) := by decide +kernel
theorem dX2_init_27 : decode cX2_init 27 = .ok (.putfield 20, 3) := by decide +kernel
theorem dX2_init_30 : decode cX2_init 30 = .ok (.aload_n 0, 1) := by decide +kernel
theorem dX2_init_31 : decode cX2_init 31 = .ok (.iconst 0, 1) := by decide +kernel
theorem dX2_init_32 : decode cX2_init 32 = .ok (.putfield 23, 3) := by decide +kernel
theorem dX2_init_35 : decode cX2_init 35 = .ok (.aload_n 0, 1) := by decide +kernel
theorem dX2_init_36 : decode cX2_init 36 = .ok (.iconst (-1), 1) := by decide +kernel
theorem dX2_init_37 : decode cX2_init 37 = .ok (.putfield 27, 3) := by decide +kernel
theorem dX2_init_40 : decode cX2_init 40 = .ok (.return_, 1) := by decide +kernel
theorem dX2_rowCount_0 : decode cX2_rowCount 0 = .ok (.aload_n 0, 1) := by decide +kernel
theorem dX2_rowCount_1 : decode cX2_rowCount 1 = .ok (.getfield 23, 3) := by decide +kernel
theorem dX2_rowCount_4 : decode cX2_rowCount 4 = .ok (.ireturn, 1) := by decide +kernel
theorem dX2_firstTramOf_0 : decode cX2_firstTramOf 0 = .ok (.aload_n 1, 1) := by decide +kernel
theorem dX2_firstTramOf_1 : decode cX2_firstTramOf 1 = .ok (.iconst 4, 1) := by decide +kernel
theorem dX2_firstTramOf_2 : decode cX2_firstTramOf 2 = .ok (.invokevirtual 30, 3) := by decide +kernel
theorem dX2_firstTramOf_5 : decode cX2_firstTramOf 5 = .ok (.istore_n 3, 1) := by decide +kernel
theorem dX2_firstTramOf_6 : decode cX2_firstTramOf 6 = .ok (.aload_n 0, 1) := by decide +kernel
theorem dX2_firstTramOf_7 : decode cX2_firstTramOf 7 = .ok (.getfield 27, 3) := by decide +kernel
theorem dX2_firstTramOf_10 : decode cX2_firstTramOf 10 = .ok (.ifCond .lt 7, 3) := by decide +kernel
theorem dX2_firstTramOf_13 : decode cX2_firstTramOf 13 = .ok (.iload_n 3, 1) := by decide +kernel
theorem dX2_firstTramOf_14 : decode cX2_firstTramOf 14 = .ok (.ifCond .gt 6, 3) := by decide +kernel
theorem dX2_firstTramOf_17 : decode cX2_firstTramOf 17 = .ok (.bipush (-2), 2) := by decide +kernel
theorem dX2_firstTramOf_19 : decode cX2_firstTramOf 19 = .ok (.ireturn, 1) := by decide +kernel
theorem dX2_firstTramOf_20 : decode cX2_firstTramOf 20 = .ok (.aload_n 0, 1) := by decide +kernel
theorem dX2_firstTramOf_21 : decode cX2_firstTramOf 21 = .ok (.getfield 27, 3) := by decide +kernel
theorem dX2_firstTramOf_24 : decode cX2_firstTramOf 24 = .ok (.istore 4, 2) := by decide +kernel
theorem dX2_firstTramOf_26 : decode cX2_firstTramOf 26 = .ok (.aload_n 1, 1) := by decide +kernel
theorem dX2_firstTramOf_27 : decode cX2_firstTramOf 27 = .ok (.iconst 3, 1) := by decide +kernel
theorem dX2_firstTramOf_28 : decode cX2_firstTramOf 28 = .ok (.invokevirtual 30, 3) := by decide +kernel
theorem dX2_firstTramOf_31 : decode cX2_firstTramOf 31 = .ok (.iconst 1, 1) := by decide +kernel
theorem dX2_firstTramOf_32 : decode cX2_firstTramOf 32 = .ok (.isub, 1) := by decide +kernel
theorem dX2_firstTramOf_33 : decode cX2_firstTramOf 33 = .ok (.istore 5, 2) := by decide +kernel
theorem dX2_firstTramOf_35 : decode cX2_firstTramOf 35 = .ok (.iload 5, 2) := by decide +kernel
theorem dX2_firstTramOf_37 : decode cX2_firstTramOf 37 = .ok (.iload_n 2, 1) := by decide +kernel
theorem dX2_firstTramOf_38 : decode cX2_firstTramOf 38 = .ok (.if_icmp .le 15, 3) := by decide +kernel
theorem dX2_firstTramOf_41 : decode cX2_firstTramOf 41 = .ok (.iload 4, 2) := by decide +kernel
theorem dX2_firstTramOf_43 : decode cX2_firstTramOf 43 = .ok (.iload_n 3, 1) := by decide +kernel
theorem dX2_firstTramOf_44 : decode cX2_firstTramOf 44 = .ok (.idiv, 1) := by decide +kernel
theorem dX2_firstTramOf_45 : decode cX2_firstTramOf 45 = .ok (.istore 4, 2) := by decide +kernel
theorem dX2_firstTramOf_47 : decode cX2_firstTramOf 47 = .ok (.iinc 5 (-1), 3) := by decide +kernel
theorem dX2_firstTramOf_50 : decode cX2_firstTramOf 50 = .ok (.goto (-15), 3) := by decide +kernel
theorem dX2_firstTramOf_53 : decode cX2_firstTramOf 53 = .ok (.iload 4, 2) := by decide +kernel
theorem dX2_firstTramOf_55 : decode cX2_firstTramOf 55 = .ok (.iload_n 3, 1) := by decide +kernel
theorem dX2_firstTramOf_56 : decode cX2_firstTramOf 56 = .ok (.irem, 1) := by decide +kernel
theorem dX2_firstTramOf_57 : decode cX2_firstTramOf 57 = .ok (.ireturn, 1) := by decide +kernel
theorem dX2_find_0 : decode cX2_find 0 = .ok (.aload_n 0, 1) := by decide +kernel
theorem dX2_find_1 : decode cX2_find 1 = .ok (.iconst 0, 1) := by decide +kernel
theorem dX2_find_2 : decode cX2_find 2 = .ok (.putfield 23, 3) := by decide +kernel
theorem dX2_find_5 : decode cX2_find 5 = .ok (.aload_n 0, 1) := by decide +kernel
theorem dX2_find_6 : decode cX2_find 6 = .ok (.iconst (-1), 1) := by decide +kernel
theorem dX2_find_7 : decode cX2_find 7 = .ok (.putfield 27, 3) := by decide +kernel
theorem dX2_find_10 : decode cX2_find 10 = .ok (.aload_n 0, 1) := by decide +kernel
theorem dX2_find_11 : decode cX2_find 11 = .ok (.aload_n 1, 1) := by decide +kernel
theorem dX2_find_12 : decode cX2_find 12 = .ok (.iload_n 2, 1) := by decide +kernel
theorem dX2_find_13 : decode cX2_find 13 = .ok (.invokevirtual 36, 3) := by decide +kernel
theorem dX2_find_16 : decode cX2_find 16 = .ok (.iconst 1, 1) := by decide +kernel
theorem dX2_find_17 : decode cX2_find 17 = .ok (.istore_n 3, 1) := by decide +kernel
theorem dX2_find_18 : decode cX2_find 18 = .ok (.iconst 0, 1) := by decide +kernel
theorem dX2_find_19 : decode cX2_find 19 = .ok (.istore 4, 2) := by decide +kernel
theorem dX2_find_21 : decode cX2_find 21 = .ok (.iload 4, 2) := by decide +kernel
theorem dX2_find_23 : decode cX2_find 23 = .ok (.aload_n 1, 1) := by decide +kernel
theorem dX2_find_24 : decode cX2_find 24 = .ok (.iconst 3, 1) := by decide +kernel
theorem dX2_find_25 : decode cX2_find 25 = .ok (.invokevirtual 30, 3) := by decide +kernel
theorem dX2_find_28 : decode cX2_find 28 = .ok (.if_icmp .ge 17, 3) := by decide +kernel
theorem dX2_find_31 : decode cX2_find 31 = .ok (.iload_n 3, 1) := by decide +kernel
theorem dX2_find_32 : decode cX2_find 32 = .ok (.aload_n 1, 1) := by decide +kernel
theorem dX2_find_33 : decode cX2_find 33 = .ok (.iconst 4, 1) := by decide +kernel
theorem dX2_find_34 : decode cX2_find 34 = .ok (.invokevirtual 30, 3) := by decide +kernel
theorem dX2_find_37 : decode cX2_find 37 = .ok (.imul, 1) := by decide +kernel
theorem dX2_find_38 : decode cX2_find 38 = .ok (.istore_n 3, 1) := by decide +kernel
theorem dX2_find_39 : decode cX2_find 39 = .ok (.iinc 4 1, 3) := by decide +kernel
theorem dX2_find_42 : decode cX2_find 42 = .ok (.goto (-21), 3) := by decide +kernel
theorem dX2_find_45 : decode cX2_find 45 = .ok (.iconst 0, 1) := by decide +kernel
theorem dX2_find_46 : decode cX2_find 46 = .ok (.istore 4, 2) := by decide +kernel
theorem dX2_find_48 : decode cX2_find 48 = .ok (.iload 4, 2) := by decide +kernel
theorem dX2_find_50 : decode cX2_find 50 = .ok (.iload_n 3, 1) := by decide +kernel
theorem dX2_find_51 : decode cX2_find 51 = .ok (.if_icmp .ge 58, 3) := by decide +kernel
theorem dX2_find_54 : decode cX2_find 54 = .ok (.aload_n 0, 1) := by decide +kernel
theorem dX2_find_55 : decode cX2_find 55 = .ok (.aload_n 1, 1) := by decide +kernel
theorem dX2_find_56 : decode cX2_find 56 = .ok (.iload 4, 2) := by decide +kernel
theorem dX2_find_58 : decode cX2_find 58 = .ok (.invokevirtual 40, 3) := by decide +kernel
theorem dX2_find_61 : decode cX2_find 61 = .ok (.aload_n 0, 1) := by decide +kernel
theorem dX2_find_62 : decode cX2_find 62 = .ok (.aload_n 1, 1) := by decide +kernel
theorem dX2_find_63 : decode cX2_find 63 = .ok (.iconst 4, 1) := by decide +kernel
theorem dX2_find_64 : decode cX2_find 64 = .ok (.invokevirtual 30, 3) := by decide +kernel
theorem dX2_find_67 : decode cX2_find 67 = .ok (.invokevirtual 43, 3) := by decide +kernel
theorem dX2_find_70 : decode cX2_find 70 = .ok (.ifCond .eq 33, 3) := by decide +kernel
theorem dX2_find_73 : decode cX2_find 73 = .ok (.aload_n 0, 1) := by decide +kernel
theorem dX2_find_74 : decode cX2_find 74 = .ok (.dup, 1) := by decide +kernel
theorem dX2_find_75 : decode cX2_find 75 = .ok (.getfield 23, 3) := by decide +kernel
theorem dX2_find_78 : decode cX2_find 78 = .ok (.iconst 1, 1) := by decide +kernel
theorem dX2_find_79 : decode cX2_find 79 = .ok (.iadd, 1) := by decide +kernel
theorem dX2_find_80 : decode cX2_find 80 = .ok (.putfield 23, 3) := by decide +kernel
theorem dX2_find_83 : decode cX2_find 83 = .ok (.aload_n 0, 1) := by decide +kernel
theorem dX2_find_84 : decode cX2_find 84 = .ok (.aload_n 0, 1) := by decide +kernel
theorem dX2_find_85 : decode cX2_find 85 = .ok (.getfield 27, 3) := by decide +kernel
theorem dX2_find_88 : decode cX2_find 88 = .ok (.ifCond .ge 8, 3) := by decide +kernel
theorem dX2_find_91 : decode cX2_find 91 = .ok (.iload 4, 2) := by decide +kernel
theorem dX2_find_93 : decode cX2_find 93 = .ok (.goto 7, 3) := by decide +kernel
theorem dX2_find_96 : decode cX2_find 96 = .ok (.aload_n 0, 1) := by decide +kernel
theorem dX2_find_97 : decode cX2_find 97 = .ok (.getfield 27, 3) := by decide +kernel
theorem dX2_find_100 : decode cX2_find 100 = .ok (.putfield 27, 3) := by decide +kernel
theorem dX2_find_103 : decode cX2_find 103 = .ok (.iinc 4 1, 3) := by decide +kernel
theorem dX2_find_106 : decode cX2_find 106 = .ok (.goto (-58), 3) := by decide +kernel
theorem dX2_find_109 : decode cX2_find 109 = .ok (.return_, 1) := by decide +kernel
theorem dX2_countGivers_0 : decode cX2_countGivers 0 = .ok (.aload_n 0, 1) := by decide +kernel
theorem dX2_countGivers_1 : decode cX2_countGivers 1 = .ok (.getfield 14, 3) := by decide +kernel
theorem dX2_countGivers_4 : decode cX2_countGivers 4 = .ok (.iconst 0, 1) := by decide +kernel
theorem dX2_countGivers_5 : decode cX2_countGivers 5 = .ok (.invokevirtual 47, 3) := by decide +kernel
theorem dX2_countGivers_8 : decode cX2_countGivers 8 = .ok (.iconst 0, 1) := by decide +kernel
theorem dX2_countGivers_9 : decode cX2_countGivers 9 = .ok (.istore_n 3, 1) := by decide +kernel
theorem dX2_countGivers_10 : decode cX2_countGivers 10 = .ok (.iload_n 3, 1) := by decide +kernel
theorem dX2_countGivers_11 : decode cX2_countGivers 11 = .ok (.aload_n 1, 1) := by decide +kernel
theorem dX2_countGivers_12 : decode cX2_countGivers 12 = .ok (.iconst 5, 1) := by decide +kernel
theorem dX2_countGivers_13 : decode cX2_countGivers 13 = .ok (.invokevirtual 30, 3) := by decide +kernel
theorem dX2_countGivers_16 : decode cX2_countGivers 16 = .ok (.if_icmp .ge 27, 3) := by decide +kernel
theorem dX2_countGivers_19 : decode cX2_countGivers 19 = .ok (.aload_n 0, 1) := by decide +kernel
theorem dX2_countGivers_20 : decode cX2_countGivers 20 = .ok (.getfield 14, 3) := by decide +kernel
theorem dX2_countGivers_23 : decode cX2_countGivers 23 = .ok (.iconst 0, 1) := by decide +kernel
theorem dX2_countGivers_24 : decode cX2_countGivers 24 = .ok (.aload_n 1, 1) := by decide +kernel
theorem dX2_countGivers_25 : decode cX2_countGivers 25 = .ok (.getfield 51, 3) := by decide +kernel
theorem dX2_countGivers_28 : decode cX2_countGivers 28 = .ok (.iload_n 3, 1) := by decide +kernel
theorem dX2_countGivers_29 : decode cX2_countGivers 29 = .ok (.iload_n 2, 1) := by decide +kernel
theorem dX2_countGivers_30 : decode cX2_countGivers 30 = .ok (.invokevirtual 54, 3) := by decide +kernel
theorem dX2_countGivers_33 : decode cX2_countGivers 33 = .ok (.iconst 1, 1) := by decide +kernel
theorem dX2_countGivers_34 : decode cX2_countGivers 34 = .ok (.invokevirtual 58, 3) := by decide +kernel
theorem dX2_countGivers_37 : decode cX2_countGivers 37 = .ok (.iinc 3 1, 3) := by decide +kernel
theorem dX2_countGivers_40 : decode cX2_countGivers 40 = .ok (.goto (-30), 3) := by decide +kernel
theorem dX2_countGivers_43 : decode cX2_countGivers 43 = .ok (.return_, 1) := by decide +kernel
theorem dX2_seat_0 : decode cX2_seat 0 = .ok (.aload_n 1, 1) := by decide +kernel
theorem dX2_seat_1 : decode cX2_seat 1 = .ok (.iconst 4, 1) := by decide +kernel
theorem dX2_seat_2 : decode cX2_seat 2 = .ok (.invokevirtual 30, 3) := by decide +kernel
theorem dX2_seat_5 : decode cX2_seat 5 = .ok (.istore_n 3, 1) := by decide +kernel
theorem dX2_seat_6 : decode cX2_seat 6 = .ok (.iload_n 3, 1) := by decide +kernel
theorem dX2_seat_7 : decode cX2_seat 7 = .ok (.ifCond .gt 4, 3) := by decide +kernel
theorem dX2_seat_10 : decode cX2_seat 10 = .ok (.return_, 1) := by decide +kernel
theorem dX2_seat_11 : decode cX2_seat 11 = .ok (.aload_n 0, 1) := by decide +kernel
theorem dX2_seat_12 : decode cX2_seat 12 = .ok (.getfield 20, 3) := by decide +kernel
theorem dX2_seat_15 : decode cX2_seat 15 = .ok (.iconst 0, 1) := by decide +kernel
theorem dX2_seat_16 : decode cX2_seat 16 = .ok (.invokevirtual 47, 3) := by decide +kernel
theorem dX2_seat_19 : decode cX2_seat 19 = .ok (.iload_n 2, 1) := by decide +kernel
theorem dX2_seat_20 : decode cX2_seat 20 = .ok (.istore 4, 2) := by decide +kernel
theorem dX2_seat_22 : decode cX2_seat 22 = .ok (.iconst 0, 1) := by decide +kernel
theorem dX2_seat_23 : decode cX2_seat 23 = .ok (.istore 5, 2) := by decide +kernel
theorem dX2_seat_25 : decode cX2_seat 25 = .ok (.iload 5, 2) := by decide +kernel
theorem dX2_seat_27 : decode cX2_seat 27 = .ok (.aload_n 1, 1) := by decide +kernel
theorem dX2_seat_28 : decode cX2_seat 28 = .ok (.iconst 3, 1) := by decide +kernel
theorem dX2_seat_29 : decode cX2_seat 29 = .ok (.invokevirtual 30, 3) := by decide +kernel
theorem dX2_seat_32 : decode cX2_seat 32 = .ok (.if_icmp .ge 28, 3) := by decide +kernel
theorem dX2_seat_35 : decode cX2_seat 35 = .ok (.aload_n 0, 1) := by decide +kernel
theorem dX2_seat_36 : decode cX2_seat 36 = .ok (.getfield 20, 3) := by decide +kernel
theorem dX2_seat_39 : decode cX2_seat 39 = .ok (.iconst 0, 1) := by decide +kernel
theorem dX2_seat_40 : decode cX2_seat 40 = .ok (.iload 4, 2) := by decide +kernel
theorem dX2_seat_42 : decode cX2_seat 42 = .ok (.iload_n 3, 1) := by decide +kernel
theorem dX2_seat_43 : decode cX2_seat 43 = .ok (.irem, 1) := by decide +kernel
theorem dX2_seat_44 : decode cX2_seat 44 = .ok (.iconst 1, 1) := by decide +kernel
theorem dX2_seat_45 : decode cX2_seat 45 = .ok (.invokevirtual 58, 3) := by decide +kernel
theorem dX2_seat_48 : decode cX2_seat 48 = .ok (.iload 4, 2) := by decide +kernel
theorem dX2_seat_50 : decode cX2_seat 50 = .ok (.iload_n 3, 1) := by decide +kernel
theorem dX2_seat_51 : decode cX2_seat 51 = .ok (.idiv, 1) := by decide +kernel
theorem dX2_seat_52 : decode cX2_seat 52 = .ok (.istore 4, 2) := by decide +kernel
theorem dX2_seat_54 : decode cX2_seat 54 = .ok (.iinc 5 1, 3) := by decide +kernel
theorem dX2_seat_57 : decode cX2_seat 57 = .ok (.goto (-32), 3) := by decide +kernel
theorem dX2_seat_60 : decode cX2_seat 60 = .ok (.return_, 1) := by decide +kernel
theorem dX2_isRest_0 : decode cX2_isRest 0 = .ok (.sipush 180, 3) := by decide +kernel
theorem dX2_isRest_3 : decode cX2_isRest 3 = .ok (.istore_n 2, 1) := by decide +kernel
theorem dX2_isRest_4 : decode cX2_isRest 4 = .ok (.iconst 0, 1) := by decide +kernel
theorem dX2_isRest_5 : decode cX2_isRest 5 = .ok (.istore_n 3, 1) := by decide +kernel
theorem dX2_isRest_6 : decode cX2_isRest 6 = .ok (.iconst 0, 1) := by decide +kernel
theorem dX2_isRest_7 : decode cX2_isRest 7 = .ok (.istore 4, 2) := by decide +kernel
theorem dX2_isRest_9 : decode cX2_isRest 9 = .ok (.iload 4, 2) := by decide +kernel
theorem dX2_isRest_11 : decode cX2_isRest 11 = .ok (.iload_n 1, 1) := by decide +kernel
theorem dX2_isRest_12 : decode cX2_isRest 12 = .ok (.if_icmp .ge 54, 3) := by decide +kernel
theorem dX2_isRest_15 : decode cX2_isRest 15 = .ok (.aload_n 0, 1) := by decide +kernel
theorem dX2_isRest_16 : decode cX2_isRest 16 = .ok (.getfield 20, 3) := by decide +kernel
theorem dX2_isRest_19 : decode cX2_isRest 19 = .ok (.iconst 0, 1) := by decide +kernel
theorem dX2_isRest_20 : decode cX2_isRest 20 = .ok (.iload 4, 2) := by decide +kernel
theorem dX2_isRest_22 : decode cX2_isRest 22 = .ok (.invokevirtual 54, 3) := by decide +kernel
theorem dX2_isRest_25 : decode cX2_isRest 25 = .ok (.istore 5, 2) := by decide +kernel
theorem dX2_isRest_27 : decode cX2_isRest 27 = .ok (.iload 5, 2) := by decide +kernel
theorem dX2_isRest_29 : decode cX2_isRest 29 = .ok (.ifCond .le 16, 3) := by decide +kernel
theorem dX2_isRest_32 : decode cX2_isRest 32 = .ok (.iload_n 2, 1) := by decide +kernel
theorem dX2_isRest_33 : decode cX2_isRest 33 = .ok (.aload_n 0, 1) := by decide +kernel
theorem dX2_isRest_34 : decode cX2_isRest 34 = .ok (.iload 4, 2) := by decide +kernel
theorem dX2_isRest_36 : decode cX2_isRest 36 = .ok (.iload 5, 2) := by decide +kernel
theorem dX2_isRest_38 : decode cX2_isRest 38 = .ok (.invokevirtual 62, 3) := by decide +kernel
theorem dX2_isRest_41 : decode cX2_isRest 41 = .ok (.invokestatic 65, 3) := by decide +kernel
theorem dX2_isRest_44 : decode cX2_isRest 44 = .ok (.istore_n 2, 1) := by decide +kernel
theorem dX2_isRest_45 : decode cX2_isRest 45 = .ok (.iload_n 3, 1) := by decide +kernel
theorem dX2_isRest_46 : decode cX2_isRest 46 = .ok (.aload_n 0, 1) := by decide +kernel
theorem dX2_isRest_47 : decode cX2_isRest 47 = .ok (.iload 4, 2) := by decide +kernel
theorem dX2_isRest_49 : decode cX2_isRest 49 = .ok (.iload 5, 2) := by decide +kernel
theorem dX2_isRest_51 : decode cX2_isRest 51 = .ok (.iconst 1, 1) := by decide +kernel
theorem dX2_isRest_52 : decode cX2_isRest 52 = .ok (.iadd, 1) := by decide +kernel
theorem dX2_isRest_53 : decode cX2_isRest 53 = .ok (.invokevirtual 62, 3) := by decide +kernel
theorem dX2_isRest_56 : decode cX2_isRest 56 = .ok (.invokestatic 70, 3) := by decide +kernel
theorem dX2_isRest_59 : decode cX2_isRest 59 = .ok (.istore_n 3, 1) := by decide +kernel
theorem dX2_isRest_60 : decode cX2_isRest 60 = .ok (.iinc 4 1, 3) := by decide +kernel
theorem dX2_isRest_63 : decode cX2_isRest 63 = .ok (.goto (-54), 3) := by decide +kernel
theorem dX2_isRest_66 : decode cX2_isRest 66 = .ok (.iload_n 2, 1) := by decide +kernel
theorem dX2_isRest_67 : decode cX2_isRest 67 = .ok (.iload_n 3, 1) := by decide +kernel
theorem dX2_isRest_68 : decode cX2_isRest 68 = .ok (.if_icmp .lt 7, 3) := by decide +kernel
theorem dX2_isRest_71 : decode cX2_isRest 71 = .ok (.iconst 1, 1) := by decide +kernel
theorem dX2_isRest_72 : decode cX2_isRest 72 = .ok (.goto 4, 3) := by decide +kernel
theorem dX2_isRest_75 : decode cX2_isRest 75 = .ok (.iconst 0, 1) := by decide +kernel
theorem dX2_isRest_76 : decode cX2_isRest 76 = .ok (.ireturn, 1) := by decide +kernel
theorem dX2_share_0 : decode cX2_share 0 = .ok (.iload_n 2, 1) := by decide +kernel
theorem dX2_share_1 : decode cX2_share 1 = .ok (.ifCond .gt 7, 3) := by decide +kernel
theorem dX2_share_4 : decode cX2_share 4 = .ok (.iconst 0, 1) := by decide +kernel
theorem dX2_share_5 : decode cX2_share 5 = .ok (.goto 17, 3) := by decide +kernel
theorem dX2_share_8 : decode cX2_share 8 = .ok (.bipush 60, 2) := by decide +kernel
theorem dX2_share_10 : decode cX2_share 10 = .ok (.aload_n 0, 1) := by decide +kernel
theorem dX2_share_11 : decode cX2_share 11 = .ok (.getfield 14, 3) := by decide +kernel
theorem dX2_share_14 : decode cX2_share 14 = .ok (.iconst 0, 1) := by decide +kernel
theorem dX2_share_15 : decode cX2_share 15 = .ok (.iload_n 1, 1) := by decide +kernel
theorem dX2_share_16 : decode cX2_share 16 = .ok (.invokevirtual 54, 3) := by decide +kernel
theorem dX2_share_19 : decode cX2_share 19 = .ok (.imul, 1) := by decide +kernel
theorem dX2_share_20 : decode cX2_share 20 = .ok (.iload_n 2, 1) := by decide +kernel
theorem dX2_share_21 : decode cX2_share 21 = .ok (.idiv, 1) := by decide +kernel
theorem dX2_share_22 : decode cX2_share 22 = .ok (.ireturn, 1) := by decide +kernel
theorem dX3_init_0 : decode cX3_init 0 = .ok (.aload_n 0, 1) := by decide +kernel
theorem dX3_init_1 : decode cX3_init 1 = .ok (.invokespecial 3, 3) := by decide +kernel
theorem dX3_init_4 : decode cX3_init 4 = .ok (.aload_n 0, 1) := by decide +kernel
theorem dX3_init_5 : decode cX3_init 5 = .ok (.new 9, 3) := by decide +kernel
theorem dX3_init_8 : decode cX3_init 8 = .ok (.dup, 1) := by decide +kernel
theorem dX3_init_9 : decode cX3_init 9 = .ok (.iconst 4, 1) := by decide +kernel
theorem dX3_init_10 : decode cX3_init 10 = .ok (.iconst 2, 1) := by decide +kernel
theorem dX3_init_11 : decode cX3_init 11 = .ok (.invokespecial 11, 3) := by decide +kernel
theorem dX3_init_14 : decode cX3_init 14 = .ok (.putfield 14, 3) := by decide +kernel
theorem dX3_init_17 : decode cX3_init 17 = .ok (.aload_n 0, 1) := by decide +kernel
theorem dX3_init_18 : decode cX3_init 18 = .ok (.new 9, 3) := by decide +kernel
theorem dX3_init_21 : decode cX3_init 21 = .ok (.dup, 1) := by decide +kernel
theorem dX3_init_22 : decode cX3_init 22 = .ok (.iconst 5, 1) := by decide +kernel
theorem dX3_init_23 : decode cX3_init 23 = .ok (.iconst 3, 1) := by decide +kernel
theorem dX3_init_24 : decode cX3_init 24 = .ok (.invokespecial 11, 3) := by decide +kernel
theorem dX3_init_27 : decode cX3_init 27 = .ok (.putfield 20, 3) := by decide +kernel
theorem dX3_init_30 : decode cX3_init 30 = .ok (.aload_n 0, 1) := by decide +kernel
theorem dX3_init_31 : decode cX3_init 31 = .ok (.new 9, 3) := by decide +kernel
theorem dX3_init_34 : decode cX3_init 34 = .ok (.dup, 1) := by decide +kernel
theorem dX3_init_35 : decode cX3_init 35 = .ok (.iconst 4, 1) := by decide +kernel
theorem dX3_init_36 : decode cX3_init 36 = .ok (.iconst 2, 1) := by decide +kernel
theorem dX3_init_37 : decode cX3_init 37 = .ok (.invokespecial 11, 3) := by decide +kernel
theorem dX3_init_40 : decode cX3_init 40 = .ok (.putfield 23, 3) := by decide +kernel
theorem dX3_init_43 : decode cX3_init 43 = .ok (.aload_n 0, 1) := by decide +kernel
theorem dX3_init_44 : decode cX3_init 44 = .ok (.new 9, 3) := by decide +kernel
theorem dX3_init_47 : decode cX3_init 47 = .ok (.dup, 1) := by decide +kernel
theorem dX3_init_48 : decode cX3_init 48 = .ok (.iconst 3, 1) := by decide +kernel
theorem dX3_init_49 : decode cX3_init 49 = .ok (.iconst 1, 1) := by decide +kernel
theorem dX3_init_50 : decode cX3_init 50 = .ok (.invokespecial 11, 3) := by decide +kernel
theorem dX3_init_53 : decode cX3_init 53 = .ok (.putfield 26, 3) := by decide +kernel
theorem dX3_init_56 : decode cX3_init 56 = .ok (.aload_n 0, 1) := by decide +kernel
theorem dX3_init_57 : decode cX3_init 57 = .ok (.new 9, 3) := by decide +kernel
theorem dX3_init_60 : decode cX3_init 60 = .ok (.dup, 1) := by decide +kernel
theorem dX3_init_61 : decode cX3_init 61 = .ok (.bipush 12, 2) := by decide +kernel
theorem dX3_init_63 : decode cX3_init 63 = .ok (.iconst 4, 1) := by decide +kernel
theorem dX3_init_64 : decode cX3_init 64 = .ok (.invokespecial 11, 3) := by decide +kernel
theorem dX3_init_67 : decode cX3_init 67 = .ok (.putfield 29, 3) := by decide +kernel
theorem dX3_init_70 : decode cX3_init 70 = .ok (.aload_n 0, 1) := by decide +kernel
theorem dX3_init_71 : decode cX3_init 71 = .ok (.new 9, 3) := by decide +kernel
theorem dX3_init_74 : decode cX3_init 74 = .ok (.dup, 1) := by decide +kernel
theorem dX3_init_75 : decode cX3_init 75 = .ok (.iconst 4, 1) := by decide +kernel
theorem dX3_init_76 : decode cX3_init 76 = .ok (.iconst 2, 1) := by decide +kernel
theorem dX3_init_77 : decode cX3_init 77 = .ok (.invokespecial 11, 3) := by decide +kernel
theorem dX3_init_80 : decode cX3_init 80 = .ok (.putfield 32, 3) := by decide +kernel
theorem dX3_init_83 : decode cX3_init 83 = .ok (.aload_n 0, 1) := by decide +kernel
theorem dX3_init_84 : decode cX3_init 84 = .ok (.new 9, 3) := by decide +kernel
theorem dX3_init_87 : decode cX3_init 87 = .ok (.dup, 1) := by decide +kernel
theorem dX3_init_88 : decode cX3_init 88 = .ok (.bipush 8, 2) := by decide +kernel
theorem dX3_init_90 : decode cX3_init 90 = .ok (.iconst 5, 1) := by decide +kernel
theorem dX3_init_91 : decode cX3_init 91 = .ok (.invokespecial 11, 3) := by decide +kernel
theorem dX3_init_94 : decode cX3_init 94 = .ok (.putfield 35, 3) := by decide +kernel
theorem dX3_init_97 : decode cX3_init 97 = .ok (.aload_n 0, 1) := by decide +kernel
theorem dX3_init_98 : decode cX3_init 98 = .ok (.new 9, 3) := by decide +kernel
theorem dX3_init_101 : decode cX3_init 101 = .ok (.dup, 1) := by decide +kernel
theorem dX3_init_102 : decode cX3_init 102 = .ok (.iconst 5, 1) := by decide +kernel
theorem dX3_init_103 : decode cX3_init 103 = .ok (.bipush 7, 2) := by decide +kernel
theorem dX3_init_105 : decode cX3_init 105 = .ok (.invokespecial 11, 3) := by decide +kernel
theorem dX3_init_108 : decode cX3_init 108 = .ok (.putfield 38, 3) := by decide +kernel
theorem dX3_init_111 : decode cX3_init 111 = .ok (.aload_n 0, 1) := by decide +kernel
theorem dX3_init_112 : decode cX3_init 112 = .ok (.new 9, 3) := by decide +kernel
theorem dX3_init_115 : decode cX3_init 115 = .ok (.dup, 1) := by decide +kernel
theorem dX3_init_116 : decode cX3_init 116 = .ok (.iconst 3, 1) := by decide +kernel
theorem dX3_init_117 : decode cX3_init 117 = .ok (.bipush 7, 2) := by decide +kernel
theorem dX3_init_119 : decode cX3_init 119 = .ok (.invokespecial 11, 3) := by decide +kernel
theorem dX3_init_122 : decode cX3_init 122 = .ok (.putfield 41, 3) := by decide +kernel
theorem dX3_init_125 : decode cX3_init 125 = .ok (.aload_n 0, 1) := by decide +kernel
theorem dX3_init_126 : decode cX3_init 126 = .ok (.new 9, 3) := by decide +kernel
theorem dX3_init_129 : decode cX3_init 129 = .ok (.dup, 1) := by decide +kernel
theorem dX3_init_130 : decode cX3_init 130 = .ok (.iconst 1, 1) := by decide +kernel
theorem dX3_init_131 : decode cX3_init 131 = .ok (.bipush 10, 2) := by decide +kernel
theorem dX3_init_133 : decode cX3_init 133 = .ok (.invokespecial 11, 3) := by decide +kernel
theorem dX3_init_136 : decode cX3_init 136 = .ok (.putfield 44, 3) := by decide +kernel
theorem dX3_init_139 : decode cX3_init 139 = .ok (.return_, 1) := by decide +kernel
theorem dX3_clear_0 : decode cX3_clear 0 = .ok (.aload_n 0, 1) := by decide +kernel
theorem dX3_clear_1 : decode cX3_clear 1 = .ok (.getfield 44, 3) := by decide +kernel
theorem dX3_clear_4 : decode cX3_clear 4 = .ok (.iconst 0, 1) := by decide +kernel
theorem dX3_clear_5 : decode cX3_clear 5 = .ok (.invokevirtual 47, 3) := by decide +kernel
theorem dX3_clear_8 : decode cX3_clear 8 = .ok (.aload_n 0, 1) := by decide +kernel
theorem dX3_clear_9 : decode cX3_clear 9 = .ok (.getfield 38, 3) := by decide +kernel
theorem dX3_clear_12 : decode cX3_clear 12 = .ok (.bipush (-2), 2) := by decide +kernel
theorem dX3_clear_14 : decode cX3_clear 14 = .ok (.invokevirtual 47, 3) := by decide +kernel
theorem dX3_clear_17 : decode cX3_clear 17 = .ok (.aload_n 0, 1) := by decide +kernel
theorem dX3_clear_18 : decode cX3_clear 18 = .ok (.getfield 41, 3) := by decide +kernel
theorem dX3_clear_21 : decode cX3_clear 21 = .ok (.bipush (-2), 2) := by decide +kernel
theorem dX3_clear_23 : decode cX3_clear 23 = .ok (.invokevirtual 47, 3) := by decide +kernel
theorem dX3_clear_26 : decode cX3_clear 26 = .ok (.return_, 1) := by decide +kernel
theorem dX3_count_0 : decode cX3_count 0 = .ok (.aload_n 0, 1) := by decide +kernel
theorem dX3_count_1 : decode cX3_count 1 = .ok (.getfield 44, 3) := by decide +kernel
theorem dX3_count_4 : decode cX3_count 4 = .ok (.iconst 0, 1) := by decide +kernel
theorem dX3_count_5 : decode cX3_count 5 = .ok (.iload_n 1, 1) := by decide +kernel
theorem dX3_count_6 : decode cX3_count 6 = .ok (.invokevirtual 51, 3) := by decide +kernel
theorem dX3_count_9 : decode cX3_count 9 = .ok (.ireturn, 1) := by decide +kernel
theorem dX3_has_0 : decode cX3_has 0 = .ok (.iload_n 2, 1) := by decide +kernel
theorem dX3_has_1 : decode cX3_has 1 = .ok (.ifCond .lt 16, 3) := by decide +kernel
theorem dX3_has_4 : decode cX3_has 4 = .ok (.iload_n 2, 1) := by decide +kernel
theorem dX3_has_5 : decode cX3_has 5 = .ok (.aload_n 0, 1) := by decide +kernel
theorem dX3_has_6 : decode cX3_has 6 = .ok (.iload_n 1, 1) := by decide +kernel
theorem dX3_has_7 : decode cX3_has 7 = .ok (.invokevirtual 55, 3) := by decide +kernel
theorem dX3_has_10 : decode cX3_has 10 = .ok (.if_icmp .ge 7, 3) := by decide +kernel
theorem dX3_has_13 : decode cX3_has 13 = .ok (.iconst 1, 1) := by decide +kernel
theorem dX3_has_14 : decode cX3_has 14 = .ok (.goto 4, 3) := by decide +kernel
theorem dX3_has_17 : decode cX3_has 17 = .ok (.iconst 0, 1) := by decide +kernel
theorem dX3_has_18 : decode cX3_has 18 = .ok (.ireturn, 1) := by decide +kernel
theorem dX3_isFound_0 : decode cX3_isFound 0 = .ok (.iconst 0, 1) := by decide +kernel
theorem dX3_isFound_1 : decode cX3_isFound 1 = .ok (.istore_n 2, 1) := by decide +kernel
theorem dX3_isFound_2 : decode cX3_isFound 2 = .ok (.iload_n 2, 1) := by decide +kernel
theorem dX3_isFound_3 : decode cX3_isFound 3 = .ok (.aload_n 0, 1) := by decide +kernel
theorem dX3_isFound_4 : decode cX3_isFound 4 = .ok (.bipush 8, 2) := by decide +kernel
theorem dX3_isFound_6 : decode cX3_isFound 6 = .ok (.invokevirtual 55, 3) := by decide +kernel
theorem dX3_isFound_9 : decode cX3_isFound 9 = .ok (.if_icmp .ge 24, 3) := by decide +kernel
theorem dX3_isFound_12 : decode cX3_isFound 12 = .ok (.aload_n 0, 1) := by decide +kernel
theorem dX3_isFound_13 : decode cX3_isFound 13 = .ok (.getfield 32, 3) := by decide +kernel
theorem dX3_isFound_16 : decode cX3_isFound 16 = .ok (.iload_n 2, 1) := by decide +kernel
theorem dX3_isFound_17 : decode cX3_isFound 17 = .ok (.iconst 0, 1) := by decide +kernel
theorem dX3_isFound_18 : decode cX3_isFound 18 = .ok (.invokevirtual 51, 3) := by decide +kernel
theorem dX3_isFound_21 : decode cX3_isFound 21 = .ok (.iload_n 1, 1) := by decide +kernel
theorem dX3_isFound_22 : decode cX3_isFound 22 = .ok (.if_icmp .ne 5, 3) := by decide +kernel
theorem dX3_isFound_25 : decode cX3_isFound 25 = .ok (.iconst 1, 1) := by decide +kernel
theorem dX3_isFound_26 : decode cX3_isFound 26 = .ok (.ireturn, 1) := by decide +kernel
theorem dX3_isFound_27 : decode cX3_isFound 27 = .ok (.iinc 2 1, 3) := by decide +kernel
theorem dX3_isFound_30 : decode cX3_isFound 30 = .ok (.goto (-28), 3) := by decide +kernel
theorem dX3_isFound_33 : decode cX3_isFound 33 = .ok (.iconst 0, 1) := by decide +kernel
theorem dX3_isFound_34 : decode cX3_isFound 34 = .ok (.ireturn, 1) := by decide +kernel
theorem dX3_examCaught_0 : decode cX3_examCaught 0 = .ok (.aload_n 0, 1) := by decide +kernel
theorem dX3_examCaught_1 : decode cX3_examCaught 1 = .ok (.getfield 35, 3) := by decide +kernel
theorem dX3_examCaught_4 : decode cX3_examCaught 4 = .ok (.iload_n 1, 1) := by decide +kernel
theorem dX3_examCaught_5 : decode cX3_examCaught 5 = .ok (.iconst 4, 1) := by decide +kernel
theorem dX3_examCaught_6 : decode cX3_examCaught 6 = .ok (.invokevirtual 51, 3) := by decide +kernel
theorem dX3_examCaught_9 : decode cX3_examCaught 9 = .ok (.ifCond .ne 7, 3) := by decide +kernel
theorem dX3_examCaught_12 : decode cX3_examCaught 12 = .ok (.iconst 1, 1) := by decide +kernel
theorem dX3_examCaught_13 : decode cX3_examCaught 13 = .ok (.goto 4, 3) := by decide +kernel
theorem dX3_examCaught_16 : decode cX3_examCaught 16 = .ok (.iconst 0, 1) := by decide +kernel
theorem dX3_examCaught_17 : decode cX3_examCaught 17 = .ok (.ireturn, 1) := by decide +kernel
theorem dX3_examNearness_0 : decode cX3_examNearness 0 = .ok (.aload_n 0, 1) := by decide +kernel
theorem dX3_examNearness_1 : decode cX3_examNearness 1 = .ok (.aload_n 0, 1) := by decide +kernel
theorem dX3_examNearness_2 : decode cX3_examNearness 2 = .ok (.getfield 35, 3) := by decide +kernel
theorem dX3_examNearness_5 : decode cX3_examNearness 5 = .ok (.iload_n 1, 1) := by decide +kernel
theorem dX3_examNearness_6 : decode cX3_examNearness 6 = .ok (.iconst 0, 1) := by decide +kernel
theorem dX3_examNearness_7 : decode cX3_examNearness 7 = .ok (.invokevirtual 51, 3) := by decide +kernel
theorem dX3_examNearness_10 : decode cX3_examNearness 10 = .ok (.aload_n 0, 1) := by decide +kernel
theorem dX3_examNearness_11 : decode cX3_examNearness 11 = .ok (.getfield 35, 3) := by decide +kernel
theorem dX3_examNearness_14 : decode cX3_examNearness 14 = .ok (.iload_n 1, 1) := by decide +kernel
theorem dX3_examNearness_15 : decode cX3_examNearness 15 = .ok (.iconst 1, 1) := by decide +kernel
theorem dX3_examNearness_16 : decode cX3_examNearness 16 = .ok (.invokevirtual 51, 3) := by decide +kernel
theorem dX3_examNearness_19 : decode cX3_examNearness 19 = .ok (.aload_n 0, 1) := by decide +kernel
theorem dX3_examNearness_20 : decode cX3_examNearness 20 = .ok (.getfield 35, 3) := by decide +kernel
theorem dX3_examNearness_23 : decode cX3_examNearness 23 = .ok (.iload_n 1, 1) := by decide +kernel
theorem dX3_examNearness_24 : decode cX3_examNearness 24 = .ok (.iconst 2, 1) := by decide +kernel
theorem dX3_examNearness_25 : decode cX3_examNearness 25 = .ok (.invokevirtual 51, 3) := by decide +kernel
theorem dX3_examNearness_28 : decode cX3_examNearness 28 = .ok (.aload_n 0, 1) := by decide +kernel
theorem dX3_examNearness_29 : decode cX3_examNearness 29 = .ok (.getfield 35, 3) := by decide +kernel
theorem dX3_examNearness_32 : decode cX3_examNearness 32 = .ok (.iload_n 1, 1) := by decide +kernel
theorem dX3_examNearness_33 : decode cX3_examNearness 33 = .ok (.iconst 3, 1) := by decide +kernel
theorem dX3_examNearness_34 : decode cX3_examNearness 34 = .ok (.invokevirtual 51, 3) := by decide +kernel
theorem dX3_examNearness_37 : decode cX3_examNearness 37 = .ok (.iconst 0, 1) := by decide +kernel
theorem dX3_examNearness_38 : decode cX3_examNearness 38 = .ok (.invokevirtual 59, 3) := by decide +kernel
theorem dX3_examNearness_41 : decode cX3_examNearness 41 = .ok (.ireturn, 1) := by decide +kernel
theorem dX3_roomTold_0 : decode cX3_roomTold 0 = .ok (.aload_n 0, 1) := by decide +kernel
theorem dX3_roomTold_1 : decode cX3_roomTold 1 = .ok (.getfield 20, 3) := by decide +kernel
theorem dX3_roomTold_4 : decode cX3_roomTold 4 = .ok (.iload_n 1, 1) := by decide +kernel
theorem dX3_roomTold_5 : decode cX3_roomTold 5 = .ok (.iconst 1, 1) := by decide +kernel
theorem dX3_roomTold_6 : decode cX3_roomTold 6 = .ok (.invokevirtual 51, 3) := by decide +kernel
theorem dX3_roomTold_9 : decode cX3_roomTold 9 = .ok (.istore_n 2, 1) := by decide +kernel
theorem dX3_roomTold_10 : decode cX3_roomTold 10 = .ok (.aload_n 0, 1) := by decide +kernel
theorem dX3_roomTold_11 : decode cX3_roomTold 11 = .ok (.getfield 20, 3) := by decide +kernel
theorem dX3_roomTold_14 : decode cX3_roomTold 14 = .ok (.iload_n 1, 1) := by decide +kernel
theorem dX3_roomTold_15 : decode cX3_roomTold 15 = .ok (.iconst 0, 1) := by decide +kernel
theorem dX3_roomTold_16 : decode cX3_roomTold 16 = .ok (.invokevirtual 51, 3) := by decide +kernel
theorem dX3_roomTold_19 : decode cX3_roomTold 19 = .ok (.iconst 2, 1) := by decide +kernel
theorem dX3_roomTold_20 : decode cX3_roomTold 20 = .ok (.if_icmp .ne 9, 3) := by decide +kernel
theorem dX3_roomTold_23 : decode cX3_roomTold 23 = .ok (.iload_n 2, 1) := by decide +kernel
theorem dX3_roomTold_24 : decode cX3_roomTold 24 = .ok (.iconst 2, 1) := by decide +kernel
theorem dX3_roomTold_25 : decode cX3_roomTold 25 = .ok (.idiv, 1) := by decide +kernel
theorem dX3_roomTold_26 : decode cX3_roomTold 26 = .ok (.goto 4, 3) := by decide +kernel
theorem dX3_roomTold_29 : decode cX3_roomTold 29 = .ok (.iload_n 2, 1) := by decide +kernel
theorem dX3_roomTold_30 : decode cX3_roomTold 30 = .ok (.ireturn, 1) := by decide +kernel
theorem dX3_honourOf_0 : decode cX3_honourOf 0 = .ok (.aload_n 0, 1) := by decide +kernel
theorem dX3_honourOf_1 : decode cX3_honourOf 1 = .ok (.getfield 14, 3) := by decide +kernel
theorem dX3_honourOf_4 : decode cX3_honourOf 4 = .ok (.iload_n 1, 1) := by decide +kernel
theorem dX3_honourOf_5 : decode cX3_honourOf 5 = .ok (.iconst 0, 1) := by decide +kernel
theorem dX3_honourOf_6 : decode cX3_honourOf 6 = .ok (.invokevirtual 51, 3) := by decide +kernel
theorem dX3_honourOf_9 : decode cX3_honourOf 9 = .ok (.istore_n 2, 1) := by decide +kernel
theorem dX3_honourOf_10 : decode cX3_honourOf 10 = .ok (.iload_n 2, 1) := by decide +kernel
theorem dX3_honourOf_11 : decode cX3_honourOf 11 = .ok (.iconst 2, 1) := by decide +kernel
theorem dX3_honourOf_12 : decode cX3_honourOf 12 = .ok (.if_icmp .ne 7, 3) := by decide +kernel
theorem dX3_honourOf_15 : decode cX3_honourOf 15 = .ok (.iconst 4, 1) := by decide +kernel
theorem dX3_honourOf_16 : decode cX3_honourOf 16 = .ok (.goto 13, 3) := by decide +kernel
theorem dX3_honourOf_19 : decode cX3_honourOf 19 = .ok (.iload_n 2, 1) := by decide +kernel
theorem dX3_honourOf_20 : decode cX3_honourOf 20 = .ok (.iconst 1, 1) := by decide +kernel
theorem dX3_honourOf_21 : decode cX3_honourOf 21 = .ok (.if_icmp .ne 7, 3) := by decide +kernel
theorem dX3_honourOf_24 : decode cX3_honourOf 24 = .ok (.iconst 2, 1) := by decide +kernel
theorem dX3_honourOf_25 : decode cX3_honourOf 25 = .ok (.goto 4, 3) := by decide +kernel
theorem dX3_honourOf_28 : decode cX3_honourOf 28 = .ok (.iconst 1, 1) := by decide +kernel
theorem dX3_honourOf_29 : decode cX3_honourOf 29 = .ok (.ireturn, 1) := by decide +kernel
theorem dX3_sharedTram_0 : decode cX3_sharedTram 0 = .ok (.aload_n 0, 1) := by decide +kernel
theorem dX3_sharedTram_1 : decode cX3_sharedTram 1 = .ok (.getfield 41, 3) := by decide +kernel
theorem dX3_sharedTram_4 : decode cX3_sharedTram 4 = .ok (.iload_n 1, 1) := by decide +kernel
theorem dX3_sharedTram_5 : decode cX3_sharedTram 5 = .ok (.iload_n 3, 1) := by decide +kernel
theorem dX3_sharedTram_6 : decode cX3_sharedTram 6 = .ok (.invokevirtual 51, 3) := by decide +kernel
theorem dX3_sharedTram_9 : decode cX3_sharedTram 9 = .ok (.istore 4, 2) := by decide +kernel
theorem dX3_sharedTram_11 : decode cX3_sharedTram 11 = .ok (.iload 4, 2) := by decide +kernel
theorem dX3_sharedTram_13 : decode cX3_sharedTram 13 = .ok (.ifCond .lt 22, 3) := by decide +kernel
theorem dX3_sharedTram_16 : decode cX3_sharedTram 16 = .ok (.iload 4, 2) := by decide +kernel
theorem dX3_sharedTram_18 : decode cX3_sharedTram 18 = .ok (.aload_n 0, 1) := by decide +kernel
theorem dX3_sharedTram_19 : decode cX3_sharedTram 19 = .ok (.getfield 38, 3) := by decide +kernel
theorem dX3_sharedTram_22 : decode cX3_sharedTram 22 = .ok (.iload_n 2, 1) := by decide +kernel
theorem dX3_sharedTram_23 : decode cX3_sharedTram 23 = .ok (.iload_n 3, 1) := by decide +kernel
theorem dX3_sharedTram_24 : decode cX3_sharedTram 24 = .ok (.invokevirtual 51, 3) := by decide +kernel
theorem dX3_sharedTram_27 : decode cX3_sharedTram 27 = .ok (.if_icmp .ne 8, 3) := by decide +kernel
theorem dX3_sharedTram_30 : decode cX3_sharedTram 30 = .ok (.iload 4, 2) := by decide +kernel
theorem dX3_sharedTram_32 : decode cX3_sharedTram 32 = .ok (.goto 5, 3) := by decide +kernel
theorem dX3_sharedTram_35 : decode cX3_sharedTram 35 = .ok (.bipush (-2), 2) := by decide +kernel
theorem dX3_sharedTram_37 : decode cX3_sharedTram 37 = .ok (.ireturn, 1) := by decide +kernel
theorem dX3_nearness_0 : decode cX3_nearness 0 = .ok (.aload_n 0, 1) := by decide +kernel
theorem dX3_nearness_1 : decode cX3_nearness 1 = .ok (.getfield 14, 3) := by decide +kernel
theorem dX3_nearness_4 : decode cX3_nearness 4 = .ok (.iload_n 2, 1) := by decide +kernel
theorem dX3_nearness_5 : decode cX3_nearness 5 = .ok (.iconst 0, 1) := by decide +kernel
theorem dX3_nearness_6 : decode cX3_nearness 6 = .ok (.invokevirtual 51, 3) := by decide +kernel
theorem dX3_nearness_9 : decode cX3_nearness 9 = .ok (.istore 6, 2) := by decide +kernel
theorem dX3_nearness_11 : decode cX3_nearness 11 = .ok (.aload_n 0, 1) := by decide +kernel
theorem dX3_nearness_12 : decode cX3_nearness 12 = .ok (.getfield 20, 3) := by decide +kernel
theorem dX3_nearness_15 : decode cX3_nearness 15 = .ok (.iload_n 3, 1) := by decide +kernel
theorem dX3_nearness_16 : decode cX3_nearness 16 = .ok (.iconst 0, 1) := by decide +kernel
theorem dX3_nearness_17 : decode cX3_nearness 17 = .ok (.invokevirtual 51, 3) := by decide +kernel
theorem dX3_nearness_20 : decode cX3_nearness 20 = .ok (.istore 7, 2) := by decide +kernel
theorem dX3_nearness_22 : decode cX3_nearness 22 = .ok (.aload_n 0, 1) := by decide +kernel
theorem dX3_nearness_23 : decode cX3_nearness 23 = .ok (.getfield 20, 3) := by decide +kernel
theorem dX3_nearness_26 : decode cX3_nearness 26 = .ok (.iload_n 3, 1) := by decide +kernel
theorem dX3_nearness_27 : decode cX3_nearness 27 = .ok (.iconst 2, 1) := by decide +kernel
theorem dX3_nearness_28 : decode cX3_nearness 28 = .ok (.invokevirtual 51, 3) := by decide +kernel
theorem dX3_nearness_31 : decode cX3_nearness 31 = .ok (.aload_n 0, 1) := by decide +kernel
theorem dX3_nearness_32 : decode cX3_nearness 32 = .ok (.getfield 14, 3) := by decide +kernel
theorem dX3_nearness_35 : decode cX3_nearness 35 = .ok (.iload_n 2, 1) := by decide +kernel
theorem dX3_nearness_36 : decode cX3_nearness 36 = .ok (.iconst 1, 1) := by decide +kernel
theorem dX3_nearness_37 : decode cX3_nearness 37 = .ok (.invokevirtual 51, 3) := by decide +kernel
theorem dX3_nearness_40 : decode cX3_nearness 40 = .ok (.iadd, 1) := by decide +kernel
theorem dX3_nearness_41 : decode cX3_nearness 41 = .ok (.iconst 5, 1) := by decide +kernel
theorem dX3_nearness_42 : decode cX3_nearness 42 = .ok (.iload 5, 2) := by decide +kernel
theorem dX3_nearness_44 : decode cX3_nearness 44 = .ok (.imul, 1) := by decide +kernel
theorem dX3_nearness_45 : decode cX3_nearness 45 = .ok (.iadd, 1) := by decide +kernel
theorem dX3_nearness_46 : decode cX3_nearness 46 = .ok (.istore 8, 2) := by decide +kernel
theorem dX3_nearness_48 : decode cX3_nearness 48 = .ok (.iload 8, 2) := by decide +kernel
theorem dX3_nearness_50 : decode cX3_nearness 50 = .ok (.aload_n 0, 1) := by decide +kernel
theorem dX3_nearness_51 : decode cX3_nearness 51 = .ok (.getfield 23, 3) := by decide +kernel
theorem dX3_nearness_54 : decode cX3_nearness 54 = .ok (.iload 4, 2) := by decide +kernel
theorem dX3_nearness_56 : decode cX3_nearness 56 = .ok (.iconst 0, 1) := by decide +kernel
theorem dX3_nearness_57 : decode cX3_nearness 57 = .ok (.invokevirtual 51, 3) := by decide +kernel
theorem dX3_nearness_60 : decode cX3_nearness 60 = .ok (.aload_n 0, 1) := by decide +kernel
theorem dX3_nearness_61 : decode cX3_nearness 61 = .ok (.getfield 26, 3) := by decide +kernel
theorem dX3_nearness_64 : decode cX3_nearness 64 = .ok (.iload_n 1, 1) := by decide +kernel
theorem dX3_nearness_65 : decode cX3_nearness 65 = .ok (.iconst 0, 1) := by decide +kernel
theorem dX3_nearness_66 : decode cX3_nearness 66 = .ok (.invokevirtual 51, 3) := by decide +kernel
theorem dX3_nearness_69 : decode cX3_nearness 69 = .ok (.iadd, 1) := by decide +kernel
theorem dX3_nearness_70 : decode cX3_nearness 70 = .ok (.isub, 1) := by decide +kernel
theorem dX3_nearness_71 : decode cX3_nearness 71 = .ok (.istore 8, 2) := by decide +kernel
theorem dX3_nearness_73 : decode cX3_nearness 73 = .ok (.iload 6, 2) := by decide +kernel
theorem dX3_nearness_75 : decode cX3_nearness 75 = .ok (.iconst 1, 1) := by decide +kernel
theorem dX3_nearness_76 : decode cX3_nearness 76 = .ok (.if_icmp .ne 9, 3) := by decide +kernel
theorem dX3_nearness_79 : decode cX3_nearness 79 = .ok (.iinc 8 3, 3) := by decide +kernel
theorem dX3_nearness_82 : decode cX3_nearness 82 = .ok (.goto 12, 3) := by decide +kernel
theorem dX3_nearness_85 : decode cX3_nearness 85 = .ok (.iload 6, 2) := by decide +kernel
theorem dX3_nearness_87 : decode cX3_nearness 87 = .ok (.iconst 2, 1) := by decide +kernel
theorem dX3_nearness_88 : decode cX3_nearness 88 = .ok (.if_icmp .ne 6, 3) := by decide +kernel
theorem dX3_nearness_91 : decode cX3_nearness 91 = .ok (.iinc 8 10, 3) := by decide +kernel
theorem dX3_nearness_94 : decode cX3_nearness 94 = .ok (.iload 7, 2) := by decide +kernel
theorem dX3_nearness_96 : decode cX3_nearness 96 = .ok (.iconst 1, 1) := by decide +kernel
theorem dX3_nearness_97 : decode cX3_nearness 97 = .ok (.if_icmp .ne 6, 3) := by decide +kernel
theorem dX3_nearness_100 : decode cX3_nearness 100 = .ok (.iinc 8 (-20), 3) := by decide +kernel
theorem dX3_nearness_103 : decode cX3_nearness 103 = .ok (.iconst 0, 1) := by decide +kernel
theorem dX3_nearness_104 : decode cX3_nearness 104 = .ok (.iload 8, 2) := by decide +kernel
theorem dX3_nearness_106 : decode cX3_nearness 106 = .ok (.invokestatic 63, 3) := by decide +kernel
theorem dX3_nearness_109 : decode cX3_nearness 109 = .ok (.istore 8, 2) := by decide +kernel
theorem dX3_nearness_111 : decode cX3_nearness 111 = .ok (.iload 7, 2) := by decide +kernel
theorem dX3_nearness_113 : decode cX3_nearness 113 = .ok (.iconst 3, 1) := by decide +kernel
theorem dX3_nearness_114 : decode cX3_nearness 114 = .ok (.if_icmp .ne 9, 3) := by decide +kernel
theorem dX3_nearness_117 : decode cX3_nearness 117 = .ok (.iload 8, 2) := by decide +kernel
theorem dX3_nearness_119 : decode cX3_nearness 119 = .ok (.iconst 2, 1) := by decide +kernel
theorem dX3_nearness_120 : decode cX3_nearness 120 = .ok (.imul, 1) := by decide +kernel
theorem dX3_nearness_121 : decode cX3_nearness 121 = .ok (.istore 8, 2) := by decide +kernel
theorem dX3_nearness_123 : decode cX3_nearness 123 = .ok (.bipush 100, 2) := by decide +kernel
theorem dX3_nearness_125 : decode cX3_nearness 125 = .ok (.iload 8, 2) := by decide +kernel
theorem dX3_nearness_127 : decode cX3_nearness 127 = .ok (.invokestatic 68, 3) := by decide +kernel
theorem dX3_nearness_130 : decode cX3_nearness 130 = .ok (.ireturn, 1) := by decide +kernel
theorem dX3_isNoticed_0 : decode cX3_isNoticed 0 = .ok (.iload_n 1, 1) := by decide +kernel
theorem dX3_isNoticed_1 : decode cX3_isNoticed 1 = .ok (.aload_n 0, 1) := by decide +kernel
theorem dX3_isNoticed_2 : decode cX3_isNoticed 2 = .ok (.getfield 44, 3) := by decide +kernel
theorem dX3_isNoticed_5 : decode cX3_isNoticed 5 = .ok (.iconst 0, 1) := by decide +kernel
theorem dX3_isNoticed_6 : decode cX3_isNoticed 6 = .ok (.iconst 1, 1) := by decide +kernel
theorem dX3_isNoticed_7 : decode cX3_isNoticed 7 = .ok (.invokevirtual 51, 3) := by decide +kernel
theorem dX3_isNoticed_10 : decode cX3_isNoticed 10 = .ok (.if_icmp .le 7, 3) := by decide +kernel
theorem dX3_isNoticed_13 : decode cX3_isNoticed 13 = .ok (.iconst 1, 1) := by decide +kernel
theorem dX3_isNoticed_14 : decode cX3_isNoticed 14 = .ok (.goto 4, 3) := by decide +kernel
theorem dX3_isNoticed_17 : decode cX3_isNoticed 17 = .ok (.iconst 0, 1) := by decide +kernel
theorem dX3_isNoticed_18 : decode cX3_isNoticed 18 = .ok (.ireturn, 1) := by decide +kernel
theorem dX3_canGive_0 : decode cX3_canGive 0 = .ok (.aload_n 0, 1) := by decide +kernel
theorem dX3_canGive_1 : decode cX3_canGive 1 = .ok (.iload_n 2, 1) := by decide +kernel
theorem dX3_canGive_2 : decode cX3_canGive 2 = .ok (.iload 4, 2) := by decide +kernel
theorem dX3_canGive_4 : decode cX3_canGive 4 = .ok (.iload_n 1, 1) := by decide +kernel
theorem dX3_canGive_5 : decode cX3_canGive 5 = .ok (.invokevirtual 71, 3) := by decide +kernel
theorem dX3_canGive_8 : decode cX3_canGive 8 = .ok (.istore 6, 2) := by decide +kernel
theorem dX3_canGive_10 : decode cX3_canGive 10 = .ok (.iload 6, 2) := by decide +kernel
theorem dX3_canGive_12 : decode cX3_canGive 12 = .ok (.ifCond .lt 37, 3) := by decide +kernel
theorem dX3_canGive_15 : decode cX3_canGive 15 = .ok (.iload 5, 2) := by decide +kernel
theorem dX3_canGive_17 : decode cX3_canGive 17 = .ok (.aload_n 0, 1) := by decide +kernel
theorem dX3_canGive_18 : decode cX3_canGive 18 = .ok (.iload 4, 2) := by decide +kernel
theorem dX3_canGive_20 : decode cX3_canGive 20 = .ok (.invokevirtual 75, 3) := by decide +kernel
theorem dX3_canGive_23 : decode cX3_canGive 23 = .ok (.if_icmp .ge 26, 3) := by decide +kernel
theorem dX3_canGive_26 : decode cX3_canGive 26 = .ok (.aload_n 0, 1) := by decide +kernel
theorem dX3_canGive_27 : decode cX3_canGive 27 = .ok (.aload_n 0, 1) := by decide +kernel
theorem dX3_canGive_28 : decode cX3_canGive 28 = .ok (.iload_n 2, 1) := by decide +kernel
theorem dX3_canGive_29 : decode cX3_canGive 29 = .ok (.iload_n 3, 1) := by decide +kernel
theorem dX3_canGive_30 : decode cX3_canGive 30 = .ok (.iload 4, 2) := by decide +kernel
theorem dX3_canGive_32 : decode cX3_canGive 32 = .ok (.iload 6, 2) := by decide +kernel
theorem dX3_canGive_34 : decode cX3_canGive 34 = .ok (.iload 5, 2) := by decide +kernel
theorem dX3_canGive_36 : decode cX3_canGive 36 = .ok (.invokevirtual 59, 3) := by decide +kernel
theorem dX3_canGive_39 : decode cX3_canGive 39 = .ok (.invokevirtual 78, 3) := by decide +kernel
theorem dX3_canGive_42 : decode cX3_canGive 42 = .ok (.ifCond .ne 7, 3) := by decide +kernel
theorem dX3_canGive_45 : decode cX3_canGive 45 = .ok (.iconst 1, 1) := by decide +kernel
theorem dX3_canGive_46 : decode cX3_canGive 46 = .ok (.goto 4, 3) := by decide +kernel
theorem dX3_canGive_49 : decode cX3_canGive 49 = .ok (.iconst 0, 1) := by decide +kernel
theorem dX3_canGive_50 : decode cX3_canGive 50 = .ok (.ireturn, 1) := by decide +kernel
theorem dX3_safestGift_0 : decode cX3_safestGift 0 = .ok (.bipush (-2), 2) := by decide +kernel
theorem dX3_safestGift_2 : decode cX3_safestGift 2 = .ok (.istore_n 2, 1) := by decide +kernel
theorem dX3_safestGift_3 : decode cX3_safestGift 3 = .ok (.iconst 0, 1) := by decide +kernel
theorem dX3_safestGift_4 : decode cX3_safestGift 4 = .ok (.istore_n 3, 1) := by decide +kernel
theorem dX3_safestGift_5 : decode cX3_safestGift 5 = .ok (.iconst 0, 1) := by decide +kernel
theorem dX3_safestGift_6 : decode cX3_safestGift 6 = .ok (.istore 4, 2) := by decide +kernel
theorem dX3_safestGift_8 : decode cX3_safestGift 8 = .ok (.iload 4, 2) := by decide +kernel
theorem dX3_safestGift_10 : decode cX3_safestGift 10 = .ok (.aload_n 0, 1) := by decide +kernel
theorem dX3_safestGift_11 : decode cX3_safestGift 11 = .ok (.iconst 0, 1) := by decide +kernel
theorem dX3_safestGift_12 : decode cX3_safestGift 12 = .ok (.invokevirtual 55, 3) := by decide +kernel
theorem dX3_safestGift_15 : decode cX3_safestGift 15 = .ok (.if_icmp .ge 119, 3) := by decide +kernel
theorem dX3_safestGift_18 : decode cX3_safestGift 18 = .ok (.iconst 0, 1) := by decide +kernel
theorem dX3_safestGift_19 : decode cX3_safestGift 19 = .ok (.istore 5, 2) := by decide +kernel
theorem dX3_safestGift_21 : decode cX3_safestGift 21 = .ok (.iload 5, 2) := by decide +kernel
theorem dX3_safestGift_23 : decode cX3_safestGift 23 = .ok (.aload_n 0, 1) := by decide +kernel
theorem dX3_safestGift_24 : decode cX3_safestGift 24 = .ok (.iconst 5, 1) := by decide +kernel
theorem dX3_safestGift_25 : decode cX3_safestGift 25 = .ok (.invokevirtual 55, 3) := by decide +kernel
theorem dX3_safestGift_28 : decode cX3_safestGift 28 = .ok (.if_icmp .ge 100, 3) := by decide +kernel
theorem dX3_safestGift_31 : decode cX3_safestGift 31 = .ok (.iconst 0, 1) := by decide +kernel
theorem dX3_safestGift_32 : decode cX3_safestGift 32 = .ok (.istore 6, 2) := by decide +kernel
theorem dX3_safestGift_34 : decode cX3_safestGift 34 = .ok (.iload 6, 2) := by decide +kernel
theorem dX3_safestGift_36 : decode cX3_safestGift 36 = .ok (.aload_n 0, 1) := by decide +kernel
theorem dX3_safestGift_37 : decode cX3_safestGift 37 = .ok (.iconst 3, 1) := by decide +kernel
theorem dX3_safestGift_38 : decode cX3_safestGift 38 = .ok (.invokevirtual 55, 3) := by decide +kernel
theorem dX3_safestGift_41 : decode cX3_safestGift 41 = .ok (.if_icmp .ge 81, 3) := by decide +kernel
theorem dX3_safestGift_44 : decode cX3_safestGift 44 = .ok (.aload_n 0, 1) := by decide +kernel
theorem dX3_safestGift_45 : decode cX3_safestGift 45 = .ok (.iload 5, 2) := by decide +kernel
theorem dX3_safestGift_47 : decode cX3_safestGift 47 = .ok (.iload 6, 2) := by decide +kernel
theorem dX3_safestGift_49 : decode cX3_safestGift 49 = .ok (.iload 4, 2) := by decide +kernel
theorem dX3_safestGift_51 : decode cX3_safestGift 51 = .ok (.invokevirtual 71, 3) := by decide +kernel
theorem dX3_safestGift_54 : decode cX3_safestGift 54 = .ok (.istore 7, 2) := by decide +kernel
theorem dX3_safestGift_56 : decode cX3_safestGift 56 = .ok (.iload 7, 2) := by decide +kernel
theorem dX3_safestGift_58 : decode cX3_safestGift 58 = .ok (.ifCond .lt 58, 3) := by decide +kernel
theorem dX3_safestGift_61 : decode cX3_safestGift 61 = .ok (.aload_n 0, 1) := by decide +kernel
theorem dX3_safestGift_62 : decode cX3_safestGift 62 = .ok (.iload 6, 2) := by decide +kernel
theorem dX3_safestGift_64 : decode cX3_safestGift 64 = .ok (.invokevirtual 75, 3) := by decide +kernel
theorem dX3_safestGift_67 : decode cX3_safestGift 67 = .ok (.iconst 1, 1) := by decide +kernel
theorem dX3_safestGift_68 : decode cX3_safestGift 68 = .ok (.if_icmp .ge 6, 3) := by decide +kernel
theorem dX3_safestGift_71 : decode cX3_safestGift 71 = .ok (.goto 45, 3) := by decide +kernel
theorem dX3_safestGift_74 : decode cX3_safestGift 74 = .ok (.aload_n 0, 1) := by decide +kernel
theorem dX3_safestGift_75 : decode cX3_safestGift 75 = .ok (.iload 5, 2) := by decide +kernel
theorem dX3_safestGift_77 : decode cX3_safestGift 77 = .ok (.iload_n 1, 1) := by decide +kernel
theorem dX3_safestGift_78 : decode cX3_safestGift 78 = .ok (.iload 6, 2) := by decide +kernel
theorem dX3_safestGift_80 : decode cX3_safestGift 80 = .ok (.iload 7, 2) := by decide +kernel
theorem dX3_safestGift_82 : decode cX3_safestGift 82 = .ok (.iconst 0, 1) := by decide +kernel
theorem dX3_safestGift_83 : decode cX3_safestGift 83 = .ok (.invokevirtual 59, 3) := by decide +kernel
theorem dX3_safestGift_86 : decode cX3_safestGift 86 = .ok (.istore 8, 2) := by decide +kernel
theorem dX3_safestGift_88 : decode cX3_safestGift 88 = .ok (.iload_n 2, 1) := by decide +kernel
theorem dX3_safestGift_89 : decode cX3_safestGift 89 = .ok (.ifCond .lt 9, 3) := by decide +kernel
theorem dX3_safestGift_92 : decode cX3_safestGift 92 = .ok (.iload 8, 2) := by decide +kernel
theorem dX3_safestGift_94 : decode cX3_safestGift 94 = .ok (.iload_n 3, 1) := by decide +kernel
theorem dX3_safestGift_95 : decode cX3_safestGift 95 = .ok (.if_icmp .ge 21, 3) := by decide +kernel
theorem dX3_safestGift_98 : decode cX3_safestGift 98 = .ok (.bipush 100, 2) := by decide +kernel
theorem dX3_safestGift_100 : decode cX3_safestGift 100 = .ok (.iload 4, 2) := by decide +kernel
theorem dX3_safestGift_102 : decode cX3_safestGift 102 = .ok (.imul, 1) := by decide +kernel
theorem dX3_safestGift_103 : decode cX3_safestGift 103 = .ok (.bipush 10, 2) := by decide +kernel
theorem dX3_safestGift_105 : decode cX3_safestGift 105 = .ok (.iload 5, 2) := by decide +kernel
theorem dX3_safestGift_107 : decode cX3_safestGift 107 = .ok (.imul, 1) := by decide +kernel
theorem dX3_safestGift_108 : decode cX3_safestGift 108 = .ok (.iadd, 1) := by decide +kernel
theorem dX3_safestGift_109 : decode cX3_safestGift 109 = .ok (.iload 6, 2) := by decide +kernel
theorem dX3_safestGift_111 : decode cX3_safestGift 111 = .ok (.iadd, 1) := by decide +kernel
theorem dX3_safestGift_112 : decode cX3_safestGift 112 = .ok (.istore_n 2, 1) := by decide +kernel
theorem dX3_safestGift_113 : decode cX3_safestGift 113 = .ok (.iload 8, 2) := by decide +kernel
theorem dX3_safestGift_115 : decode cX3_safestGift 115 = .ok (.istore_n 3, 1) := by decide +kernel
theorem dX3_safestGift_116 : decode cX3_safestGift 116 = .ok (.iinc 6 1, 3) := by decide +kernel
theorem dX3_safestGift_119 : decode cX3_safestGift 119 = .ok (.goto (-85), 3) := by decide +kernel
theorem dX3_safestGift_122 : decode cX3_safestGift 122 = .ok (.iinc 5 1, 3) := by decide +kernel
theorem dX3_safestGift_125 : decode cX3_safestGift 125 = .ok (.goto (-104), 3) := by decide +kernel
theorem dX3_safestGift_128 : decode cX3_safestGift 128 = .ok (.iinc 4 1, 3) := by decide +kernel
theorem dX3_safestGift_131 : decode cX3_safestGift 131 = .ok (.goto (-123), 3) := by decide +kernel
theorem dX3_safestGift_134 : decode cX3_safestGift 134 = .ok (.iload_n 2, 1) := by decide +kernel
theorem dX3_safestGift_135 : decode cX3_safestGift 135 = .ok (.ireturn, 1) := by decide +kernel
theorem dX3_neverGiven_0 : decode cX3_neverGiven 0 = .ok (.iconst 0, 1) := by decide +kernel
theorem dX3_neverGiven_1 : decode cX3_neverGiven 1 = .ok (.istore_n 1, 1) := by decide +kernel
theorem dX3_neverGiven_2 : decode cX3_neverGiven 2 = .ok (.iconst 0, 1) := by decide +kernel
theorem dX3_neverGiven_3 : decode cX3_neverGiven 3 = .ok (.istore_n 2, 1) := by decide +kernel
theorem dX3_neverGiven_4 : decode cX3_neverGiven 4 = .ok (.iload_n 2, 1) := by decide +kernel
theorem dX3_neverGiven_5 : decode cX3_neverGiven 5 = .ok (.aload_n 0, 1) := by decide +kernel
theorem dX3_neverGiven_6 : decode cX3_neverGiven 6 = .ok (.iconst 2, 1) := by decide +kernel
theorem dX3_neverGiven_7 : decode cX3_neverGiven 7 = .ok (.invokevirtual 55, 3) := by decide +kernel
theorem dX3_neverGiven_10 : decode cX3_neverGiven 10 = .ok (.if_icmp .ge 23, 3) := by decide +kernel
theorem dX3_neverGiven_13 : decode cX3_neverGiven 13 = .ok (.aload_n 0, 1) := by decide +kernel
theorem dX3_neverGiven_14 : decode cX3_neverGiven 14 = .ok (.iload_n 2, 1) := by decide +kernel
theorem dX3_neverGiven_15 : decode cX3_neverGiven 15 = .ok (.invokevirtual 82, 3) := by decide +kernel
theorem dX3_neverGiven_18 : decode cX3_neverGiven 18 = .ok (.ifCond .ne 9, 3) := by decide +kernel
theorem dX3_neverGiven_21 : decode cX3_neverGiven 21 = .ok (.iload_n 1, 1) := by decide +kernel
theorem dX3_neverGiven_22 : decode cX3_neverGiven 22 = .ok (.iconst 1, 1) := by decide +kernel
theorem dX3_neverGiven_23 : decode cX3_neverGiven 23 = .ok (.iload_n 2, 1) := by decide +kernel
theorem dX3_neverGiven_24 : decode cX3_neverGiven 24 = .ok (.ishl, 1) := by decide +kernel
theorem dX3_neverGiven_25 : decode cX3_neverGiven 25 = .ok (.ior, 1) := by decide +kernel
theorem dX3_neverGiven_26 : decode cX3_neverGiven 26 = .ok (.istore_n 1, 1) := by decide +kernel
theorem dX3_neverGiven_27 : decode cX3_neverGiven 27 = .ok (.iinc 2 1, 3) := by decide +kernel
theorem dX3_neverGiven_30 : decode cX3_neverGiven 30 = .ok (.goto (-26), 3) := by decide +kernel
theorem dX3_neverGiven_33 : decode cX3_neverGiven 33 = .ok (.iload_n 1, 1) := by decide +kernel
theorem dX3_neverGiven_34 : decode cX3_neverGiven 34 = .ok (.ireturn, 1) := by decide +kernel
theorem dX3_canEverGive_0 : decode cX3_canEverGive 0 = .ok (.iconst 0, 1) := by decide +kernel
theorem dX3_canEverGive_1 : decode cX3_canEverGive 1 = .ok (.istore_n 2, 1) := by decide +kernel
theorem dX3_canEverGive_2 : decode cX3_canEverGive 2 = .ok (.iload_n 2, 1) := by decide +kernel
theorem dX3_canEverGive_3 : decode cX3_canEverGive 3 = .ok (.aload_n 0, 1) := by decide +kernel
theorem dX3_canEverGive_4 : decode cX3_canEverGive 4 = .ok (.iconst 0, 1) := by decide +kernel
theorem dX3_canEverGive_5 : decode cX3_canEverGive 5 = .ok (.invokevirtual 55, 3) := by decide +kernel
theorem dX3_canEverGive_8 : decode cX3_canEverGive 8 = .ok (.if_icmp .ge 60, 3) := by decide +kernel
theorem dX3_canEverGive_11 : decode cX3_canEverGive 11 = .ok (.iconst 0, 1) := by decide +kernel
theorem dX3_canEverGive_12 : decode cX3_canEverGive 12 = .ok (.istore_n 3, 1) := by decide +kernel
theorem dX3_canEverGive_13 : decode cX3_canEverGive 13 = .ok (.iload_n 3, 1) := by decide +kernel
theorem dX3_canEverGive_14 : decode cX3_canEverGive 14 = .ok (.aload_n 0, 1) := by decide +kernel
theorem dX3_canEverGive_15 : decode cX3_canEverGive 15 = .ok (.iconst 5, 1) := by decide +kernel
theorem dX3_canEverGive_16 : decode cX3_canEverGive 16 = .ok (.invokevirtual 55, 3) := by decide +kernel
theorem dX3_canEverGive_19 : decode cX3_canEverGive 19 = .ok (.if_icmp .ge 43, 3) := by decide +kernel
theorem dX3_canEverGive_22 : decode cX3_canEverGive 22 = .ok (.iconst 0, 1) := by decide +kernel
theorem dX3_canEverGive_23 : decode cX3_canEverGive 23 = .ok (.istore 4, 2) := by decide +kernel
theorem dX3_canEverGive_25 : decode cX3_canEverGive 25 = .ok (.iload 4, 2) := by decide +kernel
theorem dX3_canEverGive_27 : decode cX3_canEverGive 27 = .ok (.aload_n 0, 1) := by decide +kernel
theorem dX3_canEverGive_28 : decode cX3_canEverGive 28 = .ok (.iconst 3, 1) := by decide +kernel
theorem dX3_canEverGive_29 : decode cX3_canEverGive 29 = .ok (.invokevirtual 55, 3) := by decide +kernel
theorem dX3_canEverGive_32 : decode cX3_canEverGive 32 = .ok (.if_icmp .ge 24, 3) := by decide +kernel
theorem dX3_canEverGive_35 : decode cX3_canEverGive 35 = .ok (.aload_n 0, 1) := by decide +kernel
theorem dX3_canEverGive_36 : decode cX3_canEverGive 36 = .ok (.iload_n 2, 1) := by decide +kernel
theorem dX3_canEverGive_37 : decode cX3_canEverGive 37 = .ok (.iload_n 3, 1) := by decide +kernel
theorem dX3_canEverGive_38 : decode cX3_canEverGive 38 = .ok (.iload_n 1, 1) := by decide +kernel
theorem dX3_canEverGive_39 : decode cX3_canEverGive 39 = .ok (.iload 4, 2) := by decide +kernel
theorem dX3_canEverGive_41 : decode cX3_canEverGive 41 = .ok (.iconst 0, 1) := by decide +kernel
theorem dX3_canEverGive_42 : decode cX3_canEverGive 42 = .ok (.invokevirtual 85, 3) := by decide +kernel
theorem dX3_canEverGive_45 : decode cX3_canEverGive 45 = .ok (.ifCond .eq 5, 3) := by decide +kernel
theorem dX3_canEverGive_48 : decode cX3_canEverGive 48 = .ok (.iconst 1, 1) := by decide +kernel
theorem dX3_canEverGive_49 : decode cX3_canEverGive 49 = .ok (.ireturn, 1) := by decide +kernel
theorem dX3_canEverGive_50 : decode cX3_canEverGive 50 = .ok (.iinc 4 1, 3) := by decide +kernel
theorem dX3_canEverGive_53 : decode cX3_canEverGive 53 = .ok (.goto (-28), 3) := by decide +kernel
theorem dX3_canEverGive_56 : decode cX3_canEverGive 56 = .ok (.iinc 3 1, 3) := by decide +kernel
theorem dX3_canEverGive_59 : decode cX3_canEverGive 59 = .ok (.goto (-46), 3) := by decide +kernel
theorem dX3_canEverGive_62 : decode cX3_canEverGive 62 = .ok (.iinc 2 1, 3) := by decide +kernel
theorem dX3_canEverGive_65 : decode cX3_canEverGive 65 = .ok (.goto (-63), 3) := by decide +kernel
theorem dX3_canEverGive_68 : decode cX3_canEverGive 68 = .ok (.iconst 0, 1) := by decide +kernel
theorem dX3_canEverGive_69 : decode cX3_canEverGive 69 = .ok (.ireturn, 1) := by decide +kernel
theorem dX3_anybodyTogether_0 : decode cX3_anybodyTogether 0 = .ok (.iconst 0, 1) := by decide +kernel
theorem dX3_anybodyTogether_1 : decode cX3_anybodyTogether 1 = .ok (.istore_n 2, 1) := by decide +kernel
theorem dX3_anybodyTogether_2 : decode cX3_anybodyTogether 2 = .ok (.iload_n 2, 1) := by decide +kernel
theorem dX3_anybodyTogether_3 : decode cX3_anybodyTogether 3 = .ok (.aload_n 0, 1) := by decide +kernel
theorem dX3_anybodyTogether_4 : decode cX3_anybodyTogether 4 = .ok (.iconst 5, 1) := by decide +kernel
theorem dX3_anybodyTogether_5 : decode cX3_anybodyTogether 5 = .ok (.invokevirtual 55, 3) := by decide +kernel
theorem dX3_anybodyTogether_8 : decode cX3_anybodyTogether 8 = .ok (.if_icmp .ge 38, 3) := by decide +kernel
theorem dX3_anybodyTogether_11 : decode cX3_anybodyTogether 11 = .ok (.iconst 0, 1) := by decide +kernel
theorem dX3_anybodyTogether_12 : decode cX3_anybodyTogether 12 = .ok (.istore_n 3, 1) := by decide +kernel
theorem dX3_anybodyTogether_13 : decode cX3_anybodyTogether 13 = .ok (.iload_n 3, 1) := by decide +kernel
theorem dX3_anybodyTogether_14 : decode cX3_anybodyTogether 14 = .ok (.aload_n 0, 1) := by decide +kernel
theorem dX3_anybodyTogether_15 : decode cX3_anybodyTogether 15 = .ok (.iconst 3, 1) := by decide +kernel
theorem dX3_anybodyTogether_16 : decode cX3_anybodyTogether 16 = .ok (.invokevirtual 55, 3) := by decide +kernel
theorem dX3_anybodyTogether_19 : decode cX3_anybodyTogether 19 = .ok (.if_icmp .ge 21, 3) := by decide +kernel
theorem dX3_anybodyTogether_22 : decode cX3_anybodyTogether 22 = .ok (.aload_n 0, 1) := by decide +kernel
theorem dX3_anybodyTogether_23 : decode cX3_anybodyTogether 23 = .ok (.iload_n 2, 1) := by decide +kernel
theorem dX3_anybodyTogether_24 : decode cX3_anybodyTogether 24 = .ok (.iload_n 3, 1) := by decide +kernel
theorem dX3_anybodyTogether_25 : decode cX3_anybodyTogether 25 = .ok (.iload_n 1, 1) := by decide +kernel
theorem dX3_anybodyTogether_26 : decode cX3_anybodyTogether 26 = .ok (.invokevirtual 71, 3) := by decide +kernel
theorem dX3_anybodyTogether_29 : decode cX3_anybodyTogether 29 = .ok (.ifCond .lt 5, 3) := by decide +kernel
theorem dX3_anybodyTogether_32 : decode cX3_anybodyTogether 32 = .ok (.iconst 1, 1) := by decide +kernel
theorem dX3_anybodyTogether_33 : decode cX3_anybodyTogether 33 = .ok (.ireturn, 1) := by decide +kernel
theorem dX3_anybodyTogether_34 : decode cX3_anybodyTogether 34 = .ok (.iinc 3 1, 3) := by decide +kernel
theorem dX3_anybodyTogether_37 : decode cX3_anybodyTogether 37 = .ok (.goto (-24), 3) := by decide +kernel
theorem dX3_anybodyTogether_40 : decode cX3_anybodyTogether 40 = .ok (.iinc 2 1, 3) := by decide +kernel
theorem dX3_anybodyTogether_43 : decode cX3_anybodyTogether 43 = .ok (.goto (-41), 3) := by decide +kernel
theorem dX3_anybodyTogether_46 : decode cX3_anybodyTogether 46 = .ok (.iconst 0, 1) := by decide +kernel
theorem dX3_anybodyTogether_47 : decode cX3_anybodyTogether 47 = .ok (.ireturn, 1) := by decide +kernel
theorem dX4_init_0 : decode cX4_init 0 = .ok (.aload_n 0, 1) := by decide +kernel
theorem dX4_init_1 : decode cX4_init 1 = .ok (.invokespecial 3, 3) := by decide +kernel
theorem dX4_init_4 : decode cX4_init 4 = .ok (.aload_n 0, 1) := by decide +kernel
theorem dX4_init_5 : decode cX4_init 5 = .ok (.new 9, 3) := by decide +kernel
theorem dX4_init_8 : decode cX4_init 8 = .ok (.dup, 1) := by decide +kernel
theorem dX4_init_9 : decode cX4_init 9 = .ok (.bipush 16, 2) := by decide +kernel
theorem dX4_init_11 : decode cX4_init 11 = .ok (.bipush 16, 2) := by decide +kernel
theorem dX4_init_13 : decode cX4_init 13 = .ok (.invokespecial 15, 3) := by decide +kernel
theorem dX4_init_16 : decode cX4_init 16 = .ok (.putfield 18, 3) := by decide +kernel
theorem dX4_init_19 : decode cX4_init 19 = .ok (.aload_n 0, 1) := by decide +kernel
theorem dX4_init_20 : decode cX4_init 20 = .ok (.new 9, 3) := by decide +kernel
theorem dX4_init_23 : decode cX4_init 23 = .ok (.dup, 1) := by decide +kernel
theorem dX4_init_24 : decode cX4_init 24 = .ok (.iconst 3, 1) := by decide +kernel
theorem dX4_init_25 : decode cX4_init 25 = .ok (.bipush 16, 2) := by decide +kernel
theorem dX4_init_27 : decode cX4_init 27 = .ok (.invokespecial 15, 3) := by decide +kernel
theorem dX4_init_30 : decode cX4_init 30 = .ok (.putfield 22, 3) := by decide +kernel
theorem dX4_init_33 : decode cX4_init 33 = .ok (.aload_n 0, 1) := by decide +kernel
theorem dX4_init_34 : decode cX4_init 34 = .ok (.iconst 0, 1) := by decide +kernel
theorem dX4_init_35 : decode cX4_init 35 = .ok (.putfield 25, 3) := by decide +kernel
theorem dX4_init_38 : decode cX4_init 38 = .ok (.aload_n 0, 1) := by decide +kernel
theorem dX4_init_39 : decode cX4_init 39 = .ok (.iconst 0, 1) := by decide +kernel
theorem dX4_init_40 : decode cX4_init 40 = .ok (.putfield 29, 3) := by decide +kernel
theorem dX4_init_43 : decode cX4_init 43 = .ok (.aload_n 0, 1) := by decide +kernel
theorem dX4_init_44 : decode cX4_init 44 = .ok (.iconst 0, 1) := by decide +kernel
theorem dX4_init_45 : decode cX4_init 45 = .ok (.putfield 32, 3) := by decide +kernel
theorem dX4_init_48 : decode cX4_init 48 = .ok (.return_, 1) := by decide +kernel
theorem dX4_forgetAll_0 : decode cX4_forgetAll 0 = .ok (.aload_n 0, 1) := by decide +kernel
theorem dX4_forgetAll_1 : decode cX4_forgetAll 1 = .ok (.iconst 0, 1) := by decide +kernel
theorem dX4_forgetAll_2 : decode cX4_forgetAll 2 = .ok (.putfield 29, 3) := by decide +kernel
theorem dX4_forgetAll_5 : decode cX4_forgetAll 5 = .ok (.aload_n 0, 1) := by decide +kernel
theorem dX4_forgetAll_6 : decode cX4_forgetAll 6 = .ok (.iconst 0, 1) := by decide +kernel
theorem dX4_forgetAll_7 : decode cX4_forgetAll 7 = .ok (.putfield 32, 3) := by decide +kernel
theorem dX4_forgetAll_10 : decode cX4_forgetAll 10 = .ok (.return_, 1) := by decide +kernel
theorem dX4_actCount_0 : decode cX4_actCount 0 = .ok (.aload_n 0, 1) := by decide +kernel
theorem dX4_actCount_1 : decode cX4_actCount 1 = .ok (.getfield 29, 3) := by decide +kernel
theorem dX4_actCount_4 : decode cX4_actCount 4 = .ok (.ireturn, 1) := by decide +kernel
theorem dX4_markCount_0 : decode cX4_markCount 0 = .ok (.aload_n 0, 1) := by decide +kernel
theorem dX4_markCount_1 : decode cX4_markCount 1 = .ok (.getfield 32, 3) := by decide +kernel
theorem dX4_markCount_4 : decode cX4_markCount 4 = .ok (.ireturn, 1) := by decide +kernel
theorem dX4_keep_0 : decode cX4_keep 0 = .ok (.aload_n 1, 1) := by decide +kernel
theorem dX4_keep_1 : decode cX4_keep 1 = .ok (.aload_n 0, 1) := by decide +kernel
theorem dX4_keep_2 : decode cX4_keep 2 = .ok (.getfield 18, 3) := by decide +kernel
theorem dX4_keep_5 : decode cX4_keep 5 = .ok (.aload_n 0, 1) := by decide +kernel
theorem dX4_keep_6 : decode cX4_keep 6 = .ok (.getfield 25, 3) := by decide +kernel
theorem dX4_keep_9 : decode cX4_keep 9 = .ok (.invokevirtual 35, 3) := by decide +kernel
theorem dX4_keep_12 : decode cX4_keep 12 = .ok (.aload_n 0, 1) := by decide +kernel
theorem dX4_keep_13 : decode cX4_keep 13 = .ok (.aload_n 0, 1) := by decide +kernel
theorem dX4_keep_14 : decode cX4_keep 14 = .ok (.getfield 25, 3) := by decide +kernel
theorem dX4_keep_17 : decode cX4_keep 17 = .ok (.iconst 1, 1) := by decide +kernel
theorem dX4_keep_18 : decode cX4_keep 18 = .ok (.iadd, 1) := by decide +kernel
theorem dX4_keep_19 : decode cX4_keep 19 = .ok (.bipush 16, 2) := by decide +kernel
theorem dX4_keep_21 : decode cX4_keep 21 = .ok (.irem, 1) := by decide +kernel
theorem dX4_keep_22 : decode cX4_keep 22 = .ok (.putfield 25, 3) := by decide +kernel
theorem dX4_keep_25 : decode cX4_keep 25 = .ok (.aload_n 0, 1) := by decide +kernel
theorem dX4_keep_26 : decode cX4_keep 26 = .ok (.bipush 16, 2) := by decide +kernel
theorem dX4_keep_28 : decode cX4_keep 28 = .ok (.aload_n 0, 1) := by decide +kernel
theorem dX4_keep_29 : decode cX4_keep 29 = .ok (.getfield 29, 3) := by decide +kernel
theorem dX4_keep_32 : decode cX4_keep 32 = .ok (.iconst 1, 1) := by decide +kernel
theorem dX4_keep_33 : decode cX4_keep 33 = .ok (.iadd, 1) := by decide +kernel
theorem dX4_keep_34 : decode cX4_keep 34 = .ok (.invokestatic 39, 3) := by decide +kernel
theorem dX4_keep_37 : decode cX4_keep 37 = .ok (.putfield 29, 3) := by decide +kernel
theorem dX4_keep_40 : decode cX4_keep 40 = .ok (.return_, 1) := by decide +kernel
theorem dX4_takeBack_0 : decode cX4_takeBack 0 = .ok (.aload_n 0, 1) := by decide +kernel
theorem dX4_takeBack_1 : decode cX4_takeBack 1 = .ok (.getfield 29, 3) := by decide +kernel
theorem dX4_takeBack_4 : decode cX4_takeBack 4 = .ok (.ifCond .ne 5, 3) := by decide +kernel
theorem dX4_takeBack_7 : decode cX4_takeBack 7 = .ok (.iconst 0, 1) := by decide +kernel
theorem dX4_takeBack_8 : decode cX4_takeBack 8 = .ok (.ireturn, 1) := by decide +kernel
theorem dX4_takeBack_9 : decode cX4_takeBack 9 = .ok (.aload_n 0, 1) := by decide +kernel
theorem dX4_takeBack_10 : decode cX4_takeBack 10 = .ok (.aload_n 0, 1) := by decide +kernel
theorem dX4_takeBack_11 : decode cX4_takeBack 11 = .ok (.getfield 25, 3) := by decide +kernel
theorem dX4_takeBack_14 : decode cX4_takeBack 14 = .ok (.bipush 16, 2) := by decide +kernel
theorem dX4_takeBack_16 : decode cX4_takeBack 16 = .ok (.iadd, 1) := by decide +kernel
theorem dX4_takeBack_17 : decode cX4_takeBack 17 = .ok (.iconst 1, 1) := by decide +kernel
theorem dX4_takeBack_18 : decode cX4_takeBack 18 = .ok (.isub, 1) := by decide +kernel
theorem dX4_takeBack_19 : decode cX4_takeBack 19 = .ok (.bipush 16, 2) := by decide +kernel
theorem dX4_takeBack_21 : decode cX4_takeBack 21 = .ok (.irem, 1) := by decide +kernel
theorem dX4_takeBack_22 : decode cX4_takeBack 22 = .ok (.putfield 25, 3) := by decide +kernel
theorem dX4_takeBack_25 : decode cX4_takeBack 25 = .ok (.aload_n 0, 1) := by decide +kernel
theorem dX4_takeBack_26 : decode cX4_takeBack 26 = .ok (.dup, 1) := by decide +kernel
theorem dX4_takeBack_27 : decode cX4_takeBack 27 = .ok (.getfield 29, 3) := by decide +kernel
theorem dX4_takeBack_30 : decode cX4_takeBack 30 = .ok (.iconst 1, 1) := by decide +kernel
theorem dX4_takeBack_31 : decode cX4_takeBack 31 = .ok (.isub, 1) := by decide +kernel
theorem dX4_takeBack_32 : decode cX4_takeBack 32 = .ok (.putfield 29, 3) := by decide +kernel
theorem dX4_takeBack_35 : decode cX4_takeBack 35 = .ok (.aload_n 1, 1) := by decide +kernel
theorem dX4_takeBack_36 : decode cX4_takeBack 36 = .ok (.aload_n 0, 1) := by decide +kernel
theorem dX4_takeBack_37 : decode cX4_takeBack 37 = .ok (.getfield 18, 3) := by decide +kernel
theorem dX4_takeBack_40 : decode cX4_takeBack 40 = .ok (.aload_n 0, 1) := by decide +kernel
theorem dX4_takeBack_41 : decode cX4_takeBack 41 = .ok (.getfield 25, 3) := by decide +kernel
theorem dX4_takeBack_44 : decode cX4_takeBack 44 = .ok (.invokevirtual 45, 3) := by decide +kernel
theorem dX4_takeBack_47 : decode cX4_takeBack 47 = .ok (.iconst 1, 1) := by decide +kernel
theorem dX4_takeBack_48 : decode cX4_takeBack 48 = .ok (.ireturn, 1) := by decide +kernel
theorem dX4_setMark_0 : decode cX4_setMark 0 = .ok (.aload_n 0, 1) := by decide +kernel
theorem dX4_setMark_1 : decode cX4_setMark 1 = .ok (.getfield 32, 3) := by decide +kernel
theorem dX4_setMark_4 : decode cX4_setMark 4 = .ok (.iconst 3, 1) := by decide +kernel
theorem dX4_setMark_5 : decode cX4_setMark 5 = .ok (.if_icmp .lt 5, 3) := by decide +kernel
theorem dX4_setMark_8 : decode cX4_setMark 8 = .ok (.iconst (-1), 1) := by decide +kernel
theorem dX4_setMark_9 : decode cX4_setMark 9 = .ok (.ireturn, 1) := by decide +kernel
theorem dX4_setMark_10 : decode cX4_setMark 10 = .ok (.aload_n 1, 1) := by decide +kernel
theorem dX4_setMark_11 : decode cX4_setMark 11 = .ok (.aload_n 0, 1) := by decide +kernel
theorem dX4_setMark_12 : decode cX4_setMark 12 = .ok (.getfield 22, 3) := by decide +kernel
theorem dX4_setMark_15 : decode cX4_setMark 15 = .ok (.aload_n 0, 1) := by decide +kernel
theorem dX4_setMark_16 : decode cX4_setMark 16 = .ok (.getfield 32, 3) := by decide +kernel
theorem dX4_setMark_19 : decode cX4_setMark 19 = .ok (.invokevirtual 35, 3) := by decide +kernel
theorem dX4_setMark_22 : decode cX4_setMark 22 = .ok (.aload_n 0, 1) := by decide +kernel
theorem dX4_setMark_23 : decode cX4_setMark 23 = .ok (.dup, 1) := by decide +kernel
theorem dX4_setMark_24 : decode cX4_setMark 24 = .ok (.getfield 32, 3) := by decide +kernel
theorem dX4_setMark_27 : decode cX4_setMark 27 = .ok (.iconst 1, 1) := by decide +kernel
theorem dX4_setMark_28 : decode cX4_setMark 28 = .ok (.iadd, 1) := by decide +kernel
theorem dX4_setMark_29 : decode cX4_setMark 29 = .ok (.putfield 32, 3) := by decide +kernel
theorem dX4_setMark_32 : decode cX4_setMark 32 = .ok (.aload_n 0, 1) := by decide +kernel
theorem dX4_setMark_33 : decode cX4_setMark 33 = .ok (.getfield 32, 3) := by decide +kernel
theorem dX4_setMark_36 : decode cX4_setMark 36 = .ok (.iconst 1, 1) := by decide +kernel
theorem dX4_setMark_37 : decode cX4_setMark 37 = .ok (.isub, 1) := by decide +kernel
theorem dX4_setMark_38 : decode cX4_setMark 38 = .ok (.ireturn, 1) := by decide +kernel
theorem dX4_goBack_0 : decode cX4_goBack 0 = .ok (.iload_n 1, 1) := by decide +kernel
theorem dX4_goBack_1 : decode cX4_goBack 1 = .ok (.ifCond .lt 11, 3) := by decide +kernel
theorem dX4_goBack_4 : decode cX4_goBack 4 = .ok (.iload_n 1, 1) := by decide +kernel
theorem dX4_goBack_5 : decode cX4_goBack 5 = .ok (.aload_n 0, 1) := by decide +kernel
theorem dX4_goBack_6 : decode cX4_goBack 6 = .ok (.getfield 32, 3) := by decide +kernel
theorem dX4_goBack_9 : decode cX4_goBack 9 = .ok (.if_icmp .lt 5, 3) := by decide +kernel
theorem dX4_goBack_12 : decode cX4_goBack 12 = .ok (.iconst 0, 1) := by decide +kernel
theorem dX4_goBack_13 : decode cX4_goBack 13 = .ok (.ireturn, 1) := by decide +kernel
theorem dX4_goBack_14 : decode cX4_goBack 14 = .ok (.aload_n 2, 1) := by decide +kernel
theorem dX4_goBack_15 : decode cX4_goBack 15 = .ok (.aload_n 0, 1) := by decide +kernel
theorem dX4_goBack_16 : decode cX4_goBack 16 = .ok (.getfield 22, 3) := by decide +kernel
theorem dX4_goBack_19 : decode cX4_goBack 19 = .ok (.iload_n 1, 1) := by decide +kernel
theorem dX4_goBack_20 : decode cX4_goBack 20 = .ok (.invokevirtual 45, 3) := by decide +kernel
theorem dX4_goBack_23 : decode cX4_goBack 23 = .ok (.aload_n 0, 1) := by decide +kernel
theorem dX4_goBack_24 : decode cX4_goBack 24 = .ok (.iconst 0, 1) := by decide +kernel
theorem dX4_goBack_25 : decode cX4_goBack 25 = .ok (.putfield 29, 3) := by decide +kernel
theorem dX4_goBack_28 : decode cX4_goBack 28 = .ok (.iconst 1, 1) := by decide +kernel
theorem dX4_goBack_29 : decode cX4_goBack 29 = .ok (.ireturn, 1) := by decide +kernel
theorem dX5_init_0 : decode cX5_init 0 = .ok (.aload_n 0, 1) := by decide +kernel
theorem dX5_init_1 : decode cX5_init 1 = .ok (.invokespecial 3, 3) := by decide +kernel
theorem dX5_init_4 : decode cX5_init 4 = .ok (.aload_n 0, 1) := by decide +kernel
theorem dX5_init_5 : decode cX5_init 5 = .ok (.new 9, 3) := by decide +kernel
theorem dX5_init_8 : decode cX5_init 8 = .ok (.dup, 1) := by decide +kernel
theorem dX5_init_9 : decode cX5_init 9 = .ok (.invokespecial 11, 3) := by decide +kernel
theorem dX5_init_12 : decode cX5_init 12 = .ok (.putfield 12, 3) := by decide +kernel
theorem dX5_init_15 : decode cX5_init 15 = .ok (.aload_n 0, 1) := by decide +kernel
theorem dX5_init_16 : decode cX5_init 16 = .ok (.new 18, 3) := by decide +kernel
theorem dX5_init_19 : decode cX5_init 19 = .ok (.dup, 1) := by decide +kernel
theorem dX5_init_20 : decode cX5_init 20 = .ok (.iconst 1, 1) := by decide +kernel
theorem dX5_init_21 : decode cX5_init 21 = .ok (.bipush 12, 2) := by decide +kernel
theorem dX5_init_23 : decode cX5_init 23 = .ok (.invokespecial 20, 3) := by decide +kernel
theorem dX5_init_26 : decode cX5_init 26 = .ok (.putfield 23, 3) := by decide +kernel
theorem dX5_init_29 : decode cX5_init 29 = .ok (.aload_n 0, 1) := by decide +kernel
theorem dX5_init_30 : decode cX5_init 30 = .ok (.iconst (-1), 1) := by decide +kernel
theorem dX5_init_31 : decode cX5_init 31 = .ok (.putfield 27, 3) := by decide +kernel
theorem dX5_init_34 : decode cX5_init 34 = .ok (.return_, 1) := by decide +kernel
theorem dX5_runAll_0 : decode cX5_runAll 0 = .ok (.aload_n 0, 1) := by decide +kernel
theorem dX5_runAll_1 : decode cX5_runAll 1 = .ok (.iconst (-1), 1) := by decide +kernel
theorem dX5_runAll_2 : decode cX5_runAll 2 = .ok (.putfield 27, 3) := by decide +kernel
theorem dX5_runAll_5 : decode cX5_runAll 5 = .ok (.aload_n 0, 1) := by decide +kernel
theorem dX5_runAll_6 : decode cX5_runAll 6 = .ok (.aload_n 1, 1) := by decide +kernel
theorem dX5_runAll_7 : decode cX5_runAll 7 = .ok (.aload_n 1, 1) := by decide +kernel
theorem dX5_runAll_8 : decode cX5_runAll 8 = .ok (.iconst 0, 1) := by decide +kernel
theorem dX5_runAll_9 : decode cX5_runAll 9 = .ok (.invokevirtual 31, 3) := by decide +kernel
theorem dX5_runAll_12 : decode cX5_runAll 12 = .ok (.iconst 1, 1) := by decide +kernel
theorem dX5_runAll_13 : decode cX5_runAll 13 = .ok (.isub, 1) := by decide +kernel
theorem dX5_runAll_14 : decode cX5_runAll 14 = .ok (.invokevirtual 37, 3) := by decide +kernel
theorem dX5_runAll_17 : decode cX5_runAll 17 = .ok (.return_, 1) := by decide +kernel
theorem dX5_runThrough_0 : decode cX5_runThrough 0 = .ok (.aload_n 0, 1) := by decide +kernel
theorem dX5_runThrough_1 : decode cX5_runThrough 1 = .ok (.iconst (-1), 1) := by decide +kernel
theorem dX5_runThrough_2 : decode cX5_runThrough 2 = .ok (.putfield 27, 3) := by decide +kernel
theorem dX5_runThrough_5 : decode cX5_runThrough 5 = .ok (.aload_n 0, 1) := by decide +kernel
theorem dX5_runThrough_6 : decode cX5_runThrough 6 = .ok (.aload_n 1, 1) := by decide +kernel
theorem dX5_runThrough_7 : decode cX5_runThrough 7 = .ok (.iload_n 2, 1) := by decide +kernel
theorem dX5_runThrough_8 : decode cX5_runThrough 8 = .ok (.invokevirtual 37, 3) := by decide +kernel
theorem dX5_runThrough_11 : decode cX5_runThrough 11 = .ok (.return_, 1) := by decide +kernel
theorem dX5_runByDraws_0 : decode cX5_runByDraws 0 = .ok (.aload_n 0, 1) := by decide +kernel
theorem dX5_runByDraws_1 : decode cX5_runByDraws 1 = .ok (.iload_n 2, 1) := by decide +kernel
theorem dX5_runByDraws_2 : decode cX5_runByDraws 2 = .ok (.putfield 27, 3) := by decide +kernel
theorem dX5_runByDraws_5 : decode cX5_runByDraws 5 = .ok (.aload_n 0, 1) := by decide +kernel
theorem dX5_runByDraws_6 : decode cX5_runByDraws 6 = .ok (.aload_n 1, 1) := by decide +kernel
theorem dX5_runByDraws_7 : decode cX5_runByDraws 7 = .ok (.aload_n 1, 1) := by decide +kernel
theorem dX5_runByDraws_8 : decode cX5_runByDraws 8 = .ok (.iconst 0, 1) := by decide +kernel
theorem dX5_runByDraws_9 : decode cX5_runByDraws 9 = .ok (.invokevirtual 31, 3) := by decide +kernel
theorem dX5_runByDraws_12 : decode cX5_runByDraws 12 = .ok (.iconst 1, 1) := by decide +kernel
theorem dX5_runByDraws_13 : decode cX5_runByDraws 13 = .ok (.isub, 1) := by decide +kernel
theorem dX5_runByDraws_14 : decode cX5_runByDraws 14 = .ok (.invokevirtual 37, 3) := by decide +kernel
theorem dX5_runByDraws_17 : decode cX5_runByDraws 17 = .ok (.aload_n 0, 1) := by decide +kernel
theorem dX5_runByDraws_18 : decode cX5_runByDraws 18 = .ok (.getfield 27, 3) := by decide +kernel
theorem dX5_runByDraws_21 : decode cX5_runByDraws 21 = .ok (.ireturn, 1) := by decide +kernel
theorem dX5_outcomeOf_0 : decode cX5_outcomeOf 0 = .ok (.aload_n 0, 1) := by decide +kernel
theorem dX5_outcomeOf_1 : decode cX5_outcomeOf 1 = .ok (.getfield 23, 3) := by decide +kernel
theorem dX5_outcomeOf_4 : decode cX5_outcomeOf 4 = .ok (.iconst 0, 1) := by decide +kernel
theorem dX5_outcomeOf_5 : decode cX5_outcomeOf 5 = .ok (.iload_n 1, 1) := by decide +kernel
theorem dX5_outcomeOf_6 : decode cX5_outcomeOf 6 = .ok (.invokevirtual 41, 3) := by decide +kernel
theorem dX5_outcomeOf_9 : decode cX5_outcomeOf 9 = .ok (.ireturn, 1) := by decide +kernel
theorem dX5_thingsOf_0 : decode cX5_thingsOf 0 = .ok (.aload_n 0, 1) := by decide +kernel
theorem dX5_thingsOf_1 : decode cX5_thingsOf 1 = .ok (.getfield 12, 3) := by decide +kernel
theorem dX5_thingsOf_4 : decode cX5_thingsOf 4 = .ok (.iload_n 1, 1) := by decide +kernel
theorem dX5_thingsOf_5 : decode cX5_thingsOf 5 = .ok (.invokevirtual 45, 3) := by decide +kernel
theorem dX5_thingsOf_8 : decode cX5_thingsOf 8 = .ok (.ireturn, 1) := by decide +kernel
theorem dX5_holder_0 : decode cX5_holder 0 = .ok (.aload_n 0, 1) := by decide +kernel
theorem dX5_holder_1 : decode cX5_holder 1 = .ok (.getfield 12, 3) := by decide +kernel
theorem dX5_holder_4 : decode cX5_holder 4 = .ok (.iload_n 1, 1) := by decide +kernel
theorem dX5_holder_5 : decode cX5_holder 5 = .ok (.invokevirtual 48, 3) := by decide +kernel
theorem dX5_holder_8 : decode cX5_holder 8 = .ok (.ireturn, 1) := by decide +kernel
theorem dX5_scoreOf_0 : decode cX5_scoreOf 0 = .ok (.aload_n 0, 1) := by decide +kernel
theorem dX5_scoreOf_1 : decode cX5_scoreOf 1 = .ok (.getfield 12, 3) := by decide +kernel
theorem dX5_scoreOf_4 : decode cX5_scoreOf 4 = .ok (.iload_n 1, 1) := by decide +kernel
theorem dX5_scoreOf_5 : decode cX5_scoreOf 5 = .ok (.invokevirtual 51, 3) := by decide +kernel
theorem dX5_scoreOf_8 : decode cX5_scoreOf 8 = .ok (.ireturn, 1) := by decide +kernel
theorem dX5_timesCaught_0 : decode cX5_timesCaught 0 = .ok (.aload_n 0, 1) := by decide +kernel
theorem dX5_timesCaught_1 : decode cX5_timesCaught 1 = .ok (.getfield 12, 3) := by decide +kernel
theorem dX5_timesCaught_4 : decode cX5_timesCaught 4 = .ok (.iload_n 1, 1) := by decide +kernel
theorem dX5_timesCaught_5 : decode cX5_timesCaught 5 = .ok (.invokevirtual 54, 3) := by decide +kernel
theorem dX5_timesCaught_8 : decode cX5_timesCaught 8 = .ok (.ireturn, 1) := by decide +kernel
theorem dX5_runGifts_0 : decode cX5_runGifts 0 = .ok (.aload_n 0, 1) := by decide +kernel
theorem dX5_runGifts_1 : decode cX5_runGifts 1 = .ok (.getfield 12, 3) := by decide +kernel
theorem dX5_runGifts_4 : decode cX5_runGifts 4 = .ok (.invokevirtual 57, 3) := by decide +kernel
theorem dX5_runGifts_7 : decode cX5_runGifts 7 = .ok (.iconst 0, 1) := by decide +kernel
theorem dX5_runGifts_8 : decode cX5_runGifts 8 = .ok (.istore_n 3, 1) := by decide +kernel
theorem dX5_runGifts_9 : decode cX5_runGifts 9 = .ok (.iload_n 3, 1) := by decide +kernel
theorem dX5_runGifts_10 : decode cX5_runGifts 10 = .ok (.iload_n 2, 1) := by decide +kernel
theorem dX5_runGifts_11 : decode cX5_runGifts 11 = .ok (.if_icmp .gt 57, 3) := by decide +kernel
theorem dX5_runGifts_14 : decode cX5_runGifts 14 = .ok (.iload_n 3, 1) := by decide +kernel
theorem dX5_runGifts_15 : decode cX5_runGifts 15 = .ok (.bipush 7, 2) := by decide +kernel
theorem dX5_runGifts_17 : decode cX5_runGifts 17 = .ok (.if_icmp .ge 51, 3) := by decide +kernel
theorem dX5_runGifts_20 : decode cX5_runGifts 20 = .ok (.iconst 0, 1) := by decide +kernel
theorem dX5_runGifts_21 : decode cX5_runGifts 21 = .ok (.istore 4, 2) := by decide +kernel
theorem dX5_runGifts_23 : decode cX5_runGifts 23 = .ok (.iload 4, 2) := by decide +kernel
theorem dX5_runGifts_25 : decode cX5_runGifts 25 = .ok (.aload_n 1, 1) := by decide +kernel
theorem dX5_runGifts_26 : decode cX5_runGifts 26 = .ok (.bipush 7, 2) := by decide +kernel
theorem dX5_runGifts_28 : decode cX5_runGifts 28 = .ok (.invokevirtual 31, 3) := by decide +kernel
theorem dX5_runGifts_31 : decode cX5_runGifts 31 = .ok (.if_icmp .ge 31, 3) := by decide +kernel
theorem dX5_runGifts_34 : decode cX5_runGifts 34 = .ok (.aload_n 1, 1) := by decide +kernel
theorem dX5_runGifts_35 : decode cX5_runGifts 35 = .ok (.getfield 60, 3) := by decide +kernel
theorem dX5_runGifts_38 : decode cX5_runGifts 38 = .ok (.iload 4, 2) := by decide +kernel
theorem dX5_runGifts_40 : decode cX5_runGifts 40 = .ok (.iconst 3, 1) := by decide +kernel
theorem dX5_runGifts_41 : decode cX5_runGifts 41 = .ok (.invokevirtual 41, 3) := by decide +kernel
theorem dX5_runGifts_44 : decode cX5_runGifts 44 = .ok (.iload_n 3, 1) := by decide +kernel
theorem dX5_runGifts_45 : decode cX5_runGifts 45 = .ok (.if_icmp .ne 11, 3) := by decide +kernel
theorem dX5_runGifts_48 : decode cX5_runGifts 48 = .ok (.aload_n 0, 1) := by decide +kernel
theorem dX5_runGifts_49 : decode cX5_runGifts 49 = .ok (.aload_n 1, 1) := by decide +kernel
theorem dX5_runGifts_50 : decode cX5_runGifts 50 = .ok (.iload 4, 2) := by decide +kernel
theorem dX5_runGifts_52 : decode cX5_runGifts 52 = .ok (.iload_n 3, 1) := by decide +kernel
theorem dX5_runGifts_53 : decode cX5_runGifts 53 = .ok (.invokevirtual 63, 3) := by decide +kernel
theorem dX5_runGifts_56 : decode cX5_runGifts 56 = .ok (.iinc 4 1, 3) := by decide +kernel
theorem dX5_runGifts_59 : decode cX5_runGifts 59 = .ok (.goto (-36), 3) := by decide +kernel
theorem dX5_runGifts_62 : decode cX5_runGifts 62 = .ok (.iinc 3 1, 3) := by decide +kernel
theorem dX5_runGifts_65 : decode cX5_runGifts 65 = .ok (.goto (-56), 3) := by decide +kernel
theorem dX5_runGifts_68 : decode cX5_runGifts 68 = .ok (.return_, 1) := by decide +kernel
theorem dX5_runGift_0 : decode cX5_runGift 0 = .ok (.aload_n 1, 1) := by decide +kernel
theorem dX5_runGift_1 : decode cX5_runGift 1 = .ok (.getfield 60, 3) := by decide +kernel
theorem dX5_runGift_4 : decode cX5_runGift 4 = .ok (.iload_n 2, 1) := by decide +kernel
theorem dX5_runGift_5 : decode cX5_runGift 5 = .ok (.iconst 0, 1) := by decide +kernel
theorem dX5_runGift_6 : decode cX5_runGift 6 = .ok (.invokevirtual 41, 3) := by decide +kernel
theorem dX5_runGift_9 : decode cX5_runGift 9 = .ok (.istore 4, 2) := by decide +kernel
theorem dX5_runGift_11 : decode cX5_runGift 11 = .ok (.aload_n 1, 1) := by decide +kernel
theorem dX5_runGift_12 : decode cX5_runGift 12 = .ok (.getfield 60, 3) := by decide +kernel
theorem dX5_runGift_15 : decode cX5_runGift 15 = .ok (.iload_n 2, 1) := by decide +kernel
theorem dX5_runGift_16 : decode cX5_runGift 16 = .ok (.iconst 1, 1) := by decide +kernel
theorem dX5_runGift_17 : decode cX5_runGift 17 = .ok (.invokevirtual 41, 3) := by decide +kernel
theorem dX5_runGift_20 : decode cX5_runGift 20 = .ok (.istore 5, 2) := by decide +kernel
theorem dX5_runGift_22 : decode cX5_runGift 22 = .ok (.aload_n 1, 1) := by decide +kernel
theorem dX5_runGift_23 : decode cX5_runGift 23 = .ok (.getfield 60, 3) := by decide +kernel
theorem dX5_runGift_26 : decode cX5_runGift 26 = .ok (.iload_n 2, 1) := by decide +kernel
theorem dX5_runGift_27 : decode cX5_runGift 27 = .ok (.iconst 2, 1) := by decide +kernel
theorem dX5_runGift_28 : decode cX5_runGift 28 = .ok (.invokevirtual 41, 3) := by decide +kernel
theorem dX5_runGift_31 : decode cX5_runGift 31 = .ok (.istore 6, 2) := by decide +kernel
theorem dX5_runGift_33 : decode cX5_runGift 33 = .ok (.aload_n 0, 1) := by decide +kernel
theorem dX5_runGift_34 : decode cX5_runGift 34 = .ok (.getfield 12, 3) := by decide +kernel
theorem dX5_runGift_37 : decode cX5_runGift 37 = .ok (.aload_n 1, 1) := by decide +kernel
theorem dX5_runGift_38 : decode cX5_runGift 38 = .ok (.iload_n 3, 1) := by decide +kernel
theorem dX5_runGift_39 : decode cX5_runGift 39 = .ok (.iload 4, 2) := by decide +kernel
theorem dX5_runGift_41 : decode cX5_runGift 41 = .ok (.iload 5, 2) := by decide +kernel
theorem dX5_runGift_43 : decode cX5_runGift 43 = .ok (.iload 6, 2) := by decide +kernel
theorem dX5_runGift_45 : decode cX5_runGift 45 = .ok (.invokevirtual 67, 3) := by decide +kernel
theorem dX5_runGift_48 : decode cX5_runGift 48 = .ok (.istore 7, 2) := by decide +kernel
theorem dX5_runGift_50 : decode cX5_runGift 50 = .ok (.iload 7, 2) := by decide +kernel
theorem dX5_runGift_52 : decode cX5_runGift 52 = .ok (.ifCond .ne 29, 3) := by decide +kernel
theorem dX5_runGift_55 : decode cX5_runGift 55 = .ok (.aload_n 0, 1) := by decide +kernel
theorem dX5_runGift_56 : decode cX5_runGift 56 = .ok (.aload_n 1, 1) := by decide +kernel
theorem dX5_runGift_57 : decode cX5_runGift 57 = .ok (.aload_n 0, 1) := by decide +kernel
theorem dX5_runGift_58 : decode cX5_runGift 58 = .ok (.getfield 12, 3) := by decide +kernel
theorem dX5_runGift_61 : decode cX5_runGift 61 = .ok (.aload_n 1, 1) := by decide +kernel
theorem dX5_runGift_62 : decode cX5_runGift 62 = .ok (.iload_n 3, 1) := by decide +kernel
theorem dX5_runGift_63 : decode cX5_runGift 63 = .ok (.iload 4, 2) := by decide +kernel
theorem dX5_runGift_65 : decode cX5_runGift 65 = .ok (.iload 5, 2) := by decide +kernel
theorem dX5_runGift_67 : decode cX5_runGift 67 = .ok (.iload 6, 2) := by decide +kernel
theorem dX5_runGift_69 : decode cX5_runGift 69 = .ok (.invokevirtual 71, 3) := by decide +kernel
theorem dX5_runGift_72 : decode cX5_runGift 72 = .ok (.invokevirtual 74, 3) := by decide +kernel
theorem dX5_runGift_75 : decode cX5_runGift 75 = .ok (.ifCond .eq 6, 3) := by decide +kernel
theorem dX5_runGift_78 : decode cX5_runGift 78 = .ok (.iconst 1, 1) := by decide +kernel
theorem dX5_runGift_79 : decode cX5_runGift 79 = .ok (.istore 7, 2) := by decide +kernel
theorem dX5_runGift_81 : decode cX5_runGift 81 = .ok (.aload_n 0, 1) := by decide +kernel
theorem dX5_runGift_82 : decode cX5_runGift 82 = .ok (.getfield 23, 3) := by decide +kernel
theorem dX5_runGift_85 : decode cX5_runGift 85 = .ok (.iconst 0, 1) := by decide +kernel
theorem dX5_runGift_86 : decode cX5_runGift 86 = .ok (.iload_n 2, 1) := by decide +kernel
theorem dX5_runGift_87 : decode cX5_runGift 87 = .ok (.iload 7, 2) := by decide +kernel
theorem dX5_runGift_89 : decode cX5_runGift 89 = .ok (.invokevirtual 78, 3) := by decide +kernel
theorem dX5_runGift_92 : decode cX5_runGift 92 = .ok (.aload_n 0, 1) := by decide +kernel
theorem dX5_runGift_93 : decode cX5_runGift 93 = .ok (.getfield 12, 3) := by decide +kernel
theorem dX5_runGift_96 : decode cX5_runGift 96 = .ok (.aload_n 1, 1) := by decide +kernel
theorem dX5_runGift_97 : decode cX5_runGift 97 = .ok (.iload 4, 2) := by decide +kernel
theorem dX5_runGift_99 : decode cX5_runGift 99 = .ok (.iload 5, 2) := by decide +kernel
theorem dX5_runGift_101 : decode cX5_runGift 101 = .ok (.iload 6, 2) := by decide +kernel
theorem dX5_runGift_103 : decode cX5_runGift 103 = .ok (.iload 7, 2) := by decide +kernel
theorem dX5_runGift_105 : decode cX5_runGift 105 = .ok (.invokevirtual 82, 3) := by decide +kernel
theorem dX5_runGift_108 : decode cX5_runGift 108 = .ok (.return_, 1) := by decide +kernel
theorem dX5_isCaught_0 : decode cX5_isCaught 0 = .ok (.aload_n 0, 1) := by decide +kernel
theorem dX5_isCaught_1 : decode cX5_isCaught 1 = .ok (.getfield 27, 3) := by decide +kernel
theorem dX5_isCaught_4 : decode cX5_isCaught 4 = .ok (.iconst (-1), 1) := by decide +kernel
theorem dX5_isCaught_5 : decode cX5_isCaught 5 = .ok (.if_icmp .ne 9, 3) := by decide +kernel
theorem dX5_isCaught_8 : decode cX5_isCaught 8 = .ok (.aload_n 1, 1) := by decide +kernel
theorem dX5_isCaught_9 : decode cX5_isCaught 9 = .ok (.iload_n 2, 1) := by decide +kernel
theorem dX5_isCaught_10 : decode cX5_isCaught 10 = .ok (.invokevirtual 86, 3) := by decide +kernel
theorem dX5_isCaught_13 : decode cX5_isCaught 13 = .ok (.ireturn, 1) := by decide +kernel
theorem dX5_isCaught_14 : decode cX5_isCaught 14 = .ok (.aload_n 0, 1) := by decide +kernel
theorem dX5_isCaught_15 : decode cX5_isCaught 15 = .ok (.bipush 75, 2) := by decide +kernel
theorem dX5_isCaught_17 : decode cX5_isCaught 17 = .ok (.aload_n 0, 1) := by decide +kernel
theorem dX5_isCaught_18 : decode cX5_isCaught 18 = .ok (.getfield 27, 3) := by decide +kernel
theorem dX5_isCaught_21 : decode cX5_isCaught 21 = .ok (.imul, 1) := by decide +kernel
theorem dX5_isCaught_22 : decode cX5_isCaught 22 = .ok (.bipush 74, 2) := by decide +kernel
theorem dX5_isCaught_24 : decode cX5_isCaught 24 = .ok (.iadd, 1) := by decide +kernel
theorem dX5_isCaught_25 : decode cX5_isCaught 25 = .ok (.ldc 90, 2) := by decide +kernel
theorem dX5_isCaught_27 : decode cX5_isCaught 27 = .ok (.irem, 1) := by decide +kernel
theorem dX5_isCaught_28 : decode cX5_isCaught 28 = .ok (.putfield 27, 3) := by decide +kernel
theorem dX5_isCaught_31 : decode cX5_isCaught 31 = .ok (.aload_n 0, 1) := by decide +kernel
theorem dX5_isCaught_32 : decode cX5_isCaught 32 = .ok (.getfield 27, 3) := by decide +kernel
theorem dX5_isCaught_35 : decode cX5_isCaught 35 = .ok (.bipush 100, 2) := by decide +kernel
theorem dX5_isCaught_37 : decode cX5_isCaught 37 = .ok (.irem, 1) := by decide +kernel
theorem dX5_isCaught_38 : decode cX5_isCaught 38 = .ok (.iload_n 2, 1) := by decide +kernel
theorem dX5_isCaught_39 : decode cX5_isCaught 39 = .ok (.if_icmp .ge 7, 3) := by decide +kernel
theorem dX5_isCaught_42 : decode cX5_isCaught 42 = .ok (.iconst 1, 1) := by decide +kernel
theorem dX5_isCaught_43 : decode cX5_isCaught 43 = .ok (.goto 4, 3) := by decide +kernel
theorem dX5_isCaught_46 : decode cX5_isCaught 46 = .ok (.iconst 0, 1) := by decide +kernel
theorem dX5_isCaught_47 : decode cX5_isCaught 47 = .ok (.ireturn, 1) := by decide +kernel
theorem dX6_init_0 : decode cX6_init 0 = .ok (.aload_n 0, 1) := by decide +kernel
theorem dX6_init_1 : decode cX6_init 1 = .ok (.invokespecial 3, 3) := by decide +kernel
theorem dX6_init_4 : decode cX6_init 4 = .ok (.aload_n 0, 1) := by decide +kernel
theorem dX6_init_5 : decode cX6_init 5 = .ok (.sipush 1000, 3) := by decide +kernel
theorem dX6_init_8 : decode cX6_init 8 = .ok (.newarray .byte, 2) := by decide +kernel
theorem dX6_init_10 : decode cX6_init 10 = .ok (.putfield 9, 3) := by decide +kernel
theorem dX6_init_13 : decode cX6_init 13 = .ok (.aload_n 0, 1) := by decide +kernel
theorem dX6_init_14 : decode cX6_init 14 = .ok (.iconst 0, 1) := by decide +kernel
theorem dX6_init_15 : decode cX6_init 15 = .ok (.putfield 15, 3) := by decide +kernel
theorem dX6_init_18 : decode cX6_init 18 = .ok (.aload_n 0, 1) := by decide +kernel
theorem dX6_init_19 : decode cX6_init 19 = .ok (.new 19, 3) := by decide +kernel
theorem dX6_init_22 : decode cX6_init 22 = .ok (.dup, 1) := by decide +kernel
theorem dX6_init_23 : decode cX6_init 23 = .ok (.invokespecial 21, 3) := by decide +kernel
theorem dX6_init_26 : decode cX6_init 26 = .ok (.putfield 22, 3) := by decide +kernel
theorem dX6_init_29 : decode cX6_init 29 = .ok (.aload_n 0, 1) := by decide +kernel
theorem dX6_init_30 : decode cX6_init 30 = .ok (.bipush 16, 2) := by decide +kernel
theorem dX6_init_32 : decode cX6_init 32 = .ok (.newarray .long, 2) := by decide +kernel
theorem dX6_init_34 : decode cX6_init 34 = .ok (.putfield 26, 3) := by decide +kernel
theorem dX6_init_37 : decode cX6_init 37 = .ok (.aload_n 0, 1) := by decide +kernel
theorem dX6_init_38 : decode cX6_init 38 = .ok (.new 30, 3) := by decide +kernel
theorem dX6_init_41 : decode cX6_init 41 = .ok (.dup, 1) := by decide +kernel
theorem dX6_init_42 : decode cX6_init 42 = .ok (.bipush 16, 2) := by decide +kernel
theorem dX6_init_44 : decode cX6_init 44 = .ok (.iconst 2, 1) := by decide +kernel
theorem dX6_init_45 : decode cX6_init 45 = .ok (.invokespecial 32, 3) := by decide +kernel
theorem dX6_init_48 : decode cX6_init 48 = .ok (.putfield 35, 3) := by decide +kernel
theorem dX6_init_51 : decode cX6_init 51 = .ok (.aload_n 0, 1) := by decide +kernel
theorem dX6_init_52 : decode cX6_init 52 = .ok (.iconst 0, 1) := by decide +kernel
theorem dX6_init_53 : decode cX6_init 53 = .ok (.putfield 39, 3) := by decide +kernel
theorem dX6_init_56 : decode cX6_init 56 = .ok (.aload_n 0, 1) := by decide +kernel
theorem dX6_init_57 : decode cX6_init 57 = .ok (.iconst 0, 1) := by decide +kernel
theorem dX6_init_58 : decode cX6_init 58 = .ok (.putfield 42, 3) := by decide +kernel
theorem dX6_init_61 : decode cX6_init 61 = .ok (.aload_n 0, 1) := by decide +kernel
theorem dX6_init_62 : decode cX6_init 62 = .ok (.iconst 0, 1) := by decide +kernel
theorem dX6_init_63 : decode cX6_init 63 = .ok (.putfield 45, 3) := by decide +kernel
theorem dX6_init_66 : decode cX6_init 66 = .ok (.aload_n 0, 1) := by decide +kernel
theorem dX6_init_67 : decode cX6_init 67 = .ok (.iconst 0, 1) := by decide +kernel
theorem dX6_init_68 : decode cX6_init 68 = .ok (.putfield 48, 3) := by decide +kernel
theorem dX6_init_71 : decode cX6_init 71 = .ok (.aload_n 0, 1) := by decide +kernel
theorem dX6_init_72 : decode cX6_init 72 = .ok (.iconst 0, 1) := by decide +kernel
theorem dX6_init_73 : decode cX6_init 73 = .ok (.putfield 51, 3) := by decide +kernel
theorem dX6_init_76 : decode cX6_init 76 = .ok (.aload_n 0, 1) := by decide +kernel
theorem dX6_init_77 : decode cX6_init 77 = .ok (.lconst 0, 1) := by decide +kernel
theorem dX6_init_78 : decode cX6_init 78 = .ok (.putfield 54, 3) := by decide +kernel
theorem dX6_init_81 : decode cX6_init 81 = .ok (.aload_n 0, 1) := by decide +kernel
theorem dX6_init_82 : decode cX6_init 82 = .ok (.iconst 0, 1) := by decide +kernel
theorem dX6_init_83 : decode cX6_init 83 = .ok (.putfield 58, 3) := by decide +kernel
theorem dX6_init_86 : decode cX6_init 86 = .ok (.aload_n 0, 1) := by decide +kernel
theorem dX6_init_87 : decode cX6_init 87 = .ok (.iconst 0, 1) := by decide +kernel
theorem dX6_init_88 : decode cX6_init 88 = .ok (.putfield 61, 3) := by decide +kernel
theorem dX6_init_91 : decode cX6_init 91 = .ok (.aload_n 0, 1) := by decide +kernel
theorem dX6_init_92 : decode cX6_init 92 = .ok (.iconst 0, 1) := by decide +kernel
theorem dX6_init_93 : decode cX6_init 93 = .ok (.putfield 64, 3) := by decide +kernel
theorem dX6_init_96 : decode cX6_init 96 = .ok (.aload_n 0, 1) := by decide +kernel
theorem dX6_init_97 : decode cX6_init 97 = .ok (.iconst 0, 1) := by decide +kernel
theorem dX6_init_98 : decode cX6_init 98 = .ok (.putfield 67, 3) := by decide +kernel
theorem dX6_init_101 : decode cX6_init 101 = .ok (.return_, 1) := by decide +kernel
theorem dX6_tapeLength_0 : decode cX6_tapeLength 0 = .ok (.aload_n 0, 1) := by decide +kernel
theorem dX6_tapeLength_1 : decode cX6_tapeLength 1 = .ok (.getfield 15, 3) := by decide +kernel
theorem dX6_tapeLength_4 : decode cX6_tapeLength 4 = .ok (.ireturn, 1) := by decide +kernel
theorem dX6_append_0 : decode cX6_append 0 = .ok (.bipush 24, 2) := by decide +kernel
theorem dX6_append_2 : decode cX6_append 2 = .ok (.istore_n 2, 1) := by decide +kernel
theorem dX6_append_3 : decode cX6_append 3 = .ok (.iload_n 2, 1) := by decide +kernel
theorem dX6_append_4 : decode cX6_append 4 = .ok (.ifCond .lt 51, 3) := by decide +kernel
theorem dX6_append_7 : decode cX6_append 7 = .ok (.aload_n 0, 1) := by decide +kernel
theorem dX6_append_8 : decode cX6_append 8 = .ok (.getfield 15, 3) := by decide +kernel
theorem dX6_append_11 : decode cX6_append 11 = .ok (.ifCond .lt 38, 3) := by decide +kernel
theorem dX6_append_14 : decode cX6_append 14 = .ok (.aload_n 0, 1) := by decide +kernel
theorem dX6_append_15 : decode cX6_append 15 = .ok (.getfield 15, 3) := by decide +kernel
theorem dX6_append_18 : decode cX6_append 18 = .ok (.aload_n 0, 1) := by decide +kernel
theorem dX6_append_19 : decode cX6_append 19 = .ok (.getfield 9, 3) := by decide +kernel
theorem dX6_append_22 : decode cX6_append 22 = .ok (.arraylength, 1) := by decide +kernel
theorem dX6_append_23 : decode cX6_append 23 = .ok (.if_icmp .ge 26, 3) := by decide +kernel
theorem dX6_append_26 : decode cX6_append 26 = .ok (.aload_n 0, 1) := by decide +kernel
theorem dX6_append_27 : decode cX6_append 27 = .ok (.getfield 9, 3) := by decide +kernel
theorem dX6_append_30 : decode cX6_append 30 = .ok (.aload_n 0, 1) := by decide +kernel
theorem dX6_append_31 : decode cX6_append 31 = .ok (.getfield 15, 3) := by decide +kernel
theorem dX6_append_34 : decode cX6_append 34 = .ok (.iload_n 1, 1) := by decide +kernel
theorem dX6_append_35 : decode cX6_append 35 = .ok (.iload_n 2, 1) := by decide +kernel
theorem dX6_append_36 : decode cX6_append 36 = .ok (.ishr, 1) := by decide +kernel
theorem dX6_append_37 : decode cX6_append 37 = .ok (.i2b, 1) := by decide +kernel
theorem dX6_append_38 : decode cX6_append 38 = .ok (.bastore, 1) := by decide +kernel
theorem dX6_append_39 : decode cX6_append 39 = .ok (.aload_n 0, 1) := by decide +kernel
theorem dX6_append_40 : decode cX6_append 40 = .ok (.dup, 1) := by decide +kernel
theorem dX6_append_41 : decode cX6_append 41 = .ok (.getfield 15, 3) := by decide +kernel
theorem dX6_append_44 : decode cX6_append 44 = .ok (.iconst 1, 1) := by decide +kernel
theorem dX6_append_45 : decode cX6_append 45 = .ok (.iadd, 1) := by decide +kernel
theorem dX6_append_46 : decode cX6_append 46 = .ok (.putfield 15, 3) := by decide +kernel
theorem dX6_append_49 : decode cX6_append 49 = .ok (.iinc 2 (-8), 3) := by decide +kernel
theorem dX6_append_52 : decode cX6_append 52 = .ok (.goto (-49), 3) := by decide +kernel
theorem dX6_append_55 : decode cX6_append 55 = .ok (.return_, 1) := by decide +kernel
theorem dX6_faultNumber_0 : decode cX6_faultNumber 0 = .ok (.aload_n 0, 1) := by decide +kernel
theorem dX6_faultNumber_1 : decode cX6_faultNumber 1 = .ok (.getfield 64, 3) := by decide +kernel
theorem dX6_faultNumber_4 : decode cX6_faultNumber 4 = .ok (.ireturn, 1) := by decide +kernel
theorem dX6_faultPlace_0 : decode cX6_faultPlace 0 = .ok (.aload_n 0, 1) := by decide +kernel
theorem dX6_faultPlace_1 : decode cX6_faultPlace 1 = .ok (.getfield 67, 3) := by decide +kernel
theorem dX6_faultPlace_4 : decode cX6_faultPlace 4 = .ok (.ireturn, 1) := by decide +kernel
theorem dX6_exchange_0 : decode cX6_exchange 0 = .ok (.aload_n 0, 1) := by decide +kernel
theorem dX6_exchange_1 : decode cX6_exchange 1 = .ok (.getfield 22, 3) := by decide +kernel
theorem dX6_exchange_4 : decode cX6_exchange 4 = .ok (.astore_n 2, 1) := by decide +kernel
theorem dX6_exchange_5 : decode cX6_exchange 5 = .ok (.aload_n 0, 1) := by decide +kernel
theorem dX6_exchange_6 : decode cX6_exchange 6 = .ok (.aload_n 1, 1) := by decide +kernel
theorem dX6_exchange_7 : decode cX6_exchange 7 = .ok (.putfield 22, 3) := by decide +kernel
theorem dX6_exchange_10 : decode cX6_exchange 10 = .ok (.aload_n 2, 1) := by decide +kernel
theorem dX6_exchange_11 : decode cX6_exchange 11 = .ok (.areturn, 1) := by decide +kernel
theorem dX6_read_0 : decode cX6_read 0 = .ok (.aload_n 0, 1) := by decide +kernel
theorem dX6_read_1 : decode cX6_read 1 = .ok (.iload_n 1, 1) := by decide +kernel
theorem dX6_read_2 : decode cX6_read 2 = .ok (.invokevirtual 70, 3) := by decide +kernel
theorem dX6_read_5 : decode cX6_read 5 = .ok (.iconst 0, 1) := by decide +kernel
theorem dX6_read_6 : decode cX6_read 6 = .ok (.istore_n 2, 1) := by decide +kernel
theorem dX6_read_7 : decode cX6_read 7 = .ok (.iload_n 2, 1) := by decide +kernel
theorem dX6_read_8 : decode cX6_read 8 = .ok (.sipush 1000, 3) := by decide +kernel
theorem dX6_read_11 : decode cX6_read 11 = .ok (.if_icmp .gt 54, 3) := by decide +kernel
theorem dX6_read_14 : decode cX6_read 14 = .ok (.aload_n 0, 1) := by decide +kernel
theorem dX6_read_15 : decode cX6_read 15 = .ok (.invokevirtual 74, 3) := by decide +kernel
theorem dX6_read_18 : decode cX6_read 18 = .ok (.ifCond .ne 5, 3) := by decide +kernel
theorem dX6_read_21 : decode cX6_read 21 = .ok (.iconst 0, 1) := by decide +kernel
theorem dX6_read_22 : decode cX6_read 22 = .ok (.ireturn, 1) := by decide +kernel
theorem dX6_read_23 : decode cX6_read 23 = .ok (.aload_n 0, 1) := by decide +kernel
theorem dX6_read_24 : decode cX6_read 24 = .ok (.getfield 45, 3) := by decide +kernel
theorem dX6_read_27 : decode cX6_read 27 = .ok (.ifCond .ne 8, 3) := by decide +kernel
theorem dX6_read_30 : decode cX6_read 30 = .ok (.aload_n 0, 1) := by decide +kernel
theorem dX6_read_31 : decode cX6_read 31 = .ok (.invokevirtual 78, 3) := by decide +kernel
theorem dX6_read_34 : decode cX6_read 34 = .ok (.ireturn, 1) := by decide +kernel
theorem dX6_read_35 : decode cX6_read 35 = .ok (.aload_n 0, 1) := by decide +kernel
theorem dX6_read_36 : decode cX6_read 36 = .ok (.getfield 45, 3) := by decide +kernel
theorem dX6_read_39 : decode cX6_read 39 = .ok (.iconst 3, 1) := by decide +kernel
theorem dX6_read_40 : decode cX6_read 40 = .ok (.if_icmp .eq 13, 3) := by decide +kernel
theorem dX6_read_43 : decode cX6_read 43 = .ok (.aload_n 0, 1) := by decide +kernel
theorem dX6_read_44 : decode cX6_read 44 = .ok (.iconst 1, 1) := by decide +kernel
theorem dX6_read_45 : decode cX6_read 45 = .ok (.aload_n 0, 1) := by decide +kernel
theorem dX6_read_46 : decode cX6_read 46 = .ok (.getfield 48, 3) := by decide +kernel
theorem dX6_read_49 : decode cX6_read 49 = .ok (.invokevirtual 81, 3) := by decide +kernel
theorem dX6_read_52 : decode cX6_read 52 = .ok (.ireturn, 1) := by decide +kernel
theorem dX6_read_53 : decode cX6_read 53 = .ok (.aload_n 0, 1) := by decide +kernel
theorem dX6_read_54 : decode cX6_read 54 = .ok (.iconst 0, 1) := by decide +kernel
theorem dX6_read_55 : decode cX6_read 55 = .ok (.invokevirtual 85, 3) := by decide +kernel
theorem dX6_read_58 : decode cX6_read 58 = .ok (.pop, 1) := by decide +kernel
theorem dX6_read_59 : decode cX6_read 59 = .ok (.iinc 2 1, 3) := by decide +kernel
theorem dX6_read_62 : decode cX6_read 62 = .ok (.goto (-55), 3) := by decide +kernel
theorem dX6_read_65 : decode cX6_read 65 = .ok (.aload_n 0, 1) := by decide +kernel
theorem dX6_read_66 : decode cX6_read 66 = .ok (.iconst 1, 1) := by decide +kernel
theorem dX6_read_67 : decode cX6_read 67 = .ok (.aload_n 0, 1) := by decide +kernel
theorem dX6_read_68 : decode cX6_read 68 = .ok (.getfield 48, 3) := by decide +kernel
theorem dX6_read_71 : decode cX6_read 71 = .ok (.invokevirtual 81, 3) := by decide +kernel
theorem dX6_read_74 : decode cX6_read 74 = .ok (.ireturn, 1) := by decide +kernel
theorem dX6_begin_0 : decode cX6_begin 0 = .ok (.aload_n 0, 1) := by decide +kernel
theorem dX6_begin_1 : decode cX6_begin 1 = .ok (.getfield 22, 3) := by decide +kernel
theorem dX6_begin_4 : decode cX6_begin 4 = .ok (.invokevirtual 89, 3) := by decide +kernel
theorem dX6_begin_7 : decode cX6_begin 7 = .ok (.aload_n 0, 1) := by decide +kernel
theorem dX6_begin_8 : decode cX6_begin 8 = .ok (.iconst 0, 1) := by decide +kernel
theorem dX6_begin_9 : decode cX6_begin 9 = .ok (.putfield 15, 3) := by decide +kernel
theorem dX6_begin_12 : decode cX6_begin 12 = .ok (.aload_n 0, 1) := by decide +kernel
theorem dX6_begin_13 : decode cX6_begin 13 = .ok (.iload_n 1, 1) := by decide +kernel
theorem dX6_begin_14 : decode cX6_begin 14 = .ok (.aload_n 0, 1) := by decide +kernel
theorem dX6_begin_15 : decode cX6_begin 15 = .ok (.getfield 9, 3) := by decide +kernel
theorem dX6_begin_18 : decode cX6_begin 18 = .ok (.arraylength, 1) := by decide +kernel
theorem dX6_begin_19 : decode cX6_begin 19 = .ok (.invokestatic 92, 3) := by decide +kernel
theorem dX6_begin_22 : decode cX6_begin 22 = .ok (.putfield 42, 3) := by decide +kernel
theorem dX6_begin_25 : decode cX6_begin 25 = .ok (.aload_n 0, 1) := by decide +kernel
theorem dX6_begin_26 : decode cX6_begin 26 = .ok (.iconst 0, 1) := by decide +kernel
theorem dX6_begin_27 : decode cX6_begin 27 = .ok (.putfield 39, 3) := by decide +kernel
theorem dX6_begin_30 : decode cX6_begin 30 = .ok (.aload_n 0, 1) := by decide +kernel
theorem dX6_begin_31 : decode cX6_begin 31 = .ok (.iconst 0, 1) := by decide +kernel
theorem dX6_begin_32 : decode cX6_begin 32 = .ok (.putfield 64, 3) := by decide +kernel
theorem dX6_begin_35 : decode cX6_begin 35 = .ok (.aload_n 0, 1) := by decide +kernel
theorem dX6_begin_36 : decode cX6_begin 36 = .ok (.iconst 0, 1) := by decide +kernel
theorem dX6_begin_37 : decode cX6_begin 37 = .ok (.putfield 67, 3) := by decide +kernel
theorem dX6_begin_40 : decode cX6_begin 40 = .ok (.aload_n 0, 1) := by decide +kernel
theorem dX6_begin_41 : decode cX6_begin 41 = .ok (.iconst 0, 1) := by decide +kernel
theorem dX6_begin_42 : decode cX6_begin 42 = .ok (.putfield 48, 3) := by decide +kernel
theorem dX6_begin_45 : decode cX6_begin 45 = .ok (.aload_n 0, 1) := by decide +kernel
theorem dX6_begin_46 : decode cX6_begin 46 = .ok (.iconst 0, 1) := by decide +kernel
theorem dX6_begin_47 : decode cX6_begin 47 = .ok (.putfield 51, 3) := by decide +kernel
theorem dX6_begin_50 : decode cX6_begin 50 = .ok (.aload_n 0, 1) := by decide +kernel
theorem dX6_begin_51 : decode cX6_begin 51 = .ok (.iconst 0, 1) := by decide +kernel
theorem dX6_begin_52 : decode cX6_begin 52 = .ok (.invokevirtual 85, 3) := by decide +kernel
theorem dX6_begin_55 : decode cX6_begin 55 = .ok (.pop, 1) := by decide +kernel
theorem dX6_begin_56 : decode cX6_begin 56 = .ok (.return_, 1) := by decide +kernel
theorem dX6_lacksNothing_0 : decode cX6_lacksNothing 0 = .ok (.aload_n 0, 1) := by decide +kernel
theorem dX6_lacksNothing_1 : decode cX6_lacksNothing 1 = .ok (.getfield 22, 3) := by decide +kernel
theorem dX6_lacksNothing_4 : decode cX6_lacksNothing 4 = .ok (.iconst 2, 1) := by decide +kernel
theorem dX6_lacksNothing_5 : decode cX6_lacksNothing 5 = .ok (.invokevirtual 98, 3) := by decide +kernel
theorem dX6_lacksNothing_8 : decode cX6_lacksNothing 8 = .ok (.ifCond .eq 25, 3) := by decide +kernel
theorem dX6_lacksNothing_11 : decode cX6_lacksNothing 11 = .ok (.aload_n 0, 1) := by decide +kernel
theorem dX6_lacksNothing_12 : decode cX6_lacksNothing 12 = .ok (.getfield 22, 3) := by decide +kernel
theorem dX6_lacksNothing_15 : decode cX6_lacksNothing 15 = .ok (.iconst 3, 1) := by decide +kernel
theorem dX6_lacksNothing_16 : decode cX6_lacksNothing 16 = .ok (.invokevirtual 98, 3) := by decide +kernel
theorem dX6_lacksNothing_19 : decode cX6_lacksNothing 19 = .ok (.ifCond .eq 14, 3) := by decide +kernel
theorem dX6_lacksNothing_22 : decode cX6_lacksNothing 22 = .ok (.aload_n 0, 1) := by decide +kernel
theorem dX6_lacksNothing_23 : decode cX6_lacksNothing 23 = .ok (.getfield 22, 3) := by decide +kernel
theorem dX6_lacksNothing_26 : decode cX6_lacksNothing 26 = .ok (.iconst 5, 1) := by decide +kernel
theorem dX6_lacksNothing_27 : decode cX6_lacksNothing 27 = .ok (.invokevirtual 98, 3) := by decide +kernel
theorem dX6_lacksNothing_30 : decode cX6_lacksNothing 30 = .ok (.ifCond .ne 7, 3) := by decide +kernel
theorem dX6_lacksNothing_33 : decode cX6_lacksNothing 33 = .ok (.iconst 1, 1) := by decide +kernel
theorem dX6_lacksNothing_34 : decode cX6_lacksNothing 34 = .ok (.goto 4, 3) := by decide +kernel
theorem dX6_lacksNothing_37 : decode cX6_lacksNothing 37 = .ok (.iconst 0, 1) := by decide +kernel
theorem dX6_lacksNothing_38 : decode cX6_lacksNothing 38 = .ok (.istore_n 1, 1) := by decide +kernel
theorem dX6_lacksNothing_39 : decode cX6_lacksNothing 39 = .ok (.iload_n 1, 1) := by decide +kernel
theorem dX6_lacksNothing_40 : decode cX6_lacksNothing 40 = .ok (.ifCond .eq 16, 3) := by decide +kernel
theorem dX6_lacksNothing_43 : decode cX6_lacksNothing 43 = .ok (.aload_n 0, 1) := by decide +kernel
theorem dX6_lacksNothing_44 : decode cX6_lacksNothing 44 = .ok (.bipush 6, 2) := by decide +kernel
theorem dX6_lacksNothing_46 : decode cX6_lacksNothing 46 = .ok (.aload_n 0, 1) := by decide +kernel
theorem dX6_lacksNothing_47 : decode cX6_lacksNothing 47 = .ok (.getfield 48, 3) := by decide +kernel
theorem dX6_lacksNothing_50 : decode cX6_lacksNothing 50 = .ok (.invokevirtual 81, 3) := by decide +kernel
theorem dX6_lacksNothing_53 : decode cX6_lacksNothing 53 = .ok (.goto 4, 3) := by decide +kernel
theorem dX6_lacksNothing_56 : decode cX6_lacksNothing 56 = .ok (.iconst 1, 1) := by decide +kernel
theorem dX6_lacksNothing_57 : decode cX6_lacksNothing 57 = .ok (.ireturn, 1) := by decide +kernel
theorem dX6_failAt_0 : decode cX6_failAt 0 = .ok (.aload_n 0, 1) := by decide +kernel
theorem dX6_failAt_1 : decode cX6_failAt 1 = .ok (.iload_n 1, 1) := by decide +kernel
theorem dX6_failAt_2 : decode cX6_failAt 2 = .ok (.putfield 64, 3) := by decide +kernel
theorem dX6_failAt_5 : decode cX6_failAt 5 = .ok (.aload_n 0, 1) := by decide +kernel
theorem dX6_failAt_6 : decode cX6_failAt 6 = .ok (.iload_n 2, 1) := by decide +kernel
theorem dX6_failAt_7 : decode cX6_failAt 7 = .ok (.putfield 67, 3) := by decide +kernel
theorem dX6_failAt_10 : decode cX6_failAt 10 = .ok (.iconst 0, 1) := by decide +kernel
theorem dX6_failAt_11 : decode cX6_failAt 11 = .ok (.ireturn, 1) := by decide +kernel
theorem dX6_take_0 : decode cX6_take 0 = .ok (.aload_n 0, 1) := by decide +kernel
theorem dX6_take_1 : decode cX6_take 1 = .ok (.iload_n 1, 1) := by decide +kernel
theorem dX6_take_2 : decode cX6_take 2 = .ok (.putfield 58, 3) := by decide +kernel
theorem dX6_take_5 : decode cX6_take 5 = .ok (.aload_n 0, 1) := by decide +kernel
theorem dX6_take_6 : decode cX6_take 6 = .ok (.aload_n 0, 1) := by decide +kernel
theorem dX6_take_7 : decode cX6_take 7 = .ok (.getfield 48, 3) := by decide +kernel
theorem dX6_take_10 : decode cX6_take 10 = .ok (.putfield 61, 3) := by decide +kernel
theorem dX6_take_13 : decode cX6_take 13 = .ok (.iconst 0, 1) := by decide +kernel
theorem dX6_take_14 : decode cX6_take 14 = .ok (.aload_n 0, 1) := by decide +kernel
theorem dX6_take_15 : decode cX6_take 15 = .ok (.getfield 48, 3) := by decide +kernel
theorem dX6_take_18 : decode cX6_take 18 = .ok (.aload_n 0, 1) := by decide +kernel
theorem dX6_take_19 : decode cX6_take 19 = .ok (.getfield 51, 3) := by decide +kernel
theorem dX6_take_22 : decode cX6_take 22 = .ok (.iadd, 1) := by decide +kernel
theorem dX6_take_23 : decode cX6_take 23 = .ok (.invokestatic 102, 3) := by decide +kernel
theorem dX6_take_26 : decode cX6_take 26 = .ok (.istore_n 2, 1) := by decide +kernel
theorem dX6_take_27 : decode cX6_take 27 = .ok (.iload_n 2, 1) := by decide +kernel
theorem dX6_take_28 : decode cX6_take 28 = .ok (.aload_n 0, 1) := by decide +kernel
theorem dX6_take_29 : decode cX6_take 29 = .ok (.getfield 42, 3) := by decide +kernel
theorem dX6_take_32 : decode cX6_take 32 = .ok (.if_icmp .ge 29, 3) := by decide +kernel
theorem dX6_take_35 : decode cX6_take 35 = .ok (.iload_n 2, 1) := by decide +kernel
theorem dX6_take_36 : decode cX6_take 36 = .ok (.aload_n 0, 1) := by decide +kernel
theorem dX6_take_37 : decode cX6_take 37 = .ok (.getfield 9, 3) := by decide +kernel
theorem dX6_take_40 : decode cX6_take 40 = .ok (.arraylength, 1) := by decide +kernel
theorem dX6_take_41 : decode cX6_take 41 = .ok (.if_icmp .ge 20, 3) := by decide +kernel
theorem dX6_take_44 : decode cX6_take 44 = .ok (.aload_n 0, 1) := by decide +kernel
theorem dX6_take_45 : decode cX6_take 45 = .ok (.getfield 9, 3) := by decide +kernel
theorem dX6_take_48 : decode cX6_take 48 = .ok (.iload_n 2, 1) := by decide +kernel
theorem dX6_take_49 : decode cX6_take 49 = .ok (.baload, 1) := by decide +kernel
theorem dX6_take_50 : decode cX6_take 50 = .ok (.bipush 32, 2) := by decide +kernel
theorem dX6_take_52 : decode cX6_take 52 = .ok (.if_icmp .ne 9, 3) := by decide +kernel
theorem dX6_take_55 : decode cX6_take 55 = .ok (.iinc 2 1, 3) := by decide +kernel
theorem dX6_take_58 : decode cX6_take 58 = .ok (.goto (-31), 3) := by decide +kernel
theorem dX6_take_61 : decode cX6_take 61 = .ok (.aload_n 0, 1) := by decide +kernel
theorem dX6_take_62 : decode cX6_take 62 = .ok (.iload_n 2, 1) := by decide +kernel
theorem dX6_take_63 : decode cX6_take 63 = .ok (.putfield 48, 3) := by decide +kernel
theorem dX6_take_66 : decode cX6_take 66 = .ok (.aload_n 0, 1) := by decide +kernel
theorem dX6_take_67 : decode cX6_take 67 = .ok (.iconst 0, 1) := by decide +kernel
theorem dX6_take_68 : decode cX6_take 68 = .ok (.putfield 51, 3) := by decide +kernel
theorem dX6_take_71 : decode cX6_take 71 = .ok (.iload_n 2, 1) := by decide +kernel
theorem dX6_take_72 : decode cX6_take 72 = .ok (.aload_n 0, 1) := by decide +kernel
theorem dX6_take_73 : decode cX6_take 73 = .ok (.getfield 42, 3) := by decide +kernel
theorem dX6_take_76 : decode cX6_take 76 = .ok (.if_icmp .ge 12, 3) := by decide +kernel
theorem dX6_take_79 : decode cX6_take 79 = .ok (.iload_n 2, 1) := by decide +kernel
theorem dX6_take_80 : decode cX6_take 80 = .ok (.aload_n 0, 1) := by decide +kernel
theorem dX6_take_81 : decode cX6_take 81 = .ok (.getfield 9, 3) := by decide +kernel
theorem dX6_take_84 : decode cX6_take 84 = .ok (.arraylength, 1) := by decide +kernel
theorem dX6_take_85 : decode cX6_take 85 = .ok (.if_icmp .lt 10, 3) := by decide +kernel
theorem dX6_take_88 : decode cX6_take 88 = .ok (.aload_n 0, 1) := by decide +kernel
theorem dX6_take_89 : decode cX6_take 89 = .ok (.iconst 0, 1) := by decide +kernel
theorem dX6_take_90 : decode cX6_take 90 = .ok (.putfield 45, 3) := by decide +kernel
theorem dX6_take_93 : decode cX6_take 93 = .ok (.iconst 1, 1) := by decide +kernel
theorem dX6_take_94 : decode cX6_take 94 = .ok (.ireturn, 1) := by decide +kernel
theorem dX6_take_95 : decode cX6_take 95 = .ok (.aload_n 0, 1) := by decide +kernel
theorem dX6_take_96 : decode cX6_take 96 = .ok (.getfield 9, 3) := by decide +kernel
theorem dX6_take_99 : decode cX6_take 99 = .ok (.iload_n 2, 1) := by decide +kernel
theorem dX6_take_100 : decode cX6_take 100 = .ok (.baload, 1) := by decide +kernel
theorem dX6_take_101 : decode cX6_take 101 = .ok (.istore_n 3, 1) := by decide +kernel
theorem dX6_take_102 : decode cX6_take 102 = .ok (.iload_n 3, 1) := by decide +kernel
theorem dX6_take_103 : decode cX6_take 103 = .ok (.bipush 59, 2) := by decide +kernel
theorem dX6_take_105 : decode cX6_take 105 = .ok (.if_icmp .ne 16, 3) := by decide +kernel
theorem dX6_take_108 : decode cX6_take 108 = .ok (.aload_n 0, 1) := by decide +kernel
theorem dX6_take_109 : decode cX6_take 109 = .ok (.iconst 1, 1) := by decide +kernel
theorem dX6_take_110 : decode cX6_take 110 = .ok (.putfield 51, 3) := by decide +kernel
theorem dX6_take_113 : decode cX6_take 113 = .ok (.aload_n 0, 1) := by decide +kernel
theorem dX6_take_114 : decode cX6_take 114 = .ok (.iconst 3, 1) := by decide +kernel
theorem dX6_take_115 : decode cX6_take 115 = .ok (.putfield 45, 3) := by decide +kernel
theorem dX6_take_118 : decode cX6_take 118 = .ok (.goto 87, 3) := by decide +kernel
theorem dX6_take_121 : decode cX6_take 121 = .ok (.iload_n 3, 1) := by decide +kernel
theorem dX6_take_122 : decode cX6_take 122 = .ok (.bipush 97, 2) := by decide +kernel
theorem dX6_take_124 : decode cX6_take 124 = .ok (.if_icmp .lt 37, 3) := by decide +kernel
theorem dX6_take_127 : decode cX6_take 127 = .ok (.iload_n 3, 1) := by decide +kernel
theorem dX6_take_128 : decode cX6_take 128 = .ok (.bipush 122, 2) := by decide +kernel
theorem dX6_take_130 : decode cX6_take 130 = .ok (.if_icmp .gt 31, 3) := by decide +kernel
theorem dX6_take_133 : decode cX6_take 133 = .ok (.aload_n 0, 1) := by decide +kernel
theorem dX6_take_134 : decode cX6_take 134 = .ok (.aload_n 0, 1) := by decide +kernel
theorem dX6_take_135 : decode cX6_take 135 = .ok (.bipush 97, 2) := by decide +kernel
theorem dX6_take_137 : decode cX6_take 137 = .ok (.bipush 122, 2) := by decide +kernel
theorem dX6_take_139 : decode cX6_take 139 = .ok (.iconst 1, 1) := by decide +kernel
theorem dX6_take_140 : decode cX6_take 140 = .ok (.bipush 27, 2) := by decide +kernel
theorem dX6_take_142 : decode cX6_take 142 = .ok (.invokevirtual 105, 3) := by decide +kernel
theorem dX6_take_145 : decode cX6_take 145 = .ok (.bipush 8, 2) := by decide +kernel
theorem dX6_take_147 : decode cX6_take 147 = .ok (.if_icmp .gt 7, 3) := by decide +kernel
theorem dX6_take_150 : decode cX6_take 150 = .ok (.iconst 1, 1) := by decide +kernel
theorem dX6_take_151 : decode cX6_take 151 = .ok (.goto 4, 3) := by decide +kernel
theorem dX6_take_154 : decode cX6_take 154 = .ok (.iconst 4, 1) := by decide +kernel
theorem dX6_take_155 : decode cX6_take 155 = .ok (.putfield 45, 3) := by decide +kernel
theorem dX6_take_158 : decode cX6_take 158 = .ok (.goto 47, 3) := by decide +kernel
theorem dX6_take_161 : decode cX6_take 161 = .ok (.iload_n 3, 1) := by decide +kernel
theorem dX6_take_162 : decode cX6_take 162 = .ok (.bipush 48, 2) := by decide +kernel
theorem dX6_take_164 : decode cX6_take 164 = .ok (.if_icmp .lt 36, 3) := by decide +kernel
theorem dX6_take_167 : decode cX6_take 167 = .ok (.iload_n 3, 1) := by decide +kernel
theorem dX6_take_168 : decode cX6_take 168 = .ok (.bipush 57, 2) := by decide +kernel
theorem dX6_take_170 : decode cX6_take 170 = .ok (.if_icmp .gt 30, 3) := by decide +kernel
theorem dX6_take_173 : decode cX6_take 173 = .ok (.aload_n 0, 1) := by decide +kernel
theorem dX6_take_174 : decode cX6_take 174 = .ok (.aload_n 0, 1) := by decide +kernel
theorem dX6_take_175 : decode cX6_take 175 = .ok (.bipush 48, 2) := by decide +kernel
theorem dX6_take_177 : decode cX6_take 177 = .ok (.bipush 57, 2) := by decide +kernel
theorem dX6_take_179 : decode cX6_take 179 = .ok (.iconst 0, 1) := by decide +kernel
theorem dX6_take_180 : decode cX6_take 180 = .ok (.bipush 10, 2) := by decide +kernel
theorem dX6_take_182 : decode cX6_take 182 = .ok (.invokevirtual 105, 3) := by decide +kernel
theorem dX6_take_185 : decode cX6_take 185 = .ok (.iconst 3, 1) := by decide +kernel
theorem dX6_take_186 : decode cX6_take 186 = .ok (.if_icmp .gt 7, 3) := by decide +kernel
theorem dX6_take_189 : decode cX6_take 189 = .ok (.iconst 2, 1) := by decide +kernel
theorem dX6_take_190 : decode cX6_take 190 = .ok (.goto 4, 3) := by decide +kernel
theorem dX6_take_193 : decode cX6_take 193 = .ok (.iconst 4, 1) := by decide +kernel
theorem dX6_take_194 : decode cX6_take 194 = .ok (.putfield 45, 3) := by decide +kernel
theorem dX6_take_197 : decode cX6_take 197 = .ok (.goto 8, 3) := by decide +kernel
theorem dX6_take_200 : decode cX6_take 200 = .ok (.aload_n 0, 1) := by decide +kernel
theorem dX6_take_201 : decode cX6_take 201 = .ok (.iconst 4, 1) := by decide +kernel
theorem dX6_take_202 : decode cX6_take 202 = .ok (.putfield 45, 3) := by decide +kernel
theorem dX6_take_205 : decode cX6_take 205 = .ok (.iconst 1, 1) := by decide +kernel
theorem dX6_take_206 : decode cX6_take 206 = .ok (.ireturn, 1) := by decide +kernel
theorem dX6_findRun_0 : decode cX6_findRun 0 = .ok (.iconst 0, 1) := by decide +kernel
theorem dX6_findRun_1 : decode cX6_findRun 1 = .ok (.aload_n 0, 1) := by decide +kernel
theorem dX6_findRun_2 : decode cX6_findRun 2 = .ok (.getfield 48, 3) := by decide +kernel
theorem dX6_findRun_5 : decode cX6_findRun 5 = .ok (.invokestatic 102, 3) := by decide +kernel
theorem dX6_findRun_8 : decode cX6_findRun 8 = .ok (.istore 5, 2) := by decide +kernel
theorem dX6_findRun_10 : decode cX6_findRun 10 = .ok (.aload_n 0, 1) := by decide +kernel
theorem dX6_findRun_11 : decode cX6_findRun 11 = .ok (.lconst 0, 1) := by decide +kernel
theorem dX6_findRun_12 : decode cX6_findRun 12 = .ok (.putfield 54, 3) := by decide +kernel
theorem dX6_findRun_15 : decode cX6_findRun 15 = .ok (.iload 5, 2) := by decide +kernel
theorem dX6_findRun_17 : decode cX6_findRun 17 = .ok (.aload_n 0, 1) := by decide +kernel
theorem dX6_findRun_18 : decode cX6_findRun 18 = .ok (.getfield 42, 3) := by decide +kernel
theorem dX6_findRun_21 : decode cX6_findRun 21 = .ok (.if_icmp .ge 66, 3) := by decide +kernel
theorem dX6_findRun_24 : decode cX6_findRun 24 = .ok (.iload 5, 2) := by decide +kernel
theorem dX6_findRun_26 : decode cX6_findRun 26 = .ok (.aload_n 0, 1) := by decide +kernel
theorem dX6_findRun_27 : decode cX6_findRun 27 = .ok (.getfield 9, 3) := by decide +kernel
theorem dX6_findRun_30 : decode cX6_findRun 30 = .ok (.arraylength, 1) := by decide +kernel
theorem dX6_findRun_31 : decode cX6_findRun 31 = .ok (.if_icmp .ge 56, 3) := by decide +kernel
theorem dX6_findRun_34 : decode cX6_findRun 34 = .ok (.aload_n 0, 1) := by decide +kernel
theorem dX6_findRun_35 : decode cX6_findRun 35 = .ok (.getfield 9, 3) := by decide +kernel
theorem dX6_findRun_38 : decode cX6_findRun 38 = .ok (.iload 5, 2) := by decide +kernel
theorem dX6_findRun_40 : decode cX6_findRun 40 = .ok (.baload, 1) := by decide +kernel
theorem dX6_findRun_41 : decode cX6_findRun 41 = .ok (.iload_n 1, 1) := by decide +kernel
theorem dX6_findRun_42 : decode cX6_findRun 42 = .ok (.if_icmp .lt 45, 3) := by decide +kernel
theorem dX6_findRun_45 : decode cX6_findRun 45 = .ok (.aload_n 0, 1) := by decide +kernel
theorem dX6_findRun_46 : decode cX6_findRun 46 = .ok (.getfield 9, 3) := by decide +kernel
theorem dX6_findRun_49 : decode cX6_findRun 49 = .ok (.iload 5, 2) := by decide +kernel
theorem dX6_findRun_51 : decode cX6_findRun 51 = .ok (.baload, 1) := by decide +kernel
theorem dX6_findRun_52 : decode cX6_findRun 52 = .ok (.iload_n 2, 1) := by decide +kernel
theorem dX6_findRun_53 : decode cX6_findRun 53 = .ok (.if_icmp .gt 34, 3) := by decide +kernel
theorem dX6_findRun_56 : decode cX6_findRun 56 = .ok (.aload_n 0, 1) := by decide +kernel
theorem dX6_findRun_57 : decode cX6_findRun 57 = .ok (.iload 4, 2) := by decide +kernel
theorem dX6_findRun_59 : decode cX6_findRun 59 = .ok (.i2l, 1) := by decide +kernel
theorem dX6_findRun_60 : decode cX6_findRun 60 = .ok (.aload_n 0, 1) := by decide +kernel
theorem dX6_findRun_61 : decode cX6_findRun 61 = .ok (.getfield 54, 3) := by decide +kernel
theorem dX6_findRun_64 : decode cX6_findRun 64 = .ok (.lmul, 1) := by decide +kernel
theorem dX6_findRun_65 : decode cX6_findRun 65 = .ok (.aload_n 0, 1) := by decide +kernel
theorem dX6_findRun_66 : decode cX6_findRun 66 = .ok (.getfield 9, 3) := by decide +kernel
theorem dX6_findRun_69 : decode cX6_findRun 69 = .ok (.iload 5, 2) := by decide +kernel
theorem dX6_findRun_71 : decode cX6_findRun 71 = .ok (.baload, 1) := by decide +kernel
theorem dX6_findRun_72 : decode cX6_findRun 72 = .ok (.iload_n 1, 1) := by decide +kernel
theorem dX6_findRun_73 : decode cX6_findRun 73 = .ok (.isub, 1) := by decide +kernel
theorem dX6_findRun_74 : decode cX6_findRun 74 = .ok (.iload_n 3, 1) := by decide +kernel
theorem dX6_findRun_75 : decode cX6_findRun 75 = .ok (.iadd, 1) := by decide +kernel
theorem dX6_findRun_76 : decode cX6_findRun 76 = .ok (.i2l, 1) := by decide +kernel
theorem dX6_findRun_77 : decode cX6_findRun 77 = .ok (.ladd, 1) := by decide +kernel
theorem dX6_findRun_78 : decode cX6_findRun 78 = .ok (.putfield 54, 3) := by decide +kernel
theorem dX6_findRun_81 : decode cX6_findRun 81 = .ok (.iinc 5 1, 3) := by decide +kernel
theorem dX6_findRun_84 : decode cX6_findRun 84 = .ok (.goto (-69), 3) := by decide +kernel
theorem dX6_findRun_87 : decode cX6_findRun 87 = .ok (.aload_n 0, 1) := by decide +kernel
theorem dX6_findRun_88 : decode cX6_findRun 88 = .ok (.iload 5, 2) := by decide +kernel
theorem dX6_findRun_90 : decode cX6_findRun 90 = .ok (.aload_n 0, 1) := by decide +kernel
theorem dX6_findRun_91 : decode cX6_findRun 91 = .ok (.getfield 48, 3) := by decide +kernel
theorem dX6_findRun_94 : decode cX6_findRun 94 = .ok (.isub, 1) := by decide +kernel
theorem dX6_findRun_95 : decode cX6_findRun 95 = .ok (.putfield 51, 3) := by decide +kernel
theorem dX6_findRun_98 : decode cX6_findRun 98 = .ok (.aload_n 0, 1) := by decide +kernel
theorem dX6_findRun_99 : decode cX6_findRun 99 = .ok (.getfield 51, 3) := by decide +kernel
theorem dX6_findRun_102 : decode cX6_findRun 102 = .ok (.ireturn, 1) := by decide +kernel
theorem dX6_codeOf_0 : decode cX6_codeOf 0 = .ok (.lconst 0, 1) := by decide +kernel
theorem dX6_codeOf_1 : decode cX6_codeOf 1 = .ok (.lstore_n 1, 1) := by decide +kernel
theorem dX6_codeOf_2 : decode cX6_codeOf 2 = .ok (.iconst 0, 1) := by decide +kernel
theorem dX6_codeOf_3 : decode cX6_codeOf 3 = .ok (.istore_n 3, 1) := by decide +kernel
theorem dX6_codeOf_4 : decode cX6_codeOf 4 = .ok (.iload_n 3, 1) := by decide +kernel
theorem dX6_codeOf_5 : decode cX6_codeOf 5 = .ok (.aload_n 0, 1) := by decide +kernel
theorem dX6_codeOf_6 : decode cX6_codeOf 6 = .ok (.invokevirtual 109, 3) := by decide +kernel
theorem dX6_codeOf_9 : decode cX6_codeOf 9 = .ok (.if_icmp .ge 27, 3) := by decide +kernel
theorem dX6_codeOf_12 : decode cX6_codeOf 12 = .ok (.ldc2_w 114, 3) := by decide +kernel
theorem dX6_codeOf_15 : decode cX6_codeOf 15 = .ok (.lload_n 1, 1) := by decide +kernel
theorem dX6_codeOf_16 : decode cX6_codeOf 16 = .ok (.lmul, 1) := by decide +kernel
theorem dX6_codeOf_17 : decode cX6_codeOf 17 = .ok (.aload_n 0, 1) := by decide +kernel
theorem dX6_codeOf_18 : decode cX6_codeOf 18 = .ok (.iload_n 3, 1) := by decide +kernel
theorem dX6_codeOf_19 : decode cX6_codeOf 19 = .ok (.invokevirtual 116, 3) := by decide +kernel
theorem dX6_codeOf_22 : decode cX6_codeOf 22 = .ok (.bipush 97, 2) := by decide +kernel
theorem dX6_codeOf_24 : decode cX6_codeOf 24 = .ok (.isub, 1) := by decide +kernel
theorem dX6_codeOf_25 : decode cX6_codeOf 25 = .ok (.iconst 1, 1) := by decide +kernel
theorem dX6_codeOf_26 : decode cX6_codeOf 26 = .ok (.iadd, 1) := by decide +kernel
theorem dX6_codeOf_27 : decode cX6_codeOf 27 = .ok (.i2l, 1) := by decide +kernel
theorem dX6_codeOf_28 : decode cX6_codeOf 28 = .ok (.ladd, 1) := by decide +kernel
theorem dX6_codeOf_29 : decode cX6_codeOf 29 = .ok (.lstore_n 1, 1) := by decide +kernel
theorem dX6_codeOf_30 : decode cX6_codeOf 30 = .ok (.iinc 3 1, 3) := by decide +kernel
theorem dX6_codeOf_33 : decode cX6_codeOf 33 = .ok (.goto (-29), 3) := by decide +kernel
theorem dX6_codeOf_36 : decode cX6_codeOf 36 = .ok (.lload_n 1, 1) := by decide +kernel
theorem dX6_codeOf_37 : decode cX6_codeOf 37 = .ok (.lreturn, 1) := by decide +kernel
theorem dX6_takeWord_0 : decode cX6_takeWord 0 = .ok (.aload_n 0, 1) := by decide +kernel
theorem dX6_takeWord_1 : decode cX6_takeWord 1 = .ok (.getfield 45, 3) := by decide +kernel
theorem dX6_takeWord_4 : decode cX6_takeWord 4 = .ok (.iconst 1, 1) := by decide +kernel
theorem dX6_takeWord_5 : decode cX6_takeWord 5 = .ok (.if_icmp .ne 23, 3) := by decide +kernel
theorem dX6_takeWord_8 : decode cX6_takeWord 8 = .ok (.aload_n 0, 1) := by decide +kernel
theorem dX6_takeWord_9 : decode cX6_takeWord 9 = .ok (.getfield 54, 3) := by decide +kernel
theorem dX6_takeWord_12 : decode cX6_takeWord 12 = .ok (.aload_n 1, 1) := by decide +kernel
theorem dX6_takeWord_13 : decode cX6_takeWord 13 = .ok (.invokestatic 120, 3) := by decide +kernel
theorem dX6_takeWord_16 : decode cX6_takeWord 16 = .ok (.lcmp, 1) := by decide +kernel
theorem dX6_takeWord_17 : decode cX6_takeWord 17 = .ok (.ifCond .ne 11, 3) := by decide +kernel
theorem dX6_takeWord_20 : decode cX6_takeWord 20 = .ok (.aload_n 0, 1) := by decide +kernel
theorem dX6_takeWord_21 : decode cX6_takeWord 21 = .ok (.iconst 0, 1) := by decide +kernel
theorem dX6_takeWord_22 : decode cX6_takeWord 22 = .ok (.invokevirtual 85, 3) := by decide +kernel
theorem dX6_takeWord_25 : decode cX6_takeWord 25 = .ok (.goto 12, 3) := by decide +kernel
theorem dX6_takeWord_28 : decode cX6_takeWord 28 = .ok (.aload_n 0, 1) := by decide +kernel
theorem dX6_takeWord_29 : decode cX6_takeWord 29 = .ok (.iconst 1, 1) := by decide +kernel
theorem dX6_takeWord_30 : decode cX6_takeWord 30 = .ok (.aload_n 0, 1) := by decide +kernel
theorem dX6_takeWord_31 : decode cX6_takeWord 31 = .ok (.getfield 48, 3) := by decide +kernel
theorem dX6_takeWord_34 : decode cX6_takeWord 34 = .ok (.invokevirtual 81, 3) := by decide +kernel
theorem dX6_takeWord_37 : decode cX6_takeWord 37 = .ok (.ireturn, 1) := by decide +kernel
theorem dX6_takeOneOf_0 : decode cX6_takeOneOf 0 = .ok (.aload_n 0, 1) := by decide +kernel
theorem dX6_takeOneOf_1 : decode cX6_takeOneOf 1 = .ok (.getfield 45, 3) := by decide +kernel
theorem dX6_takeOneOf_4 : decode cX6_takeOneOf 4 = .ok (.iconst 1, 1) := by decide +kernel
theorem dX6_takeOneOf_5 : decode cX6_takeOneOf 5 = .ok (.if_icmp .eq 13, 3) := by decide +kernel
theorem dX6_takeOneOf_8 : decode cX6_takeOneOf 8 = .ok (.aload_n 0, 1) := by decide +kernel
theorem dX6_takeOneOf_9 : decode cX6_takeOneOf 9 = .ok (.iconst 1, 1) := by decide +kernel
theorem dX6_takeOneOf_10 : decode cX6_takeOneOf 10 = .ok (.aload_n 0, 1) := by decide +kernel
theorem dX6_takeOneOf_11 : decode cX6_takeOneOf 11 = .ok (.getfield 48, 3) := by decide +kernel
theorem dX6_takeOneOf_14 : decode cX6_takeOneOf 14 = .ok (.invokevirtual 81, 3) := by decide +kernel
theorem dX6_takeOneOf_17 : decode cX6_takeOneOf 17 = .ok (.ireturn, 1) := by decide +kernel
theorem dX6_takeOneOf_18 : decode cX6_takeOneOf 18 = .ok (.aload_n 0, 1) := by decide +kernel
theorem dX6_takeOneOf_19 : decode cX6_takeOneOf 19 = .ok (.getfield 54, 3) := by decide +kernel
theorem dX6_takeOneOf_22 : decode cX6_takeOneOf 22 = .ok (.aload_n 1, 1) := by decide +kernel
theorem dX6_takeOneOf_23 : decode cX6_takeOneOf 23 = .ok (.invokestatic 120, 3) := by decide +kernel
theorem dX6_takeOneOf_26 : decode cX6_takeOneOf 26 = .ok (.lcmp, 1) := by decide +kernel
theorem dX6_takeOneOf_27 : decode cX6_takeOneOf 27 = .ok (.ifCond .ne 9, 3) := by decide +kernel
theorem dX6_takeOneOf_30 : decode cX6_takeOneOf 30 = .ok (.aload_n 0, 1) := by decide +kernel
theorem dX6_takeOneOf_31 : decode cX6_takeOneOf 31 = .ok (.iconst 0, 1) := by decide +kernel
theorem dX6_takeOneOf_32 : decode cX6_takeOneOf 32 = .ok (.invokevirtual 85, 3) := by decide +kernel
theorem dX6_takeOneOf_35 : decode cX6_takeOneOf 35 = .ok (.ireturn, 1) := by decide +kernel
theorem dX6_takeOneOf_36 : decode cX6_takeOneOf 36 = .ok (.aload_n 0, 1) := by decide +kernel
theorem dX6_takeOneOf_37 : decode cX6_takeOneOf 37 = .ok (.getfield 54, 3) := by decide +kernel
theorem dX6_takeOneOf_40 : decode cX6_takeOneOf 40 = .ok (.aload_n 2, 1) := by decide +kernel
theorem dX6_takeOneOf_41 : decode cX6_takeOneOf 41 = .ok (.invokestatic 120, 3) := by decide +kernel
theorem dX6_takeOneOf_44 : decode cX6_takeOneOf 44 = .ok (.lcmp, 1) := by decide +kernel
theorem dX6_takeOneOf_45 : decode cX6_takeOneOf 45 = .ok (.ifCond .ne 9, 3) := by decide +kernel
theorem dX6_takeOneOf_48 : decode cX6_takeOneOf 48 = .ok (.aload_n 0, 1) := by decide +kernel
theorem dX6_takeOneOf_49 : decode cX6_takeOneOf 49 = .ok (.iconst 1, 1) := by decide +kernel
theorem dX6_takeOneOf_50 : decode cX6_takeOneOf 50 = .ok (.invokevirtual 85, 3) := by decide +kernel
theorem dX6_takeOneOf_53 : decode cX6_takeOneOf 53 = .ok (.ireturn, 1) := by decide +kernel
theorem dX6_takeOneOf_54 : decode cX6_takeOneOf 54 = .ok (.aload_n 0, 1) := by decide +kernel
theorem dX6_takeOneOf_55 : decode cX6_takeOneOf 55 = .ok (.getfield 54, 3) := by decide +kernel
theorem dX6_takeOneOf_58 : decode cX6_takeOneOf 58 = .ok (.aload_n 3, 1) := by decide +kernel
theorem dX6_takeOneOf_59 : decode cX6_takeOneOf 59 = .ok (.invokestatic 120, 3) := by decide +kernel
theorem dX6_takeOneOf_62 : decode cX6_takeOneOf 62 = .ok (.lcmp, 1) := by decide +kernel
theorem dX6_takeOneOf_63 : decode cX6_takeOneOf 63 = .ok (.ifCond .ne 9, 3) := by decide +kernel
theorem dX6_takeOneOf_66 : decode cX6_takeOneOf 66 = .ok (.aload_n 0, 1) := by decide +kernel
theorem dX6_takeOneOf_67 : decode cX6_takeOneOf 67 = .ok (.iconst 2, 1) := by decide +kernel
theorem dX6_takeOneOf_68 : decode cX6_takeOneOf 68 = .ok (.invokevirtual 85, 3) := by decide +kernel
theorem dX6_takeOneOf_71 : decode cX6_takeOneOf 71 = .ok (.ireturn, 1) := by decide +kernel
theorem dX6_takeOneOf_72 : decode cX6_takeOneOf 72 = .ok (.aload_n 0, 1) := by decide +kernel
theorem dX6_takeOneOf_73 : decode cX6_takeOneOf 73 = .ok (.getfield 54, 3) := by decide +kernel
theorem dX6_takeOneOf_76 : decode cX6_takeOneOf 76 = .ok (.aload 4, 2) := by decide +kernel
theorem dX6_takeOneOf_78 : decode cX6_takeOneOf 78 = .ok (.invokestatic 120, 3) := by decide +kernel
theorem dX6_takeOneOf_81 : decode cX6_takeOneOf 81 = .ok (.lcmp, 1) := by decide +kernel
theorem dX6_takeOneOf_82 : decode cX6_takeOneOf 82 = .ok (.ifCond .ne 11, 3) := by decide +kernel
theorem dX6_takeOneOf_85 : decode cX6_takeOneOf 85 = .ok (.aload_n 0, 1) := by decide +kernel
theorem dX6_takeOneOf_86 : decode cX6_takeOneOf 86 = .ok (.iconst 3, 1) := by decide +kernel
theorem dX6_takeOneOf_87 : decode cX6_takeOneOf 87 = .ok (.invokevirtual 85, 3) := by decide +kernel
theorem dX6_takeOneOf_90 : decode cX6_takeOneOf 90 = .ok (.goto 12, 3) := by decide +kernel
theorem dX6_takeOneOf_93 : decode cX6_takeOneOf 93 = .ok (.aload_n 0, 1) := by decide +kernel
theorem dX6_takeOneOf_94 : decode cX6_takeOneOf 94 = .ok (.iconst 1, 1) := by decide +kernel
theorem dX6_takeOneOf_95 : decode cX6_takeOneOf 95 = .ok (.aload_n 0, 1) := by decide +kernel
theorem dX6_takeOneOf_96 : decode cX6_takeOneOf 96 = .ok (.getfield 48, 3) := by decide +kernel
theorem dX6_takeOneOf_99 : decode cX6_takeOneOf 99 = .ok (.invokevirtual 81, 3) := by decide +kernel
theorem dX6_takeOneOf_102 : decode cX6_takeOneOf 102 = .ok (.ireturn, 1) := by decide +kernel
theorem dX6_takeWhole_0 : decode cX6_takeWhole 0 = .ok (.aload_n 0, 1) := by decide +kernel
theorem dX6_takeWhole_1 : decode cX6_takeWhole 1 = .ok (.getfield 45, 3) := by decide +kernel
theorem dX6_takeWhole_4 : decode cX6_takeWhole 4 = .ok (.iconst 2, 1) := by decide +kernel
theorem dX6_takeWhole_5 : decode cX6_takeWhole 5 = .ok (.if_icmp .eq 13, 3) := by decide +kernel
theorem dX6_takeWhole_8 : decode cX6_takeWhole 8 = .ok (.aload_n 0, 1) := by decide +kernel
theorem dX6_takeWhole_9 : decode cX6_takeWhole 9 = .ok (.iconst 1, 1) := by decide +kernel
theorem dX6_takeWhole_10 : decode cX6_takeWhole 10 = .ok (.aload_n 0, 1) := by decide +kernel
theorem dX6_takeWhole_11 : decode cX6_takeWhole 11 = .ok (.getfield 48, 3) := by decide +kernel
theorem dX6_takeWhole_14 : decode cX6_takeWhole 14 = .ok (.invokevirtual 81, 3) := by decide +kernel
theorem dX6_takeWhole_17 : decode cX6_takeWhole 17 = .ok (.ireturn, 1) := by decide +kernel
theorem dX6_takeWhole_18 : decode cX6_takeWhole 18 = .ok (.aload_n 0, 1) := by decide +kernel
theorem dX6_takeWhole_19 : decode cX6_takeWhole 19 = .ok (.getfield 54, 3) := by decide +kernel
theorem dX6_takeWhole_22 : decode cX6_takeWhole 22 = .ok (.iload_n 1, 1) := by decide +kernel
theorem dX6_takeWhole_23 : decode cX6_takeWhole 23 = .ok (.i2l, 1) := by decide +kernel
theorem dX6_takeWhole_24 : decode cX6_takeWhole 24 = .ok (.lcmp, 1) := by decide +kernel
theorem dX6_takeWhole_25 : decode cX6_takeWhole 25 = .ok (.ifCond .lt 13, 3) := by decide +kernel
theorem dX6_takeWhole_28 : decode cX6_takeWhole 28 = .ok (.aload_n 0, 1) := by decide +kernel
theorem dX6_takeWhole_29 : decode cX6_takeWhole 29 = .ok (.getfield 54, 3) := by decide +kernel
theorem dX6_takeWhole_32 : decode cX6_takeWhole 32 = .ok (.iload_n 2, 1) := by decide +kernel
theorem dX6_takeWhole_33 : decode cX6_takeWhole 33 = .ok (.i2l, 1) := by decide +kernel
theorem dX6_takeWhole_34 : decode cX6_takeWhole 34 = .ok (.lcmp, 1) := by decide +kernel
theorem dX6_takeWhole_35 : decode cX6_takeWhole 35 = .ok (.ifCond .le 15, 3) := by decide +kernel
theorem dX6_takeWhole_38 : decode cX6_takeWhole 38 = .ok (.aload_n 0, 1) := by decide +kernel
theorem dX6_takeWhole_39 : decode cX6_takeWhole 39 = .ok (.iconst 4, 1) := by decide +kernel
theorem dX6_takeWhole_40 : decode cX6_takeWhole 40 = .ok (.aload_n 0, 1) := by decide +kernel
theorem dX6_takeWhole_41 : decode cX6_takeWhole 41 = .ok (.getfield 48, 3) := by decide +kernel
theorem dX6_takeWhole_44 : decode cX6_takeWhole 44 = .ok (.invokevirtual 81, 3) := by decide +kernel
theorem dX6_takeWhole_47 : decode cX6_takeWhole 47 = .ok (.goto 12, 3) := by decide +kernel
theorem dX6_takeWhole_50 : decode cX6_takeWhole 50 = .ok (.aload_n 0, 1) := by decide +kernel
theorem dX6_takeWhole_51 : decode cX6_takeWhole 51 = .ok (.aload_n 0, 1) := by decide +kernel
theorem dX6_takeWhole_52 : decode cX6_takeWhole 52 = .ok (.getfield 54, 3) := by decide +kernel
theorem dX6_takeWhole_55 : decode cX6_takeWhole 55 = .ok (.l2i, 1) := by decide +kernel
theorem dX6_takeWhole_56 : decode cX6_takeWhole 56 = .ok (.invokevirtual 85, 3) := by decide +kernel
theorem dX6_takeWhole_59 : decode cX6_takeWhole 59 = .ok (.ireturn, 1) := by decide +kernel
theorem dX6_findName_0 : decode cX6_findName 0 = .ok (.iconst 0, 1) := by decide +kernel
theorem dX6_findName_1 : decode cX6_findName 1 = .ok (.istore_n 1, 1) := by decide +kernel
theorem dX6_findName_2 : decode cX6_findName 2 = .ok (.iload_n 1, 1) := by decide +kernel
theorem dX6_findName_3 : decode cX6_findName 3 = .ok (.aload_n 0, 1) := by decide +kernel
theorem dX6_findName_4 : decode cX6_findName 4 = .ok (.getfield 39, 3) := by decide +kernel
theorem dX6_findName_7 : decode cX6_findName 7 = .ok (.if_icmp .ge 34, 3) := by decide +kernel
theorem dX6_findName_10 : decode cX6_findName 10 = .ok (.iload_n 1, 1) := by decide +kernel
theorem dX6_findName_11 : decode cX6_findName 11 = .ok (.aload_n 0, 1) := by decide +kernel
theorem dX6_findName_12 : decode cX6_findName 12 = .ok (.getfield 26, 3) := by decide +kernel
theorem dX6_findName_15 : decode cX6_findName 15 = .ok (.arraylength, 1) := by decide +kernel
theorem dX6_findName_16 : decode cX6_findName 16 = .ok (.if_icmp .ge 25, 3) := by decide +kernel
theorem dX6_findName_19 : decode cX6_findName 19 = .ok (.aload_n 0, 1) := by decide +kernel
theorem dX6_findName_20 : decode cX6_findName 20 = .ok (.getfield 26, 3) := by decide +kernel
theorem dX6_findName_23 : decode cX6_findName 23 = .ok (.iload_n 1, 1) := by decide +kernel
theorem dX6_findName_24 : decode cX6_findName 24 = .ok (.laload, 1) := by decide +kernel
theorem dX6_findName_25 : decode cX6_findName 25 = .ok (.aload_n 0, 1) := by decide +kernel
theorem dX6_findName_26 : decode cX6_findName 26 = .ok (.getfield 54, 3) := by decide +kernel
theorem dX6_findName_29 : decode cX6_findName 29 = .ok (.lcmp, 1) := by decide +kernel
theorem dX6_findName_30 : decode cX6_findName 30 = .ok (.ifCond .ne 5, 3) := by decide +kernel
theorem dX6_findName_33 : decode cX6_findName 33 = .ok (.iload_n 1, 1) := by decide +kernel
theorem dX6_findName_34 : decode cX6_findName 34 = .ok (.ireturn, 1) := by decide +kernel
theorem dX6_findName_35 : decode cX6_findName 35 = .ok (.iinc 1 1, 3) := by decide +kernel
theorem dX6_findName_38 : decode cX6_findName 38 = .ok (.goto (-36), 3) := by decide +kernel
theorem dX6_findName_41 : decode cX6_findName 41 = .ok (.iconst (-1), 1) := by decide +kernel
theorem dX6_findName_42 : decode cX6_findName 42 = .ok (.ireturn, 1) := by decide +kernel
theorem dX6_takeNewName_0 : decode cX6_takeNewName 0 = .ok (.aload_n 0, 1) := by decide +kernel
theorem dX6_takeNewName_1 : decode cX6_takeNewName 1 = .ok (.getfield 45, 3) := by decide +kernel
theorem dX6_takeNewName_4 : decode cX6_takeNewName 4 = .ok (.iconst 1, 1) := by decide +kernel
theorem dX6_takeNewName_5 : decode cX6_takeNewName 5 = .ok (.if_icmp .ne 12, 3) := by decide +kernel
theorem dX6_takeNewName_8 : decode cX6_takeNewName 8 = .ok (.aload_n 0, 1) := by decide +kernel
theorem dX6_takeNewName_9 : decode cX6_takeNewName 9 = .ok (.invokevirtual 124, 3) := by decide +kernel
theorem dX6_takeNewName_12 : decode cX6_takeNewName 12 = .ok (.bipush 10, 2) := by decide +kernel
theorem dX6_takeNewName_14 : decode cX6_takeNewName 14 = .ok (.if_icmp .eq 13, 3) := by decide +kernel
theorem dX6_takeNewName_17 : decode cX6_takeNewName 17 = .ok (.aload_n 0, 1) := by decide +kernel
theorem dX6_takeNewName_18 : decode cX6_takeNewName 18 = .ok (.iconst 1, 1) := by decide +kernel
theorem dX6_takeNewName_19 : decode cX6_takeNewName 19 = .ok (.aload_n 0, 1) := by decide +kernel
theorem dX6_takeNewName_20 : decode cX6_takeNewName 20 = .ok (.getfield 48, 3) := by decide +kernel
theorem dX6_takeNewName_23 : decode cX6_takeNewName 23 = .ok (.invokevirtual 81, 3) := by decide +kernel
theorem dX6_takeNewName_26 : decode cX6_takeNewName 26 = .ok (.ireturn, 1) := by decide +kernel
theorem dX6_takeNewName_27 : decode cX6_takeNewName 27 = .ok (.aload_n 0, 1) := by decide +kernel
theorem dX6_takeNewName_28 : decode cX6_takeNewName 28 = .ok (.invokevirtual 127, 3) := by decide +kernel
theorem dX6_takeNewName_31 : decode cX6_takeNewName 31 = .ok (.ifCond .lt 13, 3) := by decide +kernel
theorem dX6_takeNewName_34 : decode cX6_takeNewName 34 = .ok (.aload_n 0, 1) := by decide +kernel
theorem dX6_takeNewName_35 : decode cX6_takeNewName 35 = .ok (.iconst 3, 1) := by decide +kernel
theorem dX6_takeNewName_36 : decode cX6_takeNewName 36 = .ok (.aload_n 0, 1) := by decide +kernel
theorem dX6_takeNewName_37 : decode cX6_takeNewName 37 = .ok (.getfield 48, 3) := by decide +kernel
theorem dX6_takeNewName_40 : decode cX6_takeNewName 40 = .ok (.invokevirtual 81, 3) := by decide +kernel
theorem dX6_takeNewName_43 : decode cX6_takeNewName 43 = .ok (.ireturn, 1) := by decide +kernel
theorem dX6_takeNewName_44 : decode cX6_takeNewName 44 = .ok (.aload_n 0, 1) := by decide +kernel
theorem dX6_takeNewName_45 : decode cX6_takeNewName 45 = .ok (.getfield 39, 3) := by decide +kernel
theorem dX6_takeNewName_48 : decode cX6_takeNewName 48 = .ok (.ifCond .lt 71, 3) := by decide +kernel
theorem dX6_takeNewName_51 : decode cX6_takeNewName 51 = .ok (.aload_n 0, 1) := by decide +kernel
theorem dX6_takeNewName_52 : decode cX6_takeNewName 52 = .ok (.getfield 39, 3) := by decide +kernel
theorem dX6_takeNewName_55 : decode cX6_takeNewName 55 = .ok (.aload_n 0, 1) := by decide +kernel
theorem dX6_takeNewName_56 : decode cX6_takeNewName 56 = .ok (.getfield 26, 3) := by decide +kernel
theorem dX6_takeNewName_59 : decode cX6_takeNewName 59 = .ok (.arraylength, 1) := by decide +kernel
theorem dX6_takeNewName_60 : decode cX6_takeNewName 60 = .ok (.if_icmp .ge 59, 3) := by decide +kernel
theorem dX6_takeNewName_63 : decode cX6_takeNewName 63 = .ok (.aload_n 0, 1) := by decide +kernel
theorem dX6_takeNewName_64 : decode cX6_takeNewName 64 = .ok (.getfield 26, 3) := by decide +kernel
theorem dX6_takeNewName_67 : decode cX6_takeNewName 67 = .ok (.aload_n 0, 1) := by decide +kernel
theorem dX6_takeNewName_68 : decode cX6_takeNewName 68 = .ok (.getfield 39, 3) := by decide +kernel
theorem dX6_takeNewName_71 : decode cX6_takeNewName 71 = .ok (.aload_n 0, 1) := by decide +kernel
theorem dX6_takeNewName_72 : decode cX6_takeNewName 72 = .ok (.getfield 54, 3) := by decide +kernel
theorem dX6_takeNewName_75 : decode cX6_takeNewName 75 = .ok (.lastore, 1) := by decide +kernel
theorem dX6_takeNewName_76 : decode cX6_takeNewName 76 = .ok (.aload_n 0, 1) := by decide +kernel
theorem dX6_takeNewName_77 : decode cX6_takeNewName 77 = .ok (.getfield 35, 3) := by decide +kernel
theorem dX6_takeNewName_80 : decode cX6_takeNewName 80 = .ok (.aload_n 0, 1) := by decide +kernel
theorem dX6_takeNewName_81 : decode cX6_takeNewName 81 = .ok (.getfield 39, 3) := by decide +kernel
theorem dX6_takeNewName_84 : decode cX6_takeNewName 84 = .ok (.iconst 0, 1) := by decide +kernel
theorem dX6_takeNewName_85 : decode cX6_takeNewName 85 = .ok (.iload_n 1, 1) := by decide +kernel
theorem dX6_takeNewName_86 : decode cX6_takeNewName 86 = .ok (.invokevirtual 130, 3) := by decide +kernel
theorem dX6_takeNewName_89 : decode cX6_takeNewName 89 = .ok (.aload_n 0, 1) := by decide +kernel
theorem dX6_takeNewName_90 : decode cX6_takeNewName 90 = .ok (.getfield 35, 3) := by decide +kernel
theorem dX6_takeNewName_93 : decode cX6_takeNewName 93 = .ok (.aload_n 0, 1) := by decide +kernel
theorem dX6_takeNewName_94 : decode cX6_takeNewName 94 = .ok (.getfield 39, 3) := by decide +kernel
theorem dX6_takeNewName_97 : decode cX6_takeNewName 97 = .ok (.iconst 1, 1) := by decide +kernel
theorem dX6_takeNewName_98 : decode cX6_takeNewName 98 = .ok (.aload_n 0, 1) := by decide +kernel
theorem dX6_takeNewName_99 : decode cX6_takeNewName 99 = .ok (.getfield 22, 3) := by decide +kernel
theorem dX6_takeNewName_102 : decode cX6_takeNewName 102 = .ok (.iload_n 1, 1) := by decide +kernel
theorem dX6_takeNewName_103 : decode cX6_takeNewName 103 = .ok (.invokevirtual 98, 3) := by decide +kernel
theorem dX6_takeNewName_106 : decode cX6_takeNewName 106 = .ok (.invokevirtual 130, 3) := by decide +kernel
theorem dX6_takeNewName_109 : decode cX6_takeNewName 109 = .ok (.aload_n 0, 1) := by decide +kernel
theorem dX6_takeNewName_110 : decode cX6_takeNewName 110 = .ok (.dup, 1) := by decide +kernel
theorem dX6_takeNewName_111 : decode cX6_takeNewName 111 = .ok (.getfield 39, 3) := by decide +kernel
theorem dX6_takeNewName_114 : decode cX6_takeNewName 114 = .ok (.iconst 1, 1) := by decide +kernel
theorem dX6_takeNewName_115 : decode cX6_takeNewName 115 = .ok (.iadd, 1) := by decide +kernel
theorem dX6_takeNewName_116 : decode cX6_takeNewName 116 = .ok (.putfield 39, 3) := by decide +kernel
theorem dX6_takeNewName_119 : decode cX6_takeNewName 119 = .ok (.aload_n 0, 1) := by decide +kernel
theorem dX6_takeNewName_120 : decode cX6_takeNewName 120 = .ok (.iconst 0, 1) := by decide +kernel
theorem dX6_takeNewName_121 : decode cX6_takeNewName 121 = .ok (.invokevirtual 85, 3) := by decide +kernel
theorem dX6_takeNewName_124 : decode cX6_takeNewName 124 = .ok (.ireturn, 1) := by decide +kernel
theorem dX6_takeName_0 : decode cX6_takeName 0 = .ok (.aload_n 0, 1) := by decide +kernel
theorem dX6_takeName_1 : decode cX6_takeName 1 = .ok (.getfield 45, 3) := by decide +kernel
theorem dX6_takeName_4 : decode cX6_takeName 4 = .ok (.iconst 1, 1) := by decide +kernel
theorem dX6_takeName_5 : decode cX6_takeName 5 = .ok (.if_icmp .ne 12, 3) := by decide +kernel
theorem dX6_takeName_8 : decode cX6_takeName 8 = .ok (.aload_n 0, 1) := by decide +kernel
theorem dX6_takeName_9 : decode cX6_takeName 9 = .ok (.invokevirtual 124, 3) := by decide +kernel
theorem dX6_takeName_12 : decode cX6_takeName 12 = .ok (.bipush 10, 2) := by decide +kernel
theorem dX6_takeName_14 : decode cX6_takeName 14 = .ok (.if_icmp .eq 13, 3) := by decide +kernel
theorem dX6_takeName_17 : decode cX6_takeName 17 = .ok (.aload_n 0, 1) := by decide +kernel
theorem dX6_takeName_18 : decode cX6_takeName 18 = .ok (.iconst 1, 1) := by decide +kernel
theorem dX6_takeName_19 : decode cX6_takeName 19 = .ok (.aload_n 0, 1) := by decide +kernel
theorem dX6_takeName_20 : decode cX6_takeName 20 = .ok (.getfield 48, 3) := by decide +kernel
theorem dX6_takeName_23 : decode cX6_takeName 23 = .ok (.invokevirtual 81, 3) := by decide +kernel
theorem dX6_takeName_26 : decode cX6_takeName 26 = .ok (.ireturn, 1) := by decide +kernel
theorem dX6_takeName_27 : decode cX6_takeName 27 = .ok (.aload_n 0, 1) := by decide +kernel
theorem dX6_takeName_28 : decode cX6_takeName 28 = .ok (.invokevirtual 127, 3) := by decide +kernel
theorem dX6_takeName_31 : decode cX6_takeName 31 = .ok (.istore_n 2, 1) := by decide +kernel
theorem dX6_takeName_32 : decode cX6_takeName 32 = .ok (.iload_n 2, 1) := by decide +kernel
theorem dX6_takeName_33 : decode cX6_takeName 33 = .ok (.ifCond .lt 16, 3) := by decide +kernel
theorem dX6_takeName_36 : decode cX6_takeName 36 = .ok (.aload_n 0, 1) := by decide +kernel
theorem dX6_takeName_37 : decode cX6_takeName 37 = .ok (.getfield 35, 3) := by decide +kernel
theorem dX6_takeName_40 : decode cX6_takeName 40 = .ok (.iload_n 2, 1) := by decide +kernel
theorem dX6_takeName_41 : decode cX6_takeName 41 = .ok (.iconst 0, 1) := by decide +kernel
theorem dX6_takeName_42 : decode cX6_takeName 42 = .ok (.invokevirtual 134, 3) := by decide +kernel
theorem dX6_takeName_45 : decode cX6_takeName 45 = .ok (.iload_n 1, 1) := by decide +kernel
theorem dX6_takeName_46 : decode cX6_takeName 46 = .ok (.if_icmp .eq 13, 3) := by decide +kernel
theorem dX6_takeName_49 : decode cX6_takeName 49 = .ok (.aload_n 0, 1) := by decide +kernel
theorem dX6_takeName_50 : decode cX6_takeName 50 = .ok (.iconst 2, 1) := by decide +kernel
theorem dX6_takeName_51 : decode cX6_takeName 51 = .ok (.aload_n 0, 1) := by decide +kernel
theorem dX6_takeName_52 : decode cX6_takeName 52 = .ok (.getfield 48, 3) := by decide +kernel
theorem dX6_takeName_55 : decode cX6_takeName 55 = .ok (.invokevirtual 81, 3) := by decide +kernel
theorem dX6_takeName_58 : decode cX6_takeName 58 = .ok (.ireturn, 1) := by decide +kernel
theorem dX6_takeName_59 : decode cX6_takeName 59 = .ok (.aload_n 0, 1) := by decide +kernel
theorem dX6_takeName_60 : decode cX6_takeName 60 = .ok (.aload_n 0, 1) := by decide +kernel
theorem dX6_takeName_61 : decode cX6_takeName 61 = .ok (.getfield 35, 3) := by decide +kernel
theorem dX6_takeName_64 : decode cX6_takeName 64 = .ok (.iload_n 2, 1) := by decide +kernel
theorem dX6_takeName_65 : decode cX6_takeName 65 = .ok (.iconst 1, 1) := by decide +kernel
theorem dX6_takeName_66 : decode cX6_takeName 66 = .ok (.invokevirtual 134, 3) := by decide +kernel
theorem dX6_takeName_69 : decode cX6_takeName 69 = .ok (.invokevirtual 85, 3) := by decide +kernel
theorem dX6_takeName_72 : decode cX6_takeName 72 = .ok (.ireturn, 1) := by decide +kernel
theorem dX6_lineSort_0 : decode cX6_lineSort 0 = .ok (.iconst 0, 1) := by decide +kernel
theorem dX6_lineSort_1 : decode cX6_lineSort 1 = .ok (.istore_n 1, 1) := by decide +kernel
theorem dX6_lineSort_2 : decode cX6_lineSort 2 = .ok (.iload_n 1, 1) := by decide +kernel
theorem dX6_lineSort_3 : decode cX6_lineSort 3 = .ok (.bipush 10, 2) := by decide +kernel
theorem dX6_lineSort_5 : decode cX6_lineSort 5 = .ok (.if_icmp .ge 34, 3) := by decide +kernel
theorem dX6_lineSort_8 : decode cX6_lineSort 8 = .ok (.aload_n 0, 1) := by decide +kernel
theorem dX6_lineSort_9 : decode cX6_lineSort 9 = .ok (.getfield 45, 3) := by decide +kernel
theorem dX6_lineSort_12 : decode cX6_lineSort 12 = .ok (.iconst 1, 1) := by decide +kernel
theorem dX6_lineSort_13 : decode cX6_lineSort 13 = .ok (.if_icmp .ne 20, 3) := by decide +kernel
theorem dX6_lineSort_16 : decode cX6_lineSort 16 = .ok (.aload_n 0, 1) := by decide +kernel
theorem dX6_lineSort_17 : decode cX6_lineSort 17 = .ok (.getfield 54, 3) := by decide +kernel
theorem dX6_lineSort_20 : decode cX6_lineSort 20 = .ok (.iload_n 1, 1) := by decide +kernel
theorem dX6_lineSort_21 : decode cX6_lineSort 21 = .ok (.invokestatic 137, 3) := by decide +kernel
theorem dX6_lineSort_24 : decode cX6_lineSort 24 = .ok (.invokestatic 120, 3) := by decide +kernel
theorem dX6_lineSort_27 : decode cX6_lineSort 27 = .ok (.lcmp, 1) := by decide +kernel
theorem dX6_lineSort_28 : decode cX6_lineSort 28 = .ok (.ifCond .ne 5, 3) := by decide +kernel
theorem dX6_lineSort_31 : decode cX6_lineSort 31 = .ok (.iload_n 1, 1) := by decide +kernel
theorem dX6_lineSort_32 : decode cX6_lineSort 32 = .ok (.ireturn, 1) := by decide +kernel
theorem dX6_lineSort_33 : decode cX6_lineSort 33 = .ok (.iinc 1 1, 3) := by decide +kernel
theorem dX6_lineSort_36 : decode cX6_lineSort 36 = .ok (.goto (-34), 3) := by decide +kernel
theorem dX6_lineSort_39 : decode cX6_lineSort 39 = .ok (.bipush 10, 2) := by decide +kernel
theorem dX6_lineSort_41 : decode cX6_lineSort 41 = .ok (.ireturn, 1) := by decide +kernel
theorem dX6_lineWord_0 : decode cX6_lineWord 0 = .ok (.iload_n 0, 1) := by decide +kernel
theorem dX6_lineWord_1 : decode cX6_lineWord 1 = .ok (.tableswitch 78 0 8 #[51, 54, 57, 60, 63, 66, 69, 72, 75], 51) := by decide +kernel
theorem dX6_lineWord_52 : decode cX6_lineWord 52 = .ok (.ldc 141, 2) := by decide +kernel
theorem dX6_lineWord_54 : decode cX6_lineWord 54 = .ok (.areturn, 1) := by decide +kernel
theorem dX6_lineWord_55 : decode cX6_lineWord 55 = .ok (.ldc 143, 2) := by decide +kernel
theorem dX6_lineWord_57 : decode cX6_lineWord 57 = .ok (.areturn, 1) := by decide +kernel
theorem dX6_lineWord_58 : decode cX6_lineWord 58 = .ok (.ldc 145, 2) := by decide +kernel
theorem dX6_lineWord_60 : decode cX6_lineWord 60 = .ok (.areturn, 1) := by decide +kernel
theorem dX6_lineWord_61 : decode cX6_lineWord 61 = .ok (.ldc 147, 2) := by decide +kernel
theorem dX6_lineWord_63 : decode cX6_lineWord 63 = .ok (.areturn, 1) := by decide +kernel
theorem dX6_lineWord_64 : decode cX6_lineWord 64 = .ok (.ldc 149, 2) := by decide +kernel
theorem dX6_lineWord_66 : decode cX6_lineWord 66 = .ok (.areturn, 1) := by decide +kernel
theorem dX6_lineWord_67 : decode cX6_lineWord 67 = .ok (.ldc 151, 2) := by decide +kernel
theorem dX6_lineWord_69 : decode cX6_lineWord 69 = .ok (.areturn, 1) := by decide +kernel
theorem dX6_lineWord_70 : decode cX6_lineWord 70 = .ok (.ldc 153, 2) := by decide +kernel
theorem dX6_lineWord_72 : decode cX6_lineWord 72 = .ok (.areturn, 1) := by decide +kernel
theorem dX6_lineWord_73 : decode cX6_lineWord 73 = .ok (.ldc 155, 2) := by decide +kernel
theorem dX6_lineWord_75 : decode cX6_lineWord 75 = .ok (.areturn, 1) := by decide +kernel
theorem dX6_lineWord_76 : decode cX6_lineWord 76 = .ok (.ldc 157, 2) := by decide +kernel
theorem dX6_lineWord_78 : decode cX6_lineWord 78 = .ok (.areturn, 1) := by decide +kernel
theorem dX6_lineWord_79 : decode cX6_lineWord 79 = .ok (.ldc 159, 2) := by decide +kernel
theorem dX6_lineWord_81 : decode cX6_lineWord 81 = .ok (.areturn, 1) := by decide +kernel
theorem dX6_readLine_0 : decode cX6_readLine 0 = .ok (.aload_n 0, 1) := by decide +kernel
theorem dX6_readLine_1 : decode cX6_readLine 1 = .ok (.invokevirtual 124, 3) := by decide +kernel
theorem dX6_readLine_4 : decode cX6_readLine 4 = .ok (.istore_n 1, 1) := by decide +kernel
theorem dX6_readLine_5 : decode cX6_readLine 5 = .ok (.iload_n 1, 1) := by decide +kernel
theorem dX6_readLine_6 : decode cX6_readLine 6 = .ok (.bipush 10, 2) := by decide +kernel
theorem dX6_readLine_8 : decode cX6_readLine 8 = .ok (.if_icmp .ne 13, 3) := by decide +kernel
theorem dX6_readLine_11 : decode cX6_readLine 11 = .ok (.aload_n 0, 1) := by decide +kernel
theorem dX6_readLine_12 : decode cX6_readLine 12 = .ok (.iconst 1, 1) := by decide +kernel
theorem dX6_readLine_13 : decode cX6_readLine 13 = .ok (.aload_n 0, 1) := by decide +kernel
theorem dX6_readLine_14 : decode cX6_readLine 14 = .ok (.getfield 48, 3) := by decide +kernel
theorem dX6_readLine_17 : decode cX6_readLine 17 = .ok (.invokevirtual 81, 3) := by decide +kernel
theorem dX6_readLine_20 : decode cX6_readLine 20 = .ok (.ireturn, 1) := by decide +kernel
theorem dX6_readLine_21 : decode cX6_readLine 21 = .ok (.aload_n 0, 1) := by decide +kernel
theorem dX6_readLine_22 : decode cX6_readLine 22 = .ok (.getfield 22, 3) := by decide +kernel
theorem dX6_readLine_25 : decode cX6_readLine 25 = .ok (.iconst 0, 1) := by decide +kernel
theorem dX6_readLine_26 : decode cX6_readLine 26 = .ok (.invokevirtual 98, 3) := by decide +kernel
theorem dX6_readLine_29 : decode cX6_readLine 29 = .ok (.ifCond .le 7, 3) := by decide +kernel
theorem dX6_readLine_32 : decode cX6_readLine 32 = .ok (.iconst 1, 1) := by decide +kernel
theorem dX6_readLine_33 : decode cX6_readLine 33 = .ok (.goto 4, 3) := by decide +kernel
theorem dX6_readLine_36 : decode cX6_readLine 36 = .ok (.iconst 0, 1) := by decide +kernel
theorem dX6_readLine_37 : decode cX6_readLine 37 = .ok (.istore_n 2, 1) := by decide +kernel
theorem dX6_readLine_38 : decode cX6_readLine 38 = .ok (.iload_n 1, 1) := by decide +kernel
theorem dX6_readLine_39 : decode cX6_readLine 39 = .ok (.ifCond .ne 40, 3) := by decide +kernel
theorem dX6_readLine_42 : decode cX6_readLine 42 = .ok (.iload_n 2, 1) := by decide +kernel
theorem dX6_readLine_43 : decode cX6_readLine 43 = .ok (.ifCond .eq 15, 3) := by decide +kernel
theorem dX6_readLine_46 : decode cX6_readLine 46 = .ok (.aload_n 0, 1) := by decide +kernel
theorem dX6_readLine_47 : decode cX6_readLine 47 = .ok (.iconst 3, 1) := by decide +kernel
theorem dX6_readLine_48 : decode cX6_readLine 48 = .ok (.aload_n 0, 1) := by decide +kernel
theorem dX6_readLine_49 : decode cX6_readLine 49 = .ok (.getfield 48, 3) := by decide +kernel
theorem dX6_readLine_52 : decode cX6_readLine 52 = .ok (.invokevirtual 81, 3) := by decide +kernel
theorem dX6_readLine_55 : decode cX6_readLine 55 = .ok (.goto 23, 3) := by decide +kernel
theorem dX6_readLine_58 : decode cX6_readLine 58 = .ok (.aload_n 0, 1) := by decide +kernel
theorem dX6_readLine_59 : decode cX6_readLine 59 = .ok (.iconst 0, 1) := by decide +kernel
theorem dX6_readLine_60 : decode cX6_readLine 60 = .ok (.invokevirtual 85, 3) := by decide +kernel
theorem dX6_readLine_63 : decode cX6_readLine 63 = .ok (.ifCond .eq 14, 3) := by decide +kernel
theorem dX6_readLine_66 : decode cX6_readLine 66 = .ok (.aload_n 0, 1) := by decide +kernel
theorem dX6_readLine_67 : decode cX6_readLine 67 = .ok (.invokevirtual 161, 3) := by decide +kernel
theorem dX6_readLine_70 : decode cX6_readLine 70 = .ok (.ifCond .eq 7, 3) := by decide +kernel
theorem dX6_readLine_73 : decode cX6_readLine 73 = .ok (.iconst 1, 1) := by decide +kernel
theorem dX6_readLine_74 : decode cX6_readLine 74 = .ok (.goto 4, 3) := by decide +kernel
theorem dX6_readLine_77 : decode cX6_readLine 77 = .ok (.iconst 0, 1) := by decide +kernel
theorem dX6_readLine_78 : decode cX6_readLine 78 = .ok (.ireturn, 1) := by decide +kernel
theorem dX6_readLine_79 : decode cX6_readLine 79 = .ok (.iload_n 2, 1) := by decide +kernel
theorem dX6_readLine_80 : decode cX6_readLine 80 = .ok (.ifCond .ne 14, 3) := by decide +kernel
theorem dX6_readLine_83 : decode cX6_readLine 83 = .ok (.aload_n 0, 1) := by decide +kernel
theorem dX6_readLine_84 : decode cX6_readLine 84 = .ok (.bipush 6, 2) := by decide +kernel
theorem dX6_readLine_86 : decode cX6_readLine 86 = .ok (.aload_n 0, 1) := by decide +kernel
theorem dX6_readLine_87 : decode cX6_readLine 87 = .ok (.getfield 48, 3) := by decide +kernel
theorem dX6_readLine_90 : decode cX6_readLine 90 = .ok (.invokevirtual 81, 3) := by decide +kernel
theorem dX6_readLine_93 : decode cX6_readLine 93 = .ok (.ireturn, 1) := by decide +kernel
theorem dX6_readLine_94 : decode cX6_readLine 94 = .ok (.aload_n 0, 1) := by decide +kernel
theorem dX6_readLine_95 : decode cX6_readLine 95 = .ok (.iload_n 1, 1) := by decide +kernel
theorem dX6_readLine_96 : decode cX6_readLine 96 = .ok (.invokevirtual 164, 3) := by decide +kernel
theorem dX6_readLine_99 : decode cX6_readLine 99 = .ok (.ifCond .eq 15, 3) := by decide +kernel
theorem dX6_readLine_102 : decode cX6_readLine 102 = .ok (.aload_n 0, 1) := by decide +kernel
theorem dX6_readLine_103 : decode cX6_readLine 103 = .ok (.iconst 5, 1) := by decide +kernel
theorem dX6_readLine_104 : decode cX6_readLine 104 = .ok (.aload_n 0, 1) := by decide +kernel
theorem dX6_readLine_105 : decode cX6_readLine 105 = .ok (.getfield 48, 3) := by decide +kernel
theorem dX6_readLine_108 : decode cX6_readLine 108 = .ok (.invokevirtual 81, 3) := by decide +kernel
theorem dX6_readLine_111 : decode cX6_readLine 111 = .ok (.goto 24, 3) := by decide +kernel
theorem dX6_readLine_114 : decode cX6_readLine 114 = .ok (.aload_n 0, 1) := by decide +kernel
theorem dX6_readLine_115 : decode cX6_readLine 115 = .ok (.iconst 0, 1) := by decide +kernel
theorem dX6_readLine_116 : decode cX6_readLine 116 = .ok (.invokevirtual 85, 3) := by decide +kernel
theorem dX6_readLine_119 : decode cX6_readLine 119 = .ok (.ifCond .eq 15, 3) := by decide +kernel
theorem dX6_readLine_122 : decode cX6_readLine 122 = .ok (.aload_n 0, 1) := by decide +kernel
theorem dX6_readLine_123 : decode cX6_readLine 123 = .ok (.iload_n 1, 1) := by decide +kernel
theorem dX6_readLine_124 : decode cX6_readLine 124 = .ok (.invokevirtual 167, 3) := by decide +kernel
theorem dX6_readLine_127 : decode cX6_readLine 127 = .ok (.ifCond .eq 7, 3) := by decide +kernel
theorem dX6_readLine_130 : decode cX6_readLine 130 = .ok (.iconst 1, 1) := by decide +kernel
theorem dX6_readLine_131 : decode cX6_readLine 131 = .ok (.goto 4, 3) := by decide +kernel
theorem dX6_readLine_134 : decode cX6_readLine 134 = .ok (.iconst 0, 1) := by decide +kernel
theorem dX6_readLine_135 : decode cX6_readLine 135 = .ok (.ireturn, 1) := by decide +kernel
theorem dX6_isFull_0 : decode cX6_isFull 0 = .ok (.iload_n 1, 1) := by decide +kernel
theorem dX6_isFull_1 : decode cX6_isFull 1 = .ok (.tableswitch 183 1 9 #[51, 69, 87, 105, 123, 123, 143, 183, 163], 51) := by decide +kernel
theorem dX6_isFull_52 : decode cX6_isFull 52 = .ok (.aload_n 0, 1) := by decide +kernel
theorem dX6_isFull_53 : decode cX6_isFull 53 = .ok (.getfield 22, 3) := by decide +kernel
theorem dX6_isFull_56 : decode cX6_isFull 56 = .ok (.iconst 2, 1) := by decide +kernel
theorem dX6_isFull_57 : decode cX6_isFull 57 = .ok (.invokevirtual 98, 3) := by decide +kernel
theorem dX6_isFull_60 : decode cX6_isFull 60 = .ok (.iconst 4, 1) := by decide +kernel
theorem dX6_isFull_61 : decode cX6_isFull 61 = .ok (.if_icmp .lt 7, 3) := by decide +kernel
theorem dX6_isFull_64 : decode cX6_isFull 64 = .ok (.iconst 1, 1) := by decide +kernel
theorem dX6_isFull_65 : decode cX6_isFull 65 = .ok (.goto 4, 3) := by decide +kernel
theorem dX6_isFull_68 : decode cX6_isFull 68 = .ok (.iconst 0, 1) := by decide +kernel
theorem dX6_isFull_69 : decode cX6_isFull 69 = .ok (.ireturn, 1) := by decide +kernel
theorem dX6_isFull_70 : decode cX6_isFull 70 = .ok (.aload_n 0, 1) := by decide +kernel
theorem dX6_isFull_71 : decode cX6_isFull 71 = .ok (.getfield 22, 3) := by decide +kernel
theorem dX6_isFull_74 : decode cX6_isFull 74 = .ok (.iconst 3, 1) := by decide +kernel
theorem dX6_isFull_75 : decode cX6_isFull 75 = .ok (.invokevirtual 98, 3) := by decide +kernel
theorem dX6_isFull_78 : decode cX6_isFull 78 = .ok (.iconst 5, 1) := by decide +kernel
theorem dX6_isFull_79 : decode cX6_isFull 79 = .ok (.if_icmp .lt 7, 3) := by decide +kernel
theorem dX6_isFull_82 : decode cX6_isFull 82 = .ok (.iconst 1, 1) := by decide +kernel
theorem dX6_isFull_83 : decode cX6_isFull 83 = .ok (.goto 4, 3) := by decide +kernel
theorem dX6_isFull_86 : decode cX6_isFull 86 = .ok (.iconst 0, 1) := by decide +kernel
theorem dX6_isFull_87 : decode cX6_isFull 87 = .ok (.ireturn, 1) := by decide +kernel
theorem dX6_isFull_88 : decode cX6_isFull 88 = .ok (.aload_n 0, 1) := by decide +kernel
theorem dX6_isFull_89 : decode cX6_isFull 89 = .ok (.getfield 22, 3) := by decide +kernel
theorem dX6_isFull_92 : decode cX6_isFull 92 = .ok (.iconst 4, 1) := by decide +kernel
theorem dX6_isFull_93 : decode cX6_isFull 93 = .ok (.invokevirtual 98, 3) := by decide +kernel
theorem dX6_isFull_96 : decode cX6_isFull 96 = .ok (.iconst 4, 1) := by decide +kernel
theorem dX6_isFull_97 : decode cX6_isFull 97 = .ok (.if_icmp .lt 7, 3) := by decide +kernel
theorem dX6_isFull_100 : decode cX6_isFull 100 = .ok (.iconst 1, 1) := by decide +kernel
theorem dX6_isFull_101 : decode cX6_isFull 101 = .ok (.goto 4, 3) := by decide +kernel
theorem dX6_isFull_104 : decode cX6_isFull 104 = .ok (.iconst 0, 1) := by decide +kernel
theorem dX6_isFull_105 : decode cX6_isFull 105 = .ok (.ireturn, 1) := by decide +kernel
theorem dX6_isFull_106 : decode cX6_isFull 106 = .ok (.aload_n 0, 1) := by decide +kernel
theorem dX6_isFull_107 : decode cX6_isFull 107 = .ok (.getfield 22, 3) := by decide +kernel
theorem dX6_isFull_110 : decode cX6_isFull 110 = .ok (.iconst 5, 1) := by decide +kernel
theorem dX6_isFull_111 : decode cX6_isFull 111 = .ok (.invokevirtual 98, 3) := by decide +kernel
theorem dX6_isFull_114 : decode cX6_isFull 114 = .ok (.iconst 3, 1) := by decide +kernel
theorem dX6_isFull_115 : decode cX6_isFull 115 = .ok (.if_icmp .lt 7, 3) := by decide +kernel
theorem dX6_isFull_118 : decode cX6_isFull 118 = .ok (.iconst 1, 1) := by decide +kernel
theorem dX6_isFull_119 : decode cX6_isFull 119 = .ok (.goto 4, 3) := by decide +kernel
theorem dX6_isFull_122 : decode cX6_isFull 122 = .ok (.iconst 0, 1) := by decide +kernel
theorem dX6_isFull_123 : decode cX6_isFull 123 = .ok (.ireturn, 1) := by decide +kernel
theorem dX6_isFull_124 : decode cX6_isFull 124 = .ok (.aload_n 0, 1) := by decide +kernel
theorem dX6_isFull_125 : decode cX6_isFull 125 = .ok (.getfield 22, 3) := by decide +kernel
theorem dX6_isFull_128 : decode cX6_isFull 128 = .ok (.bipush 6, 2) := by decide +kernel
theorem dX6_isFull_130 : decode cX6_isFull 130 = .ok (.invokevirtual 98, 3) := by decide +kernel
theorem dX6_isFull_133 : decode cX6_isFull 133 = .ok (.bipush 16, 2) := by decide +kernel
theorem dX6_isFull_135 : decode cX6_isFull 135 = .ok (.if_icmp .lt 7, 3) := by decide +kernel
theorem dX6_isFull_138 : decode cX6_isFull 138 = .ok (.iconst 1, 1) := by decide +kernel
theorem dX6_isFull_139 : decode cX6_isFull 139 = .ok (.goto 4, 3) := by decide +kernel
theorem dX6_isFull_142 : decode cX6_isFull 142 = .ok (.iconst 0, 1) := by decide +kernel
theorem dX6_isFull_143 : decode cX6_isFull 143 = .ok (.ireturn, 1) := by decide +kernel
theorem dX6_isFull_144 : decode cX6_isFull 144 = .ok (.aload_n 0, 1) := by decide +kernel
theorem dX6_isFull_145 : decode cX6_isFull 145 = .ok (.getfield 22, 3) := by decide +kernel
theorem dX6_isFull_148 : decode cX6_isFull 148 = .ok (.bipush 7, 2) := by decide +kernel
theorem dX6_isFull_150 : decode cX6_isFull 150 = .ok (.invokevirtual 98, 3) := by decide +kernel
theorem dX6_isFull_153 : decode cX6_isFull 153 = .ok (.bipush 12, 2) := by decide +kernel
theorem dX6_isFull_155 : decode cX6_isFull 155 = .ok (.if_icmp .lt 7, 3) := by decide +kernel
theorem dX6_isFull_158 : decode cX6_isFull 158 = .ok (.iconst 1, 1) := by decide +kernel
theorem dX6_isFull_159 : decode cX6_isFull 159 = .ok (.goto 4, 3) := by decide +kernel
theorem dX6_isFull_162 : decode cX6_isFull 162 = .ok (.iconst 0, 1) := by decide +kernel
theorem dX6_isFull_163 : decode cX6_isFull 163 = .ok (.ireturn, 1) := by decide +kernel
theorem dX6_isFull_164 : decode cX6_isFull 164 = .ok (.aload_n 0, 1) := by decide +kernel
theorem dX6_isFull_165 : decode cX6_isFull 165 = .ok (.getfield 22, 3) := by decide +kernel
theorem dX6_isFull_168 : decode cX6_isFull 168 = .ok (.bipush 9, 2) := by decide +kernel
theorem dX6_isFull_170 : decode cX6_isFull 170 = .ok (.invokevirtual 98, 3) := by decide +kernel
theorem dX6_isFull_173 : decode cX6_isFull 173 = .ok (.bipush 8, 2) := by decide +kernel
theorem dX6_isFull_175 : decode cX6_isFull 175 = .ok (.if_icmp .lt 7, 3) := by decide +kernel
theorem dX6_isFull_178 : decode cX6_isFull 178 = .ok (.iconst 1, 1) := by decide +kernel
theorem dX6_isFull_179 : decode cX6_isFull 179 = .ok (.goto 4, 3) := by decide +kernel
theorem dX6_isFull_182 : decode cX6_isFull 182 = .ok (.iconst 0, 1) := by decide +kernel
theorem dX6_isFull_183 : decode cX6_isFull 183 = .ok (.ireturn, 1) := by decide +kernel
theorem dX6_isFull_184 : decode cX6_isFull 184 = .ok (.iconst 0, 1) := by decide +kernel
theorem dX6_isFull_185 : decode cX6_isFull 185 = .ok (.ireturn, 1) := by decide +kernel
theorem dX6_readRest_0 : decode cX6_readRest 0 = .ok (.iload_n 1, 1) := by decide +kernel
theorem dX6_readRest_1 : decode cX6_readRest 1 = .ok (.tableswitch 235 1 8 #[47, 68, 89, 110, 131, 161, 191, 213], 47) := by decide +kernel
theorem dX6_readRest_48 : decode cX6_readRest 48 = .ok (.aload_n 0, 1) := by decide +kernel
theorem dX6_readRest_49 : decode cX6_readRest 49 = .ok (.invokevirtual 170, 3) := by decide +kernel
theorem dX6_readRest_52 : decode cX6_readRest 52 = .ok (.ifCond .eq 15, 3) := by decide +kernel
theorem dX6_readRest_55 : decode cX6_readRest 55 = .ok (.aload_n 0, 1) := by decide +kernel
theorem dX6_readRest_56 : decode cX6_readRest 56 = .ok (.iconst 2, 1) := by decide +kernel
theorem dX6_readRest_57 : decode cX6_readRest 57 = .ok (.invokevirtual 173, 3) := by decide +kernel
theorem dX6_readRest_60 : decode cX6_readRest 60 = .ok (.ifCond .eq 7, 3) := by decide +kernel
theorem dX6_readRest_63 : decode cX6_readRest 63 = .ok (.iconst 1, 1) := by decide +kernel
theorem dX6_readRest_64 : decode cX6_readRest 64 = .ok (.goto 4, 3) := by decide +kernel
theorem dX6_readRest_67 : decode cX6_readRest 67 = .ok (.iconst 0, 1) := by decide +kernel
theorem dX6_readRest_68 : decode cX6_readRest 68 = .ok (.ireturn, 1) := by decide +kernel
theorem dX6_readRest_69 : decode cX6_readRest 69 = .ok (.aload_n 0, 1) := by decide +kernel
theorem dX6_readRest_70 : decode cX6_readRest 70 = .ok (.invokevirtual 176, 3) := by decide +kernel
theorem dX6_readRest_73 : decode cX6_readRest 73 = .ok (.ifCond .eq 15, 3) := by decide +kernel
theorem dX6_readRest_76 : decode cX6_readRest 76 = .ok (.aload_n 0, 1) := by decide +kernel
theorem dX6_readRest_77 : decode cX6_readRest 77 = .ok (.iconst 3, 1) := by decide +kernel
theorem dX6_readRest_78 : decode cX6_readRest 78 = .ok (.invokevirtual 173, 3) := by decide +kernel
theorem dX6_readRest_81 : decode cX6_readRest 81 = .ok (.ifCond .eq 7, 3) := by decide +kernel
theorem dX6_readRest_84 : decode cX6_readRest 84 = .ok (.iconst 1, 1) := by decide +kernel
theorem dX6_readRest_85 : decode cX6_readRest 85 = .ok (.goto 4, 3) := by decide +kernel
theorem dX6_readRest_88 : decode cX6_readRest 88 = .ok (.iconst 0, 1) := by decide +kernel
theorem dX6_readRest_89 : decode cX6_readRest 89 = .ok (.ireturn, 1) := by decide +kernel
theorem dX6_readRest_90 : decode cX6_readRest 90 = .ok (.aload_n 0, 1) := by decide +kernel
theorem dX6_readRest_91 : decode cX6_readRest 91 = .ok (.invokevirtual 179, 3) := by decide +kernel
theorem dX6_readRest_94 : decode cX6_readRest 94 = .ok (.ifCond .eq 15, 3) := by decide +kernel
theorem dX6_readRest_97 : decode cX6_readRest 97 = .ok (.aload_n 0, 1) := by decide +kernel
theorem dX6_readRest_98 : decode cX6_readRest 98 = .ok (.iconst 4, 1) := by decide +kernel
theorem dX6_readRest_99 : decode cX6_readRest 99 = .ok (.invokevirtual 173, 3) := by decide +kernel
theorem dX6_readRest_102 : decode cX6_readRest 102 = .ok (.ifCond .eq 7, 3) := by decide +kernel
theorem dX6_readRest_105 : decode cX6_readRest 105 = .ok (.iconst 1, 1) := by decide +kernel
theorem dX6_readRest_106 : decode cX6_readRest 106 = .ok (.goto 4, 3) := by decide +kernel
theorem dX6_readRest_109 : decode cX6_readRest 109 = .ok (.iconst 0, 1) := by decide +kernel
theorem dX6_readRest_110 : decode cX6_readRest 110 = .ok (.ireturn, 1) := by decide +kernel
theorem dX6_readRest_111 : decode cX6_readRest 111 = .ok (.aload_n 0, 1) := by decide +kernel
theorem dX6_readRest_112 : decode cX6_readRest 112 = .ok (.invokevirtual 182, 3) := by decide +kernel
theorem dX6_readRest_115 : decode cX6_readRest 115 = .ok (.ifCond .eq 15, 3) := by decide +kernel
theorem dX6_readRest_118 : decode cX6_readRest 118 = .ok (.aload_n 0, 1) := by decide +kernel
theorem dX6_readRest_119 : decode cX6_readRest 119 = .ok (.iconst 5, 1) := by decide +kernel
theorem dX6_readRest_120 : decode cX6_readRest 120 = .ok (.invokevirtual 173, 3) := by decide +kernel
theorem dX6_readRest_123 : decode cX6_readRest 123 = .ok (.ifCond .eq 7, 3) := by decide +kernel
theorem dX6_readRest_126 : decode cX6_readRest 126 = .ok (.iconst 1, 1) := by decide +kernel
theorem dX6_readRest_127 : decode cX6_readRest 127 = .ok (.goto 4, 3) := by decide +kernel
theorem dX6_readRest_130 : decode cX6_readRest 130 = .ok (.iconst 0, 1) := by decide +kernel
theorem dX6_readRest_131 : decode cX6_readRest 131 = .ok (.ireturn, 1) := by decide +kernel
theorem dX6_readRest_132 : decode cX6_readRest 132 = .ok (.aload_n 0, 1) := by decide +kernel
theorem dX6_readRest_133 : decode cX6_readRest 133 = .ok (.iconst 3, 1) := by decide +kernel
theorem dX6_readRest_134 : decode cX6_readRest 134 = .ok (.aload_n 0, 1) := by decide +kernel
theorem dX6_readRest_135 : decode cX6_readRest 135 = .ok (.getfield 22, 3) := by decide +kernel
theorem dX6_readRest_138 : decode cX6_readRest 138 = .ok (.getfield 185, 3) := by decide +kernel
theorem dX6_readRest_141 : decode cX6_readRest 141 = .ok (.invokevirtual 188, 3) := by decide +kernel
theorem dX6_readRest_144 : decode cX6_readRest 144 = .ok (.ifCond .eq 16, 3) := by decide +kernel
theorem dX6_readRest_147 : decode cX6_readRest 147 = .ok (.aload_n 0, 1) := by decide +kernel
theorem dX6_readRest_148 : decode cX6_readRest 148 = .ok (.bipush 6, 2) := by decide +kernel
theorem dX6_readRest_150 : decode cX6_readRest 150 = .ok (.invokevirtual 173, 3) := by decide +kernel
theorem dX6_readRest_153 : decode cX6_readRest 153 = .ok (.ifCond .eq 7, 3) := by decide +kernel
theorem dX6_readRest_156 : decode cX6_readRest 156 = .ok (.iconst 1, 1) := by decide +kernel
theorem dX6_readRest_157 : decode cX6_readRest 157 = .ok (.goto 4, 3) := by decide +kernel
theorem dX6_readRest_160 : decode cX6_readRest 160 = .ok (.iconst 0, 1) := by decide +kernel
theorem dX6_readRest_161 : decode cX6_readRest 161 = .ok (.ireturn, 1) := by decide +kernel
theorem dX6_readRest_162 : decode cX6_readRest 162 = .ok (.aload_n 0, 1) := by decide +kernel
theorem dX6_readRest_163 : decode cX6_readRest 163 = .ok (.iconst 5, 1) := by decide +kernel
theorem dX6_readRest_164 : decode cX6_readRest 164 = .ok (.aload_n 0, 1) := by decide +kernel
theorem dX6_readRest_165 : decode cX6_readRest 165 = .ok (.getfield 22, 3) := by decide +kernel
theorem dX6_readRest_168 : decode cX6_readRest 168 = .ok (.getfield 192, 3) := by decide +kernel
theorem dX6_readRest_171 : decode cX6_readRest 171 = .ok (.invokevirtual 188, 3) := by decide +kernel
theorem dX6_readRest_174 : decode cX6_readRest 174 = .ok (.ifCond .eq 16, 3) := by decide +kernel
theorem dX6_readRest_177 : decode cX6_readRest 177 = .ok (.aload_n 0, 1) := by decide +kernel
theorem dX6_readRest_178 : decode cX6_readRest 178 = .ok (.bipush 6, 2) := by decide +kernel
theorem dX6_readRest_180 : decode cX6_readRest 180 = .ok (.invokevirtual 173, 3) := by decide +kernel
theorem dX6_readRest_183 : decode cX6_readRest 183 = .ok (.ifCond .eq 7, 3) := by decide +kernel
theorem dX6_readRest_186 : decode cX6_readRest 186 = .ok (.iconst 1, 1) := by decide +kernel
theorem dX6_readRest_187 : decode cX6_readRest 187 = .ok (.goto 4, 3) := by decide +kernel
theorem dX6_readRest_190 : decode cX6_readRest 190 = .ok (.iconst 0, 1) := by decide +kernel
theorem dX6_readRest_191 : decode cX6_readRest 191 = .ok (.ireturn, 1) := by decide +kernel
theorem dX6_readRest_192 : decode cX6_readRest 192 = .ok (.aload_n 0, 1) := by decide +kernel
theorem dX6_readRest_193 : decode cX6_readRest 193 = .ok (.invokevirtual 195, 3) := by decide +kernel
theorem dX6_readRest_196 : decode cX6_readRest 196 = .ok (.ifCond .eq 16, 3) := by decide +kernel
theorem dX6_readRest_199 : decode cX6_readRest 199 = .ok (.aload_n 0, 1) := by decide +kernel
theorem dX6_readRest_200 : decode cX6_readRest 200 = .ok (.bipush 7, 2) := by decide +kernel
theorem dX6_readRest_202 : decode cX6_readRest 202 = .ok (.invokevirtual 173, 3) := by decide +kernel
theorem dX6_readRest_205 : decode cX6_readRest 205 = .ok (.ifCond .eq 7, 3) := by decide +kernel
theorem dX6_readRest_208 : decode cX6_readRest 208 = .ok (.iconst 1, 1) := by decide +kernel
theorem dX6_readRest_209 : decode cX6_readRest 209 = .ok (.goto 4, 3) := by decide +kernel
theorem dX6_readRest_212 : decode cX6_readRest 212 = .ok (.iconst 0, 1) := by decide +kernel
theorem dX6_readRest_213 : decode cX6_readRest 213 = .ok (.ireturn, 1) := by decide +kernel
theorem dX6_readRest_214 : decode cX6_readRest 214 = .ok (.aload_n 0, 1) := by decide +kernel
theorem dX6_readRest_215 : decode cX6_readRest 215 = .ok (.invokevirtual 198, 3) := by decide +kernel
theorem dX6_readRest_218 : decode cX6_readRest 218 = .ok (.ifCond .eq 16, 3) := by decide +kernel
theorem dX6_readRest_221 : decode cX6_readRest 221 = .ok (.aload_n 0, 1) := by decide +kernel
theorem dX6_readRest_222 : decode cX6_readRest 222 = .ok (.bipush 8, 2) := by decide +kernel
theorem dX6_readRest_224 : decode cX6_readRest 224 = .ok (.invokevirtual 173, 3) := by decide +kernel
theorem dX6_readRest_227 : decode cX6_readRest 227 = .ok (.ifCond .eq 7, 3) := by decide +kernel
theorem dX6_readRest_230 : decode cX6_readRest 230 = .ok (.iconst 1, 1) := by decide +kernel
theorem dX6_readRest_231 : decode cX6_readRest 231 = .ok (.goto 4, 3) := by decide +kernel
theorem dX6_readRest_234 : decode cX6_readRest 234 = .ok (.iconst 0, 1) := by decide +kernel
theorem dX6_readRest_235 : decode cX6_readRest 235 = .ok (.ireturn, 1) := by decide +kernel
theorem dX6_readRest_236 : decode cX6_readRest 236 = .ok (.aload_n 0, 1) := by decide +kernel
theorem dX6_readRest_237 : decode cX6_readRest 237 = .ok (.invokevirtual 201, 3) := by decide +kernel
theorem dX6_readRest_240 : decode cX6_readRest 240 = .ok (.ifCond .eq 16, 3) := by decide +kernel
theorem dX6_readRest_243 : decode cX6_readRest 243 = .ok (.aload_n 0, 1) := by decide +kernel
theorem dX6_readRest_244 : decode cX6_readRest 244 = .ok (.bipush 9, 2) := by decide +kernel
theorem dX6_readRest_246 : decode cX6_readRest 246 = .ok (.invokevirtual 173, 3) := by decide +kernel
theorem dX6_readRest_249 : decode cX6_readRest 249 = .ok (.ifCond .eq 7, 3) := by decide +kernel
theorem dX6_readRest_252 : decode cX6_readRest 252 = .ok (.iconst 1, 1) := by decide +kernel
theorem dX6_readRest_253 : decode cX6_readRest 253 = .ok (.goto 4, 3) := by decide +kernel
theorem dX6_readRest_256 : decode cX6_readRest 256 = .ok (.iconst 0, 1) := by decide +kernel
theorem dX6_readRest_257 : decode cX6_readRest 257 = .ok (.ireturn, 1) := by decide +kernel
theorem dX6_addTo_0 : decode cX6_addTo 0 = .ok (.aload_n 0, 1) := by decide +kernel
theorem dX6_addTo_1 : decode cX6_addTo 1 = .ok (.getfield 22, 3) := by decide +kernel
theorem dX6_addTo_4 : decode cX6_addTo 4 = .ok (.getfield 204, 3) := by decide +kernel
theorem dX6_addTo_7 : decode cX6_addTo 7 = .ok (.iconst 0, 1) := by decide +kernel
theorem dX6_addTo_8 : decode cX6_addTo 8 = .ok (.iload_n 1, 1) := by decide +kernel
theorem dX6_addTo_9 : decode cX6_addTo 9 = .ok (.iconst 1, 1) := by decide +kernel
theorem dX6_addTo_10 : decode cX6_addTo 10 = .ok (.invokevirtual 207, 3) := by decide +kernel
theorem dX6_addTo_13 : decode cX6_addTo 13 = .ok (.iconst 1, 1) := by decide +kernel
theorem dX6_addTo_14 : decode cX6_addTo 14 = .ok (.ireturn, 1) := by decide +kernel
theorem dX6_put_0 : decode cX6_put 0 = .ok (.aload_n 1, 1) := by decide +kernel
theorem dX6_put_1 : decode cX6_put 1 = .ok (.iload_n 2, 1) := by decide +kernel
theorem dX6_put_2 : decode cX6_put 2 = .ok (.iload_n 3, 1) := by decide +kernel
theorem dX6_put_3 : decode cX6_put 3 = .ok (.aload_n 0, 1) := by decide +kernel
theorem dX6_put_4 : decode cX6_put 4 = .ok (.getfield 58, 3) := by decide +kernel
theorem dX6_put_7 : decode cX6_put 7 = .ok (.invokevirtual 130, 3) := by decide +kernel
theorem dX6_put_10 : decode cX6_put 10 = .ok (.iconst 1, 1) := by decide +kernel
theorem dX6_put_11 : decode cX6_put 11 = .ok (.ireturn, 1) := by decide +kernel
theorem dX6_readCollege_0 : decode cX6_readCollege 0 = .ok (.aload_n 0, 1) := by decide +kernel
theorem dX6_readCollege_1 : decode cX6_readCollege 1 = .ok (.ldc 210, 2) := by decide +kernel
theorem dX6_readCollege_3 : decode cX6_readCollege 3 = .ok (.invokevirtual 212, 3) := by decide +kernel
theorem dX6_readCollege_6 : decode cX6_readCollege 6 = .ok (.ifCond .eq 68, 3) := by decide +kernel
theorem dX6_readCollege_9 : decode cX6_readCollege 9 = .ok (.aload_n 0, 1) := by decide +kernel
theorem dX6_readCollege_10 : decode cX6_readCollege 10 = .ok (.iconst 2, 1) := by decide +kernel
theorem dX6_readCollege_11 : decode cX6_readCollege 11 = .ok (.bipush 7, 2) := by decide +kernel
theorem dX6_readCollege_13 : decode cX6_readCollege 13 = .ok (.invokevirtual 216, 3) := by decide +kernel
theorem dX6_readCollege_16 : decode cX6_readCollege 16 = .ok (.ifCond .eq 58, 3) := by decide +kernel
theorem dX6_readCollege_19 : decode cX6_readCollege 19 = .ok (.aload_n 0, 1) := by decide +kernel
theorem dX6_readCollege_20 : decode cX6_readCollege 20 = .ok (.aload_n 0, 1) := by decide +kernel
theorem dX6_readCollege_21 : decode cX6_readCollege 21 = .ok (.getfield 22, 3) := by decide +kernel
theorem dX6_readCollege_24 : decode cX6_readCollege 24 = .ok (.getfield 204, 3) := by decide +kernel
theorem dX6_readCollege_27 : decode cX6_readCollege 27 = .ok (.iconst 0, 1) := by decide +kernel
theorem dX6_readCollege_28 : decode cX6_readCollege 28 = .ok (.iconst 0, 1) := by decide +kernel
theorem dX6_readCollege_29 : decode cX6_readCollege 29 = .ok (.invokevirtual 219, 3) := by decide +kernel
theorem dX6_readCollege_32 : decode cX6_readCollege 32 = .ok (.ifCond .eq 42, 3) := by decide +kernel
theorem dX6_readCollege_35 : decode cX6_readCollege 35 = .ok (.aload_n 0, 1) := by decide +kernel
theorem dX6_readCollege_36 : decode cX6_readCollege 36 = .ok (.ldc 223, 2) := by decide +kernel
theorem dX6_readCollege_38 : decode cX6_readCollege 38 = .ok (.invokevirtual 212, 3) := by decide +kernel
theorem dX6_readCollege_41 : decode cX6_readCollege 41 = .ok (.ifCond .eq 33, 3) := by decide +kernel
theorem dX6_readCollege_44 : decode cX6_readCollege 44 = .ok (.aload_n 0, 1) := by decide +kernel
theorem dX6_readCollege_45 : decode cX6_readCollege 45 = .ok (.iconst 0, 1) := by decide +kernel
theorem dX6_readCollege_46 : decode cX6_readCollege 46 = .ok (.bipush 100, 2) := by decide +kernel
theorem dX6_readCollege_48 : decode cX6_readCollege 48 = .ok (.invokevirtual 216, 3) := by decide +kernel
theorem dX6_readCollege_51 : decode cX6_readCollege 51 = .ok (.ifCond .eq 23, 3) := by decide +kernel
theorem dX6_readCollege_54 : decode cX6_readCollege 54 = .ok (.aload_n 0, 1) := by decide +kernel
theorem dX6_readCollege_55 : decode cX6_readCollege 55 = .ok (.aload_n 0, 1) := by decide +kernel
theorem dX6_readCollege_56 : decode cX6_readCollege 56 = .ok (.getfield 22, 3) := by decide +kernel
theorem dX6_readCollege_59 : decode cX6_readCollege 59 = .ok (.getfield 204, 3) := by decide +kernel
theorem dX6_readCollege_62 : decode cX6_readCollege 62 = .ok (.iconst 0, 1) := by decide +kernel
theorem dX6_readCollege_63 : decode cX6_readCollege 63 = .ok (.iconst 1, 1) := by decide +kernel
theorem dX6_readCollege_64 : decode cX6_readCollege 64 = .ok (.invokevirtual 219, 3) := by decide +kernel
theorem dX6_readCollege_67 : decode cX6_readCollege 67 = .ok (.ifCond .eq 7, 3) := by decide +kernel
theorem dX6_readCollege_70 : decode cX6_readCollege 70 = .ok (.iconst 1, 1) := by decide +kernel
theorem dX6_readCollege_71 : decode cX6_readCollege 71 = .ok (.goto 4, 3) := by decide +kernel
theorem dX6_readCollege_74 : decode cX6_readCollege 74 = .ok (.iconst 0, 1) := by decide +kernel
theorem dX6_readCollege_75 : decode cX6_readCollege 75 = .ok (.ireturn, 1) := by decide +kernel
theorem dX6_readThing_0 : decode cX6_readThing 0 = .ok (.aload_n 0, 1) := by decide +kernel
theorem dX6_readThing_1 : decode cX6_readThing 1 = .ok (.getfield 22, 3) := by decide +kernel
theorem dX6_readThing_4 : decode cX6_readThing 4 = .ok (.iconst 2, 1) := by decide +kernel
theorem dX6_readThing_5 : decode cX6_readThing 5 = .ok (.invokevirtual 98, 3) := by decide +kernel
theorem dX6_readThing_8 : decode cX6_readThing 8 = .ok (.istore_n 1, 1) := by decide +kernel
theorem dX6_readThing_9 : decode cX6_readThing 9 = .ok (.aload_n 0, 1) := by decide +kernel
theorem dX6_readThing_10 : decode cX6_readThing 10 = .ok (.iconst 2, 1) := by decide +kernel
theorem dX6_readThing_11 : decode cX6_readThing 11 = .ok (.invokevirtual 225, 3) := by decide +kernel
theorem dX6_readThing_14 : decode cX6_readThing 14 = .ok (.ifCond .eq 73, 3) := by decide +kernel
theorem dX6_readThing_17 : decode cX6_readThing 17 = .ok (.aload_n 0, 1) := by decide +kernel
theorem dX6_readThing_18 : decode cX6_readThing 18 = .ok (.ldc 228, 2) := by decide +kernel
theorem dX6_readThing_20 : decode cX6_readThing 20 = .ok (.ldc 230, 2) := by decide +kernel
theorem dX6_readThing_22 : decode cX6_readThing 22 = .ok (.ldc 232, 2) := by decide +kernel
theorem dX6_readThing_24 : decode cX6_readThing 24 = .ok (.ldc 234, 2) := by decide +kernel
theorem dX6_readThing_26 : decode cX6_readThing 26 = .ok (.invokevirtual 236, 3) := by decide +kernel
theorem dX6_readThing_29 : decode cX6_readThing 29 = .ok (.ifCond .eq 58, 3) := by decide +kernel
theorem dX6_readThing_32 : decode cX6_readThing 32 = .ok (.aload_n 0, 1) := by decide +kernel
theorem dX6_readThing_33 : decode cX6_readThing 33 = .ok (.aload_n 0, 1) := by decide +kernel
theorem dX6_readThing_34 : decode cX6_readThing 34 = .ok (.getfield 22, 3) := by decide +kernel
theorem dX6_readThing_37 : decode cX6_readThing 37 = .ok (.getfield 240, 3) := by decide +kernel
theorem dX6_readThing_40 : decode cX6_readThing 40 = .ok (.iload_n 1, 1) := by decide +kernel
theorem dX6_readThing_41 : decode cX6_readThing 41 = .ok (.iconst 0, 1) := by decide +kernel
theorem dX6_readThing_42 : decode cX6_readThing 42 = .ok (.invokevirtual 219, 3) := by decide +kernel
theorem dX6_readThing_45 : decode cX6_readThing 45 = .ok (.ifCond .eq 42, 3) := by decide +kernel
theorem dX6_readThing_48 : decode cX6_readThing 48 = .ok (.aload_n 0, 1) := by decide +kernel
theorem dX6_readThing_49 : decode cX6_readThing 49 = .ok (.ldc 243, 2) := by decide +kernel
theorem dX6_readThing_51 : decode cX6_readThing 51 = .ok (.invokevirtual 212, 3) := by decide +kernel
theorem dX6_readThing_54 : decode cX6_readThing 54 = .ok (.ifCond .eq 33, 3) := by decide +kernel
theorem dX6_readThing_57 : decode cX6_readThing 57 = .ok (.aload_n 0, 1) := by decide +kernel
theorem dX6_readThing_58 : decode cX6_readThing 58 = .ok (.iconst 0, 1) := by decide +kernel
theorem dX6_readThing_59 : decode cX6_readThing 59 = .ok (.bipush 50, 2) := by decide +kernel
theorem dX6_readThing_61 : decode cX6_readThing 61 = .ok (.invokevirtual 216, 3) := by decide +kernel
theorem dX6_readThing_64 : decode cX6_readThing 64 = .ok (.ifCond .eq 23, 3) := by decide +kernel
theorem dX6_readThing_67 : decode cX6_readThing 67 = .ok (.aload_n 0, 1) := by decide +kernel
theorem dX6_readThing_68 : decode cX6_readThing 68 = .ok (.aload_n 0, 1) := by decide +kernel
theorem dX6_readThing_69 : decode cX6_readThing 69 = .ok (.getfield 22, 3) := by decide +kernel
theorem dX6_readThing_72 : decode cX6_readThing 72 = .ok (.getfield 240, 3) := by decide +kernel
theorem dX6_readThing_75 : decode cX6_readThing 75 = .ok (.iload_n 1, 1) := by decide +kernel
theorem dX6_readThing_76 : decode cX6_readThing 76 = .ok (.iconst 1, 1) := by decide +kernel
theorem dX6_readThing_77 : decode cX6_readThing 77 = .ok (.invokevirtual 219, 3) := by decide +kernel
theorem dX6_readThing_80 : decode cX6_readThing 80 = .ok (.ifCond .eq 7, 3) := by decide +kernel
theorem dX6_readThing_83 : decode cX6_readThing 83 = .ok (.iconst 1, 1) := by decide +kernel
theorem dX6_readThing_84 : decode cX6_readThing 84 = .ok (.goto 4, 3) := by decide +kernel
theorem dX6_readThing_87 : decode cX6_readThing 87 = .ok (.iconst 0, 1) := by decide +kernel
theorem dX6_readThing_88 : decode cX6_readThing 88 = .ok (.ireturn, 1) := by decide +kernel
theorem dX6_readPerson_0 : decode cX6_readPerson 0 = .ok (.aload_n 0, 1) := by decide +kernel
theorem dX6_readPerson_1 : decode cX6_readPerson 1 = .ok (.getfield 22, 3) := by decide +kernel
theorem dX6_readPerson_4 : decode cX6_readPerson 4 = .ok (.iconst 3, 1) := by decide +kernel
theorem dX6_readPerson_5 : decode cX6_readPerson 5 = .ok (.invokevirtual 98, 3) := by decide +kernel
theorem dX6_readPerson_8 : decode cX6_readPerson 8 = .ok (.istore_n 1, 1) := by decide +kernel
theorem dX6_readPerson_9 : decode cX6_readPerson 9 = .ok (.aload_n 0, 1) := by decide +kernel
theorem dX6_readPerson_10 : decode cX6_readPerson 10 = .ok (.iconst 3, 1) := by decide +kernel
theorem dX6_readPerson_11 : decode cX6_readPerson 11 = .ok (.invokevirtual 225, 3) := by decide +kernel
theorem dX6_readPerson_14 : decode cX6_readPerson 14 = .ok (.ifCond .eq 110, 3) := by decide +kernel
theorem dX6_readPerson_17 : decode cX6_readPerson 17 = .ok (.aload_n 0, 1) := by decide +kernel
theorem dX6_readPerson_18 : decode cX6_readPerson 18 = .ok (.ldc 245, 2) := by decide +kernel
theorem dX6_readPerson_20 : decode cX6_readPerson 20 = .ok (.ldc 247, 2) := by decide +kernel
theorem dX6_readPerson_22 : decode cX6_readPerson 22 = .ok (.ldc 249, 2) := by decide +kernel
theorem dX6_readPerson_24 : decode cX6_readPerson 24 = .ok (.ldc 251, 2) := by decide +kernel
theorem dX6_readPerson_26 : decode cX6_readPerson 26 = .ok (.invokevirtual 236, 3) := by decide +kernel
theorem dX6_readPerson_29 : decode cX6_readPerson 29 = .ok (.ifCond .eq 95, 3) := by decide +kernel
theorem dX6_readPerson_32 : decode cX6_readPerson 32 = .ok (.aload_n 0, 1) := by decide +kernel
theorem dX6_readPerson_33 : decode cX6_readPerson 33 = .ok (.aload_n 0, 1) := by decide +kernel
theorem dX6_readPerson_34 : decode cX6_readPerson 34 = .ok (.getfield 22, 3) := by decide +kernel
theorem dX6_readPerson_37 : decode cX6_readPerson 37 = .ok (.getfield 253, 3) := by decide +kernel
theorem dX6_readPerson_40 : decode cX6_readPerson 40 = .ok (.iload_n 1, 1) := by decide +kernel
theorem dX6_readPerson_41 : decode cX6_readPerson 41 = .ok (.iconst 0, 1) := by decide +kernel
theorem dX6_readPerson_42 : decode cX6_readPerson 42 = .ok (.invokevirtual 219, 3) := by decide +kernel
theorem dX6_readPerson_45 : decode cX6_readPerson 45 = .ok (.ifCond .eq 79, 3) := by decide +kernel
theorem dX6_readPerson_48 : decode cX6_readPerson 48 = .ok (.aload_n 0, 1) := by decide +kernel
theorem dX6_readPerson_49 : decode cX6_readPerson 49 = .ok (.ldc_w 256, 3) := by decide +kernel
theorem dX6_readPerson_52 : decode cX6_readPerson 52 = .ok (.invokevirtual 212, 3) := by decide +kernel
theorem dX6_readPerson_55 : decode cX6_readPerson 55 = .ok (.ifCond .eq 69, 3) := by decide +kernel
theorem dX6_readPerson_58 : decode cX6_readPerson 58 = .ok (.aload_n 0, 1) := by decide +kernel
theorem dX6_readPerson_59 : decode cX6_readPerson 59 = .ok (.iconst 0, 1) := by decide +kernel
theorem dX6_readPerson_60 : decode cX6_readPerson 60 = .ok (.bipush 9, 2) := by decide +kernel
theorem dX6_readPerson_62 : decode cX6_readPerson 62 = .ok (.invokevirtual 216, 3) := by decide +kernel
theorem dX6_readPerson_65 : decode cX6_readPerson 65 = .ok (.ifCond .eq 59, 3) := by decide +kernel
theorem dX6_readPerson_68 : decode cX6_readPerson 68 = .ok (.aload_n 0, 1) := by decide +kernel
theorem dX6_readPerson_69 : decode cX6_readPerson 69 = .ok (.aload_n 0, 1) := by decide +kernel
theorem dX6_readPerson_70 : decode cX6_readPerson 70 = .ok (.getfield 22, 3) := by decide +kernel
theorem dX6_readPerson_73 : decode cX6_readPerson 73 = .ok (.getfield 253, 3) := by decide +kernel
theorem dX6_readPerson_76 : decode cX6_readPerson 76 = .ok (.iload_n 1, 1) := by decide +kernel
theorem dX6_readPerson_77 : decode cX6_readPerson 77 = .ok (.iconst 1, 1) := by decide +kernel
theorem dX6_readPerson_78 : decode cX6_readPerson 78 = .ok (.invokevirtual 219, 3) := by decide +kernel
theorem dX6_readPerson_81 : decode cX6_readPerson 81 = .ok (.ifCond .eq 43, 3) := by decide +kernel
theorem dX6_readPerson_84 : decode cX6_readPerson 84 = .ok (.aload_n 0, 1) := by decide +kernel
theorem dX6_readPerson_85 : decode cX6_readPerson 85 = .ok (.ldc_w 258, 3) := by decide +kernel
theorem dX6_readPerson_88 : decode cX6_readPerson 88 = .ok (.invokevirtual 212, 3) := by decide +kernel
theorem dX6_readPerson_91 : decode cX6_readPerson 91 = .ok (.ifCond .eq 33, 3) := by decide +kernel
theorem dX6_readPerson_94 : decode cX6_readPerson 94 = .ok (.aload_n 0, 1) := by decide +kernel
theorem dX6_readPerson_95 : decode cX6_readPerson 95 = .ok (.iconst 0, 1) := by decide +kernel
theorem dX6_readPerson_96 : decode cX6_readPerson 96 = .ok (.bipush 99, 2) := by decide +kernel
theorem dX6_readPerson_98 : decode cX6_readPerson 98 = .ok (.invokevirtual 216, 3) := by decide +kernel
theorem dX6_readPerson_101 : decode cX6_readPerson 101 = .ok (.ifCond .eq 23, 3) := by decide +kernel
theorem dX6_readPerson_104 : decode cX6_readPerson 104 = .ok (.aload_n 0, 1) := by decide +kernel
theorem dX6_readPerson_105 : decode cX6_readPerson 105 = .ok (.aload_n 0, 1) := by decide +kernel
theorem dX6_readPerson_106 : decode cX6_readPerson 106 = .ok (.getfield 22, 3) := by decide +kernel
theorem dX6_readPerson_109 : decode cX6_readPerson 109 = .ok (.getfield 253, 3) := by decide +kernel
theorem dX6_readPerson_112 : decode cX6_readPerson 112 = .ok (.iload_n 1, 1) := by decide +kernel
theorem dX6_readPerson_113 : decode cX6_readPerson 113 = .ok (.iconst 2, 1) := by decide +kernel
theorem dX6_readPerson_114 : decode cX6_readPerson 114 = .ok (.invokevirtual 219, 3) := by decide +kernel
theorem dX6_readPerson_117 : decode cX6_readPerson 117 = .ok (.ifCond .eq 7, 3) := by decide +kernel
theorem dX6_readPerson_120 : decode cX6_readPerson 120 = .ok (.iconst 1, 1) := by decide +kernel
theorem dX6_readPerson_121 : decode cX6_readPerson 121 = .ok (.goto 4, 3) := by decide +kernel
theorem dX6_readPerson_124 : decode cX6_readPerson 124 = .ok (.iconst 0, 1) := by decide +kernel
theorem dX6_readPerson_125 : decode cX6_readPerson 125 = .ok (.ireturn, 1) := by decide +kernel
theorem dX6_readTram_0 : decode cX6_readTram 0 = .ok (.aload_n 0, 1) := by decide +kernel
theorem dX6_readTram_1 : decode cX6_readTram 1 = .ok (.getfield 22, 3) := by decide +kernel
theorem dX6_readTram_4 : decode cX6_readTram 4 = .ok (.iconst 4, 1) := by decide +kernel
theorem dX6_readTram_5 : decode cX6_readTram 5 = .ok (.invokevirtual 98, 3) := by decide +kernel
theorem dX6_readTram_8 : decode cX6_readTram 8 = .ok (.istore_n 1, 1) := by decide +kernel
theorem dX6_readTram_9 : decode cX6_readTram 9 = .ok (.aload_n 0, 1) := by decide +kernel
theorem dX6_readTram_10 : decode cX6_readTram 10 = .ok (.iconst 4, 1) := by decide +kernel
theorem dX6_readTram_11 : decode cX6_readTram 11 = .ok (.invokevirtual 225, 3) := by decide +kernel
theorem dX6_readTram_14 : decode cX6_readTram 14 = .ok (.ifCond .eq 79, 3) := by decide +kernel
theorem dX6_readTram_17 : decode cX6_readTram 17 = .ok (.aload_n 0, 1) := by decide +kernel
theorem dX6_readTram_18 : decode cX6_readTram 18 = .ok (.ldc_w 260, 3) := by decide +kernel
