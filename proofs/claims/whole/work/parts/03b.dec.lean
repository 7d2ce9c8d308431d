theorem dX6_readTram_21 : decode cX6_readTram 21 = .ok (.invokevirtual 212, 3) := by decide +kernel
theorem dX6_readTram_24 : decode cX6_readTram 24 = .ok (.ifCond .eq 69, 3) := by decide +kernel
theorem dX6_readTram_27 : decode cX6_readTram 27 = .ok (.aload_n 0, 1) := by decide +kernel
theorem dX6_readTram_28 : decode cX6_readTram 28 = .ok (.iconst 0, 1) := by decide +kernel
theorem dX6_readTram_29 : decode cX6_readTram 29 = .ok (.bipush 60, 2) := by decide +kernel
theorem dX6_readTram_31 : decode cX6_readTram 31 = .ok (.invokevirtual 216, 3) := by decide +kernel
theorem dX6_readTram_34 : decode cX6_readTram 34 = .ok (.ifCond .eq 59, 3) := by decide +kernel
theorem dX6_readTram_37 : decode cX6_readTram 37 = .ok (.aload_n 0, 1) := by decide +kernel
theorem dX6_readTram_38 : decode cX6_readTram 38 = .ok (.aload_n 0, 1) := by decide +kernel
theorem dX6_readTram_39 : decode cX6_readTram 39 = .ok (.getfield 22, 3) := by decide +kernel
theorem dX6_readTram_42 : decode cX6_readTram 42 = .ok (.getfield 262, 3) := by decide +kernel
theorem dX6_readTram_45 : decode cX6_readTram 45 = .ok (.iload_n 1, 1) := by decide +kernel
theorem dX6_readTram_46 : decode cX6_readTram 46 = .ok (.iconst 0, 1) := by decide +kernel
theorem dX6_readTram_47 : decode cX6_readTram 47 = .ok (.invokevirtual 219, 3) := by decide +kernel
theorem dX6_readTram_50 : decode cX6_readTram 50 = .ok (.ifCond .eq 43, 3) := by decide +kernel
theorem dX6_readTram_53 : decode cX6_readTram 53 = .ok (.aload_n 0, 1) := by decide +kernel
theorem dX6_readTram_54 : decode cX6_readTram 54 = .ok (.ldc_w 265, 3) := by decide +kernel
theorem dX6_readTram_57 : decode cX6_readTram 57 = .ok (.invokevirtual 212, 3) := by decide +kernel
theorem dX6_readTram_60 : decode cX6_readTram 60 = .ok (.ifCond .eq 33, 3) := by decide +kernel
theorem dX6_readTram_63 : decode cX6_readTram 63 = .ok (.aload_n 0, 1) := by decide +kernel
theorem dX6_readTram_64 : decode cX6_readTram 64 = .ok (.iconst 1, 1) := by decide +kernel
theorem dX6_readTram_65 : decode cX6_readTram 65 = .ok (.bipush 60, 2) := by decide +kernel
theorem dX6_readTram_67 : decode cX6_readTram 67 = .ok (.invokevirtual 216, 3) := by decide +kernel
theorem dX6_readTram_70 : decode cX6_readTram 70 = .ok (.ifCond .eq 23, 3) := by decide +kernel
theorem dX6_readTram_73 : decode cX6_readTram 73 = .ok (.aload_n 0, 1) := by decide +kernel
theorem dX6_readTram_74 : decode cX6_readTram 74 = .ok (.aload_n 0, 1) := by decide +kernel
theorem dX6_readTram_75 : decode cX6_readTram 75 = .ok (.getfield 22, 3) := by decide +kernel
theorem dX6_readTram_78 : decode cX6_readTram 78 = .ok (.getfield 262, 3) := by decide +kernel
theorem dX6_readTram_81 : decode cX6_readTram 81 = .ok (.iload_n 1, 1) := by decide +kernel
theorem dX6_readTram_82 : decode cX6_readTram 82 = .ok (.iconst 1, 1) := by decide +kernel
theorem dX6_readTram_83 : decode cX6_readTram 83 = .ok (.invokevirtual 219, 3) := by decide +kernel
theorem dX6_readTram_86 : decode cX6_readTram 86 = .ok (.ifCond .eq 7, 3) := by decide +kernel
theorem dX6_readTram_89 : decode cX6_readTram 89 = .ok (.iconst 1, 1) := by decide +kernel
theorem dX6_readTram_90 : decode cX6_readTram 90 = .ok (.goto 4, 3) := by decide +kernel
theorem dX6_readTram_93 : decode cX6_readTram 93 = .ok (.iconst 0, 1) := by decide +kernel
theorem dX6_readTram_94 : decode cX6_readTram 94 = .ok (.ireturn, 1) := by decide +kernel
theorem dX6_readGiver_0 : decode cX6_readGiver 0 = .ok (.aload_n 0, 1) := by decide +kernel
theorem dX6_readGiver_1 : decode cX6_readGiver 1 = .ok (.getfield 22, 3) := by decide +kernel
theorem dX6_readGiver_4 : decode cX6_readGiver 4 = .ok (.iconst 5, 1) := by decide +kernel
theorem dX6_readGiver_5 : decode cX6_readGiver 5 = .ok (.invokevirtual 98, 3) := by decide +kernel
theorem dX6_readGiver_8 : decode cX6_readGiver 8 = .ok (.istore_n 1, 1) := by decide +kernel
theorem dX6_readGiver_9 : decode cX6_readGiver 9 = .ok (.aload_n 0, 1) := by decide +kernel
theorem dX6_readGiver_10 : decode cX6_readGiver 10 = .ok (.iconst 5, 1) := by decide +kernel
theorem dX6_readGiver_11 : decode cX6_readGiver 11 = .ok (.invokevirtual 225, 3) := by decide +kernel
theorem dX6_readGiver_14 : decode cX6_readGiver 14 = .ok (.ifCond .eq 43, 3) := by decide +kernel
theorem dX6_readGiver_17 : decode cX6_readGiver 17 = .ok (.aload_n 0, 1) := by decide +kernel
theorem dX6_readGiver_18 : decode cX6_readGiver 18 = .ok (.ldc_w 267, 3) := by decide +kernel
theorem dX6_readGiver_21 : decode cX6_readGiver 21 = .ok (.invokevirtual 212, 3) := by decide +kernel
theorem dX6_readGiver_24 : decode cX6_readGiver 24 = .ok (.ifCond .eq 33, 3) := by decide +kernel
theorem dX6_readGiver_27 : decode cX6_readGiver 27 = .ok (.aload_n 0, 1) := by decide +kernel
theorem dX6_readGiver_28 : decode cX6_readGiver 28 = .ok (.iconst 0, 1) := by decide +kernel
theorem dX6_readGiver_29 : decode cX6_readGiver 29 = .ok (.bipush 60, 2) := by decide +kernel
theorem dX6_readGiver_31 : decode cX6_readGiver 31 = .ok (.invokevirtual 216, 3) := by decide +kernel
theorem dX6_readGiver_34 : decode cX6_readGiver 34 = .ok (.ifCond .eq 23, 3) := by decide +kernel
theorem dX6_readGiver_37 : decode cX6_readGiver 37 = .ok (.aload_n 0, 1) := by decide +kernel
theorem dX6_readGiver_38 : decode cX6_readGiver 38 = .ok (.aload_n 0, 1) := by decide +kernel
theorem dX6_readGiver_39 : decode cX6_readGiver 39 = .ok (.getfield 22, 3) := by decide +kernel
theorem dX6_readGiver_42 : decode cX6_readGiver 42 = .ok (.getfield 269, 3) := by decide +kernel
theorem dX6_readGiver_45 : decode cX6_readGiver 45 = .ok (.iload_n 1, 1) := by decide +kernel
theorem dX6_readGiver_46 : decode cX6_readGiver 46 = .ok (.iconst 0, 1) := by decide +kernel
theorem dX6_readGiver_47 : decode cX6_readGiver 47 = .ok (.invokevirtual 219, 3) := by decide +kernel
theorem dX6_readGiver_50 : decode cX6_readGiver 50 = .ok (.ifCond .eq 7, 3) := by decide +kernel
theorem dX6_readGiver_53 : decode cX6_readGiver 53 = .ok (.iconst 1, 1) := by decide +kernel
theorem dX6_readGiver_54 : decode cX6_readGiver 54 = .ok (.goto 4, 3) := by decide +kernel
theorem dX6_readGiver_57 : decode cX6_readGiver 57 = .ok (.iconst 0, 1) := by decide +kernel
theorem dX6_readGiver_58 : decode cX6_readGiver 58 = .ok (.ireturn, 1) := by decide +kernel
theorem dX6_readJourney_0 : decode cX6_readJourney 0 = .ok (.aload_n 0, 1) := by decide +kernel
theorem dX6_readJourney_1 : decode cX6_readJourney 1 = .ok (.iload_n 1, 1) := by decide +kernel
theorem dX6_readJourney_2 : decode cX6_readJourney 2 = .ok (.invokevirtual 272, 3) := by decide +kernel
theorem dX6_readJourney_5 : decode cX6_readJourney 5 = .ok (.ifCond .ne 5, 3) := by decide +kernel
theorem dX6_readJourney_8 : decode cX6_readJourney 8 = .ok (.iconst 0, 1) := by decide +kernel
theorem dX6_readJourney_9 : decode cX6_readJourney 9 = .ok (.ireturn, 1) := by decide +kernel
theorem dX6_readJourney_10 : decode cX6_readJourney 10 = .ok (.aload_n 0, 1) := by decide +kernel
theorem dX6_readJourney_11 : decode cX6_readJourney 11 = .ok (.getfield 58, 3) := by decide +kernel
theorem dX6_readJourney_14 : decode cX6_readJourney 14 = .ok (.istore_n 3, 1) := by decide +kernel
theorem dX6_readJourney_15 : decode cX6_readJourney 15 = .ok (.aload_n 0, 1) := by decide +kernel
theorem dX6_readJourney_16 : decode cX6_readJourney 16 = .ok (.iconst 4, 1) := by decide +kernel
theorem dX6_readJourney_17 : decode cX6_readJourney 17 = .ok (.invokevirtual 272, 3) := by decide +kernel
theorem dX6_readJourney_20 : decode cX6_readJourney 20 = .ok (.ifCond .ne 5, 3) := by decide +kernel
theorem dX6_readJourney_23 : decode cX6_readJourney 23 = .ok (.iconst 0, 1) := by decide +kernel
theorem dX6_readJourney_24 : decode cX6_readJourney 24 = .ok (.ireturn, 1) := by decide +kernel
theorem dX6_readJourney_25 : decode cX6_readJourney 25 = .ok (.aload_n 0, 1) := by decide +kernel
theorem dX6_readJourney_26 : decode cX6_readJourney 26 = .ok (.getfield 58, 3) := by decide +kernel
theorem dX6_readJourney_29 : decode cX6_readJourney 29 = .ok (.istore 4, 2) := by decide +kernel
theorem dX6_readJourney_31 : decode cX6_readJourney 31 = .ok (.aload_n 0, 1) := by decide +kernel
theorem dX6_readJourney_32 : decode cX6_readJourney 32 = .ok (.iconst 0, 1) := by decide +kernel
theorem dX6_readJourney_33 : decode cX6_readJourney 33 = .ok (.aload_n 0, 1) := by decide +kernel
theorem dX6_readJourney_34 : decode cX6_readJourney 34 = .ok (.getfield 22, 3) := by decide +kernel
theorem dX6_readJourney_37 : decode cX6_readJourney 37 = .ok (.iconst 0, 1) := by decide +kernel
theorem dX6_readJourney_38 : decode cX6_readJourney 38 = .ok (.invokevirtual 98, 3) := by decide +kernel
theorem dX6_readJourney_41 : decode cX6_readJourney 41 = .ok (.iconst 1, 1) := by decide +kernel
theorem dX6_readJourney_42 : decode cX6_readJourney 42 = .ok (.isub, 1) := by decide +kernel
theorem dX6_readJourney_43 : decode cX6_readJourney 43 = .ok (.invokevirtual 216, 3) := by decide +kernel
theorem dX6_readJourney_46 : decode cX6_readJourney 46 = .ok (.ifCond .ne 5, 3) := by decide +kernel
theorem dX6_readJourney_49 : decode cX6_readJourney 49 = .ok (.iconst 0, 1) := by decide +kernel
theorem dX6_readJourney_50 : decode cX6_readJourney 50 = .ok (.ireturn, 1) := by decide +kernel
theorem dX6_readJourney_51 : decode cX6_readJourney 51 = .ok (.aload_n 2, 1) := by decide +kernel
theorem dX6_readJourney_52 : decode cX6_readJourney 52 = .ok (.iload_n 3, 1) := by decide +kernel
theorem dX6_readJourney_53 : decode cX6_readJourney 53 = .ok (.aload_n 0, 1) := by decide +kernel
theorem dX6_readJourney_54 : decode cX6_readJourney 54 = .ok (.getfield 58, 3) := by decide +kernel
theorem dX6_readJourney_57 : decode cX6_readJourney 57 = .ok (.invokevirtual 134, 3) := by decide +kernel
theorem dX6_readJourney_60 : decode cX6_readJourney 60 = .ok (.ifCond .lt 13, 3) := by decide +kernel
theorem dX6_readJourney_63 : decode cX6_readJourney 63 = .ok (.aload_n 0, 1) := by decide +kernel
theorem dX6_readJourney_64 : decode cX6_readJourney 64 = .ok (.iconst 3, 1) := by decide +kernel
theorem dX6_readJourney_65 : decode cX6_readJourney 65 = .ok (.aload_n 0, 1) := by decide +kernel
theorem dX6_readJourney_66 : decode cX6_readJourney 66 = .ok (.getfield 61, 3) := by decide +kernel
theorem dX6_readJourney_69 : decode cX6_readJourney 69 = .ok (.invokevirtual 81, 3) := by decide +kernel
theorem dX6_readJourney_72 : decode cX6_readJourney 72 = .ok (.ireturn, 1) := by decide +kernel
theorem dX6_readJourney_73 : decode cX6_readJourney 73 = .ok (.aload_n 2, 1) := by decide +kernel
theorem dX6_readJourney_74 : decode cX6_readJourney 74 = .ok (.iload_n 3, 1) := by decide +kernel
theorem dX6_readJourney_75 : decode cX6_readJourney 75 = .ok (.aload_n 0, 1) := by decide +kernel
theorem dX6_readJourney_76 : decode cX6_readJourney 76 = .ok (.getfield 58, 3) := by decide +kernel
theorem dX6_readJourney_79 : decode cX6_readJourney 79 = .ok (.iload 4, 2) := by decide +kernel
theorem dX6_readJourney_81 : decode cX6_readJourney 81 = .ok (.invokevirtual 130, 3) := by decide +kernel
theorem dX6_readJourney_84 : decode cX6_readJourney 84 = .ok (.iconst 1, 1) := by decide +kernel
theorem dX6_readJourney_85 : decode cX6_readJourney 85 = .ok (.ireturn, 1) := by decide +kernel
theorem dX6_readGift_0 : decode cX6_readGift 0 = .ok (.aload_n 0, 1) := by decide +kernel
theorem dX6_readGift_1 : decode cX6_readGift 1 = .ok (.getfield 22, 3) := by decide +kernel
theorem dX6_readGift_4 : decode cX6_readGift 4 = .ok (.bipush 7, 2) := by decide +kernel
theorem dX6_readGift_6 : decode cX6_readGift 6 = .ok (.invokevirtual 98, 3) := by decide +kernel
theorem dX6_readGift_9 : decode cX6_readGift 9 = .ok (.istore_n 1, 1) := by decide +kernel
theorem dX6_readGift_10 : decode cX6_readGift 10 = .ok (.aload_n 0, 1) := by decide +kernel
theorem dX6_readGift_11 : decode cX6_readGift 11 = .ok (.iconst 5, 1) := by decide +kernel
theorem dX6_readGift_12 : decode cX6_readGift 12 = .ok (.invokevirtual 272, 3) := by decide +kernel
theorem dX6_readGift_15 : decode cX6_readGift 15 = .ok (.ifCond .eq 105, 3) := by decide +kernel
theorem dX6_readGift_18 : decode cX6_readGift 18 = .ok (.aload_n 0, 1) := by decide +kernel
theorem dX6_readGift_19 : decode cX6_readGift 19 = .ok (.aload_n 0, 1) := by decide +kernel
theorem dX6_readGift_20 : decode cX6_readGift 20 = .ok (.getfield 22, 3) := by decide +kernel
theorem dX6_readGift_23 : decode cX6_readGift 23 = .ok (.getfield 275, 3) := by decide +kernel
theorem dX6_readGift_26 : decode cX6_readGift 26 = .ok (.iload_n 1, 1) := by decide +kernel
theorem dX6_readGift_27 : decode cX6_readGift 27 = .ok (.iconst 0, 1) := by decide +kernel
theorem dX6_readGift_28 : decode cX6_readGift 28 = .ok (.invokevirtual 219, 3) := by decide +kernel
theorem dX6_readGift_31 : decode cX6_readGift 31 = .ok (.ifCond .eq 89, 3) := by decide +kernel
theorem dX6_readGift_34 : decode cX6_readGift 34 = .ok (.aload_n 0, 1) := by decide +kernel
theorem dX6_readGift_35 : decode cX6_readGift 35 = .ok (.iconst 2, 1) := by decide +kernel
theorem dX6_readGift_36 : decode cX6_readGift 36 = .ok (.invokevirtual 272, 3) := by decide +kernel
theorem dX6_readGift_39 : decode cX6_readGift 39 = .ok (.ifCond .eq 81, 3) := by decide +kernel
theorem dX6_readGift_42 : decode cX6_readGift 42 = .ok (.aload_n 0, 1) := by decide +kernel
theorem dX6_readGift_43 : decode cX6_readGift 43 = .ok (.aload_n 0, 1) := by decide +kernel
theorem dX6_readGift_44 : decode cX6_readGift 44 = .ok (.getfield 22, 3) := by decide +kernel
theorem dX6_readGift_47 : decode cX6_readGift 47 = .ok (.getfield 275, 3) := by decide +kernel
theorem dX6_readGift_50 : decode cX6_readGift 50 = .ok (.iload_n 1, 1) := by decide +kernel
theorem dX6_readGift_51 : decode cX6_readGift 51 = .ok (.iconst 1, 1) := by decide +kernel
theorem dX6_readGift_52 : decode cX6_readGift 52 = .ok (.invokevirtual 219, 3) := by decide +kernel
theorem dX6_readGift_55 : decode cX6_readGift 55 = .ok (.ifCond .eq 65, 3) := by decide +kernel
theorem dX6_readGift_58 : decode cX6_readGift 58 = .ok (.aload_n 0, 1) := by decide +kernel
theorem dX6_readGift_59 : decode cX6_readGift 59 = .ok (.iconst 3, 1) := by decide +kernel
theorem dX6_readGift_60 : decode cX6_readGift 60 = .ok (.invokevirtual 272, 3) := by decide +kernel
theorem dX6_readGift_63 : decode cX6_readGift 63 = .ok (.ifCond .eq 57, 3) := by decide +kernel
theorem dX6_readGift_66 : decode cX6_readGift 66 = .ok (.aload_n 0, 1) := by decide +kernel
theorem dX6_readGift_67 : decode cX6_readGift 67 = .ok (.aload_n 0, 1) := by decide +kernel
theorem dX6_readGift_68 : decode cX6_readGift 68 = .ok (.getfield 22, 3) := by decide +kernel
theorem dX6_readGift_71 : decode cX6_readGift 71 = .ok (.getfield 275, 3) := by decide +kernel
theorem dX6_readGift_74 : decode cX6_readGift 74 = .ok (.iload_n 1, 1) := by decide +kernel
theorem dX6_readGift_75 : decode cX6_readGift 75 = .ok (.iconst 2, 1) := by decide +kernel
theorem dX6_readGift_76 : decode cX6_readGift 76 = .ok (.invokevirtual 219, 3) := by decide +kernel
theorem dX6_readGift_79 : decode cX6_readGift 79 = .ok (.ifCond .eq 41, 3) := by decide +kernel
theorem dX6_readGift_82 : decode cX6_readGift 82 = .ok (.aload_n 0, 1) := by decide +kernel
theorem dX6_readGift_83 : decode cX6_readGift 83 = .ok (.iconst 0, 1) := by decide +kernel
theorem dX6_readGift_84 : decode cX6_readGift 84 = .ok (.aload_n 0, 1) := by decide +kernel
theorem dX6_readGift_85 : decode cX6_readGift 85 = .ok (.getfield 22, 3) := by decide +kernel
theorem dX6_readGift_88 : decode cX6_readGift 88 = .ok (.iconst 0, 1) := by decide +kernel
theorem dX6_readGift_89 : decode cX6_readGift 89 = .ok (.invokevirtual 98, 3) := by decide +kernel
theorem dX6_readGift_92 : decode cX6_readGift 92 = .ok (.iconst 1, 1) := by decide +kernel
theorem dX6_readGift_93 : decode cX6_readGift 93 = .ok (.isub, 1) := by decide +kernel
theorem dX6_readGift_94 : decode cX6_readGift 94 = .ok (.invokevirtual 216, 3) := by decide +kernel
theorem dX6_readGift_97 : decode cX6_readGift 97 = .ok (.ifCond .eq 23, 3) := by decide +kernel
theorem dX6_readGift_100 : decode cX6_readGift 100 = .ok (.aload_n 0, 1) := by decide +kernel
theorem dX6_readGift_101 : decode cX6_readGift 101 = .ok (.aload_n 0, 1) := by decide +kernel
theorem dX6_readGift_102 : decode cX6_readGift 102 = .ok (.getfield 22, 3) := by decide +kernel
theorem dX6_readGift_105 : decode cX6_readGift 105 = .ok (.getfield 275, 3) := by decide +kernel
theorem dX6_readGift_108 : decode cX6_readGift 108 = .ok (.iload_n 1, 1) := by decide +kernel
theorem dX6_readGift_109 : decode cX6_readGift 109 = .ok (.iconst 3, 1) := by decide +kernel
theorem dX6_readGift_110 : decode cX6_readGift 110 = .ok (.invokevirtual 219, 3) := by decide +kernel
theorem dX6_readGift_113 : decode cX6_readGift 113 = .ok (.ifCond .eq 7, 3) := by decide +kernel
theorem dX6_readGift_116 : decode cX6_readGift 116 = .ok (.iconst 1, 1) := by decide +kernel
theorem dX6_readGift_117 : decode cX6_readGift 117 = .ok (.goto 4, 3) := by decide +kernel
theorem dX6_readGift_120 : decode cX6_readGift 120 = .ok (.iconst 0, 1) := by decide +kernel
theorem dX6_readGift_121 : decode cX6_readGift 121 = .ok (.ireturn, 1) := by decide +kernel
theorem dX6_readFound_0 : decode cX6_readFound 0 = .ok (.aload_n 0, 1) := by decide +kernel
theorem dX6_readFound_1 : decode cX6_readFound 1 = .ok (.getfield 22, 3) := by decide +kernel
theorem dX6_readFound_4 : decode cX6_readFound 4 = .ok (.bipush 8, 2) := by decide +kernel
theorem dX6_readFound_6 : decode cX6_readFound 6 = .ok (.invokevirtual 98, 3) := by decide +kernel
theorem dX6_readFound_9 : decode cX6_readFound 9 = .ok (.istore_n 1, 1) := by decide +kernel
theorem dX6_readFound_10 : decode cX6_readFound 10 = .ok (.aload_n 0, 1) := by decide +kernel
theorem dX6_readFound_11 : decode cX6_readFound 11 = .ok (.iconst 2, 1) := by decide +kernel
theorem dX6_readFound_12 : decode cX6_readFound 12 = .ok (.invokevirtual 272, 3) := by decide +kernel
theorem dX6_readFound_15 : decode cX6_readFound 15 = .ok (.ifCond .ne 5, 3) := by decide +kernel
theorem dX6_readFound_18 : decode cX6_readFound 18 = .ok (.iconst 0, 1) := by decide +kernel
theorem dX6_readFound_19 : decode cX6_readFound 19 = .ok (.ireturn, 1) := by decide +kernel
theorem dX6_readFound_20 : decode cX6_readFound 20 = .ok (.aload_n 0, 1) := by decide +kernel
theorem dX6_readFound_21 : decode cX6_readFound 21 = .ok (.getfield 22, 3) := by decide +kernel
theorem dX6_readFound_24 : decode cX6_readFound 24 = .ok (.aload_n 0, 1) := by decide +kernel
theorem dX6_readFound_25 : decode cX6_readFound 25 = .ok (.getfield 58, 3) := by decide +kernel
theorem dX6_readFound_28 : decode cX6_readFound 28 = .ok (.invokevirtual 278, 3) := by decide +kernel
theorem dX6_readFound_31 : decode cX6_readFound 31 = .ok (.ifCond .eq 13, 3) := by decide +kernel
theorem dX6_readFound_34 : decode cX6_readFound 34 = .ok (.aload_n 0, 1) := by decide +kernel
theorem dX6_readFound_35 : decode cX6_readFound 35 = .ok (.iconst 3, 1) := by decide +kernel
theorem dX6_readFound_36 : decode cX6_readFound 36 = .ok (.aload_n 0, 1) := by decide +kernel
theorem dX6_readFound_37 : decode cX6_readFound 37 = .ok (.getfield 61, 3) := by decide +kernel
theorem dX6_readFound_40 : decode cX6_readFound 40 = .ok (.invokevirtual 81, 3) := by decide +kernel
theorem dX6_readFound_43 : decode cX6_readFound 43 = .ok (.ireturn, 1) := by decide +kernel
theorem dX6_readFound_44 : decode cX6_readFound 44 = .ok (.aload_n 0, 1) := by decide +kernel
theorem dX6_readFound_45 : decode cX6_readFound 45 = .ok (.aload_n 0, 1) := by decide +kernel
theorem dX6_readFound_46 : decode cX6_readFound 46 = .ok (.getfield 22, 3) := by decide +kernel
theorem dX6_readFound_49 : decode cX6_readFound 49 = .ok (.getfield 281, 3) := by decide +kernel
theorem dX6_readFound_52 : decode cX6_readFound 52 = .ok (.iload_n 1, 1) := by decide +kernel
theorem dX6_readFound_53 : decode cX6_readFound 53 = .ok (.iconst 0, 1) := by decide +kernel
theorem dX6_readFound_54 : decode cX6_readFound 54 = .ok (.invokevirtual 219, 3) := by decide +kernel
theorem dX6_readFound_57 : decode cX6_readFound 57 = .ok (.ifCond .eq 31, 3) := by decide +kernel
theorem dX6_readFound_60 : decode cX6_readFound 60 = .ok (.aload_n 0, 1) := by decide +kernel
theorem dX6_readFound_61 : decode cX6_readFound 61 = .ok (.iconst 3, 1) := by decide +kernel
theorem dX6_readFound_62 : decode cX6_readFound 62 = .ok (.invokevirtual 272, 3) := by decide +kernel
theorem dX6_readFound_65 : decode cX6_readFound 65 = .ok (.ifCond .eq 23, 3) := by decide +kernel
theorem dX6_readFound_68 : decode cX6_readFound 68 = .ok (.aload_n 0, 1) := by decide +kernel
theorem dX6_readFound_69 : decode cX6_readFound 69 = .ok (.aload_n 0, 1) := by decide +kernel
theorem dX6_readFound_70 : decode cX6_readFound 70 = .ok (.getfield 22, 3) := by decide +kernel
theorem dX6_readFound_73 : decode cX6_readFound 73 = .ok (.getfield 281, 3) := by decide +kernel
theorem dX6_readFound_76 : decode cX6_readFound 76 = .ok (.iload_n 1, 1) := by decide +kernel
theorem dX6_readFound_77 : decode cX6_readFound 77 = .ok (.iconst 1, 1) := by decide +kernel
theorem dX6_readFound_78 : decode cX6_readFound 78 = .ok (.invokevirtual 219, 3) := by decide +kernel
theorem dX6_readFound_81 : decode cX6_readFound 81 = .ok (.ifCond .eq 7, 3) := by decide +kernel
theorem dX6_readFound_84 : decode cX6_readFound 84 = .ok (.iconst 1, 1) := by decide +kernel
theorem dX6_readFound_85 : decode cX6_readFound 85 = .ok (.goto 4, 3) := by decide +kernel
theorem dX6_readFound_88 : decode cX6_readFound 88 = .ok (.iconst 0, 1) := by decide +kernel
theorem dX6_readFound_89 : decode cX6_readFound 89 = .ok (.ireturn, 1) := by decide +kernel
theorem dX6_readExam_0 : decode cX6_readExam 0 = .ok (.aload_n 0, 1) := by decide +kernel
theorem dX6_readExam_1 : decode cX6_readExam 1 = .ok (.getfield 22, 3) := by decide +kernel
theorem dX6_readExam_4 : decode cX6_readExam 4 = .ok (.bipush 9, 2) := by decide +kernel
theorem dX6_readExam_6 : decode cX6_readExam 6 = .ok (.invokevirtual 98, 3) := by decide +kernel
theorem dX6_readExam_9 : decode cX6_readExam 9 = .ok (.istore_n 1, 1) := by decide +kernel
theorem dX6_readExam_10 : decode cX6_readExam 10 = .ok (.aload_n 0, 1) := by decide +kernel
theorem dX6_readExam_11 : decode cX6_readExam 11 = .ok (.iconst 5, 1) := by decide +kernel
theorem dX6_readExam_12 : decode cX6_readExam 12 = .ok (.invokevirtual 272, 3) := by decide +kernel
theorem dX6_readExam_15 : decode cX6_readExam 15 = .ok (.ifCond .eq 128, 3) := by decide +kernel
theorem dX6_readExam_18 : decode cX6_readExam 18 = .ok (.aload_n 0, 1) := by decide +kernel
theorem dX6_readExam_19 : decode cX6_readExam 19 = .ok (.aload_n 0, 1) := by decide +kernel
theorem dX6_readExam_20 : decode cX6_readExam 20 = .ok (.getfield 22, 3) := by decide +kernel
theorem dX6_readExam_23 : decode cX6_readExam 23 = .ok (.getfield 284, 3) := by decide +kernel
theorem dX6_readExam_26 : decode cX6_readExam 26 = .ok (.iload_n 1, 1) := by decide +kernel
theorem dX6_readExam_27 : decode cX6_readExam 27 = .ok (.iconst 0, 1) := by decide +kernel
theorem dX6_readExam_28 : decode cX6_readExam 28 = .ok (.invokevirtual 219, 3) := by decide +kernel
theorem dX6_readExam_31 : decode cX6_readExam 31 = .ok (.ifCond .eq 112, 3) := by decide +kernel
theorem dX6_readExam_34 : decode cX6_readExam 34 = .ok (.aload_n 0, 1) := by decide +kernel
theorem dX6_readExam_35 : decode cX6_readExam 35 = .ok (.iconst 2, 1) := by decide +kernel
theorem dX6_readExam_36 : decode cX6_readExam 36 = .ok (.invokevirtual 272, 3) := by decide +kernel
theorem dX6_readExam_39 : decode cX6_readExam 39 = .ok (.ifCond .eq 104, 3) := by decide +kernel
theorem dX6_readExam_42 : decode cX6_readExam 42 = .ok (.aload_n 0, 1) := by decide +kernel
theorem dX6_readExam_43 : decode cX6_readExam 43 = .ok (.aload_n 0, 1) := by decide +kernel
theorem dX6_readExam_44 : decode cX6_readExam 44 = .ok (.getfield 22, 3) := by decide +kernel
theorem dX6_readExam_47 : decode cX6_readExam 47 = .ok (.getfield 284, 3) := by decide +kernel
theorem dX6_readExam_50 : decode cX6_readExam 50 = .ok (.iload_n 1, 1) := by decide +kernel
theorem dX6_readExam_51 : decode cX6_readExam 51 = .ok (.iconst 1, 1) := by decide +kernel
theorem dX6_readExam_52 : decode cX6_readExam 52 = .ok (.invokevirtual 219, 3) := by decide +kernel
theorem dX6_readExam_55 : decode cX6_readExam 55 = .ok (.ifCond .eq 88, 3) := by decide +kernel
theorem dX6_readExam_58 : decode cX6_readExam 58 = .ok (.aload_n 0, 1) := by decide +kernel
theorem dX6_readExam_59 : decode cX6_readExam 59 = .ok (.iconst 3, 1) := by decide +kernel
theorem dX6_readExam_60 : decode cX6_readExam 60 = .ok (.invokevirtual 272, 3) := by decide +kernel
theorem dX6_readExam_63 : decode cX6_readExam 63 = .ok (.ifCond .eq 80, 3) := by decide +kernel
theorem dX6_readExam_66 : decode cX6_readExam 66 = .ok (.aload_n 0, 1) := by decide +kernel
theorem dX6_readExam_67 : decode cX6_readExam 67 = .ok (.aload_n 0, 1) := by decide +kernel
theorem dX6_readExam_68 : decode cX6_readExam 68 = .ok (.getfield 22, 3) := by decide +kernel
theorem dX6_readExam_71 : decode cX6_readExam 71 = .ok (.getfield 284, 3) := by decide +kernel
theorem dX6_readExam_74 : decode cX6_readExam 74 = .ok (.iload_n 1, 1) := by decide +kernel
theorem dX6_readExam_75 : decode cX6_readExam 75 = .ok (.iconst 2, 1) := by decide +kernel
theorem dX6_readExam_76 : decode cX6_readExam 76 = .ok (.invokevirtual 219, 3) := by decide +kernel
theorem dX6_readExam_79 : decode cX6_readExam 79 = .ok (.ifCond .eq 64, 3) := by decide +kernel
theorem dX6_readExam_82 : decode cX6_readExam 82 = .ok (.aload_n 0, 1) := by decide +kernel
theorem dX6_readExam_83 : decode cX6_readExam 83 = .ok (.iconst 4, 1) := by decide +kernel
theorem dX6_readExam_84 : decode cX6_readExam 84 = .ok (.invokevirtual 272, 3) := by decide +kernel
theorem dX6_readExam_87 : decode cX6_readExam 87 = .ok (.ifCond .eq 56, 3) := by decide +kernel
theorem dX6_readExam_90 : decode cX6_readExam 90 = .ok (.aload_n 0, 1) := by decide +kernel
theorem dX6_readExam_91 : decode cX6_readExam 91 = .ok (.aload_n 0, 1) := by decide +kernel
theorem dX6_readExam_92 : decode cX6_readExam 92 = .ok (.getfield 22, 3) := by decide +kernel
theorem dX6_readExam_95 : decode cX6_readExam 95 = .ok (.getfield 284, 3) := by decide +kernel
theorem dX6_readExam_98 : decode cX6_readExam 98 = .ok (.iload_n 1, 1) := by decide +kernel
theorem dX6_readExam_99 : decode cX6_readExam 99 = .ok (.iconst 3, 1) := by decide +kernel
theorem dX6_readExam_100 : decode cX6_readExam 100 = .ok (.invokevirtual 219, 3) := by decide +kernel
theorem dX6_readExam_103 : decode cX6_readExam 103 = .ok (.ifCond .eq 40, 3) := by decide +kernel
theorem dX6_readExam_106 : decode cX6_readExam 106 = .ok (.aload_n 0, 1) := by decide +kernel
theorem dX6_readExam_107 : decode cX6_readExam 107 = .ok (.ldc_w 287, 3) := by decide +kernel
theorem dX6_readExam_110 : decode cX6_readExam 110 = .ok (.ldc_w 289, 3) := by decide +kernel
theorem dX6_readExam_113 : decode cX6_readExam 113 = .ok (.ldc 234, 2) := by decide +kernel
theorem dX6_readExam_115 : decode cX6_readExam 115 = .ok (.ldc 234, 2) := by decide +kernel
theorem dX6_readExam_117 : decode cX6_readExam 117 = .ok (.invokevirtual 236, 3) := by decide +kernel
theorem dX6_readExam_120 : decode cX6_readExam 120 = .ok (.ifCond .eq 23, 3) := by decide +kernel
theorem dX6_readExam_123 : decode cX6_readExam 123 = .ok (.aload_n 0, 1) := by decide +kernel
theorem dX6_readExam_124 : decode cX6_readExam 124 = .ok (.aload_n 0, 1) := by decide +kernel
theorem dX6_readExam_125 : decode cX6_readExam 125 = .ok (.getfield 22, 3) := by decide +kernel
theorem dX6_readExam_128 : decode cX6_readExam 128 = .ok (.getfield 284, 3) := by decide +kernel
theorem dX6_readExam_131 : decode cX6_readExam 131 = .ok (.iload_n 1, 1) := by decide +kernel
theorem dX6_readExam_132 : decode cX6_readExam 132 = .ok (.iconst 4, 1) := by decide +kernel
theorem dX6_readExam_133 : decode cX6_readExam 133 = .ok (.invokevirtual 219, 3) := by decide +kernel
theorem dX6_readExam_136 : decode cX6_readExam 136 = .ok (.ifCond .eq 7, 3) := by decide +kernel
theorem dX6_readExam_139 : decode cX6_readExam 139 = .ok (.iconst 1, 1) := by decide +kernel
theorem dX6_readExam_140 : decode cX6_readExam 140 = .ok (.goto 4, 3) := by decide +kernel
theorem dX6_readExam_143 : decode cX6_readExam 143 = .ok (.iconst 0, 1) := by decide +kernel
theorem dX6_readExam_144 : decode cX6_readExam 144 = .ok (.ireturn, 1) := by decide +kernel
theorem dX7_init_0 : decode cX7_init 0 = .ok (.aload_n 0, 1) := by decide +kernel
theorem dX7_init_1 : decode cX7_init 1 = .ok (.invokespecial 5, 3) := by decide +kernel
theorem dX7_init_4 : decode cX7_init 4 = .ok (.aload_n 0, 1) := by decide +kernel
theorem dX7_init_5 : decode cX7_init 5 = .ok (.new 11, 3) := by decide +kernel
theorem dX7_init_8 : decode cX7_init 8 = .ok (.dup, 1) := by decide +kernel
theorem dX7_init_9 : decode cX7_init 9 = .ok (.iconst 1, 1) := by decide +kernel
theorem dX7_init_10 : decode cX7_init 10 = .ok (.bipush 16, 2) := by decide +kernel
theorem dX7_init_12 : decode cX7_init 12 = .ok (.invokespecial 13, 3) := by decide +kernel
theorem dX7_init_15 : decode cX7_init 15 = .ok (.putfield 16, 3) := by decide +kernel
theorem dX7_init_18 : decode cX7_init 18 = .ok (.aload_n 0, 1) := by decide +kernel
theorem dX7_init_19 : decode cX7_init 19 = .ok (.invokevirtual 20, 3) := by decide +kernel
theorem dX7_init_22 : decode cX7_init 22 = .ok (.return_, 1) := by decide +kernel
theorem dX7_begin_0 : decode cX7_begin 0 = .ok (.aload_n 0, 1) := by decide +kernel
theorem dX7_begin_1 : decode cX7_begin 1 = .ok (.getfield 16, 3) := by decide +kernel
theorem dX7_begin_4 : decode cX7_begin 4 = .ok (.iconst 0, 1) := by decide +kernel
theorem dX7_begin_5 : decode cX7_begin 5 = .ok (.invokevirtual 23, 3) := by decide +kernel
theorem dX7_begin_8 : decode cX7_begin 8 = .ok (.iconst 0, 1) := by decide +kernel
theorem dX7_begin_9 : decode cX7_begin 9 = .ok (.istore_n 1, 1) := by decide +kernel
theorem dX7_begin_10 : decode cX7_begin 10 = .ok (.iload_n 1, 1) := by decide +kernel
theorem dX7_begin_11 : decode cX7_begin 11 = .ok (.iconst 4, 1) := by decide +kernel
theorem dX7_begin_12 : decode cX7_begin 12 = .ok (.if_icmp .ge 22, 3) := by decide +kernel
theorem dX7_begin_15 : decode cX7_begin 15 = .ok (.aload_n 0, 1) := by decide +kernel
theorem dX7_begin_16 : decode cX7_begin 16 = .ok (.getfield 16, 3) := by decide +kernel
theorem dX7_begin_19 : decode cX7_begin 19 = .ok (.iconst 0, 1) := by decide +kernel
theorem dX7_begin_20 : decode cX7_begin 20 = .ok (.iconst 0, 1) := by decide +kernel
theorem dX7_begin_21 : decode cX7_begin 21 = .ok (.iload_n 1, 1) := by decide +kernel
theorem dX7_begin_22 : decode cX7_begin 22 = .ok (.iadd, 1) := by decide +kernel
theorem dX7_begin_23 : decode cX7_begin 23 = .ok (.bipush (-2), 2) := by decide +kernel
theorem dX7_begin_25 : decode cX7_begin 25 = .ok (.invokevirtual 27, 3) := by decide +kernel
theorem dX7_begin_28 : decode cX7_begin 28 = .ok (.iinc 1 1, 3) := by decide +kernel
theorem dX7_begin_31 : decode cX7_begin 31 = .ok (.goto (-21), 3) := by decide +kernel
theorem dX7_begin_34 : decode cX7_begin 34 = .ok (.return_, 1) := by decide +kernel
theorem dX7_saveTo_0 : decode cX7_saveTo 0 = .ok (.aload_n 1, 1) := by decide +kernel
theorem dX7_saveTo_1 : decode cX7_saveTo 1 = .ok (.iload_n 2, 1) := by decide +kernel
theorem dX7_saveTo_2 : decode cX7_saveTo 2 = .ok (.aload_n 0, 1) := by decide +kernel
theorem dX7_saveTo_3 : decode cX7_saveTo 3 = .ok (.getfield 16, 3) := by decide +kernel
theorem dX7_saveTo_6 : decode cX7_saveTo 6 = .ok (.iconst 0, 1) := by decide +kernel
theorem dX7_saveTo_7 : decode cX7_saveTo 7 = .ok (.invokevirtual 31, 3) := by decide +kernel
theorem dX7_saveTo_10 : decode cX7_saveTo 10 = .ok (.return_, 1) := by decide +kernel
theorem dX7_loadFrom_0 : decode cX7_loadFrom 0 = .ok (.aload_n 0, 1) := by decide +kernel
theorem dX7_loadFrom_1 : decode cX7_loadFrom 1 = .ok (.getfield 16, 3) := by decide +kernel
theorem dX7_loadFrom_4 : decode cX7_loadFrom 4 = .ok (.iconst 0, 1) := by decide +kernel
theorem dX7_loadFrom_5 : decode cX7_loadFrom 5 = .ok (.aload_n 1, 1) := by decide +kernel
theorem dX7_loadFrom_6 : decode cX7_loadFrom 6 = .ok (.iload_n 2, 1) := by decide +kernel
theorem dX7_loadFrom_7 : decode cX7_loadFrom 7 = .ok (.invokevirtual 31, 3) := by decide +kernel
theorem dX7_loadFrom_10 : decode cX7_loadFrom 10 = .ok (.return_, 1) := by decide +kernel
theorem dX7_today_0 : decode cX7_today 0 = .ok (.aload_n 0, 1) := by decide +kernel
theorem dX7_today_1 : decode cX7_today 1 = .ok (.getfield 16, 3) := by decide +kernel
theorem dX7_today_4 : decode cX7_today 4 = .ok (.iconst 0, 1) := by decide +kernel
theorem dX7_today_5 : decode cX7_today 5 = .ok (.bipush 15, 2) := by decide +kernel
theorem dX7_today_7 : decode cX7_today 7 = .ok (.invokevirtual 35, 3) := by decide +kernel
theorem dX7_today_10 : decode cX7_today 10 = .ok (.ireturn, 1) := by decide +kernel
theorem dX7_holder_0 : decode cX7_holder 0 = .ok (.aload_n 0, 1) := by decide +kernel
theorem dX7_holder_1 : decode cX7_holder 1 = .ok (.getfield 16, 3) := by decide +kernel
theorem dX7_holder_4 : decode cX7_holder 4 = .ok (.iconst 0, 1) := by decide +kernel
theorem dX7_holder_5 : decode cX7_holder 5 = .ok (.iconst 0, 1) := by decide +kernel
theorem dX7_holder_6 : decode cX7_holder 6 = .ok (.iload_n 1, 1) := by decide +kernel
theorem dX7_holder_7 : decode cX7_holder 7 = .ok (.iadd, 1) := by decide +kernel
theorem dX7_holder_8 : decode cX7_holder 8 = .ok (.invokevirtual 35, 3) := by decide +kernel
theorem dX7_holder_11 : decode cX7_holder 11 = .ok (.ireturn, 1) := by decide +kernel
theorem dX7_scoreOf_0 : decode cX7_scoreOf 0 = .ok (.aload_n 0, 1) := by decide +kernel
theorem dX7_scoreOf_1 : decode cX7_scoreOf 1 = .ok (.getfield 16, 3) := by decide +kernel
theorem dX7_scoreOf_4 : decode cX7_scoreOf 4 = .ok (.iconst 0, 1) := by decide +kernel
theorem dX7_scoreOf_5 : decode cX7_scoreOf 5 = .ok (.bipush 9, 2) := by decide +kernel
theorem dX7_scoreOf_7 : decode cX7_scoreOf 7 = .ok (.iload_n 1, 1) := by decide +kernel
theorem dX7_scoreOf_8 : decode cX7_scoreOf 8 = .ok (.iadd, 1) := by decide +kernel
theorem dX7_scoreOf_9 : decode cX7_scoreOf 9 = .ok (.invokevirtual 35, 3) := by decide +kernel
theorem dX7_scoreOf_12 : decode cX7_scoreOf 12 = .ok (.ireturn, 1) := by decide +kernel
theorem dX7_timesCaught_0 : decode cX7_timesCaught 0 = .ok (.aload_n 0, 1) := by decide +kernel
theorem dX7_timesCaught_1 : decode cX7_timesCaught 1 = .ok (.getfield 16, 3) := by decide +kernel
theorem dX7_timesCaught_4 : decode cX7_timesCaught 4 = .ok (.iconst 0, 1) := by decide +kernel
theorem dX7_timesCaught_5 : decode cX7_timesCaught 5 = .ok (.bipush 12, 2) := by decide +kernel
theorem dX7_timesCaught_7 : decode cX7_timesCaught 7 = .ok (.iload_n 1, 1) := by decide +kernel
theorem dX7_timesCaught_8 : decode cX7_timesCaught 8 = .ok (.iadd, 1) := by decide +kernel
theorem dX7_timesCaught_9 : decode cX7_timesCaught 9 = .ok (.invokevirtual 35, 3) := by decide +kernel
theorem dX7_timesCaught_12 : decode cX7_timesCaught 12 = .ok (.ireturn, 1) := by decide +kernel
theorem dX7_roomOf_0 : decode cX7_roomOf 0 = .ok (.aload_n 1, 1) := by decide +kernel
theorem dX7_roomOf_1 : decode cX7_roomOf 1 = .ok (.iload_n 2, 1) := by decide +kernel
theorem dX7_roomOf_2 : decode cX7_roomOf 2 = .ok (.invokevirtual 39, 3) := by decide +kernel
theorem dX7_roomOf_5 : decode cX7_roomOf 5 = .ok (.aload_n 0, 1) := by decide +kernel
theorem dX7_roomOf_6 : decode cX7_roomOf 6 = .ok (.getfield 16, 3) := by decide +kernel
theorem dX7_roomOf_9 : decode cX7_roomOf 9 = .ok (.iconst 0, 1) := by decide +kernel
theorem dX7_roomOf_10 : decode cX7_roomOf 10 = .ok (.iconst 4, 1) := by decide +kernel
theorem dX7_roomOf_11 : decode cX7_roomOf 11 = .ok (.iload_n 2, 1) := by decide +kernel
theorem dX7_roomOf_12 : decode cX7_roomOf 12 = .ok (.iadd, 1) := by decide +kernel
theorem dX7_roomOf_13 : decode cX7_roomOf 13 = .ok (.invokevirtual 35, 3) := by decide +kernel
theorem dX7_roomOf_16 : decode cX7_roomOf 16 = .ok (.isub, 1) := by decide +kernel
theorem dX7_roomOf_17 : decode cX7_roomOf 17 = .ok (.ireturn, 1) := by decide +kernel
theorem dX7_thingsOf_0 : decode cX7_thingsOf 0 = .ok (.iconst 0, 1) := by decide +kernel
theorem dX7_thingsOf_1 : decode cX7_thingsOf 1 = .ok (.istore_n 2, 1) := by decide +kernel
theorem dX7_thingsOf_2 : decode cX7_thingsOf 2 = .ok (.iconst 0, 1) := by decide +kernel
theorem dX7_thingsOf_3 : decode cX7_thingsOf 3 = .ok (.istore_n 3, 1) := by decide +kernel
theorem dX7_thingsOf_4 : decode cX7_thingsOf 4 = .ok (.iload_n 3, 1) := by decide +kernel
theorem dX7_thingsOf_5 : decode cX7_thingsOf 5 = .ok (.iconst 4, 1) := by decide +kernel
theorem dX7_thingsOf_6 : decode cX7_thingsOf 6 = .ok (.if_icmp .ge 30, 3) := by decide +kernel
theorem dX7_thingsOf_9 : decode cX7_thingsOf 9 = .ok (.aload_n 0, 1) := by decide +kernel
theorem dX7_thingsOf_10 : decode cX7_thingsOf 10 = .ok (.getfield 16, 3) := by decide +kernel
theorem dX7_thingsOf_13 : decode cX7_thingsOf 13 = .ok (.iconst 0, 1) := by decide +kernel
theorem dX7_thingsOf_14 : decode cX7_thingsOf 14 = .ok (.iconst 0, 1) := by decide +kernel
theorem dX7_thingsOf_15 : decode cX7_thingsOf 15 = .ok (.iload_n 3, 1) := by decide +kernel
theorem dX7_thingsOf_16 : decode cX7_thingsOf 16 = .ok (.iadd, 1) := by decide +kernel
theorem dX7_thingsOf_17 : decode cX7_thingsOf 17 = .ok (.invokevirtual 35, 3) := by decide +kernel
theorem dX7_thingsOf_20 : decode cX7_thingsOf 20 = .ok (.iload_n 1, 1) := by decide +kernel
theorem dX7_thingsOf_21 : decode cX7_thingsOf 21 = .ok (.if_icmp .ne 9, 3) := by decide +kernel
theorem dX7_thingsOf_24 : decode cX7_thingsOf 24 = .ok (.iload_n 2, 1) := by decide +kernel
theorem dX7_thingsOf_25 : decode cX7_thingsOf 25 = .ok (.iconst 1, 1) := by decide +kernel
theorem dX7_thingsOf_26 : decode cX7_thingsOf 26 = .ok (.iload_n 3, 1) := by decide +kernel
theorem dX7_thingsOf_27 : decode cX7_thingsOf 27 = .ok (.ishl, 1) := by decide +kernel
theorem dX7_thingsOf_28 : decode cX7_thingsOf 28 = .ok (.ior, 1) := by decide +kernel
theorem dX7_thingsOf_29 : decode cX7_thingsOf 29 = .ok (.istore_n 2, 1) := by decide +kernel
theorem dX7_thingsOf_30 : decode cX7_thingsOf 30 = .ok (.iinc 3 1, 3) := by decide +kernel
theorem dX7_thingsOf_33 : decode cX7_thingsOf 33 = .ok (.goto (-29), 3) := by decide +kernel
theorem dX7_thingsOf_36 : decode cX7_thingsOf 36 = .ok (.iload_n 2, 1) := by decide +kernel
theorem dX7_thingsOf_37 : decode cX7_thingsOf 37 = .ok (.ireturn, 1) := by decide +kernel
theorem dX7_howManyOf_0 : decode cX7_howManyOf 0 = .ok (.aload_n 0, 1) := by decide +kernel
theorem dX7_howManyOf_1 : decode cX7_howManyOf 1 = .ok (.iload_n 1, 1) := by decide +kernel
theorem dX7_howManyOf_2 : decode cX7_howManyOf 2 = .ok (.invokevirtual 45, 3) := by decide +kernel
theorem dX7_howManyOf_5 : decode cX7_howManyOf 5 = .ok (.invokestatic 48, 3) := by decide +kernel
theorem dX7_howManyOf_8 : decode cX7_howManyOf 8 = .ok (.ireturn, 1) := by decide +kernel
theorem dX7_hindrance_0 : decode cX7_hindrance 0 = .ok (.aload_n 1, 1) := by decide +kernel
theorem dX7_hindrance_1 : decode cX7_hindrance 1 = .ok (.iload_n 3, 1) := by decide +kernel
theorem dX7_hindrance_2 : decode cX7_hindrance 2 = .ok (.iload 5, 2) := by decide +kernel
theorem dX7_hindrance_4 : decode cX7_hindrance 4 = .ok (.iload_n 2, 1) := by decide +kernel
theorem dX7_hindrance_5 : decode cX7_hindrance 5 = .ok (.invokevirtual 53, 3) := by decide +kernel
theorem dX7_hindrance_8 : decode cX7_hindrance 8 = .ok (.ifCond .ge 5, 3) := by decide +kernel
theorem dX7_hindrance_11 : decode cX7_hindrance 11 = .ok (.iconst 2, 1) := by decide +kernel
theorem dX7_hindrance_12 : decode cX7_hindrance 12 = .ok (.ireturn, 1) := by decide +kernel
theorem dX7_hindrance_13 : decode cX7_hindrance 13 = .ok (.aload_n 0, 1) := by decide +kernel
theorem dX7_hindrance_14 : decode cX7_hindrance 14 = .ok (.iload 4, 2) := by decide +kernel
theorem dX7_hindrance_16 : decode cX7_hindrance 16 = .ok (.invokevirtual 57, 3) := by decide +kernel
theorem dX7_hindrance_19 : decode cX7_hindrance 19 = .ok (.ifCond .lt 5, 3) := by decide +kernel
theorem dX7_hindrance_22 : decode cX7_hindrance 22 = .ok (.iconst 3, 1) := by decide +kernel
theorem dX7_hindrance_23 : decode cX7_hindrance 23 = .ok (.ireturn, 1) := by decide +kernel
theorem dX7_hindrance_24 : decode cX7_hindrance 24 = .ok (.aload_n 0, 1) := by decide +kernel
theorem dX7_hindrance_25 : decode cX7_hindrance 25 = .ok (.iload 5, 2) := by decide +kernel
theorem dX7_hindrance_27 : decode cX7_hindrance 27 = .ok (.invokevirtual 60, 3) := by decide +kernel
theorem dX7_hindrance_30 : decode cX7_hindrance 30 = .ok (.aload_n 0, 1) := by decide +kernel
theorem dX7_hindrance_31 : decode cX7_hindrance 31 = .ok (.aload_n 1, 1) := by decide +kernel
theorem dX7_hindrance_32 : decode cX7_hindrance 32 = .ok (.iload 5, 2) := by decide +kernel
theorem dX7_hindrance_34 : decode cX7_hindrance 34 = .ok (.invokevirtual 63, 3) := by decide +kernel
theorem dX7_hindrance_37 : decode cX7_hindrance 37 = .ok (.if_icmp .lt 7, 3) := by decide +kernel
theorem dX7_hindrance_40 : decode cX7_hindrance 40 = .ok (.iconst 4, 1) := by decide +kernel
theorem dX7_hindrance_41 : decode cX7_hindrance 41 = .ok (.goto 4, 3) := by decide +kernel
theorem dX7_hindrance_44 : decode cX7_hindrance 44 = .ok (.iconst 0, 1) := by decide +kernel
theorem dX7_hindrance_45 : decode cX7_hindrance 45 = .ok (.ireturn, 1) := by decide +kernel
theorem dX7_nearOn_0 : decode cX7_nearOn 0 = .ok (.aload_n 1, 1) := by decide +kernel
theorem dX7_nearOn_1 : decode cX7_nearOn 1 = .ok (.iload_n 3, 1) := by decide +kernel
theorem dX7_nearOn_2 : decode cX7_nearOn 2 = .ok (.iload 4, 2) := by decide +kernel
theorem dX7_nearOn_4 : decode cX7_nearOn 4 = .ok (.iload 5, 2) := by decide +kernel
theorem dX7_nearOn_6 : decode cX7_nearOn 6 = .ok (.aload_n 1, 1) := by decide +kernel
theorem dX7_nearOn_7 : decode cX7_nearOn 7 = .ok (.iload_n 3, 1) := by decide +kernel
theorem dX7_nearOn_8 : decode cX7_nearOn 8 = .ok (.iload 5, 2) := by decide +kernel
theorem dX7_nearOn_10 : decode cX7_nearOn 10 = .ok (.iload_n 2, 1) := by decide +kernel
theorem dX7_nearOn_11 : decode cX7_nearOn 11 = .ok (.invokevirtual 53, 3) := by decide +kernel
theorem dX7_nearOn_14 : decode cX7_nearOn 14 = .ok (.aload_n 0, 1) := by decide +kernel
theorem dX7_nearOn_15 : decode cX7_nearOn 15 = .ok (.iload 5, 2) := by decide +kernel
theorem dX7_nearOn_17 : decode cX7_nearOn 17 = .ok (.invokevirtual 60, 3) := by decide +kernel
theorem dX7_nearOn_20 : decode cX7_nearOn 20 = .ok (.invokevirtual 67, 3) := by decide +kernel
theorem dX7_nearOn_23 : decode cX7_nearOn 23 = .ok (.ireturn, 1) := by decide +kernel
theorem dX7_outcome_0 : decode cX7_outcome 0 = .ok (.aload_n 0, 1) := by decide +kernel
theorem dX7_outcome_1 : decode cX7_outcome 1 = .ok (.aload_n 1, 1) := by decide +kernel
theorem dX7_outcome_2 : decode cX7_outcome 2 = .ok (.iload_n 2, 1) := by decide +kernel
theorem dX7_outcome_3 : decode cX7_outcome 3 = .ok (.iload_n 3, 1) := by decide +kernel
theorem dX7_outcome_4 : decode cX7_outcome 4 = .ok (.iload 4, 2) := by decide +kernel
theorem dX7_outcome_6 : decode cX7_outcome 6 = .ok (.iload 5, 2) := by decide +kernel
theorem dX7_outcome_8 : decode cX7_outcome 8 = .ok (.invokevirtual 71, 3) := by decide +kernel
theorem dX7_outcome_11 : decode cX7_outcome 11 = .ok (.istore 6, 2) := by decide +kernel
theorem dX7_outcome_13 : decode cX7_outcome 13 = .ok (.iload 6, 2) := by decide +kernel
theorem dX7_outcome_15 : decode cX7_outcome 15 = .ok (.ifCond .eq 6, 3) := by decide +kernel
theorem dX7_outcome_18 : decode cX7_outcome 18 = .ok (.iload 6, 2) := by decide +kernel
theorem dX7_outcome_20 : decode cX7_outcome 20 = .ok (.ireturn, 1) := by decide +kernel
theorem dX7_outcome_21 : decode cX7_outcome 21 = .ok (.aload_n 1, 1) := by decide +kernel
theorem dX7_outcome_22 : decode cX7_outcome 22 = .ok (.aload_n 0, 1) := by decide +kernel
theorem dX7_outcome_23 : decode cX7_outcome 23 = .ok (.aload_n 1, 1) := by decide +kernel
theorem dX7_outcome_24 : decode cX7_outcome 24 = .ok (.iload_n 2, 1) := by decide +kernel
theorem dX7_outcome_25 : decode cX7_outcome 25 = .ok (.iload_n 3, 1) := by decide +kernel
theorem dX7_outcome_26 : decode cX7_outcome 26 = .ok (.iload 4, 2) := by decide +kernel
theorem dX7_outcome_28 : decode cX7_outcome 28 = .ok (.iload 5, 2) := by decide +kernel
theorem dX7_outcome_30 : decode cX7_outcome 30 = .ok (.invokevirtual 75, 3) := by decide +kernel
theorem dX7_outcome_33 : decode cX7_outcome 33 = .ok (.invokevirtual 78, 3) := by decide +kernel
theorem dX7_outcome_36 : decode cX7_outcome 36 = .ok (.ifCond .eq 7, 3) := by decide +kernel
theorem dX7_outcome_39 : decode cX7_outcome 39 = .ok (.iconst 1, 1) := by decide +kernel
theorem dX7_outcome_40 : decode cX7_outcome 40 = .ok (.goto 4, 3) := by decide +kernel
theorem dX7_outcome_43 : decode cX7_outcome 43 = .ok (.iconst 0, 1) := by decide +kernel
theorem dX7_outcome_44 : decode cX7_outcome 44 = .ok (.ireturn, 1) := by decide +kernel
theorem dX7_settle_0 : decode cX7_settle 0 = .ok (.iload 5, 2) := by decide +kernel
theorem dX7_settle_2 : decode cX7_settle 2 = .ok (.ifCond .ne 36, 3) := by decide +kernel
theorem dX7_settle_5 : decode cX7_settle 5 = .ok (.aload_n 0, 1) := by decide +kernel
theorem dX7_settle_6 : decode cX7_settle 6 = .ok (.getfield 16, 3) := by decide +kernel
theorem dX7_settle_9 : decode cX7_settle 9 = .ok (.iconst 0, 1) := by decide +kernel
theorem dX7_settle_10 : decode cX7_settle 10 = .ok (.iconst 0, 1) := by decide +kernel
theorem dX7_settle_11 : decode cX7_settle 11 = .ok (.iload_n 3, 1) := by decide +kernel
theorem dX7_settle_12 : decode cX7_settle 12 = .ok (.iadd, 1) := by decide +kernel
theorem dX7_settle_13 : decode cX7_settle 13 = .ok (.iload 4, 2) := by decide +kernel
theorem dX7_settle_15 : decode cX7_settle 15 = .ok (.invokevirtual 27, 3) := by decide +kernel
theorem dX7_settle_18 : decode cX7_settle 18 = .ok (.aload_n 0, 1) := by decide +kernel
theorem dX7_settle_19 : decode cX7_settle 19 = .ok (.getfield 16, 3) := by decide +kernel
theorem dX7_settle_22 : decode cX7_settle 22 = .ok (.iconst 0, 1) := by decide +kernel
theorem dX7_settle_23 : decode cX7_settle 23 = .ok (.bipush 9, 2) := by decide +kernel
theorem dX7_settle_25 : decode cX7_settle 25 = .ok (.iload_n 2, 1) := by decide +kernel
theorem dX7_settle_26 : decode cX7_settle 26 = .ok (.iadd, 1) := by decide +kernel
theorem dX7_settle_27 : decode cX7_settle 27 = .ok (.aload_n 1, 1) := by decide +kernel
theorem dX7_settle_28 : decode cX7_settle 28 = .ok (.iload_n 3, 1) := by decide +kernel
theorem dX7_settle_29 : decode cX7_settle 29 = .ok (.invokevirtual 82, 3) := by decide +kernel
theorem dX7_settle_32 : decode cX7_settle 32 = .ok (.invokevirtual 85, 3) := by decide +kernel
theorem dX7_settle_35 : decode cX7_settle 35 = .ok (.goto 35, 3) := by decide +kernel
theorem dX7_settle_38 : decode cX7_settle 38 = .ok (.iload 5, 2) := by decide +kernel
theorem dX7_settle_40 : decode cX7_settle 40 = .ok (.iconst 1, 1) := by decide +kernel
theorem dX7_settle_41 : decode cX7_settle 41 = .ok (.if_icmp .ne 29, 3) := by decide +kernel
theorem dX7_settle_44 : decode cX7_settle 44 = .ok (.aload_n 0, 1) := by decide +kernel
theorem dX7_settle_45 : decode cX7_settle 45 = .ok (.getfield 16, 3) := by decide +kernel
theorem dX7_settle_48 : decode cX7_settle 48 = .ok (.iconst 0, 1) := by decide +kernel
theorem dX7_settle_49 : decode cX7_settle 49 = .ok (.bipush 9, 2) := by decide +kernel
theorem dX7_settle_51 : decode cX7_settle 51 = .ok (.iload_n 2, 1) := by decide +kernel
theorem dX7_settle_52 : decode cX7_settle 52 = .ok (.iadd, 1) := by decide +kernel
theorem dX7_settle_53 : decode cX7_settle 53 = .ok (.iconst 0, 1) := by decide +kernel
theorem dX7_settle_54 : decode cX7_settle 54 = .ok (.invokevirtual 27, 3) := by decide +kernel
theorem dX7_settle_57 : decode cX7_settle 57 = .ok (.aload_n 0, 1) := by decide +kernel
theorem dX7_settle_58 : decode cX7_settle 58 = .ok (.getfield 16, 3) := by decide +kernel
theorem dX7_settle_61 : decode cX7_settle 61 = .ok (.iconst 0, 1) := by decide +kernel
theorem dX7_settle_62 : decode cX7_settle 62 = .ok (.bipush 12, 2) := by decide +kernel
theorem dX7_settle_64 : decode cX7_settle 64 = .ok (.iload_n 2, 1) := by decide +kernel
theorem dX7_settle_65 : decode cX7_settle 65 = .ok (.iadd, 1) := by decide +kernel
theorem dX7_settle_66 : decode cX7_settle 66 = .ok (.iconst 1, 1) := by decide +kernel
theorem dX7_settle_67 : decode cX7_settle 67 = .ok (.invokevirtual 85, 3) := by decide +kernel
theorem dX7_settle_70 : decode cX7_settle 70 = .ok (.return_, 1) := by decide +kernel
theorem dX7_goOn_0 : decode cX7_goOn 0 = .ok (.aload_n 0, 1) := by decide +kernel
theorem dX7_goOn_1 : decode cX7_goOn 1 = .ok (.invokevirtual 88, 3) := by decide +kernel
theorem dX7_goOn_4 : decode cX7_goOn 4 = .ok (.iconst 1, 1) := by decide +kernel
theorem dX7_goOn_5 : decode cX7_goOn 5 = .ok (.iadd, 1) := by decide +kernel
theorem dX7_goOn_6 : decode cX7_goOn 6 = .ok (.istore_n 2, 1) := by decide +kernel
theorem dX7_goOn_7 : decode cX7_goOn 7 = .ok (.aload_n 0, 1) := by decide +kernel
theorem dX7_goOn_8 : decode cX7_goOn 8 = .ok (.getfield 16, 3) := by decide +kernel
theorem dX7_goOn_11 : decode cX7_goOn 11 = .ok (.iconst 0, 1) := by decide +kernel
theorem dX7_goOn_12 : decode cX7_goOn 12 = .ok (.bipush 15, 2) := by decide +kernel
theorem dX7_goOn_14 : decode cX7_goOn 14 = .ok (.iload_n 2, 1) := by decide +kernel
theorem dX7_goOn_15 : decode cX7_goOn 15 = .ok (.iload_n 1, 1) := by decide +kernel
theorem dX7_goOn_16 : decode cX7_goOn 16 = .ok (.if_icmp .ge 7, 3) := by decide +kernel
theorem dX7_goOn_19 : decode cX7_goOn 19 = .ok (.iload_n 2, 1) := by decide +kernel
theorem dX7_goOn_20 : decode cX7_goOn 20 = .ok (.goto 4, 3) := by decide +kernel
theorem dX7_goOn_23 : decode cX7_goOn 23 = .ok (.iconst 0, 1) := by decide +kernel
theorem dX7_goOn_24 : decode cX7_goOn 24 = .ok (.invokevirtual 27, 3) := by decide +kernel
theorem dX7_goOn_27 : decode cX7_goOn 27 = .ok (.return_, 1) := by decide +kernel
theorem dX7_sewUp_0 : decode cX7_sewUp 0 = .ok (.aload_n 0, 1) := by decide +kernel
theorem dX7_sewUp_1 : decode cX7_sewUp 1 = .ok (.getfield 16, 3) := by decide +kernel
theorem dX7_sewUp_4 : decode cX7_sewUp 4 = .ok (.iconst 0, 1) := by decide +kernel
theorem dX7_sewUp_5 : decode cX7_sewUp 5 = .ok (.iconst 4, 1) := by decide +kernel
theorem dX7_sewUp_6 : decode cX7_sewUp 6 = .ok (.iload_n 1, 1) := by decide +kernel
theorem dX7_sewUp_7 : decode cX7_sewUp 7 = .ok (.iadd, 1) := by decide +kernel
theorem dX7_sewUp_8 : decode cX7_sewUp 8 = .ok (.iconst 1, 1) := by decide +kernel
theorem dX7_sewUp_9 : decode cX7_sewUp 9 = .ok (.invokevirtual 85, 3) := by decide +kernel
theorem dX7_sewUp_12 : decode cX7_sewUp 12 = .ok (.return_, 1) := by decide +kernel
theorem dX8_init_0 : decode cX8_init 0 = .ok (.aload_n 0, 1) := by decide +kernel
theorem dX8_init_1 : decode cX8_init 1 = .ok (.invokespecial 1, 3) := by decide +kernel
theorem dX8_init_4 : decode cX8_init 4 = .ok (.aload_n 0, 1) := by decide +kernel
theorem dX8_init_5 : decode cX8_init 5 = .ok (.bipush 100, 2) := by decide +kernel
theorem dX8_init_7 : decode cX8_init 7 = .ok (.iconst 0, 1) := by decide +kernel
theorem dX8_init_8 : decode cX8_init 8 = .ok (.iload_n 1, 1) := by decide +kernel
theorem dX8_init_9 : decode cX8_init 9 = .ok (.invokestatic 9, 3) := by decide +kernel
theorem dX8_init_12 : decode cX8_init 12 = .ok (.invokestatic 15, 3) := by decide +kernel
theorem dX8_init_15 : decode cX8_init 15 = .ok (.putfield 18, 3) := by decide +kernel
theorem dX8_init_18 : decode cX8_init 18 = .ok (.aload_n 0, 1) := by decide +kernel
theorem dX8_init_19 : decode cX8_init 19 = .ok (.bipush 100, 2) := by decide +kernel
theorem dX8_init_21 : decode cX8_init 21 = .ok (.iconst 0, 1) := by decide +kernel
theorem dX8_init_22 : decode cX8_init 22 = .ok (.iload_n 2, 1) := by decide +kernel
theorem dX8_init_23 : decode cX8_init 23 = .ok (.invokestatic 9, 3) := by decide +kernel
theorem dX8_init_26 : decode cX8_init 26 = .ok (.invokestatic 15, 3) := by decide +kernel
theorem dX8_init_29 : decode cX8_init 29 = .ok (.putfield 22, 3) := by decide +kernel
theorem dX8_init_32 : decode cX8_init 32 = .ok (.aload_n 0, 1) := by decide +kernel
theorem dX8_init_33 : decode cX8_init 33 = .ok (.aload_n 0, 1) := by decide +kernel
theorem dX8_init_34 : decode cX8_init 34 = .ok (.getfield 18, 3) := by decide +kernel
theorem dX8_init_37 : decode cX8_init 37 = .ok (.aload_n 0, 1) := by decide +kernel
theorem dX8_init_38 : decode cX8_init 38 = .ok (.getfield 22, 3) := by decide +kernel
theorem dX8_init_41 : decode cX8_init 41 = .ok (.imul, 1) := by decide +kernel
theorem dX8_init_42 : decode cX8_init 42 = .ok (.newarray .int, 2) := by decide +kernel
theorem dX8_init_44 : decode cX8_init 44 = .ok (.putfield 25, 3) := by decide +kernel
theorem dX8_init_47 : decode cX8_init 47 = .ok (.return_, 1) := by decide +kernel
theorem dX8_get_0 : decode cX8_get 0 = .ok (.iload_n 1, 1) := by decide +kernel
theorem dX8_get_1 : decode cX8_get 1 = .ok (.ifCond .lt 23, 3) := by decide +kernel
theorem dX8_get_4 : decode cX8_get 4 = .ok (.iload_n 1, 1) := by decide +kernel
theorem dX8_get_5 : decode cX8_get 5 = .ok (.aload_n 0, 1) := by decide +kernel
theorem dX8_get_6 : decode cX8_get 6 = .ok (.getfield 18, 3) := by decide +kernel
theorem dX8_get_9 : decode cX8_get 9 = .ok (.if_icmp .ge 15, 3) := by decide +kernel
theorem dX8_get_12 : decode cX8_get 12 = .ok (.iload_n 2, 1) := by decide +kernel
theorem dX8_get_13 : decode cX8_get 13 = .ok (.ifCond .lt 11, 3) := by decide +kernel
theorem dX8_get_16 : decode cX8_get 16 = .ok (.iload_n 2, 1) := by decide +kernel
theorem dX8_get_17 : decode cX8_get 17 = .ok (.aload_n 0, 1) := by decide +kernel
theorem dX8_get_18 : decode cX8_get 18 = .ok (.getfield 22, 3) := by decide +kernel
theorem dX8_get_21 : decode cX8_get 21 = .ok (.if_icmp .lt 5, 3) := by decide +kernel
theorem dX8_get_24 : decode cX8_get 24 = .ok (.iconst 0, 1) := by decide +kernel
theorem dX8_get_25 : decode cX8_get 25 = .ok (.ireturn, 1) := by decide +kernel
theorem dX8_get_26 : decode cX8_get 26 = .ok (.iload_n 1, 1) := by decide +kernel
theorem dX8_get_27 : decode cX8_get 27 = .ok (.aload_n 0, 1) := by decide +kernel
theorem dX8_get_28 : decode cX8_get 28 = .ok (.getfield 22, 3) := by decide +kernel
theorem dX8_get_31 : decode cX8_get 31 = .ok (.imul, 1) := by decide +kernel
theorem dX8_get_32 : decode cX8_get 32 = .ok (.iload_n 2, 1) := by decide +kernel
theorem dX8_get_33 : decode cX8_get 33 = .ok (.iadd, 1) := by decide +kernel
theorem dX8_get_34 : decode cX8_get 34 = .ok (.istore_n 3, 1) := by decide +kernel
theorem dX8_get_35 : decode cX8_get 35 = .ok (.iload_n 3, 1) := by decide +kernel
theorem dX8_get_36 : decode cX8_get 36 = .ok (.aload_n 0, 1) := by decide +kernel
theorem dX8_get_37 : decode cX8_get 37 = .ok (.getfield 25, 3) := by decide +kernel
theorem dX8_get_40 : decode cX8_get 40 = .ok (.arraylength, 1) := by decide +kernel
theorem dX8_get_41 : decode cX8_get 41 = .ok (.if_icmp .ge 12, 3) := by decide +kernel
theorem dX8_get_44 : decode cX8_get 44 = .ok (.aload_n 0, 1) := by decide +kernel
theorem dX8_get_45 : decode cX8_get 45 = .ok (.getfield 25, 3) := by decide +kernel
theorem dX8_get_48 : decode cX8_get 48 = .ok (.iload_n 3, 1) := by decide +kernel
theorem dX8_get_49 : decode cX8_get 49 = .ok (.iaload, 1) := by decide +kernel
theorem dX8_get_50 : decode cX8_get 50 = .ok (.goto 4, 3) := by decide +kernel
theorem dX8_get_53 : decode cX8_get 53 = .ok (.iconst 0, 1) := by decide +kernel
theorem dX8_get_54 : decode cX8_get 54 = .ok (.ireturn, 1) := by decide +kernel
theorem dX8_set_0 : decode cX8_set 0 = .ok (.iload_n 1, 1) := by decide +kernel
theorem dX8_set_1 : decode cX8_set 1 = .ok (.ifCond .lt 23, 3) := by decide +kernel
theorem dX8_set_4 : decode cX8_set 4 = .ok (.iload_n 1, 1) := by decide +kernel
theorem dX8_set_5 : decode cX8_set 5 = .ok (.aload_n 0, 1) := by decide +kernel
theorem dX8_set_6 : decode cX8_set 6 = .ok (.getfield 18, 3) := by decide +kernel
theorem dX8_set_9 : decode cX8_set 9 = .ok (.if_icmp .ge 15, 3) := by decide +kernel
theorem dX8_set_12 : decode cX8_set 12 = .ok (.iload_n 2, 1) := by decide +kernel
theorem dX8_set_13 : decode cX8_set 13 = .ok (.ifCond .lt 11, 3) := by decide +kernel
theorem dX8_set_16 : decode cX8_set 16 = .ok (.iload_n 2, 1) := by decide +kernel
theorem dX8_set_17 : decode cX8_set 17 = .ok (.aload_n 0, 1) := by decide +kernel
theorem dX8_set_18 : decode cX8_set 18 = .ok (.getfield 22, 3) := by decide +kernel
theorem dX8_set_21 : decode cX8_set 21 = .ok (.if_icmp .lt 4, 3) := by decide +kernel
theorem dX8_set_24 : decode cX8_set 24 = .ok (.return_, 1) := by decide +kernel
theorem dX8_set_25 : decode cX8_set 25 = .ok (.iload_n 1, 1) := by decide +kernel
theorem dX8_set_26 : decode cX8_set 26 = .ok (.aload_n 0, 1) := by decide +kernel
theorem dX8_set_27 : decode cX8_set 27 = .ok (.getfield 22, 3) := by decide +kernel
theorem dX8_set_30 : decode cX8_set 30 = .ok (.imul, 1) := by decide +kernel
theorem dX8_set_31 : decode cX8_set 31 = .ok (.iload_n 2, 1) := by decide +kernel
theorem dX8_set_32 : decode cX8_set 32 = .ok (.iadd, 1) := by decide +kernel
theorem dX8_set_33 : decode cX8_set 33 = .ok (.istore 4, 2) := by decide +kernel
theorem dX8_set_35 : decode cX8_set 35 = .ok (.iload 4, 2) := by decide +kernel
theorem dX8_set_37 : decode cX8_set 37 = .ok (.aload_n 0, 1) := by decide +kernel
theorem dX8_set_38 : decode cX8_set 38 = .ok (.getfield 25, 3) := by decide +kernel
theorem dX8_set_41 : decode cX8_set 41 = .ok (.arraylength, 1) := by decide +kernel
theorem dX8_set_42 : decode cX8_set 42 = .ok (.if_icmp .ge 11, 3) := by decide +kernel
theorem dX8_set_45 : decode cX8_set 45 = .ok (.aload_n 0, 1) := by decide +kernel
theorem dX8_set_46 : decode cX8_set 46 = .ok (.getfield 25, 3) := by decide +kernel
theorem dX8_set_49 : decode cX8_set 49 = .ok (.iload 4, 2) := by decide +kernel
theorem dX8_set_51 : decode cX8_set 51 = .ok (.iload_n 3, 1) := by decide +kernel
theorem dX8_set_52 : decode cX8_set 52 = .ok (.iastore, 1) := by decide +kernel
theorem dX8_set_53 : decode cX8_set 53 = .ok (.return_, 1) := by decide +kernel
theorem dX8_add_0 : decode cX8_add 0 = .ok (.aload_n 0, 1) := by decide +kernel
theorem dX8_add_1 : decode cX8_add 1 = .ok (.iload_n 1, 1) := by decide +kernel
theorem dX8_add_2 : decode cX8_add 2 = .ok (.iload_n 2, 1) := by decide +kernel
theorem dX8_add_3 : decode cX8_add 3 = .ok (.aload_n 0, 1) := by decide +kernel
theorem dX8_add_4 : decode cX8_add 4 = .ok (.iload_n 1, 1) := by decide +kernel
theorem dX8_add_5 : decode cX8_add 5 = .ok (.iload_n 2, 1) := by decide +kernel
theorem dX8_add_6 : decode cX8_add 6 = .ok (.invokevirtual 29, 3) := by decide +kernel
theorem dX8_add_9 : decode cX8_add 9 = .ok (.iload_n 3, 1) := by decide +kernel
theorem dX8_add_10 : decode cX8_add 10 = .ok (.iadd, 1) := by decide +kernel
theorem dX8_add_11 : decode cX8_add 11 = .ok (.invokevirtual 32, 3) := by decide +kernel
theorem dX8_add_14 : decode cX8_add 14 = .ok (.return_, 1) := by decide +kernel
theorem dX8_fill_0 : decode cX8_fill 0 = .ok (.iconst 0, 1) := by decide +kernel
theorem dX8_fill_1 : decode cX8_fill 1 = .ok (.istore_n 2, 1) := by decide +kernel
theorem dX8_fill_2 : decode cX8_fill 2 = .ok (.iload_n 2, 1) := by decide +kernel
theorem dX8_fill_3 : decode cX8_fill 3 = .ok (.aload_n 0, 1) := by decide +kernel
theorem dX8_fill_4 : decode cX8_fill 4 = .ok (.getfield 25, 3) := by decide +kernel
theorem dX8_fill_7 : decode cX8_fill 7 = .ok (.arraylength, 1) := by decide +kernel
theorem dX8_fill_8 : decode cX8_fill 8 = .ok (.if_icmp .ge 16, 3) := by decide +kernel
theorem dX8_fill_11 : decode cX8_fill 11 = .ok (.aload_n 0, 1) := by decide +kernel
theorem dX8_fill_12 : decode cX8_fill 12 = .ok (.getfield 25, 3) := by decide +kernel
theorem dX8_fill_15 : decode cX8_fill 15 = .ok (.iload_n 2, 1) := by decide +kernel
theorem dX8_fill_16 : decode cX8_fill 16 = .ok (.iload_n 1, 1) := by decide +kernel
theorem dX8_fill_17 : decode cX8_fill 17 = .ok (.iastore, 1) := by decide +kernel
theorem dX8_fill_18 : decode cX8_fill 18 = .ok (.iinc 2 1, 3) := by decide +kernel
theorem dX8_fill_21 : decode cX8_fill 21 = .ok (.goto (-19), 3) := by decide +kernel
theorem dX8_fill_24 : decode cX8_fill 24 = .ok (.return_, 1) := by decide +kernel
theorem dX8_copyRow_0 : decode cX8_copyRow 0 = .ok (.iconst 0, 1) := by decide +kernel
theorem dX8_copyRow_1 : decode cX8_copyRow 1 = .ok (.istore 4, 2) := by decide +kernel
theorem dX8_copyRow_3 : decode cX8_copyRow 3 = .ok (.iload 4, 2) := by decide +kernel
theorem dX8_copyRow_5 : decode cX8_copyRow 5 = .ok (.aload_n 0, 1) := by decide +kernel
theorem dX8_copyRow_6 : decode cX8_copyRow 6 = .ok (.getfield 22, 3) := by decide +kernel
theorem dX8_copyRow_9 : decode cX8_copyRow 9 = .ok (.if_icmp .ge 23, 3) := by decide +kernel
theorem dX8_copyRow_12 : decode cX8_copyRow 12 = .ok (.aload_n 0, 1) := by decide +kernel
theorem dX8_copyRow_13 : decode cX8_copyRow 13 = .ok (.iload_n 1, 1) := by decide +kernel
theorem dX8_copyRow_14 : decode cX8_copyRow 14 = .ok (.iload 4, 2) := by decide +kernel
theorem dX8_copyRow_16 : decode cX8_copyRow 16 = .ok (.aload_n 2, 1) := by decide +kernel
theorem dX8_copyRow_17 : decode cX8_copyRow 17 = .ok (.iload_n 3, 1) := by decide +kernel
theorem dX8_copyRow_18 : decode cX8_copyRow 18 = .ok (.iload 4, 2) := by decide +kernel
theorem dX8_copyRow_20 : decode cX8_copyRow 20 = .ok (.invokevirtual 29, 3) := by decide +kernel
theorem dX8_copyRow_23 : decode cX8_copyRow 23 = .ok (.invokevirtual 32, 3) := by decide +kernel
theorem dX8_copyRow_26 : decode cX8_copyRow 26 = .ok (.iinc 4 1, 3) := by decide +kernel
theorem dX8_copyRow_29 : decode cX8_copyRow 29 = .ok (.goto (-26), 3) := by decide +kernel
theorem dX8_copyRow_32 : decode cX8_copyRow 32 = .ok (.return_, 1) := by decide +kernel
theorem dX9_init_0 : decode cX9_init 0 = .ok (.aload_n 0, 1) := by decide +kernel
theorem dX9_init_1 : decode cX9_init 1 = .ok (.invokespecial 3, 3) := by decide +kernel
theorem dX9_init_4 : decode cX9_init 4 = .ok (.aload_n 0, 1) := by decide +kernel
theorem dX9_init_5 : decode cX9_init 5 = .ok (.new 9, 3) := by decide +kernel
theorem dX9_init_8 : decode cX9_init 8 = .ok (.dup, 1) := by decide +kernel
theorem dX9_init_9 : decode cX9_init 9 = .ok (.iconst 1, 1) := by decide +kernel
theorem dX9_init_10 : decode cX9_init 10 = .ok (.iconst 4, 1) := by decide +kernel
theorem dX9_init_11 : decode cX9_init 11 = .ok (.invokespecial 11, 3) := by decide +kernel
theorem dX9_init_14 : decode cX9_init 14 = .ok (.putfield 14, 3) := by decide +kernel
theorem dX9_init_17 : decode cX9_init 17 = .ok (.aload_n 0, 1) := by decide +kernel
theorem dX9_init_18 : decode cX9_init 18 = .ok (.new 9, 3) := by decide +kernel
theorem dX9_init_21 : decode cX9_init 21 = .ok (.dup, 1) := by decide +kernel
theorem dX9_init_22 : decode cX9_init 22 = .ok (.iconst 1, 1) := by decide +kernel
theorem dX9_init_23 : decode cX9_init 23 = .ok (.iconst 4, 1) := by decide +kernel
theorem dX9_init_24 : decode cX9_init 24 = .ok (.invokespecial 11, 3) := by decide +kernel
theorem dX9_init_27 : decode cX9_init 27 = .ok (.putfield 20, 3) := by decide +kernel
theorem dX9_init_30 : decode cX9_init 30 = .ok (.aload_n 0, 1) := by decide +kernel
theorem dX9_init_31 : decode cX9_init 31 = .ok (.iconst 0, 1) := by decide +kernel
theorem dX9_init_32 : decode cX9_init 32 = .ok (.putfield 23, 3) := by decide +kernel
theorem dX9_init_35 : decode cX9_init 35 = .ok (.aload_n 0, 1) := by decide +kernel
theorem dX9_init_36 : decode cX9_init 36 = .ok (.iconst 0, 1) := by decide +kernel
theorem dX9_init_37 : decode cX9_init 37 = .ok (.putfield 27, 3) := by decide +kernel
theorem dX9_init_40 : decode cX9_init 40 = .ok (.return_, 1) := by decide +kernel
theorem dX9_forget_0 : decode cX9_forget 0 = .ok (.aload_n 0, 1) := by decide +kernel
theorem dX9_forget_1 : decode cX9_forget 1 = .ok (.iconst 0, 1) := by decide +kernel
theorem dX9_forget_2 : decode cX9_forget 2 = .ok (.putfield 23, 3) := by decide +kernel
theorem dX9_forget_5 : decode cX9_forget 5 = .ok (.return_, 1) := by decide +kernel
theorem dX9_rowCount_0 : decode cX9_rowCount 0 = .ok (.aload_n 0, 1) := by decide +kernel
theorem dX9_rowCount_1 : decode cX9_rowCount 1 = .ok (.getfield 27, 3) := by decide +kernel
theorem dX9_rowCount_4 : decode cX9_rowCount 4 = .ok (.ireturn, 1) := by decide +kernel
theorem dX9_giversOf_0 : decode cX9_giversOf 0 = .ok (.aload_n 0, 1) := by decide +kernel
theorem dX9_giversOf_1 : decode cX9_giversOf 1 = .ok (.getfield 20, 3) := by decide +kernel
theorem dX9_giversOf_4 : decode cX9_giversOf 4 = .ok (.iconst 0, 1) := by decide +kernel
theorem dX9_giversOf_5 : decode cX9_giversOf 5 = .ok (.iload_n 1, 1) := by decide +kernel
theorem dX9_giversOf_6 : decode cX9_giversOf 6 = .ok (.invokevirtual 31, 3) := by decide +kernel
theorem dX9_giversOf_9 : decode cX9_giversOf 9 = .ok (.ireturn, 1) := by decide +kernel
theorem dX9_onlyGiverOf_0 : decode cX9_onlyGiverOf 0 = .ok (.iconst 0, 1) := by decide +kernel
theorem dX9_onlyGiverOf_1 : decode cX9_onlyGiverOf 1 = .ok (.istore_n 2, 1) := by decide +kernel
theorem dX9_onlyGiverOf_2 : decode cX9_onlyGiverOf 2 = .ok (.iload_n 2, 1) := by decide +kernel
theorem dX9_onlyGiverOf_3 : decode cX9_onlyGiverOf 3 = .ok (.iconst 3, 1) := by decide +kernel
theorem dX9_onlyGiverOf_4 : decode cX9_onlyGiverOf 4 = .ok (.if_icmp .ge 22, 3) := by decide +kernel
theorem dX9_onlyGiverOf_7 : decode cX9_onlyGiverOf 7 = .ok (.aload_n 0, 1) := by decide +kernel
theorem dX9_onlyGiverOf_8 : decode cX9_onlyGiverOf 8 = .ok (.iload_n 1, 1) := by decide +kernel
theorem dX9_onlyGiverOf_9 : decode cX9_onlyGiverOf 9 = .ok (.invokevirtual 35, 3) := by decide +kernel
theorem dX9_onlyGiverOf_12 : decode cX9_onlyGiverOf 12 = .ok (.iconst 1, 1) := by decide +kernel
theorem dX9_onlyGiverOf_13 : decode cX9_onlyGiverOf 13 = .ok (.iload_n 2, 1) := by decide +kernel
theorem dX9_onlyGiverOf_14 : decode cX9_onlyGiverOf 14 = .ok (.ishl, 1) := by decide +kernel
theorem dX9_onlyGiverOf_15 : decode cX9_onlyGiverOf 15 = .ok (.if_icmp .ne 5, 3) := by decide +kernel
theorem dX9_onlyGiverOf_18 : decode cX9_onlyGiverOf 18 = .ok (.iload_n 2, 1) := by decide +kernel
theorem dX9_onlyGiverOf_19 : decode cX9_onlyGiverOf 19 = .ok (.ireturn, 1) := by decide +kernel
theorem dX9_onlyGiverOf_20 : decode cX9_onlyGiverOf 20 = .ok (.iinc 2 1, 3) := by decide +kernel
theorem dX9_onlyGiverOf_23 : decode cX9_onlyGiverOf 23 = .ok (.goto (-21), 3) := by decide +kernel
theorem dX9_onlyGiverOf_26 : decode cX9_onlyGiverOf 26 = .ok (.bipush (-2), 2) := by decide +kernel
theorem dX9_onlyGiverOf_28 : decode cX9_onlyGiverOf 28 = .ok (.ireturn, 1) := by decide +kernel
theorem dX9_find_0 : decode cX9_find 0 = .ok (.aload_n 0, 1) := by decide +kernel
theorem dX9_find_1 : decode cX9_find 1 = .ok (.getfield 23, 3) := by decide +kernel
theorem dX9_find_4 : decode cX9_find 4 = .ok (.ifCond .eq 4, 3) := by decide +kernel
theorem dX9_find_7 : decode cX9_find 7 = .ok (.return_, 1) := by decide +kernel
theorem dX9_find_8 : decode cX9_find 8 = .ok (.aload_n 0, 1) := by decide +kernel
theorem dX9_find_9 : decode cX9_find 9 = .ok (.iconst 1, 1) := by decide +kernel
theorem dX9_find_10 : decode cX9_find 10 = .ok (.putfield 23, 3) := by decide +kernel
theorem dX9_find_13 : decode cX9_find 13 = .ok (.aload_n 0, 1) := by decide +kernel
theorem dX9_find_14 : decode cX9_find 14 = .ok (.iconst 0, 1) := by decide +kernel
theorem dX9_find_15 : decode cX9_find 15 = .ok (.putfield 27, 3) := by decide +kernel
theorem dX9_find_18 : decode cX9_find 18 = .ok (.aload_n 0, 1) := by decide +kernel
theorem dX9_find_19 : decode cX9_find 19 = .ok (.getfield 20, 3) := by decide +kernel
theorem dX9_find_22 : decode cX9_find 22 = .ok (.iconst 0, 1) := by decide +kernel
theorem dX9_find_23 : decode cX9_find 23 = .ok (.invokevirtual 39, 3) := by decide +kernel
theorem dX9_find_26 : decode cX9_find 26 = .ok (.aload_n 0, 1) := by decide +kernel
theorem dX9_find_27 : decode cX9_find 27 = .ok (.aload_n 1, 1) := by decide +kernel
theorem dX9_find_28 : decode cX9_find 28 = .ok (.iconst 0, 1) := by decide +kernel
theorem dX9_find_29 : decode cX9_find 29 = .ok (.iconst 0, 1) := by decide +kernel
theorem dX9_find_30 : decode cX9_find 30 = .ok (.invokevirtual 43, 3) := by decide +kernel
theorem dX9_find_33 : decode cX9_find 33 = .ok (.return_, 1) := by decide +kernel
theorem dX9_choose_0 : decode cX9_choose 0 = .ok (.iload_n 2, 1) := by decide +kernel
theorem dX9_choose_1 : decode cX9_choose 1 = .ok (.aload_n 1, 1) := by decide +kernel
theorem dX9_choose_2 : decode cX9_choose 2 = .ok (.bipush 8, 2) := by decide +kernel
theorem dX9_choose_4 : decode cX9_choose 4 = .ok (.invokevirtual 47, 3) := by decide +kernel
theorem dX9_choose_7 : decode cX9_choose 7 = .ok (.if_icmp .ge 8, 3) := by decide +kernel
theorem dX9_choose_10 : decode cX9_choose 10 = .ok (.iload_n 2, 1) := by decide +kernel
theorem dX9_choose_11 : decode cX9_choose 11 = .ok (.iconst 4, 1) := by decide +kernel
theorem dX9_choose_12 : decode cX9_choose 12 = .ok (.if_icmp .lt 9, 3) := by decide +kernel
theorem dX9_choose_15 : decode cX9_choose 15 = .ok (.aload_n 0, 1) := by decide +kernel
theorem dX9_choose_16 : decode cX9_choose 16 = .ok (.aload_n 1, 1) := by decide +kernel
theorem dX9_choose_17 : decode cX9_choose 17 = .ok (.invokevirtual 52, 3) := by decide +kernel
theorem dX9_choose_20 : decode cX9_choose 20 = .ok (.return_, 1) := by decide +kernel
theorem dX9_choose_21 : decode cX9_choose 21 = .ok (.aload_n 1, 1) := by decide +kernel
theorem dX9_choose_22 : decode cX9_choose 22 = .ok (.getfield 56, 3) := by decide +kernel
theorem dX9_choose_25 : decode cX9_choose 25 = .ok (.iload_n 2, 1) := by decide +kernel
theorem dX9_choose_26 : decode cX9_choose 26 = .ok (.iconst 0, 1) := by decide +kernel
theorem dX9_choose_27 : decode cX9_choose 27 = .ok (.invokevirtual 31, 3) := by decide +kernel
theorem dX9_choose_30 : decode cX9_choose 30 = .ok (.istore 4, 2) := by decide +kernel
theorem dX9_choose_32 : decode cX9_choose 32 = .ok (.aload_n 1, 1) := by decide +kernel
theorem dX9_choose_33 : decode cX9_choose 33 = .ok (.getfield 56, 3) := by decide +kernel
theorem dX9_choose_36 : decode cX9_choose 36 = .ok (.iload_n 2, 1) := by decide +kernel
theorem dX9_choose_37 : decode cX9_choose 37 = .ok (.iconst 1, 1) := by decide +kernel
theorem dX9_choose_38 : decode cX9_choose 38 = .ok (.invokevirtual 31, 3) := by decide +kernel
theorem dX9_choose_41 : decode cX9_choose 41 = .ok (.istore 5, 2) := by decide +kernel
theorem dX9_choose_43 : decode cX9_choose 43 = .ok (.iconst 0, 1) := by decide +kernel
theorem dX9_choose_44 : decode cX9_choose 44 = .ok (.istore 6, 2) := by decide +kernel
theorem dX9_choose_46 : decode cX9_choose 46 = .ok (.iload 6, 2) := by decide +kernel
theorem dX9_choose_48 : decode cX9_choose 48 = .ok (.aload_n 1, 1) := by decide +kernel
theorem dX9_choose_49 : decode cX9_choose 49 = .ok (.iconst 0, 1) := by decide +kernel
theorem dX9_choose_50 : decode cX9_choose 50 = .ok (.invokevirtual 47, 3) := by decide +kernel
theorem dX9_choose_53 : decode cX9_choose 53 = .ok (.if_icmp .ge 85, 3) := by decide +kernel
theorem dX9_choose_56 : decode cX9_choose 56 = .ok (.iconst 0, 1) := by decide +kernel
theorem dX9_choose_57 : decode cX9_choose 57 = .ok (.istore 7, 2) := by decide +kernel
theorem dX9_choose_59 : decode cX9_choose 59 = .ok (.iload 7, 2) := by decide +kernel
theorem dX9_choose_61 : decode cX9_choose 61 = .ok (.aload_n 1, 1) := by decide +kernel
theorem dX9_choose_62 : decode cX9_choose 62 = .ok (.iconst 5, 1) := by decide +kernel
theorem dX9_choose_63 : decode cX9_choose 63 = .ok (.invokevirtual 47, 3) := by decide +kernel
theorem dX9_choose_66 : decode cX9_choose 66 = .ok (.if_icmp .ge 66, 3) := by decide +kernel
theorem dX9_choose_69 : decode cX9_choose 69 = .ok (.iconst 1, 1) := by decide +kernel
theorem dX9_choose_70 : decode cX9_choose 70 = .ok (.iload 6, 2) := by decide +kernel
theorem dX9_choose_72 : decode cX9_choose 72 = .ok (.iconst 3, 1) := by decide +kernel
theorem dX9_choose_73 : decode cX9_choose 73 = .ok (.imul, 1) := by decide +kernel
theorem dX9_choose_74 : decode cX9_choose 74 = .ok (.iload 7, 2) := by decide +kernel
theorem dX9_choose_76 : decode cX9_choose 76 = .ok (.iadd, 1) := by decide +kernel
theorem dX9_choose_77 : decode cX9_choose 77 = .ok (.ishl, 1) := by decide +kernel
theorem dX9_choose_78 : decode cX9_choose 78 = .ok (.istore 8, 2) := by decide +kernel
theorem dX9_choose_80 : decode cX9_choose 80 = .ok (.iload_n 3, 1) := by decide +kernel
theorem dX9_choose_81 : decode cX9_choose 81 = .ok (.iload 8, 2) := by decide +kernel
theorem dX9_choose_83 : decode cX9_choose 83 = .ok (.iand, 1) := by decide +kernel
theorem dX9_choose_84 : decode cX9_choose 84 = .ok (.ifCond .ne 42, 3) := by decide +kernel
theorem dX9_choose_87 : decode cX9_choose 87 = .ok (.aload_n 1, 1) := by decide +kernel
theorem dX9_choose_88 : decode cX9_choose 88 = .ok (.iload 6, 2) := by decide +kernel
theorem dX9_choose_90 : decode cX9_choose 90 = .ok (.iload 7, 2) := by decide +kernel
theorem dX9_choose_92 : decode cX9_choose 92 = .ok (.iload 4, 2) := by decide +kernel
theorem dX9_choose_94 : decode cX9_choose 94 = .ok (.iload 5, 2) := by decide +kernel
theorem dX9_choose_96 : decode cX9_choose 96 = .ok (.iconst 0, 1) := by decide +kernel
theorem dX9_choose_97 : decode cX9_choose 97 = .ok (.invokevirtual 59, 3) := by decide +kernel
theorem dX9_choose_100 : decode cX9_choose 100 = .ok (.ifCond .eq 26, 3) := by decide +kernel
theorem dX9_choose_103 : decode cX9_choose 103 = .ok (.aload_n 0, 1) := by decide +kernel
theorem dX9_choose_104 : decode cX9_choose 104 = .ok (.getfield 14, 3) := by decide +kernel
theorem dX9_choose_107 : decode cX9_choose 107 = .ok (.iconst 0, 1) := by decide +kernel
theorem dX9_choose_108 : decode cX9_choose 108 = .ok (.iload_n 2, 1) := by decide +kernel
theorem dX9_choose_109 : decode cX9_choose 109 = .ok (.iload 7, 2) := by decide +kernel
theorem dX9_choose_111 : decode cX9_choose 111 = .ok (.invokevirtual 63, 3) := by decide +kernel
theorem dX9_choose_114 : decode cX9_choose 114 = .ok (.aload_n 0, 1) := by decide +kernel
theorem dX9_choose_115 : decode cX9_choose 115 = .ok (.aload_n 1, 1) := by decide +kernel
theorem dX9_choose_116 : decode cX9_choose 116 = .ok (.iload_n 2, 1) := by decide +kernel
theorem dX9_choose_117 : decode cX9_choose 117 = .ok (.iconst 1, 1) := by decide +kernel
theorem dX9_choose_118 : decode cX9_choose 118 = .ok (.iadd, 1) := by decide +kernel
theorem dX9_choose_119 : decode cX9_choose 119 = .ok (.iload_n 3, 1) := by decide +kernel
theorem dX9_choose_120 : decode cX9_choose 120 = .ok (.iload 8, 2) := by decide +kernel
theorem dX9_choose_122 : decode cX9_choose 122 = .ok (.ior, 1) := by decide +kernel
theorem dX9_choose_123 : decode cX9_choose 123 = .ok (.invokevirtual 43, 3) := by decide +kernel
theorem dX9_choose_126 : decode cX9_choose 126 = .ok (.iinc 7 1, 3) := by decide +kernel
theorem dX9_choose_129 : decode cX9_choose 129 = .ok (.goto (-70), 3) := by decide +kernel
theorem dX9_choose_132 : decode cX9_choose 132 = .ok (.iinc 6 1, 3) := by decide +kernel
theorem dX9_choose_135 : decode cX9_choose 135 = .ok (.goto (-89), 3) := by decide +kernel
theorem dX9_choose_138 : decode cX9_choose 138 = .ok (.return_, 1) := by decide +kernel
theorem dX9_countRow_0 : decode cX9_countRow 0 = .ok (.aload_n 0, 1) := by decide +kernel
theorem dX9_countRow_1 : decode cX9_countRow 1 = .ok (.dup, 1) := by decide +kernel
theorem dX9_countRow_2 : decode cX9_countRow 2 = .ok (.getfield 27, 3) := by decide +kernel
theorem dX9_countRow_5 : decode cX9_countRow 5 = .ok (.iconst 1, 1) := by decide +kernel
theorem dX9_countRow_6 : decode cX9_countRow 6 = .ok (.iadd, 1) := by decide +kernel
theorem dX9_countRow_7 : decode cX9_countRow 7 = .ok (.putfield 27, 3) := by decide +kernel
theorem dX9_countRow_10 : decode cX9_countRow 10 = .ok (.iconst 0, 1) := by decide +kernel
theorem dX9_countRow_11 : decode cX9_countRow 11 = .ok (.istore_n 2, 1) := by decide +kernel
theorem dX9_countRow_12 : decode cX9_countRow 12 = .ok (.iload_n 2, 1) := by decide +kernel
theorem dX9_countRow_13 : decode cX9_countRow 13 = .ok (.aload_n 1, 1) := by decide +kernel
theorem dX9_countRow_14 : decode cX9_countRow 14 = .ok (.bipush 8, 2) := by decide +kernel
theorem dX9_countRow_16 : decode cX9_countRow 16 = .ok (.invokevirtual 47, 3) := by decide +kernel
theorem dX9_countRow_19 : decode cX9_countRow 19 = .ok (.if_icmp .ge 49, 3) := by decide +kernel
theorem dX9_countRow_22 : decode cX9_countRow 22 = .ok (.aload_n 1, 1) := by decide +kernel
theorem dX9_countRow_23 : decode cX9_countRow 23 = .ok (.getfield 56, 3) := by decide +kernel
theorem dX9_countRow_26 : decode cX9_countRow 26 = .ok (.iload_n 2, 1) := by decide +kernel
theorem dX9_countRow_27 : decode cX9_countRow 27 = .ok (.iconst 0, 1) := by decide +kernel
theorem dX9_countRow_28 : decode cX9_countRow 28 = .ok (.invokevirtual 31, 3) := by decide +kernel
theorem dX9_countRow_31 : decode cX9_countRow 31 = .ok (.istore_n 3, 1) := by decide +kernel
theorem dX9_countRow_32 : decode cX9_countRow 32 = .ok (.aload_n 0, 1) := by decide +kernel
theorem dX9_countRow_33 : decode cX9_countRow 33 = .ok (.getfield 20, 3) := by decide +kernel
theorem dX9_countRow_36 : decode cX9_countRow 36 = .ok (.iconst 0, 1) := by decide +kernel
theorem dX9_countRow_37 : decode cX9_countRow 37 = .ok (.iload_n 3, 1) := by decide +kernel
theorem dX9_countRow_38 : decode cX9_countRow 38 = .ok (.aload_n 0, 1) := by decide +kernel
theorem dX9_countRow_39 : decode cX9_countRow 39 = .ok (.getfield 20, 3) := by decide +kernel
theorem dX9_countRow_42 : decode cX9_countRow 42 = .ok (.iconst 0, 1) := by decide +kernel
theorem dX9_countRow_43 : decode cX9_countRow 43 = .ok (.iload_n 3, 1) := by decide +kernel
theorem dX9_countRow_44 : decode cX9_countRow 44 = .ok (.invokevirtual 31, 3) := by decide +kernel
theorem dX9_countRow_47 : decode cX9_countRow 47 = .ok (.iconst 1, 1) := by decide +kernel
theorem dX9_countRow_48 : decode cX9_countRow 48 = .ok (.aload_n 0, 1) := by decide +kernel
theorem dX9_countRow_49 : decode cX9_countRow 49 = .ok (.getfield 14, 3) := by decide +kernel
theorem dX9_countRow_52 : decode cX9_countRow 52 = .ok (.iconst 0, 1) := by decide +kernel
theorem dX9_countRow_53 : decode cX9_countRow 53 = .ok (.iload_n 2, 1) := by decide +kernel
theorem dX9_countRow_54 : decode cX9_countRow 54 = .ok (.invokevirtual 31, 3) := by decide +kernel
theorem dX9_countRow_57 : decode cX9_countRow 57 = .ok (.ishl, 1) := by decide +kernel
theorem dX9_countRow_58 : decode cX9_countRow 58 = .ok (.ior, 1) := by decide +kernel
theorem dX9_countRow_59 : decode cX9_countRow 59 = .ok (.invokevirtual 63, 3) := by decide +kernel
theorem dX9_countRow_62 : decode cX9_countRow 62 = .ok (.iinc 2 1, 3) := by decide +kernel
theorem dX9_countRow_65 : decode cX9_countRow 65 = .ok (.goto (-53), 3) := by decide +kernel
theorem dX9_countRow_68 : decode cX9_countRow 68 = .ok (.return_, 1) := by decide +kernel
theorem dX10_init_0 : decode cX10_init 0 = .ok (.aload_n 0, 1) := by decide +kernel
theorem dX10_init_1 : decode cX10_init 1 = .ok (.invokespecial 1, 3) := by decide +kernel
theorem dX10_init_4 : decode cX10_init 4 = .ok (.aload_n 0, 1) := by decide +kernel
theorem dX10_init_5 : decode cX10_init 5 = .ok (.new 7, 3) := by decide +kernel
theorem dX10_init_8 : decode cX10_init 8 = .ok (.dup, 1) := by decide +kernel
theorem dX10_init_9 : decode cX10_init 9 = .ok (.invokespecial 9, 3) := by decide +kernel
theorem dX10_init_12 : decode cX10_init 12 = .ok (.putfield 10, 3) := by decide +kernel
theorem dX10_init_15 : decode cX10_init 15 = .ok (.aload_n 0, 1) := by decide +kernel
theorem dX10_init_16 : decode cX10_init 16 = .ok (.new 16, 3) := by decide +kernel
theorem dX10_init_19 : decode cX10_init 19 = .ok (.dup, 1) := by decide +kernel
theorem dX10_init_20 : decode cX10_init 20 = .ok (.invokespecial 18, 3) := by decide +kernel
theorem dX10_init_23 : decode cX10_init 23 = .ok (.putfield 19, 3) := by decide +kernel
theorem dX10_init_26 : decode cX10_init 26 = .ok (.aload_n 0, 1) := by decide +kernel
theorem dX10_init_27 : decode cX10_init 27 = .ok (.new 23, 3) := by decide +kernel
theorem dX10_init_30 : decode cX10_init 30 = .ok (.dup, 1) := by decide +kernel
theorem dX10_init_31 : decode cX10_init 31 = .ok (.invokespecial 25, 3) := by decide +kernel
theorem dX10_init_34 : decode cX10_init 34 = .ok (.putfield 26, 3) := by decide +kernel
theorem dX10_init_37 : decode cX10_init 37 = .ok (.aload_n 0, 1) := by decide +kernel
theorem dX10_init_38 : decode cX10_init 38 = .ok (.new 30, 3) := by decide +kernel
theorem dX10_init_41 : decode cX10_init 41 = .ok (.dup, 1) := by decide +kernel
theorem dX10_init_42 : decode cX10_init 42 = .ok (.invokespecial 32, 3) := by decide +kernel
theorem dX10_init_45 : decode cX10_init 45 = .ok (.putfield 33, 3) := by decide +kernel
theorem dX10_init_48 : decode cX10_init 48 = .ok (.aload_n 0, 1) := by decide +kernel
theorem dX10_init_49 : decode cX10_init 49 = .ok (.new 37, 3) := by decide +kernel
theorem dX10_init_52 : decode cX10_init 52 = .ok (.dup, 1) := by decide +kernel
theorem dX10_init_53 : decode cX10_init 53 = .ok (.invokespecial 39, 3) := by decide +kernel
theorem dX10_init_56 : decode cX10_init 56 = .ok (.putfield 40, 3) := by decide +kernel
theorem dX10_init_59 : decode cX10_init 59 = .ok (.aload_n 0, 1) := by decide +kernel
theorem dX10_init_60 : decode cX10_init 60 = .ok (.new 44, 3) := by decide +kernel
theorem dX10_init_63 : decode cX10_init 63 = .ok (.dup, 1) := by decide +kernel
theorem dX10_init_64 : decode cX10_init 64 = .ok (.invokespecial 46, 3) := by decide +kernel
theorem dX10_init_67 : decode cX10_init 67 = .ok (.putfield 47, 3) := by decide +kernel
theorem dX10_init_70 : decode cX10_init 70 = .ok (.aload_n 0, 1) := by decide +kernel
theorem dX10_init_71 : decode cX10_init 71 = .ok (.new 51, 3) := by decide +kernel
theorem dX10_init_74 : decode cX10_init 74 = .ok (.dup, 1) := by decide +kernel
theorem dX10_init_75 : decode cX10_init 75 = .ok (.invokespecial 53, 3) := by decide +kernel
theorem dX10_init_78 : decode cX10_init 78 = .ok (.putfield 54, 3) := by decide +kernel
theorem dX10_init_81 : decode cX10_init 81 = .ok (.aload_n 0, 1) := by decide +kernel
theorem dX10_init_82 : decode cX10_init 82 = .ok (.iconst 0, 1) := by decide +kernel
theorem dX10_init_83 : decode cX10_init 83 = .ok (.putfield 58, 3) := by decide +kernel
theorem dX10_init_86 : decode cX10_init 86 = .ok (.aload_n 0, 1) := by decide +kernel
theorem dX10_init_87 : decode cX10_init 87 = .ok (.new 62, 3) := by decide +kernel
theorem dX10_init_90 : decode cX10_init 90 = .ok (.dup, 1) := by decide +kernel
theorem dX10_init_91 : decode cX10_init 91 = .ok (.invokespecial 64, 3) := by decide +kernel
theorem dX10_init_94 : decode cX10_init 94 = .ok (.putfield 65, 3) := by decide +kernel
theorem dX10_init_97 : decode cX10_init 97 = .ok (.return_, 1) := by decide +kernel
theorem dX10_feed_0 : decode cX10_feed 0 = .ok (.aload_n 0, 1) := by decide +kernel
theorem dX10_feed_1 : decode cX10_feed 1 = .ok (.getfield 10, 3) := by decide +kernel
theorem dX10_feed_4 : decode cX10_feed 4 = .ok (.invokevirtual 69, 3) := by decide +kernel
theorem dX10_feed_7 : decode cX10_feed 7 = .ok (.bipush 20, 2) := by decide +kernel
theorem dX10_feed_9 : decode cX10_feed 9 = .ok (.iadd, 1) := by decide +kernel
theorem dX10_feed_10 : decode cX10_feed 10 = .ok (.sipush 1000, 3) := by decide +kernel
theorem dX10_feed_13 : decode cX10_feed 13 = .ok (.if_icmp .le 5, 3) := by decide +kernel
theorem dX10_feed_16 : decode cX10_feed 16 = .ok (.iconst (-1), 1) := by decide +kernel
theorem dX10_feed_17 : decode cX10_feed 17 = .ok (.ireturn, 1) := by decide +kernel
theorem dX10_feed_18 : decode cX10_feed 18 = .ok (.aload_n 0, 1) := by decide +kernel
theorem dX10_feed_19 : decode cX10_feed 19 = .ok (.getfield 10, 3) := by decide +kernel
theorem dX10_feed_22 : decode cX10_feed 22 = .ok (.iload_n 1, 1) := by decide +kernel
theorem dX10_feed_23 : decode cX10_feed 23 = .ok (.invokevirtual 73, 3) := by decide +kernel
theorem dX10_feed_26 : decode cX10_feed 26 = .ok (.aload_n 0, 1) := by decide +kernel
theorem dX10_feed_27 : decode cX10_feed 27 = .ok (.getfield 10, 3) := by decide +kernel
theorem dX10_feed_30 : decode cX10_feed 30 = .ok (.iload_n 2, 1) := by decide +kernel
theorem dX10_feed_31 : decode cX10_feed 31 = .ok (.invokevirtual 73, 3) := by decide +kernel
theorem dX10_feed_34 : decode cX10_feed 34 = .ok (.aload_n 0, 1) := by decide +kernel
theorem dX10_feed_35 : decode cX10_feed 35 = .ok (.getfield 10, 3) := by decide +kernel
theorem dX10_feed_38 : decode cX10_feed 38 = .ok (.iload_n 3, 1) := by decide +kernel
theorem dX10_feed_39 : decode cX10_feed 39 = .ok (.invokevirtual 73, 3) := by decide +kernel
theorem dX10_feed_42 : decode cX10_feed 42 = .ok (.aload_n 0, 1) := by decide +kernel
theorem dX10_feed_43 : decode cX10_feed 43 = .ok (.getfield 10, 3) := by decide +kernel
theorem dX10_feed_46 : decode cX10_feed 46 = .ok (.iload 4, 2) := by decide +kernel
theorem dX10_feed_48 : decode cX10_feed 48 = .ok (.invokevirtual 73, 3) := by decide +kernel
theorem dX10_feed_51 : decode cX10_feed 51 = .ok (.aload_n 0, 1) := by decide +kernel
theorem dX10_feed_52 : decode cX10_feed 52 = .ok (.getfield 10, 3) := by decide +kernel
theorem dX10_feed_55 : decode cX10_feed 55 = .ok (.iload 5, 2) := by decide +kernel
theorem dX10_feed_57 : decode cX10_feed 57 = .ok (.invokevirtual 73, 3) := by decide +kernel
theorem dX10_feed_60 : decode cX10_feed 60 = .ok (.aload_n 0, 1) := by decide +kernel
theorem dX10_feed_61 : decode cX10_feed 61 = .ok (.getfield 10, 3) := by decide +kernel
theorem dX10_feed_64 : decode cX10_feed 64 = .ok (.invokevirtual 69, 3) := by decide +kernel
theorem dX10_feed_67 : decode cX10_feed 67 = .ok (.ireturn, 1) := by decide +kernel
theorem dX10_college_0 : decode cX10_college 0 = .ok (.iload_n 1, 1) := by decide +kernel
theorem dX10_college_1 : decode cX10_college 1 = .ok (.ifCond .lt 14, 3) := by decide +kernel
theorem dX10_college_4 : decode cX10_college 4 = .ok (.iload_n 1, 1) := by decide +kernel
theorem dX10_college_5 : decode cX10_college 5 = .ok (.aload_n 0, 1) := by decide +kernel
theorem dX10_college_6 : decode cX10_college 6 = .ok (.getfield 10, 3) := by decide +kernel
theorem dX10_college_9 : decode cX10_college 9 = .ok (.invokevirtual 69, 3) := by decide +kernel
theorem dX10_college_12 : decode cX10_college 12 = .ok (.if_icmp .le 9, 3) := by decide +kernel
theorem dX10_college_15 : decode cX10_college 15 = .ok (.aload_n 0, 1) := by decide +kernel
theorem dX10_college_16 : decode cX10_college 16 = .ok (.iconst 2, 1) := by decide +kernel
theorem dX10_college_17 : decode cX10_college 17 = .ok (.invokevirtual 77, 3) := by decide +kernel
theorem dX10_college_20 : decode cX10_college 20 = .ok (.ireturn, 1) := by decide +kernel
theorem dX10_college_21 : decode cX10_college 21 = .ok (.aload_n 0, 1) := by decide +kernel
theorem dX10_college_22 : decode cX10_college 22 = .ok (.getfield 10, 3) := by decide +kernel
theorem dX10_college_25 : decode cX10_college 25 = .ok (.iload_n 1, 1) := by decide +kernel
theorem dX10_college_26 : decode cX10_college 26 = .ok (.invokevirtual 81, 3) := by decide +kernel
theorem dX10_college_29 : decode cX10_college 29 = .ok (.ifCond .ne 9, 3) := by decide +kernel
theorem dX10_college_32 : decode cX10_college 32 = .ok (.aload_n 0, 1) := by decide +kernel
theorem dX10_college_33 : decode cX10_college 33 = .ok (.iconst 4, 1) := by decide +kernel
theorem dX10_college_34 : decode cX10_college 34 = .ok (.invokevirtual 77, 3) := by decide +kernel
theorem dX10_college_37 : decode cX10_college 37 = .ok (.ireturn, 1) := by decide +kernel
theorem dX10_college_38 : decode cX10_college 38 = .ok (.aload_n 0, 1) := by decide +kernel
theorem dX10_college_39 : decode cX10_college 39 = .ok (.aload_n 0, 1) := by decide +kernel
theorem dX10_college_40 : decode cX10_college 40 = .ok (.getfield 10, 3) := by decide +kernel
theorem dX10_college_43 : decode cX10_college 43 = .ok (.aload_n 0, 1) := by decide +kernel
theorem dX10_college_44 : decode cX10_college 44 = .ok (.getfield 65, 3) := by decide +kernel
theorem dX10_college_47 : decode cX10_college 47 = .ok (.invokevirtual 85, 3) := by decide +kernel
theorem dX10_college_50 : decode cX10_college 50 = .ok (.putfield 65, 3) := by decide +kernel
theorem dX10_college_53 : decode cX10_college 53 = .ok (.aload_n 0, 1) := by decide +kernel
theorem dX10_college_54 : decode cX10_college 54 = .ok (.getfield 19, 3) := by decide +kernel
theorem dX10_college_57 : decode cX10_college 57 = .ok (.invokevirtual 89, 3) := by decide +kernel
theorem dX10_college_60 : decode cX10_college 60 = .ok (.aload_n 0, 1) := by decide +kernel
theorem dX10_college_61 : decode cX10_college 61 = .ok (.getfield 26, 3) := by decide +kernel
theorem dX10_college_64 : decode cX10_college 64 = .ok (.invokevirtual 92, 3) := by decide +kernel
theorem dX10_college_67 : decode cX10_college 67 = .ok (.aload_n 0, 1) := by decide +kernel
theorem dX10_college_68 : decode cX10_college 68 = .ok (.getfield 40, 3) := by decide +kernel
theorem dX10_college_71 : decode cX10_college 71 = .ok (.invokevirtual 95, 3) := by decide +kernel
theorem dX10_college_74 : decode cX10_college 74 = .ok (.aload_n 0, 1) := by decide +kernel
theorem dX10_college_75 : decode cX10_college 75 = .ok (.getfield 47, 3) := by decide +kernel
theorem dX10_college_78 : decode cX10_college 78 = .ok (.invokevirtual 98, 3) := by decide +kernel
theorem dX10_college_81 : decode cX10_college 81 = .ok (.aload_n 0, 1) := by decide +kernel
theorem dX10_college_82 : decode cX10_college 82 = .ok (.aload_n 0, 1) := by decide +kernel
theorem dX10_college_83 : decode cX10_college 83 = .ok (.getfield 65, 3) := by decide +kernel
theorem dX10_college_86 : decode cX10_college 86 = .ok (.iconst 2, 1) := by decide +kernel
theorem dX10_college_87 : decode cX10_college 87 = .ok (.invokevirtual 99, 3) := by decide +kernel
theorem dX10_college_90 : decode cX10_college 90 = .ok (.invokevirtual 102, 3) := by decide +kernel
theorem dX10_college_93 : decode cX10_college 93 = .ok (.ireturn, 1) := by decide +kernel
theorem dX10_fault_0 : decode cX10_fault 0 = .ok (.aload_n 0, 1) := by decide +kernel
theorem dX10_fault_1 : decode cX10_fault 1 = .ok (.getfield 10, 3) := by decide +kernel
theorem dX10_fault_4 : decode cX10_fault 4 = .ok (.invokevirtual 105, 3) := by decide +kernel
theorem dX10_fault_7 : decode cX10_fault 7 = .ok (.ireturn, 1) := by decide +kernel
theorem dX10_where_0 : decode cX10_where 0 = .ok (.aload_n 0, 1) := by decide +kernel
theorem dX10_where_1 : decode cX10_where 1 = .ok (.getfield 58, 3) := by decide +kernel
theorem dX10_where_4 : decode cX10_where 4 = .ok (.iconst 4, 1) := by decide +kernel
theorem dX10_where_5 : decode cX10_where 5 = .ok (.if_icmp .ne 13, 3) := by decide +kernel
theorem dX10_where_8 : decode cX10_where 8 = .ok (.aload_n 0, 1) := by decide +kernel
theorem dX10_where_9 : decode cX10_where 9 = .ok (.getfield 10, 3) := by decide +kernel
theorem dX10_where_12 : decode cX10_where 12 = .ok (.invokevirtual 108, 3) := by decide +kernel
theorem dX10_where_15 : decode cX10_where 15 = .ok (.goto 4, 3) := by decide +kernel
theorem dX10_where_18 : decode cX10_where 18 = .ok (.iconst (-1), 1) := by decide +kernel
theorem dX10_where_19 : decode cX10_where 19 = .ok (.ireturn, 1) := by decide +kernel
theorem dX10_thing_0 : decode cX10_thing 0 = .ok (.aload_n 0, 1) := by decide +kernel
theorem dX10_thing_1 : decode cX10_thing 1 = .ok (.getfield 65, 3) := by decide +kernel
theorem dX10_thing_4 : decode cX10_thing 4 = .ok (.iconst 2, 1) := by decide +kernel
theorem dX10_thing_5 : decode cX10_thing 5 = .ok (.iload_n 1, 1) := by decide +kernel
theorem dX10_thing_6 : decode cX10_thing 6 = .ok (.invokevirtual 111, 3) := by decide +kernel
theorem dX10_thing_9 : decode cX10_thing 9 = .ok (.ifCond .ne 9, 3) := by decide +kernel
theorem dX10_thing_12 : decode cX10_thing 12 = .ok (.aload_n 0, 1) := by decide +kernel
theorem dX10_thing_13 : decode cX10_thing 13 = .ok (.iconst 1, 1) := by decide +kernel
theorem dX10_thing_14 : decode cX10_thing 14 = .ok (.invokevirtual 77, 3) := by decide +kernel
theorem dX10_thing_17 : decode cX10_thing 17 = .ok (.ireturn, 1) := by decide +kernel
theorem dX10_thing_18 : decode cX10_thing 18 = .ok (.iload_n 2, 1) := by decide +kernel
theorem dX10_thing_19 : decode cX10_thing 19 = .ok (.tableswitch 72 0 2 #[25, 42, 59], 25) := by decide +kernel
theorem dX10_thing_44 : decode cX10_thing 44 = .ok (.aload_n 0, 1) := by decide +kernel
theorem dX10_thing_45 : decode cX10_thing 45 = .ok (.aload_n 0, 1) := by decide +kernel
theorem dX10_thing_46 : decode cX10_thing 46 = .ok (.getfield 65, 3) := by decide +kernel
theorem dX10_thing_49 : decode cX10_thing 49 = .ok (.getfield 115, 3) := by decide +kernel
theorem dX10_thing_52 : decode cX10_thing 52 = .ok (.iload_n 1, 1) := by decide +kernel
theorem dX10_thing_53 : decode cX10_thing 53 = .ok (.iconst 0, 1) := by decide +kernel
theorem dX10_thing_54 : decode cX10_thing 54 = .ok (.invokevirtual 119, 3) := by decide +kernel
theorem dX10_thing_57 : decode cX10_thing 57 = .ok (.invokevirtual 102, 3) := by decide +kernel
theorem dX10_thing_60 : decode cX10_thing 60 = .ok (.ireturn, 1) := by decide +kernel
theorem dX10_thing_61 : decode cX10_thing 61 = .ok (.aload_n 0, 1) := by decide +kernel
theorem dX10_thing_62 : decode cX10_thing 62 = .ok (.aload_n 0, 1) := by decide +kernel
theorem dX10_thing_63 : decode cX10_thing 63 = .ok (.getfield 65, 3) := by decide +kernel
theorem dX10_thing_66 : decode cX10_thing 66 = .ok (.getfield 115, 3) := by decide +kernel
theorem dX10_thing_69 : decode cX10_thing 69 = .ok (.iload_n 1, 1) := by decide +kernel
theorem dX10_thing_70 : decode cX10_thing 70 = .ok (.iconst 1, 1) := by decide +kernel
theorem dX10_thing_71 : decode cX10_thing 71 = .ok (.invokevirtual 119, 3) := by decide +kernel
theorem dX10_thing_74 : decode cX10_thing 74 = .ok (.invokevirtual 102, 3) := by decide +kernel
theorem dX10_thing_77 : decode cX10_thing 77 = .ok (.ireturn, 1) := by decide +kernel
theorem dX10_thing_78 : decode cX10_thing 78 = .ok (.aload_n 0, 1) := by decide +kernel
theorem dX10_thing_79 : decode cX10_thing 79 = .ok (.aload_n 0, 1) := by decide +kernel
theorem dX10_thing_80 : decode cX10_thing 80 = .ok (.getfield 19, 3) := by decide +kernel
theorem dX10_thing_83 : decode cX10_thing 83 = .ok (.iload_n 1, 1) := by decide +kernel
theorem dX10_thing_84 : decode cX10_thing 84 = .ok (.invokevirtual 125, 3) := by decide +kernel
theorem dX10_thing_87 : decode cX10_thing 87 = .ok (.invokevirtual 102, 3) := by decide +kernel
theorem dX10_thing_90 : decode cX10_thing 90 = .ok (.ireturn, 1) := by decide +kernel
theorem dX10_thing_91 : decode cX10_thing 91 = .ok (.aload_n 0, 1) := by decide +kernel
theorem dX10_thing_92 : decode cX10_thing 92 = .ok (.iconst 1, 1) := by decide +kernel
theorem dX10_thing_93 : decode cX10_thing 93 = .ok (.invokevirtual 77, 3) := by decide +kernel
theorem dX10_thing_96 : decode cX10_thing 96 = .ok (.ireturn, 1) := by decide +kernel
theorem dX10_person_0 : decode cX10_person 0 = .ok (.aload_n 0, 1) := by decide +kernel
theorem dX10_person_1 : decode cX10_person 1 = .ok (.getfield 65, 3) := by decide +kernel
theorem dX10_person_4 : decode cX10_person 4 = .ok (.iconst 3, 1) := by decide +kernel
theorem dX10_person_5 : decode cX10_person 5 = .ok (.iload_n 1, 1) := by decide +kernel
theorem dX10_person_6 : decode cX10_person 6 = .ok (.invokevirtual 111, 3) := by decide +kernel
theorem dX10_person_9 : decode cX10_person 9 = .ok (.ifCond .ne 9, 3) := by decide +kernel
theorem dX10_person_12 : decode cX10_person 12 = .ok (.aload_n 0, 1) := by decide +kernel
theorem dX10_person_13 : decode cX10_person 13 = .ok (.iconst 1, 1) := by decide +kernel
theorem dX10_person_14 : decode cX10_person 14 = .ok (.invokevirtual 77, 3) := by decide +kernel
theorem dX10_person_17 : decode cX10_person 17 = .ok (.ireturn, 1) := by decide +kernel
theorem dX10_person_18 : decode cX10_person 18 = .ok (.iload_n 2, 1) := by decide +kernel
theorem dX10_person_19 : decode cX10_person 19 = .ok (.tableswitch 93 0 3 #[29, 46, 63, 80], 29) := by decide +kernel
theorem dX10_person_48 : decode cX10_person 48 = .ok (.aload_n 0, 1) := by decide +kernel
theorem dX10_person_49 : decode cX10_person 49 = .ok (.aload_n 0, 1) := by decide +kernel
theorem dX10_person_50 : decode cX10_person 50 = .ok (.getfield 65, 3) := by decide +kernel
theorem dX10_person_53 : decode cX10_person 53 = .ok (.getfield 128, 3) := by decide +kernel
theorem dX10_person_56 : decode cX10_person 56 = .ok (.iload_n 1, 1) := by decide +kernel
theorem dX10_person_57 : decode cX10_person 57 = .ok (.iconst 0, 1) := by decide +kernel
theorem dX10_person_58 : decode cX10_person 58 = .ok (.invokevirtual 119, 3) := by decide +kernel
theorem dX10_person_61 : decode cX10_person 61 = .ok (.invokevirtual 102, 3) := by decide +kernel
theorem dX10_person_64 : decode cX10_person 64 = .ok (.ireturn, 1) := by decide +kernel
theorem dX10_person_65 : decode cX10_person 65 = .ok (.aload_n 0, 1) := by decide +kernel
theorem dX10_person_66 : decode cX10_person 66 = .ok (.aload_n 0, 1) := by decide +kernel
theorem dX10_person_67 : decode cX10_person 67 = .ok (.getfield 19, 3) := by decide +kernel
theorem dX10_person_70 : decode cX10_person 70 = .ok (.aload_n 0, 1) := by decide +kernel
theorem dX10_person_71 : decode cX10_person 71 = .ok (.getfield 65, 3) := by decide +kernel
theorem dX10_person_74 : decode cX10_person 74 = .ok (.iload_n 1, 1) := by decide +kernel
theorem dX10_person_75 : decode cX10_person 75 = .ok (.invokevirtual 131, 3) := by decide +kernel
theorem dX10_person_78 : decode cX10_person 78 = .ok (.invokevirtual 102, 3) := by decide +kernel
theorem dX10_person_81 : decode cX10_person 81 = .ok (.ireturn, 1) := by decide +kernel
theorem dX10_person_82 : decode cX10_person 82 = .ok (.aload_n 0, 1) := by decide +kernel
theorem dX10_person_83 : decode cX10_person 83 = .ok (.aload_n 0, 1) := by decide +kernel
theorem dX10_person_84 : decode cX10_person 84 = .ok (.getfield 65, 3) := by decide +kernel
theorem dX10_person_87 : decode cX10_person 87 = .ok (.getfield 128, 3) := by decide +kernel
theorem dX10_person_90 : decode cX10_person 90 = .ok (.iload_n 1, 1) := by decide +kernel
theorem dX10_person_91 : decode cX10_person 91 = .ok (.iconst 2, 1) := by decide +kernel
theorem dX10_person_92 : decode cX10_person 92 = .ok (.invokevirtual 119, 3) := by decide +kernel
theorem dX10_person_95 : decode cX10_person 95 = .ok (.invokevirtual 102, 3) := by decide +kernel
theorem dX10_person_98 : decode cX10_person 98 = .ok (.ireturn, 1) := by decide +kernel
theorem dX10_person_99 : decode cX10_person 99 = .ok (.aload_n 0, 1) := by decide +kernel
theorem dX10_person_100 : decode cX10_person 100 = .ok (.aload_n 0, 1) := by decide +kernel
theorem dX10_person_101 : decode cX10_person 101 = .ok (.getfield 19, 3) := by decide +kernel
theorem dX10_person_104 : decode cX10_person 104 = .ok (.iload_n 1, 1) := by decide +kernel
theorem dX10_person_105 : decode cX10_person 105 = .ok (.invokevirtual 135, 3) := by decide +kernel
theorem dX10_person_108 : decode cX10_person 108 = .ok (.invokevirtual 102, 3) := by decide +kernel
theorem dX10_person_111 : decode cX10_person 111 = .ok (.ireturn, 1) := by decide +kernel
theorem dX10_person_112 : decode cX10_person 112 = .ok (.aload_n 0, 1) := by decide +kernel
theorem dX10_person_113 : decode cX10_person 113 = .ok (.iconst 1, 1) := by decide +kernel
theorem dX10_person_114 : decode cX10_person 114 = .ok (.invokevirtual 77, 3) := by decide +kernel
theorem dX10_person_117 : decode cX10_person 117 = .ok (.ireturn, 1) := by decide +kernel
theorem dX10_giver_0 : decode cX10_giver 0 = .ok (.aload_n 0, 1) := by decide +kernel
theorem dX10_giver_1 : decode cX10_giver 1 = .ok (.getfield 65, 3) := by decide +kernel
theorem dX10_giver_4 : decode cX10_giver 4 = .ok (.iconst 5, 1) := by decide +kernel
theorem dX10_giver_5 : decode cX10_giver 5 = .ok (.iload_n 1, 1) := by decide +kernel
theorem dX10_giver_6 : decode cX10_giver 6 = .ok (.invokevirtual 111, 3) := by decide +kernel
theorem dX10_giver_9 : decode cX10_giver 9 = .ok (.ifCond .ne 9, 3) := by decide +kernel
theorem dX10_giver_12 : decode cX10_giver 12 = .ok (.aload_n 0, 1) := by decide +kernel
theorem dX10_giver_13 : decode cX10_giver 13 = .ok (.iconst 1, 1) := by decide +kernel
theorem dX10_giver_14 : decode cX10_giver 14 = .ok (.invokevirtual 77, 3) := by decide +kernel
theorem dX10_giver_17 : decode cX10_giver 17 = .ok (.ireturn, 1) := by decide +kernel
theorem dX10_giver_18 : decode cX10_giver 18 = .ok (.iload_n 2, 1) := by decide +kernel
theorem dX10_giver_19 : decode cX10_giver 19 = .ok (.tableswitch 68 0 2 #[25, 42, 55], 25) := by decide +kernel
theorem dX10_giver_44 : decode cX10_giver 44 = .ok (.aload_n 0, 1) := by decide +kernel
theorem dX10_giver_45 : decode cX10_giver 45 = .ok (.aload_n 0, 1) := by decide +kernel
theorem dX10_giver_46 : decode cX10_giver 46 = .ok (.getfield 65, 3) := by decide +kernel
theorem dX10_giver_49 : decode cX10_giver 49 = .ok (.getfield 138, 3) := by decide +kernel
theorem dX10_giver_52 : decode cX10_giver 52 = .ok (.iload_n 1, 1) := by decide +kernel
theorem dX10_giver_53 : decode cX10_giver 53 = .ok (.iconst 0, 1) := by decide +kernel
theorem dX10_giver_54 : decode cX10_giver 54 = .ok (.invokevirtual 119, 3) := by decide +kernel
theorem dX10_giver_57 : decode cX10_giver 57 = .ok (.invokevirtual 102, 3) := by decide +kernel
theorem dX10_giver_60 : decode cX10_giver 60 = .ok (.ireturn, 1) := by decide +kernel
theorem dX10_giver_61 : decode cX10_giver 61 = .ok (.aload_n 0, 1) := by decide +kernel
theorem dX10_giver_62 : decode cX10_giver 62 = .ok (.aload_n 0, 1) := by decide +kernel
theorem dX10_giver_63 : decode cX10_giver 63 = .ok (.getfield 19, 3) := by decide +kernel
theorem dX10_giver_66 : decode cX10_giver 66 = .ok (.iload_n 1, 1) := by decide +kernel
theorem dX10_giver_67 : decode cX10_giver 67 = .ok (.invokevirtual 141, 3) := by decide +kernel
theorem dX10_giver_70 : decode cX10_giver 70 = .ok (.invokevirtual 102, 3) := by decide +kernel
theorem dX10_giver_73 : decode cX10_giver 73 = .ok (.ireturn, 1) := by decide +kernel
theorem dX10_giver_74 : decode cX10_giver 74 = .ok (.aload_n 0, 1) := by decide +kernel
theorem dX10_giver_75 : decode cX10_giver 75 = .ok (.aload_n 0, 1) := by decide +kernel
theorem dX10_giver_76 : decode cX10_giver 76 = .ok (.getfield 19, 3) := by decide +kernel
theorem dX10_giver_79 : decode cX10_giver 79 = .ok (.iload_n 1, 1) := by decide +kernel
theorem dX10_giver_80 : decode cX10_giver 80 = .ok (.invokevirtual 144, 3) := by decide +kernel
theorem dX10_giver_83 : decode cX10_giver 83 = .ok (.invokevirtual 102, 3) := by decide +kernel
theorem dX10_giver_86 : decode cX10_giver 86 = .ok (.ireturn, 1) := by decide +kernel
theorem dX10_giver_87 : decode cX10_giver 87 = .ok (.aload_n 0, 1) := by decide +kernel
theorem dX10_giver_88 : decode cX10_giver 88 = .ok (.iconst 1, 1) := by decide +kernel
theorem dX10_giver_89 : decode cX10_giver 89 = .ok (.invokevirtual 77, 3) := by decide +kernel
theorem dX10_giver_92 : decode cX10_giver 92 = .ok (.ireturn, 1) := by decide +kernel
theorem dX10_rides_0 : decode cX10_rides 0 = .ok (.aload_n 0, 1) := by decide +kernel
theorem dX10_rides_1 : decode cX10_rides 1 = .ok (.iconst 3, 1) := by decide +kernel
theorem dX10_rides_2 : decode cX10_rides 2 = .ok (.iload_n 1, 1) := by decide +kernel
theorem dX10_rides_3 : decode cX10_rides 3 = .ok (.iload_n 2, 1) := by decide +kernel
theorem dX10_rides_4 : decode cX10_rides 4 = .ok (.invokevirtual 147, 3) := by decide +kernel
theorem dX10_rides_7 : decode cX10_rides 7 = .ok (.istore_n 3, 1) := by decide +kernel
theorem dX10_rides_8 : decode cX10_rides 8 = .ok (.iload_n 3, 1) := by decide +kernel
theorem dX10_rides_9 : decode cX10_rides 9 = .ok (.ifCond .eq 11, 3) := by decide +kernel
theorem dX10_rides_12 : decode cX10_rides 12 = .ok (.aload_n 0, 1) := by decide +kernel
theorem dX10_rides_13 : decode cX10_rides 13 = .ok (.iload_n 3, 1) := by decide +kernel
theorem dX10_rides_14 : decode cX10_rides 14 = .ok (.invokevirtual 77, 3) := by decide +kernel
theorem dX10_rides_17 : decode cX10_rides 17 = .ok (.goto 19, 3) := by decide +kernel
theorem dX10_rides_20 : decode cX10_rides 20 = .ok (.aload_n 0, 1) := by decide +kernel
theorem dX10_rides_21 : decode cX10_rides 21 = .ok (.aload_n 0, 1) := by decide +kernel
theorem dX10_rides_22 : decode cX10_rides 22 = .ok (.getfield 65, 3) := by decide +kernel
theorem dX10_rides_25 : decode cX10_rides 25 = .ok (.getfield 151, 3) := by decide +kernel
theorem dX10_rides_28 : decode cX10_rides 28 = .ok (.iload_n 1, 1) := by decide +kernel
theorem dX10_rides_29 : decode cX10_rides 29 = .ok (.iload_n 2, 1) := by decide +kernel
theorem dX10_rides_30 : decode cX10_rides 30 = .ok (.invokevirtual 119, 3) := by decide +kernel
theorem dX10_rides_33 : decode cX10_rides 33 = .ok (.invokevirtual 102, 3) := by decide +kernel
theorem dX10_rides_36 : decode cX10_rides 36 = .ok (.ireturn, 1) := by decide +kernel
theorem dX10_takes_0 : decode cX10_takes 0 = .ok (.aload_n 0, 1) := by decide +kernel
theorem dX10_takes_1 : decode cX10_takes 1 = .ok (.iconst 5, 1) := by decide +kernel
theorem dX10_takes_2 : decode cX10_takes 2 = .ok (.iload_n 1, 1) := by decide +kernel
theorem dX10_takes_3 : decode cX10_takes 3 = .ok (.iload_n 2, 1) := by decide +kernel
theorem dX10_takes_4 : decode cX10_takes 4 = .ok (.invokevirtual 147, 3) := by decide +kernel
theorem dX10_takes_7 : decode cX10_takes 7 = .ok (.istore_n 3, 1) := by decide +kernel
theorem dX10_takes_8 : decode cX10_takes 8 = .ok (.iload_n 3, 1) := by decide +kernel
theorem dX10_takes_9 : decode cX10_takes 9 = .ok (.ifCond .eq 11, 3) := by decide +kernel
theorem dX10_takes_12 : decode cX10_takes 12 = .ok (.aload_n 0, 1) := by decide +kernel
theorem dX10_takes_13 : decode cX10_takes 13 = .ok (.iload_n 3, 1) := by decide +kernel
theorem dX10_takes_14 : decode cX10_takes 14 = .ok (.invokevirtual 77, 3) := by decide +kernel
theorem dX10_takes_17 : decode cX10_takes 17 = .ok (.goto 19, 3) := by decide +kernel
theorem dX10_takes_20 : decode cX10_takes 20 = .ok (.aload_n 0, 1) := by decide +kernel
theorem dX10_takes_21 : decode cX10_takes 21 = .ok (.aload_n 0, 1) := by decide +kernel
theorem dX10_takes_22 : decode cX10_takes 22 = .ok (.getfield 65, 3) := by decide +kernel
theorem dX10_takes_25 : decode cX10_takes 25 = .ok (.getfield 154, 3) := by decide +kernel
theorem dX10_takes_28 : decode cX10_takes 28 = .ok (.iload_n 1, 1) := by decide +kernel
theorem dX10_takes_29 : decode cX10_takes 29 = .ok (.iload_n 2, 1) := by decide +kernel
theorem dX10_takes_30 : decode cX10_takes 30 = .ok (.invokevirtual 119, 3) := by decide +kernel
theorem dX10_takes_33 : decode cX10_takes 33 = .ok (.invokevirtual 102, 3) := by decide +kernel
theorem dX10_takes_36 : decode cX10_takes 36 = .ok (.ireturn, 1) := by decide +kernel
theorem dX10_meet_0 : decode cX10_meet 0 = .ok (.aload_n 0, 1) := by decide +kernel
theorem dX10_meet_1 : decode cX10_meet 1 = .ok (.getfield 65, 3) := by decide +kernel
theorem dX10_meet_4 : decode cX10_meet 4 = .ok (.iconst 5, 1) := by decide +kernel
theorem dX10_meet_5 : decode cX10_meet 5 = .ok (.iload_n 1, 1) := by decide +kernel
theorem dX10_meet_6 : decode cX10_meet 6 = .ok (.invokevirtual 111, 3) := by decide +kernel
theorem dX10_meet_9 : decode cX10_meet 9 = .ok (.ifCond .eq 20, 3) := by decide +kernel
theorem dX10_meet_12 : decode cX10_meet 12 = .ok (.aload_n 0, 1) := by decide +kernel
theorem dX10_meet_13 : decode cX10_meet 13 = .ok (.getfield 65, 3) := by decide +kernel
theorem dX10_meet_16 : decode cX10_meet 16 = .ok (.iconst 5, 1) := by decide +kernel
theorem dX10_meet_17 : decode cX10_meet 17 = .ok (.iload_n 2, 1) := by decide +kernel
theorem dX10_meet_18 : decode cX10_meet 18 = .ok (.invokevirtual 111, 3) := by decide +kernel
theorem dX10_meet_21 : decode cX10_meet 21 = .ok (.ifCond .eq 8, 3) := by decide +kernel
theorem dX10_meet_24 : decode cX10_meet 24 = .ok (.iload_n 1, 1) := by decide +kernel
theorem dX10_meet_25 : decode cX10_meet 25 = .ok (.iload_n 2, 1) := by decide +kernel
theorem dX10_meet_26 : decode cX10_meet 26 = .ok (.if_icmp .ne 9, 3) := by decide +kernel
theorem dX10_meet_29 : decode cX10_meet 29 = .ok (.aload_n 0, 1) := by decide +kernel
theorem dX10_meet_30 : decode cX10_meet 30 = .ok (.iconst 1, 1) := by decide +kernel
theorem dX10_meet_31 : decode cX10_meet 31 = .ok (.invokevirtual 77, 3) := by decide +kernel
theorem dX10_meet_34 : decode cX10_meet 34 = .ok (.ireturn, 1) := by decide +kernel
theorem dX10_meet_35 : decode cX10_meet 35 = .ok (.iconst 0, 1) := by decide +kernel
theorem dX10_meet_36 : decode cX10_meet 36 = .ok (.istore_n 3, 1) := by decide +kernel
theorem dX10_meet_37 : decode cX10_meet 37 = .ok (.iconst 0, 1) := by decide +kernel
theorem dX10_meet_38 : decode cX10_meet 38 = .ok (.istore 4, 2) := by decide +kernel
theorem dX10_meet_40 : decode cX10_meet 40 = .ok (.iload 4, 2) := by decide +kernel
theorem dX10_meet_42 : decode cX10_meet 42 = .ok (.aload_n 0, 1) := by decide +kernel
theorem dX10_meet_43 : decode cX10_meet 43 = .ok (.getfield 65, 3) := by decide +kernel
theorem dX10_meet_46 : decode cX10_meet 46 = .ok (.iconst 0, 1) := by decide +kernel
theorem dX10_meet_47 : decode cX10_meet 47 = .ok (.invokevirtual 99, 3) := by decide +kernel
theorem dX10_meet_50 : decode cX10_meet 50 = .ok (.if_icmp .ge 54, 3) := by decide +kernel
theorem dX10_meet_53 : decode cX10_meet 53 = .ok (.aload_n 0, 1) := by decide +kernel
theorem dX10_meet_54 : decode cX10_meet 54 = .ok (.getfield 65, 3) := by decide +kernel
theorem dX10_meet_57 : decode cX10_meet 57 = .ok (.getfield 154, 3) := by decide +kernel
theorem dX10_meet_60 : decode cX10_meet 60 = .ok (.iload_n 1, 1) := by decide +kernel
theorem dX10_meet_61 : decode cX10_meet 61 = .ok (.iload 4, 2) := by decide +kernel
theorem dX10_meet_63 : decode cX10_meet 63 = .ok (.invokevirtual 119, 3) := by decide +kernel
theorem dX10_meet_66 : decode cX10_meet 66 = .ok (.istore 5, 2) := by decide +kernel
theorem dX10_meet_68 : decode cX10_meet 68 = .ok (.iload 5, 2) := by decide +kernel
theorem dX10_meet_70 : decode cX10_meet 70 = .ok (.ifCond .lt 28, 3) := by decide +kernel
theorem dX10_meet_73 : decode cX10_meet 73 = .ok (.iload 5, 2) := by decide +kernel
theorem dX10_meet_75 : decode cX10_meet 75 = .ok (.aload_n 0, 1) := by decide +kernel
theorem dX10_meet_76 : decode cX10_meet 76 = .ok (.getfield 65, 3) := by decide +kernel
theorem dX10_meet_79 : decode cX10_meet 79 = .ok (.getfield 154, 3) := by decide +kernel
theorem dX10_meet_82 : decode cX10_meet 82 = .ok (.iload_n 2, 1) := by decide +kernel
theorem dX10_meet_83 : decode cX10_meet 83 = .ok (.iload 4, 2) := by decide +kernel
theorem dX10_meet_85 : decode cX10_meet 85 = .ok (.invokevirtual 119, 3) := by decide +kernel
theorem dX10_meet_88 : decode cX10_meet 88 = .ok (.if_icmp .ne 10, 3) := by decide +kernel
theorem dX10_meet_91 : decode cX10_meet 91 = .ok (.iload_n 3, 1) := by decide +kernel
theorem dX10_meet_92 : decode cX10_meet 92 = .ok (.iconst 1, 1) := by decide +kernel
theorem dX10_meet_93 : decode cX10_meet 93 = .ok (.iload 4, 2) := by decide +kernel
theorem dX10_meet_95 : decode cX10_meet 95 = .ok (.ishl, 1) := by decide +kernel
theorem dX10_meet_96 : decode cX10_meet 96 = .ok (.ior, 1) := by decide +kernel
theorem dX10_meet_97 : decode cX10_meet 97 = .ok (.istore_n 3, 1) := by decide +kernel
theorem dX10_meet_98 : decode cX10_meet 98 = .ok (.iinc 4 1, 3) := by decide +kernel
theorem dX10_meet_101 : decode cX10_meet 101 = .ok (.goto (-61), 3) := by decide +kernel
theorem dX10_meet_104 : decode cX10_meet 104 = .ok (.aload_n 0, 1) := by decide +kernel
theorem dX10_meet_105 : decode cX10_meet 105 = .ok (.iload_n 3, 1) := by decide +kernel
theorem dX10_meet_106 : decode cX10_meet 106 = .ok (.invokevirtual 102, 3) := by decide +kernel
theorem dX10_meet_109 : decode cX10_meet 109 = .ok (.ireturn, 1) := by decide +kernel
theorem dX10_near_0 : decode cX10_near 0 = .ok (.aload_n 0, 1) := by decide +kernel
theorem dX10_near_1 : decode cX10_near 1 = .ok (.iload_n 1, 1) := by decide +kernel
theorem dX10_near_2 : decode cX10_near 2 = .ok (.iload_n 2, 1) := by decide +kernel
theorem dX10_near_3 : decode cX10_near 3 = .ok (.iload_n 3, 1) := by decide +kernel
theorem dX10_near_4 : decode cX10_near 4 = .ok (.invokevirtual 157, 3) := by decide +kernel
theorem dX10_near_7 : decode cX10_near 7 = .ok (.ifCond .eq 16, 3) := by decide +kernel
theorem dX10_near_10 : decode cX10_near 10 = .ok (.aload_n 0, 1) := by decide +kernel
theorem dX10_near_11 : decode cX10_near 11 = .ok (.getfield 65, 3) := by decide +kernel
theorem dX10_near_14 : decode cX10_near 14 = .ok (.iconst 4, 1) := by decide +kernel
theorem dX10_near_15 : decode cX10_near 15 = .ok (.iload 4, 2) := by decide +kernel
theorem dX10_near_17 : decode cX10_near 17 = .ok (.invokevirtual 111, 3) := by decide +kernel
theorem dX10_near_20 : decode cX10_near 20 = .ok (.ifCond .ne 9, 3) := by decide +kernel
theorem dX10_near_23 : decode cX10_near 23 = .ok (.aload_n 0, 1) := by decide +kernel
theorem dX10_near_24 : decode cX10_near 24 = .ok (.iconst 1, 1) := by decide +kernel
theorem dX10_near_25 : decode cX10_near 25 = .ok (.invokevirtual 77, 3) := by decide +kernel
theorem dX10_near_28 : decode cX10_near 28 = .ok (.ireturn, 1) := by decide +kernel
theorem dX10_near_29 : decode cX10_near 29 = .ok (.aload_n 0, 1) := by decide +kernel
theorem dX10_near_30 : decode cX10_near 30 = .ok (.aload_n 0, 1) := by decide +kernel
theorem dX10_near_31 : decode cX10_near 31 = .ok (.getfield 65, 3) := by decide +kernel
theorem dX10_near_34 : decode cX10_near 34 = .ok (.iload_n 1, 1) := by decide +kernel
theorem dX10_near_35 : decode cX10_near 35 = .ok (.iload_n 2, 1) := by decide +kernel
theorem dX10_near_36 : decode cX10_near 36 = .ok (.iload_n 3, 1) := by decide +kernel
theorem dX10_near_37 : decode cX10_near 37 = .ok (.iload 4, 2) := by decide +kernel
theorem dX10_near_39 : decode cX10_near 39 = .ok (.aload_n 0, 1) := by decide +kernel
theorem dX10_near_40 : decode cX10_near 40 = .ok (.getfield 19, 3) := by decide +kernel
theorem dX10_near_43 : decode cX10_near 43 = .ok (.iload_n 3, 1) := by decide +kernel
theorem dX10_near_44 : decode cX10_near 44 = .ok (.invokevirtual 161, 3) := by decide +kernel
theorem dX10_near_47 : decode cX10_near 47 = .ok (.invokevirtual 164, 3) := by decide +kernel
theorem dX10_near_50 : decode cX10_near 50 = .ok (.invokevirtual 102, 3) := by decide +kernel
theorem dX10_near_53 : decode cX10_near 53 = .ok (.ireturn, 1) := by decide +kernel
theorem dX10_would_0 : decode cX10_would 0 = .ok (.aload_n 0, 1) := by decide +kernel
theorem dX10_would_1 : decode cX10_would 1 = .ok (.iload_n 1, 1) := by decide +kernel
theorem dX10_would_2 : decode cX10_would 2 = .ok (.iload_n 2, 1) := by decide +kernel
theorem dX10_would_3 : decode cX10_would 3 = .ok (.iload_n 3, 1) := by decide +kernel
theorem dX10_would_4 : decode cX10_would 4 = .ok (.invokevirtual 157, 3) := by decide +kernel
theorem dX10_would_7 : decode cX10_would 7 = .ok (.ifCond .ne 9, 3) := by decide +kernel
theorem dX10_would_10 : decode cX10_would 10 = .ok (.aload_n 0, 1) := by decide +kernel
theorem dX10_would_11 : decode cX10_would 11 = .ok (.iconst 1, 1) := by decide +kernel
theorem dX10_would_12 : decode cX10_would 12 = .ok (.invokevirtual 77, 3) := by decide +kernel
theorem dX10_would_15 : decode cX10_would 15 = .ok (.ireturn, 1) := by decide +kernel
theorem dX10_would_16 : decode cX10_would 16 = .ok (.aload_n 0, 1) := by decide +kernel
theorem dX10_would_17 : decode cX10_would 17 = .ok (.aload_n 0, 1) := by decide +kernel
theorem dX10_would_18 : decode cX10_would 18 = .ok (.getfield 19, 3) := by decide +kernel
theorem dX10_would_21 : decode cX10_would 21 = .ok (.aload_n 0, 1) := by decide +kernel
theorem dX10_would_22 : decode cX10_would 22 = .ok (.getfield 65, 3) := by decide +kernel
theorem dX10_would_25 : decode cX10_would 25 = .ok (.aload_n 0, 1) := by decide +kernel
theorem dX10_would_26 : decode cX10_would 26 = .ok (.getfield 19, 3) := by decide +kernel
theorem dX10_would_29 : decode cX10_would 29 = .ok (.invokevirtual 168, 3) := by decide +kernel
theorem dX10_would_32 : decode cX10_would 32 = .ok (.iload_n 1, 1) := by decide +kernel
theorem dX10_would_33 : decode cX10_would 33 = .ok (.iload_n 2, 1) := by decide +kernel
theorem dX10_would_34 : decode cX10_would 34 = .ok (.iload_n 3, 1) := by decide +kernel
theorem dX10_would_35 : decode cX10_would 35 = .ok (.invokevirtual 171, 3) := by decide +kernel
theorem dX10_would_38 : decode cX10_would 38 = .ok (.invokevirtual 102, 3) := by decide +kernel
theorem dX10_would_41 : decode cX10_would 41 = .ok (.ireturn, 1) := by decide +kernel
theorem dX10_riders_0 : decode cX10_riders 0 = .ok (.aload_n 0, 1) := by decide +kernel
theorem dX10_riders_1 : decode cX10_riders 1 = .ok (.iconst 4, 1) := by decide +kernel
theorem dX10_riders_2 : decode cX10_riders 2 = .ok (.iload_n 1, 1) := by decide +kernel
theorem dX10_riders_3 : decode cX10_riders 3 = .ok (.iload_n 2, 1) := by decide +kernel
theorem dX10_riders_4 : decode cX10_riders 4 = .ok (.invokevirtual 147, 3) := by decide +kernel
theorem dX10_riders_7 : decode cX10_riders 7 = .ok (.istore_n 3, 1) := by decide +kernel
theorem dX10_riders_8 : decode cX10_riders 8 = .ok (.iload_n 3, 1) := by decide +kernel
theorem dX10_riders_9 : decode cX10_riders 9 = .ok (.ifCond .eq 9, 3) := by decide +kernel
theorem dX10_riders_12 : decode cX10_riders 12 = .ok (.aload_n 0, 1) := by decide +kernel
theorem dX10_riders_13 : decode cX10_riders 13 = .ok (.iload_n 3, 1) := by decide +kernel
theorem dX10_riders_14 : decode cX10_riders 14 = .ok (.invokevirtual 77, 3) := by decide +kernel
theorem dX10_riders_17 : decode cX10_riders 17 = .ok (.ireturn, 1) := by decide +kernel
theorem dX10_riders_18 : decode cX10_riders 18 = .ok (.iconst 0, 1) := by decide +kernel
theorem dX10_riders_19 : decode cX10_riders 19 = .ok (.istore 4, 2) := by decide +kernel
theorem dX10_riders_21 : decode cX10_riders 21 = .ok (.iconst 0, 1) := by decide +kernel
theorem dX10_riders_22 : decode cX10_riders 22 = .ok (.istore 5, 2) := by decide +kernel
theorem dX10_riders_24 : decode cX10_riders 24 = .ok (.iload 5, 2) := by decide +kernel
theorem dX10_riders_26 : decode cX10_riders 26 = .ok (.aload_n 0, 1) := by decide +kernel
theorem dX10_riders_27 : decode cX10_riders 27 = .ok (.getfield 65, 3) := by decide +kernel
theorem dX10_riders_30 : decode cX10_riders 30 = .ok (.iconst 3, 1) := by decide +kernel
theorem dX10_riders_31 : decode cX10_riders 31 = .ok (.invokevirtual 99, 3) := by decide +kernel
theorem dX10_riders_34 : decode cX10_riders 34 = .ok (.if_icmp .ge 35, 3) := by decide +kernel
theorem dX10_riders_37 : decode cX10_riders 37 = .ok (.aload_n 0, 1) := by decide +kernel
theorem dX10_riders_38 : decode cX10_riders 38 = .ok (.getfield 65, 3) := by decide +kernel
theorem dX10_riders_41 : decode cX10_riders 41 = .ok (.getfield 151, 3) := by decide +kernel
theorem dX10_riders_44 : decode cX10_riders 44 = .ok (.iload 5, 2) := by decide +kernel
theorem dX10_riders_46 : decode cX10_riders 46 = .ok (.iload_n 2, 1) := by decide +kernel
theorem dX10_riders_47 : decode cX10_riders 47 = .ok (.invokevirtual 119, 3) := by decide +kernel
theorem dX10_riders_50 : decode cX10_riders 50 = .ok (.iload_n 1, 1) := by decide +kernel
theorem dX10_riders_51 : decode cX10_riders 51 = .ok (.if_icmp .ne 12, 3) := by decide +kernel
theorem dX10_riders_54 : decode cX10_riders 54 = .ok (.iload 4, 2) := by decide +kernel
theorem dX10_riders_56 : decode cX10_riders 56 = .ok (.iconst 1, 1) := by decide +kernel
theorem dX10_riders_57 : decode cX10_riders 57 = .ok (.iload 5, 2) := by decide +kernel
theorem dX10_riders_59 : decode cX10_riders 59 = .ok (.ishl, 1) := by decide +kernel
theorem dX10_riders_60 : decode cX10_riders 60 = .ok (.ior, 1) := by decide +kernel
theorem dX10_riders_61 : decode cX10_riders 61 = .ok (.istore 4, 2) := by decide +kernel
theorem dX10_riders_63 : decode cX10_riders 63 = .ok (.iinc 5 1, 3) := by decide +kernel
theorem dX10_riders_66 : decode cX10_riders 66 = .ok (.goto (-42), 3) := by decide +kernel
theorem dX10_riders_69 : decode cX10_riders 69 = .ok (.aload_n 0, 1) := by decide +kernel
theorem dX10_riders_70 : decode cX10_riders 70 = .ok (.iload 4, 2) := by decide +kernel
theorem dX10_riders_72 : decode cX10_riders 72 = .ok (.invokevirtual 102, 3) := by decide +kernel
theorem dX10_riders_75 : decode cX10_riders 75 = .ok (.ireturn, 1) := by decide +kernel
theorem dX10_spare_0 : decode cX10_spare 0 = .ok (.aload_n 0, 1) := by decide +kernel
theorem dX10_spare_1 : decode cX10_spare 1 = .ok (.getfield 65, 3) := by decide +kernel
theorem dX10_spare_4 : decode cX10_spare 4 = .ok (.iconst 3, 1) := by decide +kernel
theorem dX10_spare_5 : decode cX10_spare 5 = .ok (.iload_n 1, 1) := by decide +kernel
theorem dX10_spare_6 : decode cX10_spare 6 = .ok (.invokevirtual 111, 3) := by decide +kernel
theorem dX10_spare_9 : decode cX10_spare 9 = .ok (.ifCond .ne 9, 3) := by decide +kernel
theorem dX10_spare_12 : decode cX10_spare 12 = .ok (.aload_n 0, 1) := by decide +kernel
theorem dX10_spare_13 : decode cX10_spare 13 = .ok (.iconst 1, 1) := by decide +kernel
theorem dX10_spare_14 : decode cX10_spare 14 = .ok (.invokevirtual 77, 3) := by decide +kernel
theorem dX10_spare_17 : decode cX10_spare 17 = .ok (.ireturn, 1) := by decide +kernel
theorem dX10_spare_18 : decode cX10_spare 18 = .ok (.aload_n 0, 1) := by decide +kernel
theorem dX10_spare_19 : decode cX10_spare 19 = .ok (.iconst 0, 1) := by decide +kernel
theorem dX10_spare_20 : decode cX10_spare 20 = .ok (.aload_n 0, 1) := by decide +kernel
theorem dX10_spare_21 : decode cX10_spare 21 = .ok (.getfield 19, 3) := by decide +kernel
theorem dX10_spare_24 : decode cX10_spare 24 = .ok (.aload_n 0, 1) := by decide +kernel
theorem dX10_spare_25 : decode cX10_spare 25 = .ok (.getfield 65, 3) := by decide +kernel
theorem dX10_spare_28 : decode cX10_spare 28 = .ok (.iload_n 1, 1) := by decide +kernel
theorem dX10_spare_29 : decode cX10_spare 29 = .ok (.invokevirtual 131, 3) := by decide +kernel
theorem dX10_spare_32 : decode cX10_spare 32 = .ok (.aload_n 0, 1) := by decide +kernel
theorem dX10_spare_33 : decode cX10_spare 33 = .ok (.getfield 19, 3) := by decide +kernel
theorem dX10_spare_36 : decode cX10_spare 36 = .ok (.iload_n 1, 1) := by decide +kernel
theorem dX10_spare_37 : decode cX10_spare 37 = .ok (.invokevirtual 161, 3) := by decide +kernel
theorem dX10_spare_40 : decode cX10_spare 40 = .ok (.isub, 1) := by decide +kernel
theorem dX10_spare_41 : decode cX10_spare 41 = .ok (.invokestatic 175, 3) := by decide +kernel
theorem dX10_spare_44 : decode cX10_spare 44 = .ok (.invokevirtual 102, 3) := by decide +kernel
theorem dX10_spare_47 : decode cX10_spare 47 = .ok (.ireturn, 1) := by decide +kernel
theorem dX10_safest_0 : decode cX10_safest 0 = .ok (.aload_n 0, 1) := by decide +kernel
theorem dX10_safest_1 : decode cX10_safest 1 = .ok (.getfield 65, 3) := by decide +kernel
theorem dX10_safest_4 : decode cX10_safest 4 = .ok (.iconst 2, 1) := by decide +kernel
theorem dX10_safest_5 : decode cX10_safest 5 = .ok (.iload_n 1, 1) := by decide +kernel
theorem dX10_safest_6 : decode cX10_safest 6 = .ok (.invokevirtual 111, 3) := by decide +kernel
theorem dX10_safest_9 : decode cX10_safest 9 = .ok (.ifCond .eq 18, 3) := by decide +kernel
theorem dX10_safest_12 : decode cX10_safest 12 = .ok (.aload_n 0, 1) := by decide +kernel
theorem dX10_safest_13 : decode cX10_safest 13 = .ok (.aload_n 0, 1) := by decide +kernel
theorem dX10_safest_14 : decode cX10_safest 14 = .ok (.getfield 65, 3) := by decide +kernel
theorem dX10_safest_17 : decode cX10_safest 17 = .ok (.iload_n 1, 1) := by decide +kernel
theorem dX10_safest_18 : decode cX10_safest 18 = .ok (.invokevirtual 180, 3) := by decide +kernel
theorem dX10_safest_21 : decode cX10_safest 21 = .ok (.invokevirtual 102, 3) := by decide +kernel
theorem dX10_safest_24 : decode cX10_safest 24 = .ok (.goto 8, 3) := by decide +kernel
theorem dX10_safest_27 : decode cX10_safest 27 = .ok (.aload_n 0, 1) := by decide +kernel
theorem dX10_safest_28 : decode cX10_safest 28 = .ok (.iconst 1, 1) := by decide +kernel
theorem dX10_safest_29 : decode cX10_safest 29 = .ok (.invokevirtual 77, 3) := by decide +kernel
theorem dX10_safest_32 : decode cX10_safest 32 = .ok (.ireturn, 1) := by decide +kernel
theorem dX10_planned_0 : decode cX10_planned 0 = .ok (.aload_n 0, 1) := by decide +kernel
theorem dX10_planned_1 : decode cX10_planned 1 = .ok (.getfield 65, 3) := by decide +kernel
theorem dX10_planned_4 : decode cX10_planned 4 = .ok (.bipush 7, 2) := by decide +kernel
theorem dX10_planned_6 : decode cX10_planned 6 = .ok (.iload_n 1, 1) := by decide +kernel
theorem dX10_planned_7 : decode cX10_planned 7 = .ok (.invokevirtual 111, 3) := by decide +kernel
theorem dX10_planned_10 : decode cX10_planned 10 = .ok (.ifCond .ne 9, 3) := by decide +kernel
theorem dX10_planned_13 : decode cX10_planned 13 = .ok (.aload_n 0, 1) := by decide +kernel
theorem dX10_planned_14 : decode cX10_planned 14 = .ok (.iconst 1, 1) := by decide +kernel
theorem dX10_planned_15 : decode cX10_planned 15 = .ok (.invokevirtual 77, 3) := by decide +kernel
theorem dX10_planned_18 : decode cX10_planned 18 = .ok (.ireturn, 1) := by decide +kernel
theorem dX10_planned_19 : decode cX10_planned 19 = .ok (.aload_n 0, 1) := by decide +kernel
theorem dX10_planned_20 : decode cX10_planned 20 = .ok (.getfield 33, 3) := by decide +kernel
theorem dX10_planned_23 : decode cX10_planned 23 = .ok (.aload_n 0, 1) := by decide +kernel
theorem dX10_planned_24 : decode cX10_planned 24 = .ok (.getfield 65, 3) := by decide +kernel
theorem dX10_planned_27 : decode cX10_planned 27 = .ok (.invokevirtual 183, 3) := by decide +kernel
theorem dX10_planned_30 : decode cX10_planned 30 = .ok (.aload_n 0, 1) := by decide +kernel
theorem dX10_planned_31 : decode cX10_planned 31 = .ok (.aload_n 0, 1) := by decide +kernel
theorem dX10_planned_32 : decode cX10_planned 32 = .ok (.getfield 33, 3) := by decide +kernel
theorem dX10_planned_35 : decode cX10_planned 35 = .ok (.iload_n 1, 1) := by decide +kernel
theorem dX10_planned_36 : decode cX10_planned 36 = .ok (.invokevirtual 187, 3) := by decide +kernel
theorem dX10_planned_39 : decode cX10_planned 39 = .ok (.invokevirtual 102, 3) := by decide +kernel
theorem dX10_planned_42 : decode cX10_planned 42 = .ok (.ireturn, 1) := by decide +kernel
theorem dX10_planHas_0 : decode cX10_planHas 0 = .ok (.aload_n 0, 1) := by decide +kernel
theorem dX10_planHas_1 : decode cX10_planHas 1 = .ok (.iconst 3, 1) := by decide +kernel
theorem dX10_planHas_2 : decode cX10_planHas 2 = .ok (.iload_n 1, 1) := by decide +kernel
theorem dX10_planHas_3 : decode cX10_planHas 3 = .ok (.iload_n 2, 1) := by decide +kernel
theorem dX10_planHas_4 : decode cX10_planHas 4 = .ok (.invokevirtual 147, 3) := by decide +kernel
theorem dX10_planHas_7 : decode cX10_planHas 7 = .ok (.istore_n 3, 1) := by decide +kernel
theorem dX10_planHas_8 : decode cX10_planHas 8 = .ok (.iload_n 3, 1) := by decide +kernel
theorem dX10_planHas_9 : decode cX10_planHas 9 = .ok (.ifCond .eq 9, 3) := by decide +kernel
theorem dX10_planHas_12 : decode cX10_planHas 12 = .ok (.aload_n 0, 1) := by decide +kernel
theorem dX10_planHas_13 : decode cX10_planHas 13 = .ok (.iload_n 3, 1) := by decide +kernel
theorem dX10_planHas_14 : decode cX10_planHas 14 = .ok (.invokevirtual 77, 3) := by decide +kernel
theorem dX10_planHas_17 : decode cX10_planHas 17 = .ok (.ireturn, 1) := by decide +kernel
theorem dX10_planHas_18 : decode cX10_planHas 18 = .ok (.aload_n 0, 1) := by decide +kernel
theorem dX10_planHas_19 : decode cX10_planHas 19 = .ok (.getfield 33, 3) := by decide +kernel
theorem dX10_planHas_22 : decode cX10_planHas 22 = .ok (.aload_n 0, 1) := by decide +kernel
theorem dX10_planHas_23 : decode cX10_planHas 23 = .ok (.getfield 65, 3) := by decide +kernel
theorem dX10_planHas_26 : decode cX10_planHas 26 = .ok (.iload_n 2, 1) := by decide +kernel
theorem dX10_planHas_27 : decode cX10_planHas 27 = .ok (.invokevirtual 190, 3) := by decide +kernel
theorem dX10_planHas_30 : decode cX10_planHas 30 = .ok (.aload_n 0, 1) := by decide +kernel
theorem dX10_planHas_31 : decode cX10_planHas 31 = .ok (.aload_n 0, 1) := by decide +kernel
theorem dX10_planHas_32 : decode cX10_planHas 32 = .ok (.getfield 33, 3) := by decide +kernel
theorem dX10_planHas_35 : decode cX10_planHas 35 = .ok (.iload_n 1, 1) := by decide +kernel
theorem dX10_planHas_36 : decode cX10_planHas 36 = .ok (.invokevirtual 194, 3) := by decide +kernel
theorem dX10_planHas_39 : decode cX10_planHas 39 = .ok (.invokevirtual 102, 3) := by decide +kernel
theorem dX10_planHas_42 : decode cX10_planHas 42 = .ok (.ireturn, 1) := by decide +kernel
theorem dX10_planScore_0 : decode cX10_planScore 0 = .ok (.aload_n 0, 1) := by decide +kernel
theorem dX10_planScore_1 : decode cX10_planScore 1 = .ok (.iconst 5, 1) := by decide +kernel
theorem dX10_planScore_2 : decode cX10_planScore 2 = .ok (.iload_n 1, 1) := by decide +kernel
theorem dX10_planScore_3 : decode cX10_planScore 3 = .ok (.iload_n 2, 1) := by decide +kernel
theorem dX10_planScore_4 : decode cX10_planScore 4 = .ok (.invokevirtual 147, 3) := by decide +kernel
theorem dX10_planScore_7 : decode cX10_planScore 7 = .ok (.istore_n 3, 1) := by decide +kernel
theorem dX10_planScore_8 : decode cX10_planScore 8 = .ok (.iload_n 3, 1) := by decide +kernel
theorem dX10_planScore_9 : decode cX10_planScore 9 = .ok (.ifCond .eq 9, 3) := by decide +kernel
theorem dX10_planScore_12 : decode cX10_planScore 12 = .ok (.aload_n 0, 1) := by decide +kernel
theorem dX10_planScore_13 : decode cX10_planScore 13 = .ok (.iload_n 3, 1) := by decide +kernel
theorem dX10_planScore_14 : decode cX10_planScore 14 = .ok (.invokevirtual 77, 3) := by decide +kernel
theorem dX10_planScore_17 : decode cX10_planScore 17 = .ok (.ireturn, 1) := by decide +kernel
theorem dX10_planScore_18 : decode cX10_planScore 18 = .ok (.aload_n 0, 1) := by decide +kernel
theorem dX10_planScore_19 : decode cX10_planScore 19 = .ok (.getfield 33, 3) := by decide +kernel
theorem dX10_planScore_22 : decode cX10_planScore 22 = .ok (.aload_n 0, 1) := by decide +kernel
theorem dX10_planScore_23 : decode cX10_planScore 23 = .ok (.getfield 65, 3) := by decide +kernel
theorem dX10_planScore_26 : decode cX10_planScore 26 = .ok (.iload_n 2, 1) := by decide +kernel
theorem dX10_planScore_27 : decode cX10_planScore 27 = .ok (.invokevirtual 190, 3) := by decide +kernel
theorem dX10_planScore_30 : decode cX10_planScore 30 = .ok (.aload_n 0, 1) := by decide +kernel
theorem dX10_planScore_31 : decode cX10_planScore 31 = .ok (.aload_n 0, 1) := by decide +kernel
theorem dX10_planScore_32 : decode cX10_planScore 32 = .ok (.getfield 33, 3) := by decide +kernel
theorem dX10_planScore_35 : decode cX10_planScore 35 = .ok (.iload_n 1, 1) := by decide +kernel
theorem dX10_planScore_36 : decode cX10_planScore 36 = .ok (.invokevirtual 195, 3) := by decide +kernel
theorem dX10_planScore_39 : decode cX10_planScore 39 = .ok (.invokevirtual 102, 3) := by decide +kernel
theorem dX10_planScore_42 : decode cX10_planScore 42 = .ok (.ireturn, 1) := by decide +kernel
theorem dX10_first_0 : decode cX10_first 0 = .ok (.aload_n 0, 1) := by decide +kernel
theorem dX10_first_1 : decode cX10_first 1 = .ok (.invokevirtual 196, 3) := by decide +kernel
theorem dX10_first_4 : decode cX10_first 4 = .ok (.ifCond .eq 9, 3) := by decide +kernel
theorem dX10_first_7 : decode cX10_first 7 = .ok (.aload_n 0, 1) := by decide +kernel
theorem dX10_first_8 : decode cX10_first 8 = .ok (.iconst 1, 1) := by decide +kernel
theorem dX10_first_9 : decode cX10_first 9 = .ok (.invokevirtual 77, 3) := by decide +kernel
theorem dX10_first_12 : decode cX10_first 12 = .ok (.ireturn, 1) := by decide +kernel
theorem dX10_first_13 : decode cX10_first 13 = .ok (.aload_n 0, 1) := by decide +kernel
theorem dX10_first_14 : decode cX10_first 14 = .ok (.getfield 33, 3) := by decide +kernel
theorem dX10_first_17 : decode cX10_first 17 = .ok (.aload_n 0, 1) := by decide +kernel
theorem dX10_first_18 : decode cX10_first 18 = .ok (.getfield 65, 3) := by decide +kernel
theorem dX10_first_21 : decode cX10_first 21 = .ok (.invokevirtual 183, 3) := by decide +kernel
theorem dX10_first_24 : decode cX10_first 24 = .ok (.iconst 0, 1) := by decide +kernel
theorem dX10_first_25 : decode cX10_first 25 = .ok (.istore_n 1, 1) := by decide +kernel
theorem dX10_first_26 : decode cX10_first 26 = .ok (.iconst 1, 1) := by decide +kernel
theorem dX10_first_27 : decode cX10_first 27 = .ok (.istore_n 2, 1) := by decide +kernel
theorem dX10_first_28 : decode cX10_first 28 = .ok (.iload_n 2, 1) := by decide +kernel
theorem dX10_first_29 : decode cX10_first 29 = .ok (.aload_n 0, 1) := by decide +kernel
theorem dX10_first_30 : decode cX10_first 30 = .ok (.getfield 65, 3) := by decide +kernel
theorem dX10_first_33 : decode cX10_first 33 = .ok (.iconst 5, 1) := by decide +kernel
theorem dX10_first_34 : decode cX10_first 34 = .ok (.invokevirtual 99, 3) := by decide +kernel
theorem dX10_first_37 : decode cX10_first 37 = .ok (.if_icmp .ge 30, 3) := by decide +kernel
theorem dX10_first_40 : decode cX10_first 40 = .ok (.aload_n 0, 1) := by decide +kernel
theorem dX10_first_41 : decode cX10_first 41 = .ok (.getfield 33, 3) := by decide +kernel
theorem dX10_first_44 : decode cX10_first 44 = .ok (.iload_n 2, 1) := by decide +kernel
theorem dX10_first_45 : decode cX10_first 45 = .ok (.invokevirtual 195, 3) := by decide +kernel
theorem dX10_first_48 : decode cX10_first 48 = .ok (.aload_n 0, 1) := by decide +kernel
theorem dX10_first_49 : decode cX10_first 49 = .ok (.getfield 33, 3) := by decide +kernel
theorem dX10_first_52 : decode cX10_first 52 = .ok (.iload_n 1, 1) := by decide +kernel
theorem dX10_first_53 : decode cX10_first 53 = .ok (.invokevirtual 195, 3) := by decide +kernel
theorem dX10_first_56 : decode cX10_first 56 = .ok (.if_icmp .le 5, 3) := by decide +kernel
theorem dX10_first_59 : decode cX10_first 59 = .ok (.iload_n 2, 1) := by decide +kernel
theorem dX10_first_60 : decode cX10_first 60 = .ok (.istore_n 1, 1) := by decide +kernel
theorem dX10_first_61 : decode cX10_first 61 = .ok (.iinc 2 1, 3) := by decide +kernel
theorem dX10_first_64 : decode cX10_first 64 = .ok (.goto (-36), 3) := by decide +kernel
theorem dX10_first_67 : decode cX10_first 67 = .ok (.aload_n 0, 1) := by decide +kernel
theorem dX10_first_68 : decode cX10_first 68 = .ok (.iload_n 1, 1) := by decide +kernel
theorem dX10_first_69 : decode cX10_first 69 = .ok (.invokevirtual 102, 3) := by decide +kernel
theorem dX10_first_72 : decode cX10_first 72 = .ok (.ireturn, 1) := by decide +kernel
theorem dX10_judge_0 : decode cX10_judge 0 = .ok (.aload_n 0, 1) := by decide +kernel
theorem dX10_judge_1 : decode cX10_judge 1 = .ok (.invokevirtual 196, 3) := by decide +kernel
theorem dX10_judge_4 : decode cX10_judge 4 = .ok (.ifCond .eq 9, 3) := by decide +kernel
theorem dX10_judge_7 : decode cX10_judge 7 = .ok (.aload_n 0, 1) := by decide +kernel
theorem dX10_judge_8 : decode cX10_judge 8 = .ok (.iconst 1, 1) := by decide +kernel
theorem dX10_judge_9 : decode cX10_judge 9 = .ok (.invokevirtual 77, 3) := by decide +kernel
theorem dX10_judge_12 : decode cX10_judge 12 = .ok (.ireturn, 1) := by decide +kernel
theorem dX10_judge_13 : decode cX10_judge 13 = .ok (.aload_n 0, 1) := by decide +kernel
theorem dX10_judge_14 : decode cX10_judge 14 = .ok (.getfield 33, 3) := by decide +kernel
theorem dX10_judge_17 : decode cX10_judge 17 = .ok (.aload_n 0, 1) := by decide +kernel
theorem dX10_judge_18 : decode cX10_judge 18 = .ok (.getfield 65, 3) := by decide +kernel
theorem dX10_judge_21 : decode cX10_judge 21 = .ok (.invokevirtual 183, 3) := by decide +kernel
theorem dX10_judge_24 : decode cX10_judge 24 = .ok (.iconst 0, 1) := by decide +kernel
theorem dX10_judge_25 : decode cX10_judge 25 = .ok (.istore_n 1, 1) := by decide +kernel
theorem dX10_judge_26 : decode cX10_judge 26 = .ok (.iload_n 1, 1) := by decide +kernel
theorem dX10_judge_27 : decode cX10_judge 27 = .ok (.aload_n 0, 1) := by decide +kernel
theorem dX10_judge_28 : decode cX10_judge 28 = .ok (.getfield 65, 3) := by decide +kernel
theorem dX10_judge_31 : decode cX10_judge 31 = .ok (.bipush 7, 2) := by decide +kernel
theorem dX10_judge_33 : decode cX10_judge 33 = .ok (.invokevirtual 99, 3) := by decide +kernel
theorem dX10_judge_36 : decode cX10_judge 36 = .ok (.if_icmp .ge 27, 3) := by decide +kernel
theorem dX10_judge_39 : decode cX10_judge 39 = .ok (.aload_n 0, 1) := by decide +kernel
theorem dX10_judge_40 : decode cX10_judge 40 = .ok (.getfield 33, 3) := by decide +kernel
theorem dX10_judge_43 : decode cX10_judge 43 = .ok (.iload_n 1, 1) := by decide +kernel
theorem dX10_judge_44 : decode cX10_judge 44 = .ok (.invokevirtual 187, 3) := by decide +kernel
theorem dX10_judge_47 : decode cX10_judge 47 = .ok (.iconst 1, 1) := by decide +kernel
theorem dX10_judge_48 : decode cX10_judge 48 = .ok (.if_icmp .le 9, 3) := by decide +kernel
theorem dX10_judge_51 : decode cX10_judge 51 = .ok (.aload_n 0, 1) := by decide +kernel
theorem dX10_judge_52 : decode cX10_judge 52 = .ok (.iload_n 1, 1) := by decide +kernel
theorem dX10_judge_53 : decode cX10_judge 53 = .ok (.invokevirtual 102, 3) := by decide +kernel
theorem dX10_judge_56 : decode cX10_judge 56 = .ok (.ireturn, 1) := by decide +kernel
theorem dX10_judge_57 : decode cX10_judge 57 = .ok (.iinc 1 1, 3) := by decide +kernel
theorem dX10_judge_60 : decode cX10_judge 60 = .ok (.goto (-34), 3) := by decide +kernel
theorem dX10_judge_63 : decode cX10_judge 63 = .ok (.aload_n 0, 1) := by decide +kernel
theorem dX10_judge_64 : decode cX10_judge 64 = .ok (.bipush (-2), 2) := by decide +kernel
theorem dX10_judge_66 : decode cX10_judge 66 = .ok (.invokevirtual 102, 3) := by decide +kernel
theorem dX10_judge_69 : decode cX10_judge 69 = .ok (.ireturn, 1) := by decide +kernel
theorem dX10_amiss_0 : decode cX10_amiss 0 = .ok (.aload_n 0, 1) := by decide +kernel
theorem dX10_amiss_1 : decode cX10_amiss 1 = .ok (.invokevirtual 196, 3) := by decide +kernel
theorem dX10_amiss_4 : decode cX10_amiss 4 = .ok (.ifCond .eq 9, 3) := by decide +kernel
theorem dX10_amiss_7 : decode cX10_amiss 7 = .ok (.aload_n 0, 1) := by decide +kernel
theorem dX10_amiss_8 : decode cX10_amiss 8 = .ok (.iconst 1, 1) := by decide +kernel
theorem dX10_amiss_9 : decode cX10_amiss 9 = .ok (.invokevirtual 77, 3) := by decide +kernel
theorem dX10_amiss_12 : decode cX10_amiss 12 = .ok (.ireturn, 1) := by decide +kernel
theorem dX10_amiss_13 : decode cX10_amiss 13 = .ok (.aload_n 0, 1) := by decide +kernel
theorem dX10_amiss_14 : decode cX10_amiss 14 = .ok (.getfield 33, 3) := by decide +kernel
theorem dX10_amiss_17 : decode cX10_amiss 17 = .ok (.aload_n 0, 1) := by decide +kernel
theorem dX10_amiss_18 : decode cX10_amiss 18 = .ok (.getfield 65, 3) := by decide +kernel
theorem dX10_amiss_21 : decode cX10_amiss 21 = .ok (.invokevirtual 183, 3) := by decide +kernel
theorem dX10_amiss_24 : decode cX10_amiss 24 = .ok (.iconst 0, 1) := by decide +kernel
theorem dX10_amiss_25 : decode cX10_amiss 25 = .ok (.istore_n 1, 1) := by decide +kernel
theorem dX10_amiss_26 : decode cX10_amiss 26 = .ok (.iload_n 1, 1) := by decide +kernel
theorem dX10_amiss_27 : decode cX10_amiss 27 = .ok (.aload_n 0, 1) := by decide +kernel
theorem dX10_amiss_28 : decode cX10_amiss 28 = .ok (.getfield 65, 3) := by decide +kernel
theorem dX10_amiss_31 : decode cX10_amiss 31 = .ok (.bipush 8, 2) := by decide +kernel
theorem dX10_amiss_33 : decode cX10_amiss 33 = .ok (.invokevirtual 99, 3) := by decide +kernel
theorem dX10_amiss_36 : decode cX10_amiss 36 = .ok (.if_icmp .ge 51, 3) := by decide +kernel
theorem dX10_amiss_39 : decode cX10_amiss 39 = .ok (.aload_n 0, 1) := by decide +kernel
theorem dX10_amiss_40 : decode cX10_amiss 40 = .ok (.getfield 65, 3) := by decide +kernel
theorem dX10_amiss_43 : decode cX10_amiss 43 = .ok (.getfield 200, 3) := by decide +kernel
theorem dX10_amiss_46 : decode cX10_amiss 46 = .ok (.iload_n 1, 1) := by decide +kernel
theorem dX10_amiss_47 : decode cX10_amiss 47 = .ok (.iconst 0, 1) := by decide +kernel
theorem dX10_amiss_48 : decode cX10_amiss 48 = .ok (.invokevirtual 119, 3) := by decide +kernel
theorem dX10_amiss_51 : decode cX10_amiss 51 = .ok (.istore_n 2, 1) := by decide +kernel
theorem dX10_amiss_52 : decode cX10_amiss 52 = .ok (.aload_n 0, 1) := by decide +kernel
theorem dX10_amiss_53 : decode cX10_amiss 53 = .ok (.getfield 33, 3) := by decide +kernel
theorem dX10_amiss_56 : decode cX10_amiss 56 = .ok (.iload_n 2, 1) := by decide +kernel
theorem dX10_amiss_57 : decode cX10_amiss 57 = .ok (.invokevirtual 203, 3) := by decide +kernel
theorem dX10_amiss_60 : decode cX10_amiss 60 = .ok (.aload_n 0, 1) := by decide +kernel
theorem dX10_amiss_61 : decode cX10_amiss 61 = .ok (.getfield 65, 3) := by decide +kernel
theorem dX10_amiss_64 : decode cX10_amiss 64 = .ok (.getfield 200, 3) := by decide +kernel
theorem dX10_amiss_67 : decode cX10_amiss 67 = .ok (.iload_n 1, 1) := by decide +kernel
theorem dX10_amiss_68 : decode cX10_amiss 68 = .ok (.iconst 1, 1) := by decide +kernel
theorem dX10_amiss_69 : decode cX10_amiss 69 = .ok (.invokevirtual 119, 3) := by decide +kernel
theorem dX10_amiss_72 : decode cX10_amiss 72 = .ok (.if_icmp .eq 9, 3) := by decide +kernel
theorem dX10_amiss_75 : decode cX10_amiss 75 = .ok (.aload_n 0, 1) := by decide +kernel
theorem dX10_amiss_76 : decode cX10_amiss 76 = .ok (.iload_n 2, 1) := by decide +kernel
theorem dX10_amiss_77 : decode cX10_amiss 77 = .ok (.invokevirtual 102, 3) := by decide +kernel
theorem dX10_amiss_80 : decode cX10_amiss 80 = .ok (.ireturn, 1) := by decide +kernel
theorem dX10_amiss_81 : decode cX10_amiss 81 = .ok (.iinc 1 1, 3) := by decide +kernel
theorem dX10_amiss_84 : decode cX10_amiss 84 = .ok (.goto (-58), 3) := by decide +kernel
theorem dX10_amiss_87 : decode cX10_amiss 87 = .ok (.aload_n 0, 1) := by decide +kernel
theorem dX10_amiss_88 : decode cX10_amiss 88 = .ok (.bipush (-2), 2) := by decide +kernel
theorem dX10_amiss_90 : decode cX10_amiss 90 = .ok (.invokevirtual 102, 3) := by decide +kernel
theorem dX10_amiss_93 : decode cX10_amiss 93 = .ok (.ireturn, 1) := by decide +kernel
theorem dX10_soonest_0 : decode cX10_soonest 0 = .ok (.aload_n 0, 1) := by decide +kernel
theorem dX10_soonest_1 : decode cX10_soonest 1 = .ok (.invokevirtual 196, 3) := by decide +kernel
theorem dX10_soonest_4 : decode cX10_soonest 4 = .ok (.ifCond .eq 9, 3) := by decide +kernel
theorem dX10_soonest_7 : decode cX10_soonest 7 = .ok (.aload_n 0, 1) := by decide +kernel
theorem dX10_soonest_8 : decode cX10_soonest 8 = .ok (.iconst 1, 1) := by decide +kernel
theorem dX10_soonest_9 : decode cX10_soonest 9 = .ok (.invokevirtual 77, 3) := by decide +kernel
theorem dX10_soonest_12 : decode cX10_soonest 12 = .ok (.ireturn, 1) := by decide +kernel
theorem dX10_soonest_13 : decode cX10_soonest 13 = .ok (.aload_n 0, 1) := by decide +kernel
theorem dX10_soonest_14 : decode cX10_soonest 14 = .ok (.getfield 40, 3) := by decide +kernel
theorem dX10_soonest_17 : decode cX10_soonest 17 = .ok (.aload_n 0, 1) := by decide +kernel
theorem dX10_soonest_18 : decode cX10_soonest 18 = .ok (.getfield 65, 3) := by decide +kernel
theorem dX10_soonest_21 : decode cX10_soonest 21 = .ok (.invokevirtual 204, 3) := by decide +kernel
theorem dX10_soonest_24 : decode cX10_soonest 24 = .ok (.aload_n 0, 1) := by decide +kernel
theorem dX10_soonest_25 : decode cX10_soonest 25 = .ok (.aload_n 0, 1) := by decide +kernel
theorem dX10_soonest_26 : decode cX10_soonest 26 = .ok (.getfield 40, 3) := by decide +kernel
theorem dX10_soonest_29 : decode cX10_soonest 29 = .ok (.invokevirtual 207, 3) := by decide +kernel
theorem dX10_soonest_32 : decode cX10_soonest 32 = .ok (.invokevirtual 102, 3) := by decide +kernel
theorem dX10_soonest_35 : decode cX10_soonest 35 = .ok (.ireturn, 1) := by decide +kernel
theorem dX10_soonestOf_0 : decode cX10_soonestOf 0 = .ok (.aload_n 0, 1) := by decide +kernel
theorem dX10_soonestOf_1 : decode cX10_soonestOf 1 = .ok (.getfield 65, 3) := by decide +kernel
theorem dX10_soonestOf_4 : decode cX10_soonestOf 4 = .ok (.iconst 2, 1) := by decide +kernel
theorem dX10_soonestOf_5 : decode cX10_soonestOf 5 = .ok (.iload_n 1, 1) := by decide +kernel
theorem dX10_soonestOf_6 : decode cX10_soonestOf 6 = .ok (.invokevirtual 111, 3) := by decide +kernel
theorem dX10_soonestOf_9 : decode cX10_soonestOf 9 = .ok (.ifCond .ne 9, 3) := by decide +kernel
theorem dX10_soonestOf_12 : decode cX10_soonestOf 12 = .ok (.aload_n 0, 1) := by decide +kernel
theorem dX10_soonestOf_13 : decode cX10_soonestOf 13 = .ok (.iconst 1, 1) := by decide +kernel
theorem dX10_soonestOf_14 : decode cX10_soonestOf 14 = .ok (.invokevirtual 77, 3) := by decide +kernel
theorem dX10_soonestOf_17 : decode cX10_soonestOf 17 = .ok (.ireturn, 1) := by decide +kernel
theorem dX10_soonestOf_18 : decode cX10_soonestOf 18 = .ok (.aload_n 0, 1) := by decide +kernel
theorem dX10_soonestOf_19 : decode cX10_soonestOf 19 = .ok (.getfield 40, 3) := by decide +kernel
theorem dX10_soonestOf_22 : decode cX10_soonestOf 22 = .ok (.aload_n 0, 1) := by decide +kernel
theorem dX10_soonestOf_23 : decode cX10_soonestOf 23 = .ok (.getfield 65, 3) := by decide +kernel
theorem dX10_soonestOf_26 : decode cX10_soonestOf 26 = .ok (.invokevirtual 204, 3) := by decide +kernel
theorem dX10_soonestOf_29 : decode cX10_soonestOf 29 = .ok (.aload_n 0, 1) := by decide +kernel
theorem dX10_soonestOf_30 : decode cX10_soonestOf 30 = .ok (.getfield 40, 3) := by decide +kernel
theorem dX10_soonestOf_33 : decode cX10_soonestOf 33 = .ok (.invokevirtual 207, 3) := by decide +kernel
theorem dX10_soonestOf_36 : decode cX10_soonestOf 36 = .ok (.ifCond .ge 12, 3) := by decide +kernel
theorem dX10_soonestOf_39 : decode cX10_soonestOf 39 = .ok (.aload_n 0, 1) := by decide +kernel
theorem dX10_soonestOf_40 : decode cX10_soonestOf 40 = .ok (.bipush 6, 2) := by decide +kernel
theorem dX10_soonestOf_42 : decode cX10_soonestOf 42 = .ok (.invokevirtual 77, 3) := by decide +kernel
theorem dX10_soonestOf_45 : decode cX10_soonestOf 45 = .ok (.goto 15, 3) := by decide +kernel
theorem dX10_soonestOf_48 : decode cX10_soonestOf 48 = .ok (.aload_n 0, 1) := by decide +kernel
theorem dX10_soonestOf_49 : decode cX10_soonestOf 49 = .ok (.aload_n 0, 1) := by decide +kernel
theorem dX10_soonestOf_50 : decode cX10_soonestOf 50 = .ok (.getfield 40, 3) := by decide +kernel
theorem dX10_soonestOf_53 : decode cX10_soonestOf 53 = .ok (.iload_n 1, 1) := by decide +kernel
theorem dX10_soonestOf_54 : decode cX10_soonestOf 54 = .ok (.invokevirtual 210, 3) := by decide +kernel
theorem dX10_soonestOf_57 : decode cX10_soonestOf 57 = .ok (.invokevirtual 102, 3) := by decide +kernel
theorem dX10_soonestOf_60 : decode cX10_soonestOf 60 = .ok (.ireturn, 1) := by decide +kernel
theorem dX10_never_0 : decode cX10_never 0 = .ok (.aload_n 0, 1) := by decide +kernel
theorem dX10_never_1 : decode cX10_never 1 = .ok (.invokevirtual 196, 3) := by decide +kernel
theorem dX10_never_4 : decode cX10_never 4 = .ok (.ifCond .eq 11, 3) := by decide +kernel
theorem dX10_never_7 : decode cX10_never 7 = .ok (.aload_n 0, 1) := by decide +kernel
theorem dX10_never_8 : decode cX10_never 8 = .ok (.iconst 1, 1) := by decide +kernel
theorem dX10_never_9 : decode cX10_never 9 = .ok (.invokevirtual 77, 3) := by decide +kernel
theorem dX10_never_12 : decode cX10_never 12 = .ok (.goto 14, 3) := by decide +kernel
theorem dX10_never_15 : decode cX10_never 15 = .ok (.aload_n 0, 1) := by decide +kernel
theorem dX10_never_16 : decode cX10_never 16 = .ok (.aload_n 0, 1) := by decide +kernel
theorem dX10_never_17 : decode cX10_never 17 = .ok (.getfield 65, 3) := by decide +kernel
theorem dX10_never_20 : decode cX10_never 20 = .ok (.invokevirtual 213, 3) := by decide +kernel
theorem dX10_never_23 : decode cX10_never 23 = .ok (.invokevirtual 102, 3) := by decide +kernel
theorem dX10_never_26 : decode cX10_never 26 = .ok (.ireturn, 1) := by decide +kernel
theorem dX10_fits_0 : decode cX10_fits 0 = .ok (.aload_n 0, 1) := by decide +kernel
theorem dX10_fits_1 : decode cX10_fits 1 = .ok (.invokevirtual 196, 3) := by decide +kernel
theorem dX10_fits_4 : decode cX10_fits 4 = .ok (.ifCond .eq 9, 3) := by decide +kernel
theorem dX10_fits_7 : decode cX10_fits 7 = .ok (.aload_n 0, 1) := by decide +kernel
theorem dX10_fits_8 : decode cX10_fits 8 = .ok (.iconst 1, 1) := by decide +kernel
theorem dX10_fits_9 : decode cX10_fits 9 = .ok (.invokevirtual 77, 3) := by decide +kernel
theorem dX10_fits_12 : decode cX10_fits 12 = .ok (.ireturn, 1) := by decide +kernel
theorem dX10_fits_13 : decode cX10_fits 13 = .ok (.aload_n 0, 1) := by decide +kernel
theorem dX10_fits_14 : decode cX10_fits 14 = .ok (.getfield 65, 3) := by decide +kernel
theorem dX10_fits_17 : decode cX10_fits 17 = .ok (.bipush 8, 2) := by decide +kernel
theorem dX10_fits_19 : decode cX10_fits 19 = .ok (.invokevirtual 99, 3) := by decide +kernel
theorem dX10_fits_22 : decode cX10_fits 22 = .ok (.ifCond .ne 10, 3) := by decide +kernel
theorem dX10_fits_25 : decode cX10_fits 25 = .ok (.aload_n 0, 1) := by decide +kernel
theorem dX10_fits_26 : decode cX10_fits 26 = .ok (.bipush 6, 2) := by decide +kernel
theorem dX10_fits_28 : decode cX10_fits 28 = .ok (.invokevirtual 77, 3) := by decide +kernel
theorem dX10_fits_31 : decode cX10_fits 31 = .ok (.ireturn, 1) := by decide +kernel
theorem dX10_fits_32 : decode cX10_fits 32 = .ok (.aload_n 0, 1) := by decide +kernel
theorem dX10_fits_33 : decode cX10_fits 33 = .ok (.getfield 47, 3) := by decide +kernel
theorem dX10_fits_36 : decode cX10_fits 36 = .ok (.aload_n 0, 1) := by decide +kernel
theorem dX10_fits_37 : decode cX10_fits 37 = .ok (.getfield 65, 3) := by decide +kernel
theorem dX10_fits_40 : decode cX10_fits 40 = .ok (.invokevirtual 216, 3) := by decide +kernel
theorem dX10_fits_43 : decode cX10_fits 43 = .ok (.aload_n 0, 1) := by decide +kernel
theorem dX10_fits_44 : decode cX10_fits 44 = .ok (.aload_n 0, 1) := by decide +kernel
theorem dX10_fits_45 : decode cX10_fits 45 = .ok (.getfield 47, 3) := by decide +kernel
theorem dX10_fits_48 : decode cX10_fits 48 = .ok (.invokevirtual 217, 3) := by decide +kernel
theorem dX10_fits_51 : decode cX10_fits 51 = .ok (.invokevirtual 102, 3) := by decide +kernel
theorem dX10_fits_54 : decode cX10_fits 54 = .ok (.ireturn, 1) := by decide +kernel
theorem dX10_could_0 : decode cX10_could 0 = .ok (.aload_n 0, 1) := by decide +kernel
theorem dX10_could_1 : decode cX10_could 1 = .ok (.getfield 65, 3) := by decide +kernel
theorem dX10_could_4 : decode cX10_could 4 = .ok (.iload_n 1, 1) := by decide +kernel
theorem dX10_could_5 : decode cX10_could 5 = .ok (.invokevirtual 220, 3) := by decide +kernel
theorem dX10_could_8 : decode cX10_could 8 = .ok (.ifCond .ne 9, 3) := by decide +kernel
theorem dX10_could_11 : decode cX10_could 11 = .ok (.aload_n 0, 1) := by decide +kernel
theorem dX10_could_12 : decode cX10_could 12 = .ok (.iconst 1, 1) := by decide +kernel
theorem dX10_could_13 : decode cX10_could 13 = .ok (.invokevirtual 77, 3) := by decide +kernel
theorem dX10_could_16 : decode cX10_could 16 = .ok (.ireturn, 1) := by decide +kernel
theorem dX10_could_17 : decode cX10_could 17 = .ok (.aload_n 0, 1) := by decide +kernel
theorem dX10_could_18 : decode cX10_could 18 = .ok (.getfield 47, 3) := by decide +kernel
theorem dX10_could_21 : decode cX10_could 21 = .ok (.aload_n 0, 1) := by decide +kernel
theorem dX10_could_22 : decode cX10_could 22 = .ok (.getfield 65, 3) := by decide +kernel
theorem dX10_could_25 : decode cX10_could 25 = .ok (.invokevirtual 216, 3) := by decide +kernel
theorem dX10_could_28 : decode cX10_could 28 = .ok (.aload_n 0, 1) := by decide +kernel
theorem dX10_could_29 : decode cX10_could 29 = .ok (.aload_n 0, 1) := by decide +kernel
theorem dX10_could_30 : decode cX10_could 30 = .ok (.getfield 47, 3) := by decide +kernel
theorem dX10_could_33 : decode cX10_could 33 = .ok (.iload_n 1, 1) := by decide +kernel
theorem dX10_could_34 : decode cX10_could 34 = .ok (.invokevirtual 223, 3) := by decide +kernel
theorem dX10_could_37 : decode cX10_could 37 = .ok (.invokevirtual 102, 3) := by decide +kernel
theorem dX10_could_40 : decode cX10_could 40 = .ok (.ireturn, 1) := by decide +kernel
theorem dX10_surely_0 : decode cX10_surely 0 = .ok (.aload_n 0, 1) := by decide +kernel
theorem dX10_surely_1 : decode cX10_surely 1 = .ok (.getfield 65, 3) := by decide +kernel
theorem dX10_surely_4 : decode cX10_surely 4 = .ok (.iload_n 1, 1) := by decide +kernel
theorem dX10_surely_5 : decode cX10_surely 5 = .ok (.invokevirtual 220, 3) := by decide +kernel
theorem dX10_surely_8 : decode cX10_surely 8 = .ok (.ifCond .ne 9, 3) := by decide +kernel
theorem dX10_surely_11 : decode cX10_surely 11 = .ok (.aload_n 0, 1) := by decide +kernel
theorem dX10_surely_12 : decode cX10_surely 12 = .ok (.iconst 1, 1) := by decide +kernel
theorem dX10_surely_13 : decode cX10_surely 13 = .ok (.invokevirtual 77, 3) := by decide +kernel
theorem dX10_surely_16 : decode cX10_surely 16 = .ok (.ireturn, 1) := by decide +kernel
theorem dX10_surely_17 : decode cX10_surely 17 = .ok (.aload_n 0, 1) := by decide +kernel
theorem dX10_surely_18 : decode cX10_surely 18 = .ok (.getfield 47, 3) := by decide +kernel
theorem dX10_surely_21 : decode cX10_surely 21 = .ok (.aload_n 0, 1) := by decide +kernel
theorem dX10_surely_22 : decode cX10_surely 22 = .ok (.getfield 65, 3) := by decide +kernel
theorem dX10_surely_25 : decode cX10_surely 25 = .ok (.invokevirtual 216, 3) := by decide +kernel
theorem dX10_surely_28 : decode cX10_surely 28 = .ok (.aload_n 0, 1) := by decide +kernel
theorem dX10_surely_29 : decode cX10_surely 29 = .ok (.aload_n 0, 1) := by decide +kernel
theorem dX10_surely_30 : decode cX10_surely 30 = .ok (.getfield 47, 3) := by decide +kernel
theorem dX10_surely_33 : decode cX10_surely 33 = .ok (.iload_n 1, 1) := by decide +kernel
theorem dX10_surely_34 : decode cX10_surely 34 = .ok (.invokevirtual 226, 3) := by decide +kernel
theorem dX10_surely_37 : decode cX10_surely 37 = .ok (.invokevirtual 102, 3) := by decide +kernel
theorem dX10_surely_40 : decode cX10_surely 40 = .ok (.ireturn, 1) := by decide +kernel
theorem dX10_value_0 : decode cX10_value 0 = .ok (.aload_n 0, 1) := by decide +kernel
theorem dX10_value_1 : decode cX10_value 1 = .ok (.invokevirtual 196, 3) := by decide +kernel
theorem dX10_value_4 : decode cX10_value 4 = .ok (.ifCond .eq 10, 3) := by decide +kernel
theorem dX10_value_7 : decode cX10_value 7 = .ok (.aload_n 0, 1) := by decide +kernel
theorem dX10_value_8 : decode cX10_value 8 = .ok (.iconst 1, 1) := by decide +kernel
theorem dX10_value_9 : decode cX10_value 9 = .ok (.invokevirtual 77, 3) := by decide +kernel
theorem dX10_value_12 : decode cX10_value 12 = .ok (.i2l, 1) := by decide +kernel
theorem dX10_value_13 : decode cX10_value 13 = .ok (.lreturn, 1) := by decide +kernel
theorem dX10_value_14 : decode cX10_value 14 = .ok (.aload_n 0, 1) := by decide +kernel
theorem dX10_value_15 : decode cX10_value 15 = .ok (.getfield 65, 3) := by decide +kernel
theorem dX10_value_18 : decode cX10_value 18 = .ok (.iconst 4, 1) := by decide +kernel
theorem dX10_value_19 : decode cX10_value 19 = .ok (.invokevirtual 99, 3) := by decide +kernel
theorem dX10_value_22 : decode cX10_value 22 = .ok (.ifCond .ne 11, 3) := by decide +kernel
theorem dX10_value_25 : decode cX10_value 25 = .ok (.aload_n 0, 1) := by decide +kernel
theorem dX10_value_26 : decode cX10_value 26 = .ok (.bipush 6, 2) := by decide +kernel
theorem dX10_value_28 : decode cX10_value 28 = .ok (.invokevirtual 77, 3) := by decide +kernel
theorem dX10_value_31 : decode cX10_value 31 = .ok (.i2l, 1) := by decide +kernel
theorem dX10_value_32 : decode cX10_value 32 = .ok (.lreturn, 1) := by decide +kernel
theorem dX10_value_33 : decode cX10_value 33 = .ok (.aload_n 0, 1) := by decide +kernel
theorem dX10_value_34 : decode cX10_value 34 = .ok (.aload_n 0, 1) := by decide +kernel
theorem dX10_value_35 : decode cX10_value 35 = .ok (.getfield 65, 3) := by decide +kernel
theorem dX10_value_38 : decode cX10_value 38 = .ok (.iload_n 1, 1) := by decide +kernel
theorem dX10_value_39 : decode cX10_value 39 = .ok (.invokestatic 229, 3) := by decide +kernel
theorem dX10_value_42 : decode cX10_value 42 = .ok (.invokevirtual 235, 3) := by decide +kernel
theorem dX10_value_45 : decode cX10_value 45 = .ok (.lreturn, 1) := by decide +kernel
theorem dX10_lot_0 : decode cX10_lot 0 = .ok (.aload_n 0, 1) := by decide +kernel
theorem dX10_lot_1 : decode cX10_lot 1 = .ok (.getfield 65, 3) := by decide +kernel
theorem dX10_lot_4 : decode cX10_lot 4 = .ok (.iconst 4, 1) := by decide +kernel
theorem dX10_lot_5 : decode cX10_lot 5 = .ok (.iload_n 1, 1) := by decide +kernel
theorem dX10_lot_6 : decode cX10_lot 6 = .ok (.invokevirtual 111, 3) := by decide +kernel
theorem dX10_lot_9 : decode cX10_lot 9 = .ok (.ifCond .ne 10, 3) := by decide +kernel
theorem dX10_lot_12 : decode cX10_lot 12 = .ok (.aload_n 0, 1) := by decide +kernel
theorem dX10_lot_13 : decode cX10_lot 13 = .ok (.iconst 1, 1) := by decide +kernel
theorem dX10_lot_14 : decode cX10_lot 14 = .ok (.invokevirtual 77, 3) := by decide +kernel
theorem dX10_lot_17 : decode cX10_lot 17 = .ok (.i2l, 1) := by decide +kernel
theorem dX10_lot_18 : decode cX10_lot 18 = .ok (.lreturn, 1) := by decide +kernel
theorem dX10_lot_19 : decode cX10_lot 19 = .ok (.aload_n 0, 1) := by decide +kernel
theorem dX10_lot_20 : decode cX10_lot 20 = .ok (.aload_n 0, 1) := by decide +kernel
theorem dX10_lot_21 : decode cX10_lot 21 = .ok (.getfield 65, 3) := by decide +kernel
theorem dX10_lot_24 : decode cX10_lot 24 = .ok (.iload_n 1, 1) := by decide +kernel
theorem dX10_lot_25 : decode cX10_lot 25 = .ok (.iload_n 2, 1) := by decide +kernel
theorem dX10_lot_26 : decode cX10_lot 26 = .ok (.invokestatic 239, 3) := by decide +kernel
theorem dX10_lot_29 : decode cX10_lot 29 = .ok (.invokevirtual 235, 3) := by decide +kernel
theorem dX10_lot_32 : decode cX10_lot 32 = .ok (.lreturn, 1) := by decide +kernel
theorem dX10_rests_0 : decode cX10_rests 0 = .ok (.aload_n 0, 1) := by decide +kernel
theorem dX10_rests_1 : decode cX10_rests 1 = .ok (.invokevirtual 196, 3) := by decide +kernel
theorem dX10_rests_4 : decode cX10_rests 4 = .ok (.ifCond .eq 7, 3) := by decide +kernel
theorem dX10_rests_7 : decode cX10_rests 7 = .ok (.iconst 1, 1) := by decide +kernel
theorem dX10_rests_8 : decode cX10_rests 8 = .ok (.goto 8, 3) := by decide +kernel
theorem dX10_rests_11 : decode cX10_rests 11 = .ok (.aload_n 0, 1) := by decide +kernel
theorem dX10_rests_12 : decode cX10_rests 12 = .ok (.iload_n 1, 1) := by decide +kernel
theorem dX10_rests_13 : decode cX10_rests 13 = .ok (.invokevirtual 243, 3) := by decide +kernel
theorem dX10_rests_16 : decode cX10_rests 16 = .ok (.istore_n 2, 1) := by decide +kernel
theorem dX10_rests_17 : decode cX10_rests 17 = .ok (.iload_n 2, 1) := by decide +kernel
theorem dX10_rests_18 : decode cX10_rests 18 = .ok (.ifCond .eq 9, 3) := by decide +kernel
theorem dX10_rests_21 : decode cX10_rests 21 = .ok (.aload_n 0, 1) := by decide +kernel
theorem dX10_rests_22 : decode cX10_rests 22 = .ok (.iload_n 2, 1) := by decide +kernel
theorem dX10_rests_23 : decode cX10_rests 23 = .ok (.invokevirtual 77, 3) := by decide +kernel
theorem dX10_rests_26 : decode cX10_rests 26 = .ok (.ireturn, 1) := by decide +kernel
theorem dX10_rests_27 : decode cX10_rests 27 = .ok (.aload_n 0, 1) := by decide +kernel
theorem dX10_rests_28 : decode cX10_rests 28 = .ok (.getfield 54, 3) := by decide +kernel
theorem dX10_rests_31 : decode cX10_rests 31 = .ok (.aload_n 0, 1) := by decide +kernel
theorem dX10_rests_32 : decode cX10_rests 32 = .ok (.getfield 65, 3) := by decide +kernel
theorem dX10_rests_35 : decode cX10_rests 35 = .ok (.iload_n 1, 1) := by decide +kernel
theorem dX10_rests_36 : decode cX10_rests 36 = .ok (.invokevirtual 246, 3) := by decide +kernel
theorem dX10_rests_39 : decode cX10_rests 39 = .ok (.aload_n 0, 1) := by decide +kernel
theorem dX10_rests_40 : decode cX10_rests 40 = .ok (.aload_n 0, 1) := by decide +kernel
theorem dX10_rests_41 : decode cX10_rests 41 = .ok (.getfield 54, 3) := by decide +kernel
theorem dX10_rests_44 : decode cX10_rests 44 = .ok (.invokevirtual 248, 3) := by decide +kernel
theorem dX10_rests_47 : decode cX10_rests 47 = .ok (.invokevirtual 102, 3) := by decide +kernel
theorem dX10_rests_50 : decode cX10_rests 50 = .ok (.ireturn, 1) := by decide +kernel
theorem dX10_restOf_0 : decode cX10_restOf 0 = .ok (.aload_n 0, 1) := by decide +kernel
theorem dX10_restOf_1 : decode cX10_restOf 1 = .ok (.getfield 65, 3) := by decide +kernel
theorem dX10_restOf_4 : decode cX10_restOf 4 = .ok (.iconst 3, 1) := by decide +kernel
theorem dX10_restOf_5 : decode cX10_restOf 5 = .ok (.iload_n 2, 1) := by decide +kernel
theorem dX10_restOf_6 : decode cX10_restOf 6 = .ok (.invokevirtual 111, 3) := by decide +kernel
theorem dX10_restOf_9 : decode cX10_restOf 9 = .ok (.ifCond .ne 7, 3) := by decide +kernel
theorem dX10_restOf_12 : decode cX10_restOf 12 = .ok (.iconst 1, 1) := by decide +kernel
theorem dX10_restOf_13 : decode cX10_restOf 13 = .ok (.goto 8, 3) := by decide +kernel
theorem dX10_restOf_16 : decode cX10_restOf 16 = .ok (.aload_n 0, 1) := by decide +kernel
theorem dX10_restOf_17 : decode cX10_restOf 17 = .ok (.iload_n 1, 1) := by decide +kernel
theorem dX10_restOf_18 : decode cX10_restOf 18 = .ok (.invokevirtual 243, 3) := by decide +kernel
theorem dX10_restOf_21 : decode cX10_restOf 21 = .ok (.istore_n 3, 1) := by decide +kernel
theorem dX10_restOf_22 : decode cX10_restOf 22 = .ok (.iload_n 3, 1) := by decide +kernel
theorem dX10_restOf_23 : decode cX10_restOf 23 = .ok (.ifCond .eq 9, 3) := by decide +kernel
theorem dX10_restOf_26 : decode cX10_restOf 26 = .ok (.aload_n 0, 1) := by decide +kernel
theorem dX10_restOf_27 : decode cX10_restOf 27 = .ok (.iload_n 3, 1) := by decide +kernel
theorem dX10_restOf_28 : decode cX10_restOf 28 = .ok (.invokevirtual 77, 3) := by decide +kernel
theorem dX10_restOf_31 : decode cX10_restOf 31 = .ok (.ireturn, 1) := by decide +kernel
theorem dX10_restOf_32 : decode cX10_restOf 32 = .ok (.aload_n 0, 1) := by decide +kernel
theorem dX10_restOf_33 : decode cX10_restOf 33 = .ok (.getfield 54, 3) := by decide +kernel
theorem dX10_restOf_36 : decode cX10_restOf 36 = .ok (.aload_n 0, 1) := by decide +kernel
theorem dX10_restOf_37 : decode cX10_restOf 37 = .ok (.getfield 65, 3) := by decide +kernel
theorem dX10_restOf_40 : decode cX10_restOf 40 = .ok (.iload_n 1, 1) := by decide +kernel
theorem dX10_restOf_41 : decode cX10_restOf 41 = .ok (.invokevirtual 246, 3) := by decide +kernel
theorem dX10_restOf_44 : decode cX10_restOf 44 = .ok (.aload_n 0, 1) := by decide +kernel
theorem dX10_restOf_45 : decode cX10_restOf 45 = .ok (.aload_n 0, 1) := by decide +kernel
theorem dX10_restOf_46 : decode cX10_restOf 46 = .ok (.getfield 54, 3) := by decide +kernel
theorem dX10_restOf_49 : decode cX10_restOf 49 = .ok (.aload_n 0, 1) := by decide +kernel
theorem dX10_restOf_50 : decode cX10_restOf 50 = .ok (.getfield 65, 3) := by decide +kernel
theorem dX10_restOf_53 : decode cX10_restOf 53 = .ok (.iload_n 2, 1) := by decide +kernel
theorem dX10_restOf_54 : decode cX10_restOf 54 = .ok (.invokevirtual 249, 3) := by decide +kernel
theorem dX10_restOf_57 : decode cX10_restOf 57 = .ok (.invokevirtual 102, 3) := by decide +kernel
theorem dX10_restOf_60 : decode cX10_restOf 60 = .ok (.ireturn, 1) := by decide +kernel
theorem dX10_limit_0 : decode cX10_limit 0 = .ok (.aload_n 0, 1) := by decide +kernel
theorem dX10_limit_1 : decode cX10_limit 1 = .ok (.invokevirtual 196, 3) := by decide +kernel
theorem dX10_limit_4 : decode cX10_limit 4 = .ok (.ifCond .eq 9, 3) := by decide +kernel
theorem dX10_limit_7 : decode cX10_limit 7 = .ok (.aload_n 0, 1) := by decide +kernel
theorem dX10_limit_8 : decode cX10_limit 8 = .ok (.iconst 1, 1) := by decide +kernel
theorem dX10_limit_9 : decode cX10_limit 9 = .ok (.invokevirtual 77, 3) := by decide +kernel
theorem dX10_limit_12 : decode cX10_limit 12 = .ok (.ireturn, 1) := by decide +kernel
theorem dX10_limit_13 : decode cX10_limit 13 = .ok (.iconst 0, 1) := by decide +kernel
theorem dX10_limit_14 : decode cX10_limit 14 = .ok (.istore_n 2, 1) := by decide +kernel
theorem dX10_limit_15 : decode cX10_limit 15 = .ok (.bipush 100, 2) := by decide +kernel
theorem dX10_limit_17 : decode cX10_limit 17 = .ok (.istore_n 3, 1) := by decide +kernel
theorem dX10_limit_18 : decode cX10_limit 18 = .ok (.iconst 0, 1) := by decide +kernel
theorem dX10_limit_19 : decode cX10_limit 19 = .ok (.istore 4, 2) := by decide +kernel
theorem dX10_limit_21 : decode cX10_limit 21 = .ok (.iload 4, 2) := by decide +kernel
theorem dX10_limit_23 : decode cX10_limit 23 = .ok (.aload_n 0, 1) := by decide +kernel
theorem dX10_limit_24 : decode cX10_limit 24 = .ok (.getfield 65, 3) := by decide +kernel
theorem dX10_limit_27 : decode cX10_limit 27 = .ok (.bipush 9, 2) := by decide +kernel
theorem dX10_limit_29 : decode cX10_limit 29 = .ok (.invokevirtual 99, 3) := by decide +kernel
theorem dX10_limit_32 : decode cX10_limit 32 = .ok (.if_icmp .ge 51, 3) := by decide +kernel
theorem dX10_limit_35 : decode cX10_limit 35 = .ok (.aload_n 0, 1) := by decide +kernel
theorem dX10_limit_36 : decode cX10_limit 36 = .ok (.getfield 65, 3) := by decide +kernel
theorem dX10_limit_39 : decode cX10_limit 39 = .ok (.iload 4, 2) := by decide +kernel
theorem dX10_limit_41 : decode cX10_limit 41 = .ok (.invokevirtual 252, 3) := by decide +kernel
theorem dX10_limit_44 : decode cX10_limit 44 = .ok (.istore 5, 2) := by decide +kernel
theorem dX10_limit_46 : decode cX10_limit 46 = .ok (.aload_n 0, 1) := by decide +kernel
theorem dX10_limit_47 : decode cX10_limit 47 = .ok (.getfield 65, 3) := by decide +kernel
theorem dX10_limit_50 : decode cX10_limit 50 = .ok (.iload 4, 2) := by decide +kernel
theorem dX10_limit_52 : decode cX10_limit 52 = .ok (.invokevirtual 255, 3) := by decide +kernel
theorem dX10_limit_55 : decode cX10_limit 55 = .ok (.ifCond .eq 15, 3) := by decide +kernel
theorem dX10_limit_58 : decode cX10_limit 58 = .ok (.iload_n 3, 1) := by decide +kernel
theorem dX10_limit_59 : decode cX10_limit 59 = .ok (.iload 5, 2) := by decide +kernel
theorem dX10_limit_61 : decode cX10_limit 61 = .ok (.iconst 1, 1) := by decide +kernel
theorem dX10_limit_62 : decode cX10_limit 62 = .ok (.isub, 1) := by decide +kernel
theorem dX10_limit_63 : decode cX10_limit 63 = .ok (.invokestatic 258, 3) := by decide +kernel
theorem dX10_limit_66 : decode cX10_limit 66 = .ok (.istore_n 3, 1) := by decide +kernel
theorem dX10_limit_67 : decode cX10_limit 67 = .ok (.goto 10, 3) := by decide +kernel
theorem dX10_limit_70 : decode cX10_limit 70 = .ok (.iload_n 2, 1) := by decide +kernel
theorem dX10_limit_71 : decode cX10_limit 71 = .ok (.iload 5, 2) := by decide +kernel
theorem dX10_limit_73 : decode cX10_limit 73 = .ok (.invokestatic 175, 3) := by decide +kernel
theorem dX10_limit_76 : decode cX10_limit 76 = .ok (.istore_n 2, 1) := by decide +kernel
theorem dX10_limit_77 : decode cX10_limit 77 = .ok (.iinc 4 1, 3) := by decide +kernel
theorem dX10_limit_80 : decode cX10_limit 80 = .ok (.goto (-59), 3) := by decide +kernel
theorem dX10_limit_83 : decode cX10_limit 83 = .ok (.iload_n 2, 1) := by decide +kernel
theorem dX10_limit_84 : decode cX10_limit 84 = .ok (.iload_n 3, 1) := by decide +kernel
theorem dX10_limit_85 : decode cX10_limit 85 = .ok (.if_icmp .le 10, 3) := by decide +kernel
theorem dX10_limit_88 : decode cX10_limit 88 = .ok (.aload_n 0, 1) := by decide +kernel
theorem dX10_limit_89 : decode cX10_limit 89 = .ok (.bipush (-2), 2) := by decide +kernel
theorem dX10_limit_91 : decode cX10_limit 91 = .ok (.invokevirtual 102, 3) := by decide +kernel
theorem dX10_limit_94 : decode cX10_limit 94 = .ok (.ireturn, 1) := by decide +kernel
theorem dX10_limit_95 : decode cX10_limit 95 = .ok (.aload_n 0, 1) := by decide +kernel
theorem dX10_limit_96 : decode cX10_limit 96 = .ok (.iload_n 1, 1) := by decide +kernel
theorem dX10_limit_97 : decode cX10_limit 97 = .ok (.ifCond .eq 7, 3) := by decide +kernel
theorem dX10_limit_100 : decode cX10_limit 100 = .ok (.iload_n 3, 1) := by decide +kernel
theorem dX10_limit_101 : decode cX10_limit 101 = .ok (.goto 4, 3) := by decide +kernel
theorem dX10_limit_104 : decode cX10_limit 104 = .ok (.iload_n 2, 1) := by decide +kernel
theorem dX10_limit_105 : decode cX10_limit 105 = .ok (.invokevirtual 102, 3) := by decide +kernel
theorem dX10_limit_108 : decode cX10_limit 108 = .ok (.ireturn, 1) := by decide +kernel
theorem dX10_dare_0 : decode cX10_dare 0 = .ok (.aload_n 0, 1) := by decide +kernel
theorem dX10_dare_1 : decode cX10_dare 1 = .ok (.iload_n 1, 1) := by decide +kernel
theorem dX10_dare_2 : decode cX10_dare 2 = .ok (.invokevirtual 261, 3) := by decide +kernel
theorem dX10_dare_5 : decode cX10_dare 5 = .ok (.istore_n 2, 1) := by decide +kernel
theorem dX10_dare_6 : decode cX10_dare 6 = .ok (.iload_n 2, 1) := by decide +kernel
theorem dX10_dare_7 : decode cX10_dare 7 = .ok (.ifCond .eq 11, 3) := by decide +kernel
theorem dX10_dare_10 : decode cX10_dare 10 = .ok (.aload_n 0, 1) := by decide +kernel
theorem dX10_dare_11 : decode cX10_dare 11 = .ok (.iload_n 2, 1) := by decide +kernel
theorem dX10_dare_12 : decode cX10_dare 12 = .ok (.invokevirtual 77, 3) := by decide +kernel
theorem dX10_dare_15 : decode cX10_dare 15 = .ok (.goto 11, 3) := by decide +kernel
theorem dX10_dare_18 : decode cX10_dare 18 = .ok (.aload_n 0, 1) := by decide +kernel
theorem dX10_dare_19 : decode cX10_dare 19 = .ok (.iload_n 1, 1) := by decide +kernel
theorem dX10_dare_20 : decode cX10_dare 20 = .ok (.invokestatic 264, 3) := by decide +kernel
theorem dX10_dare_23 : decode cX10_dare 23 = .ok (.invokevirtual 102, 3) := by decide +kernel
theorem dX10_dare_26 : decode cX10_dare 26 = .ok (.ireturn, 1) := by decide +kernel
theorem dX10_honours_0 : decode cX10_honours 0 = .ok (.aload_n 0, 1) := by decide +kernel
theorem dX10_honours_1 : decode cX10_honours 1 = .ok (.iload_n 1, 1) := by decide +kernel
theorem dX10_honours_2 : decode cX10_honours 2 = .ok (.invokevirtual 261, 3) := by decide +kernel
theorem dX10_honours_5 : decode cX10_honours 5 = .ok (.istore_n 3, 1) := by decide +kernel
theorem dX10_honours_6 : decode cX10_honours 6 = .ok (.iload_n 3, 1) := by decide +kernel
theorem dX10_honours_7 : decode cX10_honours 7 = .ok (.ifCond .eq 12, 3) := by decide +kernel
theorem dX10_honours_10 : decode cX10_honours 10 = .ok (.aload_n 0, 1) := by decide +kernel
theorem dX10_honours_11 : decode cX10_honours 11 = .ok (.iload_n 3, 1) := by decide +kernel
theorem dX10_honours_12 : decode cX10_honours 12 = .ok (.invokevirtual 77, 3) := by decide +kernel
theorem dX10_honours_15 : decode cX10_honours 15 = .ok (.i2l, 1) := by decide +kernel
theorem dX10_honours_16 : decode cX10_honours 16 = .ok (.goto 12, 3) := by decide +kernel
theorem dX10_honours_19 : decode cX10_honours 19 = .ok (.aload_n 0, 1) := by decide +kernel
theorem dX10_honours_20 : decode cX10_honours 20 = .ok (.iload_n 1, 1) := by decide +kernel
theorem dX10_honours_21 : decode cX10_honours 21 = .ok (.iload_n 2, 1) := by decide +kernel
theorem dX10_honours_22 : decode cX10_honours 22 = .ok (.invokestatic 267, 3) := by decide +kernel
theorem dX10_honours_25 : decode cX10_honours 25 = .ok (.invokevirtual 235, 3) := by decide +kernel
theorem dX10_honours_28 : decode cX10_honours 28 = .ok (.lreturn, 1) := by decide +kernel
theorem dX10_drawn_0 : decode cX10_drawn 0 = .ok (.aload_n 0, 1) := by decide +kernel
theorem dX10_drawn_1 : decode cX10_drawn 1 = .ok (.invokevirtual 196, 3) := by decide +kernel
theorem dX10_drawn_4 : decode cX10_drawn 4 = .ok (.ifCond .eq 9, 3) := by decide +kernel
theorem dX10_drawn_7 : decode cX10_drawn 7 = .ok (.aload_n 0, 1) := by decide +kernel
theorem dX10_drawn_8 : decode cX10_drawn 8 = .ok (.iconst 1, 1) := by decide +kernel
theorem dX10_drawn_9 : decode cX10_drawn 9 = .ok (.invokevirtual 77, 3) := by decide +kernel
theorem dX10_drawn_12 : decode cX10_drawn 12 = .ok (.ireturn, 1) := by decide +kernel
theorem dX10_drawn_13 : decode cX10_drawn 13 = .ok (.iload_n 1, 1) := by decide +kernel
theorem dX10_drawn_14 : decode cX10_drawn 14 = .ok (.invokestatic 271, 3) := by decide +kernel
theorem dX10_drawn_17 : decode cX10_drawn 17 = .ok (.ifCond .ne 9, 3) := by decide +kernel
theorem dX10_drawn_20 : decode cX10_drawn 20 = .ok (.aload_n 0, 1) := by decide +kernel
theorem dX10_drawn_21 : decode cX10_drawn 21 = .ok (.iconst 2, 1) := by decide +kernel
theorem dX10_drawn_22 : decode cX10_drawn 22 = .ok (.invokevirtual 77, 3) := by decide +kernel
theorem dX10_drawn_25 : decode cX10_drawn 25 = .ok (.ireturn, 1) := by decide +kernel
theorem dX10_drawn_26 : decode cX10_drawn 26 = .ok (.aload_n 0, 1) := by decide +kernel
theorem dX10_drawn_27 : decode cX10_drawn 27 = .ok (.getfield 33, 3) := by decide +kernel
theorem dX10_drawn_30 : decode cX10_drawn 30 = .ok (.aload_n 0, 1) := by decide +kernel
theorem dX10_drawn_31 : decode cX10_drawn 31 = .ok (.getfield 65, 3) := by decide +kernel
theorem dX10_drawn_34 : decode cX10_drawn 34 = .ok (.iload_n 1, 1) := by decide +kernel
theorem dX10_drawn_35 : decode cX10_drawn 35 = .ok (.invokevirtual 274, 3) := by decide +kernel
theorem dX10_drawn_38 : decode cX10_drawn 38 = .ok (.pop, 1) := by decide +kernel
theorem dX10_drawn_39 : decode cX10_drawn 39 = .ok (.iconst 0, 1) := by decide +kernel
theorem dX10_drawn_40 : decode cX10_drawn 40 = .ok (.istore_n 2, 1) := by decide +kernel
theorem dX10_drawn_41 : decode cX10_drawn 41 = .ok (.iconst 0, 1) := by decide +kernel
theorem dX10_drawn_42 : decode cX10_drawn 42 = .ok (.istore_n 3, 1) := by decide +kernel
theorem dX10_drawn_43 : decode cX10_drawn 43 = .ok (.iload_n 3, 1) := by decide +kernel
theorem dX10_drawn_44 : decode cX10_drawn 44 = .ok (.aload_n 0, 1) := by decide +kernel
theorem dX10_drawn_45 : decode cX10_drawn 45 = .ok (.getfield 65, 3) := by decide +kernel
theorem dX10_drawn_48 : decode cX10_drawn 48 = .ok (.bipush 7, 2) := by decide +kernel
theorem dX10_drawn_50 : decode cX10_drawn 50 = .ok (.invokevirtual 99, 3) := by decide +kernel
theorem dX10_drawn_53 : decode cX10_drawn 53 = .ok (.if_icmp .ge 23, 3) := by decide +kernel
theorem dX10_drawn_56 : decode cX10_drawn 56 = .ok (.aload_n 0, 1) := by decide +kernel
theorem dX10_drawn_57 : decode cX10_drawn 57 = .ok (.getfield 33, 3) := by decide +kernel
theorem dX10_drawn_60 : decode cX10_drawn 60 = .ok (.iload_n 3, 1) := by decide +kernel
theorem dX10_drawn_61 : decode cX10_drawn 61 = .ok (.invokevirtual 187, 3) := by decide +kernel
theorem dX10_drawn_64 : decode cX10_drawn 64 = .ok (.ifCond .ne 6, 3) := by decide +kernel
theorem dX10_drawn_67 : decode cX10_drawn 67 = .ok (.iinc 2 1, 3) := by decide +kernel
theorem dX10_drawn_70 : decode cX10_drawn 70 = .ok (.iinc 3 1, 3) := by decide +kernel
theorem dX10_drawn_73 : decode cX10_drawn 73 = .ok (.goto (-30), 3) := by decide +kernel
theorem dX10_drawn_76 : decode cX10_drawn 76 = .ok (.aload_n 0, 1) := by decide +kernel
theorem dX10_drawn_77 : decode cX10_drawn 77 = .ok (.iload_n 2, 1) := by decide +kernel
theorem dX10_drawn_78 : decode cX10_drawn 78 = .ok (.invokevirtual 102, 3) := by decide +kernel
theorem dX10_drawn_81 : decode cX10_drawn 81 = .ok (.ireturn, 1) := by decide +kernel
theorem dX10_caught_0 : decode cX10_caught 0 = .ok (.aload_n 0, 1) := by decide +kernel
theorem dX10_caught_1 : decode cX10_caught 1 = .ok (.getfield 65, 3) := by decide +kernel
theorem dX10_caught_4 : decode cX10_caught 4 = .ok (.iconst 5, 1) := by decide +kernel
theorem dX10_caught_5 : decode cX10_caught 5 = .ok (.iload_n 1, 1) := by decide +kernel
theorem dX10_caught_6 : decode cX10_caught 6 = .ok (.invokevirtual 111, 3) := by decide +kernel
theorem dX10_caught_9 : decode cX10_caught 9 = .ok (.ifCond .ne 9, 3) := by decide +kernel
theorem dX10_caught_12 : decode cX10_caught 12 = .ok (.aload_n 0, 1) := by decide +kernel
theorem dX10_caught_13 : decode cX10_caught 13 = .ok (.iconst 1, 1) := by decide +kernel
theorem dX10_caught_14 : decode cX10_caught 14 = .ok (.invokevirtual 77, 3) := by decide +kernel
theorem dX10_caught_17 : decode cX10_caught 17 = .ok (.ireturn, 1) := by decide +kernel
theorem dX10_caught_18 : decode cX10_caught 18 = .ok (.iload_n 2, 1) := by decide +kernel
theorem dX10_caught_19 : decode cX10_caught 19 = .ok (.invokestatic 271, 3) := by decide +kernel
theorem dX10_caught_22 : decode cX10_caught 22 = .ok (.ifCond .eq 14, 3) := by decide +kernel
theorem dX10_caught_25 : decode cX10_caught 25 = .ok (.iload_n 3, 1) := by decide +kernel
theorem dX10_caught_26 : decode cX10_caught 26 = .ok (.iconst 1, 1) := by decide +kernel
theorem dX10_caught_27 : decode cX10_caught 27 = .ok (.if_icmp .lt 9, 3) := by decide +kernel
theorem dX10_caught_30 : decode cX10_caught 30 = .ok (.iload_n 3, 1) := by decide +kernel
theorem dX10_caught_31 : decode cX10_caught 31 = .ok (.bipush 50, 2) := by decide +kernel
theorem dX10_caught_33 : decode cX10_caught 33 = .ok (.if_icmp .le 9, 3) := by decide +kernel
theorem dX10_caught_36 : decode cX10_caught 36 = .ok (.aload_n 0, 1) := by decide +kernel
theorem dX10_caught_37 : decode cX10_caught 37 = .ok (.iconst 2, 1) := by decide +kernel
theorem dX10_caught_38 : decode cX10_caught 38 = .ok (.invokevirtual 77, 3) := by decide +kernel
theorem dX10_caught_41 : decode cX10_caught 41 = .ok (.ireturn, 1) := by decide +kernel
theorem dX10_caught_42 : decode cX10_caught 42 = .ok (.iconst 0, 1) := by decide +kernel
theorem dX10_caught_43 : decode cX10_caught 43 = .ok (.istore 4, 2) := by decide +kernel
theorem dX10_caught_45 : decode cX10_caught 45 = .ok (.iload_n 2, 1) := by decide +kernel
theorem dX10_caught_46 : decode cX10_caught 46 = .ok (.istore 5, 2) := by decide +kernel
theorem dX10_caught_48 : decode cX10_caught 48 = .ok (.iconst 0, 1) := by decide +kernel
theorem dX10_caught_49 : decode cX10_caught 49 = .ok (.istore 6, 2) := by decide +kernel
theorem dX10_caught_51 : decode cX10_caught 51 = .ok (.iload 6, 2) := by decide +kernel
theorem dX10_caught_53 : decode cX10_caught 53 = .ok (.iload_n 3, 1) := by decide +kernel
theorem dX10_caught_54 : decode cX10_caught 54 = .ok (.if_icmp .ge 37, 3) := by decide +kernel
theorem dX10_caught_57 : decode cX10_caught 57 = .ok (.aload_n 0, 1) := by decide +kernel
theorem dX10_caught_58 : decode cX10_caught 58 = .ok (.getfield 33, 3) := by decide +kernel
theorem dX10_caught_61 : decode cX10_caught 61 = .ok (.aload_n 0, 1) := by decide +kernel
theorem dX10_caught_62 : decode cX10_caught 62 = .ok (.getfield 65, 3) := by decide +kernel
theorem dX10_caught_65 : decode cX10_caught 65 = .ok (.iload 5, 2) := by decide +kernel
theorem dX10_caught_67 : decode cX10_caught 67 = .ok (.invokevirtual 274, 3) := by decide +kernel
theorem dX10_caught_70 : decode cX10_caught 70 = .ok (.istore 5, 2) := by decide +kernel
theorem dX10_caught_72 : decode cX10_caught 72 = .ok (.iload 4, 2) := by decide +kernel
theorem dX10_caught_74 : decode cX10_caught 74 = .ok (.aload_n 0, 1) := by decide +kernel
theorem dX10_caught_75 : decode cX10_caught 75 = .ok (.getfield 33, 3) := by decide +kernel
theorem dX10_caught_78 : decode cX10_caught 78 = .ok (.iload_n 1, 1) := by decide +kernel
theorem dX10_caught_79 : decode cX10_caught 79 = .ok (.invokevirtual 277, 3) := by decide +kernel
theorem dX10_caught_82 : decode cX10_caught 82 = .ok (.iadd, 1) := by decide +kernel
theorem dX10_caught_83 : decode cX10_caught 83 = .ok (.istore 4, 2) := by decide +kernel
theorem dX10_caught_85 : decode cX10_caught 85 = .ok (.iinc 6 1, 3) := by decide +kernel
theorem dX10_caught_88 : decode cX10_caught 88 = .ok (.goto (-37), 3) := by decide +kernel
theorem dX10_caught_91 : decode cX10_caught 91 = .ok (.aload_n 0, 1) := by decide +kernel
theorem dX10_caught_92 : decode cX10_caught 92 = .ok (.iload 4, 2) := by decide +kernel
theorem dX10_caught_94 : decode cX10_caught 94 = .ok (.invokevirtual 102, 3) := by decide +kernel
theorem dX10_caught_97 : decode cX10_caught 97 = .ok (.ireturn, 1) := by decide +kernel
theorem dX10_give_0 : decode cX10_give 0 = .ok (.aload_n 0, 1) := by decide +kernel
theorem dX10_give_1 : decode cX10_give 1 = .ok (.iload_n 1, 1) := by decide +kernel
theorem dX10_give_2 : decode cX10_give 2 = .ok (.iload_n 2, 1) := by decide +kernel
theorem dX10_give_3 : decode cX10_give 3 = .ok (.iload_n 3, 1) := by decide +kernel
theorem dX10_give_4 : decode cX10_give 4 = .ok (.invokevirtual 157, 3) := by decide +kernel
theorem dX10_give_7 : decode cX10_give 7 = .ok (.ifCond .ne 9, 3) := by decide +kernel
theorem dX10_give_10 : decode cX10_give 10 = .ok (.aload_n 0, 1) := by decide +kernel
theorem dX10_give_11 : decode cX10_give 11 = .ok (.iconst 1, 1) := by decide +kernel
theorem dX10_give_12 : decode cX10_give 12 = .ok (.invokevirtual 77, 3) := by decide +kernel
theorem dX10_give_15 : decode cX10_give 15 = .ok (.ireturn, 1) := by decide +kernel
theorem dX10_give_16 : decode cX10_give 16 = .ok (.aload_n 0, 1) := by decide +kernel
theorem dX10_give_17 : decode cX10_give 17 = .ok (.getfield 19, 3) := by decide +kernel
theorem dX10_give_20 : decode cX10_give 20 = .ok (.aload_n 0, 1) := by decide +kernel
theorem dX10_give_21 : decode cX10_give 21 = .ok (.getfield 65, 3) := by decide +kernel
theorem dX10_give_24 : decode cX10_give 24 = .ok (.aload_n 0, 1) := by decide +kernel
theorem dX10_give_25 : decode cX10_give 25 = .ok (.getfield 19, 3) := by decide +kernel
theorem dX10_give_28 : decode cX10_give 28 = .ok (.invokevirtual 168, 3) := by decide +kernel
theorem dX10_give_31 : decode cX10_give 31 = .ok (.iload_n 1, 1) := by decide +kernel
theorem dX10_give_32 : decode cX10_give 32 = .ok (.iload_n 2, 1) := by decide +kernel
theorem dX10_give_33 : decode cX10_give 33 = .ok (.iload_n 3, 1) := by decide +kernel
theorem dX10_give_34 : decode cX10_give 34 = .ok (.invokevirtual 171, 3) := by decide +kernel
theorem dX10_give_37 : decode cX10_give 37 = .ok (.istore 4, 2) := by decide +kernel
theorem dX10_give_39 : decode cX10_give 39 = .ok (.iload 4, 2) := by decide +kernel
theorem dX10_give_41 : decode cX10_give 41 = .ok (.iconst 1, 1) := by decide +kernel
theorem dX10_give_42 : decode cX10_give 42 = .ok (.if_icmp .le 9, 3) := by decide +kernel
theorem dX10_give_45 : decode cX10_give 45 = .ok (.aload_n 0, 1) := by decide +kernel
theorem dX10_give_46 : decode cX10_give 46 = .ok (.iconst 5, 1) := by decide +kernel
theorem dX10_give_47 : decode cX10_give 47 = .ok (.invokevirtual 77, 3) := by decide +kernel
theorem dX10_give_50 : decode cX10_give 50 = .ok (.ireturn, 1) := by decide +kernel
theorem dX10_give_51 : decode cX10_give 51 = .ok (.aload_n 0, 1) := by decide +kernel
theorem dX10_give_52 : decode cX10_give 52 = .ok (.getfield 26, 3) := by decide +kernel
theorem dX10_give_55 : decode cX10_give 55 = .ok (.aload_n 0, 1) := by decide +kernel
theorem dX10_give_56 : decode cX10_give 56 = .ok (.getfield 19, 3) := by decide +kernel
theorem dX10_give_59 : decode cX10_give 59 = .ok (.invokevirtual 278, 3) := by decide +kernel
theorem dX10_give_62 : decode cX10_give 62 = .ok (.aload_n 0, 1) := by decide +kernel
theorem dX10_give_63 : decode cX10_give 63 = .ok (.getfield 19, 3) := by decide +kernel
theorem dX10_give_66 : decode cX10_give 66 = .ok (.aload_n 0, 1) := by decide +kernel
theorem dX10_give_67 : decode cX10_give 67 = .ok (.getfield 65, 3) := by decide +kernel
theorem dX10_give_70 : decode cX10_give 70 = .ok (.iload_n 1, 1) := by decide +kernel
theorem dX10_give_71 : decode cX10_give 71 = .ok (.iload_n 2, 1) := by decide +kernel
theorem dX10_give_72 : decode cX10_give 72 = .ok (.iload_n 3, 1) := by decide +kernel
theorem dX10_give_73 : decode cX10_give 73 = .ok (.iload 4, 2) := by decide +kernel
theorem dX10_give_75 : decode cX10_give 75 = .ok (.invokevirtual 282, 3) := by decide +kernel
theorem dX10_give_78 : decode cX10_give 78 = .ok (.aload_n 0, 1) := by decide +kernel
theorem dX10_give_79 : decode cX10_give 79 = .ok (.iload 4, 2) := by decide +kernel
theorem dX10_give_81 : decode cX10_give 81 = .ok (.invokevirtual 102, 3) := by decide +kernel
theorem dX10_give_84 : decode cX10_give 84 = .ok (.ireturn, 1) := by decide +kernel
theorem dX10_day_0 : decode cX10_day 0 = .ok (.aload_n 0, 1) := by decide +kernel
theorem dX10_day_1 : decode cX10_day 1 = .ok (.invokevirtual 196, 3) := by decide +kernel
theorem dX10_day_4 : decode cX10_day 4 = .ok (.ifCond .eq 9, 3) := by decide +kernel
theorem dX10_day_7 : decode cX10_day 7 = .ok (.aload_n 0, 1) := by decide +kernel
theorem dX10_day_8 : decode cX10_day 8 = .ok (.iconst 1, 1) := by decide +kernel
theorem dX10_day_9 : decode cX10_day 9 = .ok (.invokevirtual 77, 3) := by decide +kernel
theorem dX10_day_12 : decode cX10_day 12 = .ok (.ireturn, 1) := by decide +kernel
theorem dX10_day_13 : decode cX10_day 13 = .ok (.aload_n 0, 1) := by decide +kernel
theorem dX10_day_14 : decode cX10_day 14 = .ok (.getfield 26, 3) := by decide +kernel
theorem dX10_day_17 : decode cX10_day 17 = .ok (.aload_n 0, 1) := by decide +kernel
theorem dX10_day_18 : decode cX10_day 18 = .ok (.getfield 19, 3) := by decide +kernel
theorem dX10_day_21 : decode cX10_day 21 = .ok (.invokevirtual 278, 3) := by decide +kernel
theorem dX10_day_24 : decode cX10_day 24 = .ok (.aload_n 0, 1) := by decide +kernel
theorem dX10_day_25 : decode cX10_day 25 = .ok (.getfield 19, 3) := by decide +kernel
theorem dX10_day_28 : decode cX10_day 28 = .ok (.aload_n 0, 1) := by decide +kernel
theorem dX10_day_29 : decode cX10_day 29 = .ok (.getfield 65, 3) := by decide +kernel
theorem dX10_day_32 : decode cX10_day 32 = .ok (.iconst 0, 1) := by decide +kernel
theorem dX10_day_33 : decode cX10_day 33 = .ok (.invokevirtual 99, 3) := by decide +kernel
theorem dX10_day_36 : decode cX10_day 36 = .ok (.invokevirtual 286, 3) := by decide +kernel
theorem dX10_day_39 : decode cX10_day 39 = .ok (.aload_n 0, 1) := by decide +kernel
theorem dX10_day_40 : decode cX10_day 40 = .ok (.aload_n 0, 1) := by decide +kernel
theorem dX10_day_41 : decode cX10_day 41 = .ok (.getfield 19, 3) := by decide +kernel
theorem dX10_day_44 : decode cX10_day 44 = .ok (.invokevirtual 168, 3) := by decide +kernel
theorem dX10_day_47 : decode cX10_day 47 = .ok (.invokevirtual 102, 3) := by decide +kernel
theorem dX10_day_50 : decode cX10_day 50 = .ok (.ireturn, 1) := by decide +kernel
theorem dX10_sew_0 : decode cX10_sew 0 = .ok (.aload_n 0, 1) := by decide +kernel
theorem dX10_sew_1 : decode cX10_sew 1 = .ok (.getfield 65, 3) := by decide +kernel
theorem dX10_sew_4 : decode cX10_sew 4 = .ok (.iconst 3, 1) := by decide +kernel
theorem dX10_sew_5 : decode cX10_sew 5 = .ok (.iload_n 1, 1) := by decide +kernel
theorem dX10_sew_6 : decode cX10_sew 6 = .ok (.invokevirtual 111, 3) := by decide +kernel
theorem dX10_sew_9 : decode cX10_sew 9 = .ok (.ifCond .ne 9, 3) := by decide +kernel
theorem dX10_sew_12 : decode cX10_sew 12 = .ok (.aload_n 0, 1) := by decide +kernel
theorem dX10_sew_13 : decode cX10_sew 13 = .ok (.iconst 1, 1) := by decide +kernel
theorem dX10_sew_14 : decode cX10_sew 14 = .ok (.invokevirtual 289, 3) := by decide +kernel
theorem dX10_sew_17 : decode cX10_sew 17 = .ok (.ireturn, 1) := by decide +kernel
theorem dX10_sew_18 : decode cX10_sew 18 = .ok (.aload_n 0, 1) := by decide +kernel
theorem dX10_sew_19 : decode cX10_sew 19 = .ok (.getfield 19, 3) := by decide +kernel
theorem dX10_sew_22 : decode cX10_sew 22 = .ok (.aload_n 0, 1) := by decide +kernel
theorem dX10_sew_23 : decode cX10_sew 23 = .ok (.getfield 65, 3) := by decide +kernel
theorem dX10_sew_26 : decode cX10_sew 26 = .ok (.iload_n 1, 1) := by decide +kernel
theorem dX10_sew_27 : decode cX10_sew 27 = .ok (.invokevirtual 131, 3) := by decide +kernel
theorem dX10_sew_30 : decode cX10_sew 30 = .ok (.ifCond .gt 9, 3) := by decide +kernel
theorem dX10_sew_33 : decode cX10_sew 33 = .ok (.aload_n 0, 1) := by decide +kernel
theorem dX10_sew_34 : decode cX10_sew 34 = .ok (.iconst 5, 1) := by decide +kernel
theorem dX10_sew_35 : decode cX10_sew 35 = .ok (.invokevirtual 289, 3) := by decide +kernel
theorem dX10_sew_38 : decode cX10_sew 38 = .ok (.ireturn, 1) := by decide +kernel
theorem dX10_sew_39 : decode cX10_sew 39 = .ok (.aload_n 0, 1) := by decide +kernel
theorem dX10_sew_40 : decode cX10_sew 40 = .ok (.getfield 26, 3) := by decide +kernel
theorem dX10_sew_43 : decode cX10_sew 43 = .ok (.aload_n 0, 1) := by decide +kernel
theorem dX10_sew_44 : decode cX10_sew 44 = .ok (.getfield 19, 3) := by decide +kernel
theorem dX10_sew_47 : decode cX10_sew 47 = .ok (.invokevirtual 278, 3) := by decide +kernel
theorem dX10_sew_50 : decode cX10_sew 50 = .ok (.aload_n 0, 1) := by decide +kernel
theorem dX10_sew_51 : decode cX10_sew 51 = .ok (.getfield 19, 3) := by decide +kernel
theorem dX10_sew_54 : decode cX10_sew 54 = .ok (.iload_n 1, 1) := by decide +kernel
theorem dX10_sew_55 : decode cX10_sew 55 = .ok (.invokevirtual 292, 3) := by decide +kernel
theorem dX10_sew_58 : decode cX10_sew 58 = .ok (.aload_n 0, 1) := by decide +kernel
theorem dX10_sew_59 : decode cX10_sew 59 = .ok (.invokevirtual 295, 3) := by decide +kernel
theorem dX10_sew_62 : decode cX10_sew 62 = .ok (.ireturn, 1) := by decide +kernel
theorem dX10_undo_0 : decode cX10_undo 0 = .ok (.aload_n 0, 1) := by decide +kernel
theorem dX10_undo_1 : decode cX10_undo 1 = .ok (.getfield 26, 3) := by decide +kernel
theorem dX10_undo_4 : decode cX10_undo 4 = .ok (.aload_n 0, 1) := by decide +kernel
theorem dX10_undo_5 : decode cX10_undo 5 = .ok (.getfield 19, 3) := by decide +kernel
theorem dX10_undo_8 : decode cX10_undo 8 = .ok (.invokevirtual 298, 3) := by decide +kernel
theorem dX10_undo_11 : decode cX10_undo 11 = .ok (.ifCond .eq 10, 3) := by decide +kernel
theorem dX10_undo_14 : decode cX10_undo 14 = .ok (.aload_n 0, 1) := by decide +kernel
theorem dX10_undo_15 : decode cX10_undo 15 = .ok (.invokevirtual 295, 3) := by decide +kernel
theorem dX10_undo_18 : decode cX10_undo 18 = .ok (.goto 9, 3) := by decide +kernel
theorem dX10_undo_21 : decode cX10_undo 21 = .ok (.aload_n 0, 1) := by decide +kernel
theorem dX10_undo_22 : decode cX10_undo 22 = .ok (.bipush 6, 2) := by decide +kernel
theorem dX10_undo_24 : decode cX10_undo 24 = .ok (.invokevirtual 289, 3) := by decide +kernel
theorem dX10_undo_27 : decode cX10_undo 27 = .ok (.ireturn, 1) := by decide +kernel
theorem dX10_mark_0 : decode cX10_mark 0 = .ok (.aload_n 0, 1) := by decide +kernel
theorem dX10_mark_1 : decode cX10_mark 1 = .ok (.invokevirtual 196, 3) := by decide +kernel
theorem dX10_mark_4 : decode cX10_mark 4 = .ok (.ifCond .eq 9, 3) := by decide +kernel
theorem dX10_mark_7 : decode cX10_mark 7 = .ok (.aload_n 0, 1) := by decide +kernel
theorem dX10_mark_8 : decode cX10_mark 8 = .ok (.iconst 1, 1) := by decide +kernel
theorem dX10_mark_9 : decode cX10_mark 9 = .ok (.invokevirtual 77, 3) := by decide +kernel
theorem dX10_mark_12 : decode cX10_mark 12 = .ok (.ireturn, 1) := by decide +kernel
theorem dX10_mark_13 : decode cX10_mark 13 = .ok (.aload_n 0, 1) := by decide +kernel
theorem dX10_mark_14 : decode cX10_mark 14 = .ok (.getfield 26, 3) := by decide +kernel
theorem dX10_mark_17 : decode cX10_mark 17 = .ok (.aload_n 0, 1) := by decide +kernel
theorem dX10_mark_18 : decode cX10_mark 18 = .ok (.getfield 19, 3) := by decide +kernel
theorem dX10_mark_21 : decode cX10_mark 21 = .ok (.invokevirtual 302, 3) := by decide +kernel
theorem dX10_mark_24 : decode cX10_mark 24 = .ok (.istore_n 1, 1) := by decide +kernel
theorem dX10_mark_25 : decode cX10_mark 25 = .ok (.iload_n 1, 1) := by decide +kernel
theorem dX10_mark_26 : decode cX10_mark 26 = .ok (.ifCond .ge 11, 3) := by decide +kernel
theorem dX10_mark_29 : decode cX10_mark 29 = .ok (.aload_n 0, 1) := by decide +kernel
theorem dX10_mark_30 : decode cX10_mark 30 = .ok (.iconst 3, 1) := by decide +kernel
theorem dX10_mark_31 : decode cX10_mark 31 = .ok (.invokevirtual 77, 3) := by decide +kernel
theorem dX10_mark_34 : decode cX10_mark 34 = .ok (.goto 8, 3) := by decide +kernel
theorem dX10_mark_37 : decode cX10_mark 37 = .ok (.aload_n 0, 1) := by decide +kernel
theorem dX10_mark_38 : decode cX10_mark 38 = .ok (.iload_n 1, 1) := by decide +kernel
theorem dX10_mark_39 : decode cX10_mark 39 = .ok (.invokevirtual 102, 3) := by decide +kernel
theorem dX10_mark_42 : decode cX10_mark 42 = .ok (.ireturn, 1) := by decide +kernel
theorem dX10_back_0 : decode cX10_back 0 = .ok (.aload_n 0, 1) := by decide +kernel
theorem dX10_back_1 : decode cX10_back 1 = .ok (.getfield 26, 3) := by decide +kernel
theorem dX10_back_4 : decode cX10_back 4 = .ok (.iload_n 1, 1) := by decide +kernel
theorem dX10_back_5 : decode cX10_back 5 = .ok (.aload_n 0, 1) := by decide +kernel
theorem dX10_back_6 : decode cX10_back 6 = .ok (.getfield 19, 3) := by decide +kernel
theorem dX10_back_9 : decode cX10_back 9 = .ok (.invokevirtual 306, 3) := by decide +kernel
theorem dX10_back_12 : decode cX10_back 12 = .ok (.ifCond .eq 10, 3) := by decide +kernel
theorem dX10_back_15 : decode cX10_back 15 = .ok (.aload_n 0, 1) := by decide +kernel
theorem dX10_back_16 : decode cX10_back 16 = .ok (.invokevirtual 295, 3) := by decide +kernel
theorem dX10_back_19 : decode cX10_back 19 = .ok (.goto 8, 3) := by decide +kernel
theorem dX10_back_22 : decode cX10_back 22 = .ok (.aload_n 0, 1) := by decide +kernel
theorem dX10_back_23 : decode cX10_back 23 = .ok (.iconst 1, 1) := by decide +kernel
theorem dX10_back_24 : decode cX10_back 24 = .ok (.invokevirtual 289, 3) := by decide +kernel
theorem dX10_back_27 : decode cX10_back 27 = .ok (.ireturn, 1) := by decide +kernel
theorem dX10_led_0 : decode cX10_led 0 = .ok (.iload_n 1, 1) := by decide +kernel
theorem dX10_led_1 : decode cX10_led 1 = .ok (.istore_n 2, 1) := by decide +kernel
theorem dX10_led_2 : decode cX10_led 2 = .ok (.iconst 0, 1) := by decide +kernel
theorem dX10_led_3 : decode cX10_led 3 = .ok (.istore_n 3, 1) := by decide +kernel
theorem dX10_led_4 : decode cX10_led 4 = .ok (.iload_n 3, 1) := by decide +kernel
theorem dX10_led_5 : decode cX10_led 5 = .ok (.aload_n 0, 1) := by decide +kernel
theorem dX10_led_6 : decode cX10_led 6 = .ok (.getfield 65, 3) := by decide +kernel
theorem dX10_led_9 : decode cX10_led 9 = .ok (.iconst 2, 1) := by decide +kernel
theorem dX10_led_10 : decode cX10_led 10 = .ok (.invokevirtual 99, 3) := by decide +kernel
theorem dX10_led_13 : decode cX10_led 13 = .ok (.if_icmp .ge 29, 3) := by decide +kernel
theorem dX10_led_16 : decode cX10_led 16 = .ok (.aload_n 0, 1) := by decide +kernel
theorem dX10_led_17 : decode cX10_led 17 = .ok (.getfield 19, 3) := by decide +kernel
theorem dX10_led_20 : decode cX10_led 20 = .ok (.iload_n 3, 1) := by decide +kernel
theorem dX10_led_21 : decode cX10_led 21 = .ok (.invokevirtual 125, 3) := by decide +kernel
theorem dX10_led_24 : decode cX10_led 24 = .ok (.ifCond .ge 12, 3) := by decide +kernel
theorem dX10_led_27 : decode cX10_led 27 = .ok (.iload_n 2, 1) := by decide +kernel
theorem dX10_led_28 : decode cX10_led 28 = .ok (.ifCond .ne 5, 3) := by decide +kernel
theorem dX10_led_31 : decode cX10_led 31 = .ok (.iload_n 3, 1) := by decide +kernel
theorem dX10_led_32 : decode cX10_led 32 = .ok (.ireturn, 1) := by decide +kernel
theorem dX10_led_33 : decode cX10_led 33 = .ok (.iinc 2 (-1), 3) := by decide +kernel
theorem dX10_led_36 : decode cX10_led 36 = .ok (.iinc 3 1, 3) := by decide +kernel
theorem dX10_led_39 : decode cX10_led 39 = .ok (.goto (-35), 3) := by decide +kernel
theorem dX10_led_42 : decode cX10_led 42 = .ok (.new 310, 3) := by decide +kernel
theorem dX10_led_45 : decode cX10_led 45 = .ok (.dup, 1) := by decide +kernel
theorem dX10_led_46 : decode cX10_led 46 = .ok (.ldc_w 312, 3) := by decide +kernel
theorem dX10_led_49 : decode cX10_led 49 = .ok (.invokespecial 314, 3) := by decide +kernel
theorem dX10_led_52 : decode cX10_led 52 = .ok (.athrow, 1) := by decide +kernel
theorem dX10_size_0 : decode cX10_size 0 = .ok (.iload_n 1, 1) := by decide +kernel
theorem dX10_size_1 : decode cX10_size 1 = .ok (.tableswitch 63 10 13 #[31, 39, 47, 55], 31) := by decide +kernel
theorem dX10_size_32 : decode cX10_size 32 = .ok (.aload_n 0, 1) := by decide +kernel
theorem dX10_size_33 : decode cX10_size 33 = .ok (.getfield 19, 3) := by decide +kernel
theorem dX10_size_36 : decode cX10_size 36 = .ok (.invokevirtual 168, 3) := by decide +kernel
theorem dX10_size_39 : decode cX10_size 39 = .ok (.ireturn, 1) := by decide +kernel
theorem dX10_size_40 : decode cX10_size 40 = .ok (.aload_n 0, 1) := by decide +kernel
theorem dX10_size_41 : decode cX10_size 41 = .ok (.getfield 26, 3) := by decide +kernel
theorem dX10_size_44 : decode cX10_size 44 = .ok (.invokevirtual 317, 3) := by decide +kernel
theorem dX10_size_47 : decode cX10_size 47 = .ok (.ireturn, 1) := by decide +kernel
theorem dX10_size_48 : decode cX10_size 48 = .ok (.aload_n 0, 1) := by decide +kernel
theorem dX10_size_49 : decode cX10_size 49 = .ok (.getfield 26, 3) := by decide +kernel
theorem dX10_size_52 : decode cX10_size 52 = .ok (.invokevirtual 320, 3) := by decide +kernel
theorem dX10_size_55 : decode cX10_size 55 = .ok (.ireturn, 1) := by decide +kernel
theorem dX10_size_56 : decode cX10_size 56 = .ok (.aload_n 0, 1) := by decide +kernel
theorem dX10_size_57 : decode cX10_size 57 = .ok (.getfield 10, 3) := by decide +kernel
theorem dX10_size_60 : decode cX10_size 60 = .ok (.invokevirtual 69, 3) := by decide +kernel
theorem dX10_size_63 : decode cX10_size 63 = .ok (.ireturn, 1) := by decide +kernel
theorem dX10_size_64 : decode cX10_size 64 = .ok (.iload_n 1, 1) := by decide +kernel
theorem dX10_size_65 : decode cX10_size 65 = .ok (.ifCond .lt 20, 3) := by decide +kernel
theorem dX10_size_68 : decode cX10_size 68 = .ok (.iload_n 1, 1) := by decide +kernel
theorem dX10_size_69 : decode cX10_size 69 = .ok (.bipush 10, 2) := by decide +kernel
theorem dX10_size_71 : decode cX10_size 71 = .ok (.if_icmp .ge 14, 3) := by decide +kernel
theorem dX10_size_74 : decode cX10_size 74 = .ok (.aload_n 0, 1) := by decide +kernel
theorem dX10_size_75 : decode cX10_size 75 = .ok (.getfield 65, 3) := by decide +kernel
theorem dX10_size_78 : decode cX10_size 78 = .ok (.iload_n 1, 1) := by decide +kernel
theorem dX10_size_79 : decode cX10_size 79 = .ok (.invokevirtual 99, 3) := by decide +kernel
theorem dX10_size_82 : decode cX10_size 82 = .ok (.goto 4, 3) := by decide +kernel
theorem dX10_size_85 : decode cX10_size 85 = .ok (.iconst (-1), 1) := by decide +kernel
theorem dX10_size_86 : decode cX10_size 86 = .ok (.ireturn, 1) := by decide +kernel
theorem dX10_trouble_0 : decode cX10_trouble 0 = .ok (.aload_n 0, 1) := by decide +kernel
theorem dX10_trouble_1 : decode cX10_trouble 1 = .ok (.getfield 58, 3) := by decide +kernel
theorem dX10_trouble_4 : decode cX10_trouble 4 = .ok (.ireturn, 1) := by decide +kernel
theorem dX10_fine_0 : decode cX10_fine 0 = .ok (.aload_n 0, 1) := by decide +kernel
theorem dX10_fine_1 : decode cX10_fine 1 = .ok (.iconst 0, 1) := by decide +kernel
theorem dX10_fine_2 : decode cX10_fine 2 = .ok (.putfield 58, 3) := by decide +kernel
theorem dX10_fine_5 : decode cX10_fine 5 = .ok (.iload_n 1, 1) := by decide +kernel
theorem dX10_fine_6 : decode cX10_fine 6 = .ok (.ireturn, 1) := by decide +kernel
theorem dX10_fineLong_0 : decode cX10_fineLong 0 = .ok (.aload_n 0, 1) := by decide +kernel
theorem dX10_fineLong_1 : decode cX10_fineLong 1 = .ok (.iconst 0, 1) := by decide +kernel
theorem dX10_fineLong_2 : decode cX10_fineLong 2 = .ok (.putfield 58, 3) := by decide +kernel
theorem dX10_fineLong_5 : decode cX10_fineLong 5 = .ok (.lload_n 1, 1) := by decide +kernel
theorem dX10_fineLong_6 : decode cX10_fineLong 6 = .ok (.lreturn, 1) := by decide +kernel
theorem dX10_refused_0 : decode cX10_refused 0 = .ok (.aload_n 0, 1) := by decide +kernel
theorem dX10_refused_1 : decode cX10_refused 1 = .ok (.iload_n 1, 1) := by decide +kernel
theorem dX10_refused_2 : decode cX10_refused 2 = .ok (.putfield 58, 3) := by decide +kernel
theorem dX10_refused_5 : decode cX10_refused 5 = .ok (.iconst (-1), 1) := by decide +kernel
theorem dX10_refused_6 : decode cX10_refused 6 = .ok (.ireturn, 1) := by decide +kernel
theorem dX10_yes_0 : decode cX10_yes 0 = .ok (.aload_n 0, 1) := by decide +kernel
theorem dX10_yes_1 : decode cX10_yes 1 = .ok (.iconst 0, 1) := by decide +kernel
theorem dX10_yes_2 : decode cX10_yes 2 = .ok (.putfield 58, 3) := by decide +kernel
theorem dX10_yes_5 : decode cX10_yes 5 = .ok (.iconst 1, 1) := by decide +kernel
theorem dX10_yes_6 : decode cX10_yes 6 = .ok (.ireturn, 1) := by decide +kernel
theorem dX10_no_0 : decode cX10_no 0 = .ok (.aload_n 0, 1) := by decide +kernel
theorem dX10_no_1 : decode cX10_no 1 = .ok (.iload_n 1, 1) := by decide +kernel
theorem dX10_no_2 : decode cX10_no 2 = .ok (.putfield 58, 3) := by decide +kernel
theorem dX10_no_5 : decode cX10_no 5 = .ok (.iconst 0, 1) := by decide +kernel
theorem dX10_no_6 : decode cX10_no 6 = .ok (.ireturn, 1) := by decide +kernel
theorem dX10_noCollege_0 : decode cX10_noCollege 0 = .ok (.aload_n 0, 1) := by decide +kernel
theorem dX10_noCollege_1 : decode cX10_noCollege 1 = .ok (.getfield 65, 3) := by decide +kernel
theorem dX10_noCollege_4 : decode cX10_noCollege 4 = .ok (.iconst 0, 1) := by decide +kernel
theorem dX10_noCollege_5 : decode cX10_noCollege 5 = .ok (.invokevirtual 99, 3) := by decide +kernel
theorem dX10_noCollege_8 : decode cX10_noCollege 8 = .ok (.ifCond .ne 7, 3) := by decide +kernel
theorem dX10_noCollege_11 : decode cX10_noCollege 11 = .ok (.iconst 1, 1) := by decide +kernel
theorem dX10_noCollege_12 : decode cX10_noCollege 12 = .ok (.goto 4, 3) := by decide +kernel
theorem dX10_noCollege_15 : decode cX10_noCollege 15 = .ok (.iconst 0, 1) := by decide +kernel
theorem dX10_noCollege_16 : decode cX10_noCollege 16 = .ok (.ireturn, 1) := by decide +kernel
theorem dX10_isGift_0 : decode cX10_isGift 0 = .ok (.aload_n 0, 1) := by decide +kernel
theorem dX10_isGift_1 : decode cX10_isGift 1 = .ok (.getfield 65, 3) := by decide +kernel
theorem dX10_isGift_4 : decode cX10_isGift 4 = .ok (.iconst 5, 1) := by decide +kernel
theorem dX10_isGift_5 : decode cX10_isGift 5 = .ok (.iload_n 1, 1) := by decide +kernel
theorem dX10_isGift_6 : decode cX10_isGift 6 = .ok (.invokevirtual 111, 3) := by decide +kernel
theorem dX10_isGift_9 : decode cX10_isGift 9 = .ok (.ifCond .eq 31, 3) := by decide +kernel
theorem dX10_isGift_12 : decode cX10_isGift 12 = .ok (.aload_n 0, 1) := by decide +kernel
theorem dX10_isGift_13 : decode cX10_isGift 13 = .ok (.getfield 65, 3) := by decide +kernel
theorem dX10_isGift_16 : decode cX10_isGift 16 = .ok (.iconst 2, 1) := by decide +kernel
theorem dX10_isGift_17 : decode cX10_isGift 17 = .ok (.iload_n 2, 1) := by decide +kernel
theorem dX10_isGift_18 : decode cX10_isGift 18 = .ok (.invokevirtual 111, 3) := by decide +kernel
theorem dX10_isGift_21 : decode cX10_isGift 21 = .ok (.ifCond .eq 19, 3) := by decide +kernel
theorem dX10_isGift_24 : decode cX10_isGift 24 = .ok (.aload_n 0, 1) := by decide +kernel
theorem dX10_isGift_25 : decode cX10_isGift 25 = .ok (.getfield 65, 3) := by decide +kernel
theorem dX10_isGift_28 : decode cX10_isGift 28 = .ok (.iconst 3, 1) := by decide +kernel
theorem dX10_isGift_29 : decode cX10_isGift 29 = .ok (.iload_n 3, 1) := by decide +kernel
theorem dX10_isGift_30 : decode cX10_isGift 30 = .ok (.invokevirtual 111, 3) := by decide +kernel
theorem dX10_isGift_33 : decode cX10_isGift 33 = .ok (.ifCond .eq 7, 3) := by decide +kernel
theorem dX10_isGift_36 : decode cX10_isGift 36 = .ok (.iconst 1, 1) := by decide +kernel
theorem dX10_isGift_37 : decode cX10_isGift 37 = .ok (.goto 4, 3) := by decide +kernel
theorem dX10_isGift_40 : decode cX10_isGift 40 = .ok (.iconst 0, 1) := by decide +kernel
theorem dX10_isGift_41 : decode cX10_isGift 41 = .ok (.ireturn, 1) := by decide +kernel
theorem dX10_isSeed_0 : decode cX10_isSeed 0 = .ok (.iload_n 0, 1) := by decide +kernel
theorem dX10_isSeed_1 : decode cX10_isSeed 1 = .ok (.ifCond .lt 14, 3) := by decide +kernel
theorem dX10_isSeed_4 : decode cX10_isSeed 4 = .ok (.iload_n 0, 1) := by decide +kernel
theorem dX10_isSeed_5 : decode cX10_isSeed 5 = .ok (.ldc_w 323, 3) := by decide +kernel
theorem dX10_isSeed_8 : decode cX10_isSeed 8 = .ok (.if_icmp .gt 7, 3) := by decide +kernel
theorem dX10_isSeed_11 : decode cX10_isSeed 11 = .ok (.iconst 1, 1) := by decide +kernel
theorem dX10_isSeed_12 : decode cX10_isSeed 12 = .ok (.goto 4, 3) := by decide +kernel
theorem dX10_isSeed_15 : decode cX10_isSeed 15 = .ok (.iconst 0, 1) := by decide +kernel
theorem dX10_isSeed_16 : decode cX10_isSeed 16 = .ok (.ireturn, 1) := by decide +kernel
theorem dX10_whyNot_0 : decode cX10_whyNot 0 = .ok (.aload_n 0, 1) := by decide +kernel
theorem dX10_whyNot_1 : decode cX10_whyNot 1 = .ok (.getfield 65, 3) := by decide +kernel
theorem dX10_whyNot_4 : decode cX10_whyNot 4 = .ok (.iload_n 1, 1) := by decide +kernel
theorem dX10_whyNot_5 : decode cX10_whyNot 5 = .ok (.iload_n 2, 1) := by decide +kernel
theorem dX10_whyNot_6 : decode cX10_whyNot 6 = .ok (.invokevirtual 111, 3) := by decide +kernel
theorem dX10_whyNot_9 : decode cX10_whyNot 9 = .ok (.ifCond .ne 5, 3) := by decide +kernel
theorem dX10_whyNot_12 : decode cX10_whyNot 12 = .ok (.iconst 1, 1) := by decide +kernel
theorem dX10_whyNot_13 : decode cX10_whyNot 13 = .ok (.ireturn, 1) := by decide +kernel
theorem dX10_whyNot_14 : decode cX10_whyNot 14 = .ok (.aload_n 0, 1) := by decide +kernel
theorem dX10_whyNot_15 : decode cX10_whyNot 15 = .ok (.getfield 65, 3) := by decide +kernel
theorem dX10_whyNot_18 : decode cX10_whyNot 18 = .ok (.iconst 0, 1) := by decide +kernel
theorem dX10_whyNot_19 : decode cX10_whyNot 19 = .ok (.iload_n 3, 1) := by decide +kernel
theorem dX10_whyNot_20 : decode cX10_whyNot 20 = .ok (.invokevirtual 111, 3) := by decide +kernel
theorem dX10_whyNot_23 : decode cX10_whyNot 23 = .ok (.ifCond .eq 7, 3) := by decide +kernel
theorem dX10_whyNot_26 : decode cX10_whyNot 26 = .ok (.iconst 0, 1) := by decide +kernel
theorem dX10_whyNot_27 : decode cX10_whyNot 27 = .ok (.goto 4, 3) := by decide +kernel
theorem dX10_whyNot_30 : decode cX10_whyNot 30 = .ok (.iconst 2, 1) := by decide +kernel
theorem dX10_whyNot_31 : decode cX10_whyNot 31 = .ok (.ireturn, 1) := by decide +kernel
theorem dX10_whyNoChoice_0 : decode cX10_whyNoChoice 0 = .ok (.aload_n 0, 1) := by decide +kernel
theorem dX10_whyNoChoice_1 : decode cX10_whyNoChoice 1 = .ok (.getfield 65, 3) := by decide +kernel
theorem dX10_whyNoChoice_4 : decode cX10_whyNoChoice 4 = .ok (.iconst 4, 1) := by decide +kernel
theorem dX10_whyNoChoice_5 : decode cX10_whyNoChoice 5 = .ok (.invokevirtual 99, 3) := by decide +kernel
theorem dX10_whyNoChoice_8 : decode cX10_whyNoChoice 8 = .ok (.ifCond .ne 6, 3) := by decide +kernel
theorem dX10_whyNoChoice_11 : decode cX10_whyNoChoice 11 = .ok (.bipush 6, 2) := by decide +kernel
theorem dX10_whyNoChoice_13 : decode cX10_whyNoChoice 13 = .ok (.ireturn, 1) := by decide +kernel
theorem dX10_whyNoChoice_14 : decode cX10_whyNoChoice 14 = .ok (.aload_n 0, 1) := by decide +kernel
theorem dX10_whyNoChoice_15 : decode cX10_whyNoChoice 15 = .ok (.getfield 65, 3) := by decide +kernel
theorem dX10_whyNoChoice_18 : decode cX10_whyNoChoice 18 = .ok (.iconst 0, 1) := by decide +kernel
theorem dX10_whyNoChoice_19 : decode cX10_whyNoChoice 19 = .ok (.iload_n 1, 1) := by decide +kernel
theorem dX10_whyNoChoice_20 : decode cX10_whyNoChoice 20 = .ok (.invokevirtual 111, 3) := by decide +kernel
theorem dX10_whyNoChoice_23 : decode cX10_whyNoChoice 23 = .ok (.ifCond .eq 7, 3) := by decide +kernel
theorem dX10_whyNoChoice_26 : decode cX10_whyNoChoice 26 = .ok (.iconst 0, 1) := by decide +kernel
theorem dX10_whyNoChoice_27 : decode cX10_whyNoChoice 27 = .ok (.goto 4, 3) := by decide +kernel
theorem dX10_whyNoChoice_30 : decode cX10_whyNoChoice 30 = .ok (.iconst 2, 1) := by decide +kernel
theorem dX10_whyNoChoice_31 : decode cX10_whyNoChoice 31 = .ok (.ireturn, 1) := by decide +kernel
theorem dX10_whyNoDare_0 : decode cX10_whyNoDare 0 = .ok (.aload_n 0, 1) := by decide +kernel
theorem dX10_whyNoDare_1 : decode cX10_whyNoDare 1 = .ok (.invokevirtual 196, 3) := by decide +kernel
theorem dX10_whyNoDare_4 : decode cX10_whyNoDare 4 = .ok (.ifCond .eq 5, 3) := by decide +kernel
theorem dX10_whyNoDare_7 : decode cX10_whyNoDare 7 = .ok (.iconst 1, 1) := by decide +kernel
theorem dX10_whyNoDare_8 : decode cX10_whyNoDare 8 = .ok (.ireturn, 1) := by decide +kernel
theorem dX10_whyNoDare_9 : decode cX10_whyNoDare 9 = .ok (.iload_n 1, 1) := by decide +kernel
theorem dX10_whyNoDare_10 : decode cX10_whyNoDare 10 = .ok (.ifCond .lt 9, 3) := by decide +kernel
theorem dX10_whyNoDare_13 : decode cX10_whyNoDare 13 = .ok (.iload_n 1, 1) := by decide +kernel
theorem dX10_whyNoDare_14 : decode cX10_whyNoDare 14 = .ok (.bipush 100, 2) := by decide +kernel
theorem dX10_whyNoDare_16 : decode cX10_whyNoDare 16 = .ok (.if_icmp .le 7, 3) := by decide +kernel
theorem dX10_whyNoDare_19 : decode cX10_whyNoDare 19 = .ok (.iconst 2, 1) := by decide +kernel
theorem dX10_whyNoDare_20 : decode cX10_whyNoDare 20 = .ok (.goto 4, 3) := by decide +kernel
theorem dX10_whyNoDare_23 : decode cX10_whyNoDare 23 = .ok (.iconst 0, 1) := by decide +kernel
theorem dX10_whyNoDare_24 : decode cX10_whyNoDare 24 = .ok (.ireturn, 1) := by decide +kernel
theorem dX11_init_0 : decode cX11_init 0 = .ok (.aload_n 0, 1) := by decide +kernel
theorem dX11_init_1 : decode cX11_init 1 = .ok (.invokespecial 3, 3) := by decide +kernel
theorem dX11_init_4 : decode cX11_init 4 = .ok (.aload_n 0, 1) := by decide +kernel
theorem dX11_init_5 : decode cX11_init 5 = .ok (.iconst 4, 1) := by decide +kernel
theorem dX11_init_6 : decode cX11_init 6 = .ok (.newarray .int, 2) := by decide +kernel
theorem dX11_init_8 : decode cX11_init 8 = .ok (.putfield 9, 3) := by decide +kernel
theorem dX11_init_11 : decode cX11_init 11 = .ok (.aload_n 0, 1) := by decide +kernel
theorem dX11_init_12 : decode cX11_init 12 = .ok (.iconst 4, 1) := by decide +kernel
theorem dX11_init_13 : decode cX11_init 13 = .ok (.newarray .int, 2) := by decide +kernel
theorem dX11_init_15 : decode cX11_init 15 = .ok (.putfield 15, 3) := by decide +kernel
theorem dX11_init_18 : decode cX11_init 18 = .ok (.aload_n 0, 1) := by decide +kernel
theorem dX11_init_19 : decode cX11_init 19 = .ok (.iconst 4, 1) := by decide +kernel
theorem dX11_init_20 : decode cX11_init 20 = .ok (.newarray .int, 2) := by decide +kernel
theorem dX11_init_22 : decode cX11_init 22 = .ok (.putfield 18, 3) := by decide +kernel
theorem dX11_init_25 : decode cX11_init 25 = .ok (.aload_n 0, 1) := by decide +kernel
theorem dX11_init_26 : decode cX11_init 26 = .ok (.iconst 4, 1) := by decide +kernel
theorem dX11_init_27 : decode cX11_init 27 = .ok (.newarray .int, 2) := by decide +kernel
theorem dX11_init_29 : decode cX11_init 29 = .ok (.putfield 21, 3) := by decide +kernel
theorem dX11_init_32 : decode cX11_init 32 = .ok (.aload_n 0, 1) := by decide +kernel
theorem dX11_init_33 : decode cX11_init 33 = .ok (.iconst 5, 1) := by decide +kernel
theorem dX11_init_34 : decode cX11_init 34 = .ok (.newarray .int, 2) := by decide +kernel
theorem dX11_init_36 : decode cX11_init 36 = .ok (.putfield 24, 3) := by decide +kernel
theorem dX11_init_39 : decode cX11_init 39 = .ok (.aload_n 0, 1) := by decide +kernel
theorem dX11_init_40 : decode cX11_init 40 = .ok (.iconst 5, 1) := by decide +kernel
theorem dX11_init_41 : decode cX11_init 41 = .ok (.newarray .int, 2) := by decide +kernel
theorem dX11_init_43 : decode cX11_init 43 = .ok (.putfield 27, 3) := by decide +kernel
theorem dX11_init_46 : decode cX11_init 46 = .ok (.aload_n 0, 1) := by decide +kernel
theorem dX11_init_47 : decode cX11_init 47 = .ok (.iconst 5, 1) := by decide +kernel
theorem dX11_init_48 : decode cX11_init 48 = .ok (.newarray .int, 2) := by decide +kernel
theorem dX11_init_50 : decode cX11_init 50 = .ok (.putfield 30, 3) := by decide +kernel
theorem dX11_init_53 : decode cX11_init 53 = .ok (.aload_n 0, 1) := by decide +kernel
theorem dX11_init_54 : decode cX11_init 54 = .ok (.bipush 35, 2) := by decide +kernel
theorem dX11_init_56 : decode cX11_init 56 = .ok (.newarray .int, 2) := by decide +kernel
theorem dX11_init_58 : decode cX11_init 58 = .ok (.putfield 33, 3) := by decide +kernel
theorem dX11_init_61 : decode cX11_init 61 = .ok (.aload_n 0, 1) := by decide +kernel
theorem dX11_init_62 : decode cX11_init 62 = .ok (.iconst 4, 1) := by decide +kernel
theorem dX11_init_63 : decode cX11_init 63 = .ok (.newarray .int, 2) := by decide +kernel
theorem dX11_init_65 : decode cX11_init 65 = .ok (.putfield 36, 3) := by decide +kernel
theorem dX11_init_68 : decode cX11_init 68 = .ok (.aload_n 0, 1) := by decide +kernel
theorem dX11_init_69 : decode cX11_init 69 = .ok (.iconst 4, 1) := by decide +kernel
theorem dX11_init_70 : decode cX11_init 70 = .ok (.newarray .int, 2) := by decide +kernel
theorem dX11_init_72 : decode cX11_init 72 = .ok (.putfield 39, 3) := by decide +kernel
theorem dX11_init_75 : decode cX11_init 75 = .ok (.aload_n 0, 1) := by decide +kernel
theorem dX11_init_76 : decode cX11_init 76 = .ok (.iconst 3, 1) := by decide +kernel
theorem dX11_init_77 : decode cX11_init 77 = .ok (.newarray .int, 2) := by decide +kernel
theorem dX11_init_79 : decode cX11_init 79 = .ok (.putfield 42, 3) := by decide +kernel
theorem dX11_init_82 : decode cX11_init 82 = .ok (.aload_n 0, 1) := by decide +kernel
theorem dX11_init_83 : decode cX11_init 83 = .ok (.bipush 21, 2) := by decide +kernel
theorem dX11_init_85 : decode cX11_init 85 = .ok (.newarray .int, 2) := by decide +kernel
theorem dX11_init_87 : decode cX11_init 87 = .ok (.putfield 45, 3) := by decide +kernel
theorem dX11_init_90 : decode cX11_init 90 = .ok (.aload_n 0, 1) := by decide +kernel
theorem dX11_init_91 : decode cX11_init 91 = .ok (.bipush 12, 2) := by decide +kernel
theorem dX11_init_93 : decode cX11_init 93 = .ok (.newarray .int, 2) := by decide +kernel
theorem dX11_init_95 : decode cX11_init 95 = .ok (.putfield 48, 3) := by decide +kernel
theorem dX11_init_98 : decode cX11_init 98 = .ok (.aload_n 0, 1) := by decide +kernel
theorem dX11_init_99 : decode cX11_init 99 = .ok (.bipush 12, 2) := by decide +kernel
theorem dX11_init_101 : decode cX11_init 101 = .ok (.newarray .int, 2) := by decide +kernel
theorem dX11_init_103 : decode cX11_init 103 = .ok (.putfield 51, 3) := by decide +kernel
theorem dX11_init_106 : decode cX11_init 106 = .ok (.aload_n 0, 1) := by decide +kernel
theorem dX11_init_107 : decode cX11_init 107 = .ok (.bipush 12, 2) := by decide +kernel
theorem dX11_init_109 : decode cX11_init 109 = .ok (.newarray .int, 2) := by decide +kernel
theorem dX11_init_111 : decode cX11_init 111 = .ok (.putfield 54, 3) := by decide +kernel
theorem dX11_init_114 : decode cX11_init 114 = .ok (.aload_n 0, 1) := by decide +kernel
theorem dX11_init_115 : decode cX11_init 115 = .ok (.bipush 12, 2) := by decide +kernel
theorem dX11_init_117 : decode cX11_init 117 = .ok (.newarray .int, 2) := by decide +kernel
theorem dX11_init_119 : decode cX11_init 119 = .ok (.putfield 57, 3) := by decide +kernel
theorem dX11_init_122 : decode cX11_init 122 = .ok (.aload_n 0, 1) := by decide +kernel
theorem dX11_init_123 : decode cX11_init 123 = .ok (.bipush 8, 2) := by decide +kernel
theorem dX11_init_125 : decode cX11_init 125 = .ok (.newarray .int, 2) := by decide +kernel
theorem dX11_init_127 : decode cX11_init 127 = .ok (.putfield 60, 3) := by decide +kernel
theorem dX11_init_130 : decode cX11_init 130 = .ok (.aload_n 0, 1) := by decide +kernel
theorem dX11_init_131 : decode cX11_init 131 = .ok (.bipush 8, 2) := by decide +kernel
theorem dX11_init_133 : decode cX11_init 133 = .ok (.newarray .int, 2) := by decide +kernel
theorem dX11_init_135 : decode cX11_init 135 = .ok (.putfield 63, 3) := by decide +kernel
theorem dX11_init_138 : decode cX11_init 138 = .ok (.aload_n 0, 1) := by decide +kernel
theorem dX11_init_139 : decode cX11_init 139 = .ok (.bipush 8, 2) := by decide +kernel
theorem dX11_init_141 : decode cX11_init 141 = .ok (.newarray .int, 2) := by decide +kernel
theorem dX11_init_143 : decode cX11_init 143 = .ok (.putfield 66, 3) := by decide +kernel
theorem dX11_init_146 : decode cX11_init 146 = .ok (.aload_n 0, 1) := by decide +kernel
theorem dX11_init_147 : decode cX11_init 147 = .ok (.bipush 8, 2) := by decide +kernel
theorem dX11_init_149 : decode cX11_init 149 = .ok (.newarray .int, 2) := by decide +kernel
theorem dX11_init_151 : decode cX11_init 151 = .ok (.putfield 69, 3) := by decide +kernel
theorem dX11_init_154 : decode cX11_init 154 = .ok (.aload_n 0, 1) := by decide +kernel
theorem dX11_init_155 : decode cX11_init 155 = .ok (.bipush 8, 2) := by decide +kernel
theorem dX11_init_157 : decode cX11_init 157 = .ok (.newarray .boolean, 2) := by decide +kernel
theorem dX11_init_159 : decode cX11_init 159 = .ok (.putfield 72, 3) := by decide +kernel
theorem dX11_init_162 : decode cX11_init 162 = .ok (.aload_n 0, 1) := by decide +kernel
theorem dX11_init_163 : decode cX11_init 163 = .ok (.bipush 16, 2) := by decide +kernel
theorem dX11_init_165 : decode cX11_init 165 = .ok (.newarray .long, 2) := by decide +kernel
theorem dX11_init_167 : decode cX11_init 167 = .ok (.putfield 76, 3) := by decide +kernel
theorem dX11_init_170 : decode cX11_init 170 = .ok (.aload_n 0, 1) := by decide +kernel
theorem dX11_init_171 : decode cX11_init 171 = .ok (.bipush 16, 2) := by decide +kernel
theorem dX11_init_173 : decode cX11_init 173 = .ok (.newarray .int, 2) := by decide +kernel
theorem dX11_init_175 : decode cX11_init 175 = .ok (.putfield 80, 3) := by decide +kernel
theorem dX11_init_178 : decode cX11_init 178 = .ok (.aload_n 0, 1) := by decide +kernel
theorem dX11_init_179 : decode cX11_init 179 = .ok (.bipush 16, 2) := by decide +kernel
theorem dX11_init_181 : decode cX11_init 181 = .ok (.newarray .int, 2) := by decide +kernel
theorem dX11_init_183 : decode cX11_init 183 = .ok (.putfield 83, 3) := by decide +kernel
theorem dX11_init_186 : decode cX11_init 186 = .ok (.return_, 1) := by decide +kernel
theorem dX11_find_0 : decode cX11_find 0 = .ok (.iconst 0, 1) := by decide +kernel
theorem dX11_find_1 : decode cX11_find 1 = .ok (.istore_n 3, 1) := by decide +kernel
theorem dX11_find_2 : decode cX11_find 2 = .ok (.iload_n 3, 1) := by decide +kernel
theorem dX11_find_3 : decode cX11_find 3 = .ok (.aload_n 0, 1) := by decide +kernel
theorem dX11_find_4 : decode cX11_find 4 = .ok (.getfield 86, 3) := by decide +kernel
theorem dX11_find_7 : decode cX11_find 7 = .ok (.if_icmp .ge 22, 3) := by decide +kernel
theorem dX11_find_10 : decode cX11_find 10 = .ok (.aload_n 0, 1) := by decide +kernel
theorem dX11_find_11 : decode cX11_find 11 = .ok (.getfield 76, 3) := by decide +kernel
theorem dX11_find_14 : decode cX11_find 14 = .ok (.iload_n 3, 1) := by decide +kernel
theorem dX11_find_15 : decode cX11_find 15 = .ok (.laload, 1) := by decide +kernel
theorem dX11_find_16 : decode cX11_find 16 = .ok (.lload_n 1, 1) := by decide +kernel
theorem dX11_find_17 : decode cX11_find 17 = .ok (.lcmp, 1) := by decide +kernel
theorem dX11_find_18 : decode cX11_find 18 = .ok (.ifCond .ne 5, 3) := by decide +kernel
theorem dX11_find_21 : decode cX11_find 21 = .ok (.iload_n 3, 1) := by decide +kernel
theorem dX11_find_22 : decode cX11_find 22 = .ok (.ireturn, 1) := by decide +kernel
theorem dX11_find_23 : decode cX11_find 23 = .ok (.iinc 3 1, 3) := by decide +kernel
theorem dX11_find_26 : decode cX11_find 26 = .ok (.goto (-24), 3) := by decide +kernel
theorem dX11_find_29 : decode cX11_find 29 = .ok (.iconst (-1), 1) := by decide +kernel
theorem dX11_find_30 : decode cX11_find 30 = .ok (.ireturn, 1) := by decide +kernel
theorem dX11_roomOf_0 : decode cX11_roomOf 0 = .ok (.aload_n 0, 1) := by decide +kernel
theorem dX11_roomOf_1 : decode cX11_roomOf 1 = .ok (.getfield 24, 3) := by decide +kernel
theorem dX11_roomOf_4 : decode cX11_roomOf 4 = .ok (.iload_n 1, 1) := by decide +kernel
theorem dX11_roomOf_5 : decode cX11_roomOf 5 = .ok (.iaload, 1) := by decide +kernel
theorem dX11_roomOf_6 : decode cX11_roomOf 6 = .ok (.iconst 2, 1) := by decide +kernel
theorem dX11_roomOf_7 : decode cX11_roomOf 7 = .ok (.if_icmp .ne 14, 3) := by decide +kernel
theorem dX11_roomOf_10 : decode cX11_roomOf 10 = .ok (.aload_n 0, 1) := by decide +kernel
theorem dX11_roomOf_11 : decode cX11_roomOf 11 = .ok (.getfield 27, 3) := by decide +kernel
theorem dX11_roomOf_14 : decode cX11_roomOf 14 = .ok (.iload_n 1, 1) := by decide +kernel
theorem dX11_roomOf_15 : decode cX11_roomOf 15 = .ok (.iaload, 1) := by decide +kernel
theorem dX11_roomOf_16 : decode cX11_roomOf 16 = .ok (.iconst 2, 1) := by decide +kernel
theorem dX11_roomOf_17 : decode cX11_roomOf 17 = .ok (.idiv, 1) := by decide +kernel
theorem dX11_roomOf_18 : decode cX11_roomOf 18 = .ok (.goto 9, 3) := by decide +kernel
theorem dX11_roomOf_21 : decode cX11_roomOf 21 = .ok (.aload_n 0, 1) := by decide +kernel
theorem dX11_roomOf_22 : decode cX11_roomOf 22 = .ok (.getfield 27, 3) := by decide +kernel
theorem dX11_roomOf_25 : decode cX11_roomOf 25 = .ok (.iload_n 1, 1) := by decide +kernel
theorem dX11_roomOf_26 : decode cX11_roomOf 26 = .ok (.iaload, 1) := by decide +kernel
theorem dX11_roomOf_27 : decode cX11_roomOf 27 = .ok (.ireturn, 1) := by decide +kernel
theorem dX11_near_0 : decode cX11_near 0 = .ok (.aload_n 0, 1) := by decide +kernel
theorem dX11_near_1 : decode cX11_near 1 = .ok (.getfield 30, 3) := by decide +kernel
theorem dX11_near_4 : decode cX11_near 4 = .ok (.iload_n 3, 1) := by decide +kernel
theorem dX11_near_5 : decode cX11_near 5 = .ok (.iaload, 1) := by decide +kernel
theorem dX11_near_6 : decode cX11_near 6 = .ok (.aload_n 0, 1) := by decide +kernel
theorem dX11_near_7 : decode cX11_near 7 = .ok (.getfield 15, 3) := by decide +kernel
theorem dX11_near_10 : decode cX11_near 10 = .ok (.iload_n 2, 1) := by decide +kernel
theorem dX11_near_11 : decode cX11_near 11 = .ok (.iaload, 1) := by decide +kernel
theorem dX11_near_12 : decode cX11_near 12 = .ok (.iadd, 1) := by decide +kernel
theorem dX11_near_13 : decode cX11_near 13 = .ok (.aload_n 0, 1) := by decide +kernel
theorem dX11_near_14 : decode cX11_near 14 = .ok (.getfield 9, 3) := by decide +kernel
theorem dX11_near_17 : decode cX11_near 17 = .ok (.iload_n 2, 1) := by decide +kernel
theorem dX11_near_18 : decode cX11_near 18 = .ok (.iaload, 1) := by decide +kernel
theorem dX11_near_19 : decode cX11_near 19 = .ok (.iconst 1, 1) := by decide +kernel
theorem dX11_near_20 : decode cX11_near 20 = .ok (.if_icmp .ne 7, 3) := by decide +kernel
theorem dX11_near_23 : decode cX11_near 23 = .ok (.iconst 3, 1) := by decide +kernel
theorem dX11_near_24 : decode cX11_near 24 = .ok (.goto 19, 3) := by decide +kernel
theorem dX11_near_27 : decode cX11_near 27 = .ok (.aload_n 0, 1) := by decide +kernel
theorem dX11_near_28 : decode cX11_near 28 = .ok (.getfield 9, 3) := by decide +kernel
theorem dX11_near_31 : decode cX11_near 31 = .ok (.iload_n 2, 1) := by decide +kernel
theorem dX11_near_32 : decode cX11_near 32 = .ok (.iaload, 1) := by decide +kernel
theorem dX11_near_33 : decode cX11_near 33 = .ok (.iconst 2, 1) := by decide +kernel
theorem dX11_near_34 : decode cX11_near 34 = .ok (.if_icmp .ne 8, 3) := by decide +kernel
theorem dX11_near_37 : decode cX11_near 37 = .ok (.bipush 10, 2) := by decide +kernel
theorem dX11_near_39 : decode cX11_near 39 = .ok (.goto 4, 3) := by decide +kernel
theorem dX11_near_42 : decode cX11_near 42 = .ok (.iconst 0, 1) := by decide +kernel
theorem dX11_near_43 : decode cX11_near 43 = .ok (.iadd, 1) := by decide +kernel
theorem dX11_near_44 : decode cX11_near 44 = .ok (.iconst 5, 1) := by decide +kernel
theorem dX11_near_45 : decode cX11_near 45 = .ok (.iload 5, 2) := by decide +kernel
theorem dX11_near_47 : decode cX11_near 47 = .ok (.imul, 1) := by decide +kernel
theorem dX11_near_48 : decode cX11_near 48 = .ok (.iadd, 1) := by decide +kernel
theorem dX11_near_49 : decode cX11_near 49 = .ok (.aload_n 0, 1) := by decide +kernel
theorem dX11_near_50 : decode cX11_near 50 = .ok (.getfield 36, 3) := by decide +kernel
theorem dX11_near_53 : decode cX11_near 53 = .ok (.iload 4, 2) := by decide +kernel
theorem dX11_near_55 : decode cX11_near 55 = .ok (.iaload, 1) := by decide +kernel
theorem dX11_near_56 : decode cX11_near 56 = .ok (.isub, 1) := by decide +kernel
theorem dX11_near_57 : decode cX11_near 57 = .ok (.aload_n 0, 1) := by decide +kernel
theorem dX11_near_58 : decode cX11_near 58 = .ok (.getfield 42, 3) := by decide +kernel
theorem dX11_near_61 : decode cX11_near 61 = .ok (.iload_n 1, 1) := by decide +kernel
theorem dX11_near_62 : decode cX11_near 62 = .ok (.iaload, 1) := by decide +kernel
theorem dX11_near_63 : decode cX11_near 63 = .ok (.isub, 1) := by decide +kernel
theorem dX11_near_64 : decode cX11_near 64 = .ok (.istore 6, 2) := by decide +kernel
theorem dX11_near_66 : decode cX11_near 66 = .ok (.aload_n 0, 1) := by decide +kernel
theorem dX11_near_67 : decode cX11_near 67 = .ok (.getfield 24, 3) := by decide +kernel
theorem dX11_near_70 : decode cX11_near 70 = .ok (.iload_n 3, 1) := by decide +kernel
theorem dX11_near_71 : decode cX11_near 71 = .ok (.iaload, 1) := by decide +kernel
theorem dX11_near_72 : decode cX11_near 72 = .ok (.iconst 1, 1) := by decide +kernel
theorem dX11_near_73 : decode cX11_near 73 = .ok (.if_icmp .ne 6, 3) := by decide +kernel
theorem dX11_near_76 : decode cX11_near 76 = .ok (.iinc 6 (-20), 3) := by decide +kernel
theorem dX11_near_79 : decode cX11_near 79 = .ok (.iload 6, 2) := by decide +kernel
theorem dX11_near_81 : decode cX11_near 81 = .ok (.ifCond .ge 6, 3) := by decide +kernel
theorem dX11_near_84 : decode cX11_near 84 = .ok (.iconst 0, 1) := by decide +kernel
theorem dX11_near_85 : decode cX11_near 85 = .ok (.istore 6, 2) := by decide +kernel
theorem dX11_near_87 : decode cX11_near 87 = .ok (.aload_n 0, 1) := by decide +kernel
theorem dX11_near_88 : decode cX11_near 88 = .ok (.getfield 24, 3) := by decide +kernel
theorem dX11_near_91 : decode cX11_near 91 = .ok (.iload_n 3, 1) := by decide +kernel
theorem dX11_near_92 : decode cX11_near 92 = .ok (.iaload, 1) := by decide +kernel
theorem dX11_near_93 : decode cX11_near 93 = .ok (.iconst 3, 1) := by decide +kernel
theorem dX11_near_94 : decode cX11_near 94 = .ok (.if_icmp .ne 9, 3) := by decide +kernel
theorem dX11_near_97 : decode cX11_near 97 = .ok (.iload 6, 2) := by decide +kernel
theorem dX11_near_99 : decode cX11_near 99 = .ok (.iconst 2, 1) := by decide +kernel
theorem dX11_near_100 : decode cX11_near 100 = .ok (.imul, 1) := by decide +kernel
theorem dX11_near_101 : decode cX11_near 101 = .ok (.istore 6, 2) := by decide +kernel
theorem dX11_near_103 : decode cX11_near 103 = .ok (.iload 6, 2) := by decide +kernel
theorem dX11_near_105 : decode cX11_near 105 = .ok (.bipush 100, 2) := by decide +kernel
theorem dX11_near_107 : decode cX11_near 107 = .ok (.if_icmp .le 8, 3) := by decide +kernel
theorem dX11_near_110 : decode cX11_near 110 = .ok (.bipush 100, 2) := by decide +kernel
theorem dX11_near_112 : decode cX11_near 112 = .ok (.goto 5, 3) := by decide +kernel
theorem dX11_near_115 : decode cX11_near 115 = .ok (.iload 6, 2) := by decide +kernel
theorem dX11_near_117 : decode cX11_near 117 = .ok (.ireturn, 1) := by decide +kernel
theorem dX11_together_0 : decode cX11_together 0 = .ok (.aload_n 0, 1) := by decide +kernel
theorem dX11_together_1 : decode cX11_together 1 = .ok (.getfield 33, 3) := by decide +kernel
theorem dX11_together_4 : decode cX11_together 4 = .ok (.bipush 7, 2) := by decide +kernel
theorem dX11_together_6 : decode cX11_together 6 = .ok (.iload_n 2, 1) := by decide +kernel
theorem dX11_together_7 : decode cX11_together 7 = .ok (.imul, 1) := by decide +kernel
theorem dX11_together_8 : decode cX11_together 8 = .ok (.iload_n 3, 1) := by decide +kernel
theorem dX11_together_9 : decode cX11_together 9 = .ok (.iadd, 1) := by decide +kernel
theorem dX11_together_10 : decode cX11_together 10 = .ok (.iaload, 1) := by decide +kernel
theorem dX11_together_11 : decode cX11_together 11 = .ok (.istore 4, 2) := by decide +kernel
theorem dX11_together_13 : decode cX11_together 13 = .ok (.iload 4, 2) := by decide +kernel
theorem dX11_together_15 : decode cX11_together 15 = .ok (.bipush (-2), 2) := by decide +kernel
theorem dX11_together_17 : decode cX11_together 17 = .ok (.if_icmp .eq 24, 3) := by decide +kernel
theorem dX11_together_20 : decode cX11_together 20 = .ok (.aload_n 0, 1) := by decide +kernel
theorem dX11_together_21 : decode cX11_together 21 = .ok (.getfield 45, 3) := by decide +kernel
theorem dX11_together_24 : decode cX11_together 24 = .ok (.bipush 7, 2) := by decide +kernel
theorem dX11_together_26 : decode cX11_together 26 = .ok (.iload_n 1, 1) := by decide +kernel
theorem dX11_together_27 : decode cX11_together 27 = .ok (.imul, 1) := by decide +kernel
theorem dX11_together_28 : decode cX11_together 28 = .ok (.iload_n 3, 1) := by decide +kernel
theorem dX11_together_29 : decode cX11_together 29 = .ok (.iadd, 1) := by decide +kernel
theorem dX11_together_30 : decode cX11_together 30 = .ok (.iaload, 1) := by decide +kernel
theorem dX11_together_31 : decode cX11_together 31 = .ok (.iload 4, 2) := by decide +kernel
theorem dX11_together_33 : decode cX11_together 33 = .ok (.if_icmp .ne 8, 3) := by decide +kernel
theorem dX11_together_36 : decode cX11_together 36 = .ok (.iload 4, 2) := by decide +kernel
theorem dX11_together_38 : decode cX11_together 38 = .ok (.goto 5, 3) := by decide +kernel
theorem dX11_together_41 : decode cX11_together 41 = .ok (.bipush (-2), 2) := by decide +kernel
theorem dX11_together_43 : decode cX11_together 43 = .ok (.ireturn, 1) := by decide +kernel
theorem dX12_init_0 : decode cX12_init 0 = .ok (.aload_n 0, 1) := by decide +kernel
theorem dX12_init_1 : decode cX12_init 1 = .ok (.invokespecial 3, 3) := by decide +kernel
theorem dX12_init_4 : decode cX12_init 4 = .ok (.aload_n 0, 1) := by decide +kernel
theorem dX12_init_5 : decode cX12_init 5 = .ok (.iconst (-1), 1) := by decide +kernel
theorem dX12_init_6 : decode cX12_init 6 = .ok (.putfield 9, 3) := by decide +kernel
theorem dX12_init_9 : decode cX12_init 9 = .ok (.aload_n 0, 1) := by decide +kernel
theorem dX12_init_10 : decode cX12_init 10 = .ok (.sipush 1000, 3) := by decide +kernel
theorem dX12_init_13 : decode cX12_init 13 = .ok (.newarray .byte, 2) := by decide +kernel
theorem dX12_init_15 : decode cX12_init 15 = .ok (.putfield 13, 3) := by decide +kernel
theorem dX12_init_18 : decode cX12_init 18 = .ok (.aload_n 0, 1) := by decide +kernel
theorem dX12_init_19 : decode cX12_init 19 = .ok (.bipush 16, 2) := by decide +kernel
theorem dX12_init_21 : decode cX12_init 21 = .ok (.newarray .int, 2) := by decide +kernel
theorem dX12_init_23 : decode cX12_init 23 = .ok (.putfield 17, 3) := by decide +kernel
theorem dX12_init_26 : decode cX12_init 26 = .ok (.aload_n 0, 1) := by decide +kernel
theorem dX12_init_27 : decode cX12_init 27 = .ok (.bipush 16, 2) := by decide +kernel
theorem dX12_init_29 : decode cX12_init 29 = .ok (.newarray .int, 2) := by decide +kernel
theorem dX12_init_31 : decode cX12_init 31 = .ok (.putfield 21, 3) := by decide +kernel
theorem dX12_init_34 : decode cX12_init 34 = .ok (.aload_n 0, 1) := by decide +kernel
theorem dX12_init_35 : decode cX12_init 35 = .ok (.sipush 256, 3) := by decide +kernel
theorem dX12_init_38 : decode cX12_init 38 = .ok (.newarray .int, 2) := by decide +kernel
theorem dX12_init_40 : decode cX12_init 40 = .ok (.putfield 24, 3) := by decide +kernel
theorem dX12_init_43 : decode cX12_init 43 = .ok (.aload_n 0, 1) := by decide +kernel
theorem dX12_init_44 : decode cX12_init 44 = .ok (.bipush 48, 2) := by decide +kernel
theorem dX12_init_46 : decode cX12_init 46 = .ok (.newarray .int, 2) := by decide +kernel
theorem dX12_init_48 : decode cX12_init 48 = .ok (.putfield 27, 3) := by decide +kernel
theorem dX12_init_51 : decode cX12_init 51 = .ok (.aload_n 0, 1) := by decide +kernel
theorem dX12_init_52 : decode cX12_init 52 = .ok (.bipush 12, 2) := by decide +kernel
theorem dX12_init_54 : decode cX12_init 54 = .ok (.newarray .int, 2) := by decide +kernel
theorem dX12_init_56 : decode cX12_init 56 = .ok (.putfield 30, 3) := by decide +kernel
theorem dX12_init_59 : decode cX12_init 59 = .ok (.aload_n 0, 1) := by decide +kernel
theorem dX12_init_60 : decode cX12_init 60 = .ok (.iconst 4, 1) := by decide +kernel
theorem dX12_init_61 : decode cX12_init 61 = .ok (.newarray .int, 2) := by decide +kernel
theorem dX12_init_63 : decode cX12_init 63 = .ok (.putfield 33, 3) := by decide +kernel
theorem dX12_init_66 : decode cX12_init 66 = .ok (.aload_n 0, 1) := by decide +kernel
theorem dX12_init_67 : decode cX12_init 67 = .ok (.iconst 4, 1) := by decide +kernel
theorem dX12_init_68 : decode cX12_init 68 = .ok (.newarray .int, 2) := by decide +kernel
theorem dX12_init_70 : decode cX12_init 70 = .ok (.putfield 36, 3) := by decide +kernel
theorem dX12_init_73 : decode cX12_init 73 = .ok (.aload_n 0, 1) := by decide +kernel
theorem dX12_init_74 : decode cX12_init 74 = .ok (.iconst 4, 1) := by decide +kernel
theorem dX12_init_75 : decode cX12_init 75 = .ok (.newarray .int, 2) := by decide +kernel
theorem dX12_init_77 : decode cX12_init 77 = .ok (.putfield 39, 3) := by decide +kernel
theorem dX12_init_80 : decode cX12_init 80 = .ok (.aload_n 0, 1) := by decide +kernel
theorem dX12_init_81 : decode cX12_init 81 = .ok (.iconst 5, 1) := by decide +kernel
theorem dX12_init_82 : decode cX12_init 82 = .ok (.newarray .int, 2) := by decide +kernel
theorem dX12_init_84 : decode cX12_init 84 = .ok (.putfield 42, 3) := by decide +kernel
theorem dX12_init_87 : decode cX12_init 87 = .ok (.aload_n 0, 1) := by decide +kernel
theorem dX12_init_88 : decode cX12_init 88 = .ok (.iconst 5, 1) := by decide +kernel
theorem dX12_init_89 : decode cX12_init 89 = .ok (.newarray .int, 2) := by decide +kernel
theorem dX12_init_91 : decode cX12_init 91 = .ok (.putfield 45, 3) := by decide +kernel
theorem dX12_init_94 : decode cX12_init 94 = .ok (.return_, 1) := by decide +kernel
theorem dX12_thrown_0 : decode cX12_thrown 0 = .ok (.aload_n 0, 1) := by decide +kernel
theorem dX12_thrown_1 : decode cX12_thrown 1 = .ok (.getfield 48, 3) := by decide +kernel
theorem dX12_thrown_4 : decode cX12_thrown 4 = .ok (.ireturn, 1) := by decide +kernel
theorem dX12_refused_0 : decode cX12_refused 0 = .ok (.aload_n 0, 1) := by decide +kernel
theorem dX12_refused_1 : decode cX12_refused 1 = .ok (.iload_n 1, 1) := by decide +kernel
theorem dX12_refused_2 : decode cX12_refused 2 = .ok (.putfield 51, 3) := by decide +kernel
theorem dX12_refused_5 : decode cX12_refused 5 = .ok (.aload_n 0, 1) := by decide +kernel
theorem dX12_refused_6 : decode cX12_refused 6 = .ok (.iconst (-1), 1) := by decide +kernel
theorem dX12_refused_7 : decode cX12_refused 7 = .ok (.putfield 9, 3) := by decide +kernel
theorem dX12_refused_10 : decode cX12_refused 10 = .ok (.iconst (-1), 1) := by decide +kernel
theorem dX12_refused_11 : decode cX12_refused 11 = .ok (.ireturn, 1) := by decide +kernel
theorem dX12_denied_0 : decode cX12_denied 0 = .ok (.aload_n 0, 1) := by decide +kernel
theorem dX12_denied_1 : decode cX12_denied 1 = .ok (.iload_n 1, 1) := by decide +kernel
theorem dX12_denied_2 : decode cX12_denied 2 = .ok (.invokevirtual 54, 3) := by decide +kernel
theorem dX12_denied_5 : decode cX12_denied 5 = .ok (.pop, 1) := by decide +kernel
theorem dX12_denied_6 : decode cX12_denied 6 = .ok (.iconst 0, 1) := by decide +kernel
theorem dX12_denied_7 : decode cX12_denied 7 = .ok (.ireturn, 1) := by decide +kernel
theorem dX12_good_0 : decode cX12_good 0 = .ok (.aload_n 0, 1) := by decide +kernel
theorem dX12_good_1 : decode cX12_good 1 = .ok (.iconst 0, 1) := by decide +kernel
theorem dX12_good_2 : decode cX12_good 2 = .ok (.putfield 51, 3) := by decide +kernel
theorem dX12_good_5 : decode cX12_good 5 = .ok (.aload_n 0, 1) := by decide +kernel
theorem dX12_good_6 : decode cX12_good 6 = .ok (.iconst (-1), 1) := by decide +kernel
theorem dX12_good_7 : decode cX12_good 7 = .ok (.putfield 9, 3) := by decide +kernel
theorem dX12_good_10 : decode cX12_good 10 = .ok (.iload_n 1, 1) := by decide +kernel
theorem dX12_good_11 : decode cX12_good 11 = .ok (.ireturn, 1) := by decide +kernel
theorem dX12_granted_0 : decode cX12_granted 0 = .ok (.aload_n 0, 1) := by decide +kernel
theorem dX12_granted_1 : decode cX12_granted 1 = .ok (.iconst 0, 1) := by decide +kernel
theorem dX12_granted_2 : decode cX12_granted 2 = .ok (.invokevirtual 58, 3) := by decide +kernel
theorem dX12_granted_5 : decode cX12_granted 5 = .ok (.pop, 1) := by decide +kernel
theorem dX12_granted_6 : decode cX12_granted 6 = .ok (.iconst 1, 1) := by decide +kernel
theorem dX12_granted_7 : decode cX12_granted 7 = .ok (.ireturn, 1) := by decide +kernel
theorem dX12_in_0 : decode cX12_in 0 = .ok (.iload_n 0, 1) := by decide +kernel
theorem dX12_in_1 : decode cX12_in 1 = .ok (.iload_n 1, 1) := by decide +kernel
theorem dX12_in_2 : decode cX12_in 2 = .ok (.if_icmp .lt 12, 3) := by decide +kernel
theorem dX12_in_5 : decode cX12_in 5 = .ok (.iload_n 0, 1) := by decide +kernel
theorem dX12_in_6 : decode cX12_in 6 = .ok (.iload_n 2, 1) := by decide +kernel
theorem dX12_in_7 : decode cX12_in 7 = .ok (.if_icmp .gt 7, 3) := by decide +kernel
theorem dX12_in_10 : decode cX12_in 10 = .ok (.iconst 1, 1) := by decide +kernel
theorem dX12_in_11 : decode cX12_in 11 = .ok (.goto 4, 3) := by decide +kernel
theorem dX12_in_14 : decode cX12_in 14 = .ok (.iconst 0, 1) := by decide +kernel
theorem dX12_in_15 : decode cX12_in 15 = .ok (.ireturn, 1) := by decide +kernel
theorem dX12_common_0 : decode cX12_common 0 = .ok (.lload_n 0, 1) := by decide +kernel
theorem dX12_common_1 : decode cX12_common 1 = .ok (.lstore 4, 2) := by decide +kernel
theorem dX12_common_3 : decode cX12_common 3 = .ok (.lload_n 2, 1) := by decide +kernel
theorem dX12_common_4 : decode cX12_common 4 = .ok (.lstore 6, 2) := by decide +kernel
theorem dX12_common_6 : decode cX12_common 6 = .ok (.lload 6, 2) := by decide +kernel
theorem dX12_common_8 : decode cX12_common 8 = .ok (.lconst 0, 1) := by decide +kernel
theorem dX12_common_9 : decode cX12_common 9 = .ok (.lcmp, 1) := by decide +kernel
theorem dX12_common_10 : decode cX12_common 10 = .ok (.ifCond .eq 21, 3) := by decide +kernel
theorem dX12_common_13 : decode cX12_common 13 = .ok (.lload 4, 2) := by decide +kernel
theorem dX12_common_15 : decode cX12_common 15 = .ok (.lload 6, 2) := by decide +kernel
theorem dX12_common_17 : decode cX12_common 17 = .ok (.lrem, 1) := by decide +kernel
theorem dX12_common_18 : decode cX12_common 18 = .ok (.lstore 8, 2) := by decide +kernel
theorem dX12_common_20 : decode cX12_common 20 = .ok (.lload 6, 2) := by decide +kernel
theorem dX12_common_22 : decode cX12_common 22 = .ok (.lstore 4, 2) := by decide +kernel
theorem dX12_common_24 : decode cX12_common 24 = .ok (.lload 8, 2) := by decide +kernel
theorem dX12_common_26 : decode cX12_common 26 = .ok (.lstore 6, 2) := by decide +kernel
theorem dX12_common_28 : decode cX12_common 28 = .ok (.goto (-22), 3) := by decide +kernel
theorem dX12_common_31 : decode cX12_common 31 = .ok (.lload 4, 2) := by decide +kernel
theorem dX12_common_33 : decode cX12_common 33 = .ok (.lreturn, 1) := by decide +kernel
theorem dX12_fraction_0 : decode cX12_fraction 0 = .ok (.aload_n 0, 1) := by decide +kernel
theorem dX12_fraction_1 : decode cX12_fraction 1 = .ok (.iconst 0, 1) := by decide +kernel
theorem dX12_fraction_2 : decode cX12_fraction 2 = .ok (.invokevirtual 58, 3) := by decide +kernel
theorem dX12_fraction_5 : decode cX12_fraction 5 = .ok (.pop, 1) := by decide +kernel
theorem dX12_fraction_6 : decode cX12_fraction 6 = .ok (.iload 5, 2) := by decide +kernel
theorem dX12_fraction_8 : decode cX12_fraction 8 = .ok (.ifCond .eq 7, 3) := by decide +kernel
theorem dX12_fraction_11 : decode cX12_fraction 11 = .ok (.lload_n 3, 1) := by decide +kernel
theorem dX12_fraction_12 : decode cX12_fraction 12 = .ok (.goto 4, 3) := by decide +kernel
theorem dX12_fraction_15 : decode cX12_fraction 15 = .ok (.lload_n 1, 1) := by decide +kernel
theorem dX12_fraction_16 : decode cX12_fraction 16 = .ok (.lload_n 1, 1) := by decide +kernel
theorem dX12_fraction_17 : decode cX12_fraction 17 = .ok (.lload_n 3, 1) := by decide +kernel
theorem dX12_fraction_18 : decode cX12_fraction 18 = .ok (.invokestatic 61, 3) := by decide +kernel
theorem dX12_fraction_21 : decode cX12_fraction 21 = .ok (.ldiv, 1) := by decide +kernel
theorem dX12_fraction_22 : decode cX12_fraction 22 = .ok (.lreturn, 1) := by decide +kernel
theorem dX12_byteAt_0 : decode cX12_byteAt 0 = .ok (.iload_n 1, 1) := by decide +kernel
theorem dX12_byteAt_1 : decode cX12_byteAt 1 = .ok (.aload_n 0, 1) := by decide +kernel
theorem dX12_byteAt_2 : decode cX12_byteAt 2 = .ok (.getfield 65, 3) := by decide +kernel
theorem dX12_byteAt_5 : decode cX12_byteAt 5 = .ok (.if_icmp .ge 16, 3) := by decide +kernel
theorem dX12_byteAt_8 : decode cX12_byteAt 8 = .ok (.aload_n 0, 1) := by decide +kernel
theorem dX12_byteAt_9 : decode cX12_byteAt 9 = .ok (.getfield 13, 3) := by decide +kernel
theorem dX12_byteAt_12 : decode cX12_byteAt 12 = .ok (.iload_n 1, 1) := by decide +kernel
theorem dX12_byteAt_13 : decode cX12_byteAt 13 = .ok (.baload, 1) := by decide +kernel
theorem dX12_byteAt_14 : decode cX12_byteAt 14 = .ok (.sipush 255, 3) := by decide +kernel
theorem dX12_byteAt_17 : decode cX12_byteAt 17 = .ok (.iand, 1) := by decide +kernel
theorem dX12_byteAt_18 : decode cX12_byteAt 18 = .ok (.goto 4, 3) := by decide +kernel
theorem dX12_byteAt_21 : decode cX12_byteAt 21 = .ok (.iconst (-1), 1) := by decide +kernel
theorem dX12_byteAt_22 : decode cX12_byteAt 22 = .ok (.ireturn, 1) := by decide +kernel
theorem dX12_isLetter_0 : decode cX12_isLetter 0 = .ok (.iload_n 0, 1) := by decide +kernel
theorem dX12_isLetter_1 : decode cX12_isLetter 1 = .ok (.bipush 97, 2) := by decide +kernel
theorem dX12_isLetter_3 : decode cX12_isLetter 3 = .ok (.if_icmp .lt 13, 3) := by decide +kernel
theorem dX12_isLetter_6 : decode cX12_isLetter 6 = .ok (.iload_n 0, 1) := by decide +kernel
theorem dX12_isLetter_7 : decode cX12_isLetter 7 = .ok (.bipush 122, 2) := by decide +kernel
theorem dX12_isLetter_9 : decode cX12_isLetter 9 = .ok (.if_icmp .gt 7, 3) := by decide +kernel
theorem dX12_isLetter_12 : decode cX12_isLetter 12 = .ok (.iconst 1, 1) := by decide +kernel
theorem dX12_isLetter_13 : decode cX12_isLetter 13 = .ok (.goto 4, 3) := by decide +kernel
theorem dX12_isLetter_16 : decode cX12_isLetter 16 = .ok (.iconst 0, 1) := by decide +kernel
theorem dX12_isLetter_17 : decode cX12_isLetter 17 = .ok (.ireturn, 1) := by decide +kernel
theorem dX12_isDigit_0 : decode cX12_isDigit 0 = .ok (.iload_n 0, 1) := by decide +kernel
theorem dX12_isDigit_1 : decode cX12_isDigit 1 = .ok (.bipush 48, 2) := by decide +kernel
theorem dX12_isDigit_3 : decode cX12_isDigit 3 = .ok (.if_icmp .lt 13, 3) := by decide +kernel
theorem dX12_isDigit_6 : decode cX12_isDigit 6 = .ok (.iload_n 0, 1) := by decide +kernel
theorem dX12_isDigit_7 : decode cX12_isDigit 7 = .ok (.bipush 57, 2) := by decide +kernel
theorem dX12_isDigit_9 : decode cX12_isDigit 9 = .ok (.if_icmp .gt 7, 3) := by decide +kernel
theorem dX12_isDigit_12 : decode cX12_isDigit 12 = .ok (.iconst 1, 1) := by decide +kernel
theorem dX12_isDigit_13 : decode cX12_isDigit 13 = .ok (.goto 4, 3) := by decide +kernel
theorem dX12_isDigit_16 : decode cX12_isDigit 16 = .ok (.iconst 0, 1) := by decide +kernel
theorem dX12_isDigit_17 : decode cX12_isDigit 17 = .ok (.ireturn, 1) := by decide +kernel
theorem dX12_packed_0 : decode cX12_packed 0 = .ok (.lconst 0, 1) := by decide +kernel
theorem dX12_packed_1 : decode cX12_packed 1 = .ok (.lstore_n 1, 1) := by decide +kernel
theorem dX12_packed_2 : decode cX12_packed 2 = .ok (.iconst 0, 1) := by decide +kernel
theorem dX12_packed_3 : decode cX12_packed 3 = .ok (.istore_n 3, 1) := by decide +kernel
theorem dX12_packed_4 : decode cX12_packed 4 = .ok (.iload_n 3, 1) := by decide +kernel
theorem dX12_packed_5 : decode cX12_packed 5 = .ok (.aload_n 0, 1) := by decide +kernel
theorem dX12_packed_6 : decode cX12_packed 6 = .ok (.invokevirtual 68, 3) := by decide +kernel
theorem dX12_packed_9 : decode cX12_packed 9 = .ok (.if_icmp .ge 27, 3) := by decide +kernel
theorem dX12_packed_12 : decode cX12_packed 12 = .ok (.ldc2_w 74, 3) := by decide +kernel
theorem dX12_packed_15 : decode cX12_packed 15 = .ok (.lload_n 1, 1) := by decide +kernel
theorem dX12_packed_16 : decode cX12_packed 16 = .ok (.lmul, 1) := by decide +kernel
theorem dX12_packed_17 : decode cX12_packed 17 = .ok (.aload_n 0, 1) := by decide +kernel
theorem dX12_packed_18 : decode cX12_packed 18 = .ok (.iload_n 3, 1) := by decide +kernel
theorem dX12_packed_19 : decode cX12_packed 19 = .ok (.invokevirtual 76, 3) := by decide +kernel
theorem dX12_packed_22 : decode cX12_packed 22 = .ok (.bipush 97, 2) := by decide +kernel
theorem dX12_packed_24 : decode cX12_packed 24 = .ok (.isub, 1) := by decide +kernel
theorem dX12_packed_25 : decode cX12_packed 25 = .ok (.iconst 1, 1) := by decide +kernel
theorem dX12_packed_26 : decode cX12_packed 26 = .ok (.iadd, 1) := by decide +kernel
theorem dX12_packed_27 : decode cX12_packed 27 = .ok (.i2l, 1) := by decide +kernel
theorem dX12_packed_28 : decode cX12_packed 28 = .ok (.ladd, 1) := by decide +kernel
theorem dX12_packed_29 : decode cX12_packed 29 = .ok (.lstore_n 1, 1) := by decide +kernel
theorem dX12_packed_30 : decode cX12_packed 30 = .ok (.iinc 3 1, 3) := by decide +kernel
theorem dX12_packed_33 : decode cX12_packed 33 = .ok (.goto (-29), 3) := by decide +kernel
theorem dX12_packed_36 : decode cX12_packed 36 = .ok (.lload_n 1, 1) := by decide +kernel
theorem dX12_packed_37 : decode cX12_packed 37 = .ok (.lreturn, 1) := by decide +kernel
theorem dX12_goesOn_0 : decode cX12_goesOn 0 = .ok (.aload_n 0, 1) := by decide +kernel
theorem dX12_goesOn_1 : decode cX12_goesOn 1 = .ok (.getfield 80, 3) := by decide +kernel
theorem dX12_goesOn_4 : decode cX12_goesOn 4 = .ok (.iconst 5, 1) := by decide +kernel
theorem dX12_goesOn_5 : decode cX12_goesOn 5 = .ok (.if_icmp .ne 4, 3) := by decide +kernel
theorem dX12_goesOn_8 : decode cX12_goesOn 8 = .ok (.return_, 1) := by decide +kernel
theorem dX12_goesOn_9 : decode cX12_goesOn 9 = .ok (.aload_n 0, 1) := by decide +kernel
theorem dX12_goesOn_10 : decode cX12_goesOn 10 = .ok (.aload_n 0, 1) := by decide +kernel
theorem dX12_goesOn_11 : decode cX12_goesOn 11 = .ok (.getfield 83, 3) := by decide +kernel
theorem dX12_goesOn_14 : decode cX12_goesOn 14 = .ok (.invokevirtual 86, 3) := by decide +kernel
theorem dX12_goesOn_17 : decode cX12_goesOn 17 = .ok (.bipush 32, 2) := by decide +kernel
theorem dX12_goesOn_19 : decode cX12_goesOn 19 = .ok (.if_icmp .ne 16, 3) := by decide +kernel
