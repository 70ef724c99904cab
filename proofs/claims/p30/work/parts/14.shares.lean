theorem dX7_shareOut_0 : decode cX7_shareOut 0 = .ok (.iload 4, 2) := by decide +kernel
theorem dX7_shareOut_2 : decode cX7_shareOut 2 = .ok (.iconst 5, 1) := by decide +kernel
theorem dX7_shareOut_3 : decode cX7_shareOut 3 = .ok (.if_icmp .gt 10, 3) := by decide +kernel
theorem dX7_shareOut_6 : decode cX7_shareOut 6 = .ok (.aload_n 1, 1) := by decide +kernel
theorem dX7_shareOut_7 : decode cX7_shareOut 7 = .ok (.getfield 77, 3) := by decide +kernel
theorem dX7_shareOut_10 : decode cX7_shareOut 10 = .ok (.ifCond .gt 4, 3) := by decide +kernel
theorem dX7_shareOut_13 : decode cX7_shareOut 13 = .ok (.return_, 1) := by decide +kernel
theorem dX7_shareOut_14 : decode cX7_shareOut 14 = .ok (.lconst 0, 1) := by decide +kernel
theorem dX7_shareOut_15 : decode cX7_shareOut 15 = .ok (.lstore 5, 2) := by decide +kernel
theorem dX7_shareOut_17 : decode cX7_shareOut 17 = .ok (.lconst 0, 1) := by decide +kernel
theorem dX7_shareOut_18 : decode cX7_shareOut 18 = .ok (.lstore 7, 2) := by decide +kernel
theorem dX7_shareOut_20 : decode cX7_shareOut 20 = .ok (.iconst 0, 1) := by decide +kernel
theorem dX7_shareOut_21 : decode cX7_shareOut 21 = .ok (.istore 9, 2) := by decide +kernel
theorem dX7_shareOut_23 : decode cX7_shareOut 23 = .ok (.iload 9, 2) := by decide +kernel
theorem dX7_shareOut_25 : decode cX7_shareOut 25 = .ok (.aload_n 1, 1) := by decide +kernel
theorem dX7_shareOut_26 : decode cX7_shareOut 26 = .ok (.getfield 80, 3) := by decide +kernel
theorem dX7_shareOut_29 : decode cX7_shareOut 29 = .ok (.if_icmp .ge 115, 3) := by decide +kernel
theorem dX7_shareOut_32 : decode cX7_shareOut 32 = .ok (.lload 5, 2) := by decide +kernel
theorem dX7_shareOut_34 : decode cX7_shareOut 34 = .ok (.aload_n 1, 1) := by decide +kernel
theorem dX7_shareOut_35 : decode cX7_shareOut 35 = .ok (.getfield 83, 3) := by decide +kernel
theorem dX7_shareOut_38 : decode cX7_shareOut 38 = .ok (.iload 9, 2) := by decide +kernel
theorem dX7_shareOut_40 : decode cX7_shareOut 40 = .ok (.iaload, 1) := by decide +kernel
theorem dX7_shareOut_41 : decode cX7_shareOut 41 = .ok (.i2l, 1) := by decide +kernel
theorem dX7_shareOut_42 : decode cX7_shareOut 42 = .ok (.ladd, 1) := by decide +kernel
theorem dX7_shareOut_43 : decode cX7_shareOut 43 = .ok (.lstore 5, 2) := by decide +kernel
theorem dX7_shareOut_45 : decode cX7_shareOut 45 = .ok (.iload_n 2, 1) := by decide +kernel
theorem dX7_shareOut_46 : decode cX7_shareOut 46 = .ok (.i2l, 1) := by decide +kernel
theorem dX7_shareOut_47 : decode cX7_shareOut 47 = .ok (.lload 5, 2) := by decide +kernel
theorem dX7_shareOut_49 : decode cX7_shareOut 49 = .ok (.lmul, 1) := by decide +kernel
theorem dX7_shareOut_50 : decode cX7_shareOut 50 = .ok (.aload_n 1, 1) := by decide +kernel
theorem dX7_shareOut_51 : decode cX7_shareOut 51 = .ok (.getfield 77, 3) := by decide +kernel
theorem dX7_shareOut_54 : decode cX7_shareOut 54 = .ok (.i2l, 1) := by decide +kernel
theorem dX7_shareOut_55 : decode cX7_shareOut 55 = .ok (.ldiv, 1) := by decide +kernel
theorem dX7_shareOut_56 : decode cX7_shareOut 56 = .ok (.lstore 10, 2) := by decide +kernel
theorem dX7_shareOut_58 : decode cX7_shareOut 58 = .ok (.lload 10, 2) := by decide +kernel
theorem dX7_shareOut_60 : decode cX7_shareOut 60 = .ok (.lload 7, 2) := by decide +kernel
theorem dX7_shareOut_62 : decode cX7_shareOut 62 = .ok (.lsub, 1) := by decide +kernel
theorem dX7_shareOut_63 : decode cX7_shareOut 63 = .ok (.l2i, 1) := by decide +kernel
theorem dX7_shareOut_64 : decode cX7_shareOut 64 = .ok (.istore 12, 2) := by decide +kernel
theorem dX7_shareOut_66 : decode cX7_shareOut 66 = .ok (.lload 10, 2) := by decide +kernel
theorem dX7_shareOut_68 : decode cX7_shareOut 68 = .ok (.lstore 7, 2) := by decide +kernel
theorem dX7_shareOut_70 : decode cX7_shareOut 70 = .ok (.aload_n 1, 1) := by decide +kernel
theorem dX7_shareOut_71 : decode cX7_shareOut 71 = .ok (.getfield 86, 3) := by decide +kernel
theorem dX7_shareOut_74 : decode cX7_shareOut 74 = .ok (.iload 9, 2) := by decide +kernel
theorem dX7_shareOut_76 : decode cX7_shareOut 76 = .ok (.iaload, 1) := by decide +kernel
theorem dX7_shareOut_77 : decode cX7_shareOut 77 = .ok (.istore 13, 2) := by decide +kernel
theorem dX7_shareOut_79 : decode cX7_shareOut 79 = .ok (.iload 13, 2) := by decide +kernel
theorem dX7_shareOut_81 : decode cX7_shareOut 81 = .ok (.ifCond .lt 22, 3) := by decide +kernel
theorem dX7_shareOut_84 : decode cX7_shareOut 84 = .ok (.iload 13, 2) := by decide +kernel
theorem dX7_shareOut_86 : decode cX7_shareOut 86 = .ok (.aload_n 3, 1) := by decide +kernel
theorem dX7_shareOut_87 : decode cX7_shareOut 87 = .ok (.arraylength, 1) := by decide +kernel
theorem dX7_shareOut_88 : decode cX7_shareOut 88 = .ok (.if_icmp .ge 15, 3) := by decide +kernel
theorem dX7_shareOut_91 : decode cX7_shareOut 91 = .ok (.aload_n 3, 1) := by decide +kernel
theorem dX7_shareOut_92 : decode cX7_shareOut 92 = .ok (.iload 13, 2) := by decide +kernel
theorem dX7_shareOut_94 : decode cX7_shareOut 94 = .ok (.dup2, 1) := by decide +kernel
theorem dX7_shareOut_95 : decode cX7_shareOut 95 = .ok (.iaload, 1) := by decide +kernel
theorem dX7_shareOut_96 : decode cX7_shareOut 96 = .ok (.iload 12, 2) := by decide +kernel
theorem dX7_shareOut_98 : decode cX7_shareOut 98 = .ok (.iadd, 1) := by decide +kernel
theorem dX7_shareOut_99 : decode cX7_shareOut 99 = .ok (.iastore, 1) := by decide +kernel
theorem dX7_shareOut_100 : decode cX7_shareOut 100 = .ok (.goto 38, 3) := by decide +kernel
theorem dX7_shareOut_103 : decode cX7_shareOut 103 = .ok (.iload 13, 2) := by decide +kernel
theorem dX7_shareOut_105 : decode cX7_shareOut 105 = .ok (.bipush 12, 2) := by decide +kernel
theorem dX7_shareOut_107 : decode cX7_shareOut 107 = .ok (.if_icmp .lt 31, 3) := by decide +kernel
theorem dX7_shareOut_110 : decode cX7_shareOut 110 = .ok (.iload 13, 2) := by decide +kernel
theorem dX7_shareOut_112 : decode cX7_shareOut 112 = .ok (.bipush 12, 2) := by decide +kernel
theorem dX7_shareOut_114 : decode cX7_shareOut 114 = .ok (.isub, 1) := by decide +kernel
theorem dX7_shareOut_115 : decode cX7_shareOut 115 = .ok (.aload_n 0, 1) := by decide +kernel
theorem dX7_shareOut_116 : decode cX7_shareOut 116 = .ok (.arraylength, 1) := by decide +kernel
theorem dX7_shareOut_117 : decode cX7_shareOut 117 = .ok (.if_icmp .ge 21, 3) := by decide +kernel
theorem dX7_shareOut_120 : decode cX7_shareOut 120 = .ok (.aload_n 0, 1) := by decide +kernel
theorem dX7_shareOut_121 : decode cX7_shareOut 121 = .ok (.aload_n 0, 1) := by decide +kernel
theorem dX7_shareOut_122 : decode cX7_shareOut 122 = .ok (.iload 13, 2) := by decide +kernel
theorem dX7_shareOut_124 : decode cX7_shareOut 124 = .ok (.bipush 12, 2) := by decide +kernel
theorem dX7_shareOut_126 : decode cX7_shareOut 126 = .ok (.isub, 1) := by decide +kernel
theorem dX7_shareOut_127 : decode cX7_shareOut 127 = .ok (.aaload, 1) := by decide +kernel
theorem dX7_shareOut_128 : decode cX7_shareOut 128 = .ok (.iload 12, 2) := by decide +kernel
theorem dX7_shareOut_130 : decode cX7_shareOut 130 = .ok (.aload_n 3, 1) := by decide +kernel
theorem dX7_shareOut_131 : decode cX7_shareOut 131 = .ok (.iload 4, 2) := by decide +kernel
theorem dX7_shareOut_133 : decode cX7_shareOut 133 = .ok (.iconst 1, 1) := by decide +kernel
theorem dX7_shareOut_134 : decode cX7_shareOut 134 = .ok (.iadd, 1) := by decide +kernel
theorem dX7_shareOut_135 : decode cX7_shareOut 135 = .ok (.invokestatic 73, 3) := by decide +kernel
theorem dX7_shareOut_138 : decode cX7_shareOut 138 = .ok (.iinc 9 1, 3) := by decide +kernel
theorem dX7_shareOut_141 : decode cX7_shareOut 141 = .ok (.goto (-118), 3) := by decide +kernel
theorem dX7_shareOut_144 : decode cX7_shareOut 144 = .ok (.return_, 1) := by decide +kernel
theorem dX7_shareOf_0 : decode cX7_shareOf 0 = .ok (.iconst 0, 1) := by decide +kernel
theorem dX7_shareOf_1 : decode cX7_shareOf 1 = .ok (.istore 4, 2) := by decide +kernel
theorem dX7_shareOf_3 : decode cX7_shareOf 3 = .ok (.iload 4, 2) := by decide +kernel
theorem dX7_shareOf_5 : decode cX7_shareOf 5 = .ok (.aload_n 3, 1) := by decide +kernel
theorem dX7_shareOf_6 : decode cX7_shareOf 6 = .ok (.arraylength, 1) := by decide +kernel
theorem dX7_shareOf_7 : decode cX7_shareOf 7 = .ok (.if_icmp .ge 14, 3) := by decide +kernel
theorem dX7_shareOf_10 : decode cX7_shareOf 10 = .ok (.aload_n 3, 1) := by decide +kernel
theorem dX7_shareOf_11 : decode cX7_shareOf 11 = .ok (.iload 4, 2) := by decide +kernel
theorem dX7_shareOf_13 : decode cX7_shareOf 13 = .ok (.iconst 0, 1) := by decide +kernel
theorem dX7_shareOf_14 : decode cX7_shareOf 14 = .ok (.iastore, 1) := by decide +kernel
theorem dX7_shareOf_15 : decode cX7_shareOf 15 = .ok (.iinc 4 1, 3) := by decide +kernel
theorem dX7_shareOf_18 : decode cX7_shareOf 18 = .ok (.goto (-15), 3) := by decide +kernel
theorem dX7_shareOf_21 : decode cX7_shareOf 21 = .ok (.iload_n 1, 1) := by decide +kernel
theorem dX7_shareOf_22 : decode cX7_shareOf 22 = .ok (.ifCond .lt 11, 3) := by decide +kernel
theorem dX7_shareOf_25 : decode cX7_shareOf 25 = .ok (.iload_n 1, 1) := by decide +kernel
theorem dX7_shareOf_26 : decode cX7_shareOf 26 = .ok (.aload_n 0, 1) := by decide +kernel
theorem dX7_shareOf_27 : decode cX7_shareOf 27 = .ok (.getfield 19, 3) := by decide +kernel
theorem dX7_shareOf_30 : decode cX7_shareOf 30 = .ok (.if_icmp .lt 4, 3) := by decide +kernel
theorem dX7_shareOf_33 : decode cX7_shareOf 33 = .ok (.return_, 1) := by decide +kernel
theorem dX7_shareOf_34 : decode cX7_shareOf 34 = .ok (.aload_n 0, 1) := by decide +kernel
theorem dX7_shareOf_35 : decode cX7_shareOf 35 = .ok (.getfield 60, 3) := by decide +kernel
theorem dX7_shareOf_38 : decode cX7_shareOf 38 = .ok (.iload_n 1, 1) := by decide +kernel
theorem dX7_shareOf_39 : decode cX7_shareOf 39 = .ok (.aaload, 1) := by decide +kernel
theorem dX7_shareOf_40 : decode cX7_shareOf 40 = .ok (.astore 4, 2) := by decide +kernel
theorem dX7_shareOf_42 : decode cX7_shareOf 42 = .ok (.aload 4, 2) := by decide +kernel
theorem dX7_shareOf_44 : decode cX7_shareOf 44 = .ok (.getfield 64, 3) := by decide +kernel
theorem dX7_shareOf_47 : decode cX7_shareOf 47 = .ok (.ifCond .ne 15, 3) := by decide +kernel
theorem dX7_shareOf_50 : decode cX7_shareOf 50 = .ok (.aload_n 0, 1) := by decide +kernel
theorem dX7_shareOf_51 : decode cX7_shareOf 51 = .ok (.getfield 70, 3) := by decide +kernel
theorem dX7_shareOf_54 : decode cX7_shareOf 54 = .ok (.aload 4, 2) := by decide +kernel
theorem dX7_shareOf_56 : decode cX7_shareOf 56 = .ok (.iload_n 2, 1) := by decide +kernel
theorem dX7_shareOf_57 : decode cX7_shareOf 57 = .ok (.aload_n 3, 1) := by decide +kernel
theorem dX7_shareOf_58 : decode cX7_shareOf 58 = .ok (.iconst 0, 1) := by decide +kernel
theorem dX7_shareOf_59 : decode cX7_shareOf 59 = .ok (.invokestatic 73, 3) := by decide +kernel
theorem dX7_shareOf_62 : decode cX7_shareOf 62 = .ok (.return_, 1) := by decide +kernel
theorem dX7_reckon_0 : decode cX7_reckon 0 = .ok (.iconst 0, 1) := by decide +kernel
theorem dX7_reckon_1 : decode cX7_reckon 1 = .ok (.istore_n 3, 1) := by decide +kernel
theorem dX7_reckon_2 : decode cX7_reckon 2 = .ok (.iload_n 3, 1) := by decide +kernel
theorem dX7_reckon_3 : decode cX7_reckon 3 = .ok (.aload_n 1, 1) := by decide +kernel
theorem dX7_reckon_4 : decode cX7_reckon 4 = .ok (.getfield 19, 3) := by decide +kernel
theorem dX7_reckon_7 : decode cX7_reckon 7 = .ok (.if_icmp .ge 26, 3) := by decide +kernel
theorem dX7_reckon_10 : decode cX7_reckon 10 = .ok (.aload_n 1, 1) := by decide +kernel
theorem dX7_reckon_11 : decode cX7_reckon 11 = .ok (.iload_n 3, 1) := by decide +kernel
theorem dX7_reckon_12 : decode cX7_reckon 12 = .ok (.aload_n 2, 1) := by decide +kernel
theorem dX7_reckon_13 : decode cX7_reckon 13 = .ok (.getfield 25, 3) := by decide +kernel
theorem dX7_reckon_16 : decode cX7_reckon 16 = .ok (.iload_n 3, 1) := by decide +kernel
theorem dX7_reckon_17 : decode cX7_reckon 17 = .ok (.iaload, 1) := by decide +kernel
theorem dX7_reckon_18 : decode cX7_reckon 18 = .ok (.aload_n 0, 1) := by decide +kernel
theorem dX7_reckon_19 : decode cX7_reckon 19 = .ok (.getfield 11, 3) := by decide +kernel
theorem dX7_reckon_22 : decode cX7_reckon 22 = .ok (.iload_n 3, 1) := by decide +kernel
theorem dX7_reckon_23 : decode cX7_reckon 23 = .ok (.aaload, 1) := by decide +kernel
theorem dX7_reckon_24 : decode cX7_reckon 24 = .ok (.invokestatic 31, 3) := by decide +kernel
theorem dX7_reckon_27 : decode cX7_reckon 27 = .ok (.iinc 3 1, 3) := by decide +kernel
theorem dX7_reckon_30 : decode cX7_reckon 30 = .ok (.goto (-28), 3) := by decide +kernel
theorem dX7_reckon_33 : decode cX7_reckon 33 = .ok (.iconst 0, 1) := by decide +kernel
theorem dX7_reckon_34 : decode cX7_reckon 34 = .ok (.istore_n 3, 1) := by decide +kernel
theorem dX7_reckon_35 : decode cX7_reckon 35 = .ok (.iload_n 3, 1) := by decide +kernel
theorem dX7_reckon_36 : decode cX7_reckon 36 = .ok (.aload_n 1, 1) := by decide +kernel
theorem dX7_reckon_37 : decode cX7_reckon 37 = .ok (.getfield 35, 3) := by decide +kernel
theorem dX7_reckon_40 : decode cX7_reckon 40 = .ok (.if_icmp .ge 49, 3) := by decide +kernel
theorem dX7_reckon_43 : decode cX7_reckon 43 = .ok (.aload_n 1, 1) := by decide +kernel
theorem dX7_reckon_44 : decode cX7_reckon 44 = .ok (.getfield 38, 3) := by decide +kernel
theorem dX7_reckon_47 : decode cX7_reckon 47 = .ok (.iload_n 3, 1) := by decide +kernel
theorem dX7_reckon_48 : decode cX7_reckon 48 = .ok (.aaload, 1) := by decide +kernel
theorem dX7_reckon_49 : decode cX7_reckon 49 = .ok (.astore 4, 2) := by decide +kernel
theorem dX7_reckon_51 : decode cX7_reckon 51 = .ok (.aload_n 1, 1) := by decide +kernel
theorem dX7_reckon_52 : decode cX7_reckon 52 = .ok (.aload 4, 2) := by decide +kernel
theorem dX7_reckon_54 : decode cX7_reckon 54 = .ok (.getfield 42, 3) := by decide +kernel
theorem dX7_reckon_57 : decode cX7_reckon 57 = .ok (.aload 4, 2) := by decide +kernel
theorem dX7_reckon_59 : decode cX7_reckon 59 = .ok (.getfield 47, 3) := by decide +kernel
theorem dX7_reckon_62 : decode cX7_reckon 62 = .ok (.aload_n 2, 1) := by decide +kernel
theorem dX7_reckon_63 : decode cX7_reckon 63 = .ok (.aload 4, 2) := by decide +kernel
theorem dX7_reckon_65 : decode cX7_reckon 65 = .ok (.getfield 42, 3) := by decide +kernel
theorem dX7_reckon_68 : decode cX7_reckon 68 = .ok (.invokevirtual 50, 3) := by decide +kernel
theorem dX7_reckon_71 : decode cX7_reckon 71 = .ok (.invokestatic 54, 3) := by decide +kernel
theorem dX7_reckon_74 : decode cX7_reckon 74 = .ok (.aload_n 0, 1) := by decide +kernel
theorem dX7_reckon_75 : decode cX7_reckon 75 = .ok (.getfield 16, 3) := by decide +kernel
theorem dX7_reckon_78 : decode cX7_reckon 78 = .ok (.iload_n 3, 1) := by decide +kernel
theorem dX7_reckon_79 : decode cX7_reckon 79 = .ok (.aaload, 1) := by decide +kernel
theorem dX7_reckon_80 : decode cX7_reckon 80 = .ok (.invokestatic 31, 3) := by decide +kernel
theorem dX7_reckon_83 : decode cX7_reckon 83 = .ok (.iinc 3 1, 3) := by decide +kernel
theorem dX7_reckon_86 : decode cX7_reckon 86 = .ok (.goto (-51), 3) := by decide +kernel
theorem dX7_reckon_89 : decode cX7_reckon 89 = .ok (.return_, 1) := by decide +kernel
theorem dX10_holds_0 : decode cX10_holds 0 = .ok (.iload_n 0, 1) := by decide +kernel
theorem dX10_holds_1 : decode cX10_holds 1 = .ok (.iload_n 1, 1) := by decide +kernel
theorem dX10_holds_2 : decode cX10_holds 2 = .ok (.ishr, 1) := by decide +kernel
theorem dX10_holds_3 : decode cX10_holds 3 = .ok (.iconst 1, 1) := by decide +kernel
theorem dX10_holds_4 : decode cX10_holds 4 = .ok (.iand, 1) := by decide +kernel
theorem dX10_holds_5 : decode cX10_holds 5 = .ok (.ifCond .eq 7, 3) := by decide +kernel
theorem dX10_holds_8 : decode cX10_holds 8 = .ok (.iconst 1, 1) := by decide +kernel
theorem dX10_holds_9 : decode cX10_holds 9 = .ok (.goto 4, 3) := by decide +kernel
theorem dX10_holds_12 : decode cX10_holds 12 = .ok (.iconst 0, 1) := by decide +kernel
theorem dX10_holds_13 : decode cX10_holds 13 = .ok (.ireturn, 1) := by decide +kernel
theorem dX10_tie_0 : decode cX10_tie 0 = .ok (.iconst 0, 1) := by decide +kernel
theorem dX10_tie_1 : decode cX10_tie 1 = .ok (.istore_n 2, 1) := by decide +kernel
theorem dX10_tie_2 : decode cX10_tie 2 = .ok (.iload_n 2, 1) := by decide +kernel
theorem dX10_tie_3 : decode cX10_tie 3 = .ok (.aload_n 0, 1) := by decide +kernel
theorem dX10_tie_4 : decode cX10_tie 4 = .ok (.getfield 9, 3) := by decide +kernel
theorem dX10_tie_7 : decode cX10_tie 7 = .ok (.arraylength, 1) := by decide +kernel
theorem dX10_tie_8 : decode cX10_tie 8 = .ok (.if_icmp .ge 27, 3) := by decide +kernel
theorem dX10_tie_11 : decode cX10_tie 11 = .ok (.iload_n 1, 1) := by decide +kernel
theorem dX10_tie_12 : decode cX10_tie 12 = .ok (.iload_n 2, 1) := by decide +kernel
theorem dX10_tie_13 : decode cX10_tie 13 = .ok (.invokestatic 55, 3) := by decide +kernel
theorem dX10_tie_16 : decode cX10_tie 16 = .ok (.ifCond .eq 13, 3) := by decide +kernel
theorem dX10_tie_19 : decode cX10_tie 19 = .ok (.aload_n 0, 1) := by decide +kernel
theorem dX10_tie_20 : decode cX10_tie 20 = .ok (.getfield 9, 3) := by decide +kernel
theorem dX10_tie_23 : decode cX10_tie 23 = .ok (.iload_n 2, 1) := by decide +kernel
theorem dX10_tie_24 : decode cX10_tie 24 = .ok (.dup2, 1) := by decide +kernel
theorem dX10_tie_25 : decode cX10_tie 25 = .ok (.iaload, 1) := by decide +kernel
theorem dX10_tie_26 : decode cX10_tie 26 = .ok (.iload_n 1, 1) := by decide +kernel
theorem dX10_tie_27 : decode cX10_tie 27 = .ok (.ior, 1) := by decide +kernel
theorem dX10_tie_28 : decode cX10_tie 28 = .ok (.iastore, 1) := by decide +kernel
theorem dX10_tie_29 : decode cX10_tie 29 = .ok (.iinc 2 1, 3) := by decide +kernel
theorem dX10_tie_32 : decode cX10_tie 32 = .ok (.goto (-30), 3) := by decide +kernel
theorem dX10_tie_35 : decode cX10_tie 35 = .ok (.return_, 1) := by decide +kernel
theorem dX10_oneStepFrom_0 : decode cX10_oneStepFrom 0 = .ok (.iload_n 1, 1) := by decide +kernel
theorem dX10_oneStepFrom_1 : decode cX10_oneStepFrom 1 = .ok (.istore_n 2, 1) := by decide +kernel
theorem dX10_oneStepFrom_2 : decode cX10_oneStepFrom 2 = .ok (.iconst 0, 1) := by decide +kernel
theorem dX10_oneStepFrom_3 : decode cX10_oneStepFrom 3 = .ok (.istore_n 3, 1) := by decide +kernel
theorem dX10_oneStepFrom_4 : decode cX10_oneStepFrom 4 = .ok (.iload_n 3, 1) := by decide +kernel
theorem dX10_oneStepFrom_5 : decode cX10_oneStepFrom 5 = .ok (.aload_n 0, 1) := by decide +kernel
theorem dX10_oneStepFrom_6 : decode cX10_oneStepFrom 6 = .ok (.getfield 9, 3) := by decide +kernel
theorem dX10_oneStepFrom_9 : decode cX10_oneStepFrom 9 = .ok (.arraylength, 1) := by decide +kernel
theorem dX10_oneStepFrom_10 : decode cX10_oneStepFrom 10 = .ok (.if_icmp .ge 26, 3) := by decide +kernel
theorem dX10_oneStepFrom_13 : decode cX10_oneStepFrom 13 = .ok (.iload_n 1, 1) := by decide +kernel
theorem dX10_oneStepFrom_14 : decode cX10_oneStepFrom 14 = .ok (.iload_n 3, 1) := by decide +kernel
theorem dX10_oneStepFrom_15 : decode cX10_oneStepFrom 15 = .ok (.invokestatic 55, 3) := by decide +kernel
theorem dX10_oneStepFrom_18 : decode cX10_oneStepFrom 18 = .ok (.ifCond .eq 12, 3) := by decide +kernel
theorem dX10_oneStepFrom_21 : decode cX10_oneStepFrom 21 = .ok (.iload_n 2, 1) := by decide +kernel
theorem dX10_oneStepFrom_22 : decode cX10_oneStepFrom 22 = .ok (.aload_n 0, 1) := by decide +kernel
theorem dX10_oneStepFrom_23 : decode cX10_oneStepFrom 23 = .ok (.getfield 9, 3) := by decide +kernel
theorem dX10_oneStepFrom_26 : decode cX10_oneStepFrom 26 = .ok (.iload_n 3, 1) := by decide +kernel
theorem dX10_oneStepFrom_27 : decode cX10_oneStepFrom 27 = .ok (.iaload, 1) := by decide +kernel
theorem dX10_oneStepFrom_28 : decode cX10_oneStepFrom 28 = .ok (.ior, 1) := by decide +kernel
theorem dX10_oneStepFrom_29 : decode cX10_oneStepFrom 29 = .ok (.istore_n 2, 1) := by decide +kernel
theorem dX10_oneStepFrom_30 : decode cX10_oneStepFrom 30 = .ok (.iinc 3 1, 3) := by decide +kernel
theorem dX10_oneStepFrom_33 : decode cX10_oneStepFrom 33 = .ok (.goto (-29), 3) := by decide +kernel
theorem dX10_oneStepFrom_36 : decode cX10_oneStepFrom 36 = .ok (.iload_n 2, 1) := by decide +kernel
theorem dX10_oneStepFrom_37 : decode cX10_oneStepFrom 37 = .ok (.ireturn, 1) := by decide +kernel
theorem dX10_giveNumber_0 : decode cX10_giveNumber 0 = .ok (.iconst 0, 1) := by decide +kernel
theorem dX10_giveNumber_1 : decode cX10_giveNumber 1 = .ok (.istore_n 3, 1) := by decide +kernel
theorem dX10_giveNumber_2 : decode cX10_giveNumber 2 = .ok (.iload_n 3, 1) := by decide +kernel
theorem dX10_giveNumber_3 : decode cX10_giveNumber 3 = .ok (.aload_n 0, 1) := by decide +kernel
theorem dX10_giveNumber_4 : decode cX10_giveNumber 4 = .ok (.getfield 15, 3) := by decide +kernel
theorem dX10_giveNumber_7 : decode cX10_giveNumber 7 = .ok (.arraylength, 1) := by decide +kernel
theorem dX10_giveNumber_8 : decode cX10_giveNumber 8 = .ok (.if_icmp .ge 24, 3) := by decide +kernel
theorem dX10_giveNumber_11 : decode cX10_giveNumber 11 = .ok (.iload_n 1, 1) := by decide +kernel
theorem dX10_giveNumber_12 : decode cX10_giveNumber 12 = .ok (.iload_n 3, 1) := by decide +kernel
theorem dX10_giveNumber_13 : decode cX10_giveNumber 13 = .ok (.invokestatic 55, 3) := by decide +kernel
theorem dX10_giveNumber_16 : decode cX10_giveNumber 16 = .ok (.ifCond .eq 10, 3) := by decide +kernel
theorem dX10_giveNumber_19 : decode cX10_giveNumber 19 = .ok (.aload_n 0, 1) := by decide +kernel
theorem dX10_giveNumber_20 : decode cX10_giveNumber 20 = .ok (.getfield 15, 3) := by decide +kernel
theorem dX10_giveNumber_23 : decode cX10_giveNumber 23 = .ok (.iload_n 3, 1) := by decide +kernel
theorem dX10_giveNumber_24 : decode cX10_giveNumber 24 = .ok (.iload_n 2, 1) := by decide +kernel
theorem dX10_giveNumber_25 : decode cX10_giveNumber 25 = .ok (.iastore, 1) := by decide +kernel
theorem dX10_giveNumber_26 : decode cX10_giveNumber 26 = .ok (.iinc 3 1, 3) := by decide +kernel
theorem dX10_giveNumber_29 : decode cX10_giveNumber 29 = .ok (.goto (-27), 3) := by decide +kernel
theorem dX10_giveNumber_32 : decode cX10_giveNumber 32 = .ok (.return_, 1) := by decide +kernel
theorem dX10_allOneWith_0 : decode cX10_allOneWith 0 = .ok (.iconst 1, 1) := by decide +kernel
theorem dX10_allOneWith_1 : decode cX10_allOneWith 1 = .ok (.iload_n 1, 1) := by decide +kernel
theorem dX10_allOneWith_2 : decode cX10_allOneWith 2 = .ok (.ishl, 1) := by decide +kernel
theorem dX10_allOneWith_3 : decode cX10_allOneWith 3 = .ok (.istore_n 2, 1) := by decide +kernel
theorem dX10_allOneWith_4 : decode cX10_allOneWith 4 = .ok (.iconst 0, 1) := by decide +kernel
theorem dX10_allOneWith_5 : decode cX10_allOneWith 5 = .ok (.istore_n 3, 1) := by decide +kernel
theorem dX10_allOneWith_6 : decode cX10_allOneWith 6 = .ok (.iload_n 3, 1) := by decide +kernel
theorem dX10_allOneWith_7 : decode cX10_allOneWith 7 = .ok (.aload_n 0, 1) := by decide +kernel
theorem dX10_allOneWith_8 : decode cX10_allOneWith 8 = .ok (.getfield 9, 3) := by decide +kernel
theorem dX10_allOneWith_11 : decode cX10_allOneWith 11 = .ok (.arraylength, 1) := by decide +kernel
theorem dX10_allOneWith_12 : decode cX10_allOneWith 12 = .ok (.if_icmp .ge 27, 3) := by decide +kernel
theorem dX10_allOneWith_15 : decode cX10_allOneWith 15 = .ok (.aload_n 0, 1) := by decide +kernel
theorem dX10_allOneWith_16 : decode cX10_allOneWith 16 = .ok (.iload_n 2, 1) := by decide +kernel
theorem dX10_allOneWith_17 : decode cX10_allOneWith 17 = .ok (.invokevirtual 59, 3) := by decide +kernel
theorem dX10_allOneWith_20 : decode cX10_allOneWith 20 = .ok (.istore 4, 2) := by decide +kernel
theorem dX10_allOneWith_22 : decode cX10_allOneWith 22 = .ok (.iload 4, 2) := by decide +kernel
theorem dX10_allOneWith_24 : decode cX10_allOneWith 24 = .ok (.iload_n 2, 1) := by decide +kernel
theorem dX10_allOneWith_25 : decode cX10_allOneWith 25 = .ok (.if_icmp .ne 5, 3) := by decide +kernel
theorem dX10_allOneWith_28 : decode cX10_allOneWith 28 = .ok (.iload_n 2, 1) := by decide +kernel
theorem dX10_allOneWith_29 : decode cX10_allOneWith 29 = .ok (.ireturn, 1) := by decide +kernel
theorem dX10_allOneWith_30 : decode cX10_allOneWith 30 = .ok (.iload 4, 2) := by decide +kernel
theorem dX10_allOneWith_32 : decode cX10_allOneWith 32 = .ok (.istore_n 2, 1) := by decide +kernel
theorem dX10_allOneWith_33 : decode cX10_allOneWith 33 = .ok (.iinc 3 1, 3) := by decide +kernel
theorem dX10_allOneWith_36 : decode cX10_allOneWith 36 = .ok (.goto (-30), 3) := by decide +kernel
theorem dX10_allOneWith_39 : decode cX10_allOneWith 39 = .ok (.iload_n 2, 1) := by decide +kernel
theorem dX10_allOneWith_40 : decode cX10_allOneWith 40 = .ok (.ireturn, 1) := by decide +kernel
theorem dX10_numberDepositors_0 : decode cX10_numberDepositors 0 = .ok (.aload_n 0, 1) := by decide +kernel
theorem dX10_numberDepositors_1 : decode cX10_numberDepositors 1 = .ok (.iconst 0, 1) := by decide +kernel
theorem dX10_numberDepositors_2 : decode cX10_numberDepositors 2 = .ok (.putfield 63, 3) := by decide +kernel
theorem dX10_numberDepositors_5 : decode cX10_numberDepositors 5 = .ok (.iconst 0, 1) := by decide +kernel
theorem dX10_numberDepositors_6 : decode cX10_numberDepositors 6 = .ok (.istore_n 2, 1) := by decide +kernel
theorem dX10_numberDepositors_7 : decode cX10_numberDepositors 7 = .ok (.iconst 0, 1) := by decide +kernel
theorem dX10_numberDepositors_8 : decode cX10_numberDepositors 8 = .ok (.istore_n 3, 1) := by decide +kernel
theorem dX10_numberDepositors_9 : decode cX10_numberDepositors 9 = .ok (.iload_n 3, 1) := by decide +kernel
theorem dX10_numberDepositors_10 : decode cX10_numberDepositors 10 = .ok (.iload_n 1, 1) := by decide +kernel
theorem dX10_numberDepositors_11 : decode cX10_numberDepositors 11 = .ok (.if_icmp .ge 72, 3) := by decide +kernel
theorem dX10_numberDepositors_14 : decode cX10_numberDepositors 14 = .ok (.aload_n 0, 1) := by decide +kernel
theorem dX10_numberDepositors_15 : decode cX10_numberDepositors 15 = .ok (.getfield 63, 3) := by decide +kernel
theorem dX10_numberDepositors_18 : decode cX10_numberDepositors 18 = .ok (.aload_n 0, 1) := by decide +kernel
theorem dX10_numberDepositors_19 : decode cX10_numberDepositors 19 = .ok (.getfield 18, 3) := by decide +kernel
theorem dX10_numberDepositors_22 : decode cX10_numberDepositors 22 = .ok (.arraylength, 1) := by decide +kernel
theorem dX10_numberDepositors_23 : decode cX10_numberDepositors 23 = .ok (.if_icmp .ge 60, 3) := by decide +kernel
theorem dX10_numberDepositors_26 : decode cX10_numberDepositors 26 = .ok (.iload_n 2, 1) := by decide +kernel
theorem dX10_numberDepositors_27 : decode cX10_numberDepositors 27 = .ok (.iload_n 3, 1) := by decide +kernel
theorem dX10_numberDepositors_28 : decode cX10_numberDepositors 28 = .ok (.invokestatic 55, 3) := by decide +kernel
theorem dX10_numberDepositors_31 : decode cX10_numberDepositors 31 = .ok (.ifCond .ne 46, 3) := by decide +kernel
theorem dX10_numberDepositors_34 : decode cX10_numberDepositors 34 = .ok (.aload_n 0, 1) := by decide +kernel
theorem dX10_numberDepositors_35 : decode cX10_numberDepositors 35 = .ok (.iload_n 3, 1) := by decide +kernel
theorem dX10_numberDepositors_36 : decode cX10_numberDepositors 36 = .ok (.invokevirtual 66, 3) := by decide +kernel
theorem dX10_numberDepositors_39 : decode cX10_numberDepositors 39 = .ok (.istore 4, 2) := by decide +kernel
theorem dX10_numberDepositors_41 : decode cX10_numberDepositors 41 = .ok (.aload_n 0, 1) := by decide +kernel
theorem dX10_numberDepositors_42 : decode cX10_numberDepositors 42 = .ok (.getfield 18, 3) := by decide +kernel
theorem dX10_numberDepositors_45 : decode cX10_numberDepositors 45 = .ok (.aload_n 0, 1) := by decide +kernel
theorem dX10_numberDepositors_46 : decode cX10_numberDepositors 46 = .ok (.getfield 63, 3) := by decide +kernel
theorem dX10_numberDepositors_49 : decode cX10_numberDepositors 49 = .ok (.iload 4, 2) := by decide +kernel
theorem dX10_numberDepositors_51 : decode cX10_numberDepositors 51 = .ok (.iastore, 1) := by decide +kernel
theorem dX10_numberDepositors_52 : decode cX10_numberDepositors 52 = .ok (.aload_n 0, 1) := by decide +kernel
theorem dX10_numberDepositors_53 : decode cX10_numberDepositors 53 = .ok (.iload 4, 2) := by decide +kernel
theorem dX10_numberDepositors_55 : decode cX10_numberDepositors 55 = .ok (.aload_n 0, 1) := by decide +kernel
theorem dX10_numberDepositors_56 : decode cX10_numberDepositors 56 = .ok (.getfield 63, 3) := by decide +kernel
theorem dX10_numberDepositors_59 : decode cX10_numberDepositors 59 = .ok (.invokevirtual 69, 3) := by decide +kernel
theorem dX10_numberDepositors_62 : decode cX10_numberDepositors 62 = .ok (.iload_n 2, 1) := by decide +kernel
theorem dX10_numberDepositors_63 : decode cX10_numberDepositors 63 = .ok (.iload 4, 2) := by decide +kernel
theorem dX10_numberDepositors_65 : decode cX10_numberDepositors 65 = .ok (.ior, 1) := by decide +kernel
theorem dX10_numberDepositors_66 : decode cX10_numberDepositors 66 = .ok (.istore_n 2, 1) := by decide +kernel
theorem dX10_numberDepositors_67 : decode cX10_numberDepositors 67 = .ok (.aload_n 0, 1) := by decide +kernel
theorem dX10_numberDepositors_68 : decode cX10_numberDepositors 68 = .ok (.dup, 1) := by decide +kernel
theorem dX10_numberDepositors_69 : decode cX10_numberDepositors 69 = .ok (.getfield 63, 3) := by decide +kernel
theorem dX10_numberDepositors_72 : decode cX10_numberDepositors 72 = .ok (.iconst 1, 1) := by decide +kernel
theorem dX10_numberDepositors_73 : decode cX10_numberDepositors 73 = .ok (.iadd, 1) := by decide +kernel
theorem dX10_numberDepositors_74 : decode cX10_numberDepositors 74 = .ok (.putfield 63, 3) := by decide +kernel
theorem dX10_numberDepositors_77 : decode cX10_numberDepositors 77 = .ok (.iinc 3 1, 3) := by decide +kernel
theorem dX10_numberDepositors_80 : decode cX10_numberDepositors 80 = .ok (.goto (-71), 3) := by decide +kernel
theorem dX10_numberDepositors_83 : decode cX10_numberDepositors 83 = .ok (.return_, 1) := by decide +kernel
theorem dX10_reckon_0 : decode cX10_reckon 0 = .ok (.iconst 0, 1) := by decide +kernel
theorem dX10_reckon_1 : decode cX10_reckon 1 = .ok (.istore_n 3, 1) := by decide +kernel
theorem dX10_reckon_2 : decode cX10_reckon 2 = .ok (.iload_n 3, 1) := by decide +kernel
theorem dX10_reckon_3 : decode cX10_reckon 3 = .ok (.aload_n 0, 1) := by decide +kernel
theorem dX10_reckon_4 : decode cX10_reckon 4 = .ok (.getfield 9, 3) := by decide +kernel
theorem dX10_reckon_7 : decode cX10_reckon 7 = .ok (.arraylength, 1) := by decide +kernel
theorem dX10_reckon_8 : decode cX10_reckon 8 = .ok (.if_icmp .ge 18, 3) := by decide +kernel
theorem dX10_reckon_11 : decode cX10_reckon 11 = .ok (.aload_n 0, 1) := by decide +kernel
theorem dX10_reckon_12 : decode cX10_reckon 12 = .ok (.getfield 9, 3) := by decide +kernel
theorem dX10_reckon_15 : decode cX10_reckon 15 = .ok (.iload_n 3, 1) := by decide +kernel
theorem dX10_reckon_16 : decode cX10_reckon 16 = .ok (.iconst 1, 1) := by decide +kernel
theorem dX10_reckon_17 : decode cX10_reckon 17 = .ok (.iload_n 3, 1) := by decide +kernel
theorem dX10_reckon_18 : decode cX10_reckon 18 = .ok (.ishl, 1) := by decide +kernel
theorem dX10_reckon_19 : decode cX10_reckon 19 = .ok (.iastore, 1) := by decide +kernel
theorem dX10_reckon_20 : decode cX10_reckon 20 = .ok (.iinc 3 1, 3) := by decide +kernel
theorem dX10_reckon_23 : decode cX10_reckon 23 = .ok (.goto (-21), 3) := by decide +kernel
theorem dX10_reckon_26 : decode cX10_reckon 26 = .ok (.iconst 0, 1) := by decide +kernel
theorem dX10_reckon_27 : decode cX10_reckon 27 = .ok (.istore_n 3, 1) := by decide +kernel
theorem dX10_reckon_28 : decode cX10_reckon 28 = .ok (.iload_n 3, 1) := by decide +kernel
theorem dX10_reckon_29 : decode cX10_reckon 29 = .ok (.aload_n 1, 1) := by decide +kernel
theorem dX10_reckon_30 : decode cX10_reckon 30 = .ok (.getfield 21, 3) := by decide +kernel
theorem dX10_reckon_33 : decode cX10_reckon 33 = .ok (.if_icmp .ge 27, 3) := by decide +kernel
theorem dX10_reckon_36 : decode cX10_reckon 36 = .ok (.aload_n 2, 1) := by decide +kernel
theorem dX10_reckon_37 : decode cX10_reckon 37 = .ok (.iload_n 3, 1) := by decide +kernel
theorem dX10_reckon_38 : decode cX10_reckon 38 = .ok (.invokevirtual 27, 3) := by decide +kernel
theorem dX10_reckon_41 : decode cX10_reckon 41 = .ok (.ifCond .ne 13, 3) := by decide +kernel
theorem dX10_reckon_44 : decode cX10_reckon 44 = .ok (.aload_n 0, 1) := by decide +kernel
theorem dX10_reckon_45 : decode cX10_reckon 45 = .ok (.aload_n 1, 1) := by decide +kernel
theorem dX10_reckon_46 : decode cX10_reckon 46 = .ok (.getfield 33, 3) := by decide +kernel
theorem dX10_reckon_49 : decode cX10_reckon 49 = .ok (.iload_n 3, 1) := by decide +kernel
theorem dX10_reckon_50 : decode cX10_reckon 50 = .ok (.iaload, 1) := by decide +kernel
theorem dX10_reckon_51 : decode cX10_reckon 51 = .ok (.invokevirtual 36, 3) := by decide +kernel
theorem dX10_reckon_54 : decode cX10_reckon 54 = .ok (.iinc 3 1, 3) := by decide +kernel
theorem dX10_reckon_57 : decode cX10_reckon 57 = .ok (.goto (-29), 3) := by decide +kernel
theorem dX10_reckon_60 : decode cX10_reckon 60 = .ok (.iconst 0, 1) := by decide +kernel
theorem dX10_reckon_61 : decode cX10_reckon 61 = .ok (.istore_n 3, 1) := by decide +kernel
theorem dX10_reckon_62 : decode cX10_reckon 62 = .ok (.iload_n 3, 1) := by decide +kernel
theorem dX10_reckon_63 : decode cX10_reckon 63 = .ok (.aload_n 2, 1) := by decide +kernel
theorem dX10_reckon_64 : decode cX10_reckon 64 = .ok (.getfield 40, 3) := by decide +kernel
theorem dX10_reckon_67 : decode cX10_reckon 67 = .ok (.if_icmp .ge 30, 3) := by decide +kernel
theorem dX10_reckon_70 : decode cX10_reckon 70 = .ok (.aload_n 0, 1) := by decide +kernel
theorem dX10_reckon_71 : decode cX10_reckon 71 = .ok (.iconst 1, 1) := by decide +kernel
theorem dX10_reckon_72 : decode cX10_reckon 72 = .ok (.aload_n 2, 1) := by decide +kernel
theorem dX10_reckon_73 : decode cX10_reckon 73 = .ok (.getfield 43, 3) := by decide +kernel
theorem dX10_reckon_76 : decode cX10_reckon 76 = .ok (.iload_n 3, 1) := by decide +kernel
theorem dX10_reckon_77 : decode cX10_reckon 77 = .ok (.iaload, 1) := by decide +kernel
theorem dX10_reckon_78 : decode cX10_reckon 78 = .ok (.ishl, 1) := by decide +kernel
theorem dX10_reckon_79 : decode cX10_reckon 79 = .ok (.iconst 1, 1) := by decide +kernel
theorem dX10_reckon_80 : decode cX10_reckon 80 = .ok (.aload_n 2, 1) := by decide +kernel
theorem dX10_reckon_81 : decode cX10_reckon 81 = .ok (.getfield 46, 3) := by decide +kernel
theorem dX10_reckon_84 : decode cX10_reckon 84 = .ok (.iload_n 3, 1) := by decide +kernel
theorem dX10_reckon_85 : decode cX10_reckon 85 = .ok (.iaload, 1) := by decide +kernel
theorem dX10_reckon_86 : decode cX10_reckon 86 = .ok (.ishl, 1) := by decide +kernel
theorem dX10_reckon_87 : decode cX10_reckon 87 = .ok (.ior, 1) := by decide +kernel
theorem dX10_reckon_88 : decode cX10_reckon 88 = .ok (.invokevirtual 36, 3) := by decide +kernel
theorem dX10_reckon_91 : decode cX10_reckon 91 = .ok (.iinc 3 1, 3) := by decide +kernel
theorem dX10_reckon_94 : decode cX10_reckon 94 = .ok (.goto (-32), 3) := by decide +kernel
theorem dX10_reckon_97 : decode cX10_reckon 97 = .ok (.aload_n 0, 1) := by decide +kernel
theorem dX10_reckon_98 : decode cX10_reckon 98 = .ok (.aload_n 1, 1) := by decide +kernel
theorem dX10_reckon_99 : decode cX10_reckon 99 = .ok (.getfield 49, 3) := by decide +kernel
theorem dX10_reckon_102 : decode cX10_reckon 102 = .ok (.invokevirtual 52, 3) := by decide +kernel
theorem dX10_reckon_105 : decode cX10_reckon 105 = .ok (.return_, 1) := by decide +kernel
theorem pq_461 : Cond.methodLink RX7 73 yX7_shareOut ∈ pd_gt := pd_in 698 (by decide +kernel) (by decide +kernel)
theorem pq_462 : Cond.code yX7_shareOut cX7_shareOut 14 none ∈ pd_gt := pd_in 700 (by decide +kernel) (by decide +kernel)
theorem pq_463 : Cond.initialized yX7_shareOut.cls ∈ pd_gt := pd_in 46 (by decide +kernel) (by decide +kernel)
theorem pq_464 : Cond.static yX7_shareOut ∈ pd_gt := pd_in 699 (by decide +kernel) (by decide +kernel)
theorem pq_465 : Cond.fieldLinkNest RX7 80 "PayoutDesk$Group" "partCount" "I" "PayoutDesk" ∈ pd_gt := pd_in 176 (by decide +kernel) (by decide +kernel)
theorem pq_466 : Cond.fieldLinkNest RX7 83 "PayoutDesk$Group" "weights" "[I" "PayoutDesk" ∈ pd_gt := pd_in 172 (by decide +kernel) (by decide +kernel)
theorem pq_467 : Cond.fieldLinkNest RX7 77 "PayoutDesk$Group" "weightsTogether" "I" "PayoutDesk" ∈ pd_gt := pd_in 181 (by decide +kernel) (by decide +kernel)
theorem pq_468 : Cond.fieldLinkNest RX7 86 "PayoutDesk$Group" "parts" "[I" "PayoutDesk" ∈ pd_gt := pd_in 170 (by decide +kernel) (by decide +kernel)
theorem pq_469 : Cond.fieldLinkNest RX7 19 "PayoutDesk$Book" "accountCount" "I" "PayoutDesk" ∈ pd_gt := pd_in 261 (by decide +kernel) (by decide +kernel)
theorem pq_470 : Cond.fieldLinkNest RX7 60 "PayoutDesk$Book" "accounts" "[LPayoutDesk$Group;" "PayoutDesk" ∈ pd_gt := pd_in 234 (by decide +kernel) (by decide +kernel)
theorem pq_471 : Cond.fieldLinkNest RX7 64 "PayoutDesk$Group" "fails" "Z" "PayoutDesk" ∈ pd_gt := pd_in 184 (by decide +kernel) (by decide +kernel)
theorem pq_472 : Cond.fieldLinkNest RX7 70 "PayoutDesk$Book" "trusts" "[LPayoutDesk$Group;" "PayoutDesk" ∈ pd_gt := pd_in 231 (by decide +kernel) (by decide +kernel)
theorem pq_473 : Cond.fieldLinkNest RX7 35 "PayoutDesk$Book" "highCount" "I" "PayoutDesk" ∈ pd_gt := pd_in 267 (by decide +kernel) (by decide +kernel)
theorem pq_474 : Cond.fieldLinkNest RX7 38 "PayoutDesk$Book" "highs" "[LPayoutDesk$Dated;" "PayoutDesk" ∈ pd_gt := pd_in 241 (by decide +kernel) (by decide +kernel)
theorem pq_475 : Cond.fieldLinkNest RX7 42 "PayoutDesk$Dated" "of" "I" "PayoutDesk" ∈ pd_gt := pd_in 210 (by decide +kernel) (by decide +kernel)
theorem pq_476 : Cond.fieldLinkNest RX7 47 "PayoutDesk$Dated" "amount" "I" "PayoutDesk" ∈ pd_gt := pd_in 213 (by decide +kernel) (by decide +kernel)
theorem pq_477 : Cond.methodLink RX7 50 yX8_balanceOf ∈ pd_gt := pd_in 701 (by decide +kernel) (by decide +kernel)
theorem pq_478 : Cond.code yX8_balanceOf cX8_balanceOf 2 (some .int) ∈ pd_gt := pd_in 704 (by decide +kernel) (by decide +kernel)
theorem pq_479 : Cond.initialized yX8_balanceOf.cls ∈ pd_gt := pd_in 45 (by decide +kernel) (by decide +kernel)
theorem pq_480 : Cond.instanceMethod yX8_balanceOf ∈ pd_gt := pd_in 702 (by decide +kernel) (by decide +kernel)
theorem pq_481 : Cond.selects yX8_balanceOf.cls yX8_balanceOf yX8_balanceOf ∈ pd_gt := pd_in 703 (by decide +kernel) (by decide +kernel)
theorem pq_482 : Cond.methodLink RX7 54 Lib.Math.min.name ∈ pd_gt := pd_in 705 (by decide +kernel) (by decide +kernel)
theorem pq_483 : Cond.fieldLink RX7 16 "PayoutDesk$Shares" "ofHigh" "[[I" ∈ pd_gt := pd_in 391 (by decide +kernel) (by decide +kernel)
theorem pq_484 : Cond.methodLink RX7 31 yX7_shareOf ∈ pd_gt := pd_in 695 (by decide +kernel) (by decide +kernel)
theorem pq_485 : Cond.code yX7_shareOf cX7_shareOf 5 none ∈ pd_gt := pd_in 697 (by decide +kernel) (by decide +kernel)
theorem pq_486 : Cond.initialized yX7_shareOf.cls ∈ pd_gt := pd_in 46 (by decide +kernel) (by decide +kernel)
theorem pq_487 : Cond.static yX7_shareOf ∈ pd_gt := pd_in 696 (by decide +kernel) (by decide +kernel)
theorem pq_488 : Cond.fieldLinkNest RX7 25 "PayoutDesk$State" "balances" "[I" "PayoutDesk" ∈ pd_gt := pd_in 335 (by decide +kernel) (by decide +kernel)
theorem pq_489 : Cond.fieldLink RX7 11 "PayoutDesk$Shares" "ofAccount" "[[I" ∈ pd_gt := pd_in 388 (by decide +kernel) (by decide +kernel)
theorem pq_490 : Cond.fieldLink RX10 9 "PayoutDesk$Ties" "near" "[I" ∈ pd_gt := pd_in 412 (by decide +kernel) (by decide +kernel)
theorem pq_491 : Cond.methodLink RX10 55 yX10_holds ∈ pd_gt := pd_in 718 (by decide +kernel) (by decide +kernel)
theorem pq_492 : Cond.code yX10_holds cX10_holds 2 (some .boolean) ∈ pd_gt := pd_in 720 (by decide +kernel) (by decide +kernel)
theorem pq_493 : Cond.initialized yX10_holds.cls ∈ pd_gt := pd_in 48 (by decide +kernel) (by decide +kernel)
theorem pq_494 : Cond.static yX10_holds ∈ pd_gt := pd_in 719 (by decide +kernel) (by decide +kernel)
theorem pq_495 : Cond.fieldLink RX10 15 "PayoutDesk$Ties" "depositorOf" "[I" ∈ pd_gt := pd_in 413 (by decide +kernel) (by decide +kernel)
theorem pq_496 : Cond.methodLink RX10 59 yX10_oneStepFrom ∈ pd_gt := pd_in 729 (by decide +kernel) (by decide +kernel)
theorem pq_497 : Cond.code yX10_oneStepFrom cX10_oneStepFrom 4 (some .int) ∈ pd_gt := pd_in 732 (by decide +kernel) (by decide +kernel)
theorem pq_498 : Cond.initialized yX10_oneStepFrom.cls ∈ pd_gt := pd_in 48 (by decide +kernel) (by decide +kernel)
theorem pq_499 : Cond.instanceMethod yX10_oneStepFrom ∈ pd_gt := pd_in 731 (by decide +kernel) (by decide +kernel)
theorem pq_500 : Cond.selects yX10_oneStepFrom.cls yX10_oneStepFrom yX10_oneStepFrom ∈ pd_gt := pd_in 11 (by decide +kernel) (by decide +kernel)
theorem pq_501 : Cond.fieldLink RX10 63 "PayoutDesk$Ties" "depositors" "I" ∈ pd_gt := pd_in 418 (by decide +kernel) (by decide +kernel)
theorem pq_502 : Cond.fieldLink RX10 18 "PayoutDesk$Ties" "personsOf" "[I" ∈ pd_gt := pd_in 416 (by decide +kernel) (by decide +kernel)
theorem pq_503 : Cond.methodLink RX10 66 yX10_allOneWith ∈ pd_gt := pd_in 725 (by decide +kernel) (by decide +kernel)
theorem pq_504 : Cond.code yX10_allOneWith cX10_allOneWith 5 (some .int) ∈ pd_gt := pd_in 728 (by decide +kernel) (by decide +kernel)
theorem pq_505 : Cond.initialized yX10_allOneWith.cls ∈ pd_gt := pd_in 48 (by decide +kernel) (by decide +kernel)
theorem pq_506 : Cond.instanceMethod yX10_allOneWith ∈ pd_gt := pd_in 727 (by decide +kernel) (by decide +kernel)
theorem pq_507 : Cond.selects yX10_allOneWith.cls yX10_allOneWith yX10_allOneWith ∈ pd_gt := pd_in 10 (by decide +kernel) (by decide +kernel)
theorem pq_508 : Cond.methodLink RX10 69 yX10_giveNumber ∈ pd_gt := pd_in 733 (by decide +kernel) (by decide +kernel)
theorem pq_509 : Cond.code yX10_giveNumber cX10_giveNumber 4 none ∈ pd_gt := pd_in 736 (by decide +kernel) (by decide +kernel)
theorem pq_510 : Cond.initialized yX10_giveNumber.cls ∈ pd_gt := pd_in 48 (by decide +kernel) (by decide +kernel)
theorem pq_511 : Cond.instanceMethod yX10_giveNumber ∈ pd_gt := pd_in 735 (by decide +kernel) (by decide +kernel)
theorem pq_512 : Cond.selects yX10_giveNumber.cls yX10_giveNumber yX10_giveNumber ∈ pd_gt := pd_in 12 (by decide +kernel) (by decide +kernel)
theorem pq_513 : Cond.fieldLinkNest RX10 49 "PayoutDesk$Book" "personCount" "I" "PayoutDesk" ∈ pd_gt := pd_in 255 (by decide +kernel) (by decide +kernel)
theorem pq_514 : Cond.methodLink RX10 52 yX10_numberDepositors ∈ pd_gt := pd_in 721 (by decide +kernel) (by decide +kernel)
theorem pq_515 : Cond.code yX10_numberDepositors cX10_numberDepositors 5 none ∈ pd_gt := pd_in 724 (by decide +kernel) (by decide +kernel)
theorem pq_516 : Cond.initialized yX10_numberDepositors.cls ∈ pd_gt := pd_in 48 (by decide +kernel) (by decide +kernel)
theorem pq_517 : Cond.instanceMethod yX10_numberDepositors ∈ pd_gt := pd_in 723 (by decide +kernel) (by decide +kernel)
theorem pq_518 : Cond.selects yX10_numberDepositors.cls yX10_numberDepositors yX10_numberDepositors ∈ pd_gt := pd_in 9 (by decide +kernel) (by decide +kernel)
theorem pq_519 : Cond.fieldLinkNest RX10 40 "PayoutDesk$State" "joinCount" "I" "PayoutDesk" ∈ pd_gt := pd_in 345 (by decide +kernel) (by decide +kernel)
theorem pq_520 : Cond.fieldLinkNest RX10 43 "PayoutDesk$State" "joined" "[I" "PayoutDesk" ∈ pd_gt := pd_in 341 (by decide +kernel) (by decide +kernel)
theorem pq_521 : Cond.fieldLinkNest RX10 46 "PayoutDesk$State" "joinedTo" "[I" "PayoutDesk" ∈ pd_gt := pd_in 343 (by decide +kernel) (by decide +kernel)
theorem pq_522 : Cond.methodLink RX10 36 yX10_tie ∈ pd_gt := pd_in 714 (by decide +kernel) (by decide +kernel)
theorem pq_523 : Cond.code yX10_tie cX10_tie 3 none ∈ pd_gt := pd_in 717 (by decide +kernel) (by decide +kernel)
theorem pq_524 : Cond.initialized yX10_tie.cls ∈ pd_gt := pd_in 48 (by decide +kernel) (by decide +kernel)
theorem pq_525 : Cond.instanceMethod yX10_tie ∈ pd_gt := pd_in 716 (by decide +kernel) (by decide +kernel)
theorem pq_526 : Cond.selects yX10_tie.cls yX10_tie yX10_tie ∈ pd_gt := pd_in 8 (by decide +kernel) (by decide +kernel)
theorem pq_527 : Cond.fieldLinkNest RX10 21 "PayoutDesk$Book" "markCount" "I" "PayoutDesk" ∈ pd_gt := pd_in 276 (by decide +kernel) (by decide +kernel)
theorem pq_528 : Cond.methodLink RX10 27 yX8_isLeftOut ∈ pd_gt := pd_in 710 (by decide +kernel) (by decide +kernel)
theorem pq_529 : Cond.code yX8_isLeftOut cX8_isLeftOut 2 (some .boolean) ∈ pd_gt := pd_in 713 (by decide +kernel) (by decide +kernel)
theorem pq_530 : Cond.initialized yX8_isLeftOut.cls ∈ pd_gt := pd_in 45 (by decide +kernel) (by decide +kernel)
theorem pq_531 : Cond.instanceMethod yX8_isLeftOut ∈ pd_gt := pd_in 711 (by decide +kernel) (by decide +kernel)
theorem pq_532 : Cond.selects yX8_isLeftOut.cls yX8_isLeftOut yX8_isLeftOut ∈ pd_gt := pd_in 712 (by decide +kernel) (by decide +kernel)
theorem pq_533 : Cond.fieldLinkNest RX10 33 "PayoutDesk$Book" "holders" "[I" "PayoutDesk" ∈ pd_gt := pd_in 252 (by decide +kernel) (by decide +kernel)
def pfX7_shareOut_b138 (sh : pd_S) (n : Nat) (slf : pd_F → Int → Int → Int → Int → Int → Option pd_F) (c23 : pd_F → Int → Int → Int → Int → Int → Int → Int → Int → Option pd_F) (F : pd_F) (x0 : Int) (x1 : Int) (x2 : Int) (x3 : Int) (x4 : Int) (x5 : Int) (x7 : Int) (x9 : Int) : Option pd_F :=
  pd_l (pd_w (x9 + 1)) fun x9_138 =>
  c23 F x0 x1 x2 x3 x4 x5 x7 x9_138
def pfX7_shareOut_b103 (sh : pd_S) (n : Nat) (slf : pd_F → Int → Int → Int → Int → Int → Option pd_F) (c23 : pd_F → Int → Int → Int → Int → Int → Int → Int → Int → Option pd_F) (F : pd_F) (x0 : Int) (x1 : Int) (x2 : Int) (x3 : Int) (x4 : Int) (x5 : Int) (x7 : Int) (x9 : Int) (x12 : Int) (x13 : Int) : Option pd_F :=
  if x13 < 12 then
    pfX7_shareOut_b138 sh n slf c23 F x0 x1 x2 x3 x4 x5 x7 x9
  else
    pd_i (0 ≤ pd_ln sh 2 2 x0) <|
    if (pd_w (x13 - 12)) ≥ (pd_ln sh 2 2 x0) then
      pfX7_shareOut_b138 sh n slf c23 F x0 x1 x2 x3 x4 x5 x7 x9
    else
      pd_i (pd_ib sh 2 2 x0 (pd_w (x13 - 12)) = true) <|
      Option.bind (slf F x0 (F x0 (pd_w (x13 - 12))) x12 x3 (pd_w (x4 + 1))) fun F3 =>
      pfX7_shareOut_b138 sh n slf c23 F3 x0 x1 x2 x3 x4 x5 x7 x9
def pfX7_shareOut_b23 (sh : pd_S) (n : Nat) (slf : pd_F → Int → Int → Int → Int → Int → Option pd_F)  : Nat → pd_F → Int → Int → Int → Int → Int → Int → Int → Int → Option pd_F
  | 0, _, _, _, _, _, _, _, _, _ => none
  | k + 1, F, x0, x1, x2, x3, x4, x5, x7, x9 =>
    pd_i (pd_ob sh 2 x1 = true) <|
    if x9 ≥ (F x1 3) then
      some F
    else
      pd_i (pd_ib sh 0 0 (F x1 1) x9 = true) <|
      pd_l (pd_W (x5 + (F (F x1 1) x9))) fun x5_43 =>
      pd_i ((F x1 5) ≠ 0) <|
      pd_l (pd_W (Int.tdiv (pd_W (x2 * x5_43)) (F x1 5))) fun x10_56 =>
      pd_l (pd_w (pd_W (x10_56 - x7))) fun x12_64 =>
      pd_i (pd_ib sh 0 0 (F x1 0) x9 = true) <|
      pd_l (F (F x1 0) x9) fun x13_77 =>
      if x13_77 < 0 then
        pfX7_shareOut_b103 sh n slf (pfX7_shareOut_b23 sh n slf k) F x0 x1 x2 x3 x4 x5_43 x10_56 x9 x12_64 x13_77
      else
        pd_i (0 ≤ pd_ln sh 0 0 x3) <|
        if x13_77 ≥ (pd_ln sh 0 0 x3) then
          pfX7_shareOut_b103 sh n slf (pfX7_shareOut_b23 sh n slf k) F x0 x1 x2 x3 x4 x5_43 x10_56 x9 x12_64 x13_77
        else
          pd_i (pd_ib sh 0 0 x3 x13_77 = true) <|
          pd_l (pd_up F x3 x13_77 (pd_w ((F x3 x13_77) + x12_64))) fun F10 =>
          pfX7_shareOut_b138 sh n slf (pfX7_shareOut_b23 sh n slf k) F10 x0 x1 x2 x3 x4 x5_43 x10_56 x9
def pfX7_shareOut (sh : pd_S) (n : Nat) : Nat → pd_F → Int → Int → Int → Int → Int → Option pd_F
  | 0, _, _, _, _, _, _ => none
  | k + 1, F, x0, x1, x2, x3, x4 =>
    pd_l (pfX7_shareOut sh n k) fun slf =>
    if x4 > 5 then
      some F
    else
      pd_i (pd_ob sh 2 x1 = true) <|
      if (F x1 5) > 0 then
        pfX7_shareOut_b23 sh n slf n F x0 x1 x2 x3 x4 0 0 0
      else
        some F
def pfX7_shareOf_b21 (sh : pd_S) (n : Nat)  (F : pd_F) (x0 : Int) (x1 : Int) (x2 : Int) (x3 : Int) : Option pd_F :=
  if x1 < 0 then
    some F
  else
    pd_i (pd_ob sh 0 x0 = true) <|
    if x1 < (F x0 11) then
      pd_i (pd_ib sh 2 2 (F x0 2) x1 = true) <|
      pd_l (F (F x0 2) x1) fun x4_40 =>
      pd_i (x4_40 ≠ 0) <|
      pd_i (pd_ob sh 2 x4_40 = true) <|
      if (F x4_40 7) ≠ 0 then
        some F
      else
        Option.bind (pfX7_shareOut sh n 8 F (F x0 1) x4_40 x2 x3 0) fun F5 =>
        some F5
    else
      some F
def pfX7_shareOf_b3 (sh : pd_S) (n : Nat)  : Nat → pd_F → Int → Int → Int → Int → Int → Option pd_F
  | 0, _, _, _, _, _, _ => none
  | k + 1, F, x0, x1, x2, x3, x4 =>
    pd_i (0 ≤ pd_ln sh 0 0 x3) <|
    if x4 ≥ (pd_ln sh 0 0 x3) then
      pfX7_shareOf_b21 sh n F x0 x1 x2 x3
    else
      pd_i (pd_ib sh 0 0 x3 x4 = true) <|
      pd_l (pd_up F x3 x4 0) fun F8 =>
      pd_l (pd_w (x4 + 1)) fun x4_15 =>
      pfX7_shareOf_b3 sh n k F8 x0 x1 x2 x3 x4_15
def pfX7_shareOf (sh : pd_S) (n : Nat) (F : pd_F) (x0 : Int) (x1 : Int) (x2 : Int) (x3 : Int) : Option pd_F :=
  pfX7_shareOf_b3 sh n n F x0 x1 x2 x3 0
def pfX7_reckon_b35 (sh : pd_S) (n : Nat)  : Nat → pd_F → Int → Int → Int → Int → Option pd_F
  | 0, _, _, _, _, _ => none
  | k + 1, F, x0, x1, x2, x3 =>
    pd_i (pd_ob sh 0 x1 = true) <|
    if x3 ≥ (F x1 12) then
      some F
    else
      pd_i (pd_ib sh 2 1 (F x1 4) x3 = true) <|
      pd_l (F (F x1 4) x3) fun x4_49 =>
      pd_i (x4_49 ≠ 0) <|
      pd_i (pd_ob sh 1 x4_49 = true) <|
      pd_i (pd_ob sh 8 x2 = true) <|
      Option.bind (pfX8_balanceOf sh n F x2 (F x4_49 0)) fun qr7 => pd_l qr7.1 fun r7 => pd_l qr7.2 fun F5 =>
      pd_i (pd_ob sh 7 x0 = true) <|
      pd_i (pd_ib sh 3 0 (F5 x0 1) x3 = true) <|
      Option.bind (pfX7_shareOf sh n F5 x1 (F x4_49 0) (min (F x4_49 1) r7) (F5 (F5 x0 1) x3)) fun F10 =>
      pd_l (pd_w (x3 + 1)) fun x3_83 =>
      pfX7_reckon_b35 sh n k F10 x0 x1 x2 x3_83
def pfX7_reckon_b33 (sh : pd_S) (n : Nat)  (F : pd_F) (x0 : Int) (x1 : Int) (x2 : Int) : Option pd_F :=
  pfX7_reckon_b35 sh n n F x0 x1 x2 0
def pfX7_reckon_b2 (sh : pd_S) (n : Nat)  : Nat → pd_F → Int → Int → Int → Int → Option pd_F
  | 0, _, _, _, _, _ => none
  | k + 1, F, x0, x1, x2, x3 =>
    pd_i (pd_ob sh 0 x1 = true) <|
    if x3 ≥ (F x1 11) then
      pfX7_reckon_b33 sh n F x0 x1 x2
    else
      pd_i (pd_ob sh 8 x2 = true) <|
      pd_i (pd_ib sh 0 0 (F x2 0) x3 = true) <|
      pd_i (pd_ob sh 7 x0 = true) <|
      pd_i (pd_ib sh 3 0 (F x0 0) x3 = true) <|
      Option.bind (pfX7_shareOf sh n F x1 x3 (F (F x2 0) x3) (F (F x0 0) x3)) fun F16 =>
      pd_l (pd_w (x3 + 1)) fun x3_27 =>
      pfX7_reckon_b2 sh n k F16 x0 x1 x2 x3_27
def pfX7_reckon (sh : pd_S) (n : Nat) (F : pd_F) (x0 : Int) (x1 : Int) (x2 : Int) : Option pd_F :=
  pfX7_reckon_b2 sh n n F x0 x1 x2 0
def pfX10_holds (sh : pd_S) (n : Nat) (F : pd_F) (x0 : Int) (x1 : Int) : Option (Int × pd_F) :=
  if (pd_and (pd_shr x0 x1) 1) = 0 then
    some (0, F)
  else
    some (1, F)
def pfX10_tie_b29 (sh : pd_S) (n : Nat) (c2 : pd_F → Int → Int → Int → Option pd_F) (F : pd_F) (x0 : Int) (x1 : Int) (x2 : Int) : Option pd_F :=
  pd_l (pd_w (x2 + 1)) fun x2_29 =>
  c2 F x0 x1 x2_29
def pfX10_tie_b2 (sh : pd_S) (n : Nat)  : Nat → pd_F → Int → Int → Int → Option pd_F
  | 0, _, _, _, _ => none
  | k + 1, F, x0, x1, x2 =>
    pd_i (pd_ob sh 10 x0 = true) <|
    pd_i (0 ≤ pd_ln sh 0 0 (F x0 0)) <|
    if x2 ≥ (pd_ln sh 0 0 (F x0 0)) then
      some F
    else
      Option.bind (pfX10_holds sh n F x1 x2) fun qr4 => pd_l qr4.1 fun r4 => pd_l qr4.2 fun F3 =>
      if r4 = 0 then
        pfX10_tie_b29 sh n (pfX10_tie_b2 sh n k) F3 x0 x1 x2
      else
        pd_i (pd_ib sh 0 0 (F3 x0 0) x2 = true) <|
        pd_l (pd_up F3 (F3 x0 0) x2 (pd_or (F3 (F3 x0 0) x2) x1)) fun F6 =>
        pfX10_tie_b29 sh n (pfX10_tie_b2 sh n k) F6 x0 x1 x2
def pfX10_tie (sh : pd_S) (n : Nat) (F : pd_F) (x0 : Int) (x1 : Int) : Option pd_F :=
  pfX10_tie_b2 sh n n F x0 x1 0
def pfX10_oneStepFrom_b30 (sh : pd_S) (n : Nat) (c4 : pd_F → Int → Int → Int → Int → Option (Int × pd_F)) (F : pd_F) (x0 : Int) (x1 : Int) (x2 : Int) (x3 : Int) : Option (Int × pd_F) :=
  pd_l (pd_w (x3 + 1)) fun x3_30 =>
  c4 F x0 x1 x2 x3_30
def pfX10_oneStepFrom_b4 (sh : pd_S) (n : Nat)  : Nat → pd_F → Int → Int → Int → Int → Option (Int × pd_F)
  | 0, _, _, _, _, _ => none
  | k + 1, F, x0, x1, x2, x3 =>
    pd_i (pd_ob sh 10 x0 = true) <|
    pd_i (0 ≤ pd_ln sh 0 0 (F x0 0)) <|
    if x3 ≥ (pd_ln sh 0 0 (F x0 0)) then
      some (x2, F)
    else
      Option.bind (pfX10_holds sh n F x1 x3) fun qr4 => pd_l qr4.1 fun r4 => pd_l qr4.2 fun F3 =>
      if r4 = 0 then
        pfX10_oneStepFrom_b30 sh n (pfX10_oneStepFrom_b4 sh n k) F3 x0 x1 x2 x3
      else
        pd_i (pd_ib sh 0 0 (F3 x0 0) x3 = true) <|
        pd_l (pd_or x2 (F3 (F3 x0 0) x3)) fun x2_29 =>
        pfX10_oneStepFrom_b30 sh n (pfX10_oneStepFrom_b4 sh n k) F3 x0 x1 x2_29 x3
def pfX10_oneStepFrom (sh : pd_S) (n : Nat) (F : pd_F) (x0 : Int) (x1 : Int) : Option (Int × pd_F) :=
  pfX10_oneStepFrom_b4 sh n n F x0 x1 x1 0
def pfX10_giveNumber_b26 (sh : pd_S) (n : Nat) (c2 : pd_F → Int → Int → Int → Int → Option pd_F) (F : pd_F) (x0 : Int) (x1 : Int) (x2 : Int) (x3 : Int) : Option pd_F :=
  pd_l (pd_w (x3 + 1)) fun x3_26 =>
  c2 F x0 x1 x2 x3_26
def pfX10_giveNumber_b2 (sh : pd_S) (n : Nat)  : Nat → pd_F → Int → Int → Int → Int → Option pd_F
  | 0, _, _, _, _, _ => none
  | k + 1, F, x0, x1, x2, x3 =>
    pd_i (pd_ob sh 10 x0 = true) <|
    pd_i (0 ≤ pd_ln sh 0 0 (F x0 1)) <|
    if x3 ≥ (pd_ln sh 0 0 (F x0 1)) then
      some F
    else
      Option.bind (pfX10_holds sh n F x1 x3) fun qr4 => pd_l qr4.1 fun r4 => pd_l qr4.2 fun F3 =>
      if r4 = 0 then
        pfX10_giveNumber_b26 sh n (pfX10_giveNumber_b2 sh n k) F3 x0 x1 x2 x3
      else
        pd_i (pd_ib sh 0 0 (F3 x0 1) x3 = true) <|
        pd_l (pd_up F3 (F3 x0 1) x3 x2) fun F6 =>
        pfX10_giveNumber_b26 sh n (pfX10_giveNumber_b2 sh n k) F6 x0 x1 x2 x3
def pfX10_giveNumber (sh : pd_S) (n : Nat) (F : pd_F) (x0 : Int) (x1 : Int) (x2 : Int) : Option pd_F :=
  pfX10_giveNumber_b2 sh n n F x0 x1 x2 0
def pfX10_allOneWith_b6 (sh : pd_S) (n : Nat)  : Nat → pd_F → Int → Int → Int → Option (Int × pd_F)
  | 0, _, _, _, _ => none
  | k + 1, F, x0, x2, x3 =>
    pd_i (pd_ob sh 10 x0 = true) <|
    pd_i (0 ≤ pd_ln sh 0 0 (F x0 0)) <|
    if x3 ≥ (pd_ln sh 0 0 (F x0 0)) then
      some (x2, F)
    else
      Option.bind (pfX10_oneStepFrom sh n F x0 x2) fun qr4 => pd_l qr4.1 fun r4 => pd_l qr4.2 fun F3 =>
      if r4 ≠ x2 then
        pd_l (pd_w (x3 + 1)) fun x3_33 =>
        pfX10_allOneWith_b6 sh n k F3 x0 r4 x3_33
      else
        some (x2, F3)
def pfX10_allOneWith (sh : pd_S) (n : Nat) (F : pd_F) (x0 : Int) (x1 : Int) : Option (Int × pd_F) :=
  pd_l (pd_shl 1 x1) fun x2_3 =>
  pfX10_allOneWith_b6 sh n n F x0 x2_3 0
def pfX10_numberDepositors_b77 (sh : pd_S) (n : Nat) (c9 : pd_F → Int → Int → Int → Int → Option pd_F) (F : pd_F) (x0 : Int) (x1 : Int) (x2 : Int) (x3 : Int) : Option pd_F :=
  pd_l (pd_w (x3 + 1)) fun x3_77 =>
  c9 F x0 x1 x2 x3_77
def pfX10_numberDepositors_b9 (sh : pd_S) (n : Nat)  : Nat → pd_F → Int → Int → Int → Int → Option pd_F
  | 0, _, _, _, _, _ => none
  | k + 1, F, x0, x1, x2, x3 =>
    if x3 ≥ x1 then
      some F
    else
      pd_i (pd_ob sh 10 x0 = true) <|
      pd_i (0 ≤ pd_ln sh 0 0 (F x0 2)) <|
      if (F x0 3) ≥ (pd_ln sh 0 0 (F x0 2)) then
        some F
      else
        Option.bind (pfX10_holds sh n F x2 x3) fun qr4 => pd_l qr4.1 fun r4 => pd_l qr4.2 fun F3 =>
        if r4 ≠ 0 then
          pfX10_numberDepositors_b77 sh n (pfX10_numberDepositors_b9 sh n k) F3 x0 x1 x2 x3
        else
          Option.bind (pfX10_allOneWith sh n F3 x0 x3) fun qr6 => pd_l qr6.1 fun r6 => pd_l qr6.2 fun F5 =>
          pd_i (pd_ib sh 0 0 (F5 x0 2) (F5 x0 3) = true) <|
          pd_l (pd_up F5 (F5 x0 2) (F5 x0 3) r6) fun F8 =>
          Option.bind (pfX10_giveNumber sh n F8 x0 r6 (F8 x0 3)) fun F9 =>
          pd_l (pd_or x2 r6) fun x2_66 =>
          pd_l (pd_up F9 x0 3 (pd_w ((F9 x0 3) + 1))) fun F10 =>
          pfX10_numberDepositors_b77 sh n (pfX10_numberDepositors_b9 sh n k) F10 x0 x1 x2_66 x3
def pfX10_numberDepositors (sh : pd_S) (n : Nat) (F : pd_F) (x0 : Int) (x1 : Int) : Option pd_F :=
  pd_i (pd_ob sh 10 x0 = true) <|
  pd_l (pd_up F x0 3 0) fun F12 =>
  pfX10_numberDepositors_b9 sh n n F12 x0 x1 0 0
def pfX10_reckon_b54 (sh : pd_S) (n : Nat) (c28 : pd_F → Int → Int → Int → Int → Option pd_F) (F : pd_F) (x0 : Int) (x1 : Int) (x2 : Int) (x3 : Int) : Option pd_F :=
  pd_l (pd_w (x3 + 1)) fun x3_54 =>
  c28 F x0 x1 x2 x3_54
def pfX10_reckon_b97 (sh : pd_S) (n : Nat)  (F : pd_F) (x0 : Int) (x1 : Int) : Option pd_F :=
  pd_i (pd_ob sh 0 x1 = true) <|
  pd_i (pd_ob sh 10 x0 = true) <|
  Option.bind (pfX10_numberDepositors sh n F x0 (F x1 9)) fun F2 =>
  some F2
def pfX10_reckon_b62 (sh : pd_S) (n : Nat)  : Nat → pd_F → Int → Int → Int → Int → Option pd_F
  | 0, _, _, _, _, _ => none
  | k + 1, F, x0, x1, x2, x3 =>
    pd_i (pd_ob sh 8 x2 = true) <|
    if x3 ≥ (F x2 4) then
      pfX10_reckon_b97 sh n F x0 x1
    else
      pd_i (pd_ib sh 0 0 (F x2 2) x3 = true) <|
      pd_i (pd_ib sh 0 0 (F x2 3) x3 = true) <|
      pd_i (pd_ob sh 10 x0 = true) <|
      Option.bind (pfX10_tie sh n F x0 (pd_or (pd_shl 1 (F (F x2 2) x3)) (pd_shl 1 (F (F x2 3) x3)))) fun F7 =>
      pd_l (pd_w (x3 + 1)) fun x3_91 =>
      pfX10_reckon_b62 sh n k F7 x0 x1 x2 x3_91
def pfX10_reckon_b60 (sh : pd_S) (n : Nat)  (F : pd_F) (x0 : Int) (x1 : Int) (x2 : Int) : Option pd_F :=
  pfX10_reckon_b62 sh n n F x0 x1 x2 0
def pfX10_reckon_b28 (sh : pd_S) (n : Nat)  : Nat → pd_F → Int → Int → Int → Int → Option pd_F
  | 0, _, _, _, _, _ => none
  | k + 1, F, x0, x1, x2, x3 =>
    pd_i (pd_ob sh 0 x1 = true) <|
    if x3 ≥ (F x1 14) then
      pfX10_reckon_b60 sh n F x0 x1 x2
    else
      pd_i (pd_ob sh 8 x2 = true) <|
      Option.bind (pfX8_isLeftOut sh n F x2 x3) fun qr12 => pd_l qr12.1 fun r12 => pd_l qr12.2 fun F10 =>
      if r12 ≠ 0 then
        pfX10_reckon_b54 sh n (pfX10_reckon_b28 sh n k) F10 x0 x1 x2 x3
      else
        pd_i (pd_ib sh 0 0 (F10 x1 8) x3 = true) <|
        pd_i (pd_ob sh 10 x0 = true) <|
        Option.bind (pfX10_tie sh n F10 x0 (F10 (F10 x1 8) x3)) fun F14 =>
        pfX10_reckon_b54 sh n (pfX10_reckon_b28 sh n k) F14 x0 x1 x2 x3
def pfX10_reckon_b26 (sh : pd_S) (n : Nat)  (F : pd_F) (x0 : Int) (x1 : Int) (x2 : Int) : Option pd_F :=
  pfX10_reckon_b28 sh n n F x0 x1 x2 0
def pfX10_reckon_b2 (sh : pd_S) (n : Nat)  : Nat → pd_F → Int → Int → Int → Int → Option pd_F
  | 0, _, _, _, _, _ => none
  | k + 1, F, x0, x1, x2, x3 =>
    pd_i (pd_ob sh 10 x0 = true) <|
    pd_i (0 ≤ pd_ln sh 0 0 (F x0 0)) <|
    if x3 ≥ (pd_ln sh 0 0 (F x0 0)) then
      pfX10_reckon_b26 sh n F x0 x1 x2
    else
      pd_i (pd_ib sh 0 0 (F x0 0) x3 = true) <|
      pd_l (pd_up F (F x0 0) x3 (pd_shl 1 x3)) fun F19 =>
      pd_l (pd_w (x3 + 1)) fun x3_20 =>
      pfX10_reckon_b2 sh n k F19 x0 x1 x2 x3_20
def pfX10_reckon (sh : pd_S) (n : Nat) (F : pd_F) (x0 : Int) (x1 : Int) (x2 : Int) : Option pd_F :=
  pfX10_reckon_b2 sh n n F x0 x1 x2 0
set_option maxHeartbeats 4000000 in
set_option maxRecDepth 100000 in
theorem pkX7_shareOut_b138 (E : pd_E) (l : Launch) {al : Bool} {sh : pd_S} {n : Nat} {Fz : pd_F} {dd : Nat} (hdd : 1 ≤ dd) {slf : pd_F → Int → Int → Int → Int → Int → Option pd_F} (hslf : ∀ (F : pd_F) (a0 a1 a2 a3 a4 : Int) {Fz : pd_F}, slf F a0 a1 a2 a3 a4 = some Fz → pd_C l yX7_shareOut (Cond.code yX7_shareOut cX7_shareOut 14 none :: pd_gt) (pd_rm dd 0 0) al 0 0 sh F [pd_R a0, pd_R a1, pd_I a2, pd_R a3, pd_I a4] none sh Fz) {c23 : pd_F → Int → Int → Int → Int → Int → Int → Int → Int → Option pd_F} (hL23 : ∀ (F : pd_F) (x0 : Int) (x1 : Int) (x2 : Int) (x3 : Int) (x4 : Int) (x5 : Int) (x7 : Int) (x9 : Int), c23 F x0 x1 x2 x3 x4 x5 x7 x9 = some Fz → pd_V E l (pd_rm (dd + 1) 0 0) (RX7, cX7_shareOut, 14, none, "shareOut") (pd_Qm E al none sh Fz 0 0) al 0 0 sh F 23 [pd_R x0, pd_R x1, pd_I x2, pd_R x3, pd_I x4, pd_J x5, pd_N, pd_J x7, pd_N, pd_I x9, pd_N, pd_N, pd_N, pd_N] []) (F : pd_F) (x0 : Int) (x1 : Int) (x2 : Int) (x3 : Int) (x4 : Int) (x5 : Int) (x7 : Int) (x9 : Int) (hf : pfX7_shareOut_b138 sh n slf c23 F x0 x1 x2 x3 x4 x5 x7 x9 = some Fz) : pd_V E l (pd_rm (dd + 1) 0 0) (RX7, cX7_shareOut, 14, none, "shareOut") (pd_Qm E al none sh Fz 0 0) al 0 0 sh F 138 [pd_R x0, pd_R x1, pd_I x2, pd_R x3, pd_I x4, pd_J x5, pd_N, pd_J x7, pd_N, pd_I x9, pd_N, pd_N, pd_N, pd_N] [] := by
  unfold pfX7_shareOut_b138 at hf
  refine pd_iincN (L' := fun y => [pd_R x0, pd_R x1, pd_I x2, pd_R x3, pd_I x4, pd_J x5, pd_N, pd_J x7, pd_N, pd_I y, pd_N, pd_N, pd_N, pd_N]) dX7_shareOut_138 rfl (by decide) (by decide) (fun _ => rfl) (fun x9_138 ex9_138 => ?_)
  have hf := pd_lt hf ex9_138
  clear ex9_138
  refine pd_goto (tgt := 23) dX7_shareOut_141 (by decide) ?_
  exact pd_weak (L' := [pd_R x0, pd_R x1, pd_I x2, pd_R x3, pd_I x4, pd_J x5, pd_N, pd_J x7, pd_N, pd_I x9_138, pd_N, pd_N, pd_N, pd_N]) ⟨Or.inr rfl, Or.inr rfl, Or.inr rfl, Or.inr rfl, Or.inr rfl, Or.inr rfl, Or.inr rfl, Or.inr rfl, Or.inr rfl, Or.inr rfl, Or.inr rfl, Or.inr rfl, Or.inr rfl, Or.inr rfl, trivial⟩ (hL23 _ _ _ _ _ _ _ _ _ hf)
set_option maxHeartbeats 4000000 in
set_option maxRecDepth 100000 in
theorem pkX7_shareOut_b103 (E : pd_E) (l : Launch) {al : Bool} {sh : pd_S} {n : Nat} {Fz : pd_F} {dd : Nat} (hdd : 1 ≤ dd) {slf : pd_F → Int → Int → Int → Int → Int → Option pd_F} (hslf : ∀ (F : pd_F) (a0 a1 a2 a3 a4 : Int) {Fz : pd_F}, slf F a0 a1 a2 a3 a4 = some Fz → pd_C l yX7_shareOut (Cond.code yX7_shareOut cX7_shareOut 14 none :: pd_gt) (pd_rm dd 0 0) al 0 0 sh F [pd_R a0, pd_R a1, pd_I a2, pd_R a3, pd_I a4] none sh Fz) {c23 : pd_F → Int → Int → Int → Int → Int → Int → Int → Int → Option pd_F} (hL23 : ∀ (F : pd_F) (x0 : Int) (x1 : Int) (x2 : Int) (x3 : Int) (x4 : Int) (x5 : Int) (x7 : Int) (x9 : Int), c23 F x0 x1 x2 x3 x4 x5 x7 x9 = some Fz → pd_V E l (pd_rm (dd + 1) 0 0) (RX7, cX7_shareOut, 14, none, "shareOut") (pd_Qm E al none sh Fz 0 0) al 0 0 sh F 23 [pd_R x0, pd_R x1, pd_I x2, pd_R x3, pd_I x4, pd_J x5, pd_N, pd_J x7, pd_N, pd_I x9, pd_N, pd_N, pd_N, pd_N] []) (F : pd_F) (x0 : Int) (x1 : Int) (x2 : Int) (x3 : Int) (x4 : Int) (x5 : Int) (x7 : Int) (x9 : Int) (x12 : Int) (x13 : Int) (hf : pfX7_shareOut_b103 sh n slf c23 F x0 x1 x2 x3 x4 x5 x7 x9 x12 x13 = some Fz) : pd_V E l (pd_rm (dd + 1) 0 0) (RX7, cX7_shareOut, 14, none, "shareOut") (pd_Qm E al none sh Fz 0 0) al 0 0 sh F 103 [pd_R x0, pd_R x1, pd_I x2, pd_R x3, pd_I x4, pd_J x5, pd_N, pd_J x7, pd_N, pd_I x9, pd_N, pd_N, pd_I x12, pd_I x13] [] := by
  unfold pfX7_shareOut_b103 at hf
  refine pd_iload (i := 13) dX7_shareOut_103 rfl ?_
  refine pd_bipush dX7_shareOut_105 (by decide) ?_
  refine pd_icmp_lt (tgt := 138) dX7_shareOut_107 (by decide) (fun hc => ?_) (fun hc => ?_)
  · have hf := pd_ip hf hc
    exact pd_weak (L' := [pd_R x0, pd_R x1, pd_I x2, pd_R x3, pd_I x4, pd_J x5, pd_N, pd_J x7, pd_N, pd_I x9, pd_N, pd_N, pd_N, pd_N]) ⟨Or.inr rfl, Or.inr rfl, Or.inr rfl, Or.inr rfl, Or.inr rfl, Or.inr rfl, Or.inr rfl, Or.inr rfl, Or.inr rfl, Or.inr rfl, Or.inr rfl, Or.inr rfl, Or.inl rfl, Or.inl rfl, trivial⟩ (pkX7_shareOut_b138 E l hdd hslf hL23 _ _ _ _ _ _ _ _ _ hf)
  · have hf := pd_in_ hf hc
    refine pd_iload (i := 13) dX7_shareOut_110 rfl ?_
    refine pd_bipush dX7_shareOut_112 (by decide) ?_
    refine pd_isub dX7_shareOut_114 ?_
    refine pd_aload_n (i := 0) dX7_shareOut_115 rfl rfl ?_
    obtain ⟨hg1, hf⟩ := pd_ig hf
    refine pd_alen dX7_shareOut_116 (by decide) hg1 ?_
    refine pd_icmp_ge (tgt := 138) dX7_shareOut_117 (by decide) (fun hc => ?_) (fun hc => ?_)
    · have hf := pd_ip hf hc
      exact pd_weak (L' := [pd_R x0, pd_R x1, pd_I x2, pd_R x3, pd_I x4, pd_J x5, pd_N, pd_J x7, pd_N, pd_I x9, pd_N, pd_N, pd_N, pd_N]) ⟨Or.inr rfl, Or.inr rfl, Or.inr rfl, Or.inr rfl, Or.inr rfl, Or.inr rfl, Or.inr rfl, Or.inr rfl, Or.inr rfl, Or.inr rfl, Or.inr rfl, Or.inr rfl, Or.inl rfl, Or.inl rfl, trivial⟩ (pkX7_shareOut_b138 E l hdd hslf hL23 _ _ _ _ _ _ _ _ _ hf)
    · have hf := pd_in_ hf hc
      refine pd_aload_n (i := 0) dX7_shareOut_120 rfl rfl ?_
      refine pd_aload_n (i := 0) dX7_shareOut_121 rfl rfl ?_
      refine pd_iload (i := 13) dX7_shareOut_122 rfl ?_
      refine pd_bipush dX7_shareOut_124 (by decide) ?_
      refine pd_isub dX7_shareOut_126 ?_
      obtain ⟨hg2, hf⟩ := pd_ig hf
      refine pd_aald dX7_shareOut_127 hg2 ?_
      refine pd_iload (i := 12) dX7_shareOut_128 rfl ?_
      refine pd_aload_n (i := 3) dX7_shareOut_130 rfl rfl ?_
      refine pd_iload (i := 4) dX7_shareOut_131 rfl ?_
      refine pd_iconst dX7_shareOut_133 (by decide) ?_
      refine pd_iadd dX7_shareOut_134 ?_
      obtain ⟨F3, hr, hf⟩ := pd_ob1 hf
      refine pd_callS (hslf _ _ _ _ _ _ hr) dX7_shareOut_135 pq_461 pq_464 (pd_okm (by omega) (by decide) pq_462 pq_463 (by decide) (show (parseMethodDescriptor yX7_shareOut.desc).map (fun d => d.parameters.length) = some 5 from by decide +kernel)) (Nat.le_of_ble_eq_true rfl) rfl ?_
      exact pd_weak (L' := [pd_R x0, pd_R x1, pd_I x2, pd_R x3, pd_I x4, pd_J x5, pd_N, pd_J x7, pd_N, pd_I x9, pd_N, pd_N, pd_N, pd_N]) ⟨Or.inr rfl, Or.inr rfl, Or.inr rfl, Or.inr rfl, Or.inr rfl, Or.inr rfl, Or.inr rfl, Or.inr rfl, Or.inr rfl, Or.inr rfl, Or.inr rfl, Or.inr rfl, Or.inl rfl, Or.inl rfl, trivial⟩ (pkX7_shareOut_b138 E l hdd hslf hL23 _ _ _ _ _ _ _ _ _ hf)
set_option maxHeartbeats 4000000 in
set_option maxRecDepth 100000 in
theorem pkX7_shareOut_b23 (E : pd_E) (l : Launch) {al : Bool} {sh : pd_S} {n : Nat} {Fz : pd_F} {dd : Nat} (hdd : 1 ≤ dd) {slf : pd_F → Int → Int → Int → Int → Int → Option pd_F} (hslf : ∀ (F : pd_F) (a0 a1 a2 a3 a4 : Int) {Fz : pd_F}, slf F a0 a1 a2 a3 a4 = some Fz → pd_C l yX7_shareOut (Cond.code yX7_shareOut cX7_shareOut 14 none :: pd_gt) (pd_rm dd 0 0) al 0 0 sh F [pd_R a0, pd_R a1, pd_I a2, pd_R a3, pd_I a4] none sh Fz)  : ∀ (k : Nat) (F : pd_F) (x0 : Int) (x1 : Int) (x2 : Int) (x3 : Int) (x4 : Int) (x5 : Int) (x7 : Int) (x9 : Int), pfX7_shareOut_b23 sh n slf  k F x0 x1 x2 x3 x4 x5 x7 x9 = some Fz → pd_V E l (pd_rm (dd + 1) 0 0) (RX7, cX7_shareOut, 14, none, "shareOut") (pd_Qm E al none sh Fz 0 0) al 0 0 sh F 23 [pd_R x0, pd_R x1, pd_I x2, pd_R x3, pd_I x4, pd_J x5, pd_N, pd_J x7, pd_N, pd_I x9, pd_N, pd_N, pd_N, pd_N] [] := by
  intro k
  induction k with
  | zero => intro F x0 x1 x2 x3 x4 x5 x7 x9 hf; exact absurd hf (by unfold pfX7_shareOut_b23; exact fun h => nomatch h)
  | succ k ih =>
    intro F x0 x1 x2 x3 x4 x5 x7 x9 hf
    unfold pfX7_shareOut_b23 at hf
    refine pd_iload (i := 9) dX7_shareOut_23 rfl ?_
    refine pd_aload_n (i := 1) dX7_shareOut_25 rfl rfl ?_
    obtain ⟨hg4, hf⟩ := pd_ig hf
    refine pd_getN (x := pd_I (F x1 3)) 3 dX7_shareOut_26 (show vwCl[2]? = some (RX2, TX2, 8) from rfl) pin_2 (by decide) pq_465 hg4 rfl ?_
    refine pd_icmp_ge (tgt := 144) dX7_shareOut_29 (by decide) (fun hc => ?_) (fun hc => ?_)
    · have hf := pd_ip hf hc
      obtain h2 := pd_inj1 hf
      subst h2
      exact pd_vret dX7_shareOut_144 rfl (Nat.le_refl 0) (Nat.le_refl 0)
    · have hf := pd_in_ hf hc
      refine pd_lload (i := 5) dX7_shareOut_32 rfl ?_
      refine pd_aload_n (i := 1) dX7_shareOut_34 rfl rfl ?_
      refine pd_getN (x := pd_R (F x1 1)) 1 dX7_shareOut_35 (show vwCl[2]? = some (RX2, TX2, 8) from rfl) pin_2 (by decide) pq_466 hg4 rfl ?_
      refine pd_iload (i := 9) dX7_shareOut_38 rfl ?_
      obtain ⟨hg5, hf⟩ := pd_ig hf
      refine pd_iald dX7_shareOut_40 hg5 ?_
      refine pd_i2l dX7_shareOut_41 ?_
      refine pd_ladd dX7_shareOut_42 ?_
      refine pd_topJ (fun x5_43 ex5_43 => ?_)
      have hf := pd_lt hf ex5_43
      clear ex5_43
      refine pd_lstore (L' := [pd_R x0, pd_R x1, pd_I x2, pd_R x3, pd_I x4, pd_J x5_43, pd_N, pd_J x7, pd_N, pd_I x9, pd_N, pd_N, pd_N, pd_N]) dX7_shareOut_43 (by decide) rfl ?_
      refine pd_iload_n (i := 2) dX7_shareOut_45 rfl rfl ?_
      refine pd_i2l dX7_shareOut_46 ?_
      refine pd_lload (i := 5) dX7_shareOut_47 rfl ?_
      refine pd_lmul dX7_shareOut_49 ?_
      refine pd_aload_n (i := 1) dX7_shareOut_50 rfl rfl ?_
      refine pd_getN (x := pd_I (F x1 5)) 5 dX7_shareOut_51 (show vwCl[2]? = some (RX2, TX2, 8) from rfl) pin_2 (by decide) pq_467 hg4 rfl ?_
      refine pd_i2l dX7_shareOut_54 ?_
      obtain ⟨hg6, hf⟩ := pd_ig hf
      refine pd_ldiv dX7_shareOut_55 hg6 ?_
      refine pd_topJ (fun x10_56 ex10_56 => ?_)
      have hf := pd_lt hf ex10_56
      clear ex10_56
      refine pd_lstore (L' := [pd_R x0, pd_R x1, pd_I x2, pd_R x3, pd_I x4, pd_J x5_43, pd_N, pd_J x7, pd_N, pd_I x9, pd_J x10_56, pd_N, pd_N, pd_N]) dX7_shareOut_56 (by decide) rfl ?_
      refine pd_lload (i := 10) dX7_shareOut_58 rfl ?_
      refine pd_lload (i := 7) dX7_shareOut_60 rfl ?_
      refine pd_lsub dX7_shareOut_62 ?_
      refine pd_l2i dX7_shareOut_63 ?_
      refine pd_topI (fun x12_64 ex12_64 => ?_)
      have hf := pd_lt hf ex12_64
      clear ex12_64
      refine pd_istore (L' := [pd_R x0, pd_R x1, pd_I x2, pd_R x3, pd_I x4, pd_J x5_43, pd_N, pd_J x7, pd_N, pd_I x9, pd_J x10_56, pd_N, pd_I x12_64, pd_N]) dX7_shareOut_64 (by decide) rfl ?_
      refine pd_lload (i := 10) dX7_shareOut_66 rfl ?_
      refine pd_lstore (L' := [pd_R x0, pd_R x1, pd_I x2, pd_R x3, pd_I x4, pd_J x5_43, pd_N, pd_J x10_56, pd_N, pd_I x9, pd_J x10_56, pd_N, pd_I x12_64, pd_N]) dX7_shareOut_68 (by decide) rfl ?_
      refine pd_aload_n (i := 1) dX7_shareOut_70 rfl rfl ?_
      refine pd_getN (x := pd_R (F x1 0)) 0 dX7_shareOut_71 (show vwCl[2]? = some (RX2, TX2, 8) from rfl) pin_2 (by decide) pq_468 hg4 rfl ?_
      refine pd_iload (i := 9) dX7_shareOut_74 rfl ?_
      obtain ⟨hg7, hf⟩ := pd_ig hf
      refine pd_iald dX7_shareOut_76 hg7 ?_
      refine pd_topI (fun x13_77 ex13_77 => ?_)
      have hf := pd_lt hf ex13_77
      clear ex13_77
      refine pd_istore (L' := [pd_R x0, pd_R x1, pd_I x2, pd_R x3, pd_I x4, pd_J x5_43, pd_N, pd_J x10_56, pd_N, pd_I x9, pd_J x10_56, pd_N, pd_I x12_64, pd_I x13_77]) dX7_shareOut_77 (by decide) rfl ?_
      refine pd_iload (i := 13) dX7_shareOut_79 rfl ?_
      refine pd_if_lt (tgt := 103) dX7_shareOut_81 (by decide) (fun hc => ?_) (fun hc => ?_)
      · have hf := pd_ip hf hc
        exact pd_weak (L' := [pd_R x0, pd_R x1, pd_I x2, pd_R x3, pd_I x4, pd_J x5_43, pd_N, pd_J x10_56, pd_N, pd_I x9, pd_N, pd_N, pd_I x12_64, pd_I x13_77]) ⟨Or.inr rfl, Or.inr rfl, Or.inr rfl, Or.inr rfl, Or.inr rfl, Or.inr rfl, Or.inr rfl, Or.inr rfl, Or.inr rfl, Or.inr rfl, Or.inl rfl, Or.inr rfl, Or.inr rfl, Or.inr rfl, trivial⟩ (pkX7_shareOut_b103 E l hdd hslf ih _ _ _ _ _ _ _ _ _ _ _ hf)
      · have hf := pd_in_ hf hc
        refine pd_iload (i := 13) dX7_shareOut_84 rfl ?_
        refine pd_aload_n (i := 3) dX7_shareOut_86 rfl rfl ?_
        obtain ⟨hg8, hf⟩ := pd_ig hf
        refine pd_alen dX7_shareOut_87 (by decide) hg8 ?_
        refine pd_icmp_ge (tgt := 103) dX7_shareOut_88 (by decide) (fun hc => ?_) (fun hc => ?_)
        · have hf := pd_ip hf hc
          exact pd_weak (L' := [pd_R x0, pd_R x1, pd_I x2, pd_R x3, pd_I x4, pd_J x5_43, pd_N, pd_J x10_56, pd_N, pd_I x9, pd_N, pd_N, pd_I x12_64, pd_I x13_77]) ⟨Or.inr rfl, Or.inr rfl, Or.inr rfl, Or.inr rfl, Or.inr rfl, Or.inr rfl, Or.inr rfl, Or.inr rfl, Or.inr rfl, Or.inr rfl, Or.inl rfl, Or.inr rfl, Or.inr rfl, Or.inr rfl, trivial⟩ (pkX7_shareOut_b103 E l hdd hslf ih _ _ _ _ _ _ _ _ _ _ _ hf)
        · have hf := pd_in_ hf hc
          refine pd_aload_n (i := 3) dX7_shareOut_91 rfl rfl ?_
          refine pd_iload (i := 13) dX7_shareOut_92 rfl ?_
          refine pd_dup2 dX7_shareOut_94 rfl rfl ?_
          obtain ⟨hg9, hf⟩ := pd_ig hf
          refine pd_iald dX7_shareOut_95 hg9 ?_
          refine pd_iload (i := 12) dX7_shareOut_96 rfl ?_
          refine pd_iadd dX7_shareOut_98 ?_
          refine pd_iast dX7_shareOut_99 hg9 ?_
          refine pd_topF (fun F10 eF10 => ?_)
          have hf := pd_lt hf eF10
          clear eF10
          refine pd_goto (tgt := 138) dX7_shareOut_100 (by decide) ?_
          exact pd_weak (L' := [pd_R x0, pd_R x1, pd_I x2, pd_R x3, pd_I x4, pd_J x5_43, pd_N, pd_J x10_56, pd_N, pd_I x9, pd_N, pd_N, pd_N, pd_N]) ⟨Or.inr rfl, Or.inr rfl, Or.inr rfl, Or.inr rfl, Or.inr rfl, Or.inr rfl, Or.inr rfl, Or.inr rfl, Or.inr rfl, Or.inr rfl, Or.inl rfl, Or.inr rfl, Or.inl rfl, Or.inl rfl, trivial⟩ (pkX7_shareOut_b138 E l hdd hslf ih _ _ _ _ _ _ _ _ _ hf)
set_option maxHeartbeats 4000000 in
set_option maxRecDepth 100000 in
theorem pkX7_shareOut_r (l : Launch) {al : Bool} {sh : pd_S} {n : Nat} : ∀ (k : Nat) (F : pd_F) (x0 : Int) (x1 : Int) (x2 : Int) (x3 : Int) (x4 : Int) {Fz : pd_F}, pfX7_shareOut sh n k F x0 x1 x2 x3 x4 = some Fz → pd_C l yX7_shareOut (Cond.code yX7_shareOut cX7_shareOut 14 none :: pd_gt) (pd_rm (1 + k) 0 0) al 0 0 sh F [pd_R x0, pd_R x1, pd_I x2, pd_R x3, pd_I x4] none sh Fz := by
  intro k
  induction k with
  | zero => intro F x0 x1 x2 x3 x4  Fz hf; exact absurd hf (by unfold pfX7_shareOut; exact fun h => nomatch h)
  | succ k ih =>
    intro F x0 x1 x2 x3 x4  Fz hf
    unfold pfX7_shareOut at hf
    have hdd : 1 ≤ 1 + k := by omega
    have hslf := @ih
    generalize hsl : pfX7_shareOut sh n k = slf at hf hslf
    have hf := pd_lt0 hf
    refine pd_body (L := [pd_R x0, pd_R x1, pd_I x2, pd_R x3, pd_I x4, pd_N, pd_N, pd_N, pd_N, pd_N, pd_N, pd_N, pd_N, pd_N]) (by decide +kernel) (Nat.le_of_ble_eq_true rfl) rfl (fun E => ?_)
    refine pd_iload (i := 4) dX7_shareOut_0 rfl ?_
    refine pd_iconst dX7_shareOut_2 (by decide) ?_
    refine pd_icmp_gt (tgt := 13) dX7_shareOut_3 (by decide) (fun hc => ?_) (fun hc => ?_)
    · have hf := pd_ip hf hc
      obtain h2 := pd_inj1 hf
      subst h2
      exact pd_vret dX7_shareOut_13 rfl (Nat.le_refl 0) (Nat.le_refl 0)
    · have hf := pd_in_ hf hc
      refine pd_aload_n (i := 1) dX7_shareOut_6 rfl rfl ?_
      obtain ⟨hg11, hf⟩ := pd_ig hf
      refine pd_getN (x := pd_I (F x1 5)) 5 dX7_shareOut_7 (show vwCl[2]? = some (RX2, TX2, 8) from rfl) pin_2 (by decide) pq_467 hg11 rfl ?_
      refine pd_if_gt (tgt := 14) dX7_shareOut_10 (by decide) (fun hc => ?_) (fun hc => ?_)
      · have hf := pd_ip hf hc
        refine pd_lconst (x := 0) dX7_shareOut_14 (by decide) ?_
        refine pd_lstore (L' := [pd_R x0, pd_R x1, pd_I x2, pd_R x3, pd_I x4, pd_J 0, pd_N, pd_N, pd_N, pd_N, pd_N, pd_N, pd_N, pd_N]) dX7_shareOut_15 (by decide) rfl ?_
        refine pd_lconst (x := 0) dX7_shareOut_17 (by decide) ?_
        refine pd_lstore (L' := [pd_R x0, pd_R x1, pd_I x2, pd_R x3, pd_I x4, pd_J 0, pd_N, pd_J 0, pd_N, pd_N, pd_N, pd_N, pd_N, pd_N]) dX7_shareOut_18 (by decide) rfl ?_
        refine pd_iconst dX7_shareOut_20 (by decide) ?_
        refine pd_istore (L' := [pd_R x0, pd_R x1, pd_I x2, pd_R x3, pd_I x4, pd_J 0, pd_N, pd_J 0, pd_N, pd_I 0, pd_N, pd_N, pd_N, pd_N]) dX7_shareOut_21 (by decide) rfl ?_
        exact pd_weak (L' := [pd_R x0, pd_R x1, pd_I x2, pd_R x3, pd_I x4, pd_J 0, pd_N, pd_J 0, pd_N, pd_I 0, pd_N, pd_N, pd_N, pd_N]) ⟨Or.inr rfl, Or.inr rfl, Or.inr rfl, Or.inr rfl, Or.inr rfl, Or.inr rfl, Or.inr rfl, Or.inr rfl, Or.inr rfl, Or.inr rfl, Or.inr rfl, Or.inr rfl, Or.inr rfl, Or.inr rfl, trivial⟩ (pkX7_shareOut_b23 E l hdd hslf n _ _ _ _ _ _ _ _ _ hf)
      · have hf := pd_in_ hf hc
        obtain h2 := pd_inj1 hf
        subst h2
        exact pd_vret dX7_shareOut_13 rfl (Nat.le_refl 0) (Nat.le_refl 0)
theorem pkX7_shareOut (l : Launch) {al : Bool} {sh : pd_S} {n : Nat} {F : pd_F} {x0 : Int} {x1 : Int} {x2 : Int} {x3 : Int} {x4 : Int} {Fz : pd_F} (hf : pfX7_shareOut sh n 8 F x0 x1 x2 x3 x4 = some Fz) : pd_C l yX7_shareOut (Cond.code yX7_shareOut cX7_shareOut 14 none :: pd_gt) (pd_rm 9 0 0) al 0 0 sh F [pd_R x0, pd_R x1, pd_I x2, pd_R x3, pd_I x4] none sh Fz := pkX7_shareOut_r l 8 F x0 x1 x2 x3 x4 hf
set_option maxHeartbeats 4000000 in
set_option maxRecDepth 100000 in
theorem pkX7_shareOf_b21 (E : pd_E) (l : Launch) {al : Bool} {sh : pd_S} {n : Nat} {Fz : pd_F}  (F : pd_F) (x0 : Int) (x1 : Int) (x2 : Int) (x3 : Int) (hf : pfX7_shareOf_b21 sh n  F x0 x1 x2 x3 = some Fz) : pd_V E l (pd_rm 10 0 0) (RX7, cX7_shareOf, 5, none, "shareOf") (pd_Qm E al none sh Fz 0 0) al 0 0 sh F 21 [pd_R x0, pd_I x1, pd_I x2, pd_R x3, pd_N] [] := by
  unfold pfX7_shareOf_b21 at hf
  refine pd_iload_n (i := 1) dX7_shareOf_21 rfl rfl ?_
  refine pd_if_lt (tgt := 33) dX7_shareOf_22 (by decide) (fun hc => ?_) (fun hc => ?_)
  · have hf := pd_ip hf hc
    obtain h2 := pd_inj1 hf
    subst h2
    exact pd_vret dX7_shareOf_33 rfl (Nat.le_refl 0) (Nat.le_refl 0)
  · have hf := pd_in_ hf hc
    refine pd_iload_n (i := 1) dX7_shareOf_25 rfl rfl ?_
    refine pd_aload_n (i := 0) dX7_shareOf_26 rfl rfl ?_
    obtain ⟨hg1, hf⟩ := pd_ig hf
    refine pd_getN (x := pd_I (F x0 11)) 11 dX7_shareOf_27 (show vwCl[0]? = some (RX0, TX0, 15) from rfl) pin_0 (by decide) pq_469 hg1 rfl ?_
    refine pd_icmp_lt (tgt := 34) dX7_shareOf_30 (by decide) (fun hc => ?_) (fun hc => ?_)
    · have hf := pd_ip hf hc
      refine pd_aload_n (i := 0) dX7_shareOf_34 rfl rfl ?_
      refine pd_getN (x := pd_R (F x0 2)) 2 dX7_shareOf_35 (show vwCl[0]? = some (RX0, TX0, 15) from rfl) pin_0 (by decide) pq_470 hg1 rfl ?_
      refine pd_iload_n (i := 1) dX7_shareOf_38 rfl rfl ?_
      obtain ⟨hg2, hf⟩ := pd_ig hf
      refine pd_aald dX7_shareOf_39 hg2 ?_
      refine pd_topR (fun x4_40 ex4_40 => ?_)
      have hf := pd_lt hf ex4_40
      clear ex4_40
      obtain ⟨hg3, hf⟩ := pd_ig hf
      refine pd_astore (L' := [pd_R x0, pd_I x1, pd_I x2, pd_R x3, pd_R x4_40]) dX7_shareOf_40 (by decide) hg3 rfl ?_
      refine pd_aload (i := 4) dX7_shareOf_42 rfl ?_
      obtain ⟨hg4, hf⟩ := pd_ig hf
      refine pd_getN (x := pd_I (F x4_40 7)) 7 dX7_shareOf_44 (show vwCl[2]? = some (RX2, TX2, 8) from rfl) pin_2 (by decide) pq_471 hg4 rfl ?_
      refine pd_if_ne (tgt := 62) dX7_shareOf_47 (by decide) (fun hc => ?_) (fun hc => ?_)
      · have hf := pd_ip hf hc
        obtain h2 := pd_inj1 hf
        subst h2
        exact pd_vret dX7_shareOf_62 rfl (Nat.le_refl 0) (Nat.le_refl 0)
      · have hf := pd_iq hf hc
        refine pd_aload_n (i := 0) dX7_shareOf_50 rfl rfl ?_
        refine pd_getN (x := pd_R (F x0 1)) 1 dX7_shareOf_51 (show vwCl[0]? = some (RX0, TX0, 15) from rfl) pin_0 (by decide) pq_472 hg1 rfl ?_
        refine pd_aload (i := 4) dX7_shareOf_54 rfl ?_
        refine pd_iload_n (i := 2) dX7_shareOf_56 rfl rfl ?_
        refine pd_aload_n (i := 3) dX7_shareOf_57 rfl rfl ?_
        refine pd_iconst dX7_shareOf_58 (by decide) ?_
        obtain ⟨F5, hr, hf⟩ := pd_ob1 hf
        refine pd_callS (pkX7_shareOut l hr) dX7_shareOf_59 pq_461 pq_464 (pd_okm (by omega) (by decide) pq_462 pq_463 (by decide) (show (parseMethodDescriptor yX7_shareOut.desc).map (fun d => d.parameters.length) = some 5 from by decide +kernel)) (Nat.le_of_ble_eq_true rfl) rfl ?_
        obtain h2 := pd_inj1 hf
        subst h2
        exact pd_vret dX7_shareOf_62 rfl (Nat.le_refl 0) (Nat.le_refl 0)
    · have hf := pd_in_ hf hc
      obtain h2 := pd_inj1 hf
      subst h2
      exact pd_vret dX7_shareOf_33 rfl (Nat.le_refl 0) (Nat.le_refl 0)
set_option maxHeartbeats 4000000 in
set_option maxRecDepth 100000 in
theorem pkX7_shareOf_b3 (E : pd_E) (l : Launch) {al : Bool} {sh : pd_S} {n : Nat} {Fz : pd_F}  : ∀ (k : Nat) (F : pd_F) (x0 : Int) (x1 : Int) (x2 : Int) (x3 : Int) (x4 : Int), pfX7_shareOf_b3 sh n  k F x0 x1 x2 x3 x4 = some Fz → pd_V E l (pd_rm 10 0 0) (RX7, cX7_shareOf, 5, none, "shareOf") (pd_Qm E al none sh Fz 0 0) al 0 0 sh F 3 [pd_R x0, pd_I x1, pd_I x2, pd_R x3, pd_I x4] [] := by
  intro k
  induction k with
  | zero => intro F x0 x1 x2 x3 x4 hf; exact absurd hf (by unfold pfX7_shareOf_b3; exact fun h => nomatch h)
  | succ k ih =>
    intro F x0 x1 x2 x3 x4 hf
    unfold pfX7_shareOf_b3 at hf
    refine pd_iload (i := 4) dX7_shareOf_3 rfl ?_
    refine pd_aload_n (i := 3) dX7_shareOf_5 rfl rfl ?_
    obtain ⟨hg6, hf⟩ := pd_ig hf
    refine pd_alen dX7_shareOf_6 (by decide) hg6 ?_
    refine pd_icmp_ge (tgt := 21) dX7_shareOf_7 (by decide) (fun hc => ?_) (fun hc => ?_)
    · have hf := pd_ip hf hc
      exact pd_weak (L' := [pd_R x0, pd_I x1, pd_I x2, pd_R x3, pd_N]) ⟨Or.inr rfl, Or.inr rfl, Or.inr rfl, Or.inr rfl, Or.inl rfl, trivial⟩ (pkX7_shareOf_b21 E l _ _ _ _ _ hf)
    · have hf := pd_in_ hf hc
      refine pd_aload_n (i := 3) dX7_shareOf_10 rfl rfl ?_
      refine pd_iload (i := 4) dX7_shareOf_11 rfl ?_
      refine pd_iconst dX7_shareOf_13 (by decide) ?_
      obtain ⟨hg7, hf⟩ := pd_ig hf
      refine pd_iast dX7_shareOf_14 hg7 ?_
      refine pd_topF (fun F8 eF8 => ?_)
      have hf := pd_lt hf eF8
      clear eF8
      refine pd_iincN (L' := fun y => [pd_R x0, pd_I x1, pd_I x2, pd_R x3, pd_I y]) dX7_shareOf_15 rfl (by decide) (by decide) (fun _ => rfl) (fun x4_15 ex4_15 => ?_)
      have hf := pd_lt hf ex4_15
      clear ex4_15
      refine pd_goto (tgt := 3) dX7_shareOf_18 (by decide) ?_
      exact pd_weak (L' := [pd_R x0, pd_I x1, pd_I x2, pd_R x3, pd_I x4_15]) ⟨Or.inr rfl, Or.inr rfl, Or.inr rfl, Or.inr rfl, Or.inr rfl, trivial⟩ (ih _ _ _ _ _ _ hf)
set_option maxHeartbeats 4000000 in
set_option maxRecDepth 100000 in
theorem pkX7_shareOf (l : Launch) {al : Bool} {sh : pd_S} {n : Nat} {F : pd_F} {x0 : Int} {x1 : Int} {x2 : Int} {x3 : Int} {Fz : pd_F} (hf : pfX7_shareOf sh n F x0 x1 x2 x3 = some Fz) : pd_C l yX7_shareOf (Cond.code yX7_shareOf cX7_shareOf 5 none :: pd_gt) (pd_rm 10 0 0) al 0 0 sh F [pd_R x0, pd_I x1, pd_I x2, pd_R x3] none sh Fz := by
  unfold pfX7_shareOf at hf
  refine pd_body (L := [pd_R x0, pd_I x1, pd_I x2, pd_R x3, pd_N]) (by decide +kernel) (Nat.le_of_ble_eq_true rfl) rfl (fun E => ?_)
  refine pd_iconst dX7_shareOf_0 (by decide) ?_
  refine pd_istore (L' := [pd_R x0, pd_I x1, pd_I x2, pd_R x3, pd_I 0]) dX7_shareOf_1 (by decide) rfl ?_
  exact pd_weak (L' := [pd_R x0, pd_I x1, pd_I x2, pd_R x3, pd_I 0]) ⟨Or.inr rfl, Or.inr rfl, Or.inr rfl, Or.inr rfl, Or.inr rfl, trivial⟩ (pkX7_shareOf_b3 E l n _ _ _ _ _ _ hf)
set_option maxHeartbeats 4000000 in
set_option maxRecDepth 100000 in
theorem pkX7_reckon_b35 (E : pd_E) (l : Launch) {al : Bool} {sh : pd_S} {n : Nat} {Fz : pd_F}  : ∀ (k : Nat) (F : pd_F) (x0 : Int) (x1 : Int) (x2 : Int) (x3 : Int), pfX7_reckon_b35 sh n  k F x0 x1 x2 x3 = some Fz → pd_V E l (pd_rm 11 0 0) (RX7, cX7_reckon, 5, none, "reckon") (pd_Qm E al none sh Fz 0 0) al 0 0 sh F 35 [pd_R x0, pd_R x1, pd_R x2, pd_I x3, pd_N] [] := by
  intro k
  induction k with
  | zero => intro F x0 x1 x2 x3 hf; exact absurd hf (by unfold pfX7_reckon_b35; exact fun h => nomatch h)
  | succ k ih =>
    intro F x0 x1 x2 x3 hf
    unfold pfX7_reckon_b35 at hf
    refine pd_iload_n (i := 3) dX7_reckon_35 rfl rfl ?_
    refine pd_aload_n (i := 1) dX7_reckon_36 rfl rfl ?_
    obtain ⟨hg1, hf⟩ := pd_ig hf
    refine pd_getN (x := pd_I (F x1 12)) 12 dX7_reckon_37 (show vwCl[0]? = some (RX0, TX0, 15) from rfl) pin_0 (by decide) pq_473 hg1 rfl ?_
    refine pd_icmp_ge (tgt := 89) dX7_reckon_40 (by decide) (fun hc => ?_) (fun hc => ?_)
    · have hf := pd_ip hf hc
      obtain h2 := pd_inj1 hf
      subst h2
      exact pd_vret dX7_reckon_89 rfl (Nat.le_refl 0) (Nat.le_refl 0)
    · have hf := pd_in_ hf hc
      refine pd_aload_n (i := 1) dX7_reckon_43 rfl rfl ?_
      refine pd_getN (x := pd_R (F x1 4)) 4 dX7_reckon_44 (show vwCl[0]? = some (RX0, TX0, 15) from rfl) pin_0 (by decide) pq_474 hg1 rfl ?_
      refine pd_iload_n (i := 3) dX7_reckon_47 rfl rfl ?_
      obtain ⟨hg2, hf⟩ := pd_ig hf
      refine pd_aald dX7_reckon_48 hg2 ?_
      refine pd_topR (fun x4_49 ex4_49 => ?_)
      have hf := pd_lt hf ex4_49
      clear ex4_49
      obtain ⟨hg3, hf⟩ := pd_ig hf
      refine pd_astore (L' := [pd_R x0, pd_R x1, pd_R x2, pd_I x3, pd_R x4_49]) dX7_reckon_49 (by decide) hg3 rfl ?_
      refine pd_aload_n (i := 1) dX7_reckon_51 rfl rfl ?_
      refine pd_aload (i := 4) dX7_reckon_52 rfl ?_
      obtain ⟨hg4, hf⟩ := pd_ig hf
      refine pd_getN (x := pd_I (F x4_49 0)) 0 dX7_reckon_54 (show vwCl[1]? = some (RX1, TX1, 4) from rfl) pin_1 (by decide) pq_475 hg4 rfl ?_
      refine pd_aload (i := 4) dX7_reckon_57 rfl ?_
      refine pd_getN (x := pd_I (F x4_49 1)) 1 dX7_reckon_59 (show vwCl[1]? = some (RX1, TX1, 4) from rfl) pin_1 (by decide) pq_476 hg4 rfl ?_
      refine pd_aload_n (i := 2) dX7_reckon_62 rfl rfl ?_
      refine pd_aload (i := 4) dX7_reckon_63 rfl ?_
      refine pd_getN (x := pd_I (F x4_49 0)) 0 dX7_reckon_65 (show vwCl[1]? = some (RX1, TX1, 4) from rfl) pin_1 (by decide) pq_475 hg4 rfl ?_
      obtain ⟨hg6, hf⟩ := pd_ig hf
      obtain ⟨r7, F5, hr, hf⟩ := pd_ob2 hf
      refine pd_callV (pkX8_balanceOf l hr) dX7_reckon_68 pq_477 pq_480 pq_481 (show vwCl[8]? = some (yX8_balanceOf.cls, TX8, 6) from rfl) hg6 (pd_okm (by omega) (by decide) pq_478 pq_479 (by decide) (show (parseMethodDescriptor yX8_balanceOf.desc).map (fun d => d.parameters.length) = some 1 from by decide +kernel)) (Nat.le_of_ble_eq_true rfl) rfl ?_
      refine pd_mmin dX7_reckon_71 pq_482 pq_63 pq_40 pq_64 pd_rmR (Nat.le_of_ble_eq_true rfl) ?_
      refine pd_aload_n (i := 0) dX7_reckon_74 rfl rfl ?_
      obtain ⟨hg8, hf⟩ := pd_ig hf
      refine pd_get (x := pd_R (F5 x0 1)) 1 dX7_reckon_75 (show vwCl[7]? = some (RX7, TX7, 2) from rfl) pin_7 (by decide) pq_483 hg8 rfl ?_
      refine pd_iload_n (i := 3) dX7_reckon_78 rfl rfl ?_
      obtain ⟨hg9, hf⟩ := pd_ig hf
      refine pd_aalI dX7_reckon_79 hg9 ?_
      obtain ⟨F10, hr, hf⟩ := pd_ob1 hf
      refine pd_callS (pkX7_shareOf l hr) dX7_reckon_80 pq_484 pq_487 (pd_okm (by omega) (by decide) pq_485 pq_486 (by decide) (show (parseMethodDescriptor yX7_shareOf.desc).map (fun d => d.parameters.length) = some 4 from by decide +kernel)) (Nat.le_of_ble_eq_true rfl) rfl ?_
      refine pd_iincN (L' := fun y => [pd_R x0, pd_R x1, pd_R x2, pd_I y, pd_R x4_49]) dX7_reckon_83 rfl (by decide) (by decide) (fun _ => rfl) (fun x3_83 ex3_83 => ?_)
      have hf := pd_lt hf ex3_83
      clear ex3_83
      refine pd_goto (tgt := 35) dX7_reckon_86 (by decide) ?_
      exact pd_weak (L' := [pd_R x0, pd_R x1, pd_R x2, pd_I x3_83, pd_N]) ⟨Or.inr rfl, Or.inr rfl, Or.inr rfl, Or.inr rfl, Or.inl rfl, trivial⟩ (ih _ _ _ _ _ hf)
set_option maxHeartbeats 4000000 in
set_option maxRecDepth 100000 in
theorem pkX7_reckon_b33 (E : pd_E) (l : Launch) {al : Bool} {sh : pd_S} {n : Nat} {Fz : pd_F}  (F : pd_F) (x0 : Int) (x1 : Int) (x2 : Int) (hf : pfX7_reckon_b33 sh n  F x0 x1 x2 = some Fz) : pd_V E l (pd_rm 11 0 0) (RX7, cX7_reckon, 5, none, "reckon") (pd_Qm E al none sh Fz 0 0) al 0 0 sh F 33 [pd_R x0, pd_R x1, pd_R x2, pd_N, pd_N] [] := by
  unfold pfX7_reckon_b33 at hf
  refine pd_iconst dX7_reckon_33 (by decide) ?_
  refine pd_istore_n (L' := [pd_R x0, pd_R x1, pd_R x2, pd_I 0, pd_N]) dX7_reckon_34 rfl (by decide) rfl ?_
  exact pd_weak (L' := [pd_R x0, pd_R x1, pd_R x2, pd_I 0, pd_N]) ⟨Or.inr rfl, Or.inr rfl, Or.inr rfl, Or.inr rfl, Or.inr rfl, trivial⟩ (pkX7_reckon_b35 E l n _ _ _ _ _ hf)
set_option maxHeartbeats 4000000 in
set_option maxRecDepth 100000 in
theorem pkX7_reckon_b2 (E : pd_E) (l : Launch) {al : Bool} {sh : pd_S} {n : Nat} {Fz : pd_F}  : ∀ (k : Nat) (F : pd_F) (x0 : Int) (x1 : Int) (x2 : Int) (x3 : Int), pfX7_reckon_b2 sh n  k F x0 x1 x2 x3 = some Fz → pd_V E l (pd_rm 11 0 0) (RX7, cX7_reckon, 5, none, "reckon") (pd_Qm E al none sh Fz 0 0) al 0 0 sh F 2 [pd_R x0, pd_R x1, pd_R x2, pd_I x3, pd_N] [] := by
  intro k
  induction k with
  | zero => intro F x0 x1 x2 x3 hf; exact absurd hf (by unfold pfX7_reckon_b2; exact fun h => nomatch h)
  | succ k ih =>
    intro F x0 x1 x2 x3 hf
    unfold pfX7_reckon_b2 at hf
    refine pd_iload_n (i := 3) dX7_reckon_2 rfl rfl ?_
    refine pd_aload_n (i := 1) dX7_reckon_3 rfl rfl ?_
    obtain ⟨hg11, hf⟩ := pd_ig hf
    refine pd_getN (x := pd_I (F x1 11)) 11 dX7_reckon_4 (show vwCl[0]? = some (RX0, TX0, 15) from rfl) pin_0 (by decide) pq_469 hg11 rfl ?_
    refine pd_icmp_ge (tgt := 33) dX7_reckon_7 (by decide) (fun hc => ?_) (fun hc => ?_)
    · have hf := pd_ip hf hc
      exact pd_weak (L' := [pd_R x0, pd_R x1, pd_R x2, pd_N, pd_N]) ⟨Or.inr rfl, Or.inr rfl, Or.inr rfl, Or.inl rfl, Or.inr rfl, trivial⟩ (pkX7_reckon_b33 E l _ _ _ _ hf)
    · have hf := pd_in_ hf hc
      refine pd_aload_n (i := 1) dX7_reckon_10 rfl rfl ?_
      refine pd_iload_n (i := 3) dX7_reckon_11 rfl rfl ?_
      refine pd_aload_n (i := 2) dX7_reckon_12 rfl rfl ?_
      obtain ⟨hg12, hf⟩ := pd_ig hf
      refine pd_getN (x := pd_R (F x2 0)) 0 dX7_reckon_13 (show vwCl[8]? = some (RX8, TX8, 6) from rfl) pin_8 (by decide) pq_488 hg12 rfl ?_
      refine pd_iload_n (i := 3) dX7_reckon_16 rfl rfl ?_
      obtain ⟨hg13, hf⟩ := pd_ig hf
      refine pd_iald dX7_reckon_17 hg13 ?_
      refine pd_aload_n (i := 0) dX7_reckon_18 rfl rfl ?_
      obtain ⟨hg14, hf⟩ := pd_ig hf
      refine pd_get (x := pd_R (F x0 0)) 0 dX7_reckon_19 (show vwCl[7]? = some (RX7, TX7, 2) from rfl) pin_7 (by decide) pq_489 hg14 rfl ?_
      refine pd_iload_n (i := 3) dX7_reckon_22 rfl rfl ?_
      obtain ⟨hg15, hf⟩ := pd_ig hf
      refine pd_aalI dX7_reckon_23 hg15 ?_
      obtain ⟨F16, hr, hf⟩ := pd_ob1 hf
      refine pd_callS (pkX7_shareOf l hr) dX7_reckon_24 pq_484 pq_487 (pd_okm (by omega) (by decide) pq_485 pq_486 (by decide) (show (parseMethodDescriptor yX7_shareOf.desc).map (fun d => d.parameters.length) = some 4 from by decide +kernel)) (Nat.le_of_ble_eq_true rfl) rfl ?_
      refine pd_iincN (L' := fun y => [pd_R x0, pd_R x1, pd_R x2, pd_I y, pd_N]) dX7_reckon_27 rfl (by decide) (by decide) (fun _ => rfl) (fun x3_27 ex3_27 => ?_)
      have hf := pd_lt hf ex3_27
      clear ex3_27
      refine pd_goto (tgt := 2) dX7_reckon_30 (by decide) ?_
      exact pd_weak (L' := [pd_R x0, pd_R x1, pd_R x2, pd_I x3_27, pd_N]) ⟨Or.inr rfl, Or.inr rfl, Or.inr rfl, Or.inr rfl, Or.inr rfl, trivial⟩ (ih _ _ _ _ _ hf)
set_option maxHeartbeats 4000000 in
set_option maxRecDepth 100000 in
theorem pkX7_reckon (l : Launch) {al : Bool} {sh : pd_S} {n : Nat} {F : pd_F} {x0 : Int} {x1 : Int} {x2 : Int} {Fz : pd_F} (hf : pfX7_reckon sh n F x0 x1 x2 = some Fz) : pd_C l yX7_reckon (Cond.code yX7_reckon cX7_reckon 5 none :: pd_gt) (pd_rm 11 0 0) al 0 0 sh F [pd_R x0, pd_R x1, pd_R x2] none sh Fz := by
  unfold pfX7_reckon at hf
  refine pd_body (L := [pd_R x0, pd_R x1, pd_R x2, pd_N, pd_N]) (by decide +kernel) (Nat.le_of_ble_eq_true rfl) rfl (fun E => ?_)
  refine pd_iconst dX7_reckon_0 (by decide) ?_
  refine pd_istore_n (L' := [pd_R x0, pd_R x1, pd_R x2, pd_I 0, pd_N]) dX7_reckon_1 rfl (by decide) rfl ?_
  exact pd_weak (L' := [pd_R x0, pd_R x1, pd_R x2, pd_I 0, pd_N]) ⟨Or.inr rfl, Or.inr rfl, Or.inr rfl, Or.inr rfl, Or.inr rfl, trivial⟩ (pkX7_reckon_b2 E l n _ _ _ _ _ hf)
set_option maxHeartbeats 4000000 in
set_option maxRecDepth 100000 in
theorem pkX10_holds (l : Launch) {al : Bool} {sh : pd_S} {n : Nat} {F : pd_F} {x0 : Int} {x1 : Int} {ρ : Int} {Fz : pd_F} (hf : pfX10_holds sh n F x0 x1 = some (ρ, Fz)) : pd_C l yX10_holds (Cond.code yX10_holds cX10_holds 2 (some .boolean) :: pd_gt) (pd_rm 1 0 0) al 0 0 sh F [pd_I x0, pd_I x1] (some (pd_I ρ)) sh Fz := by
  unfold pfX10_holds at hf
  refine pd_body (L := [pd_I x0, pd_I x1]) (by decide +kernel) (Nat.le_of_ble_eq_true rfl) rfl (fun E => ?_)
  refine pd_iload_n (i := 0) dX10_holds_0 rfl rfl ?_
  refine pd_iload_n (i := 1) dX10_holds_1 rfl rfl ?_
  refine pd_ishr dX10_holds_2 ?_
  refine pd_iconst dX10_holds_3 (by decide) ?_
  refine pd_iand dX10_holds_4 ?_
  refine pd_if_eq (tgt := 12) dX10_holds_5 (by decide) (fun hc => ?_) (fun hc => ?_)
  · have hf := pd_ip hf hc
    refine pd_iconst dX10_holds_12 (by decide) ?_
    obtain ⟨h1, h2⟩ := pd_inj hf
    subst h1 h2
    exact pd_zret dX10_holds_13 rfl (by decide) (Nat.le_refl 0) (Nat.le_refl 0)
  · have hf := pd_in_ hf hc
    refine pd_iconst dX10_holds_8 (by decide) ?_
    refine pd_goto (tgt := 13) dX10_holds_9 (by decide) ?_
    obtain ⟨h1, h2⟩ := pd_inj hf
    subst h1 h2
    exact pd_zret dX10_holds_13 rfl (by decide) (Nat.le_refl 0) (Nat.le_refl 0)
set_option maxHeartbeats 4000000 in
set_option maxRecDepth 100000 in
theorem pkX10_tie_b29 (E : pd_E) (l : Launch) {al : Bool} {sh : pd_S} {n : Nat} {Fz : pd_F} {c2 : pd_F → Int → Int → Int → Option pd_F} (hL2 : ∀ (F : pd_F) (x0 : Int) (x1 : Int) (x2 : Int), c2 F x0 x1 x2 = some Fz → pd_V E l (pd_rm 2 0 0) (RX10, cX10_tie, 3, none, "tie") (pd_Qm E al none sh Fz 0 0) al 0 0 sh F 2 [pd_R x0, pd_I x1, pd_I x2] []) (F : pd_F) (x0 : Int) (x1 : Int) (x2 : Int) (hf : pfX10_tie_b29 sh n c2 F x0 x1 x2 = some Fz) : pd_V E l (pd_rm 2 0 0) (RX10, cX10_tie, 3, none, "tie") (pd_Qm E al none sh Fz 0 0) al 0 0 sh F 29 [pd_R x0, pd_I x1, pd_I x2] [] := by
  unfold pfX10_tie_b29 at hf
  refine pd_iincN (L' := fun y => [pd_R x0, pd_I x1, pd_I y]) dX10_tie_29 rfl (by decide) (by decide) (fun _ => rfl) (fun x2_29 ex2_29 => ?_)
  have hf := pd_lt hf ex2_29
  clear ex2_29
  refine pd_goto (tgt := 2) dX10_tie_32 (by decide) ?_
  exact pd_weak (L' := [pd_R x0, pd_I x1, pd_I x2_29]) ⟨Or.inr rfl, Or.inr rfl, Or.inr rfl, trivial⟩ (hL2 _ _ _ _ hf)
set_option maxHeartbeats 4000000 in
set_option maxRecDepth 100000 in
theorem pkX10_tie_b2 (E : pd_E) (l : Launch) {al : Bool} {sh : pd_S} {n : Nat} {Fz : pd_F}  : ∀ (k : Nat) (F : pd_F) (x0 : Int) (x1 : Int) (x2 : Int), pfX10_tie_b2 sh n  k F x0 x1 x2 = some Fz → pd_V E l (pd_rm 2 0 0) (RX10, cX10_tie, 3, none, "tie") (pd_Qm E al none sh Fz 0 0) al 0 0 sh F 2 [pd_R x0, pd_I x1, pd_I x2] [] := by
  intro k
  induction k with
  | zero => intro F x0 x1 x2 hf; exact absurd hf (by unfold pfX10_tie_b2; exact fun h => nomatch h)
  | succ k ih =>
    intro F x0 x1 x2 hf
    unfold pfX10_tie_b2 at hf
    refine pd_iload_n (i := 2) dX10_tie_2 rfl rfl ?_
    refine pd_aload_n (i := 0) dX10_tie_3 rfl rfl ?_
    obtain ⟨hg1, hf⟩ := pd_ig hf
    refine pd_get (x := pd_R (F x0 0)) 0 dX10_tie_4 (show vwCl[10]? = some (RX10, TX10, 4) from rfl) pin_10 (by decide) pq_490 hg1 rfl ?_
    obtain ⟨hg2, hf⟩ := pd_ig hf
    refine pd_alen dX10_tie_7 (by decide) hg2 ?_
    refine pd_icmp_ge (tgt := 35) dX10_tie_8 (by decide) (fun hc => ?_) (fun hc => ?_)
    · have hf := pd_ip hf hc
      obtain h2 := pd_inj1 hf
      subst h2
      exact pd_vret dX10_tie_35 rfl (Nat.le_refl 0) (Nat.le_refl 0)
    · have hf := pd_in_ hf hc
      refine pd_iload_n (i := 1) dX10_tie_11 rfl rfl ?_
      refine pd_iload_n (i := 2) dX10_tie_12 rfl rfl ?_
      obtain ⟨r4, F3, hr, hf⟩ := pd_ob2 hf
      refine pd_callS (pkX10_holds l hr) dX10_tie_13 pq_491 pq_494 (pd_okm (by omega) (by decide) pq_492 pq_493 (by decide) (show (parseMethodDescriptor yX10_holds.desc).map (fun d => d.parameters.length) = some 2 from by decide +kernel)) (Nat.le_of_ble_eq_true rfl) rfl ?_
      refine pd_if_eq (tgt := 29) dX10_tie_16 (by decide) (fun hc => ?_) (fun hc => ?_)
      · have hf := pd_ip hf hc
        exact pd_weak (L' := [pd_R x0, pd_I x1, pd_I x2]) ⟨Or.inr rfl, Or.inr rfl, Or.inr rfl, trivial⟩ (pkX10_tie_b29 E l ih _ _ _ _ hf)
      · have hf := pd_in_ hf hc
        refine pd_aload_n (i := 0) dX10_tie_19 rfl rfl ?_
        refine pd_get (x := pd_R (F3 x0 0)) 0 dX10_tie_20 (show vwCl[10]? = some (RX10, TX10, 4) from rfl) pin_10 (by decide) pq_490 hg1 rfl ?_
        refine pd_iload_n (i := 2) dX10_tie_23 rfl rfl ?_
        refine pd_dup2 dX10_tie_24 rfl rfl ?_
        obtain ⟨hg5, hf⟩ := pd_ig hf
        refine pd_iald dX10_tie_25 hg5 ?_
        refine pd_iload_n (i := 1) dX10_tie_26 rfl rfl ?_
        refine pd_ior dX10_tie_27 ?_
        refine pd_iast dX10_tie_28 hg5 ?_
        refine pd_topF (fun F6 eF6 => ?_)
        have hf := pd_lt hf eF6
        clear eF6
        exact pd_weak (L' := [pd_R x0, pd_I x1, pd_I x2]) ⟨Or.inr rfl, Or.inr rfl, Or.inr rfl, trivial⟩ (pkX10_tie_b29 E l ih _ _ _ _ hf)
set_option maxHeartbeats 4000000 in
set_option maxRecDepth 100000 in
theorem pkX10_tie (l : Launch) {al : Bool} {sh : pd_S} {n : Nat} {F : pd_F} {x0 : Int} {x1 : Int} {Fz : pd_F} (hf : pfX10_tie sh n F x0 x1 = some Fz) : pd_C l yX10_tie (Cond.code yX10_tie cX10_tie 3 none :: pd_gt) (pd_rm 2 0 0) al 0 0 sh F [pd_R x0, pd_I x1] none sh Fz := by
  unfold pfX10_tie at hf
  refine pd_body (L := [pd_R x0, pd_I x1, pd_N]) (by decide +kernel) (Nat.le_of_ble_eq_true rfl) rfl (fun E => ?_)
  refine pd_iconst dX10_tie_0 (by decide) ?_
  refine pd_istore_n (L' := [pd_R x0, pd_I x1, pd_I 0]) dX10_tie_1 rfl (by decide) rfl ?_
  exact pd_weak (L' := [pd_R x0, pd_I x1, pd_I 0]) ⟨Or.inr rfl, Or.inr rfl, Or.inr rfl, trivial⟩ (pkX10_tie_b2 E l n _ _ _ _ hf)
set_option maxHeartbeats 4000000 in
set_option maxRecDepth 100000 in
theorem pkX10_oneStepFrom_b30 (E : pd_E) (l : Launch) {al : Bool} {sh : pd_S} {n : Nat} {ρ : Int} {Fz : pd_F} {c4 : pd_F → Int → Int → Int → Int → Option (Int × pd_F)} (hL4 : ∀ (F : pd_F) (x0 : Int) (x1 : Int) (x2 : Int) (x3 : Int), c4 F x0 x1 x2 x3 = some (ρ, Fz) → pd_V E l (pd_rm 2 0 0) (RX10, cX10_oneStepFrom, 4, (some .int), "oneStepFrom") (pd_Qm E al (some (pd_I ρ)) sh Fz 0 0) al 0 0 sh F 4 [pd_R x0, pd_I x1, pd_I x2, pd_I x3] []) (F : pd_F) (x0 : Int) (x1 : Int) (x2 : Int) (x3 : Int) (hf : pfX10_oneStepFrom_b30 sh n c4 F x0 x1 x2 x3 = some (ρ, Fz)) : pd_V E l (pd_rm 2 0 0) (RX10, cX10_oneStepFrom, 4, (some .int), "oneStepFrom") (pd_Qm E al (some (pd_I ρ)) sh Fz 0 0) al 0 0 sh F 30 [pd_R x0, pd_I x1, pd_I x2, pd_I x3] [] := by
  unfold pfX10_oneStepFrom_b30 at hf
  refine pd_iincN (L' := fun y => [pd_R x0, pd_I x1, pd_I x2, pd_I y]) dX10_oneStepFrom_30 rfl (by decide) (by decide) (fun _ => rfl) (fun x3_30 ex3_30 => ?_)
  have hf := pd_lt hf ex3_30
  clear ex3_30
  refine pd_goto (tgt := 4) dX10_oneStepFrom_33 (by decide) ?_
  exact pd_weak (L' := [pd_R x0, pd_I x1, pd_I x2, pd_I x3_30]) ⟨Or.inr rfl, Or.inr rfl, Or.inr rfl, Or.inr rfl, trivial⟩ (hL4 _ _ _ _ _ hf)
set_option maxHeartbeats 4000000 in
set_option maxRecDepth 100000 in
theorem pkX10_oneStepFrom_b4 (E : pd_E) (l : Launch) {al : Bool} {sh : pd_S} {n : Nat} {ρ : Int} {Fz : pd_F}  : ∀ (k : Nat) (F : pd_F) (x0 : Int) (x1 : Int) (x2 : Int) (x3 : Int), pfX10_oneStepFrom_b4 sh n  k F x0 x1 x2 x3 = some (ρ, Fz) → pd_V E l (pd_rm 2 0 0) (RX10, cX10_oneStepFrom, 4, (some .int), "oneStepFrom") (pd_Qm E al (some (pd_I ρ)) sh Fz 0 0) al 0 0 sh F 4 [pd_R x0, pd_I x1, pd_I x2, pd_I x3] [] := by
  intro k
  induction k with
  | zero => intro F x0 x1 x2 x3 hf; exact absurd hf (by unfold pfX10_oneStepFrom_b4; exact fun h => nomatch h)
  | succ k ih =>
    intro F x0 x1 x2 x3 hf
    unfold pfX10_oneStepFrom_b4 at hf
    refine pd_iload_n (i := 3) dX10_oneStepFrom_4 rfl rfl ?_
    refine pd_aload_n (i := 0) dX10_oneStepFrom_5 rfl rfl ?_
    obtain ⟨hg1, hf⟩ := pd_ig hf
    refine pd_get (x := pd_R (F x0 0)) 0 dX10_oneStepFrom_6 (show vwCl[10]? = some (RX10, TX10, 4) from rfl) pin_10 (by decide) pq_490 hg1 rfl ?_
    obtain ⟨hg2, hf⟩ := pd_ig hf
    refine pd_alen dX10_oneStepFrom_9 (by decide) hg2 ?_
    refine pd_icmp_ge (tgt := 36) dX10_oneStepFrom_10 (by decide) (fun hc => ?_) (fun hc => ?_)
    · have hf := pd_ip hf hc
      refine pd_iload_n (i := 2) dX10_oneStepFrom_36 rfl rfl ?_
      obtain ⟨h1, h2⟩ := pd_inj hf
      subst h1 h2
      exact pd_iret dX10_oneStepFrom_37 rfl (Nat.le_refl 0) (Nat.le_refl 0)
    · have hf := pd_in_ hf hc
      refine pd_iload_n (i := 1) dX10_oneStepFrom_13 rfl rfl ?_
      refine pd_iload_n (i := 3) dX10_oneStepFrom_14 rfl rfl ?_
      obtain ⟨r4, F3, hr, hf⟩ := pd_ob2 hf
      refine pd_callS (pkX10_holds l hr) dX10_oneStepFrom_15 pq_491 pq_494 (pd_okm (by omega) (by decide) pq_492 pq_493 (by decide) (show (parseMethodDescriptor yX10_holds.desc).map (fun d => d.parameters.length) = some 2 from by decide +kernel)) (Nat.le_of_ble_eq_true rfl) rfl ?_
      refine pd_if_eq (tgt := 30) dX10_oneStepFrom_18 (by decide) (fun hc => ?_) (fun hc => ?_)
      · have hf := pd_ip hf hc
        exact pd_weak (L' := [pd_R x0, pd_I x1, pd_I x2, pd_I x3]) ⟨Or.inr rfl, Or.inr rfl, Or.inr rfl, Or.inr rfl, trivial⟩ (pkX10_oneStepFrom_b30 E l ih _ _ _ _ _ hf)
      · have hf := pd_in_ hf hc
        refine pd_iload_n (i := 2) dX10_oneStepFrom_21 rfl rfl ?_
        refine pd_aload_n (i := 0) dX10_oneStepFrom_22 rfl rfl ?_
        refine pd_get (x := pd_R (F3 x0 0)) 0 dX10_oneStepFrom_23 (show vwCl[10]? = some (RX10, TX10, 4) from rfl) pin_10 (by decide) pq_490 hg1 rfl ?_
        refine pd_iload_n (i := 3) dX10_oneStepFrom_26 rfl rfl ?_
        obtain ⟨hg5, hf⟩ := pd_ig hf
        refine pd_iald dX10_oneStepFrom_27 hg5 ?_
        refine pd_ior dX10_oneStepFrom_28 ?_
        refine pd_topI (fun x2_29 ex2_29 => ?_)
        have hf := pd_lt hf ex2_29
        clear ex2_29
        refine pd_istore_n (L' := [pd_R x0, pd_I x1, pd_I x2_29, pd_I x3]) dX10_oneStepFrom_29 rfl (by decide) rfl ?_
        exact pd_weak (L' := [pd_R x0, pd_I x1, pd_I x2_29, pd_I x3]) ⟨Or.inr rfl, Or.inr rfl, Or.inr rfl, Or.inr rfl, trivial⟩ (pkX10_oneStepFrom_b30 E l ih _ _ _ _ _ hf)
set_option maxHeartbeats 4000000 in
set_option maxRecDepth 100000 in
theorem pkX10_oneStepFrom (l : Launch) {al : Bool} {sh : pd_S} {n : Nat} {F : pd_F} {x0 : Int} {x1 : Int} {ρ : Int} {Fz : pd_F} (hf : pfX10_oneStepFrom sh n F x0 x1 = some (ρ, Fz)) : pd_C l yX10_oneStepFrom (Cond.code yX10_oneStepFrom cX10_oneStepFrom 4 (some .int) :: pd_gt) (pd_rm 2 0 0) al 0 0 sh F [pd_R x0, pd_I x1] (some (pd_I ρ)) sh Fz := by
  unfold pfX10_oneStepFrom at hf
  refine pd_body (L := [pd_R x0, pd_I x1, pd_N, pd_N]) (by decide +kernel) (Nat.le_of_ble_eq_true rfl) rfl (fun E => ?_)
  refine pd_iload_n (i := 1) dX10_oneStepFrom_0 rfl rfl ?_
  refine pd_istore_n (L' := [pd_R x0, pd_I x1, pd_I x1, pd_N]) dX10_oneStepFrom_1 rfl (by decide) rfl ?_
  refine pd_iconst dX10_oneStepFrom_2 (by decide) ?_
  refine pd_istore_n (L' := [pd_R x0, pd_I x1, pd_I x1, pd_I 0]) dX10_oneStepFrom_3 rfl (by decide) rfl ?_
  exact pd_weak (L' := [pd_R x0, pd_I x1, pd_I x1, pd_I 0]) ⟨Or.inr rfl, Or.inr rfl, Or.inr rfl, Or.inr rfl, trivial⟩ (pkX10_oneStepFrom_b4 E l n _ _ _ _ _ hf)
set_option maxHeartbeats 4000000 in
set_option maxRecDepth 100000 in
theorem pkX10_giveNumber_b26 (E : pd_E) (l : Launch) {al : Bool} {sh : pd_S} {n : Nat} {Fz : pd_F} {c2 : pd_F → Int → Int → Int → Int → Option pd_F} (hL2 : ∀ (F : pd_F) (x0 : Int) (x1 : Int) (x2 : Int) (x3 : Int), c2 F x0 x1 x2 x3 = some Fz → pd_V E l (pd_rm 2 0 0) (RX10, cX10_giveNumber, 4, none, "giveNumber") (pd_Qm E al none sh Fz 0 0) al 0 0 sh F 2 [pd_R x0, pd_I x1, pd_I x2, pd_I x3] []) (F : pd_F) (x0 : Int) (x1 : Int) (x2 : Int) (x3 : Int) (hf : pfX10_giveNumber_b26 sh n c2 F x0 x1 x2 x3 = some Fz) : pd_V E l (pd_rm 2 0 0) (RX10, cX10_giveNumber, 4, none, "giveNumber") (pd_Qm E al none sh Fz 0 0) al 0 0 sh F 26 [pd_R x0, pd_I x1, pd_I x2, pd_I x3] [] := by
  unfold pfX10_giveNumber_b26 at hf
  refine pd_iincN (L' := fun y => [pd_R x0, pd_I x1, pd_I x2, pd_I y]) dX10_giveNumber_26 rfl (by decide) (by decide) (fun _ => rfl) (fun x3_26 ex3_26 => ?_)
  have hf := pd_lt hf ex3_26
  clear ex3_26
  refine pd_goto (tgt := 2) dX10_giveNumber_29 (by decide) ?_
  exact pd_weak (L' := [pd_R x0, pd_I x1, pd_I x2, pd_I x3_26]) ⟨Or.inr rfl, Or.inr rfl, Or.inr rfl, Or.inr rfl, trivial⟩ (hL2 _ _ _ _ _ hf)
set_option maxHeartbeats 4000000 in
set_option maxRecDepth 100000 in
theorem pkX10_giveNumber_b2 (E : pd_E) (l : Launch) {al : Bool} {sh : pd_S} {n : Nat} {Fz : pd_F}  : ∀ (k : Nat) (F : pd_F) (x0 : Int) (x1 : Int) (x2 : Int) (x3 : Int), pfX10_giveNumber_b2 sh n  k F x0 x1 x2 x3 = some Fz → pd_V E l (pd_rm 2 0 0) (RX10, cX10_giveNumber, 4, none, "giveNumber") (pd_Qm E al none sh Fz 0 0) al 0 0 sh F 2 [pd_R x0, pd_I x1, pd_I x2, pd_I x3] [] := by
  intro k
  induction k with
  | zero => intro F x0 x1 x2 x3 hf; exact absurd hf (by unfold pfX10_giveNumber_b2; exact fun h => nomatch h)
  | succ k ih =>
    intro F x0 x1 x2 x3 hf
    unfold pfX10_giveNumber_b2 at hf
    refine pd_iload_n (i := 3) dX10_giveNumber_2 rfl rfl ?_
    refine pd_aload_n (i := 0) dX10_giveNumber_3 rfl rfl ?_
    obtain ⟨hg1, hf⟩ := pd_ig hf
    refine pd_get (x := pd_R (F x0 1)) 1 dX10_giveNumber_4 (show vwCl[10]? = some (RX10, TX10, 4) from rfl) pin_10 (by decide) pq_495 hg1 rfl ?_
    obtain ⟨hg2, hf⟩ := pd_ig hf
    refine pd_alen dX10_giveNumber_7 (by decide) hg2 ?_
    refine pd_icmp_ge (tgt := 32) dX10_giveNumber_8 (by decide) (fun hc => ?_) (fun hc => ?_)
    · have hf := pd_ip hf hc
      obtain h2 := pd_inj1 hf
      subst h2
      exact pd_vret dX10_giveNumber_32 rfl (Nat.le_refl 0) (Nat.le_refl 0)
    · have hf := pd_in_ hf hc
      refine pd_iload_n (i := 1) dX10_giveNumber_11 rfl rfl ?_
      refine pd_iload_n (i := 3) dX10_giveNumber_12 rfl rfl ?_
      obtain ⟨r4, F3, hr, hf⟩ := pd_ob2 hf
      refine pd_callS (pkX10_holds l hr) dX10_giveNumber_13 pq_491 pq_494 (pd_okm (by omega) (by decide) pq_492 pq_493 (by decide) (show (parseMethodDescriptor yX10_holds.desc).map (fun d => d.parameters.length) = some 2 from by decide +kernel)) (Nat.le_of_ble_eq_true rfl) rfl ?_
      refine pd_if_eq (tgt := 26) dX10_giveNumber_16 (by decide) (fun hc => ?_) (fun hc => ?_)
      · have hf := pd_ip hf hc
        exact pd_weak (L' := [pd_R x0, pd_I x1, pd_I x2, pd_I x3]) ⟨Or.inr rfl, Or.inr rfl, Or.inr rfl, Or.inr rfl, trivial⟩ (pkX10_giveNumber_b26 E l ih _ _ _ _ _ hf)
      · have hf := pd_in_ hf hc
        refine pd_aload_n (i := 0) dX10_giveNumber_19 rfl rfl ?_
        refine pd_get (x := pd_R (F3 x0 1)) 1 dX10_giveNumber_20 (show vwCl[10]? = some (RX10, TX10, 4) from rfl) pin_10 (by decide) pq_495 hg1 rfl ?_
        refine pd_iload_n (i := 3) dX10_giveNumber_23 rfl rfl ?_
        refine pd_iload_n (i := 2) dX10_giveNumber_24 rfl rfl ?_
        obtain ⟨hg5, hf⟩ := pd_ig hf
        refine pd_iast dX10_giveNumber_25 hg5 ?_
        refine pd_topF (fun F6 eF6 => ?_)
        have hf := pd_lt hf eF6
        clear eF6
        exact pd_weak (L' := [pd_R x0, pd_I x1, pd_I x2, pd_I x3]) ⟨Or.inr rfl, Or.inr rfl, Or.inr rfl, Or.inr rfl, trivial⟩ (pkX10_giveNumber_b26 E l ih _ _ _ _ _ hf)
set_option maxHeartbeats 4000000 in
set_option maxRecDepth 100000 in
theorem pkX10_giveNumber (l : Launch) {al : Bool} {sh : pd_S} {n : Nat} {F : pd_F} {x0 : Int} {x1 : Int} {x2 : Int} {Fz : pd_F} (hf : pfX10_giveNumber sh n F x0 x1 x2 = some Fz) : pd_C l yX10_giveNumber (Cond.code yX10_giveNumber cX10_giveNumber 4 none :: pd_gt) (pd_rm 2 0 0) al 0 0 sh F [pd_R x0, pd_I x1, pd_I x2] none sh Fz := by
  unfold pfX10_giveNumber at hf
  refine pd_body (L := [pd_R x0, pd_I x1, pd_I x2, pd_N]) (by decide +kernel) (Nat.le_of_ble_eq_true rfl) rfl (fun E => ?_)
  refine pd_iconst dX10_giveNumber_0 (by decide) ?_
  refine pd_istore_n (L' := [pd_R x0, pd_I x1, pd_I x2, pd_I 0]) dX10_giveNumber_1 rfl (by decide) rfl ?_
  exact pd_weak (L' := [pd_R x0, pd_I x1, pd_I x2, pd_I 0]) ⟨Or.inr rfl, Or.inr rfl, Or.inr rfl, Or.inr rfl, trivial⟩ (pkX10_giveNumber_b2 E l n _ _ _ _ _ hf)
set_option maxHeartbeats 4000000 in
set_option maxRecDepth 100000 in
theorem pkX10_allOneWith_b6 (E : pd_E) (l : Launch) {al : Bool} {sh : pd_S} {n : Nat} {ρ : Int} {Fz : pd_F}  : ∀ (k : Nat) (F : pd_F) (x0 : Int) (x2 : Int) (x3 : Int), pfX10_allOneWith_b6 sh n  k F x0 x2 x3 = some (ρ, Fz) → pd_V E l (pd_rm 3 0 0) (RX10, cX10_allOneWith, 5, (some .int), "allOneWith") (pd_Qm E al (some (pd_I ρ)) sh Fz 0 0) al 0 0 sh F 6 [pd_R x0, pd_N, pd_I x2, pd_I x3, pd_N] [] := by
  intro k
  induction k with
  | zero => intro F x0 x2 x3 hf; exact absurd hf (by unfold pfX10_allOneWith_b6; exact fun h => nomatch h)
  | succ k ih =>
    intro F x0 x2 x3 hf
    unfold pfX10_allOneWith_b6 at hf
    refine pd_iload_n (i := 3) dX10_allOneWith_6 rfl rfl ?_
    refine pd_aload_n (i := 0) dX10_allOneWith_7 rfl rfl ?_
    obtain ⟨hg1, hf⟩ := pd_ig hf
    refine pd_get (x := pd_R (F x0 0)) 0 dX10_allOneWith_8 (show vwCl[10]? = some (RX10, TX10, 4) from rfl) pin_10 (by decide) pq_490 hg1 rfl ?_
    obtain ⟨hg2, hf⟩ := pd_ig hf
    refine pd_alen dX10_allOneWith_11 (by decide) hg2 ?_
    refine pd_icmp_ge (tgt := 39) dX10_allOneWith_12 (by decide) (fun hc => ?_) (fun hc => ?_)
    · have hf := pd_ip hf hc
      refine pd_iload_n (i := 2) dX10_allOneWith_39 rfl rfl ?_
      obtain ⟨h1, h2⟩ := pd_inj hf
      subst h1 h2
      exact pd_iret dX10_allOneWith_40 rfl (Nat.le_refl 0) (Nat.le_refl 0)
    · have hf := pd_in_ hf hc
      refine pd_aload_n (i := 0) dX10_allOneWith_15 rfl rfl ?_
      refine pd_iload_n (i := 2) dX10_allOneWith_16 rfl rfl ?_
      obtain ⟨r4, F3, hr, hf⟩ := pd_ob2 hf
      refine pd_callV (pkX10_oneStepFrom l hr) dX10_allOneWith_17 pq_496 pq_499 pq_500 (show vwCl[10]? = some (yX10_oneStepFrom.cls, TX10, 4) from rfl) hg1 (pd_okm (by omega) (by decide) pq_497 pq_498 (by decide) (show (parseMethodDescriptor yX10_oneStepFrom.desc).map (fun d => d.parameters.length) = some 1 from by decide +kernel)) (Nat.le_of_ble_eq_true rfl) rfl ?_
      refine pd_istore (L' := [pd_R x0, pd_N, pd_I x2, pd_I x3, pd_I r4]) dX10_allOneWith_20 (by decide) rfl ?_
      refine pd_iload (i := 4) dX10_allOneWith_22 rfl ?_
      refine pd_iload_n (i := 2) dX10_allOneWith_24 rfl rfl ?_
      refine pd_icmp_ne (tgt := 30) dX10_allOneWith_25 (by decide) (fun hc => ?_) (fun hc => ?_)
      · have hf := pd_ip hf hc
        refine pd_iload (i := 4) dX10_allOneWith_30 rfl ?_
        refine pd_istore_n (L' := [pd_R x0, pd_N, pd_I r4, pd_I x3, pd_I r4]) dX10_allOneWith_32 rfl (by decide) rfl ?_
        refine pd_iincN (L' := fun y => [pd_R x0, pd_N, pd_I r4, pd_I y, pd_I r4]) dX10_allOneWith_33 rfl (by decide) (by decide) (fun _ => rfl) (fun x3_33 ex3_33 => ?_)
        have hf := pd_lt hf ex3_33
        clear ex3_33
        refine pd_goto (tgt := 6) dX10_allOneWith_36 (by decide) ?_
        exact pd_weak (L' := [pd_R x0, pd_N, pd_I r4, pd_I x3_33, pd_N]) ⟨Or.inr rfl, Or.inr rfl, Or.inr rfl, Or.inr rfl, Or.inl rfl, trivial⟩ (ih _ _ _ _ hf)
      · have hf := pd_iq hf hc
        refine pd_iload_n (i := 2) dX10_allOneWith_28 rfl rfl ?_
        obtain ⟨h1, h2⟩ := pd_inj hf
        subst h1 h2
        exact pd_iret dX10_allOneWith_29 rfl (Nat.le_refl 0) (Nat.le_refl 0)
set_option maxHeartbeats 4000000 in
set_option maxRecDepth 100000 in
theorem pkX10_allOneWith (l : Launch) {al : Bool} {sh : pd_S} {n : Nat} {F : pd_F} {x0 : Int} {x1 : Int} {ρ : Int} {Fz : pd_F} (hf : pfX10_allOneWith sh n F x0 x1 = some (ρ, Fz)) : pd_C l yX10_allOneWith (Cond.code yX10_allOneWith cX10_allOneWith 5 (some .int) :: pd_gt) (pd_rm 3 0 0) al 0 0 sh F [pd_R x0, pd_I x1] (some (pd_I ρ)) sh Fz := by
  unfold pfX10_allOneWith at hf
  refine pd_body (L := [pd_R x0, pd_I x1, pd_N, pd_N, pd_N]) (by decide +kernel) (Nat.le_of_ble_eq_true rfl) rfl (fun E => ?_)
  refine pd_iconst dX10_allOneWith_0 (by decide) ?_
  refine pd_iload_n (i := 1) dX10_allOneWith_1 rfl rfl ?_
  refine pd_ishl dX10_allOneWith_2 ?_
  refine pd_topI (fun x2_3 ex2_3 => ?_)
  have hf := pd_lt hf ex2_3
  clear ex2_3
  refine pd_istore_n (L' := [pd_R x0, pd_I x1, pd_I x2_3, pd_N, pd_N]) dX10_allOneWith_3 rfl (by decide) rfl ?_
  refine pd_iconst dX10_allOneWith_4 (by decide) ?_
  refine pd_istore_n (L' := [pd_R x0, pd_I x1, pd_I x2_3, pd_I 0, pd_N]) dX10_allOneWith_5 rfl (by decide) rfl ?_
  exact pd_weak (L' := [pd_R x0, pd_N, pd_I x2_3, pd_I 0, pd_N]) ⟨Or.inr rfl, Or.inl rfl, Or.inr rfl, Or.inr rfl, Or.inr rfl, trivial⟩ (pkX10_allOneWith_b6 E l n _ _ _ _ hf)
set_option maxHeartbeats 4000000 in
set_option maxRecDepth 100000 in
theorem pkX10_numberDepositors_b77 (E : pd_E) (l : Launch) {al : Bool} {sh : pd_S} {n : Nat} {Fz : pd_F} {c9 : pd_F → Int → Int → Int → Int → Option pd_F} (hL9 : ∀ (F : pd_F) (x0 : Int) (x1 : Int) (x2 : Int) (x3 : Int), c9 F x0 x1 x2 x3 = some Fz → pd_V E l (pd_rm 4 0 0) (RX10, cX10_numberDepositors, 5, none, "numberDepositors") (pd_Qm E al none sh Fz 0 0) al 0 0 sh F 9 [pd_R x0, pd_I x1, pd_I x2, pd_I x3, pd_N] []) (F : pd_F) (x0 : Int) (x1 : Int) (x2 : Int) (x3 : Int) (hf : pfX10_numberDepositors_b77 sh n c9 F x0 x1 x2 x3 = some Fz) : pd_V E l (pd_rm 4 0 0) (RX10, cX10_numberDepositors, 5, none, "numberDepositors") (pd_Qm E al none sh Fz 0 0) al 0 0 sh F 77 [pd_R x0, pd_I x1, pd_I x2, pd_I x3, pd_N] [] := by
  unfold pfX10_numberDepositors_b77 at hf
  refine pd_iincN (L' := fun y => [pd_R x0, pd_I x1, pd_I x2, pd_I y, pd_N]) dX10_numberDepositors_77 rfl (by decide) (by decide) (fun _ => rfl) (fun x3_77 ex3_77 => ?_)
  have hf := pd_lt hf ex3_77
  clear ex3_77
  refine pd_goto (tgt := 9) dX10_numberDepositors_80 (by decide) ?_
  exact pd_weak (L' := [pd_R x0, pd_I x1, pd_I x2, pd_I x3_77, pd_N]) ⟨Or.inr rfl, Or.inr rfl, Or.inr rfl, Or.inr rfl, Or.inr rfl, trivial⟩ (hL9 _ _ _ _ _ hf)
set_option maxHeartbeats 4000000 in
set_option maxRecDepth 100000 in
theorem pkX10_numberDepositors_b9 (E : pd_E) (l : Launch) {al : Bool} {sh : pd_S} {n : Nat} {Fz : pd_F}  : ∀ (k : Nat) (F : pd_F) (x0 : Int) (x1 : Int) (x2 : Int) (x3 : Int), pfX10_numberDepositors_b9 sh n  k F x0 x1 x2 x3 = some Fz → pd_V E l (pd_rm 4 0 0) (RX10, cX10_numberDepositors, 5, none, "numberDepositors") (pd_Qm E al none sh Fz 0 0) al 0 0 sh F 9 [pd_R x0, pd_I x1, pd_I x2, pd_I x3, pd_N] [] := by
  intro k
  induction k with
  | zero => intro F x0 x1 x2 x3 hf; exact absurd hf (by unfold pfX10_numberDepositors_b9; exact fun h => nomatch h)
  | succ k ih =>
    intro F x0 x1 x2 x3 hf
    unfold pfX10_numberDepositors_b9 at hf
    refine pd_iload_n (i := 3) dX10_numberDepositors_9 rfl rfl ?_
    refine pd_iload_n (i := 1) dX10_numberDepositors_10 rfl rfl ?_
    refine pd_icmp_ge (tgt := 83) dX10_numberDepositors_11 (by decide) (fun hc => ?_) (fun hc => ?_)
    · have hf := pd_ip hf hc
      obtain h2 := pd_inj1 hf
      subst h2
      exact pd_vret dX10_numberDepositors_83 rfl (Nat.le_refl 0) (Nat.le_refl 0)
    · have hf := pd_in_ hf hc
      refine pd_aload_n (i := 0) dX10_numberDepositors_14 rfl rfl ?_
      obtain ⟨hg1, hf⟩ := pd_ig hf
      refine pd_get (x := pd_I (F x0 3)) 3 dX10_numberDepositors_15 (show vwCl[10]? = some (RX10, TX10, 4) from rfl) pin_10 (by decide) pq_501 hg1 rfl ?_
      refine pd_aload_n (i := 0) dX10_numberDepositors_18 rfl rfl ?_
      refine pd_get (x := pd_R (F x0 2)) 2 dX10_numberDepositors_19 (show vwCl[10]? = some (RX10, TX10, 4) from rfl) pin_10 (by decide) pq_502 hg1 rfl ?_
      obtain ⟨hg2, hf⟩ := pd_ig hf
      refine pd_alen dX10_numberDepositors_22 (by decide) hg2 ?_
      refine pd_icmp_ge (tgt := 83) dX10_numberDepositors_23 (by decide) (fun hc => ?_) (fun hc => ?_)
      · have hf := pd_ip hf hc
        obtain h2 := pd_inj1 hf
        subst h2
        exact pd_vret dX10_numberDepositors_83 rfl (Nat.le_refl 0) (Nat.le_refl 0)
      · have hf := pd_in_ hf hc
        refine pd_iload_n (i := 2) dX10_numberDepositors_26 rfl rfl ?_
        refine pd_iload_n (i := 3) dX10_numberDepositors_27 rfl rfl ?_
        obtain ⟨r4, F3, hr, hf⟩ := pd_ob2 hf
        refine pd_callS (pkX10_holds l hr) dX10_numberDepositors_28 pq_491 pq_494 (pd_okm (by omega) (by decide) pq_492 pq_493 (by decide) (show (parseMethodDescriptor yX10_holds.desc).map (fun d => d.parameters.length) = some 2 from by decide +kernel)) (Nat.le_of_ble_eq_true rfl) rfl ?_
        refine pd_if_ne (tgt := 77) dX10_numberDepositors_31 (by decide) (fun hc => ?_) (fun hc => ?_)
        · have hf := pd_ip hf hc
          exact pd_weak (L' := [pd_R x0, pd_I x1, pd_I x2, pd_I x3, pd_N]) ⟨Or.inr rfl, Or.inr rfl, Or.inr rfl, Or.inr rfl, Or.inr rfl, trivial⟩ (pkX10_numberDepositors_b77 E l ih _ _ _ _ _ hf)
        · have hf := pd_iq hf hc
          refine pd_aload_n (i := 0) dX10_numberDepositors_34 rfl rfl ?_
          refine pd_iload_n (i := 3) dX10_numberDepositors_35 rfl rfl ?_
          obtain ⟨r6, F5, hr, hf⟩ := pd_ob2 hf
          refine pd_callV (pkX10_allOneWith l hr) dX10_numberDepositors_36 pq_503 pq_506 pq_507 (show vwCl[10]? = some (yX10_allOneWith.cls, TX10, 4) from rfl) hg1 (pd_okm (by omega) (by decide) pq_504 pq_505 (by decide) (show (parseMethodDescriptor yX10_allOneWith.desc).map (fun d => d.parameters.length) = some 1 from by decide +kernel)) (Nat.le_of_ble_eq_true rfl) rfl ?_
          refine pd_istore (L' := [pd_R x0, pd_I x1, pd_I x2, pd_I x3, pd_I r6]) dX10_numberDepositors_39 (by decide) rfl ?_
          refine pd_aload_n (i := 0) dX10_numberDepositors_41 rfl rfl ?_
          refine pd_get (x := pd_R (F5 x0 2)) 2 dX10_numberDepositors_42 (show vwCl[10]? = some (RX10, TX10, 4) from rfl) pin_10 (by decide) pq_502 hg1 rfl ?_
          refine pd_aload_n (i := 0) dX10_numberDepositors_45 rfl rfl ?_
          refine pd_get (x := pd_I (F5 x0 3)) 3 dX10_numberDepositors_46 (show vwCl[10]? = some (RX10, TX10, 4) from rfl) pin_10 (by decide) pq_501 hg1 rfl ?_
          refine pd_iload (i := 4) dX10_numberDepositors_49 rfl ?_
          obtain ⟨hg7, hf⟩ := pd_ig hf
          refine pd_iast dX10_numberDepositors_51 hg7 ?_
          refine pd_topF (fun F8 eF8 => ?_)
          have hf := pd_lt hf eF8
          clear eF8
          refine pd_aload_n (i := 0) dX10_numberDepositors_52 rfl rfl ?_
          refine pd_iload (i := 4) dX10_numberDepositors_53 rfl ?_
          refine pd_aload_n (i := 0) dX10_numberDepositors_55 rfl rfl ?_
          refine pd_get (x := pd_I (F8 x0 3)) 3 dX10_numberDepositors_56 (show vwCl[10]? = some (RX10, TX10, 4) from rfl) pin_10 (by decide) pq_501 hg1 rfl ?_
          obtain ⟨F9, hr, hf⟩ := pd_ob1 hf
          refine pd_callV (pkX10_giveNumber l hr) dX10_numberDepositors_59 pq_508 pq_511 pq_512 (show vwCl[10]? = some (yX10_giveNumber.cls, TX10, 4) from rfl) hg1 (pd_okm (by omega) (by decide) pq_509 pq_510 (by decide) (show (parseMethodDescriptor yX10_giveNumber.desc).map (fun d => d.parameters.length) = some 2 from by decide +kernel)) (Nat.le_of_ble_eq_true rfl) rfl ?_
          refine pd_iload_n (i := 2) dX10_numberDepositors_62 rfl rfl ?_
          refine pd_iload (i := 4) dX10_numberDepositors_63 rfl ?_
          refine pd_ior dX10_numberDepositors_65 ?_
          refine pd_topI (fun x2_66 ex2_66 => ?_)
          have hf := pd_lt hf ex2_66
          clear ex2_66
          refine pd_istore_n (L' := [pd_R x0, pd_I x1, pd_I x2_66, pd_I x3, pd_I r6]) dX10_numberDepositors_66 rfl (by decide) rfl ?_
          refine pd_aload_n (i := 0) dX10_numberDepositors_67 rfl rfl ?_
          refine pd_dup dX10_numberDepositors_68 rfl ?_
          refine pd_get (x := pd_I (F9 x0 3)) 3 dX10_numberDepositors_69 (show vwCl[10]? = some (RX10, TX10, 4) from rfl) pin_10 (by decide) pq_501 hg1 rfl ?_
          refine pd_iconst dX10_numberDepositors_72 (by decide) ?_
          refine pd_iadd dX10_numberDepositors_73 ?_
          refine pd_put (n := (pd_w ((F9 x0 3) + 1))) (x := pd_I (pd_w ((F9 x0 3) + 1))) 3 dX10_numberDepositors_74 (show vwCl[10]? = some (RX10, TX10, 4) from rfl) pin_10 tyX10_ok nmX10 (by decide) pq_501 rfl hg1 rfl pd_nrI pd_ftI ?_
          refine pd_topF (fun F10 eF10 => ?_)
          have hf := pd_lt hf eF10
          clear eF10
          exact pd_weak (L' := [pd_R x0, pd_I x1, pd_I x2_66, pd_I x3, pd_N]) ⟨Or.inr rfl, Or.inr rfl, Or.inr rfl, Or.inr rfl, Or.inl rfl, trivial⟩ (pkX10_numberDepositors_b77 E l ih _ _ _ _ _ hf)
set_option maxHeartbeats 4000000 in
set_option maxRecDepth 100000 in
theorem pkX10_numberDepositors (l : Launch) {al : Bool} {sh : pd_S} {n : Nat} {F : pd_F} {x0 : Int} {x1 : Int} {Fz : pd_F} (hf : pfX10_numberDepositors sh n F x0 x1 = some Fz) : pd_C l yX10_numberDepositors (Cond.code yX10_numberDepositors cX10_numberDepositors 5 none :: pd_gt) (pd_rm 4 0 0) al 0 0 sh F [pd_R x0, pd_I x1] none sh Fz := by
  unfold pfX10_numberDepositors at hf
  refine pd_body (L := [pd_R x0, pd_I x1, pd_N, pd_N, pd_N]) (by decide +kernel) (Nat.le_of_ble_eq_true rfl) rfl (fun E => ?_)
  refine pd_aload_n (i := 0) dX10_numberDepositors_0 rfl rfl ?_
  refine pd_iconst dX10_numberDepositors_1 (by decide) ?_
  obtain ⟨hg11, hf⟩ := pd_ig hf
  refine pd_put (n := 0) (x := pd_I 0) 3 dX10_numberDepositors_2 (show vwCl[10]? = some (RX10, TX10, 4) from rfl) pin_10 tyX10_ok nmX10 (by decide) pq_501 rfl hg11 rfl pd_nrI pd_ftI ?_
  refine pd_topF (fun F12 eF12 => ?_)
  have hf := pd_lt hf eF12
  clear eF12
  refine pd_iconst dX10_numberDepositors_5 (by decide) ?_
  refine pd_istore_n (L' := [pd_R x0, pd_I x1, pd_I 0, pd_N, pd_N]) dX10_numberDepositors_6 rfl (by decide) rfl ?_
  refine pd_iconst dX10_numberDepositors_7 (by decide) ?_
  refine pd_istore_n (L' := [pd_R x0, pd_I x1, pd_I 0, pd_I 0, pd_N]) dX10_numberDepositors_8 rfl (by decide) rfl ?_
  exact pd_weak (L' := [pd_R x0, pd_I x1, pd_I 0, pd_I 0, pd_N]) ⟨Or.inr rfl, Or.inr rfl, Or.inr rfl, Or.inr rfl, Or.inr rfl, trivial⟩ (pkX10_numberDepositors_b9 E l n _ _ _ _ _ hf)
set_option maxHeartbeats 4000000 in
set_option maxRecDepth 100000 in
theorem pkX10_reckon_b54 (E : pd_E) (l : Launch) {al : Bool} {sh : pd_S} {n : Nat} {Fz : pd_F} {c28 : pd_F → Int → Int → Int → Int → Option pd_F} (hL28 : ∀ (F : pd_F) (x0 : Int) (x1 : Int) (x2 : Int) (x3 : Int), c28 F x0 x1 x2 x3 = some Fz → pd_V E l (pd_rm 5 0 0) (RX10, cX10_reckon, 4, none, "reckon") (pd_Qm E al none sh Fz 0 0) al 0 0 sh F 28 [pd_R x0, pd_R x1, pd_R x2, pd_I x3] []) (F : pd_F) (x0 : Int) (x1 : Int) (x2 : Int) (x3 : Int) (hf : pfX10_reckon_b54 sh n c28 F x0 x1 x2 x3 = some Fz) : pd_V E l (pd_rm 5 0 0) (RX10, cX10_reckon, 4, none, "reckon") (pd_Qm E al none sh Fz 0 0) al 0 0 sh F 54 [pd_R x0, pd_R x1, pd_R x2, pd_I x3] [] := by
  unfold pfX10_reckon_b54 at hf
  refine pd_iincN (L' := fun y => [pd_R x0, pd_R x1, pd_R x2, pd_I y]) dX10_reckon_54 rfl (by decide) (by decide) (fun _ => rfl) (fun x3_54 ex3_54 => ?_)
  have hf := pd_lt hf ex3_54
  clear ex3_54
  refine pd_goto (tgt := 28) dX10_reckon_57 (by decide) ?_
  exact pd_weak (L' := [pd_R x0, pd_R x1, pd_R x2, pd_I x3_54]) ⟨Or.inr rfl, Or.inr rfl, Or.inr rfl, Or.inr rfl, trivial⟩ (hL28 _ _ _ _ _ hf)
set_option maxHeartbeats 4000000 in
set_option maxRecDepth 100000 in
theorem pkX10_reckon_b97 (E : pd_E) (l : Launch) {al : Bool} {sh : pd_S} {n : Nat} {Fz : pd_F}  (F : pd_F) (x0 : Int) (x1 : Int) (hf : pfX10_reckon_b97 sh n  F x0 x1 = some Fz) : pd_V E l (pd_rm 5 0 0) (RX10, cX10_reckon, 4, none, "reckon") (pd_Qm E al none sh Fz 0 0) al 0 0 sh F 97 [pd_R x0, pd_R x1, pd_N, pd_N] [] := by
  unfold pfX10_reckon_b97 at hf
  refine pd_aload_n (i := 0) dX10_reckon_97 rfl rfl ?_
  refine pd_aload_n (i := 1) dX10_reckon_98 rfl rfl ?_
  obtain ⟨hg1, hf⟩ := pd_ig hf
  refine pd_getN (x := pd_I (F x1 9)) 9 dX10_reckon_99 (show vwCl[0]? = some (RX0, TX0, 15) from rfl) pin_0 (by decide) pq_513 hg1 rfl ?_
  obtain ⟨hg3, hf⟩ := pd_ig hf
  obtain ⟨F2, hr, hf⟩ := pd_ob1 hf
  refine pd_callV (pkX10_numberDepositors l hr) dX10_reckon_102 pq_514 pq_517 pq_518 (show vwCl[10]? = some (yX10_numberDepositors.cls, TX10, 4) from rfl) hg3 (pd_okm (by omega) (by decide) pq_515 pq_516 (by decide) (show (parseMethodDescriptor yX10_numberDepositors.desc).map (fun d => d.parameters.length) = some 1 from by decide +kernel)) (Nat.le_of_ble_eq_true rfl) rfl ?_
  obtain h2 := pd_inj1 hf
  subst h2
  exact pd_vret dX10_reckon_105 rfl (Nat.le_refl 0) (Nat.le_refl 0)
set_option maxHeartbeats 4000000 in
set_option maxRecDepth 100000 in
theorem pkX10_reckon_b62 (E : pd_E) (l : Launch) {al : Bool} {sh : pd_S} {n : Nat} {Fz : pd_F}  : ∀ (k : Nat) (F : pd_F) (x0 : Int) (x1 : Int) (x2 : Int) (x3 : Int), pfX10_reckon_b62 sh n  k F x0 x1 x2 x3 = some Fz → pd_V E l (pd_rm 5 0 0) (RX10, cX10_reckon, 4, none, "reckon") (pd_Qm E al none sh Fz 0 0) al 0 0 sh F 62 [pd_R x0, pd_R x1, pd_R x2, pd_I x3] [] := by
  intro k
  induction k with
  | zero => intro F x0 x1 x2 x3 hf; exact absurd hf (by unfold pfX10_reckon_b62; exact fun h => nomatch h)
  | succ k ih =>
    intro F x0 x1 x2 x3 hf
    unfold pfX10_reckon_b62 at hf
    refine pd_iload_n (i := 3) dX10_reckon_62 rfl rfl ?_
    refine pd_aload_n (i := 2) dX10_reckon_63 rfl rfl ?_
    obtain ⟨hg4, hf⟩ := pd_ig hf
    refine pd_getN (x := pd_I (F x2 4)) 4 dX10_reckon_64 (show vwCl[8]? = some (RX8, TX8, 6) from rfl) pin_8 (by decide) pq_519 hg4 rfl ?_
    refine pd_icmp_ge (tgt := 97) dX10_reckon_67 (by decide) (fun hc => ?_) (fun hc => ?_)
    · have hf := pd_ip hf hc
      exact pd_weak (L' := [pd_R x0, pd_R x1, pd_N, pd_N]) ⟨Or.inr rfl, Or.inr rfl, Or.inl rfl, Or.inl rfl, trivial⟩ (pkX10_reckon_b97 E l _ _ _ hf)
    · have hf := pd_in_ hf hc
      refine pd_aload_n (i := 0) dX10_reckon_70 rfl rfl ?_
      refine pd_iconst dX10_reckon_71 (by decide) ?_
      refine pd_aload_n (i := 2) dX10_reckon_72 rfl rfl ?_
      refine pd_getN (x := pd_R (F x2 2)) 2 dX10_reckon_73 (show vwCl[8]? = some (RX8, TX8, 6) from rfl) pin_8 (by decide) pq_520 hg4 rfl ?_
      refine pd_iload_n (i := 3) dX10_reckon_76 rfl rfl ?_
      obtain ⟨hg5, hf⟩ := pd_ig hf
      refine pd_iald dX10_reckon_77 hg5 ?_
      refine pd_ishl dX10_reckon_78 ?_
      refine pd_iconst dX10_reckon_79 (by decide) ?_
      refine pd_aload_n (i := 2) dX10_reckon_80 rfl rfl ?_
      refine pd_getN (x := pd_R (F x2 3)) 3 dX10_reckon_81 (show vwCl[8]? = some (RX8, TX8, 6) from rfl) pin_8 (by decide) pq_521 hg4 rfl ?_
      refine pd_iload_n (i := 3) dX10_reckon_84 rfl rfl ?_
      obtain ⟨hg6, hf⟩ := pd_ig hf
      refine pd_iald dX10_reckon_85 hg6 ?_
      refine pd_ishl dX10_reckon_86 ?_
      refine pd_ior dX10_reckon_87 ?_
      obtain ⟨hg8, hf⟩ := pd_ig hf
      obtain ⟨F7, hr, hf⟩ := pd_ob1 hf
      refine pd_callV (pkX10_tie l hr) dX10_reckon_88 pq_522 pq_525 pq_526 (show vwCl[10]? = some (yX10_tie.cls, TX10, 4) from rfl) hg8 (pd_okm (by omega) (by decide) pq_523 pq_524 (by decide) (show (parseMethodDescriptor yX10_tie.desc).map (fun d => d.parameters.length) = some 1 from by decide +kernel)) (Nat.le_of_ble_eq_true rfl) rfl ?_
      refine pd_iincN (L' := fun y => [pd_R x0, pd_R x1, pd_R x2, pd_I y]) dX10_reckon_91 rfl (by decide) (by decide) (fun _ => rfl) (fun x3_91 ex3_91 => ?_)
      have hf := pd_lt hf ex3_91
      clear ex3_91
      refine pd_goto (tgt := 62) dX10_reckon_94 (by decide) ?_
      exact pd_weak (L' := [pd_R x0, pd_R x1, pd_R x2, pd_I x3_91]) ⟨Or.inr rfl, Or.inr rfl, Or.inr rfl, Or.inr rfl, trivial⟩ (ih _ _ _ _ _ hf)
set_option maxHeartbeats 4000000 in
set_option maxRecDepth 100000 in
theorem pkX10_reckon_b60 (E : pd_E) (l : Launch) {al : Bool} {sh : pd_S} {n : Nat} {Fz : pd_F}  (F : pd_F) (x0 : Int) (x1 : Int) (x2 : Int) (hf : pfX10_reckon_b60 sh n  F x0 x1 x2 = some Fz) : pd_V E l (pd_rm 5 0 0) (RX10, cX10_reckon, 4, none, "reckon") (pd_Qm E al none sh Fz 0 0) al 0 0 sh F 60 [pd_R x0, pd_R x1, pd_R x2, pd_N] [] := by
  unfold pfX10_reckon_b60 at hf
  refine pd_iconst dX10_reckon_60 (by decide) ?_
  refine pd_istore_n (L' := [pd_R x0, pd_R x1, pd_R x2, pd_I 0]) dX10_reckon_61 rfl (by decide) rfl ?_
  exact pd_weak (L' := [pd_R x0, pd_R x1, pd_R x2, pd_I 0]) ⟨Or.inr rfl, Or.inr rfl, Or.inr rfl, Or.inr rfl, trivial⟩ (pkX10_reckon_b62 E l n _ _ _ _ _ hf)
set_option maxHeartbeats 4000000 in
set_option maxRecDepth 100000 in
theorem pkX10_reckon_b28 (E : pd_E) (l : Launch) {al : Bool} {sh : pd_S} {n : Nat} {Fz : pd_F}  : ∀ (k : Nat) (F : pd_F) (x0 : Int) (x1 : Int) (x2 : Int) (x3 : Int), pfX10_reckon_b28 sh n  k F x0 x1 x2 x3 = some Fz → pd_V E l (pd_rm 5 0 0) (RX10, cX10_reckon, 4, none, "reckon") (pd_Qm E al none sh Fz 0 0) al 0 0 sh F 28 [pd_R x0, pd_R x1, pd_R x2, pd_I x3] [] := by
  intro k
  induction k with
  | zero => intro F x0 x1 x2 x3 hf; exact absurd hf (by unfold pfX10_reckon_b28; exact fun h => nomatch h)
  | succ k ih =>
    intro F x0 x1 x2 x3 hf
    unfold pfX10_reckon_b28 at hf
    refine pd_iload_n (i := 3) dX10_reckon_28 rfl rfl ?_
    refine pd_aload_n (i := 1) dX10_reckon_29 rfl rfl ?_
    obtain ⟨hg9, hf⟩ := pd_ig hf
    refine pd_getN (x := pd_I (F x1 14)) 14 dX10_reckon_30 (show vwCl[0]? = some (RX0, TX0, 15) from rfl) pin_0 (by decide) pq_527 hg9 rfl ?_
    refine pd_icmp_ge (tgt := 60) dX10_reckon_33 (by decide) (fun hc => ?_) (fun hc => ?_)
    · have hf := pd_ip hf hc
      exact pd_weak (L' := [pd_R x0, pd_R x1, pd_R x2, pd_N]) ⟨Or.inr rfl, Or.inr rfl, Or.inr rfl, Or.inl rfl, trivial⟩ (pkX10_reckon_b60 E l _ _ _ _ hf)
    · have hf := pd_in_ hf hc
      refine pd_aload_n (i := 2) dX10_reckon_36 rfl rfl ?_
      refine pd_iload_n (i := 3) dX10_reckon_37 rfl rfl ?_
      obtain ⟨hg11, hf⟩ := pd_ig hf
      obtain ⟨r12, F10, hr, hf⟩ := pd_ob2 hf
      refine pd_callV (pkX8_isLeftOut l hr) dX10_reckon_38 pq_528 pq_531 pq_532 (show vwCl[8]? = some (yX8_isLeftOut.cls, TX8, 6) from rfl) hg11 (pd_okm (by omega) (by decide) pq_529 pq_530 (by decide) (show (parseMethodDescriptor yX8_isLeftOut.desc).map (fun d => d.parameters.length) = some 1 from by decide +kernel)) (Nat.le_of_ble_eq_true rfl) rfl ?_
      refine pd_if_ne (tgt := 54) dX10_reckon_41 (by decide) (fun hc => ?_) (fun hc => ?_)
      · have hf := pd_ip hf hc
        exact pd_weak (L' := [pd_R x0, pd_R x1, pd_R x2, pd_I x3]) ⟨Or.inr rfl, Or.inr rfl, Or.inr rfl, Or.inr rfl, trivial⟩ (pkX10_reckon_b54 E l ih _ _ _ _ _ hf)
      · have hf := pd_iq hf hc
        refine pd_aload_n (i := 0) dX10_reckon_44 rfl rfl ?_
        refine pd_aload_n (i := 1) dX10_reckon_45 rfl rfl ?_
        refine pd_getN (x := pd_R (F10 x1 8)) 8 dX10_reckon_46 (show vwCl[0]? = some (RX0, TX0, 15) from rfl) pin_0 (by decide) pq_533 hg9 rfl ?_
        refine pd_iload_n (i := 3) dX10_reckon_49 rfl rfl ?_
        obtain ⟨hg13, hf⟩ := pd_ig hf
        refine pd_iald dX10_reckon_50 hg13 ?_
        obtain ⟨hg15, hf⟩ := pd_ig hf
        obtain ⟨F14, hr, hf⟩ := pd_ob1 hf
        refine pd_callV (pkX10_tie l hr) dX10_reckon_51 pq_522 pq_525 pq_526 (show vwCl[10]? = some (yX10_tie.cls, TX10, 4) from rfl) hg15 (pd_okm (by omega) (by decide) pq_523 pq_524 (by decide) (show (parseMethodDescriptor yX10_tie.desc).map (fun d => d.parameters.length) = some 1 from by decide +kernel)) (Nat.le_of_ble_eq_true rfl) rfl ?_
        exact pd_weak (L' := [pd_R x0, pd_R x1, pd_R x2, pd_I x3]) ⟨Or.inr rfl, Or.inr rfl, Or.inr rfl, Or.inr rfl, trivial⟩ (pkX10_reckon_b54 E l ih _ _ _ _ _ hf)
set_option maxHeartbeats 4000000 in
set_option maxRecDepth 100000 in
theorem pkX10_reckon_b26 (E : pd_E) (l : Launch) {al : Bool} {sh : pd_S} {n : Nat} {Fz : pd_F}  (F : pd_F) (x0 : Int) (x1 : Int) (x2 : Int) (hf : pfX10_reckon_b26 sh n  F x0 x1 x2 = some Fz) : pd_V E l (pd_rm 5 0 0) (RX10, cX10_reckon, 4, none, "reckon") (pd_Qm E al none sh Fz 0 0) al 0 0 sh F 26 [pd_R x0, pd_R x1, pd_R x2, pd_N] [] := by
  unfold pfX10_reckon_b26 at hf
  refine pd_iconst dX10_reckon_26 (by decide) ?_
  refine pd_istore_n (L' := [pd_R x0, pd_R x1, pd_R x2, pd_I 0]) dX10_reckon_27 rfl (by decide) rfl ?_
  exact pd_weak (L' := [pd_R x0, pd_R x1, pd_R x2, pd_I 0]) ⟨Or.inr rfl, Or.inr rfl, Or.inr rfl, Or.inr rfl, trivial⟩ (pkX10_reckon_b28 E l n _ _ _ _ _ hf)
set_option maxHeartbeats 4000000 in
set_option maxRecDepth 100000 in
theorem pkX10_reckon_b2 (E : pd_E) (l : Launch) {al : Bool} {sh : pd_S} {n : Nat} {Fz : pd_F}  : ∀ (k : Nat) (F : pd_F) (x0 : Int) (x1 : Int) (x2 : Int) (x3 : Int), pfX10_reckon_b2 sh n  k F x0 x1 x2 x3 = some Fz → pd_V E l (pd_rm 5 0 0) (RX10, cX10_reckon, 4, none, "reckon") (pd_Qm E al none sh Fz 0 0) al 0 0 sh F 2 [pd_R x0, pd_R x1, pd_R x2, pd_I x3] [] := by
  intro k
  induction k with
  | zero => intro F x0 x1 x2 x3 hf; exact absurd hf (by unfold pfX10_reckon_b2; exact fun h => nomatch h)
  | succ k ih =>
    intro F x0 x1 x2 x3 hf
    unfold pfX10_reckon_b2 at hf
    refine pd_iload_n (i := 3) dX10_reckon_2 rfl rfl ?_
    refine pd_aload_n (i := 0) dX10_reckon_3 rfl rfl ?_
    obtain ⟨hg16, hf⟩ := pd_ig hf
    refine pd_get (x := pd_R (F x0 0)) 0 dX10_reckon_4 (show vwCl[10]? = some (RX10, TX10, 4) from rfl) pin_10 (by decide) pq_490 hg16 rfl ?_
    obtain ⟨hg17, hf⟩ := pd_ig hf
    refine pd_alen dX10_reckon_7 (by decide) hg17 ?_
    refine pd_icmp_ge (tgt := 26) dX10_reckon_8 (by decide) (fun hc => ?_) (fun hc => ?_)
    · have hf := pd_ip hf hc
      exact pd_weak (L' := [pd_R x0, pd_R x1, pd_R x2, pd_N]) ⟨Or.inr rfl, Or.inr rfl, Or.inr rfl, Or.inl rfl, trivial⟩ (pkX10_reckon_b26 E l _ _ _ _ hf)
    · have hf := pd_in_ hf hc
      refine pd_aload_n (i := 0) dX10_reckon_11 rfl rfl ?_
      refine pd_get (x := pd_R (F x0 0)) 0 dX10_reckon_12 (show vwCl[10]? = some (RX10, TX10, 4) from rfl) pin_10 (by decide) pq_490 hg16 rfl ?_
      refine pd_iload_n (i := 3) dX10_reckon_15 rfl rfl ?_
      refine pd_iconst dX10_reckon_16 (by decide) ?_
      refine pd_iload_n (i := 3) dX10_reckon_17 rfl rfl ?_
      refine pd_ishl dX10_reckon_18 ?_
      obtain ⟨hg18, hf⟩ := pd_ig hf
      refine pd_iast dX10_reckon_19 hg18 ?_
      refine pd_topF (fun F19 eF19 => ?_)
      have hf := pd_lt hf eF19
      clear eF19
      refine pd_iincN (L' := fun y => [pd_R x0, pd_R x1, pd_R x2, pd_I y]) dX10_reckon_20 rfl (by decide) (by decide) (fun _ => rfl) (fun x3_20 ex3_20 => ?_)
      have hf := pd_lt hf ex3_20
      clear ex3_20
      refine pd_goto (tgt := 2) dX10_reckon_23 (by decide) ?_
      exact pd_weak (L' := [pd_R x0, pd_R x1, pd_R x2, pd_I x3_20]) ⟨Or.inr rfl, Or.inr rfl, Or.inr rfl, Or.inr rfl, trivial⟩ (ih _ _ _ _ _ hf)
set_option maxHeartbeats 4000000 in
set_option maxRecDepth 100000 in
theorem pkX10_reckon (l : Launch) {al : Bool} {sh : pd_S} {n : Nat} {F : pd_F} {x0 : Int} {x1 : Int} {x2 : Int} {Fz : pd_F} (hf : pfX10_reckon sh n F x0 x1 x2 = some Fz) : pd_C l yX10_reckon (Cond.code yX10_reckon cX10_reckon 4 none :: pd_gt) (pd_rm 5 0 0) al 0 0 sh F [pd_R x0, pd_R x1, pd_R x2] none sh Fz := by
  unfold pfX10_reckon at hf
  refine pd_body (L := [pd_R x0, pd_R x1, pd_R x2, pd_N]) (by decide +kernel) (Nat.le_of_ble_eq_true rfl) rfl (fun E => ?_)
  refine pd_iconst dX10_reckon_0 (by decide) ?_
  refine pd_istore_n (L' := [pd_R x0, pd_R x1, pd_R x2, pd_I 0]) dX10_reckon_1 rfl (by decide) rfl ?_
  exact pd_weak (L' := [pd_R x0, pd_R x1, pd_R x2, pd_I 0]) ⟨Or.inr rfl, Or.inr rfl, Or.inr rfl, Or.inr rfl, trivial⟩ (pkX10_reckon_b2 E l n _ _ _ _ _ hf)
