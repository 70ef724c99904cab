theorem dX6_trade_0 : decode cX6_trade 0 = .ok (.aload_n 0, 1) := by decide +kernel
theorem dX6_trade_1 : decode cX6_trade 1 = .ok (.getfield 21, 3) := by decide +kernel
theorem dX6_trade_4 : decode cX6_trade 4 = .ok (.astore_n 2, 1) := by decide +kernel
theorem dX6_trade_5 : decode cX6_trade 5 = .ok (.aload_n 0, 1) := by decide +kernel
theorem dX6_trade_6 : decode cX6_trade 6 = .ok (.aload_n 1, 1) := by decide +kernel
theorem dX6_trade_7 : decode cX6_trade 7 = .ok (.putfield 21, 3) := by decide +kernel
theorem dX6_trade_10 : decode cX6_trade 10 = .ok (.aload_n 2, 1) := by decide +kernel
theorem dX6_trade_11 : decode cX6_trade 11 = .ok (.areturn, 1) := by decide +kernel
theorem dX6_fail_0 : decode cX6_fail 0 = .ok (.aload_n 0, 1) := by decide +kernel
theorem dX6_fail_1 : decode cX6_fail 1 = .ok (.bipush 8, 2) := by decide +kernel
theorem dX6_fail_3 : decode cX6_fail 3 = .ok (.aload_n 0, 1) := by decide +kernel
theorem dX6_fail_4 : decode cX6_fail 4 = .ok (.getfield 12, 3) := by decide +kernel
theorem dX6_fail_7 : decode cX6_fail 7 = .ok (.getfield 46, 3) := by decide +kernel
theorem dX6_fail_10 : decode cX6_fail 10 = .ok (.imul, 1) := by decide +kernel
theorem dX6_fail_11 : decode cX6_fail 11 = .ok (.iload_n 1, 1) := by decide +kernel
theorem dX6_fail_12 : decode cX6_fail 12 = .ok (.iadd, 1) := by decide +kernel
theorem dX6_fail_13 : decode cX6_fail 13 = .ok (.putfield 28, 3) := by decide +kernel
theorem dX6_fail_16 : decode cX6_fail 16 = .ok (.iconst 0, 1) := by decide +kernel
theorem dX6_fail_17 : decode cX6_fail 17 = .ok (.ireturn, 1) := by decide +kernel
theorem dX6_at_0 : decode cX6_at 0 = .ok (.aload_n 0, 1) := by decide +kernel
theorem dX6_at_1 : decode cX6_at 1 = .ok (.getfield 12, 3) := by decide +kernel
theorem dX6_at_4 : decode cX6_at 4 = .ok (.getfield 40, 3) := by decide +kernel
theorem dX6_at_7 : decode cX6_at 7 = .ok (.iconst 1, 1) := by decide +kernel
theorem dX6_at_8 : decode cX6_at 8 = .ok (.if_icmp .ne 19, 3) := by decide +kernel
theorem dX6_at_11 : decode cX6_at 11 = .ok (.aload_n 0, 1) := by decide +kernel
theorem dX6_at_12 : decode cX6_at 12 = .ok (.getfield 12, 3) := by decide +kernel
theorem dX6_at_15 : decode cX6_at 15 = .ok (.getfield 104, 3) := by decide +kernel
theorem dX6_at_18 : decode cX6_at 18 = .ok (.lload_n 1, 1) := by decide +kernel
theorem dX6_at_19 : decode cX6_at 19 = .ok (.lcmp, 1) := by decide +kernel
theorem dX6_at_20 : decode cX6_at 20 = .ok (.ifCond .ne 7, 3) := by decide +kernel
theorem dX6_at_23 : decode cX6_at 23 = .ok (.iconst 1, 1) := by decide +kernel
theorem dX6_at_24 : decode cX6_at 24 = .ok (.goto 4, 3) := by decide +kernel
theorem dX6_at_27 : decode cX6_at 27 = .ok (.iconst 0, 1) := by decide +kernel
theorem dX6_at_28 : decode cX6_at 28 = .ok (.ireturn, 1) := by decide +kernel
theorem dX6_isTaken_0 : decode cX6_isTaken 0 = .ok (.lload_n 0, 1) := by decide +kernel
theorem dX6_isTaken_1 : decode cX6_isTaken 1 = .ok (.ldc2_w 49, 3) := by decide +kernel
theorem dX6_isTaken_4 : decode cX6_isTaken 4 = .ok (.lcmp, 1) := by decide +kernel
theorem dX6_isTaken_5 : decode cX6_isTaken 5 = .ok (.ifCond .eq 99, 3) := by decide +kernel
theorem dX6_isTaken_8 : decode cX6_isTaken 8 = .ok (.lload_n 0, 1) := by decide +kernel
theorem dX6_isTaken_9 : decode cX6_isTaken 9 = .ok (.ldc2_w 121, 3) := by decide +kernel
theorem dX6_isTaken_12 : decode cX6_isTaken 12 = .ok (.lcmp, 1) := by decide +kernel
theorem dX6_isTaken_13 : decode cX6_isTaken 13 = .ok (.ifCond .eq 91, 3) := by decide +kernel
theorem dX6_isTaken_16 : decode cX6_isTaken 16 = .ok (.lload_n 0, 1) := by decide +kernel
theorem dX6_isTaken_17 : decode cX6_isTaken 17 = .ok (.ldc2_w 58, 3) := by decide +kernel
theorem dX6_isTaken_20 : decode cX6_isTaken 20 = .ok (.lcmp, 1) := by decide +kernel
theorem dX6_isTaken_21 : decode cX6_isTaken 21 = .ok (.ifCond .eq 83, 3) := by decide +kernel
theorem dX6_isTaken_24 : decode cX6_isTaken 24 = .ok (.lload_n 0, 1) := by decide +kernel
theorem dX6_isTaken_25 : decode cX6_isTaken 25 = .ok (.ldc2_w 63, 3) := by decide +kernel
theorem dX6_isTaken_28 : decode cX6_isTaken 28 = .ok (.lcmp, 1) := by decide +kernel
theorem dX6_isTaken_29 : decode cX6_isTaken 29 = .ok (.ifCond .eq 75, 3) := by decide +kernel
theorem dX6_isTaken_32 : decode cX6_isTaken 32 = .ok (.lload_n 0, 1) := by decide +kernel
theorem dX6_isTaken_33 : decode cX6_isTaken 33 = .ok (.ldc2_w 175, 3) := by decide +kernel
theorem dX6_isTaken_36 : decode cX6_isTaken 36 = .ok (.lcmp, 1) := by decide +kernel
theorem dX6_isTaken_37 : decode cX6_isTaken 37 = .ok (.ifCond .eq 67, 3) := by decide +kernel
theorem dX6_isTaken_40 : decode cX6_isTaken 40 = .ok (.lload_n 0, 1) := by decide +kernel
theorem dX6_isTaken_41 : decode cX6_isTaken 41 = .ok (.ldc2_w 68, 3) := by decide +kernel
theorem dX6_isTaken_44 : decode cX6_isTaken 44 = .ok (.lcmp, 1) := by decide +kernel
theorem dX6_isTaken_45 : decode cX6_isTaken 45 = .ok (.ifCond .eq 59, 3) := by decide +kernel
theorem dX6_isTaken_48 : decode cX6_isTaken 48 = .ok (.lload_n 0, 1) := by decide +kernel
theorem dX6_isTaken_49 : decode cX6_isTaken 49 = .ok (.ldc2_w 209, 3) := by decide +kernel
theorem dX6_isTaken_52 : decode cX6_isTaken 52 = .ok (.lcmp, 1) := by decide +kernel
theorem dX6_isTaken_53 : decode cX6_isTaken 53 = .ok (.ifCond .eq 51, 3) := by decide +kernel
theorem dX6_isTaken_56 : decode cX6_isTaken 56 = .ok (.lload_n 0, 1) := by decide +kernel
theorem dX6_isTaken_57 : decode cX6_isTaken 57 = .ok (.ldc2_w 211, 3) := by decide +kernel
theorem dX6_isTaken_60 : decode cX6_isTaken 60 = .ok (.lcmp, 1) := by decide +kernel
theorem dX6_isTaken_61 : decode cX6_isTaken 61 = .ok (.ifCond .eq 43, 3) := by decide +kernel
theorem dX6_isTaken_64 : decode cX6_isTaken 64 = .ok (.lload_n 0, 1) := by decide +kernel
theorem dX6_isTaken_65 : decode cX6_isTaken 65 = .ok (.ldc2_w 73, 3) := by decide +kernel
theorem dX6_isTaken_68 : decode cX6_isTaken 68 = .ok (.lcmp, 1) := by decide +kernel
theorem dX6_isTaken_69 : decode cX6_isTaken 69 = .ok (.ifCond .eq 35, 3) := by decide +kernel
theorem dX6_isTaken_72 : decode cX6_isTaken 72 = .ok (.lload_n 0, 1) := by decide +kernel
theorem dX6_isTaken_73 : decode cX6_isTaken 73 = .ok (.ldc2_w 226, 3) := by decide +kernel
theorem dX6_isTaken_76 : decode cX6_isTaken 76 = .ok (.lcmp, 1) := by decide +kernel
theorem dX6_isTaken_77 : decode cX6_isTaken 77 = .ok (.ifCond .eq 27, 3) := by decide +kernel
theorem dX6_isTaken_80 : decode cX6_isTaken 80 = .ok (.lload_n 0, 1) := by decide +kernel
theorem dX6_isTaken_81 : decode cX6_isTaken 81 = .ok (.ldc2_w 78, 3) := by decide +kernel
theorem dX6_isTaken_84 : decode cX6_isTaken 84 = .ok (.lcmp, 1) := by decide +kernel
theorem dX6_isTaken_85 : decode cX6_isTaken 85 = .ok (.ifCond .eq 19, 3) := by decide +kernel
theorem dX6_isTaken_88 : decode cX6_isTaken 88 = .ok (.lload_n 0, 1) := by decide +kernel
theorem dX6_isTaken_89 : decode cX6_isTaken 89 = .ok (.ldc2_w 84, 3) := by decide +kernel
theorem dX6_isTaken_92 : decode cX6_isTaken 92 = .ok (.lcmp, 1) := by decide +kernel
theorem dX6_isTaken_93 : decode cX6_isTaken 93 = .ok (.ifCond .eq 11, 3) := by decide +kernel
theorem dX6_isTaken_96 : decode cX6_isTaken 96 = .ok (.lload_n 0, 1) := by decide +kernel
theorem dX6_isTaken_97 : decode cX6_isTaken 97 = .ok (.ldc2_w 86, 3) := by decide +kernel
theorem dX6_isTaken_100 : decode cX6_isTaken 100 = .ok (.lcmp, 1) := by decide +kernel
theorem dX6_isTaken_101 : decode cX6_isTaken 101 = .ok (.ifCond .ne 7, 3) := by decide +kernel
theorem dX6_isTaken_104 : decode cX6_isTaken 104 = .ok (.iconst 1, 1) := by decide +kernel
theorem dX6_isTaken_105 : decode cX6_isTaken 105 = .ok (.goto 4, 3) := by decide +kernel
theorem dX6_isTaken_108 : decode cX6_isTaken 108 = .ok (.iconst 0, 1) := by decide +kernel
theorem dX6_isTaken_109 : decode cX6_isTaken 109 = .ok (.ireturn, 1) := by decide +kernel
theorem dX6_atName_0 : decode cX6_atName 0 = .ok (.aload_n 0, 1) := by decide +kernel
theorem dX6_atName_1 : decode cX6_atName 1 = .ok (.getfield 12, 3) := by decide +kernel
theorem dX6_atName_4 : decode cX6_atName 4 = .ok (.getfield 40, 3) := by decide +kernel
theorem dX6_atName_7 : decode cX6_atName 7 = .ok (.iconst 1, 1) := by decide +kernel
theorem dX6_atName_8 : decode cX6_atName 8 = .ok (.if_icmp .ne 20, 3) := by decide +kernel
theorem dX6_atName_11 : decode cX6_atName 11 = .ok (.aload_n 0, 1) := by decide +kernel
theorem dX6_atName_12 : decode cX6_atName 12 = .ok (.getfield 12, 3) := by decide +kernel
theorem dX6_atName_15 : decode cX6_atName 15 = .ok (.getfield 104, 3) := by decide +kernel
theorem dX6_atName_18 : decode cX6_atName 18 = .ok (.invokestatic 238, 3) := by decide +kernel
theorem dX6_atName_21 : decode cX6_atName 21 = .ok (.ifCond .ne 7, 3) := by decide +kernel
theorem dX6_atName_24 : decode cX6_atName 24 = .ok (.iconst 1, 1) := by decide +kernel
theorem dX6_atName_25 : decode cX6_atName 25 = .ok (.goto 4, 3) := by decide +kernel
theorem dX6_atName_28 : decode cX6_atName 28 = .ok (.iconst 0, 1) := by decide +kernel
theorem dX6_atName_29 : decode cX6_atName 29 = .ok (.ireturn, 1) := by decide +kernel
theorem dX6_atNewName_0 : decode cX6_atNewName 0 = .ok (.aload_n 0, 1) := by decide +kernel
theorem dX6_atNewName_1 : decode cX6_atNewName 1 = .ok (.invokevirtual 188, 3) := by decide +kernel
theorem dX6_atNewName_4 : decode cX6_atNewName 4 = .ok (.ifCond .ne 9, 3) := by decide +kernel
theorem dX6_atNewName_7 : decode cX6_atNewName 7 = .ok (.aload_n 0, 1) := by decide +kernel
theorem dX6_atNewName_8 : decode cX6_atNewName 8 = .ok (.iconst 1, 1) := by decide +kernel
theorem dX6_atNewName_9 : decode cX6_atNewName 9 = .ok (.invokevirtual 88, 3) := by decide +kernel
theorem dX6_atNewName_12 : decode cX6_atNewName 12 = .ok (.ireturn, 1) := by decide +kernel
theorem dX6_atNewName_13 : decode cX6_atNewName 13 = .ok (.aload_n 0, 1) := by decide +kernel
theorem dX6_atNewName_14 : decode cX6_atNewName 14 = .ok (.getfield 21, 3) := by decide +kernel
theorem dX6_atNewName_17 : decode cX6_atNewName 17 = .ok (.aload_n 0, 1) := by decide +kernel
theorem dX6_atNewName_18 : decode cX6_atNewName 18 = .ok (.getfield 12, 3) := by decide +kernel
theorem dX6_atNewName_21 : decode cX6_atNewName 21 = .ok (.getfield 104, 3) := by decide +kernel
theorem dX6_atNewName_24 : decode cX6_atNewName 24 = .ok (.invokevirtual 191, 3) := by decide +kernel
theorem dX6_atNewName_27 : decode cX6_atNewName 27 = .ok (.iconst (-1), 1) := by decide +kernel
theorem dX6_atNewName_28 : decode cX6_atNewName 28 = .ok (.if_icmp .eq 11, 3) := by decide +kernel
theorem dX6_atNewName_31 : decode cX6_atNewName 31 = .ok (.aload_n 0, 1) := by decide +kernel
theorem dX6_atNewName_32 : decode cX6_atNewName 32 = .ok (.iconst 2, 1) := by decide +kernel
theorem dX6_atNewName_33 : decode cX6_atNewName 33 = .ok (.invokevirtual 88, 3) := by decide +kernel
theorem dX6_atNewName_36 : decode cX6_atNewName 36 = .ok (.ifCond .eq 7, 3) := by decide +kernel
theorem dX6_atNewName_39 : decode cX6_atNewName 39 = .ok (.iconst 1, 1) := by decide +kernel
theorem dX6_atNewName_40 : decode cX6_atNewName 40 = .ok (.goto 4, 3) := by decide +kernel
theorem dX6_atNewName_43 : decode cX6_atNewName 43 = .ok (.iconst 0, 1) := by decide +kernel
theorem dX6_atNewName_44 : decode cX6_atNewName 44 = .ok (.ireturn, 1) := by decide +kernel
theorem dX6_pass_0 : decode cX6_pass 0 = .ok (.aload_n 0, 1) := by decide +kernel
theorem dX6_pass_1 : decode cX6_pass 1 = .ok (.lload_n 1, 1) := by decide +kernel
theorem dX6_pass_2 : decode cX6_pass 2 = .ok (.invokevirtual 51, 3) := by decide +kernel
theorem dX6_pass_5 : decode cX6_pass 5 = .ok (.ifCond .ne 9, 3) := by decide +kernel
theorem dX6_pass_8 : decode cX6_pass 8 = .ok (.aload_n 0, 1) := by decide +kernel
theorem dX6_pass_9 : decode cX6_pass 9 = .ok (.iconst 1, 1) := by decide +kernel
theorem dX6_pass_10 : decode cX6_pass 10 = .ok (.invokevirtual 88, 3) := by decide +kernel
theorem dX6_pass_13 : decode cX6_pass 13 = .ok (.ireturn, 1) := by decide +kernel
theorem dX6_pass_14 : decode cX6_pass 14 = .ok (.aload_n 0, 1) := by decide +kernel
theorem dX6_pass_15 : decode cX6_pass 15 = .ok (.getfield 12, 3) := by decide +kernel
theorem dX6_pass_18 : decode cX6_pass 18 = .ok (.invokevirtual 98, 3) := by decide +kernel
theorem dX6_pass_21 : decode cX6_pass 21 = .ok (.iconst 1, 1) := by decide +kernel
theorem dX6_pass_22 : decode cX6_pass 22 = .ok (.ireturn, 1) := by decide +kernel
theorem dX6_passEnd_0 : decode cX6_passEnd 0 = .ok (.aload_n 0, 1) := by decide +kernel
theorem dX6_passEnd_1 : decode cX6_passEnd 1 = .ok (.getfield 12, 3) := by decide +kernel
theorem dX6_passEnd_4 : decode cX6_passEnd 4 = .ok (.getfield 40, 3) := by decide +kernel
theorem dX6_passEnd_7 : decode cX6_passEnd 7 = .ok (.iconst 3, 1) := by decide +kernel
theorem dX6_passEnd_8 : decode cX6_passEnd 8 = .ok (.if_icmp .eq 9, 3) := by decide +kernel
theorem dX6_passEnd_11 : decode cX6_passEnd 11 = .ok (.aload_n 0, 1) := by decide +kernel
theorem dX6_passEnd_12 : decode cX6_passEnd 12 = .ok (.iconst 1, 1) := by decide +kernel
theorem dX6_passEnd_13 : decode cX6_passEnd 13 = .ok (.invokevirtual 88, 3) := by decide +kernel
theorem dX6_passEnd_16 : decode cX6_passEnd 16 = .ok (.ireturn, 1) := by decide +kernel
theorem dX6_passEnd_17 : decode cX6_passEnd 17 = .ok (.aload_n 0, 1) := by decide +kernel
theorem dX6_passEnd_18 : decode cX6_passEnd 18 = .ok (.getfield 12, 3) := by decide +kernel
theorem dX6_passEnd_21 : decode cX6_passEnd 21 = .ok (.invokevirtual 98, 3) := by decide +kernel
theorem dX6_passEnd_24 : decode cX6_passEnd 24 = .ok (.iconst 1, 1) := by decide +kernel
theorem dX6_passEnd_25 : decode cX6_passEnd 25 = .ok (.ireturn, 1) := by decide +kernel
theorem dX6_takeNumberIn_0 : decode cX6_takeNumberIn 0 = .ok (.aload_n 0, 1) := by decide +kernel
theorem dX6_takeNumberIn_1 : decode cX6_takeNumberIn 1 = .ok (.getfield 12, 3) := by decide +kernel
theorem dX6_takeNumberIn_4 : decode cX6_takeNumberIn 4 = .ok (.getfield 40, 3) := by decide +kernel
theorem dX6_takeNumberIn_7 : decode cX6_takeNumberIn 7 = .ok (.iconst 2, 1) := by decide +kernel
theorem dX6_takeNumberIn_8 : decode cX6_takeNumberIn 8 = .ok (.if_icmp .eq 11, 3) := by decide +kernel
theorem dX6_takeNumberIn_11 : decode cX6_takeNumberIn 11 = .ok (.aload_n 0, 1) := by decide +kernel
theorem dX6_takeNumberIn_12 : decode cX6_takeNumberIn 12 = .ok (.iconst 1, 1) := by decide +kernel
theorem dX6_takeNumberIn_13 : decode cX6_takeNumberIn 13 = .ok (.invokevirtual 88, 3) := by decide +kernel
theorem dX6_takeNumberIn_16 : decode cX6_takeNumberIn 16 = .ok (.pop, 1) := by decide +kernel
theorem dX6_takeNumberIn_17 : decode cX6_takeNumberIn 17 = .ok (.iconst (-1), 1) := by decide +kernel
theorem dX6_takeNumberIn_18 : decode cX6_takeNumberIn 18 = .ok (.ireturn, 1) := by decide +kernel
theorem dX6_takeNumberIn_19 : decode cX6_takeNumberIn 19 = .ok (.aload_n 0, 1) := by decide +kernel
theorem dX6_takeNumberIn_20 : decode cX6_takeNumberIn 20 = .ok (.getfield 12, 3) := by decide +kernel
theorem dX6_takeNumberIn_23 : decode cX6_takeNumberIn 23 = .ok (.getfield 133, 3) := by decide +kernel
theorem dX6_takeNumberIn_26 : decode cX6_takeNumberIn 26 = .ok (.iload_n 1, 1) := by decide +kernel
theorem dX6_takeNumberIn_27 : decode cX6_takeNumberIn 27 = .ok (.if_icmp .lt 14, 3) := by decide +kernel
theorem dX6_takeNumberIn_30 : decode cX6_takeNumberIn 30 = .ok (.aload_n 0, 1) := by decide +kernel
theorem dX6_takeNumberIn_31 : decode cX6_takeNumberIn 31 = .ok (.getfield 12, 3) := by decide +kernel
theorem dX6_takeNumberIn_34 : decode cX6_takeNumberIn 34 = .ok (.getfield 133, 3) := by decide +kernel
theorem dX6_takeNumberIn_37 : decode cX6_takeNumberIn 37 = .ok (.iload_n 2, 1) := by decide +kernel
theorem dX6_takeNumberIn_38 : decode cX6_takeNumberIn 38 = .ok (.if_icmp .le 11, 3) := by decide +kernel
theorem dX6_takeNumberIn_41 : decode cX6_takeNumberIn 41 = .ok (.aload_n 0, 1) := by decide +kernel
theorem dX6_takeNumberIn_42 : decode cX6_takeNumberIn 42 = .ok (.iconst 4, 1) := by decide +kernel
theorem dX6_takeNumberIn_43 : decode cX6_takeNumberIn 43 = .ok (.invokevirtual 88, 3) := by decide +kernel
theorem dX6_takeNumberIn_46 : decode cX6_takeNumberIn 46 = .ok (.pop, 1) := by decide +kernel
theorem dX6_takeNumberIn_47 : decode cX6_takeNumberIn 47 = .ok (.iconst (-1), 1) := by decide +kernel
theorem dX6_takeNumberIn_48 : decode cX6_takeNumberIn 48 = .ok (.ireturn, 1) := by decide +kernel
theorem dX6_takeNumberIn_49 : decode cX6_takeNumberIn 49 = .ok (.iload_n 3, 1) := by decide +kernel
theorem dX6_takeNumberIn_50 : decode cX6_takeNumberIn 50 = .ok (.ifCond .ne 11, 3) := by decide +kernel
theorem dX6_takeNumberIn_53 : decode cX6_takeNumberIn 53 = .ok (.aload_n 0, 1) := by decide +kernel
theorem dX6_takeNumberIn_54 : decode cX6_takeNumberIn 54 = .ok (.iconst 5, 1) := by decide +kernel
theorem dX6_takeNumberIn_55 : decode cX6_takeNumberIn 55 = .ok (.invokevirtual 88, 3) := by decide +kernel
theorem dX6_takeNumberIn_58 : decode cX6_takeNumberIn 58 = .ok (.pop, 1) := by decide +kernel
theorem dX6_takeNumberIn_59 : decode cX6_takeNumberIn 59 = .ok (.iconst (-1), 1) := by decide +kernel
theorem dX6_takeNumberIn_60 : decode cX6_takeNumberIn 60 = .ok (.ireturn, 1) := by decide +kernel
theorem dX6_takeNumberIn_61 : decode cX6_takeNumberIn 61 = .ok (.aload_n 0, 1) := by decide +kernel
theorem dX6_takeNumberIn_62 : decode cX6_takeNumberIn 62 = .ok (.getfield 12, 3) := by decide +kernel
theorem dX6_takeNumberIn_65 : decode cX6_takeNumberIn 65 = .ok (.getfield 133, 3) := by decide +kernel
theorem dX6_takeNumberIn_68 : decode cX6_takeNumberIn 68 = .ok (.istore 4, 2) := by decide +kernel
theorem dX6_takeNumberIn_70 : decode cX6_takeNumberIn 70 = .ok (.aload_n 0, 1) := by decide +kernel
theorem dX6_takeNumberIn_71 : decode cX6_takeNumberIn 71 = .ok (.getfield 12, 3) := by decide +kernel
theorem dX6_takeNumberIn_74 : decode cX6_takeNumberIn 74 = .ok (.invokevirtual 98, 3) := by decide +kernel
theorem dX6_takeNumberIn_77 : decode cX6_takeNumberIn 77 = .ok (.iload 4, 2) := by decide +kernel
theorem dX6_takeNumberIn_79 : decode cX6_takeNumberIn 79 = .ok (.ireturn, 1) := by decide +kernel
theorem dX6_takeTold_0 : decode cX6_takeTold 0 = .ok (.aload_n 0, 1) := by decide +kernel
theorem dX6_takeTold_1 : decode cX6_takeTold 1 = .ok (.invokevirtual 188, 3) := by decide +kernel
theorem dX6_takeTold_4 : decode cX6_takeTold 4 = .ok (.ifCond .ne 11, 3) := by decide +kernel
theorem dX6_takeTold_7 : decode cX6_takeTold 7 = .ok (.aload_n 0, 1) := by decide +kernel
theorem dX6_takeTold_8 : decode cX6_takeTold 8 = .ok (.iconst 1, 1) := by decide +kernel
theorem dX6_takeTold_9 : decode cX6_takeTold 9 = .ok (.invokevirtual 88, 3) := by decide +kernel
theorem dX6_takeTold_12 : decode cX6_takeTold 12 = .ok (.pop, 1) := by decide +kernel
theorem dX6_takeTold_13 : decode cX6_takeTold 13 = .ok (.iconst (-1), 1) := by decide +kernel
theorem dX6_takeTold_14 : decode cX6_takeTold 14 = .ok (.ireturn, 1) := by decide +kernel
theorem dX6_takeTold_15 : decode cX6_takeTold 15 = .ok (.aload_n 0, 1) := by decide +kernel
theorem dX6_takeTold_16 : decode cX6_takeTold 16 = .ok (.getfield 21, 3) := by decide +kernel
theorem dX6_takeTold_19 : decode cX6_takeTold 19 = .ok (.aload_n 0, 1) := by decide +kernel
theorem dX6_takeTold_20 : decode cX6_takeTold 20 = .ok (.getfield 12, 3) := by decide +kernel
theorem dX6_takeTold_23 : decode cX6_takeTold 23 = .ok (.getfield 104, 3) := by decide +kernel
theorem dX6_takeTold_26 : decode cX6_takeTold 26 = .ok (.invokevirtual 191, 3) := by decide +kernel
theorem dX6_takeTold_29 : decode cX6_takeTold 29 = .ok (.istore_n 3, 1) := by decide +kernel
theorem dX6_takeTold_30 : decode cX6_takeTold 30 = .ok (.iload_n 3, 1) := by decide +kernel
theorem dX6_takeTold_31 : decode cX6_takeTold 31 = .ok (.iload_n 1, 1) := by decide +kernel
theorem dX6_takeTold_32 : decode cX6_takeTold 32 = .ok (.if_icmp .lt 8, 3) := by decide +kernel
theorem dX6_takeTold_35 : decode cX6_takeTold 35 = .ok (.iload_n 3, 1) := by decide +kernel
theorem dX6_takeTold_36 : decode cX6_takeTold 36 = .ok (.iload_n 2, 1) := by decide +kernel
theorem dX6_takeTold_37 : decode cX6_takeTold 37 = .ok (.if_icmp .lt 11, 3) := by decide +kernel
theorem dX6_takeTold_40 : decode cX6_takeTold 40 = .ok (.aload_n 0, 1) := by decide +kernel
theorem dX6_takeTold_41 : decode cX6_takeTold 41 = .ok (.iconst 3, 1) := by decide +kernel
theorem dX6_takeTold_42 : decode cX6_takeTold 42 = .ok (.invokevirtual 88, 3) := by decide +kernel
theorem dX6_takeTold_45 : decode cX6_takeTold 45 = .ok (.pop, 1) := by decide +kernel
theorem dX6_takeTold_46 : decode cX6_takeTold 46 = .ok (.iconst (-1), 1) := by decide +kernel
theorem dX6_takeTold_47 : decode cX6_takeTold 47 = .ok (.ireturn, 1) := by decide +kernel
theorem dX6_takeTold_48 : decode cX6_takeTold 48 = .ok (.aload_n 0, 1) := by decide +kernel
theorem dX6_takeTold_49 : decode cX6_takeTold 49 = .ok (.getfield 12, 3) := by decide +kernel
theorem dX6_takeTold_52 : decode cX6_takeTold 52 = .ok (.invokevirtual 98, 3) := by decide +kernel
theorem dX6_takeTold_55 : decode cX6_takeTold 55 = .ok (.iload_n 3, 1) := by decide +kernel
theorem dX6_takeTold_56 : decode cX6_takeTold 56 = .ok (.iload_n 1, 1) := by decide +kernel
theorem dX6_takeTold_57 : decode cX6_takeTold 57 = .ok (.isub, 1) := by decide +kernel
theorem dX6_takeTold_58 : decode cX6_takeTold 58 = .ok (.ireturn, 1) := by decide +kernel
theorem dX6_readMarks_0 : decode cX6_readMarks 0 = .ok (.iconst 0, 1) := by decide +kernel
theorem dX6_readMarks_1 : decode cX6_readMarks 1 = .ok (.istore_n 2, 1) := by decide +kernel
theorem dX6_readMarks_2 : decode cX6_readMarks 2 = .ok (.iload_n 2, 1) := by decide +kernel
theorem dX6_readMarks_3 : decode cX6_readMarks 3 = .ok (.iconst 3, 1) := by decide +kernel
theorem dX6_readMarks_4 : decode cX6_readMarks 4 = .ok (.if_icmp .gt 74, 3) := by decide +kernel
theorem dX6_readMarks_7 : decode cX6_readMarks 7 = .ok (.aload_n 0, 1) := by decide +kernel
theorem dX6_readMarks_8 : decode cX6_readMarks 8 = .ok (.getfield 12, 3) := by decide +kernel
theorem dX6_readMarks_11 : decode cX6_readMarks 11 = .ok (.getfield 40, 3) := by decide +kernel
theorem dX6_readMarks_14 : decode cX6_readMarks 14 = .ok (.iconst 2, 1) := by decide +kernel
theorem dX6_readMarks_15 : decode cX6_readMarks 15 = .ok (.if_icmp .ne 63, 3) := by decide +kernel
theorem dX6_readMarks_18 : decode cX6_readMarks 18 = .ok (.aload_n 1, 1) := by decide +kernel
theorem dX6_readMarks_19 : decode cX6_readMarks 19 = .ok (.aload_n 0, 1) := by decide +kernel
theorem dX6_readMarks_20 : decode cX6_readMarks 20 = .ok (.getfield 12, 3) := by decide +kernel
theorem dX6_readMarks_23 : decode cX6_readMarks 23 = .ok (.getfield 133, 3) := by decide +kernel
theorem dX6_readMarks_26 : decode cX6_readMarks 26 = .ok (.invokevirtual 136, 3) := by decide +kernel
theorem dX6_readMarks_29 : decode cX6_readMarks 29 = .ok (.ifCond .eq 9, 3) := by decide +kernel
theorem dX6_readMarks_32 : decode cX6_readMarks 32 = .ok (.aload_n 0, 1) := by decide +kernel
theorem dX6_readMarks_33 : decode cX6_readMarks 33 = .ok (.iconst 2, 1) := by decide +kernel
theorem dX6_readMarks_34 : decode cX6_readMarks 34 = .ok (.invokevirtual 88, 3) := by decide +kernel
theorem dX6_readMarks_37 : decode cX6_readMarks 37 = .ok (.ireturn, 1) := by decide +kernel
theorem dX6_readMarks_38 : decode cX6_readMarks 38 = .ok (.aload_n 0, 1) := by decide +kernel
theorem dX6_readMarks_39 : decode cX6_readMarks 39 = .ok (.iconst 1, 1) := by decide +kernel
theorem dX6_readMarks_40 : decode cX6_readMarks 40 = .ok (.sipush 9999, 3) := by decide +kernel
theorem dX6_readMarks_43 : decode cX6_readMarks 43 = .ok (.aload_n 1, 1) := by decide +kernel
theorem dX6_readMarks_44 : decode cX6_readMarks 44 = .ok (.getfield 139, 3) := by decide +kernel
theorem dX6_readMarks_47 : decode cX6_readMarks 47 = .ok (.iconst 3, 1) := by decide +kernel
theorem dX6_readMarks_48 : decode cX6_readMarks 48 = .ok (.if_icmp .ge 7, 3) := by decide +kernel
theorem dX6_readMarks_51 : decode cX6_readMarks 51 = .ok (.iconst 1, 1) := by decide +kernel
theorem dX6_readMarks_52 : decode cX6_readMarks 52 = .ok (.goto 4, 3) := by decide +kernel
theorem dX6_readMarks_55 : decode cX6_readMarks 55 = .ok (.iconst 0, 1) := by decide +kernel
theorem dX6_readMarks_56 : decode cX6_readMarks 56 = .ok (.invokevirtual 142, 3) := by decide +kernel
theorem dX6_readMarks_59 : decode cX6_readMarks 59 = .ok (.istore_n 3, 1) := by decide +kernel
theorem dX6_readMarks_60 : decode cX6_readMarks 60 = .ok (.iload_n 3, 1) := by decide +kernel
theorem dX6_readMarks_61 : decode cX6_readMarks 61 = .ok (.iconst (-1), 1) := by decide +kernel
theorem dX6_readMarks_62 : decode cX6_readMarks 62 = .ok (.if_icmp .ne 5, 3) := by decide +kernel
theorem dX6_readMarks_65 : decode cX6_readMarks 65 = .ok (.iconst 0, 1) := by decide +kernel
theorem dX6_readMarks_66 : decode cX6_readMarks 66 = .ok (.ireturn, 1) := by decide +kernel
theorem dX6_readMarks_67 : decode cX6_readMarks 67 = .ok (.aload_n 1, 1) := by decide +kernel
theorem dX6_readMarks_68 : decode cX6_readMarks 68 = .ok (.iload_n 3, 1) := by decide +kernel
theorem dX6_readMarks_69 : decode cX6_readMarks 69 = .ok (.invokevirtual 146, 3) := by decide +kernel
theorem dX6_readMarks_72 : decode cX6_readMarks 72 = .ok (.iinc 2 1, 3) := by decide +kernel
theorem dX6_readMarks_75 : decode cX6_readMarks 75 = .ok (.goto (-73), 3) := by decide +kernel
theorem dX6_readMarks_78 : decode cX6_readMarks 78 = .ok (.iconst 1, 1) := by decide +kernel
theorem dX6_readMarks_79 : decode cX6_readMarks 79 = .ok (.ireturn, 1) := by decide +kernel
theorem dX6_readParts_0 : decode cX6_readParts 0 = .ok (.iconst 0, 1) := by decide +kernel
theorem dX6_readParts_1 : decode cX6_readParts 1 = .ok (.istore_n 2, 1) := by decide +kernel
theorem dX6_readParts_2 : decode cX6_readParts 2 = .ok (.iload_n 2, 1) := by decide +kernel
theorem dX6_readParts_3 : decode cX6_readParts 3 = .ok (.iconst 5, 1) := by decide +kernel
theorem dX6_readParts_4 : decode cX6_readParts 4 = .ok (.if_icmp .gt 113, 3) := by decide +kernel
theorem dX6_readParts_7 : decode cX6_readParts 7 = .ok (.aload_n 0, 1) := by decide +kernel
theorem dX6_readParts_8 : decode cX6_readParts 8 = .ok (.invokevirtual 188, 3) := by decide +kernel
theorem dX6_readParts_11 : decode cX6_readParts 11 = .ok (.ifCond .eq 106, 3) := by decide +kernel
theorem dX6_readParts_14 : decode cX6_readParts 14 = .ok (.aload_n 0, 1) := by decide +kernel
theorem dX6_readParts_15 : decode cX6_readParts 15 = .ok (.getfield 21, 3) := by decide +kernel
theorem dX6_readParts_18 : decode cX6_readParts 18 = .ok (.aload_n 0, 1) := by decide +kernel
theorem dX6_readParts_19 : decode cX6_readParts 19 = .ok (.getfield 12, 3) := by decide +kernel
theorem dX6_readParts_22 : decode cX6_readParts 22 = .ok (.getfield 104, 3) := by decide +kernel
theorem dX6_readParts_25 : decode cX6_readParts 25 = .ok (.invokevirtual 191, 3) := by decide +kernel
theorem dX6_readParts_28 : decode cX6_readParts 28 = .ok (.istore_n 3, 1) := by decide +kernel
theorem dX6_readParts_29 : decode cX6_readParts 29 = .ok (.iload_n 3, 1) := by decide +kernel
theorem dX6_readParts_30 : decode cX6_readParts 30 = .ok (.iconst (-1), 1) := by decide +kernel
theorem dX6_readParts_31 : decode cX6_readParts 31 = .ok (.if_icmp .eq 17, 3) := by decide +kernel
theorem dX6_readParts_34 : decode cX6_readParts 34 = .ok (.aload_n 1, 1) := by decide +kernel
theorem dX6_readParts_35 : decode cX6_readParts 35 = .ok (.iload_n 3, 1) := by decide +kernel
theorem dX6_readParts_36 : decode cX6_readParts 36 = .ok (.invokevirtual 195, 3) := by decide +kernel
theorem dX6_readParts_39 : decode cX6_readParts 39 = .ok (.ifCond .eq 9, 3) := by decide +kernel
theorem dX6_readParts_42 : decode cX6_readParts 42 = .ok (.aload_n 0, 1) := by decide +kernel
theorem dX6_readParts_43 : decode cX6_readParts 43 = .ok (.iconst 2, 1) := by decide +kernel
theorem dX6_readParts_44 : decode cX6_readParts 44 = .ok (.invokevirtual 88, 3) := by decide +kernel
theorem dX6_readParts_47 : decode cX6_readParts 47 = .ok (.ireturn, 1) := by decide +kernel
theorem dX6_readParts_48 : decode cX6_readParts 48 = .ok (.iload_n 3, 1) := by decide +kernel
theorem dX6_readParts_49 : decode cX6_readParts 49 = .ok (.iconst (-1), 1) := by decide +kernel
theorem dX6_readParts_50 : decode cX6_readParts 50 = .ok (.if_icmp .eq 9, 3) := by decide +kernel
theorem dX6_readParts_53 : decode cX6_readParts 53 = .ok (.iload_n 3, 1) := by decide +kernel
theorem dX6_readParts_54 : decode cX6_readParts 54 = .ok (.bipush 17, 2) := by decide +kernel
theorem dX6_readParts_56 : decode cX6_readParts 56 = .ok (.if_icmp .lt 9, 3) := by decide +kernel
theorem dX6_readParts_59 : decode cX6_readParts 59 = .ok (.aload_n 0, 1) := by decide +kernel
theorem dX6_readParts_60 : decode cX6_readParts 60 = .ok (.iconst 3, 1) := by decide +kernel
theorem dX6_readParts_61 : decode cX6_readParts 61 = .ok (.invokevirtual 88, 3) := by decide +kernel
theorem dX6_readParts_64 : decode cX6_readParts 64 = .ok (.ireturn, 1) := by decide +kernel
theorem dX6_readParts_65 : decode cX6_readParts 65 = .ok (.aload_n 1, 1) := by decide +kernel
theorem dX6_readParts_66 : decode cX6_readParts 66 = .ok (.getfield 181, 3) := by decide +kernel
theorem dX6_readParts_69 : decode cX6_readParts 69 = .ok (.iconst 5, 1) := by decide +kernel
theorem dX6_readParts_70 : decode cX6_readParts 70 = .ok (.if_icmp .lt 9, 3) := by decide +kernel
theorem dX6_readParts_73 : decode cX6_readParts 73 = .ok (.aload_n 0, 1) := by decide +kernel
theorem dX6_readParts_74 : decode cX6_readParts 74 = .ok (.iconst 5, 1) := by decide +kernel
theorem dX6_readParts_75 : decode cX6_readParts 75 = .ok (.invokevirtual 88, 3) := by decide +kernel
theorem dX6_readParts_78 : decode cX6_readParts 78 = .ok (.ireturn, 1) := by decide +kernel
theorem dX6_readParts_79 : decode cX6_readParts 79 = .ok (.aload_n 0, 1) := by decide +kernel
theorem dX6_readParts_80 : decode cX6_readParts 80 = .ok (.getfield 12, 3) := by decide +kernel
theorem dX6_readParts_83 : decode cX6_readParts 83 = .ok (.invokevirtual 98, 3) := by decide +kernel
theorem dX6_readParts_86 : decode cX6_readParts 86 = .ok (.aload_n 0, 1) := by decide +kernel
theorem dX6_readParts_87 : decode cX6_readParts 87 = .ok (.iconst 0, 1) := by decide +kernel
theorem dX6_readParts_88 : decode cX6_readParts 88 = .ok (.bipush 99, 2) := by decide +kernel
theorem dX6_readParts_90 : decode cX6_readParts 90 = .ok (.iconst 1, 1) := by decide +kernel
theorem dX6_readParts_91 : decode cX6_readParts 91 = .ok (.invokevirtual 142, 3) := by decide +kernel
theorem dX6_readParts_94 : decode cX6_readParts 94 = .ok (.istore 4, 2) := by decide +kernel
theorem dX6_readParts_96 : decode cX6_readParts 96 = .ok (.iload 4, 2) := by decide +kernel
theorem dX6_readParts_98 : decode cX6_readParts 98 = .ok (.iconst (-1), 1) := by decide +kernel
theorem dX6_readParts_99 : decode cX6_readParts 99 = .ok (.if_icmp .ne 5, 3) := by decide +kernel
theorem dX6_readParts_102 : decode cX6_readParts 102 = .ok (.iconst 0, 1) := by decide +kernel
theorem dX6_readParts_103 : decode cX6_readParts 103 = .ok (.ireturn, 1) := by decide +kernel
theorem dX6_readParts_104 : decode cX6_readParts 104 = .ok (.aload_n 1, 1) := by decide +kernel
theorem dX6_readParts_105 : decode cX6_readParts 105 = .ok (.iload_n 3, 1) := by decide +kernel
theorem dX6_readParts_106 : decode cX6_readParts 106 = .ok (.iload 4, 2) := by decide +kernel
theorem dX6_readParts_108 : decode cX6_readParts 108 = .ok (.invokevirtual 198, 3) := by decide +kernel
theorem dX6_readParts_111 : decode cX6_readParts 111 = .ok (.iinc 2 1, 3) := by decide +kernel
theorem dX6_readParts_114 : decode cX6_readParts 114 = .ok (.goto (-112), 3) := by decide +kernel
theorem dX6_readParts_117 : decode cX6_readParts 117 = .ok (.iconst 1, 1) := by decide +kernel
theorem dX6_readParts_118 : decode cX6_readParts 118 = .ok (.ireturn, 1) := by decide +kernel
theorem dX6_readHigh_0 : decode cX6_readHigh 0 = .ok (.aload_n 0, 1) := by decide +kernel
theorem dX6_readHigh_1 : decode cX6_readHigh 1 = .ok (.getfield 21, 3) := by decide +kernel
theorem dX6_readHigh_4 : decode cX6_readHigh 4 = .ok (.getfield 202, 3) := by decide +kernel
theorem dX6_readHigh_7 : decode cX6_readHigh 7 = .ok (.bipush 6, 2) := by decide +kernel
theorem dX6_readHigh_9 : decode cX6_readHigh 9 = .ok (.if_icmp .lt 9, 3) := by decide +kernel
theorem dX6_readHigh_12 : decode cX6_readHigh 12 = .ok (.aload_n 0, 1) := by decide +kernel
theorem dX6_readHigh_13 : decode cX6_readHigh 13 = .ok (.iconst 5, 1) := by decide +kernel
theorem dX6_readHigh_14 : decode cX6_readHigh 14 = .ok (.invokevirtual 88, 3) := by decide +kernel
theorem dX6_readHigh_17 : decode cX6_readHigh 17 = .ok (.ireturn, 1) := by decide +kernel
theorem dX6_readHigh_18 : decode cX6_readHigh 18 = .ok (.aload_n 0, 1) := by decide +kernel
theorem dX6_readHigh_19 : decode cX6_readHigh 19 = .ok (.getfield 12, 3) := by decide +kernel
theorem dX6_readHigh_22 : decode cX6_readHigh 22 = .ok (.invokevirtual 98, 3) := by decide +kernel
theorem dX6_readHigh_25 : decode cX6_readHigh 25 = .ok (.aload_n 0, 1) := by decide +kernel
theorem dX6_readHigh_26 : decode cX6_readHigh 26 = .ok (.bipush 17, 2) := by decide +kernel
theorem dX6_readHigh_28 : decode cX6_readHigh 28 = .ok (.bipush 27, 2) := by decide +kernel
theorem dX6_readHigh_30 : decode cX6_readHigh 30 = .ok (.invokevirtual 205, 3) := by decide +kernel
theorem dX6_readHigh_33 : decode cX6_readHigh 33 = .ok (.istore_n 1, 1) := by decide +kernel
theorem dX6_readHigh_34 : decode cX6_readHigh 34 = .ok (.iload_n 1, 1) := by decide +kernel
theorem dX6_readHigh_35 : decode cX6_readHigh 35 = .ok (.iconst (-1), 1) := by decide +kernel
theorem dX6_readHigh_36 : decode cX6_readHigh 36 = .ok (.if_icmp .ne 5, 3) := by decide +kernel
theorem dX6_readHigh_39 : decode cX6_readHigh 39 = .ok (.iconst 0, 1) := by decide +kernel
theorem dX6_readHigh_40 : decode cX6_readHigh 40 = .ok (.ireturn, 1) := by decide +kernel
theorem dX6_readHigh_41 : decode cX6_readHigh 41 = .ok (.aload_n 0, 1) := by decide +kernel
theorem dX6_readHigh_42 : decode cX6_readHigh 42 = .ok (.iconst 0, 1) := by decide +kernel
theorem dX6_readHigh_43 : decode cX6_readHigh 43 = .ok (.ldc 180, 2) := by decide +kernel
theorem dX6_readHigh_45 : decode cX6_readHigh 45 = .ok (.iconst 1, 1) := by decide +kernel
theorem dX6_readHigh_46 : decode cX6_readHigh 46 = .ok (.invokevirtual 142, 3) := by decide +kernel
theorem dX6_readHigh_49 : decode cX6_readHigh 49 = .ok (.istore_n 2, 1) := by decide +kernel
theorem dX6_readHigh_50 : decode cX6_readHigh 50 = .ok (.iload_n 2, 1) := by decide +kernel
theorem dX6_readHigh_51 : decode cX6_readHigh 51 = .ok (.iconst (-1), 1) := by decide +kernel
theorem dX6_readHigh_52 : decode cX6_readHigh 52 = .ok (.if_icmp .eq 13, 3) := by decide +kernel
theorem dX6_readHigh_55 : decode cX6_readHigh 55 = .ok (.aload_n 0, 1) := by decide +kernel
theorem dX6_readHigh_56 : decode cX6_readHigh 56 = .ok (.ldc2_w 209, 3) := by decide +kernel
theorem dX6_readHigh_59 : decode cX6_readHigh 59 = .ok (.invokevirtual 177, 3) := by decide +kernel
theorem dX6_readHigh_62 : decode cX6_readHigh 62 = .ok (.ifCond .ne 5, 3) := by decide +kernel
theorem dX6_readHigh_65 : decode cX6_readHigh 65 = .ok (.iconst 0, 1) := by decide +kernel
theorem dX6_readHigh_66 : decode cX6_readHigh 66 = .ok (.ireturn, 1) := by decide +kernel
theorem dX6_readHigh_67 : decode cX6_readHigh 67 = .ok (.aload_n 0, 1) := by decide +kernel
theorem dX6_readHigh_68 : decode cX6_readHigh 68 = .ok (.iconst 0, 1) := by decide +kernel
theorem dX6_readHigh_69 : decode cX6_readHigh 69 = .ok (.sipush 999, 3) := by decide +kernel
theorem dX6_readHigh_72 : decode cX6_readHigh 72 = .ok (.iconst 1, 1) := by decide +kernel
theorem dX6_readHigh_73 : decode cX6_readHigh 73 = .ok (.invokevirtual 142, 3) := by decide +kernel
theorem dX6_readHigh_76 : decode cX6_readHigh 76 = .ok (.istore_n 3, 1) := by decide +kernel
theorem dX6_readHigh_77 : decode cX6_readHigh 77 = .ok (.iload_n 3, 1) := by decide +kernel
theorem dX6_readHigh_78 : decode cX6_readHigh 78 = .ok (.iconst (-1), 1) := by decide +kernel
theorem dX6_readHigh_79 : decode cX6_readHigh 79 = .ok (.if_icmp .eq 13, 3) := by decide +kernel
theorem dX6_readHigh_82 : decode cX6_readHigh 82 = .ok (.aload_n 0, 1) := by decide +kernel
theorem dX6_readHigh_83 : decode cX6_readHigh 83 = .ok (.ldc2_w 211, 3) := by decide +kernel
theorem dX6_readHigh_86 : decode cX6_readHigh 86 = .ok (.invokevirtual 177, 3) := by decide +kernel
theorem dX6_readHigh_89 : decode cX6_readHigh 89 = .ok (.ifCond .ne 5, 3) := by decide +kernel
theorem dX6_readHigh_92 : decode cX6_readHigh 92 = .ok (.iconst 0, 1) := by decide +kernel
theorem dX6_readHigh_93 : decode cX6_readHigh 93 = .ok (.ireturn, 1) := by decide +kernel
theorem dX6_readHigh_94 : decode cX6_readHigh 94 = .ok (.aload_n 0, 1) := by decide +kernel
theorem dX6_readHigh_95 : decode cX6_readHigh 95 = .ok (.iload_n 3, 1) := by decide +kernel
theorem dX6_readHigh_96 : decode cX6_readHigh 96 = .ok (.sipush 999, 3) := by decide +kernel
theorem dX6_readHigh_99 : decode cX6_readHigh 99 = .ok (.iconst 1, 1) := by decide +kernel
theorem dX6_readHigh_100 : decode cX6_readHigh 100 = .ok (.invokevirtual 142, 3) := by decide +kernel
theorem dX6_readHigh_103 : decode cX6_readHigh 103 = .ok (.istore 4, 2) := by decide +kernel
theorem dX6_readHigh_105 : decode cX6_readHigh 105 = .ok (.iload 4, 2) := by decide +kernel
theorem dX6_readHigh_107 : decode cX6_readHigh 107 = .ok (.iconst (-1), 1) := by decide +kernel
theorem dX6_readHigh_108 : decode cX6_readHigh 108 = .ok (.if_icmp .eq 10, 3) := by decide +kernel
theorem dX6_readHigh_111 : decode cX6_readHigh 111 = .ok (.aload_n 0, 1) := by decide +kernel
theorem dX6_readHigh_112 : decode cX6_readHigh 112 = .ok (.invokevirtual 127, 3) := by decide +kernel
theorem dX6_readHigh_115 : decode cX6_readHigh 115 = .ok (.ifCond .ne 5, 3) := by decide +kernel
theorem dX6_readHigh_118 : decode cX6_readHigh 118 = .ok (.iconst 0, 1) := by decide +kernel
theorem dX6_readHigh_119 : decode cX6_readHigh 119 = .ok (.ireturn, 1) := by decide +kernel
theorem dX6_readHigh_120 : decode cX6_readHigh 120 = .ok (.aload_n 0, 1) := by decide +kernel
theorem dX6_readHigh_121 : decode cX6_readHigh 121 = .ok (.getfield 21, 3) := by decide +kernel
theorem dX6_readHigh_124 : decode cX6_readHigh 124 = .ok (.getfield 213, 3) := by decide +kernel
theorem dX6_readHigh_127 : decode cX6_readHigh 127 = .ok (.aload_n 0, 1) := by decide +kernel
theorem dX6_readHigh_128 : decode cX6_readHigh 128 = .ok (.getfield 21, 3) := by decide +kernel
theorem dX6_readHigh_131 : decode cX6_readHigh 131 = .ok (.getfield 202, 3) := by decide +kernel
theorem dX6_readHigh_134 : decode cX6_readHigh 134 = .ok (.aaload, 1) := by decide +kernel
theorem dX6_readHigh_135 : decode cX6_readHigh 135 = .ok (.iload_n 1, 1) := by decide +kernel
theorem dX6_readHigh_136 : decode cX6_readHigh 136 = .ok (.iload_n 2, 1) := by decide +kernel
theorem dX6_readHigh_137 : decode cX6_readHigh 137 = .ok (.iload_n 3, 1) := by decide +kernel
theorem dX6_readHigh_138 : decode cX6_readHigh 138 = .ok (.iload 4, 2) := by decide +kernel
theorem dX6_readHigh_140 : decode cX6_readHigh 140 = .ok (.invokevirtual 217, 3) := by decide +kernel
theorem dX6_readHigh_143 : decode cX6_readHigh 143 = .ok (.aload_n 0, 1) := by decide +kernel
theorem dX6_readHigh_144 : decode cX6_readHigh 144 = .ok (.getfield 21, 3) := by decide +kernel
theorem dX6_readHigh_147 : decode cX6_readHigh 147 = .ok (.dup, 1) := by decide +kernel
theorem dX6_readHigh_148 : decode cX6_readHigh 148 = .ok (.getfield 202, 3) := by decide +kernel
theorem dX6_readHigh_151 : decode cX6_readHigh 151 = .ok (.iconst 1, 1) := by decide +kernel
theorem dX6_readHigh_152 : decode cX6_readHigh 152 = .ok (.iadd, 1) := by decide +kernel
theorem dX6_readHigh_153 : decode cX6_readHigh 153 = .ok (.putfield 202, 3) := by decide +kernel
theorem dX6_readHigh_156 : decode cX6_readHigh 156 = .ok (.iconst 1, 1) := by decide +kernel
theorem dX6_readHigh_157 : decode cX6_readHigh 157 = .ok (.ireturn, 1) := by decide +kernel
theorem dX6_readLoan_0 : decode cX6_readLoan 0 = .ok (.aload_n 0, 1) := by decide +kernel
theorem dX6_readLoan_1 : decode cX6_readLoan 1 = .ok (.getfield 21, 3) := by decide +kernel
theorem dX6_readLoan_4 : decode cX6_readLoan 4 = .ok (.getfield 223, 3) := by decide +kernel
theorem dX6_readLoan_7 : decode cX6_readLoan 7 = .ok (.bipush 8, 2) := by decide +kernel
theorem dX6_readLoan_9 : decode cX6_readLoan 9 = .ok (.if_icmp .lt 9, 3) := by decide +kernel
theorem dX6_readLoan_12 : decode cX6_readLoan 12 = .ok (.aload_n 0, 1) := by decide +kernel
theorem dX6_readLoan_13 : decode cX6_readLoan 13 = .ok (.iconst 5, 1) := by decide +kernel
theorem dX6_readLoan_14 : decode cX6_readLoan 14 = .ok (.invokevirtual 88, 3) := by decide +kernel
theorem dX6_readLoan_17 : decode cX6_readLoan 17 = .ok (.ireturn, 1) := by decide +kernel
theorem dX6_readLoan_18 : decode cX6_readLoan 18 = .ok (.aload_n 0, 1) := by decide +kernel
theorem dX6_readLoan_19 : decode cX6_readLoan 19 = .ok (.getfield 12, 3) := by decide +kernel
theorem dX6_readLoan_22 : decode cX6_readLoan 22 = .ok (.invokevirtual 98, 3) := by decide +kernel
theorem dX6_readLoan_25 : decode cX6_readLoan 25 = .ok (.aload_n 0, 1) := by decide +kernel
theorem dX6_readLoan_26 : decode cX6_readLoan 26 = .ok (.iconst 0, 1) := by decide +kernel
theorem dX6_readLoan_27 : decode cX6_readLoan 27 = .ok (.bipush 12, 2) := by decide +kernel
theorem dX6_readLoan_29 : decode cX6_readLoan 29 = .ok (.invokevirtual 205, 3) := by decide +kernel
theorem dX6_readLoan_32 : decode cX6_readLoan 32 = .ok (.istore_n 1, 1) := by decide +kernel
theorem dX6_readLoan_33 : decode cX6_readLoan 33 = .ok (.iload_n 1, 1) := by decide +kernel
theorem dX6_readLoan_34 : decode cX6_readLoan 34 = .ok (.iconst (-1), 1) := by decide +kernel
theorem dX6_readLoan_35 : decode cX6_readLoan 35 = .ok (.if_icmp .ne 5, 3) := by decide +kernel
theorem dX6_readLoan_38 : decode cX6_readLoan 38 = .ok (.iconst 0, 1) := by decide +kernel
theorem dX6_readLoan_39 : decode cX6_readLoan 39 = .ok (.ireturn, 1) := by decide +kernel
theorem dX6_readLoan_40 : decode cX6_readLoan 40 = .ok (.aload_n 0, 1) := by decide +kernel
theorem dX6_readLoan_41 : decode cX6_readLoan 41 = .ok (.iconst 0, 1) := by decide +kernel
theorem dX6_readLoan_42 : decode cX6_readLoan 42 = .ok (.ldc 180, 2) := by decide +kernel
theorem dX6_readLoan_44 : decode cX6_readLoan 44 = .ok (.iconst 1, 1) := by decide +kernel
theorem dX6_readLoan_45 : decode cX6_readLoan 45 = .ok (.invokevirtual 142, 3) := by decide +kernel
theorem dX6_readLoan_48 : decode cX6_readLoan 48 = .ok (.istore_n 2, 1) := by decide +kernel
theorem dX6_readLoan_49 : decode cX6_readLoan 49 = .ok (.iload_n 2, 1) := by decide +kernel
theorem dX6_readLoan_50 : decode cX6_readLoan 50 = .ok (.iconst (-1), 1) := by decide +kernel
theorem dX6_readLoan_51 : decode cX6_readLoan 51 = .ok (.if_icmp .eq 13, 3) := by decide +kernel
theorem dX6_readLoan_54 : decode cX6_readLoan 54 = .ok (.aload_n 0, 1) := by decide +kernel
theorem dX6_readLoan_55 : decode cX6_readLoan 55 = .ok (.ldc2_w 226, 3) := by decide +kernel
theorem dX6_readLoan_58 : decode cX6_readLoan 58 = .ok (.invokevirtual 177, 3) := by decide +kernel
theorem dX6_readLoan_61 : decode cX6_readLoan 61 = .ok (.ifCond .ne 5, 3) := by decide +kernel
theorem dX6_readLoan_64 : decode cX6_readLoan 64 = .ok (.iconst 0, 1) := by decide +kernel
theorem dX6_readLoan_65 : decode cX6_readLoan 65 = .ok (.ireturn, 1) := by decide +kernel
theorem dX6_readLoan_66 : decode cX6_readLoan 66 = .ok (.aload_n 0, 1) := by decide +kernel
theorem dX6_readLoan_67 : decode cX6_readLoan 67 = .ok (.iconst 0, 1) := by decide +kernel
theorem dX6_readLoan_68 : decode cX6_readLoan 68 = .ok (.sipush 999, 3) := by decide +kernel
theorem dX6_readLoan_71 : decode cX6_readLoan 71 = .ok (.iconst 1, 1) := by decide +kernel
theorem dX6_readLoan_72 : decode cX6_readLoan 72 = .ok (.invokevirtual 142, 3) := by decide +kernel
theorem dX6_readLoan_75 : decode cX6_readLoan 75 = .ok (.istore_n 3, 1) := by decide +kernel
theorem dX6_readLoan_76 : decode cX6_readLoan 76 = .ok (.iload_n 3, 1) := by decide +kernel
theorem dX6_readLoan_77 : decode cX6_readLoan 77 = .ok (.iconst (-1), 1) := by decide +kernel
theorem dX6_readLoan_78 : decode cX6_readLoan 78 = .ok (.if_icmp .eq 10, 3) := by decide +kernel
theorem dX6_readLoan_81 : decode cX6_readLoan 81 = .ok (.aload_n 0, 1) := by decide +kernel
theorem dX6_readLoan_82 : decode cX6_readLoan 82 = .ok (.invokevirtual 127, 3) := by decide +kernel
theorem dX6_readLoan_85 : decode cX6_readLoan 85 = .ok (.ifCond .ne 5, 3) := by decide +kernel
theorem dX6_readLoan_88 : decode cX6_readLoan 88 = .ok (.iconst 0, 1) := by decide +kernel
theorem dX6_readLoan_89 : decode cX6_readLoan 89 = .ok (.ireturn, 1) := by decide +kernel
theorem dX6_readLoan_90 : decode cX6_readLoan 90 = .ok (.aload_n 0, 1) := by decide +kernel
theorem dX6_readLoan_91 : decode cX6_readLoan 91 = .ok (.getfield 21, 3) := by decide +kernel
theorem dX6_readLoan_94 : decode cX6_readLoan 94 = .ok (.getfield 228, 3) := by decide +kernel
theorem dX6_readLoan_97 : decode cX6_readLoan 97 = .ok (.aload_n 0, 1) := by decide +kernel
theorem dX6_readLoan_98 : decode cX6_readLoan 98 = .ok (.getfield 21, 3) := by decide +kernel
theorem dX6_readLoan_101 : decode cX6_readLoan 101 = .ok (.getfield 223, 3) := by decide +kernel
theorem dX6_readLoan_104 : decode cX6_readLoan 104 = .ok (.aaload, 1) := by decide +kernel
theorem dX6_readLoan_105 : decode cX6_readLoan 105 = .ok (.iload_n 1, 1) := by decide +kernel
theorem dX6_readLoan_106 : decode cX6_readLoan 106 = .ok (.iload_n 2, 1) := by decide +kernel
theorem dX6_readLoan_107 : decode cX6_readLoan 107 = .ok (.iload_n 3, 1) := by decide +kernel
theorem dX6_readLoan_108 : decode cX6_readLoan 108 = .ok (.sipush 999, 3) := by decide +kernel
theorem dX6_readLoan_111 : decode cX6_readLoan 111 = .ok (.invokevirtual 217, 3) := by decide +kernel
theorem dX6_readLoan_114 : decode cX6_readLoan 114 = .ok (.aload_n 0, 1) := by decide +kernel
theorem dX6_readLoan_115 : decode cX6_readLoan 115 = .ok (.getfield 21, 3) := by decide +kernel
theorem dX6_readLoan_118 : decode cX6_readLoan 118 = .ok (.dup, 1) := by decide +kernel
theorem dX6_readLoan_119 : decode cX6_readLoan 119 = .ok (.getfield 223, 3) := by decide +kernel
theorem dX6_readLoan_122 : decode cX6_readLoan 122 = .ok (.iconst 1, 1) := by decide +kernel
theorem dX6_readLoan_123 : decode cX6_readLoan 123 = .ok (.iadd, 1) := by decide +kernel
theorem dX6_readLoan_124 : decode cX6_readLoan 124 = .ok (.putfield 223, 3) := by decide +kernel
theorem dX6_readLoan_127 : decode cX6_readLoan 127 = .ok (.iconst 1, 1) := by decide +kernel
theorem dX6_readLoan_128 : decode cX6_readLoan 128 = .ok (.ireturn, 1) := by decide +kernel
theorem dX6_readSetting_0 : decode cX6_readSetting 0 = .ok (.aload_n 0, 1) := by decide +kernel
theorem dX6_readSetting_1 : decode cX6_readSetting 1 = .ok (.getfield 21, 3) := by decide +kernel
theorem dX6_readSetting_4 : decode cX6_readSetting 4 = .ok (.getfield 231, 3) := by decide +kernel
theorem dX6_readSetting_7 : decode cX6_readSetting 7 = .ok (.iload_n 1, 1) := by decide +kernel
theorem dX6_readSetting_8 : decode cX6_readSetting 8 = .ok (.iaload, 1) := by decide +kernel
theorem dX6_readSetting_9 : decode cX6_readSetting 9 = .ok (.iconst (-1), 1) := by decide +kernel
theorem dX6_readSetting_10 : decode cX6_readSetting 10 = .ok (.if_icmp .eq 9, 3) := by decide +kernel
theorem dX6_readSetting_13 : decode cX6_readSetting 13 = .ok (.aload_n 0, 1) := by decide +kernel
theorem dX6_readSetting_14 : decode cX6_readSetting 14 = .ok (.iconst 2, 1) := by decide +kernel
theorem dX6_readSetting_15 : decode cX6_readSetting 15 = .ok (.invokevirtual 88, 3) := by decide +kernel
theorem dX6_readSetting_18 : decode cX6_readSetting 18 = .ok (.ireturn, 1) := by decide +kernel
theorem dX6_readSetting_19 : decode cX6_readSetting 19 = .ok (.aload_n 0, 1) := by decide +kernel
theorem dX6_readSetting_20 : decode cX6_readSetting 20 = .ok (.getfield 12, 3) := by decide +kernel
theorem dX6_readSetting_23 : decode cX6_readSetting 23 = .ok (.invokevirtual 98, 3) := by decide +kernel
theorem dX6_readSetting_26 : decode cX6_readSetting 26 = .ok (.aload_n 0, 1) := by decide +kernel
theorem dX6_readSetting_27 : decode cX6_readSetting 27 = .ok (.iconst 0, 1) := by decide +kernel
theorem dX6_readSetting_28 : decode cX6_readSetting 28 = .ok (.iload_n 1, 1) := by decide +kernel
theorem dX6_readSetting_29 : decode cX6_readSetting 29 = .ok (.invokestatic 234, 3) := by decide +kernel
theorem dX6_readSetting_32 : decode cX6_readSetting 32 = .ok (.iconst 1, 1) := by decide +kernel
theorem dX6_readSetting_33 : decode cX6_readSetting 33 = .ok (.invokevirtual 142, 3) := by decide +kernel
theorem dX6_readSetting_36 : decode cX6_readSetting 36 = .ok (.istore_n 2, 1) := by decide +kernel
theorem dX6_readSetting_37 : decode cX6_readSetting 37 = .ok (.iload_n 2, 1) := by decide +kernel
theorem dX6_readSetting_38 : decode cX6_readSetting 38 = .ok (.iconst (-1), 1) := by decide +kernel
theorem dX6_readSetting_39 : decode cX6_readSetting 39 = .ok (.if_icmp .eq 10, 3) := by decide +kernel
theorem dX6_readSetting_42 : decode cX6_readSetting 42 = .ok (.aload_n 0, 1) := by decide +kernel
theorem dX6_readSetting_43 : decode cX6_readSetting 43 = .ok (.invokevirtual 127, 3) := by decide +kernel
theorem dX6_readSetting_46 : decode cX6_readSetting 46 = .ok (.ifCond .ne 5, 3) := by decide +kernel
theorem dX6_readSetting_49 : decode cX6_readSetting 49 = .ok (.iconst 0, 1) := by decide +kernel
theorem dX6_readSetting_50 : decode cX6_readSetting 50 = .ok (.ireturn, 1) := by decide +kernel
theorem dX6_readSetting_51 : decode cX6_readSetting 51 = .ok (.aload_n 0, 1) := by decide +kernel
theorem dX6_readSetting_52 : decode cX6_readSetting 52 = .ok (.getfield 21, 3) := by decide +kernel
theorem dX6_readSetting_55 : decode cX6_readSetting 55 = .ok (.getfield 231, 3) := by decide +kernel
theorem dX6_readSetting_58 : decode cX6_readSetting 58 = .ok (.iload_n 1, 1) := by decide +kernel
theorem dX6_readSetting_59 : decode cX6_readSetting 59 = .ok (.iload_n 2, 1) := by decide +kernel
theorem dX6_readSetting_60 : decode cX6_readSetting 60 = .ok (.iastore, 1) := by decide +kernel
theorem dX6_readSetting_61 : decode cX6_readSetting 61 = .ok (.iconst 1, 1) := by decide +kernel
theorem dX6_readSetting_62 : decode cX6_readSetting 62 = .ok (.ireturn, 1) := by decide +kernel
theorem dX6_readPerson_0 : decode cX6_readPerson 0 = .ok (.aload_n 0, 1) := by decide +kernel
theorem dX6_readPerson_1 : decode cX6_readPerson 1 = .ok (.getfield 21, 3) := by decide +kernel
theorem dX6_readPerson_4 : decode cX6_readPerson 4 = .ok (.getfield 91, 3) := by decide +kernel
theorem dX6_readPerson_7 : decode cX6_readPerson 7 = .ok (.bipush 12, 2) := by decide +kernel
theorem dX6_readPerson_9 : decode cX6_readPerson 9 = .ok (.if_icmp .lt 9, 3) := by decide +kernel
theorem dX6_readPerson_12 : decode cX6_readPerson 12 = .ok (.aload_n 0, 1) := by decide +kernel
theorem dX6_readPerson_13 : decode cX6_readPerson 13 = .ok (.iconst 5, 1) := by decide +kernel
theorem dX6_readPerson_14 : decode cX6_readPerson 14 = .ok (.invokevirtual 88, 3) := by decide +kernel
theorem dX6_readPerson_17 : decode cX6_readPerson 17 = .ok (.ireturn, 1) := by decide +kernel
theorem dX6_readPerson_18 : decode cX6_readPerson 18 = .ok (.aload_n 0, 1) := by decide +kernel
theorem dX6_readPerson_19 : decode cX6_readPerson 19 = .ok (.getfield 21, 3) := by decide +kernel
theorem dX6_readPerson_22 : decode cX6_readPerson 22 = .ok (.getfield 94, 3) := by decide +kernel
theorem dX6_readPerson_25 : decode cX6_readPerson 25 = .ok (.aload_n 0, 1) := by decide +kernel
theorem dX6_readPerson_26 : decode cX6_readPerson 26 = .ok (.getfield 21, 3) := by decide +kernel
theorem dX6_readPerson_29 : decode cX6_readPerson 29 = .ok (.getfield 91, 3) := by decide +kernel
theorem dX6_readPerson_32 : decode cX6_readPerson 32 = .ok (.aaload, 1) := by decide +kernel
theorem dX6_readPerson_33 : decode cX6_readPerson 33 = .ok (.astore_n 1, 1) := by decide +kernel
theorem dX6_readPerson_34 : decode cX6_readPerson 34 = .ok (.aload_n 0, 1) := by decide +kernel
theorem dX6_readPerson_35 : decode cX6_readPerson 35 = .ok (.getfield 12, 3) := by decide +kernel
theorem dX6_readPerson_38 : decode cX6_readPerson 38 = .ok (.invokevirtual 98, 3) := by decide +kernel
theorem dX6_readPerson_41 : decode cX6_readPerson 41 = .ok (.aload_n 0, 1) := by decide +kernel
theorem dX6_readPerson_42 : decode cX6_readPerson 42 = .ok (.invokevirtual 101, 3) := by decide +kernel
theorem dX6_readPerson_45 : decode cX6_readPerson 45 = .ok (.ifCond .ne 5, 3) := by decide +kernel
theorem dX6_readPerson_48 : decode cX6_readPerson 48 = .ok (.iconst 0, 1) := by decide +kernel
theorem dX6_readPerson_49 : decode cX6_readPerson 49 = .ok (.ireturn, 1) := by decide +kernel
theorem dX6_readPerson_50 : decode cX6_readPerson 50 = .ok (.aload_n 1, 1) := by decide +kernel
theorem dX6_readPerson_51 : decode cX6_readPerson 51 = .ok (.aload_n 0, 1) := by decide +kernel
theorem dX6_readPerson_52 : decode cX6_readPerson 52 = .ok (.getfield 12, 3) := by decide +kernel
theorem dX6_readPerson_55 : decode cX6_readPerson 55 = .ok (.getfield 104, 3) := by decide +kernel
theorem dX6_readPerson_58 : decode cX6_readPerson 58 = .ok (.aload_n 0, 1) := by decide +kernel
theorem dX6_readPerson_59 : decode cX6_readPerson 59 = .ok (.getfield 12, 3) := by decide +kernel
theorem dX6_readPerson_62 : decode cX6_readPerson 62 = .ok (.getfield 108, 3) := by decide +kernel
theorem dX6_readPerson_65 : decode cX6_readPerson 65 = .ok (.bipush 97, 2) := by decide +kernel
theorem dX6_readPerson_67 : decode cX6_readPerson 67 = .ok (.isub, 1) := by decide +kernel
theorem dX6_readPerson_68 : decode cX6_readPerson 68 = .ok (.invokevirtual 111, 3) := by decide +kernel
theorem dX6_readPerson_71 : decode cX6_readPerson 71 = .ok (.aload_n 0, 1) := by decide +kernel
theorem dX6_readPerson_72 : decode cX6_readPerson 72 = .ok (.getfield 12, 3) := by decide +kernel
theorem dX6_readPerson_75 : decode cX6_readPerson 75 = .ok (.invokevirtual 98, 3) := by decide +kernel
theorem dX6_readPerson_78 : decode cX6_readPerson 78 = .ok (.aload_n 0, 1) := by decide +kernel
theorem dX6_readPerson_79 : decode cX6_readPerson 79 = .ok (.aload_n 1, 1) := by decide +kernel
theorem dX6_readPerson_80 : decode cX6_readPerson 80 = .ok (.invokevirtual 117, 3) := by decide +kernel
theorem dX6_readPerson_83 : decode cX6_readPerson 83 = .ok (.ifCond .ne 5, 3) := by decide +kernel
theorem dX6_readPerson_86 : decode cX6_readPerson 86 = .ok (.iconst 0, 1) := by decide +kernel
theorem dX6_readPerson_87 : decode cX6_readPerson 87 = .ok (.ireturn, 1) := by decide +kernel
theorem dX6_readPerson_88 : decode cX6_readPerson 88 = .ok (.aload_n 1, 1) := by decide +kernel
theorem dX6_readPerson_89 : decode cX6_readPerson 89 = .ok (.aload_n 0, 1) := by decide +kernel
theorem dX6_readPerson_90 : decode cX6_readPerson 90 = .ok (.ldc2_w 121, 3) := by decide +kernel
theorem dX6_readPerson_93 : decode cX6_readPerson 93 = .ok (.invokevirtual 51, 3) := by decide +kernel
theorem dX6_readPerson_96 : decode cX6_readPerson 96 = .ok (.putfield 123, 3) := by decide +kernel
theorem dX6_readPerson_99 : decode cX6_readPerson 99 = .ok (.aload_n 1, 1) := by decide +kernel
theorem dX6_readPerson_100 : decode cX6_readPerson 100 = .ok (.getfield 123, 3) := by decide +kernel
theorem dX6_readPerson_103 : decode cX6_readPerson 103 = .ok (.ifCond .eq 10, 3) := by decide +kernel
theorem dX6_readPerson_106 : decode cX6_readPerson 106 = .ok (.aload_n 0, 1) := by decide +kernel
theorem dX6_readPerson_107 : decode cX6_readPerson 107 = .ok (.getfield 12, 3) := by decide +kernel
theorem dX6_readPerson_110 : decode cX6_readPerson 110 = .ok (.invokevirtual 98, 3) := by decide +kernel
theorem dX6_readPerson_113 : decode cX6_readPerson 113 = .ok (.aload_n 0, 1) := by decide +kernel
theorem dX6_readPerson_114 : decode cX6_readPerson 114 = .ok (.invokevirtual 127, 3) := by decide +kernel
theorem dX6_readPerson_117 : decode cX6_readPerson 117 = .ok (.ifCond .ne 5, 3) := by decide +kernel
theorem dX6_readPerson_120 : decode cX6_readPerson 120 = .ok (.iconst 0, 1) := by decide +kernel
theorem dX6_readPerson_121 : decode cX6_readPerson 121 = .ok (.ireturn, 1) := by decide +kernel
theorem dX6_readPerson_122 : decode cX6_readPerson 122 = .ok (.aload_n 0, 1) := by decide +kernel
theorem dX6_readPerson_123 : decode cX6_readPerson 123 = .ok (.getfield 21, 3) := by decide +kernel
theorem dX6_readPerson_126 : decode cX6_readPerson 126 = .ok (.invokevirtual 130, 3) := by decide +kernel
theorem dX6_readPerson_129 : decode cX6_readPerson 129 = .ok (.iconst 1, 1) := by decide +kernel
theorem dX6_readPerson_130 : decode cX6_readPerson 130 = .ok (.ireturn, 1) := by decide +kernel
theorem dX6_readTrust_0 : decode cX6_readTrust 0 = .ok (.aload_n 0, 1) := by decide +kernel
theorem dX6_readTrust_1 : decode cX6_readTrust 1 = .ok (.getfield 21, 3) := by decide +kernel
theorem dX6_readTrust_4 : decode cX6_readTrust 4 = .ok (.getfield 149, 3) := by decide +kernel
theorem dX6_readTrust_7 : decode cX6_readTrust 7 = .ok (.iconst 5, 1) := by decide +kernel
theorem dX6_readTrust_8 : decode cX6_readTrust 8 = .ok (.if_icmp .lt 9, 3) := by decide +kernel
theorem dX6_readTrust_11 : decode cX6_readTrust 11 = .ok (.aload_n 0, 1) := by decide +kernel
theorem dX6_readTrust_12 : decode cX6_readTrust 12 = .ok (.iconst 5, 1) := by decide +kernel
theorem dX6_readTrust_13 : decode cX6_readTrust 13 = .ok (.invokevirtual 88, 3) := by decide +kernel
theorem dX6_readTrust_16 : decode cX6_readTrust 16 = .ok (.ireturn, 1) := by decide +kernel
theorem dX6_readTrust_17 : decode cX6_readTrust 17 = .ok (.aload_n 0, 1) := by decide +kernel
theorem dX6_readTrust_18 : decode cX6_readTrust 18 = .ok (.getfield 21, 3) := by decide +kernel
theorem dX6_readTrust_21 : decode cX6_readTrust 21 = .ok (.getfield 152, 3) := by decide +kernel
theorem dX6_readTrust_24 : decode cX6_readTrust 24 = .ok (.aload_n 0, 1) := by decide +kernel
theorem dX6_readTrust_25 : decode cX6_readTrust 25 = .ok (.getfield 21, 3) := by decide +kernel
theorem dX6_readTrust_28 : decode cX6_readTrust 28 = .ok (.getfield 149, 3) := by decide +kernel
theorem dX6_readTrust_31 : decode cX6_readTrust 31 = .ok (.aaload, 1) := by decide +kernel
theorem dX6_readTrust_32 : decode cX6_readTrust 32 = .ok (.astore_n 1, 1) := by decide +kernel
theorem dX6_readTrust_33 : decode cX6_readTrust 33 = .ok (.aload_n 0, 1) := by decide +kernel
theorem dX6_readTrust_34 : decode cX6_readTrust 34 = .ok (.getfield 12, 3) := by decide +kernel
theorem dX6_readTrust_37 : decode cX6_readTrust 37 = .ok (.invokevirtual 98, 3) := by decide +kernel
theorem dX6_readTrust_40 : decode cX6_readTrust 40 = .ok (.aload_n 0, 1) := by decide +kernel
theorem dX6_readTrust_41 : decode cX6_readTrust 41 = .ok (.invokevirtual 101, 3) := by decide +kernel
theorem dX6_readTrust_44 : decode cX6_readTrust 44 = .ok (.ifCond .ne 5, 3) := by decide +kernel
theorem dX6_readTrust_47 : decode cX6_readTrust 47 = .ok (.iconst 0, 1) := by decide +kernel
theorem dX6_readTrust_48 : decode cX6_readTrust 48 = .ok (.ireturn, 1) := by decide +kernel
theorem dX6_readTrust_49 : decode cX6_readTrust 49 = .ok (.aload_n 1, 1) := by decide +kernel
theorem dX6_readTrust_50 : decode cX6_readTrust 50 = .ok (.aload_n 0, 1) := by decide +kernel
theorem dX6_readTrust_51 : decode cX6_readTrust 51 = .ok (.getfield 12, 3) := by decide +kernel
theorem dX6_readTrust_54 : decode cX6_readTrust 54 = .ok (.getfield 104, 3) := by decide +kernel
theorem dX6_readTrust_57 : decode cX6_readTrust 57 = .ok (.invokevirtual 156, 3) := by decide +kernel
theorem dX6_readTrust_60 : decode cX6_readTrust 60 = .ok (.aload_n 0, 1) := by decide +kernel
theorem dX6_readTrust_61 : decode cX6_readTrust 61 = .ok (.getfield 12, 3) := by decide +kernel
theorem dX6_readTrust_64 : decode cX6_readTrust 64 = .ok (.invokevirtual 98, 3) := by decide +kernel
theorem dX6_readTrust_67 : decode cX6_readTrust 67 = .ok (.aload_n 0, 1) := by decide +kernel
theorem dX6_readTrust_68 : decode cX6_readTrust 68 = .ok (.aload_n 1, 1) := by decide +kernel
theorem dX6_readTrust_69 : decode cX6_readTrust 69 = .ok (.invokevirtual 161, 3) := by decide +kernel
theorem dX6_readTrust_72 : decode cX6_readTrust 72 = .ok (.ifCond .eq 10, 3) := by decide +kernel
theorem dX6_readTrust_75 : decode cX6_readTrust 75 = .ok (.aload_n 0, 1) := by decide +kernel
theorem dX6_readTrust_76 : decode cX6_readTrust 76 = .ok (.invokevirtual 127, 3) := by decide +kernel
theorem dX6_readTrust_79 : decode cX6_readTrust 79 = .ok (.ifCond .ne 5, 3) := by decide +kernel
theorem dX6_readTrust_82 : decode cX6_readTrust 82 = .ok (.iconst 0, 1) := by decide +kernel
theorem dX6_readTrust_83 : decode cX6_readTrust 83 = .ok (.ireturn, 1) := by decide +kernel
theorem dX6_readTrust_84 : decode cX6_readTrust 84 = .ok (.aload_n 1, 1) := by decide +kernel
theorem dX6_readTrust_85 : decode cX6_readTrust 85 = .ok (.aload_n 0, 1) := by decide +kernel
theorem dX6_readTrust_86 : decode cX6_readTrust 86 = .ok (.getfield 21, 3) := by decide +kernel
theorem dX6_readTrust_89 : decode cX6_readTrust 89 = .ok (.getfield 152, 3) := by decide +kernel
theorem dX6_readTrust_92 : decode cX6_readTrust 92 = .ok (.invokevirtual 165, 3) := by decide +kernel
theorem dX6_readTrust_95 : decode cX6_readTrust 95 = .ok (.aload_n 0, 1) := by decide +kernel
theorem dX6_readTrust_96 : decode cX6_readTrust 96 = .ok (.getfield 21, 3) := by decide +kernel
theorem dX6_readTrust_99 : decode cX6_readTrust 99 = .ok (.dup, 1) := by decide +kernel
theorem dX6_readTrust_100 : decode cX6_readTrust 100 = .ok (.getfield 149, 3) := by decide +kernel
theorem dX6_readTrust_103 : decode cX6_readTrust 103 = .ok (.iconst 1, 1) := by decide +kernel
theorem dX6_readTrust_104 : decode cX6_readTrust 104 = .ok (.iadd, 1) := by decide +kernel
theorem dX6_readTrust_105 : decode cX6_readTrust 105 = .ok (.putfield 149, 3) := by decide +kernel
theorem dX6_readTrust_108 : decode cX6_readTrust 108 = .ok (.iconst 1, 1) := by decide +kernel
theorem dX6_readTrust_109 : decode cX6_readTrust 109 = .ok (.ireturn, 1) := by decide +kernel
theorem dX6_readAccount_0 : decode cX6_readAccount 0 = .ok (.aload_n 0, 1) := by decide +kernel
theorem dX6_readAccount_1 : decode cX6_readAccount 1 = .ok (.getfield 21, 3) := by decide +kernel
theorem dX6_readAccount_4 : decode cX6_readAccount 4 = .ok (.getfield 169, 3) := by decide +kernel
theorem dX6_readAccount_7 : decode cX6_readAccount 7 = .ok (.bipush 10, 2) := by decide +kernel
theorem dX6_readAccount_9 : decode cX6_readAccount 9 = .ok (.if_icmp .lt 9, 3) := by decide +kernel
theorem dX6_readAccount_12 : decode cX6_readAccount 12 = .ok (.aload_n 0, 1) := by decide +kernel
theorem dX6_readAccount_13 : decode cX6_readAccount 13 = .ok (.iconst 5, 1) := by decide +kernel
theorem dX6_readAccount_14 : decode cX6_readAccount 14 = .ok (.invokevirtual 88, 3) := by decide +kernel
theorem dX6_readAccount_17 : decode cX6_readAccount 17 = .ok (.ireturn, 1) := by decide +kernel
theorem dX6_readAccount_18 : decode cX6_readAccount 18 = .ok (.aload_n 0, 1) := by decide +kernel
theorem dX6_readAccount_19 : decode cX6_readAccount 19 = .ok (.getfield 21, 3) := by decide +kernel
theorem dX6_readAccount_22 : decode cX6_readAccount 22 = .ok (.getfield 172, 3) := by decide +kernel
theorem dX6_readAccount_25 : decode cX6_readAccount 25 = .ok (.aload_n 0, 1) := by decide +kernel
theorem dX6_readAccount_26 : decode cX6_readAccount 26 = .ok (.getfield 21, 3) := by decide +kernel
theorem dX6_readAccount_29 : decode cX6_readAccount 29 = .ok (.getfield 169, 3) := by decide +kernel
theorem dX6_readAccount_32 : decode cX6_readAccount 32 = .ok (.aaload, 1) := by decide +kernel
theorem dX6_readAccount_33 : decode cX6_readAccount 33 = .ok (.astore_n 1, 1) := by decide +kernel
theorem dX6_readAccount_34 : decode cX6_readAccount 34 = .ok (.aload_n 0, 1) := by decide +kernel
theorem dX6_readAccount_35 : decode cX6_readAccount 35 = .ok (.getfield 12, 3) := by decide +kernel
theorem dX6_readAccount_38 : decode cX6_readAccount 38 = .ok (.invokevirtual 98, 3) := by decide +kernel
theorem dX6_readAccount_41 : decode cX6_readAccount 41 = .ok (.aload_n 0, 1) := by decide +kernel
theorem dX6_readAccount_42 : decode cX6_readAccount 42 = .ok (.invokevirtual 101, 3) := by decide +kernel
theorem dX6_readAccount_45 : decode cX6_readAccount 45 = .ok (.ifCond .ne 5, 3) := by decide +kernel
theorem dX6_readAccount_48 : decode cX6_readAccount 48 = .ok (.iconst 0, 1) := by decide +kernel
theorem dX6_readAccount_49 : decode cX6_readAccount 49 = .ok (.ireturn, 1) := by decide +kernel
theorem dX6_readAccount_50 : decode cX6_readAccount 50 = .ok (.aload_n 1, 1) := by decide +kernel
theorem dX6_readAccount_51 : decode cX6_readAccount 51 = .ok (.aload_n 0, 1) := by decide +kernel
theorem dX6_readAccount_52 : decode cX6_readAccount 52 = .ok (.getfield 12, 3) := by decide +kernel
theorem dX6_readAccount_55 : decode cX6_readAccount 55 = .ok (.getfield 104, 3) := by decide +kernel
theorem dX6_readAccount_58 : decode cX6_readAccount 58 = .ok (.invokevirtual 156, 3) := by decide +kernel
theorem dX6_readAccount_61 : decode cX6_readAccount 61 = .ok (.aload_n 0, 1) := by decide +kernel
theorem dX6_readAccount_62 : decode cX6_readAccount 62 = .ok (.getfield 12, 3) := by decide +kernel
theorem dX6_readAccount_65 : decode cX6_readAccount 65 = .ok (.invokevirtual 98, 3) := by decide +kernel
theorem dX6_readAccount_68 : decode cX6_readAccount 68 = .ok (.aload_n 0, 1) := by decide +kernel
theorem dX6_readAccount_69 : decode cX6_readAccount 69 = .ok (.ldc2_w 175, 3) := by decide +kernel
theorem dX6_readAccount_72 : decode cX6_readAccount 72 = .ok (.invokevirtual 177, 3) := by decide +kernel
theorem dX6_readAccount_75 : decode cX6_readAccount 75 = .ok (.ifCond .ne 5, 3) := by decide +kernel
theorem dX6_readAccount_78 : decode cX6_readAccount 78 = .ok (.iconst 0, 1) := by decide +kernel
theorem dX6_readAccount_79 : decode cX6_readAccount 79 = .ok (.ireturn, 1) := by decide +kernel
theorem dX6_readAccount_80 : decode cX6_readAccount 80 = .ok (.aload_n 0, 1) := by decide +kernel
theorem dX6_readAccount_81 : decode cX6_readAccount 81 = .ok (.iconst 0, 1) := by decide +kernel
theorem dX6_readAccount_82 : decode cX6_readAccount 82 = .ok (.ldc 180, 2) := by decide +kernel
theorem dX6_readAccount_84 : decode cX6_readAccount 84 = .ok (.iconst 1, 1) := by decide +kernel
theorem dX6_readAccount_85 : decode cX6_readAccount 85 = .ok (.invokevirtual 142, 3) := by decide +kernel
theorem dX6_readAccount_88 : decode cX6_readAccount 88 = .ok (.istore_n 2, 1) := by decide +kernel
theorem dX6_readAccount_89 : decode cX6_readAccount 89 = .ok (.iload_n 2, 1) := by decide +kernel
theorem dX6_readAccount_90 : decode cX6_readAccount 90 = .ok (.iconst (-1), 1) := by decide +kernel
theorem dX6_readAccount_91 : decode cX6_readAccount 91 = .ok (.if_icmp .eq 11, 3) := by decide +kernel
theorem dX6_readAccount_94 : decode cX6_readAccount 94 = .ok (.aload_n 0, 1) := by decide +kernel
theorem dX6_readAccount_95 : decode cX6_readAccount 95 = .ok (.aload_n 1, 1) := by decide +kernel
theorem dX6_readAccount_96 : decode cX6_readAccount 96 = .ok (.invokevirtual 161, 3) := by decide +kernel
theorem dX6_readAccount_99 : decode cX6_readAccount 99 = .ok (.ifCond .ne 5, 3) := by decide +kernel
theorem dX6_readAccount_102 : decode cX6_readAccount 102 = .ok (.iconst 0, 1) := by decide +kernel
theorem dX6_readAccount_103 : decode cX6_readAccount 103 = .ok (.ireturn, 1) := by decide +kernel
theorem dX6_readAccount_104 : decode cX6_readAccount 104 = .ok (.aload_n 1, 1) := by decide +kernel
theorem dX6_readAccount_105 : decode cX6_readAccount 105 = .ok (.getfield 181, 3) := by decide +kernel
theorem dX6_readAccount_108 : decode cX6_readAccount 108 = .ok (.ifCond .ne 9, 3) := by decide +kernel
theorem dX6_readAccount_111 : decode cX6_readAccount 111 = .ok (.aload_n 0, 1) := by decide +kernel
theorem dX6_readAccount_112 : decode cX6_readAccount 112 = .ok (.iconst 1, 1) := by decide +kernel
theorem dX6_readAccount_113 : decode cX6_readAccount 113 = .ok (.invokevirtual 88, 3) := by decide +kernel
theorem dX6_readAccount_116 : decode cX6_readAccount 116 = .ok (.ireturn, 1) := by decide +kernel
theorem dX6_readAccount_117 : decode cX6_readAccount 117 = .ok (.aload_n 0, 1) := by decide +kernel
theorem dX6_readAccount_118 : decode cX6_readAccount 118 = .ok (.invokevirtual 127, 3) := by decide +kernel
theorem dX6_readAccount_121 : decode cX6_readAccount 121 = .ok (.ifCond .ne 5, 3) := by decide +kernel
theorem dX6_readAccount_124 : decode cX6_readAccount 124 = .ok (.iconst 0, 1) := by decide +kernel
theorem dX6_readAccount_125 : decode cX6_readAccount 125 = .ok (.ireturn, 1) := by decide +kernel
theorem dX6_readAccount_126 : decode cX6_readAccount 126 = .ok (.aload_n 1, 1) := by decide +kernel
theorem dX6_readAccount_127 : decode cX6_readAccount 127 = .ok (.aload_n 0, 1) := by decide +kernel
theorem dX6_readAccount_128 : decode cX6_readAccount 128 = .ok (.getfield 21, 3) := by decide +kernel
theorem dX6_readAccount_131 : decode cX6_readAccount 131 = .ok (.getfield 152, 3) := by decide +kernel
theorem dX6_readAccount_134 : decode cX6_readAccount 134 = .ok (.invokevirtual 165, 3) := by decide +kernel
theorem dX6_readAccount_137 : decode cX6_readAccount 137 = .ok (.aload_n 0, 1) := by decide +kernel
theorem dX6_readAccount_138 : decode cX6_readAccount 138 = .ok (.getfield 21, 3) := by decide +kernel
theorem dX6_readAccount_141 : decode cX6_readAccount 141 = .ok (.getfield 184, 3) := by decide +kernel
theorem dX6_readAccount_144 : decode cX6_readAccount 144 = .ok (.aload_n 0, 1) := by decide +kernel
theorem dX6_readAccount_145 : decode cX6_readAccount 145 = .ok (.getfield 21, 3) := by decide +kernel
theorem dX6_readAccount_148 : decode cX6_readAccount 148 = .ok (.getfield 169, 3) := by decide +kernel
theorem dX6_readAccount_151 : decode cX6_readAccount 151 = .ok (.iload_n 2, 1) := by decide +kernel
theorem dX6_readAccount_152 : decode cX6_readAccount 152 = .ok (.iastore, 1) := by decide +kernel
theorem dX6_readAccount_153 : decode cX6_readAccount 153 = .ok (.aload_n 0, 1) := by decide +kernel
theorem dX6_readAccount_154 : decode cX6_readAccount 154 = .ok (.getfield 21, 3) := by decide +kernel
theorem dX6_readAccount_157 : decode cX6_readAccount 157 = .ok (.dup, 1) := by decide +kernel
theorem dX6_readAccount_158 : decode cX6_readAccount 158 = .ok (.getfield 169, 3) := by decide +kernel
theorem dX6_readAccount_161 : decode cX6_readAccount 161 = .ok (.iconst 1, 1) := by decide +kernel
theorem dX6_readAccount_162 : decode cX6_readAccount 162 = .ok (.iadd, 1) := by decide +kernel
theorem dX6_readAccount_163 : decode cX6_readAccount 163 = .ok (.putfield 169, 3) := by decide +kernel
theorem dX6_readAccount_166 : decode cX6_readAccount 166 = .ok (.iconst 1, 1) := by decide +kernel
theorem dX6_readAccount_167 : decode cX6_readAccount 167 = .ok (.ireturn, 1) := by decide +kernel
theorem dX6_readLine_0 : decode cX6_readLine 0 = .ok (.aload_n 0, 1) := by decide +kernel
theorem dX6_readLine_1 : decode cX6_readLine 1 = .ok (.ldc2_w 49, 3) := by decide +kernel
theorem dX6_readLine_4 : decode cX6_readLine 4 = .ok (.invokevirtual 51, 3) := by decide +kernel
theorem dX6_readLine_7 : decode cX6_readLine 7 = .ok (.ifCond .eq 8, 3) := by decide +kernel
theorem dX6_readLine_10 : decode cX6_readLine 10 = .ok (.aload_n 0, 1) := by decide +kernel
theorem dX6_readLine_11 : decode cX6_readLine 11 = .ok (.invokevirtual 55, 3) := by decide +kernel
theorem dX6_readLine_14 : decode cX6_readLine 14 = .ok (.ireturn, 1) := by decide +kernel
theorem dX6_readLine_15 : decode cX6_readLine 15 = .ok (.aload_n 0, 1) := by decide +kernel
theorem dX6_readLine_16 : decode cX6_readLine 16 = .ok (.ldc2_w 58, 3) := by decide +kernel
theorem dX6_readLine_19 : decode cX6_readLine 19 = .ok (.invokevirtual 51, 3) := by decide +kernel
theorem dX6_readLine_22 : decode cX6_readLine 22 = .ok (.ifCond .eq 8, 3) := by decide +kernel
theorem dX6_readLine_25 : decode cX6_readLine 25 = .ok (.aload_n 0, 1) := by decide +kernel
theorem dX6_readLine_26 : decode cX6_readLine 26 = .ok (.invokevirtual 60, 3) := by decide +kernel
theorem dX6_readLine_29 : decode cX6_readLine 29 = .ok (.ireturn, 1) := by decide +kernel
theorem dX6_readLine_30 : decode cX6_readLine 30 = .ok (.aload_n 0, 1) := by decide +kernel
theorem dX6_readLine_31 : decode cX6_readLine 31 = .ok (.ldc2_w 63, 3) := by decide +kernel
theorem dX6_readLine_34 : decode cX6_readLine 34 = .ok (.invokevirtual 51, 3) := by decide +kernel
theorem dX6_readLine_37 : decode cX6_readLine 37 = .ok (.ifCond .eq 8, 3) := by decide +kernel
theorem dX6_readLine_40 : decode cX6_readLine 40 = .ok (.aload_n 0, 1) := by decide +kernel
theorem dX6_readLine_41 : decode cX6_readLine 41 = .ok (.invokevirtual 65, 3) := by decide +kernel
theorem dX6_readLine_44 : decode cX6_readLine 44 = .ok (.ireturn, 1) := by decide +kernel
theorem dX6_readLine_45 : decode cX6_readLine 45 = .ok (.aload_n 0, 1) := by decide +kernel
theorem dX6_readLine_46 : decode cX6_readLine 46 = .ok (.ldc2_w 68, 3) := by decide +kernel
theorem dX6_readLine_49 : decode cX6_readLine 49 = .ok (.invokevirtual 51, 3) := by decide +kernel
theorem dX6_readLine_52 : decode cX6_readLine 52 = .ok (.ifCond .eq 8, 3) := by decide +kernel
theorem dX6_readLine_55 : decode cX6_readLine 55 = .ok (.aload_n 0, 1) := by decide +kernel
theorem dX6_readLine_56 : decode cX6_readLine 56 = .ok (.invokevirtual 70, 3) := by decide +kernel
theorem dX6_readLine_59 : decode cX6_readLine 59 = .ok (.ireturn, 1) := by decide +kernel
theorem dX6_readLine_60 : decode cX6_readLine 60 = .ok (.aload_n 0, 1) := by decide +kernel
theorem dX6_readLine_61 : decode cX6_readLine 61 = .ok (.ldc2_w 73, 3) := by decide +kernel
theorem dX6_readLine_64 : decode cX6_readLine 64 = .ok (.invokevirtual 51, 3) := by decide +kernel
theorem dX6_readLine_67 : decode cX6_readLine 67 = .ok (.ifCond .eq 8, 3) := by decide +kernel
theorem dX6_readLine_70 : decode cX6_readLine 70 = .ok (.aload_n 0, 1) := by decide +kernel
theorem dX6_readLine_71 : decode cX6_readLine 71 = .ok (.invokevirtual 75, 3) := by decide +kernel
theorem dX6_readLine_74 : decode cX6_readLine 74 = .ok (.ireturn, 1) := by decide +kernel
theorem dX6_readLine_75 : decode cX6_readLine 75 = .ok (.aload_n 0, 1) := by decide +kernel
theorem dX6_readLine_76 : decode cX6_readLine 76 = .ok (.ldc2_w 78, 3) := by decide +kernel
theorem dX6_readLine_79 : decode cX6_readLine 79 = .ok (.invokevirtual 51, 3) := by decide +kernel
theorem dX6_readLine_82 : decode cX6_readLine 82 = .ok (.ifCond .eq 9, 3) := by decide +kernel
theorem dX6_readLine_85 : decode cX6_readLine 85 = .ok (.aload_n 0, 1) := by decide +kernel
theorem dX6_readLine_86 : decode cX6_readLine 86 = .ok (.iconst 1, 1) := by decide +kernel
theorem dX6_readLine_87 : decode cX6_readLine 87 = .ok (.invokevirtual 80, 3) := by decide +kernel
theorem dX6_readLine_90 : decode cX6_readLine 90 = .ok (.ireturn, 1) := by decide +kernel
theorem dX6_readLine_91 : decode cX6_readLine 91 = .ok (.aload_n 0, 1) := by decide +kernel
theorem dX6_readLine_92 : decode cX6_readLine 92 = .ok (.ldc2_w 84, 3) := by decide +kernel
theorem dX6_readLine_95 : decode cX6_readLine 95 = .ok (.invokevirtual 51, 3) := by decide +kernel
theorem dX6_readLine_98 : decode cX6_readLine 98 = .ok (.ifCond .eq 9, 3) := by decide +kernel
theorem dX6_readLine_101 : decode cX6_readLine 101 = .ok (.aload_n 0, 1) := by decide +kernel
theorem dX6_readLine_102 : decode cX6_readLine 102 = .ok (.iconst 2, 1) := by decide +kernel
theorem dX6_readLine_103 : decode cX6_readLine 103 = .ok (.invokevirtual 80, 3) := by decide +kernel
theorem dX6_readLine_106 : decode cX6_readLine 106 = .ok (.ireturn, 1) := by decide +kernel
theorem dX6_readLine_107 : decode cX6_readLine 107 = .ok (.aload_n 0, 1) := by decide +kernel
theorem dX6_readLine_108 : decode cX6_readLine 108 = .ok (.ldc2_w 86, 3) := by decide +kernel
theorem dX6_readLine_111 : decode cX6_readLine 111 = .ok (.invokevirtual 51, 3) := by decide +kernel
theorem dX6_readLine_114 : decode cX6_readLine 114 = .ok (.ifCond .eq 11, 3) := by decide +kernel
theorem dX6_readLine_117 : decode cX6_readLine 117 = .ok (.aload_n 0, 1) := by decide +kernel
theorem dX6_readLine_118 : decode cX6_readLine 118 = .ok (.iconst 0, 1) := by decide +kernel
theorem dX6_readLine_119 : decode cX6_readLine 119 = .ok (.invokevirtual 80, 3) := by decide +kernel
theorem dX6_readLine_122 : decode cX6_readLine 122 = .ok (.goto 8, 3) := by decide +kernel
theorem dX6_readLine_125 : decode cX6_readLine 125 = .ok (.aload_n 0, 1) := by decide +kernel
theorem dX6_readLine_126 : decode cX6_readLine 126 = .ok (.iconst 1, 1) := by decide +kernel
theorem dX6_readLine_127 : decode cX6_readLine 127 = .ok (.invokevirtual 88, 3) := by decide +kernel
theorem dX6_readLine_130 : decode cX6_readLine 130 = .ok (.ireturn, 1) := by decide +kernel
theorem dX6_read_0 : decode cX6_read 0 = .ok (.aload_n 0, 1) := by decide +kernel
theorem dX6_read_1 : decode cX6_read 1 = .ok (.getfield 21, 3) := by decide +kernel
theorem dX6_read_4 : decode cX6_read 4 = .ok (.invokevirtual 25, 3) := by decide +kernel
theorem dX6_read_7 : decode cX6_read 7 = .ok (.aload_n 0, 1) := by decide +kernel
theorem dX6_read_8 : decode cX6_read 8 = .ok (.iconst 0, 1) := by decide +kernel
theorem dX6_read_9 : decode cX6_read 9 = .ok (.putfield 28, 3) := by decide +kernel
theorem dX6_read_12 : decode cX6_read 12 = .ok (.aload_n 0, 1) := by decide +kernel
theorem dX6_read_13 : decode cX6_read 13 = .ok (.getfield 12, 3) := by decide +kernel
theorem dX6_read_16 : decode cX6_read 16 = .ok (.iload_n 1, 1) := by decide +kernel
theorem dX6_read_17 : decode cX6_read 17 = .ok (.invokevirtual 32, 3) := by decide +kernel
theorem dX6_read_20 : decode cX6_read 20 = .ok (.iconst 0, 1) := by decide +kernel
theorem dX6_read_21 : decode cX6_read 21 = .ok (.istore_n 2, 1) := by decide +kernel
theorem dX6_read_22 : decode cX6_read 22 = .ok (.aload_n 0, 1) := by decide +kernel
theorem dX6_read_23 : decode cX6_read 23 = .ok (.invokevirtual 36, 3) := by decide +kernel
theorem dX6_read_26 : decode cX6_read 26 = .ok (.istore_n 3, 1) := by decide +kernel
theorem dX6_read_27 : decode cX6_read 27 = .ok (.iload_n 3, 1) := by decide +kernel
theorem dX6_read_28 : decode cX6_read 28 = .ok (.ifCond .eq 39, 3) := by decide +kernel
theorem dX6_read_31 : decode cX6_read 31 = .ok (.iload_n 2, 1) := by decide +kernel
theorem dX6_read_32 : decode cX6_read 32 = .ok (.bipush 44, 2) := by decide +kernel
theorem dX6_read_34 : decode cX6_read 34 = .ok (.if_icmp .gt 33, 3) := by decide +kernel
theorem dX6_read_37 : decode cX6_read 37 = .ok (.iinc 2 1, 3) := by decide +kernel
theorem dX6_read_40 : decode cX6_read 40 = .ok (.aload_n 0, 1) := by decide +kernel
theorem dX6_read_41 : decode cX6_read 41 = .ok (.getfield 12, 3) := by decide +kernel
theorem dX6_read_44 : decode cX6_read 44 = .ok (.getfield 40, 3) := by decide +kernel
theorem dX6_read_47 : decode cX6_read 47 = .ok (.ifCond .ne 12, 3) := by decide +kernel
theorem dX6_read_50 : decode cX6_read 50 = .ok (.aload_n 0, 1) := by decide +kernel
theorem dX6_read_51 : decode cX6_read 51 = .ok (.getfield 21, 3) := by decide +kernel
theorem dX6_read_54 : decode cX6_read 54 = .ok (.invokevirtual 43, 3) := by decide +kernel
theorem dX6_read_57 : decode cX6_read 57 = .ok (.iload_n 2, 1) := by decide +kernel
theorem dX6_read_58 : decode cX6_read 58 = .ok (.ireturn, 1) := by decide +kernel
theorem dX6_read_59 : decode cX6_read 59 = .ok (.aload_n 0, 1) := by decide +kernel
theorem dX6_read_60 : decode cX6_read 60 = .ok (.invokevirtual 36, 3) := by decide +kernel
theorem dX6_read_63 : decode cX6_read 63 = .ok (.istore_n 3, 1) := by decide +kernel
theorem dX6_read_64 : decode cX6_read 64 = .ok (.goto (-37), 3) := by decide +kernel
theorem dX6_read_67 : decode cX6_read 67 = .ok (.bipush (-2), 2) := by decide +kernel
theorem dX6_read_69 : decode cX6_read 69 = .ok (.aload_n 0, 1) := by decide +kernel
theorem dX6_read_70 : decode cX6_read 70 = .ok (.getfield 28, 3) := by decide +kernel
theorem dX6_read_73 : decode cX6_read 73 = .ok (.isub, 1) := by decide +kernel
theorem dX6_read_74 : decode cX6_read 74 = .ok (.ireturn, 1) := by decide +kernel
theorem pq_265 : Cond.fieldLink RX6 21 "PayoutDesk$Reader" "book" "LPayoutDesk$Book;" ∈ pd_gt := pd_in 310 (by decide +kernel) (by decide +kernel)
theorem pq_266 : Cond.fieldLink RX6 12 "PayoutDesk$Reader" "tape" "LPayoutDesk$Tape;" ∈ pd_gt := pd_in 308 (by decide +kernel) (by decide +kernel)
theorem pq_267 : Cond.fieldLinkNest RX6 46 "PayoutDesk$Tape" "place" "I" "PayoutDesk" ∈ pd_gt := pd_in 93 (by decide +kernel) (by decide +kernel)
theorem pq_268 : Cond.fieldLink RX6 28 "PayoutDesk$Reader" "fault" "I" ∈ pd_gt := pd_in 311 (by decide +kernel) (by decide +kernel)
theorem pq_269 : Cond.fieldLinkNest RX6 40 "PayoutDesk$Tape" "kind" "I" "PayoutDesk" ∈ pd_gt := pd_in 91 (by decide +kernel) (by decide +kernel)
theorem pq_270 : Cond.fieldLinkNest RX6 104 "PayoutDesk$Tape" "word" "J" "PayoutDesk" ∈ pd_gt := pd_in 100 (by decide +kernel) (by decide +kernel)
theorem pq_271 : Cond.constantLong RX6 49 (123581014175598 : Int64) ∈ pd_gt := pd_in 1110 (by decide +kernel) (by decide +kernel)
theorem pq_272 : Cond.constantLong RX6 121 (29676314523100530 : Int64) ∈ pd_gt := pd_in 1135 (by decide +kernel) (by decide +kernel)
theorem pq_273 : Cond.constantLong RX6 58 (500136506228 : Int64) ∈ pd_gt := pd_in 1136 (by decide +kernel) (by decide +kernel)
theorem pq_274 : Cond.constantLong RX6 63 (27412351463812724 : Int64) ∈ pd_gt := pd_in 1137 (by decide +kernel) (by decide +kernel)
theorem pq_275 : Cond.constantLong RX6 175 (27691665836630885 : Int64) ∈ pd_gt := pd_in 1138 (by decide +kernel) (by decide +kernel)
theorem pq_276 : Cond.constantLong RX6 68 (1751738216 : Int64) ∈ pd_gt := pd_in 1139 (by decide +kernel) (by decide +kernel)
theorem pq_277 : Cond.constantLong RX6 209 (1718775661 : Int64) ∈ pd_gt := pd_in 1140 (by decide +kernel) (by decide +kernel)
theorem pq_278 : Cond.constantLong RX6 211 (29807 : Int64) ∈ pd_gt := pd_in 1141 (by decide +kernel) (by decide +kernel)
theorem pq_279 : Cond.constantLong RX6 73 (1819238766 : Int64) ∈ pd_gt := pd_in 1142 (by decide +kernel) (by decide +kernel)
theorem pq_280 : Cond.constantLong RX6 226 (6583653 : Int64) ∈ pd_gt := pd_in 1143 (by decide +kernel) (by decide +kernel)
theorem pq_281 : Cond.constantLong RX6 78 (427071792498 : Int64) ∈ pd_gt := pd_in 1144 (by decide +kernel) (by decide +kernel)
theorem pq_282 : Cond.constantLong RX6 84 (491260572517 : Int64) ∈ pd_gt := pd_in 1145 (by decide +kernel) (by decide +kernel)
theorem pq_283 : Cond.constantLong RX6 86 (109317377451364 : Int64) ∈ pd_gt := pd_in 1146 (by decide +kernel) (by decide +kernel)
theorem pq_284 : Cond.methodLink RX6 238 yX6_isTaken ∈ pd_gt := pd_in 1132 (by decide +kernel) (by decide +kernel)
theorem pq_285 : Cond.code yX6_isTaken cX6_isTaken 2 (some .boolean) ∈ pd_gt := pd_in 1134 (by decide +kernel) (by decide +kernel)
theorem pq_286 : Cond.initialized yX6_isTaken.cls ∈ pd_gt := pd_in 38 (by decide +kernel) (by decide +kernel)
theorem pq_287 : Cond.static yX6_isTaken ∈ pd_gt := pd_in 1133 (by decide +kernel) (by decide +kernel)
theorem pq_288 : Cond.methodLink RX6 188 yX6_atName ∈ pd_gt := pd_in 1128 (by decide +kernel) (by decide +kernel)
theorem pq_289 : Cond.code yX6_atName cX6_atName 1 (some .boolean) ∈ pd_gt := pd_in 1131 (by decide +kernel) (by decide +kernel)
theorem pq_290 : Cond.initialized yX6_atName.cls ∈ pd_gt := pd_in 38 (by decide +kernel) (by decide +kernel)
theorem pq_291 : Cond.instanceMethod yX6_atName ∈ pd_gt := pd_in 1130 (by decide +kernel) (by decide +kernel)
theorem pq_292 : Cond.selects yX6_atName.cls yX6_atName yX6_atName ∈ pd_gt := pd_in 21 (by decide +kernel) (by decide +kernel)
theorem pq_293 : Cond.methodLink RX6 191 yX0_find ∈ pd_gt := pd_in 1147 (by decide +kernel) (by decide +kernel)
theorem pq_294 : Cond.code yX0_find cX0_find 4 (some .int) ∈ pd_gt := pd_in 1150 (by decide +kernel) (by decide +kernel)
theorem pq_295 : Cond.initialized yX0_find.cls ∈ pd_gt := pd_in 40 (by decide +kernel) (by decide +kernel)
theorem pq_296 : Cond.instanceMethod yX0_find ∈ pd_gt := pd_in 1148 (by decide +kernel) (by decide +kernel)
theorem pq_297 : Cond.selects yX0_find.cls yX0_find yX0_find ∈ pd_gt := pd_in 1149 (by decide +kernel) (by decide +kernel)
theorem pq_298 : Cond.methodLink RX6 88 yX6_fail ∈ pd_gt := pd_in 1119 (by decide +kernel) (by decide +kernel)
theorem pq_299 : Cond.code yX6_fail cX6_fail 2 (some .boolean) ∈ pd_gt := pd_in 1122 (by decide +kernel) (by decide +kernel)
theorem pq_300 : Cond.initialized yX6_fail.cls ∈ pd_gt := pd_in 38 (by decide +kernel) (by decide +kernel)
theorem pq_301 : Cond.instanceMethod yX6_fail ∈ pd_gt := pd_in 1121 (by decide +kernel) (by decide +kernel)
theorem pq_302 : Cond.selects yX6_fail.cls yX6_fail yX6_fail ∈ pd_gt := pd_in 19 (by decide +kernel) (by decide +kernel)
theorem pq_303 : Cond.methodLink RX6 51 yX6_at ∈ pd_gt := pd_in 1111 (by decide +kernel) (by decide +kernel)
theorem pq_304 : Cond.code yX6_at cX6_at 3 (some .boolean) ∈ pd_gt := pd_in 1114 (by decide +kernel) (by decide +kernel)
theorem pq_305 : Cond.initialized yX6_at.cls ∈ pd_gt := pd_in 38 (by decide +kernel) (by decide +kernel)
theorem pq_306 : Cond.instanceMethod yX6_at ∈ pd_gt := pd_in 1113 (by decide +kernel) (by decide +kernel)
theorem pq_307 : Cond.selects yX6_at.cls yX6_at yX6_at ∈ pd_gt := pd_in 17 (by decide +kernel) (by decide +kernel)
theorem pq_308 : Cond.methodLink RX6 98 yX9_advance ∈ pd_gt := pd_in 1123 (by decide +kernel) (by decide +kernel)
theorem pq_309 : Cond.fieldLinkNest RX6 133 "PayoutDesk$Tape" "number" "I" "PayoutDesk" ∈ pd_gt := pd_in 98 (by decide +kernel) (by decide +kernel)
theorem pq_310 : Cond.methodLink RX6 142 yX6_takeNumberIn ∈ pd_gt := pd_in 1163 (by decide +kernel) (by decide +kernel)
theorem pq_311 : Cond.code yX6_takeNumberIn cX6_takeNumberIn 5 (some .int) ∈ pd_gt := pd_in 1166 (by decide +kernel) (by decide +kernel)
theorem pq_312 : Cond.initialized yX6_takeNumberIn.cls ∈ pd_gt := pd_in 38 (by decide +kernel) (by decide +kernel)
theorem pq_313 : Cond.instanceMethod yX6_takeNumberIn ∈ pd_gt := pd_in 1165 (by decide +kernel) (by decide +kernel)
theorem pq_314 : Cond.selects yX6_takeNumberIn.cls yX6_takeNumberIn yX6_takeNumberIn ∈ pd_gt := pd_in 23 (by decide +kernel) (by decide +kernel)
theorem pq_315 : Cond.methodLink RX6 146 yX5_addMark ∈ pd_gt := pd_in 1167 (by decide +kernel) (by decide +kernel)
theorem pq_316 : Cond.code yX5_addMark cX5_addMark 2 none ∈ pd_gt := pd_in 1170 (by decide +kernel) (by decide +kernel)
theorem pq_317 : Cond.initialized yX5_addMark.cls ∈ pd_gt := pd_in 41 (by decide +kernel) (by decide +kernel)
theorem pq_318 : Cond.instanceMethod yX5_addMark ∈ pd_gt := pd_in 1168 (by decide +kernel) (by decide +kernel)
theorem pq_319 : Cond.selects yX5_addMark.cls yX5_addMark yX5_addMark ∈ pd_gt := pd_in 1169 (by decide +kernel) (by decide +kernel)
theorem pq_320 : Cond.methodLink RX6 136 yX5_hasMark ∈ pd_gt := pd_in 1159 (by decide +kernel) (by decide +kernel)
theorem pq_321 : Cond.code yX5_hasMark cX5_hasMark 3 (some .boolean) ∈ pd_gt := pd_in 1162 (by decide +kernel) (by decide +kernel)
theorem pq_322 : Cond.initialized yX5_hasMark.cls ∈ pd_gt := pd_in 41 (by decide +kernel) (by decide +kernel)
theorem pq_323 : Cond.instanceMethod yX5_hasMark ∈ pd_gt := pd_in 1160 (by decide +kernel) (by decide +kernel)
theorem pq_324 : Cond.selects yX5_hasMark.cls yX5_hasMark yX5_hasMark ∈ pd_gt := pd_in 1161 (by decide +kernel) (by decide +kernel)
theorem pq_325 : Cond.fieldLinkNest RX6 139 "PayoutDesk$Person" "markCount" "I" "PayoutDesk" ∈ pd_gt := pd_in 144 (by decide +kernel) (by decide +kernel)
theorem pq_326 : Cond.fieldLinkNest RX6 181 "PayoutDesk$Group" "partCount" "I" "PayoutDesk" ∈ pd_gt := pd_in 178 (by decide +kernel) (by decide +kernel)
theorem pq_327 : Cond.methodLink RX6 198 yX2_addPart ∈ pd_gt := pd_in 1203 (by decide +kernel) (by decide +kernel)
theorem pq_328 : Cond.code yX2_addPart cX2_addPart 3 none ∈ pd_gt := pd_in 1206 (by decide +kernel) (by decide +kernel)
theorem pq_329 : Cond.initialized yX2_addPart.cls ∈ pd_gt := pd_in 42 (by decide +kernel) (by decide +kernel)
theorem pq_330 : Cond.instanceMethod yX2_addPart ∈ pd_gt := pd_in 1204 (by decide +kernel) (by decide +kernel)
theorem pq_331 : Cond.selects yX2_addPart.cls yX2_addPart yX2_addPart ∈ pd_gt := pd_in 1205 (by decide +kernel) (by decide +kernel)
theorem pq_332 : Cond.methodLink RX6 195 yX2_hasPart ∈ pd_gt := pd_in 1199 (by decide +kernel) (by decide +kernel)
theorem pq_333 : Cond.code yX2_hasPart cX2_hasPart 3 (some .boolean) ∈ pd_gt := pd_in 1202 (by decide +kernel) (by decide +kernel)
theorem pq_334 : Cond.initialized yX2_hasPart.cls ∈ pd_gt := pd_in 42 (by decide +kernel) (by decide +kernel)
theorem pq_335 : Cond.instanceMethod yX2_hasPart ∈ pd_gt := pd_in 1200 (by decide +kernel) (by decide +kernel)
theorem pq_336 : Cond.selects yX2_hasPart.cls yX2_hasPart yX2_hasPart ∈ pd_gt := pd_in 1201 (by decide +kernel) (by decide +kernel)
theorem pq_337 : Cond.fieldLinkNest RX6 202 "PayoutDesk$Book" "highCount" "I" "PayoutDesk" ∈ pd_gt := pd_in 269 (by decide +kernel) (by decide +kernel)
theorem pq_338 : Cond.methodLink RX6 205 yX6_takeTold ∈ pd_gt := pd_in 1229 (by decide +kernel) (by decide +kernel)
theorem pq_339 : Cond.code yX6_takeTold cX6_takeTold 4 (some .int) ∈ pd_gt := pd_in 1232 (by decide +kernel) (by decide +kernel)
theorem pq_340 : Cond.initialized yX6_takeTold.cls ∈ pd_gt := pd_in 38 (by decide +kernel) (by decide +kernel)
theorem pq_341 : Cond.instanceMethod yX6_takeTold ∈ pd_gt := pd_in 1231 (by decide +kernel) (by decide +kernel)
theorem pq_342 : Cond.selects yX6_takeTold.cls yX6_takeTold yX6_takeTold ∈ pd_gt := pd_in 32 (by decide +kernel) (by decide +kernel)
theorem pq_343 : Cond.constant RX6 180 (9999999 : Int32) ∈ pd_gt := pd_in 1224 (by decide +kernel) (by decide +kernel)
theorem pq_344 : Cond.methodLink RX6 177 yX6_pass ∈ pd_gt := pd_in 1220 (by decide +kernel) (by decide +kernel)
theorem pq_345 : Cond.code yX6_pass cX6_pass 3 (some .boolean) ∈ pd_gt := pd_in 1223 (by decide +kernel) (by decide +kernel)
theorem pq_346 : Cond.initialized yX6_pass.cls ∈ pd_gt := pd_in 38 (by decide +kernel) (by decide +kernel)
theorem pq_347 : Cond.instanceMethod yX6_pass ∈ pd_gt := pd_in 1222 (by decide +kernel) (by decide +kernel)
theorem pq_348 : Cond.selects yX6_pass.cls yX6_pass yX6_pass ∈ pd_gt := pd_in 30 (by decide +kernel) (by decide +kernel)
theorem pq_349 : Cond.methodLink RX6 127 yX6_passEnd ∈ pd_gt := pd_in 1171 (by decide +kernel) (by decide +kernel)
theorem pq_350 : Cond.code yX6_passEnd cX6_passEnd 1 (some .boolean) ∈ pd_gt := pd_in 1174 (by decide +kernel) (by decide +kernel)
theorem pq_351 : Cond.initialized yX6_passEnd.cls ∈ pd_gt := pd_in 38 (by decide +kernel) (by decide +kernel)
theorem pq_352 : Cond.instanceMethod yX6_passEnd ∈ pd_gt := pd_in 1173 (by decide +kernel) (by decide +kernel)
theorem pq_353 : Cond.selects yX6_passEnd.cls yX6_passEnd yX6_passEnd ∈ pd_gt := pd_in 24 (by decide +kernel) (by decide +kernel)
theorem pq_354 : Cond.fieldLinkNest RX6 213 "PayoutDesk$Book" "highs" "[LPayoutDesk$Dated;" "PayoutDesk" ∈ pd_gt := pd_in 243 (by decide +kernel) (by decide +kernel)
theorem pq_355 : Cond.methodLink RX6 217 yX1_setTo ∈ pd_gt := pd_in 1233 (by decide +kernel) (by decide +kernel)
theorem pq_356 : Cond.code yX1_setTo cX1_setTo 5 none ∈ pd_gt := pd_in 1236 (by decide +kernel) (by decide +kernel)
theorem pq_357 : Cond.initialized yX1_setTo.cls ∈ pd_gt := pd_in 43 (by decide +kernel) (by decide +kernel)
theorem pq_358 : Cond.instanceMethod yX1_setTo ∈ pd_gt := pd_in 1234 (by decide +kernel) (by decide +kernel)
theorem pq_359 : Cond.selects yX1_setTo.cls yX1_setTo yX1_setTo ∈ pd_gt := pd_in 1235 (by decide +kernel) (by decide +kernel)
theorem pq_360 : Cond.fieldLinkNest RX6 223 "PayoutDesk$Book" "loanCount" "I" "PayoutDesk" ∈ pd_gt := pd_in 273 (by decide +kernel) (by decide +kernel)
theorem pq_361 : Cond.fieldLinkNest RX6 228 "PayoutDesk$Book" "loans" "[LPayoutDesk$Dated;" "PayoutDesk" ∈ pd_gt := pd_in 246 (by decide +kernel) (by decide +kernel)
theorem pq_362 : Cond.fieldLinkNest RX6 231 "PayoutDesk$Book" "settings" "[I" "PayoutDesk" ∈ pd_gt := pd_in 249 (by decide +kernel) (by decide +kernel)
theorem pq_363 : Cond.methodLinkNest RX6 234 yX11_greatestOf "PayoutDesk" ∈ pd_gt := pd_in 1245 (by decide +kernel) (by decide +kernel)
theorem pq_364 : Cond.code yX11_greatestOf cX11_greatestOf 1 (some .int) ∈ pd_gt := pd_in 671 (by decide +kernel) (by decide +kernel)
theorem pq_365 : Cond.initialized yX11_greatestOf.cls ∈ pd_gt := pd_in 37 (by decide +kernel) (by decide +kernel)
theorem pq_366 : Cond.static yX11_greatestOf ∈ pd_gt := pd_in 670 (by decide +kernel) (by decide +kernel)
theorem pq_367 : Cond.methodLink RX6 130 yX0_addPerson ∈ pd_gt := pd_in 1175 (by decide +kernel) (by decide +kernel)
theorem pq_368 : Cond.code yX0_addPerson cX0_addPerson 3 none ∈ pd_gt := pd_in 1178 (by decide +kernel) (by decide +kernel)
theorem pq_369 : Cond.initialized yX0_addPerson.cls ∈ pd_gt := pd_in 40 (by decide +kernel) (by decide +kernel)
theorem pq_370 : Cond.instanceMethod yX0_addPerson ∈ pd_gt := pd_in 1176 (by decide +kernel) (by decide +kernel)
theorem pq_371 : Cond.selects yX0_addPerson.cls yX0_addPerson yX0_addPerson ∈ pd_gt := pd_in 1177 (by decide +kernel) (by decide +kernel)
theorem pq_372 : Cond.fieldLinkNest RX6 91 "PayoutDesk$Book" "personCount" "I" "PayoutDesk" ∈ pd_gt := pd_in 256 (by decide +kernel) (by decide +kernel)
theorem pq_373 : Cond.fieldLinkNest RX6 94 "PayoutDesk$Book" "persons" "[LPayoutDesk$Person;" "PayoutDesk" ∈ pd_gt := pd_in 229 (by decide +kernel) (by decide +kernel)
theorem pq_374 : Cond.methodLink RX6 101 yX6_atNewName ∈ pd_gt := pd_in 1124 (by decide +kernel) (by decide +kernel)
theorem pq_375 : Cond.code yX6_atNewName cX6_atNewName 1 (some .boolean) ∈ pd_gt := pd_in 1127 (by decide +kernel) (by decide +kernel)
theorem pq_376 : Cond.initialized yX6_atNewName.cls ∈ pd_gt := pd_in 38 (by decide +kernel) (by decide +kernel)
theorem pq_377 : Cond.instanceMethod yX6_atNewName ∈ pd_gt := pd_in 1126 (by decide +kernel) (by decide +kernel)
theorem pq_378 : Cond.selects yX6_atNewName.cls yX6_atNewName yX6_atNewName ∈ pd_gt := pd_in 20 (by decide +kernel) (by decide +kernel)
theorem pq_379 : Cond.fieldLinkNest RX6 108 "PayoutDesk$Tape" "first" "I" "PayoutDesk" ∈ pd_gt := pd_in 96 (by decide +kernel) (by decide +kernel)
theorem pq_380 : Cond.methodLink RX6 111 yX5_begin ∈ pd_gt := pd_in 1151 (by decide +kernel) (by decide +kernel)
theorem pq_381 : Cond.code yX5_begin cX5_begin 4 none ∈ pd_gt := pd_in 1154 (by decide +kernel) (by decide +kernel)
theorem pq_382 : Cond.initialized yX5_begin.cls ∈ pd_gt := pd_in 41 (by decide +kernel) (by decide +kernel)
theorem pq_383 : Cond.instanceMethod yX5_begin ∈ pd_gt := pd_in 1152 (by decide +kernel) (by decide +kernel)
theorem pq_384 : Cond.selects yX5_begin.cls yX5_begin yX5_begin ∈ pd_gt := pd_in 1153 (by decide +kernel) (by decide +kernel)
theorem pq_385 : Cond.methodLink RX6 117 yX6_readMarks ∈ pd_gt := pd_in 1155 (by decide +kernel) (by decide +kernel)
theorem pq_386 : Cond.code yX6_readMarks cX6_readMarks 4 (some .boolean) ∈ pd_gt := pd_in 1158 (by decide +kernel) (by decide +kernel)
theorem pq_387 : Cond.initialized yX6_readMarks.cls ∈ pd_gt := pd_in 38 (by decide +kernel) (by decide +kernel)
theorem pq_388 : Cond.instanceMethod yX6_readMarks ∈ pd_gt := pd_in 1157 (by decide +kernel) (by decide +kernel)
theorem pq_389 : Cond.selects yX6_readMarks.cls yX6_readMarks yX6_readMarks ∈ pd_gt := pd_in 22 (by decide +kernel) (by decide +kernel)
theorem pq_390 : Cond.fieldLinkNest RX6 123 "PayoutDesk$Person" "insider" "Z" "PayoutDesk" ∈ pd_gt := pd_in 151 (by decide +kernel) (by decide +kernel)
theorem pq_391 : Cond.fieldLinkNest RX6 149 "PayoutDesk$Book" "trustCount" "I" "PayoutDesk" ∈ pd_gt := pd_in 259 (by decide +kernel) (by decide +kernel)
theorem pq_392 : Cond.fieldLinkNest RX6 152 "PayoutDesk$Book" "trusts" "[LPayoutDesk$Group;" "PayoutDesk" ∈ pd_gt := pd_in 232 (by decide +kernel) (by decide +kernel)
theorem pq_393 : Cond.methodLink RX6 156 yX2_begin ∈ pd_gt := pd_in 1191 (by decide +kernel) (by decide +kernel)
theorem pq_394 : Cond.code yX2_begin cX2_begin 3 none ∈ pd_gt := pd_in 1194 (by decide +kernel) (by decide +kernel)
theorem pq_395 : Cond.initialized yX2_begin.cls ∈ pd_gt := pd_in 42 (by decide +kernel) (by decide +kernel)
theorem pq_396 : Cond.instanceMethod yX2_begin ∈ pd_gt := pd_in 1192 (by decide +kernel) (by decide +kernel)
theorem pq_397 : Cond.selects yX2_begin.cls yX2_begin yX2_begin ∈ pd_gt := pd_in 1193 (by decide +kernel) (by decide +kernel)
theorem pq_398 : Cond.methodLink RX6 161 yX6_readParts ∈ pd_gt := pd_in 1195 (by decide +kernel) (by decide +kernel)
theorem pq_399 : Cond.code yX6_readParts cX6_readParts 5 (some .boolean) ∈ pd_gt := pd_in 1198 (by decide +kernel) (by decide +kernel)
theorem pq_400 : Cond.initialized yX6_readParts.cls ∈ pd_gt := pd_in 38 (by decide +kernel) (by decide +kernel)
theorem pq_401 : Cond.instanceMethod yX6_readParts ∈ pd_gt := pd_in 1197 (by decide +kernel) (by decide +kernel)
theorem pq_402 : Cond.selects yX6_readParts.cls yX6_readParts yX6_readParts ∈ pd_gt := pd_in 27 (by decide +kernel) (by decide +kernel)
theorem pq_403 : Cond.methodLink RX6 165 yX2_settle ∈ pd_gt := pd_in 1207 (by decide +kernel) (by decide +kernel)
theorem pq_404 : Cond.code yX2_settle cX2_settle 4 none ∈ pd_gt := pd_in 1210 (by decide +kernel) (by decide +kernel)
theorem pq_405 : Cond.initialized yX2_settle.cls ∈ pd_gt := pd_in 42 (by decide +kernel) (by decide +kernel)
theorem pq_406 : Cond.instanceMethod yX2_settle ∈ pd_gt := pd_in 1208 (by decide +kernel) (by decide +kernel)
theorem pq_407 : Cond.selects yX2_settle.cls yX2_settle yX2_settle ∈ pd_gt := pd_in 1209 (by decide +kernel) (by decide +kernel)
theorem pq_408 : Cond.fieldLinkNest RX6 169 "PayoutDesk$Book" "accountCount" "I" "PayoutDesk" ∈ pd_gt := pd_in 264 (by decide +kernel) (by decide +kernel)
theorem pq_409 : Cond.fieldLinkNest RX6 172 "PayoutDesk$Book" "accounts" "[LPayoutDesk$Group;" "PayoutDesk" ∈ pd_gt := pd_in 236 (by decide +kernel) (by decide +kernel)
theorem pq_410 : Cond.fieldLinkNest RX6 184 "PayoutDesk$Book" "balances" "[I" "PayoutDesk" ∈ pd_gt := pd_in 239 (by decide +kernel) (by decide +kernel)
theorem pq_411 : Cond.methodLink RX6 80 yX6_readSetting ∈ pd_gt := pd_in 1241 (by decide +kernel) (by decide +kernel)
theorem pq_412 : Cond.code yX6_readSetting cX6_readSetting 3 (some .boolean) ∈ pd_gt := pd_in 1244 (by decide +kernel) (by decide +kernel)
theorem pq_413 : Cond.initialized yX6_readSetting.cls ∈ pd_gt := pd_in 38 (by decide +kernel) (by decide +kernel)
theorem pq_414 : Cond.instanceMethod yX6_readSetting ∈ pd_gt := pd_in 1243 (by decide +kernel) (by decide +kernel)
theorem pq_415 : Cond.selects yX6_readSetting.cls yX6_readSetting yX6_readSetting ∈ pd_gt := pd_in 34 (by decide +kernel) (by decide +kernel)
theorem pq_416 : Cond.methodLink RX6 75 yX6_readLoan ∈ pd_gt := pd_in 1237 (by decide +kernel) (by decide +kernel)
theorem pq_417 : Cond.code yX6_readLoan cX6_readLoan 4 (some .boolean) ∈ pd_gt := pd_in 1240 (by decide +kernel) (by decide +kernel)
theorem pq_418 : Cond.initialized yX6_readLoan.cls ∈ pd_gt := pd_in 38 (by decide +kernel) (by decide +kernel)
theorem pq_419 : Cond.instanceMethod yX6_readLoan ∈ pd_gt := pd_in 1239 (by decide +kernel) (by decide +kernel)
theorem pq_420 : Cond.selects yX6_readLoan.cls yX6_readLoan yX6_readLoan ∈ pd_gt := pd_in 33 (by decide +kernel) (by decide +kernel)
theorem pq_421 : Cond.methodLink RX6 70 yX6_readHigh ∈ pd_gt := pd_in 1225 (by decide +kernel) (by decide +kernel)
theorem pq_422 : Cond.code yX6_readHigh cX6_readHigh 5 (some .boolean) ∈ pd_gt := pd_in 1228 (by decide +kernel) (by decide +kernel)
theorem pq_423 : Cond.initialized yX6_readHigh.cls ∈ pd_gt := pd_in 38 (by decide +kernel) (by decide +kernel)
theorem pq_424 : Cond.instanceMethod yX6_readHigh ∈ pd_gt := pd_in 1227 (by decide +kernel) (by decide +kernel)
theorem pq_425 : Cond.selects yX6_readHigh.cls yX6_readHigh yX6_readHigh ∈ pd_gt := pd_in 31 (by decide +kernel) (by decide +kernel)
theorem pq_426 : Cond.methodLink RX6 65 yX6_readAccount ∈ pd_gt := pd_in 1216 (by decide +kernel) (by decide +kernel)
theorem pq_427 : Cond.code yX6_readAccount cX6_readAccount 3 (some .boolean) ∈ pd_gt := pd_in 1219 (by decide +kernel) (by decide +kernel)
theorem pq_428 : Cond.initialized yX6_readAccount.cls ∈ pd_gt := pd_in 38 (by decide +kernel) (by decide +kernel)
theorem pq_429 : Cond.instanceMethod yX6_readAccount ∈ pd_gt := pd_in 1218 (by decide +kernel) (by decide +kernel)
theorem pq_430 : Cond.selects yX6_readAccount.cls yX6_readAccount yX6_readAccount ∈ pd_gt := pd_in 29 (by decide +kernel) (by decide +kernel)
theorem pq_431 : Cond.methodLink RX6 60 yX6_readTrust ∈ pd_gt := pd_in 1187 (by decide +kernel) (by decide +kernel)
theorem pq_432 : Cond.code yX6_readTrust cX6_readTrust 2 (some .boolean) ∈ pd_gt := pd_in 1190 (by decide +kernel) (by decide +kernel)
theorem pq_433 : Cond.initialized yX6_readTrust.cls ∈ pd_gt := pd_in 38 (by decide +kernel) (by decide +kernel)
theorem pq_434 : Cond.instanceMethod yX6_readTrust ∈ pd_gt := pd_in 1189 (by decide +kernel) (by decide +kernel)
theorem pq_435 : Cond.selects yX6_readTrust.cls yX6_readTrust yX6_readTrust ∈ pd_gt := pd_in 26 (by decide +kernel) (by decide +kernel)
theorem pq_436 : Cond.methodLink RX6 55 yX6_readPerson ∈ pd_gt := pd_in 1115 (by decide +kernel) (by decide +kernel)
theorem pq_437 : Cond.code yX6_readPerson cX6_readPerson 2 (some .boolean) ∈ pd_gt := pd_in 1118 (by decide +kernel) (by decide +kernel)
theorem pq_438 : Cond.initialized yX6_readPerson.cls ∈ pd_gt := pd_in 38 (by decide +kernel) (by decide +kernel)
theorem pq_439 : Cond.instanceMethod yX6_readPerson ∈ pd_gt := pd_in 1117 (by decide +kernel) (by decide +kernel)
theorem pq_440 : Cond.selects yX6_readPerson.cls yX6_readPerson yX6_readPerson ∈ pd_gt := pd_in 18 (by decide +kernel) (by decide +kernel)
theorem pq_441 : Cond.methodLink RX6 43 yX0_settleUntold ∈ pd_gt := pd_in 1246 (by decide +kernel) (by decide +kernel)
theorem pq_442 : Cond.code yX0_settleUntold cX0_settleUntold 1 none ∈ pd_gt := pd_in 1249 (by decide +kernel) (by decide +kernel)
theorem pq_443 : Cond.initialized yX0_settleUntold.cls ∈ pd_gt := pd_in 40 (by decide +kernel) (by decide +kernel)
theorem pq_444 : Cond.instanceMethod yX0_settleUntold ∈ pd_gt := pd_in 1247 (by decide +kernel) (by decide +kernel)
theorem pq_445 : Cond.selects yX0_settleUntold.cls yX0_settleUntold yX0_settleUntold ∈ pd_gt := pd_in 1248 (by decide +kernel) (by decide +kernel)
theorem pq_446 : Cond.methodLink RX6 36 yX6_readLine ∈ pd_gt := pd_in 1106 (by decide +kernel) (by decide +kernel)
theorem pq_447 : Cond.code yX6_readLine cX6_readLine 1 (some .boolean) ∈ pd_gt := pd_in 1109 (by decide +kernel) (by decide +kernel)
theorem pq_448 : Cond.initialized yX6_readLine.cls ∈ pd_gt := pd_in 38 (by decide +kernel) (by decide +kernel)
theorem pq_449 : Cond.instanceMethod yX6_readLine ∈ pd_gt := pd_in 1108 (by decide +kernel) (by decide +kernel)
theorem pq_450 : Cond.selects yX6_readLine.cls yX6_readLine yX6_readLine ∈ pd_gt := pd_in 16 (by decide +kernel) (by decide +kernel)
theorem pq_451 : Cond.methodLink RX6 25 yX0_clear ∈ pd_gt := pd_in 1085 (by decide +kernel) (by decide +kernel)
theorem pq_452 : Cond.code yX0_clear cX0_clear 1 none ∈ pd_gt := pd_in 1088 (by decide +kernel) (by decide +kernel)
theorem pq_453 : Cond.initialized yX0_clear.cls ∈ pd_gt := pd_in 40 (by decide +kernel) (by decide +kernel)
theorem pq_454 : Cond.instanceMethod yX0_clear ∈ pd_gt := pd_in 1086 (by decide +kernel) (by decide +kernel)
theorem pq_455 : Cond.selects yX0_clear.cls yX0_clear yX0_clear ∈ pd_gt := pd_in 1087 (by decide +kernel) (by decide +kernel)
theorem pq_456 : Cond.methodLink RX6 32 yX9_open ∈ pd_gt := pd_in 1089 (by decide +kernel) (by decide +kernel)
theorem pq_457 : Cond.code yX9_open cX9_open 2 none ∈ pd_gt := pd_in 1092 (by decide +kernel) (by decide +kernel)
theorem pq_458 : Cond.initialized yX9_open.cls ∈ pd_gt := pd_in 39 (by decide +kernel) (by decide +kernel)
theorem pq_459 : Cond.instanceMethod yX9_open ∈ pd_gt := pd_in 1090 (by decide +kernel) (by decide +kernel)
theorem pq_460 : Cond.selects yX9_open.cls yX9_open yX9_open ∈ pd_gt := pd_in 1091 (by decide +kernel) (by decide +kernel)
def pfX6_trade (sh : pd_S) (n : Nat) (F : pd_F) (x0 : Int) (x1 : Int) : Option (Int × pd_F) :=
  pd_i (pd_ob sh 6 x0 = true) <|
  pd_l (F x0 1) fun x2_4 =>
  pd_i (x2_4 ≠ 0) <|
  pd_l (pd_up F x0 1 x1) fun F3 =>
  some (x2_4, F3)
def pfX6_fail (sh : pd_S) (n : Nat) (F : pd_F) (x0 : Int) (x1 : Int) : Option (Int × pd_F) :=
  pd_i (pd_ob sh 6 x0 = true) <|
  pd_i (pd_ob sh 9 (F x0 0) = true) <|
  pd_l (pd_up F x0 2 (pd_w ((pd_w (8 * (F (F x0 0) 5))) + x1))) fun F3 =>
  some (0, F3)
def pfX6_at (sh : pd_S) (n : Nat) (F : pd_F) (x0 : Int) (x1 : Int) : Option (Int × pd_F) :=
  pd_i (pd_ob sh 6 x0 = true) <|
  pd_i (pd_ob sh 9 (F x0 0) = true) <|
  if (F (F x0 0) 4) ≠ 1 then
    some (0, F)
  else
    if (F (F x0 0) 8) ≠ x1 then
      some (0, F)
    else
      some (1, F)
def pfX6_isTaken (sh : pd_S) (n : Nat) (F : pd_F) (x0 : Int) : Option (Int × pd_F) :=
  if x0 = 123581014175598 then
    some (1, F)
  else
    if x0 = 29676314523100530 then
      some (1, F)
    else
      if x0 = 500136506228 then
        some (1, F)
      else
        if x0 = 27412351463812724 then
          some (1, F)
        else
          if x0 = 27691665836630885 then
            some (1, F)
          else
            if x0 = 1751738216 then
              some (1, F)
            else
              if x0 = 1718775661 then
                some (1, F)
              else
                if x0 = 29807 then
                  some (1, F)
                else
                  if x0 = 1819238766 then
                    some (1, F)
                  else
                    if x0 = 6583653 then
                      some (1, F)
                    else
                      if x0 = 427071792498 then
                        some (1, F)
                      else
                        if x0 = 491260572517 then
                          some (1, F)
                        else
                          if x0 ≠ 109317377451364 then
                            some (0, F)
                          else
                            some (1, F)
def pfX6_atName (sh : pd_S) (n : Nat) (F : pd_F) (x0 : Int) : Option (Int × pd_F) :=
  pd_i (pd_ob sh 6 x0 = true) <|
  pd_i (pd_ob sh 9 (F x0 0) = true) <|
  if (F (F x0 0) 4) ≠ 1 then
    some (0, F)
  else
    Option.bind (pfX6_isTaken sh n F (F (F x0 0) 8)) fun qr4 => pd_l qr4.1 fun r4 => pd_l qr4.2 fun F3 =>
    if r4 ≠ 0 then
      some (0, F3)
    else
      some (1, F3)
def pfX6_atNewName (sh : pd_S) (n : Nat) (F : pd_F) (x0 : Int) : Option (Int × pd_F) :=
  pd_i (pd_ob sh 6 x0 = true) <|
  Option.bind (pfX6_atName sh n F x0) fun qr3 => pd_l qr3.1 fun r3 => pd_l qr3.2 fun F1 =>
  if r3 ≠ 0 then
    pd_i (pd_ob sh 9 (F1 x0 0) = true) <|
    pd_i (pd_ob sh 0 (F1 x0 1) = true) <|
    Option.bind (pfX0_find sh n F1 (F1 x0 1) (F1 (F1 x0 0) 8)) fun qr7 => pd_l qr7.1 fun r7 => pd_l qr7.2 fun F5 =>
    if r7 = (-1) then
      some (1, F5)
    else
      Option.bind (pfX6_fail sh n F5 x0 2) fun qr9 => pd_l qr9.1 fun r9 => pd_l qr9.2 fun F8 =>
      if r9 = 0 then
        some (0, F8)
      else
        some (1, F8)
  else
    Option.bind (pfX6_fail sh n F1 x0 1) fun qr11 => pd_l qr11.1 fun r11 => pd_l qr11.2 fun F10 =>
    pd_i (r11 = 0 ∨ r11 = 1) <|
    some (r11, F10)
def pfX6_pass (sh : pd_S) (n : Nat) (F : pd_F) (x0 : Int) (x1 : Int) : Option (Int × pd_F) :=
  pd_i (pd_ob sh 6 x0 = true) <|
  Option.bind (pfX6_at sh n F x0 x1) fun qr3 => pd_l qr3.1 fun r3 => pd_l qr3.2 fun F1 =>
  if r3 ≠ 0 then
    pd_i (pd_ob sh 9 (F1 x0 0) = true) <|
    Option.bind (pfX9_advance sh n F1 (F1 x0 0)) fun F4 =>
    some (1, F4)
  else
    Option.bind (pfX6_fail sh n F1 x0 1) fun qr7 => pd_l qr7.1 fun r7 => pd_l qr7.2 fun F6 =>
    pd_i (r7 = 0 ∨ r7 = 1) <|
    some (r7, F6)
def pfX6_passEnd (sh : pd_S) (n : Nat) (F : pd_F) (x0 : Int) : Option (Int × pd_F) :=
  pd_i (pd_ob sh 6 x0 = true) <|
  pd_i (pd_ob sh 9 (F x0 0) = true) <|
  if (F (F x0 0) 4) = 3 then
    Option.bind (pfX9_advance sh n F (F x0 0)) fun F3 =>
    some (1, F3)
  else
    Option.bind (pfX6_fail sh n F x0 1) fun qr5 => pd_l qr5.1 fun r5 => pd_l qr5.2 fun F4 =>
    pd_i (r5 = 0 ∨ r5 = 1) <|
    some (r5, F4)
def pfX6_takeNumberIn_b41 (sh : pd_S) (n : Nat)  (F : pd_F) (x0 : Int) : Option (Int × pd_F) :=
  pd_i (pd_ob sh 6 x0 = true) <|
  Option.bind (pfX6_fail sh n F x0 4) fun qr3 => pd_l qr3.1 fun r3 => pd_l qr3.2 fun F1 =>
  some ((-1), F1)
def pfX6_takeNumberIn (sh : pd_S) (n : Nat) (F : pd_F) (x0 : Int) (x1 : Int) (x2 : Int) (x3 : Int) : Option (Int × pd_F) :=
  pd_i (pd_ob sh 6 x0 = true) <|
  pd_i (pd_ob sh 9 (F x0 0) = true) <|
  if (F (F x0 0) 4) = 2 then
    if (F (F x0 0) 7) < x1 then
      pfX6_takeNumberIn_b41 sh n F x0
    else
      if (F (F x0 0) 7) ≤ x2 then
        if x3 ≠ 0 then
          pd_l (F (F x0 0) 7) fun x4_68 =>
          Option.bind (pfX9_advance sh n F (F x0 0)) fun F6 =>
          some (x4_68, F6)
        else
          Option.bind (pfX6_fail sh n F x0 5) fun qr8 => pd_l qr8.1 fun r8 => pd_l qr8.2 fun F7 =>
          some ((-1), F7)
      else
        pfX6_takeNumberIn_b41 sh n F x0
  else
    Option.bind (pfX6_fail sh n F x0 1) fun qr10 => pd_l qr10.1 fun r10 => pd_l qr10.2 fun F9 =>
    some ((-1), F9)
def pfX6_takeTold_b40 (sh : pd_S) (n : Nat)  (F : pd_F) (x0 : Int) : Option (Int × pd_F) :=
  pd_i (pd_ob sh 6 x0 = true) <|
  Option.bind (pfX6_fail sh n F x0 3) fun qr3 => pd_l qr3.1 fun r3 => pd_l qr3.2 fun F1 =>
  some ((-1), F1)
def pfX6_takeTold (sh : pd_S) (n : Nat) (F : pd_F) (x0 : Int) (x1 : Int) (x2 : Int) : Option (Int × pd_F) :=
  pd_i (pd_ob sh 6 x0 = true) <|
  Option.bind (pfX6_atName sh n F x0) fun qr6 => pd_l qr6.1 fun r6 => pd_l qr6.2 fun F4 =>
  if r6 ≠ 0 then
    pd_i (pd_ob sh 9 (F4 x0 0) = true) <|
    pd_i (pd_ob sh 0 (F4 x0 1) = true) <|
    Option.bind (pfX0_find sh n F4 (F4 x0 1) (F4 (F4 x0 0) 8)) fun qr10 => pd_l qr10.1 fun r10 => pd_l qr10.2 fun F8 =>
    if r10 < x1 then
      pfX6_takeTold_b40 sh n F8 x0
    else
      if r10 < x2 then
        pd_i (pd_ob sh 9 (F8 x0 0) = true) <|
        Option.bind (pfX9_advance sh n F8 (F8 x0 0)) fun F11 =>
        some (pd_w (r10 - x1), F11)
      else
        pfX6_takeTold_b40 sh n F8 x0
  else
    Option.bind (pfX6_fail sh n F4 x0 1) fun qr14 => pd_l qr14.1 fun r14 => pd_l qr14.2 fun F13 =>
    some ((-1), F13)
def pfX6_readMarks_b32 (sh : pd_S) (n : Nat)  (F : pd_F) (x0 : Int) : Option (Int × pd_F) :=
  pd_i (pd_ob sh 6 x0 = true) <|
  Option.bind (pfX6_fail sh n F x0 2) fun qr3 => pd_l qr3.1 fun r3 => pd_l qr3.2 fun F1 =>
  pd_i (r3 = 0 ∨ r3 = 1) <|
  some (r3, F1)
def pfX6_readMarks_b56 (sh : pd_S) (n : Nat) (c2 : pd_F → Int → Int → Int → Option (Int × pd_F)) (F : pd_F) (x0 : Int) (x1 : Int) (x2 : Int) (t0 : Int) (t1 : Int) (t2 : Int) (t3 : Int) : Option (Int × pd_F) :=
  pd_i (pd_ob sh 6 t3 = true) <|
  Option.bind (pfX6_takeNumberIn sh n F t3 t2 t1 t0) fun qr7 => pd_l qr7.1 fun r7 => pd_l qr7.2 fun F5 =>
  if r7 ≠ (-1) then
    pd_i (pd_ob sh 5 x1 = true) <|
    Option.bind (pfX5_addMark sh n F5 x1 r7) fun F8 =>
    pd_l (pd_w (x2 + 1)) fun x2_72 =>
    c2 F8 x0 x1 x2_72
  else
    some (0, F5)
def pfX6_readMarks_b2 (sh : pd_S) (n : Nat)  : Nat → pd_F → Int → Int → Int → Option (Int × pd_F)
  | 0, _, _, _, _ => none
  | k + 1, F, x0, x1, x2 =>
    if x2 > 3 then
      some (1, F)
    else
      pd_i (pd_ob sh 6 x0 = true) <|
      pd_i (pd_ob sh 9 (F x0 0) = true) <|
      if (F (F x0 0) 4) ≠ 2 then
        some (1, F)
      else
        pd_i (pd_ob sh 5 x1 = true) <|
        Option.bind (pfX5_hasMark sh n F x1 (F (F x0 0) 7)) fun qr14 => pd_l qr14.1 fun r14 => pd_l qr14.2 fun F12 =>
        if r14 = 0 then
          if (F12 x1 1) ≥ 3 then
            pfX6_readMarks_b56 sh n (pfX6_readMarks_b2 sh n k) F12 x0 x1 x2 0 9999 1 x0
          else
            pfX6_readMarks_b56 sh n (pfX6_readMarks_b2 sh n k) F12 x0 x1 x2 1 9999 1 x0
        else
          pfX6_readMarks_b32 sh n F12 x0
def pfX6_readMarks (sh : pd_S) (n : Nat) (F : pd_F) (x0 : Int) (x1 : Int) : Option (Int × pd_F) :=
  pfX6_readMarks_b2 sh n n F x0 x1 0
def pfX6_readParts_b42 (sh : pd_S) (n : Nat)  (F : pd_F) (x0 : Int) : Option (Int × pd_F) :=
  pd_i (pd_ob sh 6 x0 = true) <|
  Option.bind (pfX6_fail sh n F x0 2) fun qr3 => pd_l qr3.1 fun r3 => pd_l qr3.2 fun F1 =>
  pd_i (r3 = 0 ∨ r3 = 1) <|
  some (r3, F1)
def pfX6_readParts_b59 (sh : pd_S) (n : Nat)  (F : pd_F) (x0 : Int) : Option (Int × pd_F) :=
  pd_i (pd_ob sh 6 x0 = true) <|
  Option.bind (pfX6_fail sh n F x0 3) fun qr7 => pd_l qr7.1 fun r7 => pd_l qr7.2 fun F5 =>
  pd_i (r7 = 0 ∨ r7 = 1) <|
  some (r7, F5)
def pfX6_readParts_b73 (sh : pd_S) (n : Nat)  (F : pd_F) (x0 : Int) : Option (Int × pd_F) :=
  pd_i (pd_ob sh 6 x0 = true) <|
  Option.bind (pfX6_fail sh n F x0 5) fun qr11 => pd_l qr11.1 fun r11 => pd_l qr11.2 fun F9 =>
  pd_i (r11 = 0 ∨ r11 = 1) <|
  some (r11, F9)
def pfX6_readParts_b48 (sh : pd_S) (n : Nat) (c2 : pd_F → Int → Int → Int → Option (Int × pd_F)) (F : pd_F) (x0 : Int) (x1 : Int) (x2 : Int) (x3 : Int) : Option (Int × pd_F) :=
  if x3 = (-1) then
    pfX6_readParts_b59 sh n F x0
  else
    if x3 < 17 then
      pd_i (pd_ob sh 2 x1 = true) <|
      if (F x1 3) < 5 then
        pd_i (pd_ob sh 6 x0 = true) <|
        pd_i (pd_ob sh 9 (F x0 0) = true) <|
        Option.bind (pfX9_advance sh n F (F x0 0)) fun F15 =>
        Option.bind (pfX6_takeNumberIn sh n F15 x0 0 99 1) fun qr18 => pd_l qr18.1 fun r18 => pd_l qr18.2 fun F17 =>
        if r18 ≠ (-1) then
          Option.bind (pfX2_addPart sh n F17 x1 x3 r18) fun F19 =>
          pd_l (pd_w (x2 + 1)) fun x2_111 =>
          c2 F19 x0 x1 x2_111
        else
          some (0, F17)
      else
        pfX6_readParts_b73 sh n F x0
    else
      pfX6_readParts_b59 sh n F x0
def pfX6_readParts_b2 (sh : pd_S) (n : Nat)  : Nat → pd_F → Int → Int → Int → Option (Int × pd_F)
  | 0, _, _, _, _ => none
  | k + 1, F, x0, x1, x2 =>
    if x2 > 5 then
      some (1, F)
    else
      pd_i (pd_ob sh 6 x0 = true) <|
      Option.bind (pfX6_atName sh n F x0) fun qr22 => pd_l qr22.1 fun r22 => pd_l qr22.2 fun F20 =>
      if r22 = 0 then
        some (1, F20)
      else
        pd_i (pd_ob sh 9 (F20 x0 0) = true) <|
        pd_i (pd_ob sh 0 (F20 x0 1) = true) <|
        Option.bind (pfX0_find sh n F20 (F20 x0 1) (F20 (F20 x0 0) 8)) fun qr26 => pd_l qr26.1 fun r26 => pd_l qr26.2 fun F24 =>
        if r26 = (-1) then
          pfX6_readParts_b48 sh n (pfX6_readParts_b2 sh n k) F24 x0 x1 x2 r26
        else
          pd_i (pd_ob sh 2 x1 = true) <|
          Option.bind (pfX2_hasPart sh n F24 x1 r26) fun qr29 => pd_l qr29.1 fun r29 => pd_l qr29.2 fun F27 =>
          if r29 = 0 then
            pfX6_readParts_b48 sh n (pfX6_readParts_b2 sh n k) F27 x0 x1 x2 r26
          else
            pfX6_readParts_b42 sh n F27 x0
def pfX6_readParts (sh : pd_S) (n : Nat) (F : pd_F) (x0 : Int) (x1 : Int) : Option (Int × pd_F) :=
  pfX6_readParts_b2 sh n n F x0 x1 0
def pfX6_readHigh (sh : pd_S) (n : Nat) (F : pd_F) (x0 : Int) : Option (Int × pd_F) :=
  pd_i (pd_ob sh 6 x0 = true) <|
  pd_i (pd_ob sh 0 (F x0 1) = true) <|
  if (F (F x0 1) 12) < 6 then
    pd_i (pd_ob sh 9 (F x0 0) = true) <|
    Option.bind (pfX9_advance sh n F (F x0 0)) fun F3 =>
    Option.bind (pfX6_takeTold sh n F3 x0 17 27) fun qr6 => pd_l qr6.1 fun r6 => pd_l qr6.2 fun F5 =>
    if r6 ≠ (-1) then
      Option.bind (pfX6_takeNumberIn sh n F5 x0 0 9999999 1) fun qr8 => pd_l qr8.1 fun r8 => pd_l qr8.2 fun F7 =>
      if r8 = (-1) then
        some (0, F7)
      else
        Option.bind (pfX6_pass sh n F7 x0 1718775661) fun qr10 => pd_l qr10.1 fun r10 => pd_l qr10.2 fun F9 =>
        if r10 ≠ 0 then
          Option.bind (pfX6_takeNumberIn sh n F9 x0 0 999 1) fun qr12 => pd_l qr12.1 fun r12 => pd_l qr12.2 fun F11 =>
          if r12 = (-1) then
            some (0, F11)
          else
            Option.bind (pfX6_pass sh n F11 x0 29807) fun qr14 => pd_l qr14.1 fun r14 => pd_l qr14.2 fun F13 =>
            if r14 ≠ 0 then
              Option.bind (pfX6_takeNumberIn sh n F13 x0 r12 999 1) fun qr16 => pd_l qr16.1 fun r16 => pd_l qr16.2 fun F15 =>
              if r16 = (-1) then
                some (0, F15)
              else
                Option.bind (pfX6_passEnd sh n F15 x0) fun qr18 => pd_l qr18.1 fun r18 => pd_l qr18.2 fun F17 =>
                if r18 ≠ 0 then
                  pd_i (pd_ob sh 0 (F17 x0 1) = true) <|
                  pd_i (pd_ib sh 2 1 (F17 (F17 x0 1) 4) (F17 (F17 x0 1) 12) = true) <|
                  pd_i (pd_ob sh 1 (F17 (F17 (F17 x0 1) 4) (F17 (F17 x0 1) 12)) = true) <|
                  Option.bind (pfX1_setTo sh n F17 (F17 (F17 (F17 x0 1) 4) (F17 (F17 x0 1) 12)) r6 r8 r12 r16) fun F21 =>
                  pd_i (pd_ob sh 0 (F21 x0 1) = true) <|
                  pd_l (pd_up F21 (F21 x0 1) 12 (pd_w ((F21 (F21 x0 1) 12) + 1))) fun F24 =>
                  some (1, F24)
                else
                  some (0, F17)
            else
              some (0, F13)
        else
          some (0, F9)
    else
      some (0, F5)
  else
    Option.bind (pfX6_fail sh n F x0 5) fun qr26 => pd_l qr26.1 fun r26 => pd_l qr26.2 fun F25 =>
    pd_i (r26 = 0 ∨ r26 = 1) <|
    some (r26, F25)
def pfX6_readLoan (sh : pd_S) (n : Nat) (F : pd_F) (x0 : Int) : Option (Int × pd_F) :=
  pd_i (pd_ob sh 6 x0 = true) <|
  pd_i (pd_ob sh 0 (F x0 1) = true) <|
  if (F (F x0 1) 13) < 8 then
    pd_i (pd_ob sh 9 (F x0 0) = true) <|
    Option.bind (pfX9_advance sh n F (F x0 0)) fun F3 =>
    Option.bind (pfX6_takeTold sh n F3 x0 0 12) fun qr6 => pd_l qr6.1 fun r6 => pd_l qr6.2 fun F5 =>
    if r6 ≠ (-1) then
      Option.bind (pfX6_takeNumberIn sh n F5 x0 0 9999999 1) fun qr8 => pd_l qr8.1 fun r8 => pd_l qr8.2 fun F7 =>
      if r8 = (-1) then
        some (0, F7)
      else
        Option.bind (pfX6_pass sh n F7 x0 6583653) fun qr10 => pd_l qr10.1 fun r10 => pd_l qr10.2 fun F9 =>
        if r10 ≠ 0 then
          Option.bind (pfX6_takeNumberIn sh n F9 x0 0 999 1) fun qr12 => pd_l qr12.1 fun r12 => pd_l qr12.2 fun F11 =>
          if r12 = (-1) then
            some (0, F11)
          else
            Option.bind (pfX6_passEnd sh n F11 x0) fun qr14 => pd_l qr14.1 fun r14 => pd_l qr14.2 fun F13 =>
            if r14 ≠ 0 then
              pd_i (pd_ob sh 0 (F13 x0 1) = true) <|
              pd_i (pd_ib sh 2 1 (F13 (F13 x0 1) 5) (F13 (F13 x0 1) 13) = true) <|
              pd_i (pd_ob sh 1 (F13 (F13 (F13 x0 1) 5) (F13 (F13 x0 1) 13)) = true) <|
              Option.bind (pfX1_setTo sh n F13 (F13 (F13 (F13 x0 1) 5) (F13 (F13 x0 1) 13)) r6 r8 r12 999) fun F17 =>
              pd_i (pd_ob sh 0 (F17 x0 1) = true) <|
              pd_l (pd_up F17 (F17 x0 1) 13 (pd_w ((F17 (F17 x0 1) 13) + 1))) fun F20 =>
              some (1, F20)
            else
              some (0, F13)
        else
          some (0, F9)
    else
      some (0, F5)
  else
    Option.bind (pfX6_fail sh n F x0 5) fun qr22 => pd_l qr22.1 fun r22 => pd_l qr22.2 fun F21 =>
    pd_i (r22 = 0 ∨ r22 = 1) <|
    some (r22, F21)
def pfX6_readSetting (sh : pd_S) (n : Nat) (F : pd_F) (x0 : Int) (x1 : Int) : Option (Int × pd_F) :=
  pd_i (pd_ob sh 6 x0 = true) <|
  pd_i (pd_ob sh 0 (F x0 1) = true) <|
  pd_i (pd_ib sh 0 0 (F (F x0 1) 6) x1 = true) <|
  if (F (F (F x0 1) 6) x1) = (-1) then
    pd_i (pd_ob sh 9 (F x0 0) = true) <|
    Option.bind (pfX9_advance sh n F (F x0 0)) fun F4 =>
    Option.bind (pfX11_greatestOf sh n F4 x1) fun qr7 => pd_l qr7.1 fun r7 => pd_l qr7.2 fun F6 =>
    Option.bind (pfX6_takeNumberIn sh n F6 x0 0 r7 1) fun qr9 => pd_l qr9.1 fun r9 => pd_l qr9.2 fun F8 =>
    if r9 = (-1) then
      some (0, F8)
    else
      Option.bind (pfX6_passEnd sh n F8 x0) fun qr11 => pd_l qr11.1 fun r11 => pd_l qr11.2 fun F10 =>
      if r11 ≠ 0 then
        pd_i (pd_ob sh 0 (F10 x0 1) = true) <|
        pd_i (pd_ib sh 0 0 (F10 (F10 x0 1) 6) x1 = true) <|
        pd_l (pd_up F10 (F10 (F10 x0 1) 6) x1 r9) fun F14 =>
        some (1, F14)
      else
        some (0, F10)
  else
    Option.bind (pfX6_fail sh n F x0 2) fun qr16 => pd_l qr16.1 fun r16 => pd_l qr16.2 fun F15 =>
    pd_i (r16 = 0 ∨ r16 = 1) <|
    some (r16, F15)
def pfX6_readPerson_b113 (sh : pd_S) (n : Nat)  (F : pd_F) (x0 : Int) : Option (Int × pd_F) :=
  pd_i (pd_ob sh 6 x0 = true) <|
  Option.bind (pfX6_passEnd sh n F x0) fun qr3 => pd_l qr3.1 fun r3 => pd_l qr3.2 fun F1 =>
  if r3 ≠ 0 then
    pd_i (pd_ob sh 0 (F1 x0 1) = true) <|
    Option.bind (pfX0_addPerson sh n F1 (F1 x0 1)) fun F4 =>
    some (1, F4)
  else
    some (0, F1)
def pfX6_readPerson (sh : pd_S) (n : Nat) (F : pd_F) (x0 : Int) : Option (Int × pd_F) :=
  pd_i (pd_ob sh 6 x0 = true) <|
  pd_i (pd_ob sh 0 (F x0 1) = true) <|
  if (F (F x0 1) 9) < 12 then
    pd_i (pd_ib sh 2 5 (F (F x0 1) 0) (F (F x0 1) 9) = true) <|
    pd_l (F (F (F x0 1) 0) (F (F x0 1) 9)) fun x1_33 =>
    pd_i (x1_33 ≠ 0) <|
    pd_i (pd_ob sh 9 (F x0 0) = true) <|
    Option.bind (pfX9_advance sh n F (F x0 0)) fun F10 =>
    Option.bind (pfX6_atNewName sh n F10 x0) fun qr13 => pd_l qr13.1 fun r13 => pd_l qr13.2 fun F12 =>
    if r13 ≠ 0 then
      pd_i (pd_ob sh 9 (F12 x0 0) = true) <|
      pd_i (pd_ob sh 5 x1_33 = true) <|
      Option.bind (pfX5_begin sh n F12 x1_33 (F12 (F12 x0 0) 8) (pd_w ((F12 (F12 x0 0) 6) - 97))) fun F15 =>
      pd_i (pd_ob sh 9 (F15 x0 0) = true) <|
      Option.bind (pfX9_advance sh n F15 (F15 x0 0)) fun F17 =>
      Option.bind (pfX6_readMarks sh n F17 x0 x1_33) fun qr20 => pd_l qr20.1 fun r20 => pd_l qr20.2 fun F19 =>
      if r20 ≠ 0 then
        Option.bind (pfX6_at sh n F19 x0 29676314523100530) fun qr22 => pd_l qr22.1 fun r22 => pd_l qr22.2 fun F21 =>
        pd_i (r22 = 0 ∨ r22 = 1) <|
        pd_l (pd_up F21 x1_33 4 r22) fun F24 =>
        if (F24 x1_33 4) = 0 then
          pfX6_readPerson_b113 sh n F24 x0
        else
          pd_i (pd_ob sh 9 (F24 x0 0) = true) <|
          Option.bind (pfX9_advance sh n F24 (F24 x0 0)) fun F25 =>
          pfX6_readPerson_b113 sh n F25 x0
      else
        some (0, F19)
    else
      some (0, F12)
  else
    Option.bind (pfX6_fail sh n F x0 5) fun qr28 => pd_l qr28.1 fun r28 => pd_l qr28.2 fun F27 =>
    pd_i (r28 = 0 ∨ r28 = 1) <|
    some (r28, F27)
def pfX6_readTrust (sh : pd_S) (n : Nat) (F : pd_F) (x0 : Int) : Option (Int × pd_F) :=
  pd_i (pd_ob sh 6 x0 = true) <|
  pd_i (pd_ob sh 0 (F x0 1) = true) <|
  if (F (F x0 1) 10) < 5 then
    pd_i (pd_ib sh 2 2 (F (F x0 1) 1) (F (F x0 1) 10) = true) <|
    pd_l (F (F (F x0 1) 1) (F (F x0 1) 10)) fun x1_32 =>
    pd_i (x1_32 ≠ 0) <|
    pd_i (pd_ob sh 9 (F x0 0) = true) <|
    Option.bind (pfX9_advance sh n F (F x0 0)) fun F5 =>
    Option.bind (pfX6_atNewName sh n F5 x0) fun qr8 => pd_l qr8.1 fun r8 => pd_l qr8.2 fun F7 =>
    if r8 ≠ 0 then
      pd_i (pd_ob sh 9 (F7 x0 0) = true) <|
      pd_i (pd_ob sh 2 x1_32 = true) <|
      Option.bind (pfX2_begin sh n F7 x1_32 (F7 (F7 x0 0) 8)) fun F10 =>
      pd_i (pd_ob sh 9 (F10 x0 0) = true) <|
      Option.bind (pfX9_advance sh n F10 (F10 x0 0)) fun F12 =>
      Option.bind (pfX6_readParts sh n F12 x0 x1_32) fun qr15 => pd_l qr15.1 fun r15 => pd_l qr15.2 fun F14 =>
      if r15 = 0 then
        some (0, F14)
      else
        Option.bind (pfX6_passEnd sh n F14 x0) fun qr17 => pd_l qr17.1 fun r17 => pd_l qr17.2 fun F16 =>
        if r17 ≠ 0 then
          pd_i (pd_ob sh 0 (F16 x0 1) = true) <|
          Option.bind (pfX2_settle sh n F16 x1_32 (F16 (F16 x0 1) 1)) fun F19 =>
          pd_i (pd_ob sh 0 (F19 x0 1) = true) <|
          pd_l (pd_up F19 (F19 x0 1) 10 (pd_w ((F19 (F19 x0 1) 10) + 1))) fun F21 =>
          some (1, F21)
        else
          some (0, F16)
    else
      some (0, F7)
  else
    Option.bind (pfX6_fail sh n F x0 5) fun qr23 => pd_l qr23.1 fun r23 => pd_l qr23.2 fun F22 =>
    pd_i (r23 = 0 ∨ r23 = 1) <|
    some (r23, F22)
def pfX6_readAccount (sh : pd_S) (n : Nat) (F : pd_F) (x0 : Int) : Option (Int × pd_F) :=
  pd_i (pd_ob sh 6 x0 = true) <|
  pd_i (pd_ob sh 0 (F x0 1) = true) <|
  if (F (F x0 1) 11) < 10 then
    pd_i (pd_ib sh 2 2 (F (F x0 1) 2) (F (F x0 1) 11) = true) <|
    pd_l (F (F (F x0 1) 2) (F (F x0 1) 11)) fun x1_33 =>
    pd_i (x1_33 ≠ 0) <|
    pd_i (pd_ob sh 9 (F x0 0) = true) <|
    Option.bind (pfX9_advance sh n F (F x0 0)) fun F5 =>
    Option.bind (pfX6_atNewName sh n F5 x0) fun qr8 => pd_l qr8.1 fun r8 => pd_l qr8.2 fun F7 =>
    if r8 ≠ 0 then
      pd_i (pd_ob sh 9 (F7 x0 0) = true) <|
      pd_i (pd_ob sh 2 x1_33 = true) <|
      Option.bind (pfX2_begin sh n F7 x1_33 (F7 (F7 x0 0) 8)) fun F10 =>
      pd_i (pd_ob sh 9 (F10 x0 0) = true) <|
      Option.bind (pfX9_advance sh n F10 (F10 x0 0)) fun F12 =>
      Option.bind (pfX6_pass sh n F12 x0 27691665836630885) fun qr15 => pd_l qr15.1 fun r15 => pd_l qr15.2 fun F14 =>
      if r15 ≠ 0 then
        Option.bind (pfX6_takeNumberIn sh n F14 x0 0 9999999 1) fun qr17 => pd_l qr17.1 fun r17 => pd_l qr17.2 fun F16 =>
        if r17 = (-1) then
          some (0, F16)
        else
          Option.bind (pfX6_readParts sh n F16 x0 x1_33) fun qr19 => pd_l qr19.1 fun r19 => pd_l qr19.2 fun F18 =>
          if r19 ≠ 0 then
            if (F18 x1_33 3) ≠ 0 then
              Option.bind (pfX6_passEnd sh n F18 x0) fun qr21 => pd_l qr21.1 fun r21 => pd_l qr21.2 fun F20 =>
              if r21 ≠ 0 then
                pd_i (pd_ob sh 0 (F20 x0 1) = true) <|
                Option.bind (pfX2_settle sh n F20 x1_33 (F20 (F20 x0 1) 1)) fun F23 =>
                pd_i (pd_ob sh 0 (F23 x0 1) = true) <|
                pd_i (pd_ib sh 0 0 (F23 (F23 x0 1) 3) (F23 (F23 x0 1) 11) = true) <|
                pd_l (pd_up F23 (F23 (F23 x0 1) 3) (F23 (F23 x0 1) 11) r17) fun F26 =>
                pd_i (pd_ob sh 0 (F26 x0 1) = true) <|
                pd_l (pd_up F26 (F26 x0 1) 11 (pd_w ((F26 (F26 x0 1) 11) + 1))) fun F28 =>
                some (1, F28)
              else
                some (0, F20)
            else
              Option.bind (pfX6_fail sh n F18 x0 1) fun qr30 => pd_l qr30.1 fun r30 => pd_l qr30.2 fun F29 =>
              pd_i (r30 = 0 ∨ r30 = 1) <|
              some (r30, F29)
          else
            some (0, F18)
      else
        some (0, F14)
    else
      some (0, F7)
  else
    Option.bind (pfX6_fail sh n F x0 5) fun qr33 => pd_l qr33.1 fun r33 => pd_l qr33.2 fun F32 =>
    pd_i (r33 = 0 ∨ r33 = 1) <|
    some (r33, F32)
def pfX6_readLine (sh : pd_S) (n : Nat) (F : pd_F) (x0 : Int) : Option (Int × pd_F) :=
  pd_i (pd_ob sh 6 x0 = true) <|
  Option.bind (pfX6_at sh n F x0 123581014175598) fun qr3 => pd_l qr3.1 fun r3 => pd_l qr3.2 fun F1 =>
  if r3 = 0 then
    Option.bind (pfX6_at sh n F1 x0 500136506228) fun qr5 => pd_l qr5.1 fun r5 => pd_l qr5.2 fun F4 =>
    if r5 = 0 then
      Option.bind (pfX6_at sh n F4 x0 27412351463812724) fun qr7 => pd_l qr7.1 fun r7 => pd_l qr7.2 fun F6 =>
      if r7 = 0 then
        Option.bind (pfX6_at sh n F6 x0 1751738216) fun qr9 => pd_l qr9.1 fun r9 => pd_l qr9.2 fun F8 =>
        if r9 = 0 then
          Option.bind (pfX6_at sh n F8 x0 1819238766) fun qr11 => pd_l qr11.1 fun r11 => pd_l qr11.2 fun F10 =>
          if r11 = 0 then
            Option.bind (pfX6_at sh n F10 x0 427071792498) fun qr13 => pd_l qr13.1 fun r13 => pd_l qr13.2 fun F12 =>
            if r13 = 0 then
              Option.bind (pfX6_at sh n F12 x0 491260572517) fun qr15 => pd_l qr15.1 fun r15 => pd_l qr15.2 fun F14 =>
              if r15 = 0 then
                Option.bind (pfX6_at sh n F14 x0 109317377451364) fun qr17 => pd_l qr17.1 fun r17 => pd_l qr17.2 fun F16 =>
                if r17 = 0 then
                  Option.bind (pfX6_fail sh n F16 x0 1) fun qr19 => pd_l qr19.1 fun r19 => pd_l qr19.2 fun F18 =>
                  pd_i (r19 = 0 ∨ r19 = 1) <|
                  some (r19, F18)
                else
                  Option.bind (pfX6_readSetting sh n F16 x0 0) fun qr22 => pd_l qr22.1 fun r22 => pd_l qr22.2 fun F21 =>
                  pd_i (r22 = 0 ∨ r22 = 1) <|
                  some (r22, F21)
              else
                Option.bind (pfX6_readSetting sh n F14 x0 2) fun qr25 => pd_l qr25.1 fun r25 => pd_l qr25.2 fun F24 =>
                pd_i (r25 = 0 ∨ r25 = 1) <|
                some (r25, F24)
            else
              Option.bind (pfX6_readSetting sh n F12 x0 1) fun qr28 => pd_l qr28.1 fun r28 => pd_l qr28.2 fun F27 =>
              pd_i (r28 = 0 ∨ r28 = 1) <|
              some (r28, F27)
          else
            Option.bind (pfX6_readLoan sh n F10 x0) fun qr31 => pd_l qr31.1 fun r31 => pd_l qr31.2 fun F30 =>
            pd_i (r31 = 0 ∨ r31 = 1) <|
            some (r31, F30)
        else
          Option.bind (pfX6_readHigh sh n F8 x0) fun qr34 => pd_l qr34.1 fun r34 => pd_l qr34.2 fun F33 =>
          pd_i (r34 = 0 ∨ r34 = 1) <|
          some (r34, F33)
      else
        Option.bind (pfX6_readAccount sh n F6 x0) fun qr37 => pd_l qr37.1 fun r37 => pd_l qr37.2 fun F36 =>
        pd_i (r37 = 0 ∨ r37 = 1) <|
        some (r37, F36)
    else
      Option.bind (pfX6_readTrust sh n F4 x0) fun qr40 => pd_l qr40.1 fun r40 => pd_l qr40.2 fun F39 =>
      pd_i (r40 = 0 ∨ r40 = 1) <|
      some (r40, F39)
  else
    Option.bind (pfX6_readPerson sh n F1 x0) fun qr43 => pd_l qr43.1 fun r43 => pd_l qr43.2 fun F42 =>
    pd_i (r43 = 0 ∨ r43 = 1) <|
    some (r43, F42)
def pfX6_read_b50 (sh : pd_S) (n : Nat)  (F : pd_F) (x0 : Int) (x2 : Int) : Option (Int × pd_F) :=
  pd_i (pd_ob sh 6 x0 = true) <|
  pd_i (pd_ob sh 0 (F x0 1) = true) <|
  Option.bind (pfX0_settleUntold sh n F (F x0 1)) fun F2 =>
  some (x2, F2)
def pfX6_read_b27 (sh : pd_S) (n : Nat)  : Nat → pd_F → Int → Int → Int → Option (Int × pd_F)
  | 0, _, _, _, _ => none
  | k + 1, F, x0, x2, x3 =>
    if x3 = 0 then
      pd_i (pd_ob sh 6 x0 = true) <|
      some (pd_w ((-2) - (F x0 2)), F)
    else
      if x2 > 44 then
        pd_i (pd_ob sh 6 x0 = true) <|
        some (pd_w ((-2) - (F x0 2)), F)
      else
        pd_l (pd_w (x2 + 1)) fun x2_37 =>
        pd_i (pd_ob sh 6 x0 = true) <|
        pd_i (pd_ob sh 9 (F x0 0) = true) <|
        if (F (F x0 0) 4) ≠ 0 then
          Option.bind (pfX6_readLine sh n F x0) fun qr9 => pd_l qr9.1 fun r9 => pd_l qr9.2 fun F8 =>
          pfX6_read_b27 sh n k F8 x0 x2_37 r9
        else
          pfX6_read_b50 sh n F x0 x2_37
def pfX6_read (sh : pd_S) (n : Nat) (F : pd_F) (x0 : Int) (x1 : Int) : Option (Int × pd_F) :=
  pd_i (pd_ob sh 6 x0 = true) <|
  pd_i (pd_ob sh 0 (F x0 1) = true) <|
  Option.bind (pfX0_clear sh n F (F x0 1)) fun F11 =>
  pd_l (pd_up F11 x0 2 0) fun F13 =>
  pd_i (pd_ob sh 9 (F13 x0 0) = true) <|
  Option.bind (pfX9_open sh n F13 (F13 x0 0) x1) fun F14 =>
  Option.bind (pfX6_readLine sh n F14 x0) fun qr17 => pd_l qr17.1 fun r17 => pd_l qr17.2 fun F16 =>
  pfX6_read_b27 sh n n F16 x0 0 r17
set_option maxHeartbeats 4000000 in
set_option maxRecDepth 100000 in
theorem pkX6_trade (l : Launch) {al : Bool} {sh : pd_S} {n : Nat} {F : pd_F} {x0 : Int} {x1 : Int} {ρ : Int} {Fz : pd_F} (hf : pfX6_trade sh n F x0 x1 = some (ρ, Fz)) : pd_C l yX6_trade (Cond.code yX6_trade cX6_trade 3 (some (.object "PayoutDesk$Book")) :: pd_gt) (pd_rm 1 0 0) al 0 0 sh F [pd_R x0, pd_R x1] (some (pd_R ρ)) sh Fz := by
  unfold pfX6_trade at hf
  refine pd_body (L := [pd_R x0, pd_R x1, pd_N]) (by decide +kernel) (Nat.le_of_ble_eq_true rfl) rfl (fun E => ?_)
  refine pd_aload_n (i := 0) dX6_trade_0 rfl rfl ?_
  obtain ⟨hg1, hf⟩ := pd_ig hf
  refine pd_get (x := pd_R (F x0 1)) 1 dX6_trade_1 (show vwCl[6]? = some (RX6, TX6, 3) from rfl) pin_6 (by decide) pq_265 hg1 rfl ?_
  refine pd_topR (fun x2_4 ex2_4 => ?_)
  have hf := pd_lt hf ex2_4
  clear ex2_4
  obtain ⟨hg2, hf⟩ := pd_ig hf
  refine pd_astore_n (L' := [pd_R x0, pd_R x1, pd_R x2_4]) dX6_trade_4 rfl (by decide) hg2 rfl ?_
  refine pd_aload_n (i := 0) dX6_trade_5 rfl rfl ?_
  refine pd_aload_n (i := 1) dX6_trade_6 rfl rfl ?_
  refine pd_put (n := x1) (x := pd_R x1) 1 dX6_trade_7 (show vwCl[6]? = some (RX6, TX6, 3) from rfl) pin_6 tyX6_ok nmX6 (by decide) pq_265 rfl hg1 rfl (pd_nrR (Or.inl ⟨_, rfl⟩)) (pd_ftR (Or.inl ⟨_, rfl⟩)) ?_
  refine pd_topF (fun F3 eF3 => ?_)
  have hf := pd_lt hf eF3
  clear eF3
  refine pd_aload_n (i := 2) dX6_trade_10 rfl rfl ?_
  obtain ⟨h1, h2⟩ := pd_inj hf
  subst h1 h2
  exact pd_aret dX6_trade_11 rfl (by first | exact Or.inl ⟨_, rfl⟩ | exact Or.inr ⟨_, rfl⟩) (Nat.le_refl 0) (Nat.le_refl 0)
set_option maxHeartbeats 4000000 in
set_option maxRecDepth 100000 in
theorem pkX6_fail (l : Launch) {al : Bool} {sh : pd_S} {n : Nat} {F : pd_F} {x0 : Int} {x1 : Int} {ρ : Int} {Fz : pd_F} (hf : pfX6_fail sh n F x0 x1 = some (ρ, Fz)) : pd_C l yX6_fail (Cond.code yX6_fail cX6_fail 2 (some .boolean) :: pd_gt) (pd_rm 1 0 0) al 0 0 sh F [pd_R x0, pd_I x1] (some (pd_I ρ)) sh Fz := by
  unfold pfX6_fail at hf
  refine pd_body (L := [pd_R x0, pd_I x1]) (by decide +kernel) (Nat.le_of_ble_eq_true rfl) rfl (fun E => ?_)
  refine pd_aload_n (i := 0) dX6_fail_0 rfl rfl ?_
  refine pd_bipush dX6_fail_1 (by decide) ?_
  refine pd_aload_n (i := 0) dX6_fail_3 rfl rfl ?_
  obtain ⟨hg1, hf⟩ := pd_ig hf
  refine pd_get (x := pd_R (F x0 0)) 0 dX6_fail_4 (show vwCl[6]? = some (RX6, TX6, 3) from rfl) pin_6 (by decide) pq_266 hg1 rfl ?_
  obtain ⟨hg2, hf⟩ := pd_ig hf
  refine pd_getN (x := pd_I (F (F x0 0) 5)) 5 dX6_fail_7 (show vwCl[9]? = some (RX9, TX9, 9) from rfl) pin_9 (by decide) pq_267 hg2 rfl ?_
  refine pd_imul dX6_fail_10 ?_
  refine pd_iload_n (i := 1) dX6_fail_11 rfl rfl ?_
  refine pd_iadd dX6_fail_12 ?_
  refine pd_put (n := (pd_w ((pd_w (8 * (F (F x0 0) 5))) + x1))) (x := pd_I (pd_w ((pd_w (8 * (F (F x0 0) 5))) + x1))) 2 dX6_fail_13 (show vwCl[6]? = some (RX6, TX6, 3) from rfl) pin_6 tyX6_ok nmX6 (by decide) pq_268 rfl hg1 rfl pd_nrI pd_ftI ?_
  refine pd_topF (fun F3 eF3 => ?_)
  have hf := pd_lt hf eF3
  clear eF3
  refine pd_iconst dX6_fail_16 (by decide) ?_
  obtain ⟨h1, h2⟩ := pd_inj hf
  subst h1 h2
  exact pd_zret dX6_fail_17 rfl (by decide) (Nat.le_refl 0) (Nat.le_refl 0)
set_option maxHeartbeats 4000000 in
set_option maxRecDepth 100000 in
theorem pkX6_at (l : Launch) {al : Bool} {sh : pd_S} {n : Nat} {F : pd_F} {x0 : Int} {x1 : Int} {ρ : Int} {Fz : pd_F} (hf : pfX6_at sh n F x0 x1 = some (ρ, Fz)) : pd_C l yX6_at (Cond.code yX6_at cX6_at 3 (some .boolean) :: pd_gt) (pd_rm 1 0 0) al 0 0 sh F [pd_R x0, pd_J x1] (some (pd_I ρ)) sh Fz := by
  unfold pfX6_at at hf
  refine pd_body (L := [pd_R x0, pd_J x1, pd_N]) (by decide +kernel) (Nat.le_of_ble_eq_true rfl) rfl (fun E => ?_)
  refine pd_aload_n (i := 0) dX6_at_0 rfl rfl ?_
  obtain ⟨hg1, hf⟩ := pd_ig hf
  refine pd_get (x := pd_R (F x0 0)) 0 dX6_at_1 (show vwCl[6]? = some (RX6, TX6, 3) from rfl) pin_6 (by decide) pq_266 hg1 rfl ?_
  obtain ⟨hg2, hf⟩ := pd_ig hf
  refine pd_getN (x := pd_I (F (F x0 0) 4)) 4 dX6_at_4 (show vwCl[9]? = some (RX9, TX9, 9) from rfl) pin_9 (by decide) pq_269 hg2 rfl ?_
  refine pd_iconst dX6_at_7 (by decide) ?_
  refine pd_icmp_ne (tgt := 27) dX6_at_8 (by decide) (fun hc => ?_) (fun hc => ?_)
  · have hf := pd_ip hf hc
    refine pd_iconst dX6_at_27 (by decide) ?_
    obtain ⟨h1, h2⟩ := pd_inj hf
    subst h1 h2
    exact pd_zret dX6_at_28 rfl (by decide) (Nat.le_refl 0) (Nat.le_refl 0)
  · have hf := pd_iq hf hc
    refine pd_aload_n (i := 0) dX6_at_11 rfl rfl ?_
    refine pd_get (x := pd_R (F x0 0)) 0 dX6_at_12 (show vwCl[6]? = some (RX6, TX6, 3) from rfl) pin_6 (by decide) pq_266 hg1 rfl ?_
    refine pd_getN (x := pd_J (F (F x0 0) 8)) 8 dX6_at_15 (show vwCl[9]? = some (RX9, TX9, 9) from rfl) pin_9 (by decide) pq_270 hg2 rfl ?_
    refine pd_lload_n (i := 1) dX6_at_18 rfl rfl ?_
    refine pd_lcmp_ne (tgt := 27) dX6_at_19 dX6_at_20 (by decide) (fun hc => ?_) (fun hc => ?_)
    · have hf := pd_ip hf hc
      refine pd_iconst dX6_at_27 (by decide) ?_
      obtain ⟨h1, h2⟩ := pd_inj hf
      subst h1 h2
      exact pd_zret dX6_at_28 rfl (by decide) (Nat.le_refl 0) (Nat.le_refl 0)
    · have hf := pd_iq hf hc
      refine pd_iconst dX6_at_23 (by decide) ?_
      refine pd_goto (tgt := 28) dX6_at_24 (by decide) ?_
      obtain ⟨h1, h2⟩ := pd_inj hf
      subst h1 h2
      exact pd_zret dX6_at_28 rfl (by decide) (Nat.le_refl 0) (Nat.le_refl 0)
set_option maxHeartbeats 4000000 in
set_option maxRecDepth 100000 in
theorem pkX6_isTaken (l : Launch) {al : Bool} {sh : pd_S} {n : Nat} {F : pd_F} {x0 : Int} {ρ : Int} {Fz : pd_F} (hf : pfX6_isTaken sh n F x0 = some (ρ, Fz)) : pd_C l yX6_isTaken (Cond.code yX6_isTaken cX6_isTaken 2 (some .boolean) :: pd_gt) (pd_rm 1 0 0) al 0 0 sh F [pd_J x0] (some (pd_I ρ)) sh Fz := by
  unfold pfX6_isTaken at hf
  refine pd_body (L := [pd_J x0, pd_N]) (by decide +kernel) (Nat.le_of_ble_eq_true rfl) rfl (fun E => ?_)
  refine pd_lload_n (i := 0) dX6_isTaken_0 rfl rfl ?_
  refine pd_ldc2 (x := 123581014175598) dX6_isTaken_1 pq_271 (by decide +kernel) ?_
  refine pd_lcmp_eq (tgt := 104) dX6_isTaken_4 dX6_isTaken_5 (by decide) (fun hc => ?_) (fun hc => ?_)
  · have hf := pd_ip hf hc
    refine pd_iconst dX6_isTaken_104 (by decide) ?_
    refine pd_goto (tgt := 109) dX6_isTaken_105 (by decide) ?_
    obtain ⟨h1, h2⟩ := pd_inj hf
    subst h1 h2
    exact pd_zret dX6_isTaken_109 rfl (by decide) (Nat.le_refl 0) (Nat.le_refl 0)
  · have hf := pd_in_ hf hc
    refine pd_lload_n (i := 0) dX6_isTaken_8 rfl rfl ?_
    refine pd_ldc2 (x := 29676314523100530) dX6_isTaken_9 pq_272 (by decide +kernel) ?_
    refine pd_lcmp_eq (tgt := 104) dX6_isTaken_12 dX6_isTaken_13 (by decide) (fun hc => ?_) (fun hc => ?_)
    · have hf := pd_ip hf hc
      refine pd_iconst dX6_isTaken_104 (by decide) ?_
      refine pd_goto (tgt := 109) dX6_isTaken_105 (by decide) ?_
      obtain ⟨h1, h2⟩ := pd_inj hf
      subst h1 h2
      exact pd_zret dX6_isTaken_109 rfl (by decide) (Nat.le_refl 0) (Nat.le_refl 0)
    · have hf := pd_in_ hf hc
      refine pd_lload_n (i := 0) dX6_isTaken_16 rfl rfl ?_
      refine pd_ldc2 (x := 500136506228) dX6_isTaken_17 pq_273 (by decide +kernel) ?_
      refine pd_lcmp_eq (tgt := 104) dX6_isTaken_20 dX6_isTaken_21 (by decide) (fun hc => ?_) (fun hc => ?_)
      · have hf := pd_ip hf hc
        refine pd_iconst dX6_isTaken_104 (by decide) ?_
        refine pd_goto (tgt := 109) dX6_isTaken_105 (by decide) ?_
        obtain ⟨h1, h2⟩ := pd_inj hf
        subst h1 h2
        exact pd_zret dX6_isTaken_109 rfl (by decide) (Nat.le_refl 0) (Nat.le_refl 0)
      · have hf := pd_in_ hf hc
        refine pd_lload_n (i := 0) dX6_isTaken_24 rfl rfl ?_
        refine pd_ldc2 (x := 27412351463812724) dX6_isTaken_25 pq_274 (by decide +kernel) ?_
        refine pd_lcmp_eq (tgt := 104) dX6_isTaken_28 dX6_isTaken_29 (by decide) (fun hc => ?_) (fun hc => ?_)
        · have hf := pd_ip hf hc
          refine pd_iconst dX6_isTaken_104 (by decide) ?_
          refine pd_goto (tgt := 109) dX6_isTaken_105 (by decide) ?_
          obtain ⟨h1, h2⟩ := pd_inj hf
          subst h1 h2
          exact pd_zret dX6_isTaken_109 rfl (by decide) (Nat.le_refl 0) (Nat.le_refl 0)
        · have hf := pd_in_ hf hc
          refine pd_lload_n (i := 0) dX6_isTaken_32 rfl rfl ?_
          refine pd_ldc2 (x := 27691665836630885) dX6_isTaken_33 pq_275 (by decide +kernel) ?_
          refine pd_lcmp_eq (tgt := 104) dX6_isTaken_36 dX6_isTaken_37 (by decide) (fun hc => ?_) (fun hc => ?_)
          · have hf := pd_ip hf hc
            refine pd_iconst dX6_isTaken_104 (by decide) ?_
            refine pd_goto (tgt := 109) dX6_isTaken_105 (by decide) ?_
            obtain ⟨h1, h2⟩ := pd_inj hf
            subst h1 h2
            exact pd_zret dX6_isTaken_109 rfl (by decide) (Nat.le_refl 0) (Nat.le_refl 0)
          · have hf := pd_in_ hf hc
            refine pd_lload_n (i := 0) dX6_isTaken_40 rfl rfl ?_
            refine pd_ldc2 (x := 1751738216) dX6_isTaken_41 pq_276 (by decide +kernel) ?_
            refine pd_lcmp_eq (tgt := 104) dX6_isTaken_44 dX6_isTaken_45 (by decide) (fun hc => ?_) (fun hc => ?_)
            · have hf := pd_ip hf hc
              refine pd_iconst dX6_isTaken_104 (by decide) ?_
              refine pd_goto (tgt := 109) dX6_isTaken_105 (by decide) ?_
              obtain ⟨h1, h2⟩ := pd_inj hf
              subst h1 h2
              exact pd_zret dX6_isTaken_109 rfl (by decide) (Nat.le_refl 0) (Nat.le_refl 0)
            · have hf := pd_in_ hf hc
              refine pd_lload_n (i := 0) dX6_isTaken_48 rfl rfl ?_
              refine pd_ldc2 (x := 1718775661) dX6_isTaken_49 pq_277 (by decide +kernel) ?_
              refine pd_lcmp_eq (tgt := 104) dX6_isTaken_52 dX6_isTaken_53 (by decide) (fun hc => ?_) (fun hc => ?_)
              · have hf := pd_ip hf hc
                refine pd_iconst dX6_isTaken_104 (by decide) ?_
                refine pd_goto (tgt := 109) dX6_isTaken_105 (by decide) ?_
                obtain ⟨h1, h2⟩ := pd_inj hf
                subst h1 h2
                exact pd_zret dX6_isTaken_109 rfl (by decide) (Nat.le_refl 0) (Nat.le_refl 0)
              · have hf := pd_in_ hf hc
                refine pd_lload_n (i := 0) dX6_isTaken_56 rfl rfl ?_
                refine pd_ldc2 (x := 29807) dX6_isTaken_57 pq_278 (by decide +kernel) ?_
                refine pd_lcmp_eq (tgt := 104) dX6_isTaken_60 dX6_isTaken_61 (by decide) (fun hc => ?_) (fun hc => ?_)
                · have hf := pd_ip hf hc
                  refine pd_iconst dX6_isTaken_104 (by decide) ?_
                  refine pd_goto (tgt := 109) dX6_isTaken_105 (by decide) ?_
                  obtain ⟨h1, h2⟩ := pd_inj hf
                  subst h1 h2
                  exact pd_zret dX6_isTaken_109 rfl (by decide) (Nat.le_refl 0) (Nat.le_refl 0)
                · have hf := pd_in_ hf hc
                  refine pd_lload_n (i := 0) dX6_isTaken_64 rfl rfl ?_
                  refine pd_ldc2 (x := 1819238766) dX6_isTaken_65 pq_279 (by decide +kernel) ?_
                  refine pd_lcmp_eq (tgt := 104) dX6_isTaken_68 dX6_isTaken_69 (by decide) (fun hc => ?_) (fun hc => ?_)
                  · have hf := pd_ip hf hc
                    refine pd_iconst dX6_isTaken_104 (by decide) ?_
                    refine pd_goto (tgt := 109) dX6_isTaken_105 (by decide) ?_
                    obtain ⟨h1, h2⟩ := pd_inj hf
                    subst h1 h2
                    exact pd_zret dX6_isTaken_109 rfl (by decide) (Nat.le_refl 0) (Nat.le_refl 0)
                  · have hf := pd_in_ hf hc
                    refine pd_lload_n (i := 0) dX6_isTaken_72 rfl rfl ?_
                    refine pd_ldc2 (x := 6583653) dX6_isTaken_73 pq_280 (by decide +kernel) ?_
                    refine pd_lcmp_eq (tgt := 104) dX6_isTaken_76 dX6_isTaken_77 (by decide) (fun hc => ?_) (fun hc => ?_)
                    · have hf := pd_ip hf hc
                      refine pd_iconst dX6_isTaken_104 (by decide) ?_
                      refine pd_goto (tgt := 109) dX6_isTaken_105 (by decide) ?_
                      obtain ⟨h1, h2⟩ := pd_inj hf
                      subst h1 h2
                      exact pd_zret dX6_isTaken_109 rfl (by decide) (Nat.le_refl 0) (Nat.le_refl 0)
                    · have hf := pd_in_ hf hc
                      refine pd_lload_n (i := 0) dX6_isTaken_80 rfl rfl ?_
                      refine pd_ldc2 (x := 427071792498) dX6_isTaken_81 pq_281 (by decide +kernel) ?_
                      refine pd_lcmp_eq (tgt := 104) dX6_isTaken_84 dX6_isTaken_85 (by decide) (fun hc => ?_) (fun hc => ?_)
                      · have hf := pd_ip hf hc
                        refine pd_iconst dX6_isTaken_104 (by decide) ?_
                        refine pd_goto (tgt := 109) dX6_isTaken_105 (by decide) ?_
                        obtain ⟨h1, h2⟩ := pd_inj hf
                        subst h1 h2
                        exact pd_zret dX6_isTaken_109 rfl (by decide) (Nat.le_refl 0) (Nat.le_refl 0)
                      · have hf := pd_in_ hf hc
                        refine pd_lload_n (i := 0) dX6_isTaken_88 rfl rfl ?_
                        refine pd_ldc2 (x := 491260572517) dX6_isTaken_89 pq_282 (by decide +kernel) ?_
                        refine pd_lcmp_eq (tgt := 104) dX6_isTaken_92 dX6_isTaken_93 (by decide) (fun hc => ?_) (fun hc => ?_)
                        · have hf := pd_ip hf hc
                          refine pd_iconst dX6_isTaken_104 (by decide) ?_
                          refine pd_goto (tgt := 109) dX6_isTaken_105 (by decide) ?_
                          obtain ⟨h1, h2⟩ := pd_inj hf
                          subst h1 h2
                          exact pd_zret dX6_isTaken_109 rfl (by decide) (Nat.le_refl 0) (Nat.le_refl 0)
                        · have hf := pd_in_ hf hc
                          refine pd_lload_n (i := 0) dX6_isTaken_96 rfl rfl ?_
                          refine pd_ldc2 (x := 109317377451364) dX6_isTaken_97 pq_283 (by decide +kernel) ?_
                          refine pd_lcmp_ne (tgt := 108) dX6_isTaken_100 dX6_isTaken_101 (by decide) (fun hc => ?_) (fun hc => ?_)
                          · have hf := pd_ip hf hc
                            refine pd_iconst dX6_isTaken_108 (by decide) ?_
                            obtain ⟨h1, h2⟩ := pd_inj hf
                            subst h1 h2
                            exact pd_zret dX6_isTaken_109 rfl (by decide) (Nat.le_refl 0) (Nat.le_refl 0)
                          · have hf := pd_iq hf hc
                            refine pd_iconst dX6_isTaken_104 (by decide) ?_
                            refine pd_goto (tgt := 109) dX6_isTaken_105 (by decide) ?_
                            obtain ⟨h1, h2⟩ := pd_inj hf
                            subst h1 h2
                            exact pd_zret dX6_isTaken_109 rfl (by decide) (Nat.le_refl 0) (Nat.le_refl 0)
set_option maxHeartbeats 4000000 in
set_option maxRecDepth 100000 in
theorem pkX6_atName (l : Launch) {al : Bool} {sh : pd_S} {n : Nat} {F : pd_F} {x0 : Int} {ρ : Int} {Fz : pd_F} (hf : pfX6_atName sh n F x0 = some (ρ, Fz)) : pd_C l yX6_atName (Cond.code yX6_atName cX6_atName 1 (some .boolean) :: pd_gt) (pd_rm 2 0 0) al 0 0 sh F [pd_R x0] (some (pd_I ρ)) sh Fz := by
  unfold pfX6_atName at hf
  refine pd_body (L := [pd_R x0]) (by decide +kernel) (Nat.le_of_ble_eq_true rfl) rfl (fun E => ?_)
  refine pd_aload_n (i := 0) dX6_atName_0 rfl rfl ?_
  obtain ⟨hg1, hf⟩ := pd_ig hf
  refine pd_get (x := pd_R (F x0 0)) 0 dX6_atName_1 (show vwCl[6]? = some (RX6, TX6, 3) from rfl) pin_6 (by decide) pq_266 hg1 rfl ?_
  obtain ⟨hg2, hf⟩ := pd_ig hf
  refine pd_getN (x := pd_I (F (F x0 0) 4)) 4 dX6_atName_4 (show vwCl[9]? = some (RX9, TX9, 9) from rfl) pin_9 (by decide) pq_269 hg2 rfl ?_
  refine pd_iconst dX6_atName_7 (by decide) ?_
  refine pd_icmp_ne (tgt := 28) dX6_atName_8 (by decide) (fun hc => ?_) (fun hc => ?_)
  · have hf := pd_ip hf hc
    refine pd_iconst dX6_atName_28 (by decide) ?_
    obtain ⟨h1, h2⟩ := pd_inj hf
    subst h1 h2
    exact pd_zret dX6_atName_29 rfl (by decide) (Nat.le_refl 0) (Nat.le_refl 0)
  · have hf := pd_iq hf hc
    refine pd_aload_n (i := 0) dX6_atName_11 rfl rfl ?_
    refine pd_get (x := pd_R (F x0 0)) 0 dX6_atName_12 (show vwCl[6]? = some (RX6, TX6, 3) from rfl) pin_6 (by decide) pq_266 hg1 rfl ?_
    refine pd_getN (x := pd_J (F (F x0 0) 8)) 8 dX6_atName_15 (show vwCl[9]? = some (RX9, TX9, 9) from rfl) pin_9 (by decide) pq_270 hg2 rfl ?_
    obtain ⟨r4, F3, hr, hf⟩ := pd_ob2 hf
    refine pd_callS (pkX6_isTaken l hr) dX6_atName_18 pq_284 pq_287 (pd_okm (by omega) (by decide) pq_285 pq_286 (by decide) (show (parseMethodDescriptor yX6_isTaken.desc).map (fun d => d.parameters.length) = some 1 from by decide +kernel)) (Nat.le_of_ble_eq_true rfl) rfl ?_
    refine pd_if_ne (tgt := 28) dX6_atName_21 (by decide) (fun hc => ?_) (fun hc => ?_)
    · have hf := pd_ip hf hc
      refine pd_iconst dX6_atName_28 (by decide) ?_
      obtain ⟨h1, h2⟩ := pd_inj hf
      subst h1 h2
      exact pd_zret dX6_atName_29 rfl (by decide) (Nat.le_refl 0) (Nat.le_refl 0)
    · have hf := pd_iq hf hc
      refine pd_iconst dX6_atName_24 (by decide) ?_
      refine pd_goto (tgt := 29) dX6_atName_25 (by decide) ?_
      obtain ⟨h1, h2⟩ := pd_inj hf
      subst h1 h2
      exact pd_zret dX6_atName_29 rfl (by decide) (Nat.le_refl 0) (Nat.le_refl 0)
set_option maxHeartbeats 4000000 in
set_option maxRecDepth 100000 in
theorem pkX6_atNewName (l : Launch) {al : Bool} {sh : pd_S} {n : Nat} {F : pd_F} {x0 : Int} {ρ : Int} {Fz : pd_F} (hf : pfX6_atNewName sh n F x0 = some (ρ, Fz)) : pd_C l yX6_atNewName (Cond.code yX6_atNewName cX6_atNewName 1 (some .boolean) :: pd_gt) (pd_rm 3 0 0) al 0 0 sh F [pd_R x0] (some (pd_I ρ)) sh Fz := by
  unfold pfX6_atNewName at hf
  refine pd_body (L := [pd_R x0]) (by decide +kernel) (Nat.le_of_ble_eq_true rfl) rfl (fun E => ?_)
  refine pd_aload_n (i := 0) dX6_atNewName_0 rfl rfl ?_
  obtain ⟨hg2, hf⟩ := pd_ig hf
  obtain ⟨r3, F1, hr, hf⟩ := pd_ob2 hf
  refine pd_callV (pkX6_atName l hr) dX6_atNewName_1 pq_288 pq_291 pq_292 (show vwCl[6]? = some (yX6_atName.cls, TX6, 3) from rfl) hg2 (pd_okm (by omega) (by decide) pq_289 pq_290 (by decide) (show (parseMethodDescriptor yX6_atName.desc).map (fun d => d.parameters.length) = some 0 from by decide +kernel)) (Nat.le_of_ble_eq_true rfl) rfl ?_
  refine pd_if_ne (tgt := 13) dX6_atNewName_4 (by decide) (fun hc => ?_) (fun hc => ?_)
  · have hf := pd_ip hf hc
    refine pd_aload_n (i := 0) dX6_atNewName_13 rfl rfl ?_
    refine pd_get (x := pd_R (F1 x0 1)) 1 dX6_atNewName_14 (show vwCl[6]? = some (RX6, TX6, 3) from rfl) pin_6 (by decide) pq_265 hg2 rfl ?_
    refine pd_aload_n (i := 0) dX6_atNewName_17 rfl rfl ?_
    refine pd_get (x := pd_R (F1 x0 0)) 0 dX6_atNewName_18 (show vwCl[6]? = some (RX6, TX6, 3) from rfl) pin_6 (by decide) pq_266 hg2 rfl ?_
    obtain ⟨hg4, hf⟩ := pd_ig hf
    refine pd_getN (x := pd_J (F1 (F1 x0 0) 8)) 8 dX6_atNewName_21 (show vwCl[9]? = some (RX9, TX9, 9) from rfl) pin_9 (by decide) pq_270 hg4 rfl ?_
    obtain ⟨hg6, hf⟩ := pd_ig hf
    obtain ⟨r7, F5, hr, hf⟩ := pd_ob2 hf
    refine pd_callV (pkX0_find l hr) dX6_atNewName_24 pq_293 pq_296 pq_297 (show vwCl[0]? = some (yX0_find.cls, TX0, 15) from rfl) hg6 (pd_okm (by omega) (by decide) pq_294 pq_295 (by decide) (show (parseMethodDescriptor yX0_find.desc).map (fun d => d.parameters.length) = some 1 from by decide +kernel)) (Nat.le_of_ble_eq_true rfl) rfl ?_
    refine pd_iconst dX6_atNewName_27 (by decide) ?_
    refine pd_icmp_eq (tgt := 39) dX6_atNewName_28 (by decide) (fun hc => ?_) (fun hc => ?_)
    · have hf := pd_ip hf hc
      refine pd_iconst dX6_atNewName_39 (by decide) ?_
      refine pd_goto (tgt := 44) dX6_atNewName_40 (by decide) ?_
      obtain ⟨h1, h2⟩ := pd_inj hf
      subst h1 h2
      exact pd_zret dX6_atNewName_44 rfl (by decide) (Nat.le_refl 0) (Nat.le_refl 0)
    · have hf := pd_in_ hf hc
      refine pd_aload_n (i := 0) dX6_atNewName_31 rfl rfl ?_
      refine pd_iconst dX6_atNewName_32 (by decide) ?_
      obtain ⟨r9, F8, hr, hf⟩ := pd_ob2 hf
      refine pd_callV (pkX6_fail l hr) dX6_atNewName_33 pq_298 pq_301 pq_302 (show vwCl[6]? = some (yX6_fail.cls, TX6, 3) from rfl) hg2 (pd_okm (by omega) (by decide) pq_299 pq_300 (by decide) (show (parseMethodDescriptor yX6_fail.desc).map (fun d => d.parameters.length) = some 1 from by decide +kernel)) (Nat.le_of_ble_eq_true rfl) rfl ?_
      refine pd_if_eq (tgt := 43) dX6_atNewName_36 (by decide) (fun hc => ?_) (fun hc => ?_)
      · have hf := pd_ip hf hc
        refine pd_iconst dX6_atNewName_43 (by decide) ?_
        obtain ⟨h1, h2⟩ := pd_inj hf
        subst h1 h2
        exact pd_zret dX6_atNewName_44 rfl (by decide) (Nat.le_refl 0) (Nat.le_refl 0)
      · have hf := pd_in_ hf hc
        refine pd_iconst dX6_atNewName_39 (by decide) ?_
        refine pd_goto (tgt := 44) dX6_atNewName_40 (by decide) ?_
        obtain ⟨h1, h2⟩ := pd_inj hf
        subst h1 h2
        exact pd_zret dX6_atNewName_44 rfl (by decide) (Nat.le_refl 0) (Nat.le_refl 0)
  · have hf := pd_iq hf hc
    refine pd_aload_n (i := 0) dX6_atNewName_7 rfl rfl ?_
    refine pd_iconst dX6_atNewName_8 (by decide) ?_
    obtain ⟨r11, F10, hr, hf⟩ := pd_ob2 hf
    refine pd_callV (pkX6_fail l hr) dX6_atNewName_9 pq_298 pq_301 pq_302 (show vwCl[6]? = some (yX6_fail.cls, TX6, 3) from rfl) hg2 (pd_okm (by omega) (by decide) pq_299 pq_300 (by decide) (show (parseMethodDescriptor yX6_fail.desc).map (fun d => d.parameters.length) = some 1 from by decide +kernel)) (Nat.le_of_ble_eq_true rfl) rfl ?_
    obtain ⟨hg12, hf⟩ := pd_ig hf
    obtain ⟨h1, h2⟩ := pd_inj hf
    subst h1 h2
    exact pd_zret dX6_atNewName_12 rfl hg12 (Nat.le_refl 0) (Nat.le_refl 0)
set_option maxHeartbeats 4000000 in
set_option maxRecDepth 100000 in
theorem pkX6_pass (l : Launch) {al : Bool} {sh : pd_S} {n : Nat} {F : pd_F} {x0 : Int} {x1 : Int} {ρ : Int} {Fz : pd_F} (hf : pfX6_pass sh n F x0 x1 = some (ρ, Fz)) : pd_C l yX6_pass (Cond.code yX6_pass cX6_pass 3 (some .boolean) :: pd_gt) (pd_rm 3 0 0) al 0 0 sh F [pd_R x0, pd_J x1] (some (pd_I ρ)) sh Fz := by
  unfold pfX6_pass at hf
  refine pd_body (L := [pd_R x0, pd_J x1, pd_N]) (by decide +kernel) (Nat.le_of_ble_eq_true rfl) rfl (fun E => ?_)
  refine pd_aload_n (i := 0) dX6_pass_0 rfl rfl ?_
  refine pd_lload_n (i := 1) dX6_pass_1 rfl rfl ?_
  obtain ⟨hg2, hf⟩ := pd_ig hf
  obtain ⟨r3, F1, hr, hf⟩ := pd_ob2 hf
  refine pd_callV (pkX6_at l hr) dX6_pass_2 pq_303 pq_306 pq_307 (show vwCl[6]? = some (yX6_at.cls, TX6, 3) from rfl) hg2 (pd_okm (by omega) (by decide) pq_304 pq_305 (by decide) (show (parseMethodDescriptor yX6_at.desc).map (fun d => d.parameters.length) = some 1 from by decide +kernel)) (Nat.le_of_ble_eq_true rfl) rfl ?_
  refine pd_if_ne (tgt := 14) dX6_pass_5 (by decide) (fun hc => ?_) (fun hc => ?_)
  · have hf := pd_ip hf hc
    refine pd_aload_n (i := 0) dX6_pass_14 rfl rfl ?_
    refine pd_get (x := pd_R (F1 x0 0)) 0 dX6_pass_15 (show vwCl[6]? = some (RX6, TX6, 3) from rfl) pin_6 (by decide) pq_266 hg2 rfl ?_
    obtain ⟨hg5, hf⟩ := pd_ig hf
    obtain ⟨F4, hr, hf⟩ := pd_ob1 hf
    refine pd_callV (pkX9_advance l hr) dX6_pass_18 pq_308 pq_192 pq_193 (show vwCl[9]? = some (yX9_advance.cls, TX9, 9) from rfl) hg5 (pd_okm (by omega) (by decide) pq_190 pq_191 (by decide) (show (parseMethodDescriptor yX9_advance.desc).map (fun d => d.parameters.length) = some 0 from by decide +kernel)) (Nat.le_of_ble_eq_true rfl) rfl ?_
    refine pd_iconst dX6_pass_21 (by decide) ?_
    obtain ⟨h1, h2⟩ := pd_inj hf
    subst h1 h2
    exact pd_zret dX6_pass_22 rfl (by decide) (Nat.le_refl 0) (Nat.le_refl 0)
  · have hf := pd_iq hf hc
    refine pd_aload_n (i := 0) dX6_pass_8 rfl rfl ?_
    refine pd_iconst dX6_pass_9 (by decide) ?_
    obtain ⟨r7, F6, hr, hf⟩ := pd_ob2 hf
    refine pd_callV (pkX6_fail l hr) dX6_pass_10 pq_298 pq_301 pq_302 (show vwCl[6]? = some (yX6_fail.cls, TX6, 3) from rfl) hg2 (pd_okm (by omega) (by decide) pq_299 pq_300 (by decide) (show (parseMethodDescriptor yX6_fail.desc).map (fun d => d.parameters.length) = some 1 from by decide +kernel)) (Nat.le_of_ble_eq_true rfl) rfl ?_
    obtain ⟨hg8, hf⟩ := pd_ig hf
    obtain ⟨h1, h2⟩ := pd_inj hf
    subst h1 h2
    exact pd_zret dX6_pass_13 rfl hg8 (Nat.le_refl 0) (Nat.le_refl 0)
set_option maxHeartbeats 4000000 in
set_option maxRecDepth 100000 in
theorem pkX6_passEnd (l : Launch) {al : Bool} {sh : pd_S} {n : Nat} {F : pd_F} {x0 : Int} {ρ : Int} {Fz : pd_F} (hf : pfX6_passEnd sh n F x0 = some (ρ, Fz)) : pd_C l yX6_passEnd (Cond.code yX6_passEnd cX6_passEnd 1 (some .boolean) :: pd_gt) (pd_rm 3 0 0) al 0 0 sh F [pd_R x0] (some (pd_I ρ)) sh Fz := by
  unfold pfX6_passEnd at hf
  refine pd_body (L := [pd_R x0]) (by decide +kernel) (Nat.le_of_ble_eq_true rfl) rfl (fun E => ?_)
  refine pd_aload_n (i := 0) dX6_passEnd_0 rfl rfl ?_
  obtain ⟨hg1, hf⟩ := pd_ig hf
  refine pd_get (x := pd_R (F x0 0)) 0 dX6_passEnd_1 (show vwCl[6]? = some (RX6, TX6, 3) from rfl) pin_6 (by decide) pq_266 hg1 rfl ?_
  obtain ⟨hg2, hf⟩ := pd_ig hf
  refine pd_getN (x := pd_I (F (F x0 0) 4)) 4 dX6_passEnd_4 (show vwCl[9]? = some (RX9, TX9, 9) from rfl) pin_9 (by decide) pq_269 hg2 rfl ?_
  refine pd_iconst dX6_passEnd_7 (by decide) ?_
  refine pd_icmp_eq (tgt := 17) dX6_passEnd_8 (by decide) (fun hc => ?_) (fun hc => ?_)
  · have hf := pd_ip hf hc
    refine pd_aload_n (i := 0) dX6_passEnd_17 rfl rfl ?_
    refine pd_get (x := pd_R (F x0 0)) 0 dX6_passEnd_18 (show vwCl[6]? = some (RX6, TX6, 3) from rfl) pin_6 (by decide) pq_266 hg1 rfl ?_
    obtain ⟨F3, hr, hf⟩ := pd_ob1 hf
    refine pd_callV (pkX9_advance l hr) dX6_passEnd_21 pq_308 pq_192 pq_193 (show vwCl[9]? = some (yX9_advance.cls, TX9, 9) from rfl) hg2 (pd_okm (by omega) (by decide) pq_190 pq_191 (by decide) (show (parseMethodDescriptor yX9_advance.desc).map (fun d => d.parameters.length) = some 0 from by decide +kernel)) (Nat.le_of_ble_eq_true rfl) rfl ?_
    refine pd_iconst dX6_passEnd_24 (by decide) ?_
    obtain ⟨h1, h2⟩ := pd_inj hf
    subst h1 h2
    exact pd_zret dX6_passEnd_25 rfl (by decide) (Nat.le_refl 0) (Nat.le_refl 0)
  · have hf := pd_in_ hf hc
    refine pd_aload_n (i := 0) dX6_passEnd_11 rfl rfl ?_
    refine pd_iconst dX6_passEnd_12 (by decide) ?_
    obtain ⟨r5, F4, hr, hf⟩ := pd_ob2 hf
    refine pd_callV (pkX6_fail l hr) dX6_passEnd_13 pq_298 pq_301 pq_302 (show vwCl[6]? = some (yX6_fail.cls, TX6, 3) from rfl) hg1 (pd_okm (by omega) (by decide) pq_299 pq_300 (by decide) (show (parseMethodDescriptor yX6_fail.desc).map (fun d => d.parameters.length) = some 1 from by decide +kernel)) (Nat.le_of_ble_eq_true rfl) rfl ?_
    obtain ⟨hg6, hf⟩ := pd_ig hf
    obtain ⟨h1, h2⟩ := pd_inj hf
    subst h1 h2
    exact pd_zret dX6_passEnd_16 rfl hg6 (Nat.le_refl 0) (Nat.le_refl 0)
set_option maxHeartbeats 4000000 in
set_option maxRecDepth 100000 in
theorem pkX6_takeNumberIn_b41 (E : pd_E) (l : Launch) {al : Bool} {sh : pd_S} {n : Nat} {ρ : Int} {Fz : pd_F}  (F : pd_F) (x0 : Int) (hf : pfX6_takeNumberIn_b41 sh n  F x0 = some (ρ, Fz)) : pd_V E l (pd_rm 3 0 0) (RX6, cX6_takeNumberIn, 5, (some .int), "takeNumberIn") (pd_Qm E al (some (pd_I ρ)) sh Fz 0 0) al 0 0 sh F 41 [pd_R x0, pd_N, pd_N, pd_N, pd_N] [] := by
  unfold pfX6_takeNumberIn_b41 at hf
  refine pd_aload_n (i := 0) dX6_takeNumberIn_41 rfl rfl ?_
  refine pd_iconst dX6_takeNumberIn_42 (by decide) ?_
  obtain ⟨hg2, hf⟩ := pd_ig hf
  obtain ⟨r3, F1, hr, hf⟩ := pd_ob2 hf
  refine pd_callV (pkX6_fail l hr) dX6_takeNumberIn_43 pq_298 pq_301 pq_302 (show vwCl[6]? = some (yX6_fail.cls, TX6, 3) from rfl) hg2 (pd_okm (by omega) (by decide) pq_299 pq_300 (by decide) (show (parseMethodDescriptor yX6_fail.desc).map (fun d => d.parameters.length) = some 1 from by decide +kernel)) (Nat.le_of_ble_eq_true rfl) rfl ?_
  refine pd_pop dX6_takeNumberIn_46 rfl ?_
  refine pd_iconst dX6_takeNumberIn_47 (by decide) ?_
  obtain ⟨h1, h2⟩ := pd_inj hf
  subst h1 h2
  exact pd_iret dX6_takeNumberIn_48 rfl (Nat.le_refl 0) (Nat.le_refl 0)
set_option maxHeartbeats 4000000 in
set_option maxRecDepth 100000 in
theorem pkX6_takeNumberIn (l : Launch) {al : Bool} {sh : pd_S} {n : Nat} {F : pd_F} {x0 : Int} {x1 : Int} {x2 : Int} {x3 : Int} {ρ : Int} {Fz : pd_F} (hf : pfX6_takeNumberIn sh n F x0 x1 x2 x3 = some (ρ, Fz)) : pd_C l yX6_takeNumberIn (Cond.code yX6_takeNumberIn cX6_takeNumberIn 5 (some .int) :: pd_gt) (pd_rm 3 0 0) al 0 0 sh F [pd_R x0, pd_I x1, pd_I x2, pd_I x3] (some (pd_I ρ)) sh Fz := by
  unfold pfX6_takeNumberIn at hf
  refine pd_body (L := [pd_R x0, pd_I x1, pd_I x2, pd_I x3, pd_N]) (by decide +kernel) (Nat.le_of_ble_eq_true rfl) rfl (fun E => ?_)
  refine pd_aload_n (i := 0) dX6_takeNumberIn_0 rfl rfl ?_
  obtain ⟨hg4, hf⟩ := pd_ig hf
  refine pd_get (x := pd_R (F x0 0)) 0 dX6_takeNumberIn_1 (show vwCl[6]? = some (RX6, TX6, 3) from rfl) pin_6 (by decide) pq_266 hg4 rfl ?_
  obtain ⟨hg5, hf⟩ := pd_ig hf
  refine pd_getN (x := pd_I (F (F x0 0) 4)) 4 dX6_takeNumberIn_4 (show vwCl[9]? = some (RX9, TX9, 9) from rfl) pin_9 (by decide) pq_269 hg5 rfl ?_
  refine pd_iconst dX6_takeNumberIn_7 (by decide) ?_
  refine pd_icmp_eq (tgt := 19) dX6_takeNumberIn_8 (by decide) (fun hc => ?_) (fun hc => ?_)
  · have hf := pd_ip hf hc
    refine pd_aload_n (i := 0) dX6_takeNumberIn_19 rfl rfl ?_
    refine pd_get (x := pd_R (F x0 0)) 0 dX6_takeNumberIn_20 (show vwCl[6]? = some (RX6, TX6, 3) from rfl) pin_6 (by decide) pq_266 hg4 rfl ?_
    refine pd_getN (x := pd_I (F (F x0 0) 7)) 7 dX6_takeNumberIn_23 (show vwCl[9]? = some (RX9, TX9, 9) from rfl) pin_9 (by decide) pq_309 hg5 rfl ?_
    refine pd_iload_n (i := 1) dX6_takeNumberIn_26 rfl rfl ?_
    refine pd_icmp_lt (tgt := 41) dX6_takeNumberIn_27 (by decide) (fun hc => ?_) (fun hc => ?_)
    · have hf := pd_ip hf hc
      exact pd_weak (L' := [pd_R x0, pd_N, pd_N, pd_N, pd_N]) ⟨Or.inr rfl, Or.inl rfl, Or.inl rfl, Or.inl rfl, Or.inr rfl, trivial⟩ (pkX6_takeNumberIn_b41 E l _ _ hf)
    · have hf := pd_in_ hf hc
      refine pd_aload_n (i := 0) dX6_takeNumberIn_30 rfl rfl ?_
      refine pd_get (x := pd_R (F x0 0)) 0 dX6_takeNumberIn_31 (show vwCl[6]? = some (RX6, TX6, 3) from rfl) pin_6 (by decide) pq_266 hg4 rfl ?_
      refine pd_getN (x := pd_I (F (F x0 0) 7)) 7 dX6_takeNumberIn_34 (show vwCl[9]? = some (RX9, TX9, 9) from rfl) pin_9 (by decide) pq_309 hg5 rfl ?_
      refine pd_iload_n (i := 2) dX6_takeNumberIn_37 rfl rfl ?_
      refine pd_icmp_le (tgt := 49) dX6_takeNumberIn_38 (by decide) (fun hc => ?_) (fun hc => ?_)
      · have hf := pd_ip hf hc
        refine pd_iload_n (i := 3) dX6_takeNumberIn_49 rfl rfl ?_
        refine pd_if_ne (tgt := 61) dX6_takeNumberIn_50 (by decide) (fun hc => ?_) (fun hc => ?_)
        · have hf := pd_ip hf hc
          refine pd_aload_n (i := 0) dX6_takeNumberIn_61 rfl rfl ?_
          refine pd_get (x := pd_R (F x0 0)) 0 dX6_takeNumberIn_62 (show vwCl[6]? = some (RX6, TX6, 3) from rfl) pin_6 (by decide) pq_266 hg4 rfl ?_
          refine pd_getN (x := pd_I (F (F x0 0) 7)) 7 dX6_takeNumberIn_65 (show vwCl[9]? = some (RX9, TX9, 9) from rfl) pin_9 (by decide) pq_309 hg5 rfl ?_
          refine pd_topI (fun x4_68 ex4_68 => ?_)
          have hf := pd_lt hf ex4_68
          clear ex4_68
          refine pd_istore (L' := [pd_R x0, pd_I x1, pd_I x2, pd_I x3, pd_I x4_68]) dX6_takeNumberIn_68 (by decide) rfl ?_
          refine pd_aload_n (i := 0) dX6_takeNumberIn_70 rfl rfl ?_
          refine pd_get (x := pd_R (F x0 0)) 0 dX6_takeNumberIn_71 (show vwCl[6]? = some (RX6, TX6, 3) from rfl) pin_6 (by decide) pq_266 hg4 rfl ?_
          obtain ⟨F6, hr, hf⟩ := pd_ob1 hf
          refine pd_callV (pkX9_advance l hr) dX6_takeNumberIn_74 pq_308 pq_192 pq_193 (show vwCl[9]? = some (yX9_advance.cls, TX9, 9) from rfl) hg5 (pd_okm (by omega) (by decide) pq_190 pq_191 (by decide) (show (parseMethodDescriptor yX9_advance.desc).map (fun d => d.parameters.length) = some 0 from by decide +kernel)) (Nat.le_of_ble_eq_true rfl) rfl ?_
          refine pd_iload (i := 4) dX6_takeNumberIn_77 rfl ?_
          obtain ⟨h1, h2⟩ := pd_inj hf
          subst h1 h2
          exact pd_iret dX6_takeNumberIn_79 rfl (Nat.le_refl 0) (Nat.le_refl 0)
        · have hf := pd_iq hf hc
          refine pd_aload_n (i := 0) dX6_takeNumberIn_53 rfl rfl ?_
          refine pd_iconst dX6_takeNumberIn_54 (by decide) ?_
          obtain ⟨r8, F7, hr, hf⟩ := pd_ob2 hf
          refine pd_callV (pkX6_fail l hr) dX6_takeNumberIn_55 pq_298 pq_301 pq_302 (show vwCl[6]? = some (yX6_fail.cls, TX6, 3) from rfl) hg4 (pd_okm (by omega) (by decide) pq_299 pq_300 (by decide) (show (parseMethodDescriptor yX6_fail.desc).map (fun d => d.parameters.length) = some 1 from by decide +kernel)) (Nat.le_of_ble_eq_true rfl) rfl ?_
          refine pd_pop dX6_takeNumberIn_58 rfl ?_
          refine pd_iconst dX6_takeNumberIn_59 (by decide) ?_
          obtain ⟨h1, h2⟩ := pd_inj hf
          subst h1 h2
          exact pd_iret dX6_takeNumberIn_60 rfl (Nat.le_refl 0) (Nat.le_refl 0)
      · have hf := pd_in_ hf hc
        exact pd_weak (L' := [pd_R x0, pd_N, pd_N, pd_N, pd_N]) ⟨Or.inr rfl, Or.inl rfl, Or.inl rfl, Or.inl rfl, Or.inr rfl, trivial⟩ (pkX6_takeNumberIn_b41 E l _ _ hf)
  · have hf := pd_in_ hf hc
    refine pd_aload_n (i := 0) dX6_takeNumberIn_11 rfl rfl ?_
    refine pd_iconst dX6_takeNumberIn_12 (by decide) ?_
    obtain ⟨r10, F9, hr, hf⟩ := pd_ob2 hf
    refine pd_callV (pkX6_fail l hr) dX6_takeNumberIn_13 pq_298 pq_301 pq_302 (show vwCl[6]? = some (yX6_fail.cls, TX6, 3) from rfl) hg4 (pd_okm (by omega) (by decide) pq_299 pq_300 (by decide) (show (parseMethodDescriptor yX6_fail.desc).map (fun d => d.parameters.length) = some 1 from by decide +kernel)) (Nat.le_of_ble_eq_true rfl) rfl ?_
    refine pd_pop dX6_takeNumberIn_16 rfl ?_
    refine pd_iconst dX6_takeNumberIn_17 (by decide) ?_
    obtain ⟨h1, h2⟩ := pd_inj hf
    subst h1 h2
    exact pd_iret dX6_takeNumberIn_18 rfl (Nat.le_refl 0) (Nat.le_refl 0)
set_option maxHeartbeats 4000000 in
set_option maxRecDepth 100000 in
theorem pkX6_takeTold_b40 (E : pd_E) (l : Launch) {al : Bool} {sh : pd_S} {n : Nat} {ρ : Int} {Fz : pd_F}  (F : pd_F) (x0 : Int) (hf : pfX6_takeTold_b40 sh n  F x0 = some (ρ, Fz)) : pd_V E l (pd_rm 3 0 0) (RX6, cX6_takeTold, 4, (some .int), "takeTold") (pd_Qm E al (some (pd_I ρ)) sh Fz 0 0) al 0 0 sh F 40 [pd_R x0, pd_N, pd_N, pd_N] [] := by
  unfold pfX6_takeTold_b40 at hf
  refine pd_aload_n (i := 0) dX6_takeTold_40 rfl rfl ?_
  refine pd_iconst dX6_takeTold_41 (by decide) ?_
  obtain ⟨hg2, hf⟩ := pd_ig hf
  obtain ⟨r3, F1, hr, hf⟩ := pd_ob2 hf
  refine pd_callV (pkX6_fail l hr) dX6_takeTold_42 pq_298 pq_301 pq_302 (show vwCl[6]? = some (yX6_fail.cls, TX6, 3) from rfl) hg2 (pd_okm (by omega) (by decide) pq_299 pq_300 (by decide) (show (parseMethodDescriptor yX6_fail.desc).map (fun d => d.parameters.length) = some 1 from by decide +kernel)) (Nat.le_of_ble_eq_true rfl) rfl ?_
  refine pd_pop dX6_takeTold_45 rfl ?_
  refine pd_iconst dX6_takeTold_46 (by decide) ?_
  obtain ⟨h1, h2⟩ := pd_inj hf
  subst h1 h2
  exact pd_iret dX6_takeTold_47 rfl (Nat.le_refl 0) (Nat.le_refl 0)
set_option maxHeartbeats 4000000 in
set_option maxRecDepth 100000 in
theorem pkX6_takeTold (l : Launch) {al : Bool} {sh : pd_S} {n : Nat} {F : pd_F} {x0 : Int} {x1 : Int} {x2 : Int} {ρ : Int} {Fz : pd_F} (hf : pfX6_takeTold sh n F x0 x1 x2 = some (ρ, Fz)) : pd_C l yX6_takeTold (Cond.code yX6_takeTold cX6_takeTold 4 (some .int) :: pd_gt) (pd_rm 3 0 0) al 0 0 sh F [pd_R x0, pd_I x1, pd_I x2] (some (pd_I ρ)) sh Fz := by
  unfold pfX6_takeTold at hf
  refine pd_body (L := [pd_R x0, pd_I x1, pd_I x2, pd_N]) (by decide +kernel) (Nat.le_of_ble_eq_true rfl) rfl (fun E => ?_)
  refine pd_aload_n (i := 0) dX6_takeTold_0 rfl rfl ?_
  obtain ⟨hg5, hf⟩ := pd_ig hf
  obtain ⟨r6, F4, hr, hf⟩ := pd_ob2 hf
  refine pd_callV (pkX6_atName l hr) dX6_takeTold_1 pq_288 pq_291 pq_292 (show vwCl[6]? = some (yX6_atName.cls, TX6, 3) from rfl) hg5 (pd_okm (by omega) (by decide) pq_289 pq_290 (by decide) (show (parseMethodDescriptor yX6_atName.desc).map (fun d => d.parameters.length) = some 0 from by decide +kernel)) (Nat.le_of_ble_eq_true rfl) rfl ?_
  refine pd_if_ne (tgt := 15) dX6_takeTold_4 (by decide) (fun hc => ?_) (fun hc => ?_)
  · have hf := pd_ip hf hc
    refine pd_aload_n (i := 0) dX6_takeTold_15 rfl rfl ?_
    refine pd_get (x := pd_R (F4 x0 1)) 1 dX6_takeTold_16 (show vwCl[6]? = some (RX6, TX6, 3) from rfl) pin_6 (by decide) pq_265 hg5 rfl ?_
    refine pd_aload_n (i := 0) dX6_takeTold_19 rfl rfl ?_
    refine pd_get (x := pd_R (F4 x0 0)) 0 dX6_takeTold_20 (show vwCl[6]? = some (RX6, TX6, 3) from rfl) pin_6 (by decide) pq_266 hg5 rfl ?_
    obtain ⟨hg7, hf⟩ := pd_ig hf
    refine pd_getN (x := pd_J (F4 (F4 x0 0) 8)) 8 dX6_takeTold_23 (show vwCl[9]? = some (RX9, TX9, 9) from rfl) pin_9 (by decide) pq_270 hg7 rfl ?_
    obtain ⟨hg9, hf⟩ := pd_ig hf
    obtain ⟨r10, F8, hr, hf⟩ := pd_ob2 hf
    refine pd_callV (pkX0_find l hr) dX6_takeTold_26 pq_293 pq_296 pq_297 (show vwCl[0]? = some (yX0_find.cls, TX0, 15) from rfl) hg9 (pd_okm (by omega) (by decide) pq_294 pq_295 (by decide) (show (parseMethodDescriptor yX0_find.desc).map (fun d => d.parameters.length) = some 1 from by decide +kernel)) (Nat.le_of_ble_eq_true rfl) rfl ?_
    refine pd_istore_n (L' := [pd_R x0, pd_I x1, pd_I x2, pd_I r10]) dX6_takeTold_29 rfl (by decide) rfl ?_
    refine pd_iload_n (i := 3) dX6_takeTold_30 rfl rfl ?_
    refine pd_iload_n (i := 1) dX6_takeTold_31 rfl rfl ?_
    refine pd_icmp_lt (tgt := 40) dX6_takeTold_32 (by decide) (fun hc => ?_) (fun hc => ?_)
    · have hf := pd_ip hf hc
      exact pd_weak (L' := [pd_R x0, pd_N, pd_N, pd_N]) ⟨Or.inr rfl, Or.inl rfl, Or.inl rfl, Or.inl rfl, trivial⟩ (pkX6_takeTold_b40 E l _ _ hf)
    · have hf := pd_in_ hf hc
      refine pd_iload_n (i := 3) dX6_takeTold_35 rfl rfl ?_
      refine pd_iload_n (i := 2) dX6_takeTold_36 rfl rfl ?_
      refine pd_icmp_lt (tgt := 48) dX6_takeTold_37 (by decide) (fun hc => ?_) (fun hc => ?_)
      · have hf := pd_ip hf hc
        refine pd_aload_n (i := 0) dX6_takeTold_48 rfl rfl ?_
        refine pd_get (x := pd_R (F8 x0 0)) 0 dX6_takeTold_49 (show vwCl[6]? = some (RX6, TX6, 3) from rfl) pin_6 (by decide) pq_266 hg5 rfl ?_
        obtain ⟨hg12, hf⟩ := pd_ig hf
        obtain ⟨F11, hr, hf⟩ := pd_ob1 hf
        refine pd_callV (pkX9_advance l hr) dX6_takeTold_52 pq_308 pq_192 pq_193 (show vwCl[9]? = some (yX9_advance.cls, TX9, 9) from rfl) hg12 (pd_okm (by omega) (by decide) pq_190 pq_191 (by decide) (show (parseMethodDescriptor yX9_advance.desc).map (fun d => d.parameters.length) = some 0 from by decide +kernel)) (Nat.le_of_ble_eq_true rfl) rfl ?_
        refine pd_iload_n (i := 3) dX6_takeTold_55 rfl rfl ?_
        refine pd_iload_n (i := 1) dX6_takeTold_56 rfl rfl ?_
        refine pd_isub dX6_takeTold_57 ?_
        obtain ⟨h1, h2⟩ := pd_inj hf
        subst h1 h2
        exact pd_iret dX6_takeTold_58 rfl (Nat.le_refl 0) (Nat.le_refl 0)
      · have hf := pd_in_ hf hc
        exact pd_weak (L' := [pd_R x0, pd_N, pd_N, pd_N]) ⟨Or.inr rfl, Or.inl rfl, Or.inl rfl, Or.inl rfl, trivial⟩ (pkX6_takeTold_b40 E l _ _ hf)
  · have hf := pd_iq hf hc
    refine pd_aload_n (i := 0) dX6_takeTold_7 rfl rfl ?_
    refine pd_iconst dX6_takeTold_8 (by decide) ?_
    obtain ⟨r14, F13, hr, hf⟩ := pd_ob2 hf
    refine pd_callV (pkX6_fail l hr) dX6_takeTold_9 pq_298 pq_301 pq_302 (show vwCl[6]? = some (yX6_fail.cls, TX6, 3) from rfl) hg5 (pd_okm (by omega) (by decide) pq_299 pq_300 (by decide) (show (parseMethodDescriptor yX6_fail.desc).map (fun d => d.parameters.length) = some 1 from by decide +kernel)) (Nat.le_of_ble_eq_true rfl) rfl ?_
    refine pd_pop dX6_takeTold_12 rfl ?_
    refine pd_iconst dX6_takeTold_13 (by decide) ?_
    obtain ⟨h1, h2⟩ := pd_inj hf
    subst h1 h2
    exact pd_iret dX6_takeTold_14 rfl (Nat.le_refl 0) (Nat.le_refl 0)
set_option maxHeartbeats 4000000 in
set_option maxRecDepth 100000 in
theorem pkX6_readMarks_b32 (E : pd_E) (l : Launch) {al : Bool} {sh : pd_S} {n : Nat} {ρ : Int} {Fz : pd_F}  (F : pd_F) (x0 : Int) (hf : pfX6_readMarks_b32 sh n  F x0 = some (ρ, Fz)) : pd_V E l (pd_rm 4 0 0) (RX6, cX6_readMarks, 4, (some .boolean), "readMarks") (pd_Qm E al (some (pd_I ρ)) sh Fz 0 0) al 0 0 sh F 32 [pd_R x0, pd_N, pd_N, pd_N] [] := by
  unfold pfX6_readMarks_b32 at hf
  refine pd_aload_n (i := 0) dX6_readMarks_32 rfl rfl ?_
  refine pd_iconst dX6_readMarks_33 (by decide) ?_
  obtain ⟨hg2, hf⟩ := pd_ig hf
  obtain ⟨r3, F1, hr, hf⟩ := pd_ob2 hf
  refine pd_callV (pkX6_fail l hr) dX6_readMarks_34 pq_298 pq_301 pq_302 (show vwCl[6]? = some (yX6_fail.cls, TX6, 3) from rfl) hg2 (pd_okm (by omega) (by decide) pq_299 pq_300 (by decide) (show (parseMethodDescriptor yX6_fail.desc).map (fun d => d.parameters.length) = some 1 from by decide +kernel)) (Nat.le_of_ble_eq_true rfl) rfl ?_
  obtain ⟨hg4, hf⟩ := pd_ig hf
  obtain ⟨h1, h2⟩ := pd_inj hf
  subst h1 h2
  exact pd_zret dX6_readMarks_37 rfl hg4 (Nat.le_refl 0) (Nat.le_refl 0)
set_option maxHeartbeats 4000000 in
set_option maxRecDepth 100000 in
theorem pkX6_readMarks_b56 (E : pd_E) (l : Launch) {al : Bool} {sh : pd_S} {n : Nat} {ρ : Int} {Fz : pd_F} {c2 : pd_F → Int → Int → Int → Option (Int × pd_F)} (hL2 : ∀ (F : pd_F) (x0 : Int) (x1 : Int) (x2 : Int), c2 F x0 x1 x2 = some (ρ, Fz) → pd_V E l (pd_rm 4 0 0) (RX6, cX6_readMarks, 4, (some .boolean), "readMarks") (pd_Qm E al (some (pd_I ρ)) sh Fz 0 0) al 0 0 sh F 2 [pd_R x0, pd_R x1, pd_I x2, pd_N] []) (F : pd_F) (x0 : Int) (x1 : Int) (x2 : Int) (t0 : Int) (t1 : Int) (t2 : Int) (t3 : Int) (hf : pfX6_readMarks_b56 sh n c2 F x0 x1 x2 t0 t1 t2 t3 = some (ρ, Fz)) : pd_V E l (pd_rm 4 0 0) (RX6, cX6_readMarks, 4, (some .boolean), "readMarks") (pd_Qm E al (some (pd_I ρ)) sh Fz 0 0) al 0 0 sh F 56 [pd_R x0, pd_R x1, pd_I x2, pd_N] [pd_I t0, pd_I t1, pd_I t2, pd_R t3] := by
  unfold pfX6_readMarks_b56 at hf
  obtain ⟨hg6, hf⟩ := pd_ig hf
  obtain ⟨r7, F5, hr, hf⟩ := pd_ob2 hf
  refine pd_callV (pkX6_takeNumberIn l hr) dX6_readMarks_56 pq_310 pq_313 pq_314 (show vwCl[6]? = some (yX6_takeNumberIn.cls, TX6, 3) from rfl) hg6 (pd_okm (by omega) (by decide) pq_311 pq_312 (by decide) (show (parseMethodDescriptor yX6_takeNumberIn.desc).map (fun d => d.parameters.length) = some 3 from by decide +kernel)) (Nat.le_of_ble_eq_true rfl) rfl ?_
  refine pd_istore_n (L' := [pd_R x0, pd_R x1, pd_I x2, pd_I r7]) dX6_readMarks_59 rfl (by decide) rfl ?_
  refine pd_iload_n (i := 3) dX6_readMarks_60 rfl rfl ?_
  refine pd_iconst dX6_readMarks_61 (by decide) ?_
  refine pd_icmp_ne (tgt := 67) dX6_readMarks_62 (by decide) (fun hc => ?_) (fun hc => ?_)
  · have hf := pd_ip hf hc
    refine pd_aload_n (i := 1) dX6_readMarks_67 rfl rfl ?_
    refine pd_iload_n (i := 3) dX6_readMarks_68 rfl rfl ?_
    obtain ⟨hg9, hf⟩ := pd_ig hf
    obtain ⟨F8, hr, hf⟩ := pd_ob1 hf
    refine pd_callV (pkX5_addMark l hr) dX6_readMarks_69 pq_315 pq_318 pq_319 (show vwCl[5]? = some (yX5_addMark.cls, TX5, 5) from rfl) hg9 (pd_okm (by omega) (by decide) pq_316 pq_317 (by decide) (show (parseMethodDescriptor yX5_addMark.desc).map (fun d => d.parameters.length) = some 1 from by decide +kernel)) (Nat.le_of_ble_eq_true rfl) rfl ?_
    refine pd_iincN (L' := fun y => [pd_R x0, pd_R x1, pd_I y, pd_I r7]) dX6_readMarks_72 rfl (by decide) (by decide) (fun _ => rfl) (fun x2_72 ex2_72 => ?_)
    have hf := pd_lt hf ex2_72
    clear ex2_72
    refine pd_goto (tgt := 2) dX6_readMarks_75 (by decide) ?_
    exact pd_weak (L' := [pd_R x0, pd_R x1, pd_I x2_72, pd_N]) ⟨Or.inr rfl, Or.inr rfl, Or.inr rfl, Or.inl rfl, trivial⟩ (hL2 _ _ _ _ hf)
  · have hf := pd_iq hf hc
    refine pd_iconst dX6_readMarks_65 (by decide) ?_
    obtain ⟨h1, h2⟩ := pd_inj hf
    subst h1 h2
    exact pd_zret dX6_readMarks_66 rfl (by decide) (Nat.le_refl 0) (Nat.le_refl 0)
set_option maxHeartbeats 4000000 in
set_option maxRecDepth 100000 in
theorem pkX6_readMarks_b2 (E : pd_E) (l : Launch) {al : Bool} {sh : pd_S} {n : Nat} {ρ : Int} {Fz : pd_F}  : ∀ (k : Nat) (F : pd_F) (x0 : Int) (x1 : Int) (x2 : Int), pfX6_readMarks_b2 sh n  k F x0 x1 x2 = some (ρ, Fz) → pd_V E l (pd_rm 4 0 0) (RX6, cX6_readMarks, 4, (some .boolean), "readMarks") (pd_Qm E al (some (pd_I ρ)) sh Fz 0 0) al 0 0 sh F 2 [pd_R x0, pd_R x1, pd_I x2, pd_N] [] := by
  intro k
  induction k with
  | zero => intro F x0 x1 x2 hf; exact absurd hf (by unfold pfX6_readMarks_b2; exact fun h => nomatch h)
  | succ k ih =>
    intro F x0 x1 x2 hf
    unfold pfX6_readMarks_b2 at hf
    refine pd_iload_n (i := 2) dX6_readMarks_2 rfl rfl ?_
    refine pd_iconst dX6_readMarks_3 (by decide) ?_
    refine pd_icmp_gt (tgt := 78) dX6_readMarks_4 (by decide) (fun hc => ?_) (fun hc => ?_)
    · have hf := pd_ip hf hc
      refine pd_iconst dX6_readMarks_78 (by decide) ?_
      obtain ⟨h1, h2⟩ := pd_inj hf
      subst h1 h2
      exact pd_zret dX6_readMarks_79 rfl (by decide) (Nat.le_refl 0) (Nat.le_refl 0)
    · have hf := pd_in_ hf hc
      refine pd_aload_n (i := 0) dX6_readMarks_7 rfl rfl ?_
      obtain ⟨hg10, hf⟩ := pd_ig hf
      refine pd_get (x := pd_R (F x0 0)) 0 dX6_readMarks_8 (show vwCl[6]? = some (RX6, TX6, 3) from rfl) pin_6 (by decide) pq_266 hg10 rfl ?_
      obtain ⟨hg11, hf⟩ := pd_ig hf
      refine pd_getN (x := pd_I (F (F x0 0) 4)) 4 dX6_readMarks_11 (show vwCl[9]? = some (RX9, TX9, 9) from rfl) pin_9 (by decide) pq_269 hg11 rfl ?_
      refine pd_iconst dX6_readMarks_14 (by decide) ?_
      refine pd_icmp_ne (tgt := 78) dX6_readMarks_15 (by decide) (fun hc => ?_) (fun hc => ?_)
      · have hf := pd_ip hf hc
        refine pd_iconst dX6_readMarks_78 (by decide) ?_
        obtain ⟨h1, h2⟩ := pd_inj hf
        subst h1 h2
        exact pd_zret dX6_readMarks_79 rfl (by decide) (Nat.le_refl 0) (Nat.le_refl 0)
      · have hf := pd_iq hf hc
        refine pd_aload_n (i := 1) dX6_readMarks_18 rfl rfl ?_
        refine pd_aload_n (i := 0) dX6_readMarks_19 rfl rfl ?_
        refine pd_get (x := pd_R (F x0 0)) 0 dX6_readMarks_20 (show vwCl[6]? = some (RX6, TX6, 3) from rfl) pin_6 (by decide) pq_266 hg10 rfl ?_
        refine pd_getN (x := pd_I (F (F x0 0) 7)) 7 dX6_readMarks_23 (show vwCl[9]? = some (RX9, TX9, 9) from rfl) pin_9 (by decide) pq_309 hg11 rfl ?_
        obtain ⟨hg13, hf⟩ := pd_ig hf
        obtain ⟨r14, F12, hr, hf⟩ := pd_ob2 hf
        refine pd_callV (pkX5_hasMark l hr) dX6_readMarks_26 pq_320 pq_323 pq_324 (show vwCl[5]? = some (yX5_hasMark.cls, TX5, 5) from rfl) hg13 (pd_okm (by omega) (by decide) pq_321 pq_322 (by decide) (show (parseMethodDescriptor yX5_hasMark.desc).map (fun d => d.parameters.length) = some 1 from by decide +kernel)) (Nat.le_of_ble_eq_true rfl) rfl ?_
        refine pd_if_eq (tgt := 38) dX6_readMarks_29 (by decide) (fun hc => ?_) (fun hc => ?_)
        · have hf := pd_ip hf hc
          refine pd_aload_n (i := 0) dX6_readMarks_38 rfl rfl ?_
          refine pd_iconst dX6_readMarks_39 (by decide) ?_
          refine pd_sipush dX6_readMarks_40 (by decide) ?_
          refine pd_aload_n (i := 1) dX6_readMarks_43 rfl rfl ?_
          refine pd_getN (x := pd_I (F12 x1 1)) 1 dX6_readMarks_44 (show vwCl[5]? = some (RX5, TX5, 5) from rfl) pin_5 (by decide) pq_325 hg13 rfl ?_
          refine pd_iconst dX6_readMarks_47 (by decide) ?_
          refine pd_icmp_ge (tgt := 55) dX6_readMarks_48 (by decide) (fun hc => ?_) (fun hc => ?_)
          · have hf := pd_ip hf hc
            refine pd_iconst dX6_readMarks_55 (by decide) ?_
            exact pd_weak (L' := [pd_R x0, pd_R x1, pd_I x2, pd_N]) ⟨Or.inr rfl, Or.inr rfl, Or.inr rfl, Or.inr rfl, trivial⟩ (pkX6_readMarks_b56 E l ih _ _ _ _ _ _ _ _ hf)
          · have hf := pd_in_ hf hc
            refine pd_iconst dX6_readMarks_51 (by decide) ?_
            refine pd_goto (tgt := 56) dX6_readMarks_52 (by decide) ?_
            exact pd_weak (L' := [pd_R x0, pd_R x1, pd_I x2, pd_N]) ⟨Or.inr rfl, Or.inr rfl, Or.inr rfl, Or.inr rfl, trivial⟩ (pkX6_readMarks_b56 E l ih _ _ _ _ _ _ _ _ hf)
        · have hf := pd_in_ hf hc
          exact pd_weak (L' := [pd_R x0, pd_N, pd_N, pd_N]) ⟨Or.inr rfl, Or.inl rfl, Or.inl rfl, Or.inr rfl, trivial⟩ (pkX6_readMarks_b32 E l _ _ hf)
set_option maxHeartbeats 4000000 in
set_option maxRecDepth 100000 in
theorem pkX6_readMarks (l : Launch) {al : Bool} {sh : pd_S} {n : Nat} {F : pd_F} {x0 : Int} {x1 : Int} {ρ : Int} {Fz : pd_F} (hf : pfX6_readMarks sh n F x0 x1 = some (ρ, Fz)) : pd_C l yX6_readMarks (Cond.code yX6_readMarks cX6_readMarks 4 (some .boolean) :: pd_gt) (pd_rm 4 0 0) al 0 0 sh F [pd_R x0, pd_R x1] (some (pd_I ρ)) sh Fz := by
  unfold pfX6_readMarks at hf
  refine pd_body (L := [pd_R x0, pd_R x1, pd_N, pd_N]) (by decide +kernel) (Nat.le_of_ble_eq_true rfl) rfl (fun E => ?_)
  refine pd_iconst dX6_readMarks_0 (by decide) ?_
  refine pd_istore_n (L' := [pd_R x0, pd_R x1, pd_I 0, pd_N]) dX6_readMarks_1 rfl (by decide) rfl ?_
  exact pd_weak (L' := [pd_R x0, pd_R x1, pd_I 0, pd_N]) ⟨Or.inr rfl, Or.inr rfl, Or.inr rfl, Or.inr rfl, trivial⟩ (pkX6_readMarks_b2 E l n _ _ _ _ hf)
set_option maxHeartbeats 4000000 in
set_option maxRecDepth 100000 in
theorem pkX6_readParts_b42 (E : pd_E) (l : Launch) {al : Bool} {sh : pd_S} {n : Nat} {ρ : Int} {Fz : pd_F}  (F : pd_F) (x0 : Int) (hf : pfX6_readParts_b42 sh n  F x0 = some (ρ, Fz)) : pd_V E l (pd_rm 4 0 0) (RX6, cX6_readParts, 5, (some .boolean), "readParts") (pd_Qm E al (some (pd_I ρ)) sh Fz 0 0) al 0 0 sh F 42 [pd_R x0, pd_N, pd_N, pd_N, pd_N] [] := by
  unfold pfX6_readParts_b42 at hf
  refine pd_aload_n (i := 0) dX6_readParts_42 rfl rfl ?_
  refine pd_iconst dX6_readParts_43 (by decide) ?_
  obtain ⟨hg2, hf⟩ := pd_ig hf
  obtain ⟨r3, F1, hr, hf⟩ := pd_ob2 hf
  refine pd_callV (pkX6_fail l hr) dX6_readParts_44 pq_298 pq_301 pq_302 (show vwCl[6]? = some (yX6_fail.cls, TX6, 3) from rfl) hg2 (pd_okm (by omega) (by decide) pq_299 pq_300 (by decide) (show (parseMethodDescriptor yX6_fail.desc).map (fun d => d.parameters.length) = some 1 from by decide +kernel)) (Nat.le_of_ble_eq_true rfl) rfl ?_
  obtain ⟨hg4, hf⟩ := pd_ig hf
  obtain ⟨h1, h2⟩ := pd_inj hf
  subst h1 h2
  exact pd_zret dX6_readParts_47 rfl hg4 (Nat.le_refl 0) (Nat.le_refl 0)
set_option maxHeartbeats 4000000 in
set_option maxRecDepth 100000 in
theorem pkX6_readParts_b59 (E : pd_E) (l : Launch) {al : Bool} {sh : pd_S} {n : Nat} {ρ : Int} {Fz : pd_F}  (F : pd_F) (x0 : Int) (hf : pfX6_readParts_b59 sh n  F x0 = some (ρ, Fz)) : pd_V E l (pd_rm 4 0 0) (RX6, cX6_readParts, 5, (some .boolean), "readParts") (pd_Qm E al (some (pd_I ρ)) sh Fz 0 0) al 0 0 sh F 59 [pd_R x0, pd_N, pd_N, pd_N, pd_N] [] := by
  unfold pfX6_readParts_b59 at hf
  refine pd_aload_n (i := 0) dX6_readParts_59 rfl rfl ?_
  refine pd_iconst dX6_readParts_60 (by decide) ?_
  obtain ⟨hg6, hf⟩ := pd_ig hf
  obtain ⟨r7, F5, hr, hf⟩ := pd_ob2 hf
  refine pd_callV (pkX6_fail l hr) dX6_readParts_61 pq_298 pq_301 pq_302 (show vwCl[6]? = some (yX6_fail.cls, TX6, 3) from rfl) hg6 (pd_okm (by omega) (by decide) pq_299 pq_300 (by decide) (show (parseMethodDescriptor yX6_fail.desc).map (fun d => d.parameters.length) = some 1 from by decide +kernel)) (Nat.le_of_ble_eq_true rfl) rfl ?_
  obtain ⟨hg8, hf⟩ := pd_ig hf
  obtain ⟨h1, h2⟩ := pd_inj hf
  subst h1 h2
  exact pd_zret dX6_readParts_64 rfl hg8 (Nat.le_refl 0) (Nat.le_refl 0)
set_option maxHeartbeats 4000000 in
set_option maxRecDepth 100000 in
theorem pkX6_readParts_b73 (E : pd_E) (l : Launch) {al : Bool} {sh : pd_S} {n : Nat} {ρ : Int} {Fz : pd_F}  (F : pd_F) (x0 : Int) (hf : pfX6_readParts_b73 sh n  F x0 = some (ρ, Fz)) : pd_V E l (pd_rm 4 0 0) (RX6, cX6_readParts, 5, (some .boolean), "readParts") (pd_Qm E al (some (pd_I ρ)) sh Fz 0 0) al 0 0 sh F 73 [pd_R x0, pd_N, pd_N, pd_N, pd_N] [] := by
  unfold pfX6_readParts_b73 at hf
  refine pd_aload_n (i := 0) dX6_readParts_73 rfl rfl ?_
  refine pd_iconst dX6_readParts_74 (by decide) ?_
  obtain ⟨hg10, hf⟩ := pd_ig hf
  obtain ⟨r11, F9, hr, hf⟩ := pd_ob2 hf
  refine pd_callV (pkX6_fail l hr) dX6_readParts_75 pq_298 pq_301 pq_302 (show vwCl[6]? = some (yX6_fail.cls, TX6, 3) from rfl) hg10 (pd_okm (by omega) (by decide) pq_299 pq_300 (by decide) (show (parseMethodDescriptor yX6_fail.desc).map (fun d => d.parameters.length) = some 1 from by decide +kernel)) (Nat.le_of_ble_eq_true rfl) rfl ?_
  obtain ⟨hg12, hf⟩ := pd_ig hf
  obtain ⟨h1, h2⟩ := pd_inj hf
  subst h1 h2
  exact pd_zret dX6_readParts_78 rfl hg12 (Nat.le_refl 0) (Nat.le_refl 0)
set_option maxHeartbeats 4000000 in
set_option maxRecDepth 100000 in
theorem pkX6_readParts_b48 (E : pd_E) (l : Launch) {al : Bool} {sh : pd_S} {n : Nat} {ρ : Int} {Fz : pd_F} {c2 : pd_F → Int → Int → Int → Option (Int × pd_F)} (hL2 : ∀ (F : pd_F) (x0 : Int) (x1 : Int) (x2 : Int), c2 F x0 x1 x2 = some (ρ, Fz) → pd_V E l (pd_rm 4 0 0) (RX6, cX6_readParts, 5, (some .boolean), "readParts") (pd_Qm E al (some (pd_I ρ)) sh Fz 0 0) al 0 0 sh F 2 [pd_R x0, pd_R x1, pd_I x2, pd_N, pd_N] []) (F : pd_F) (x0 : Int) (x1 : Int) (x2 : Int) (x3 : Int) (hf : pfX6_readParts_b48 sh n c2 F x0 x1 x2 x3 = some (ρ, Fz)) : pd_V E l (pd_rm 4 0 0) (RX6, cX6_readParts, 5, (some .boolean), "readParts") (pd_Qm E al (some (pd_I ρ)) sh Fz 0 0) al 0 0 sh F 48 [pd_R x0, pd_R x1, pd_I x2, pd_I x3, pd_N] [] := by
  unfold pfX6_readParts_b48 at hf
  refine pd_iload_n (i := 3) dX6_readParts_48 rfl rfl ?_
  refine pd_iconst dX6_readParts_49 (by decide) ?_
  refine pd_icmp_eq (tgt := 59) dX6_readParts_50 (by decide) (fun hc => ?_) (fun hc => ?_)
  · have hf := pd_ip hf hc
    exact pd_weak (L' := [pd_R x0, pd_N, pd_N, pd_N, pd_N]) ⟨Or.inr rfl, Or.inl rfl, Or.inl rfl, Or.inl rfl, Or.inr rfl, trivial⟩ (pkX6_readParts_b59 E l _ _ hf)
  · have hf := pd_in_ hf hc
    refine pd_iload_n (i := 3) dX6_readParts_53 rfl rfl ?_
    refine pd_bipush dX6_readParts_54 (by decide) ?_
    refine pd_icmp_lt (tgt := 65) dX6_readParts_56 (by decide) (fun hc => ?_) (fun hc => ?_)
    · have hf := pd_ip hf hc
      refine pd_aload_n (i := 1) dX6_readParts_65 rfl rfl ?_
      obtain ⟨hg13, hf⟩ := pd_ig hf
      refine pd_getN (x := pd_I (F x1 3)) 3 dX6_readParts_66 (show vwCl[2]? = some (RX2, TX2, 8) from rfl) pin_2 (by decide) pq_326 hg13 rfl ?_
      refine pd_iconst dX6_readParts_69 (by decide) ?_
      refine pd_icmp_lt (tgt := 79) dX6_readParts_70 (by decide) (fun hc => ?_) (fun hc => ?_)
      · have hf := pd_ip hf hc
        refine pd_aload_n (i := 0) dX6_readParts_79 rfl rfl ?_
        obtain ⟨hg14, hf⟩ := pd_ig hf
        refine pd_get (x := pd_R (F x0 0)) 0 dX6_readParts_80 (show vwCl[6]? = some (RX6, TX6, 3) from rfl) pin_6 (by decide) pq_266 hg14 rfl ?_
        obtain ⟨hg16, hf⟩ := pd_ig hf
        obtain ⟨F15, hr, hf⟩ := pd_ob1 hf
        refine pd_callV (pkX9_advance l hr) dX6_readParts_83 pq_308 pq_192 pq_193 (show vwCl[9]? = some (yX9_advance.cls, TX9, 9) from rfl) hg16 (pd_okm (by omega) (by decide) pq_190 pq_191 (by decide) (show (parseMethodDescriptor yX9_advance.desc).map (fun d => d.parameters.length) = some 0 from by decide +kernel)) (Nat.le_of_ble_eq_true rfl) rfl ?_
        refine pd_aload_n (i := 0) dX6_readParts_86 rfl rfl ?_
        refine pd_iconst dX6_readParts_87 (by decide) ?_
        refine pd_bipush dX6_readParts_88 (by decide) ?_
        refine pd_iconst dX6_readParts_90 (by decide) ?_
        obtain ⟨r18, F17, hr, hf⟩ := pd_ob2 hf
        refine pd_callV (pkX6_takeNumberIn l hr) dX6_readParts_91 pq_310 pq_313 pq_314 (show vwCl[6]? = some (yX6_takeNumberIn.cls, TX6, 3) from rfl) hg14 (pd_okm (by omega) (by decide) pq_311 pq_312 (by decide) (show (parseMethodDescriptor yX6_takeNumberIn.desc).map (fun d => d.parameters.length) = some 3 from by decide +kernel)) (Nat.le_of_ble_eq_true rfl) rfl ?_
        refine pd_istore (L' := [pd_R x0, pd_R x1, pd_I x2, pd_I x3, pd_I r18]) dX6_readParts_94 (by decide) rfl ?_
        refine pd_iload (i := 4) dX6_readParts_96 rfl ?_
        refine pd_iconst dX6_readParts_98 (by decide) ?_
        refine pd_icmp_ne (tgt := 104) dX6_readParts_99 (by decide) (fun hc => ?_) (fun hc => ?_)
        · have hf := pd_ip hf hc
          refine pd_aload_n (i := 1) dX6_readParts_104 rfl rfl ?_
          refine pd_iload_n (i := 3) dX6_readParts_105 rfl rfl ?_
          refine pd_iload (i := 4) dX6_readParts_106 rfl ?_
          obtain ⟨F19, hr, hf⟩ := pd_ob1 hf
          refine pd_callV (pkX2_addPart l hr) dX6_readParts_108 pq_327 pq_330 pq_331 (show vwCl[2]? = some (yX2_addPart.cls, TX2, 8) from rfl) hg13 (pd_okm (by omega) (by decide) pq_328 pq_329 (by decide) (show (parseMethodDescriptor yX2_addPart.desc).map (fun d => d.parameters.length) = some 2 from by decide +kernel)) (Nat.le_of_ble_eq_true rfl) rfl ?_
          refine pd_iincN (L' := fun y => [pd_R x0, pd_R x1, pd_I y, pd_I x3, pd_I r18]) dX6_readParts_111 rfl (by decide) (by decide) (fun _ => rfl) (fun x2_111 ex2_111 => ?_)
          have hf := pd_lt hf ex2_111
          clear ex2_111
          refine pd_goto (tgt := 2) dX6_readParts_114 (by decide) ?_
          exact pd_weak (L' := [pd_R x0, pd_R x1, pd_I x2_111, pd_N, pd_N]) ⟨Or.inr rfl, Or.inr rfl, Or.inr rfl, Or.inl rfl, Or.inl rfl, trivial⟩ (hL2 _ _ _ _ hf)
        · have hf := pd_iq hf hc
          refine pd_iconst dX6_readParts_102 (by decide) ?_
          obtain ⟨h1, h2⟩ := pd_inj hf
          subst h1 h2
          exact pd_zret dX6_readParts_103 rfl (by decide) (Nat.le_refl 0) (Nat.le_refl 0)
      · have hf := pd_in_ hf hc
        exact pd_weak (L' := [pd_R x0, pd_N, pd_N, pd_N, pd_N]) ⟨Or.inr rfl, Or.inl rfl, Or.inl rfl, Or.inl rfl, Or.inr rfl, trivial⟩ (pkX6_readParts_b73 E l _ _ hf)
    · have hf := pd_in_ hf hc
      exact pd_weak (L' := [pd_R x0, pd_N, pd_N, pd_N, pd_N]) ⟨Or.inr rfl, Or.inl rfl, Or.inl rfl, Or.inl rfl, Or.inr rfl, trivial⟩ (pkX6_readParts_b59 E l _ _ hf)
set_option maxHeartbeats 4000000 in
set_option maxRecDepth 100000 in
theorem pkX6_readParts_b2 (E : pd_E) (l : Launch) {al : Bool} {sh : pd_S} {n : Nat} {ρ : Int} {Fz : pd_F}  : ∀ (k : Nat) (F : pd_F) (x0 : Int) (x1 : Int) (x2 : Int), pfX6_readParts_b2 sh n  k F x0 x1 x2 = some (ρ, Fz) → pd_V E l (pd_rm 4 0 0) (RX6, cX6_readParts, 5, (some .boolean), "readParts") (pd_Qm E al (some (pd_I ρ)) sh Fz 0 0) al 0 0 sh F 2 [pd_R x0, pd_R x1, pd_I x2, pd_N, pd_N] [] := by
  intro k
  induction k with
  | zero => intro F x0 x1 x2 hf; exact absurd hf (by unfold pfX6_readParts_b2; exact fun h => nomatch h)
  | succ k ih =>
    intro F x0 x1 x2 hf
    unfold pfX6_readParts_b2 at hf
    refine pd_iload_n (i := 2) dX6_readParts_2 rfl rfl ?_
    refine pd_iconst dX6_readParts_3 (by decide) ?_
    refine pd_icmp_gt (tgt := 117) dX6_readParts_4 (by decide) (fun hc => ?_) (fun hc => ?_)
    · have hf := pd_ip hf hc
      refine pd_iconst dX6_readParts_117 (by decide) ?_
      obtain ⟨h1, h2⟩ := pd_inj hf
      subst h1 h2
      exact pd_zret dX6_readParts_118 rfl (by decide) (Nat.le_refl 0) (Nat.le_refl 0)
    · have hf := pd_in_ hf hc
      refine pd_aload_n (i := 0) dX6_readParts_7 rfl rfl ?_
      obtain ⟨hg21, hf⟩ := pd_ig hf
      obtain ⟨r22, F20, hr, hf⟩ := pd_ob2 hf
      refine pd_callV (pkX6_atName l hr) dX6_readParts_8 pq_288 pq_291 pq_292 (show vwCl[6]? = some (yX6_atName.cls, TX6, 3) from rfl) hg21 (pd_okm (by omega) (by decide) pq_289 pq_290 (by decide) (show (parseMethodDescriptor yX6_atName.desc).map (fun d => d.parameters.length) = some 0 from by decide +kernel)) (Nat.le_of_ble_eq_true rfl) rfl ?_
      refine pd_if_eq (tgt := 117) dX6_readParts_11 (by decide) (fun hc => ?_) (fun hc => ?_)
      · have hf := pd_ip hf hc
        refine pd_iconst dX6_readParts_117 (by decide) ?_
        obtain ⟨h1, h2⟩ := pd_inj hf
        subst h1 h2
        exact pd_zret dX6_readParts_118 rfl (by decide) (Nat.le_refl 0) (Nat.le_refl 0)
      · have hf := pd_in_ hf hc
        refine pd_aload_n (i := 0) dX6_readParts_14 rfl rfl ?_
        refine pd_get (x := pd_R (F20 x0 1)) 1 dX6_readParts_15 (show vwCl[6]? = some (RX6, TX6, 3) from rfl) pin_6 (by decide) pq_265 hg21 rfl ?_
        refine pd_aload_n (i := 0) dX6_readParts_18 rfl rfl ?_
        refine pd_get (x := pd_R (F20 x0 0)) 0 dX6_readParts_19 (show vwCl[6]? = some (RX6, TX6, 3) from rfl) pin_6 (by decide) pq_266 hg21 rfl ?_
        obtain ⟨hg23, hf⟩ := pd_ig hf
        refine pd_getN (x := pd_J (F20 (F20 x0 0) 8)) 8 dX6_readParts_22 (show vwCl[9]? = some (RX9, TX9, 9) from rfl) pin_9 (by decide) pq_270 hg23 rfl ?_
        obtain ⟨hg25, hf⟩ := pd_ig hf
        obtain ⟨r26, F24, hr, hf⟩ := pd_ob2 hf
        refine pd_callV (pkX0_find l hr) dX6_readParts_25 pq_293 pq_296 pq_297 (show vwCl[0]? = some (yX0_find.cls, TX0, 15) from rfl) hg25 (pd_okm (by omega) (by decide) pq_294 pq_295 (by decide) (show (parseMethodDescriptor yX0_find.desc).map (fun d => d.parameters.length) = some 1 from by decide +kernel)) (Nat.le_of_ble_eq_true rfl) rfl ?_
        refine pd_istore_n (L' := [pd_R x0, pd_R x1, pd_I x2, pd_I r26, pd_N]) dX6_readParts_28 rfl (by decide) rfl ?_
        refine pd_iload_n (i := 3) dX6_readParts_29 rfl rfl ?_
        refine pd_iconst dX6_readParts_30 (by decide) ?_
        refine pd_icmp_eq (tgt := 48) dX6_readParts_31 (by decide) (fun hc => ?_) (fun hc => ?_)
        · have hf := pd_ip hf hc
          exact pd_weak (L' := [pd_R x0, pd_R x1, pd_I x2, pd_I r26, pd_N]) ⟨Or.inr rfl, Or.inr rfl, Or.inr rfl, Or.inr rfl, Or.inr rfl, trivial⟩ (pkX6_readParts_b48 E l ih _ _ _ _ _ hf)
        · have hf := pd_in_ hf hc
          refine pd_aload_n (i := 1) dX6_readParts_34 rfl rfl ?_
          refine pd_iload_n (i := 3) dX6_readParts_35 rfl rfl ?_
          obtain ⟨hg28, hf⟩ := pd_ig hf
          obtain ⟨r29, F27, hr, hf⟩ := pd_ob2 hf
          refine pd_callV (pkX2_hasPart l hr) dX6_readParts_36 pq_332 pq_335 pq_336 (show vwCl[2]? = some (yX2_hasPart.cls, TX2, 8) from rfl) hg28 (pd_okm (by omega) (by decide) pq_333 pq_334 (by decide) (show (parseMethodDescriptor yX2_hasPart.desc).map (fun d => d.parameters.length) = some 1 from by decide +kernel)) (Nat.le_of_ble_eq_true rfl) rfl ?_
          refine pd_if_eq (tgt := 48) dX6_readParts_39 (by decide) (fun hc => ?_) (fun hc => ?_)
          · have hf := pd_ip hf hc
            exact pd_weak (L' := [pd_R x0, pd_R x1, pd_I x2, pd_I r26, pd_N]) ⟨Or.inr rfl, Or.inr rfl, Or.inr rfl, Or.inr rfl, Or.inr rfl, trivial⟩ (pkX6_readParts_b48 E l ih _ _ _ _ _ hf)
          · have hf := pd_in_ hf hc
            exact pd_weak (L' := [pd_R x0, pd_N, pd_N, pd_N, pd_N]) ⟨Or.inr rfl, Or.inl rfl, Or.inl rfl, Or.inl rfl, Or.inr rfl, trivial⟩ (pkX6_readParts_b42 E l _ _ hf)
set_option maxHeartbeats 4000000 in
set_option maxRecDepth 100000 in
theorem pkX6_readParts (l : Launch) {al : Bool} {sh : pd_S} {n : Nat} {F : pd_F} {x0 : Int} {x1 : Int} {ρ : Int} {Fz : pd_F} (hf : pfX6_readParts sh n F x0 x1 = some (ρ, Fz)) : pd_C l yX6_readParts (Cond.code yX6_readParts cX6_readParts 5 (some .boolean) :: pd_gt) (pd_rm 4 0 0) al 0 0 sh F [pd_R x0, pd_R x1] (some (pd_I ρ)) sh Fz := by
  unfold pfX6_readParts at hf
  refine pd_body (L := [pd_R x0, pd_R x1, pd_N, pd_N, pd_N]) (by decide +kernel) (Nat.le_of_ble_eq_true rfl) rfl (fun E => ?_)
  refine pd_iconst dX6_readParts_0 (by decide) ?_
  refine pd_istore_n (L' := [pd_R x0, pd_R x1, pd_I 0, pd_N, pd_N]) dX6_readParts_1 rfl (by decide) rfl ?_
  exact pd_weak (L' := [pd_R x0, pd_R x1, pd_I 0, pd_N, pd_N]) ⟨Or.inr rfl, Or.inr rfl, Or.inr rfl, Or.inr rfl, Or.inr rfl, trivial⟩ (pkX6_readParts_b2 E l n _ _ _ _ hf)
set_option maxHeartbeats 4000000 in
set_option maxRecDepth 100000 in
theorem pkX6_readHigh (l : Launch) {al : Bool} {sh : pd_S} {n : Nat} {F : pd_F} {x0 : Int} {ρ : Int} {Fz : pd_F} (hf : pfX6_readHigh sh n F x0 = some (ρ, Fz)) : pd_C l yX6_readHigh (Cond.code yX6_readHigh cX6_readHigh 5 (some .boolean) :: pd_gt) (pd_rm 4 0 0) al 0 0 sh F [pd_R x0] (some (pd_I ρ)) sh Fz := by
  unfold pfX6_readHigh at hf
  refine pd_body (L := [pd_R x0, pd_N, pd_N, pd_N, pd_N]) (by decide +kernel) (Nat.le_of_ble_eq_true rfl) rfl (fun E => ?_)
  refine pd_aload_n (i := 0) dX6_readHigh_0 rfl rfl ?_
  obtain ⟨hg1, hf⟩ := pd_ig hf
  refine pd_get (x := pd_R (F x0 1)) 1 dX6_readHigh_1 (show vwCl[6]? = some (RX6, TX6, 3) from rfl) pin_6 (by decide) pq_265 hg1 rfl ?_
  obtain ⟨hg2, hf⟩ := pd_ig hf
  refine pd_getN (x := pd_I (F (F x0 1) 12)) 12 dX6_readHigh_4 (show vwCl[0]? = some (RX0, TX0, 15) from rfl) pin_0 (by decide) pq_337 hg2 rfl ?_
  refine pd_bipush dX6_readHigh_7 (by decide) ?_
  refine pd_icmp_lt (tgt := 18) dX6_readHigh_9 (by decide) (fun hc => ?_) (fun hc => ?_)
  · have hf := pd_ip hf hc
    refine pd_aload_n (i := 0) dX6_readHigh_18 rfl rfl ?_
    refine pd_get (x := pd_R (F x0 0)) 0 dX6_readHigh_19 (show vwCl[6]? = some (RX6, TX6, 3) from rfl) pin_6 (by decide) pq_266 hg1 rfl ?_
    obtain ⟨hg4, hf⟩ := pd_ig hf
    obtain ⟨F3, hr, hf⟩ := pd_ob1 hf
    refine pd_callV (pkX9_advance l hr) dX6_readHigh_22 pq_308 pq_192 pq_193 (show vwCl[9]? = some (yX9_advance.cls, TX9, 9) from rfl) hg4 (pd_okm (by omega) (by decide) pq_190 pq_191 (by decide) (show (parseMethodDescriptor yX9_advance.desc).map (fun d => d.parameters.length) = some 0 from by decide +kernel)) (Nat.le_of_ble_eq_true rfl) rfl ?_
    refine pd_aload_n (i := 0) dX6_readHigh_25 rfl rfl ?_
    refine pd_bipush dX6_readHigh_26 (by decide) ?_
    refine pd_bipush dX6_readHigh_28 (by decide) ?_
    obtain ⟨r6, F5, hr, hf⟩ := pd_ob2 hf
    refine pd_callV (pkX6_takeTold l hr) dX6_readHigh_30 pq_338 pq_341 pq_342 (show vwCl[6]? = some (yX6_takeTold.cls, TX6, 3) from rfl) hg1 (pd_okm (by omega) (by decide) pq_339 pq_340 (by decide) (show (parseMethodDescriptor yX6_takeTold.desc).map (fun d => d.parameters.length) = some 2 from by decide +kernel)) (Nat.le_of_ble_eq_true rfl) rfl ?_
    refine pd_istore_n (L' := [pd_R x0, pd_I r6, pd_N, pd_N, pd_N]) dX6_readHigh_33 rfl (by decide) rfl ?_
    refine pd_iload_n (i := 1) dX6_readHigh_34 rfl rfl ?_
    refine pd_iconst dX6_readHigh_35 (by decide) ?_
    refine pd_icmp_ne (tgt := 41) dX6_readHigh_36 (by decide) (fun hc => ?_) (fun hc => ?_)
    · have hf := pd_ip hf hc
      refine pd_aload_n (i := 0) dX6_readHigh_41 rfl rfl ?_
      refine pd_iconst dX6_readHigh_42 (by decide) ?_
      refine pd_ldc (x := 9999999) dX6_readHigh_43 pq_343 (by decide +kernel) ?_
      refine pd_iconst dX6_readHigh_45 (by decide) ?_
      obtain ⟨r8, F7, hr, hf⟩ := pd_ob2 hf
      refine pd_callV (pkX6_takeNumberIn l hr) dX6_readHigh_46 pq_310 pq_313 pq_314 (show vwCl[6]? = some (yX6_takeNumberIn.cls, TX6, 3) from rfl) hg1 (pd_okm (by omega) (by decide) pq_311 pq_312 (by decide) (show (parseMethodDescriptor yX6_takeNumberIn.desc).map (fun d => d.parameters.length) = some 3 from by decide +kernel)) (Nat.le_of_ble_eq_true rfl) rfl ?_
      refine pd_istore_n (L' := [pd_R x0, pd_I r6, pd_I r8, pd_N, pd_N]) dX6_readHigh_49 rfl (by decide) rfl ?_
      refine pd_iload_n (i := 2) dX6_readHigh_50 rfl rfl ?_
      refine pd_iconst dX6_readHigh_51 (by decide) ?_
      refine pd_icmp_eq (tgt := 65) dX6_readHigh_52 (by decide) (fun hc => ?_) (fun hc => ?_)
      · have hf := pd_ip hf hc
        refine pd_iconst dX6_readHigh_65 (by decide) ?_
        obtain ⟨h1, h2⟩ := pd_inj hf
        subst h1 h2
        exact pd_zret dX6_readHigh_66 rfl (by decide) (Nat.le_refl 0) (Nat.le_refl 0)
      · have hf := pd_in_ hf hc
        refine pd_aload_n (i := 0) dX6_readHigh_55 rfl rfl ?_
        refine pd_ldc2 (x := 1718775661) dX6_readHigh_56 pq_277 (by decide +kernel) ?_
        obtain ⟨r10, F9, hr, hf⟩ := pd_ob2 hf
        refine pd_callV (pkX6_pass l hr) dX6_readHigh_59 pq_344 pq_347 pq_348 (show vwCl[6]? = some (yX6_pass.cls, TX6, 3) from rfl) hg1 (pd_okm (by omega) (by decide) pq_345 pq_346 (by decide) (show (parseMethodDescriptor yX6_pass.desc).map (fun d => d.parameters.length) = some 1 from by decide +kernel)) (Nat.le_of_ble_eq_true rfl) rfl ?_
        refine pd_if_ne (tgt := 67) dX6_readHigh_62 (by decide) (fun hc => ?_) (fun hc => ?_)
        · have hf := pd_ip hf hc
          refine pd_aload_n (i := 0) dX6_readHigh_67 rfl rfl ?_
          refine pd_iconst dX6_readHigh_68 (by decide) ?_
          refine pd_sipush dX6_readHigh_69 (by decide) ?_
          refine pd_iconst dX6_readHigh_72 (by decide) ?_
          obtain ⟨r12, F11, hr, hf⟩ := pd_ob2 hf
          refine pd_callV (pkX6_takeNumberIn l hr) dX6_readHigh_73 pq_310 pq_313 pq_314 (show vwCl[6]? = some (yX6_takeNumberIn.cls, TX6, 3) from rfl) hg1 (pd_okm (by omega) (by decide) pq_311 pq_312 (by decide) (show (parseMethodDescriptor yX6_takeNumberIn.desc).map (fun d => d.parameters.length) = some 3 from by decide +kernel)) (Nat.le_of_ble_eq_true rfl) rfl ?_
          refine pd_istore_n (L' := [pd_R x0, pd_I r6, pd_I r8, pd_I r12, pd_N]) dX6_readHigh_76 rfl (by decide) rfl ?_
          refine pd_iload_n (i := 3) dX6_readHigh_77 rfl rfl ?_
          refine pd_iconst dX6_readHigh_78 (by decide) ?_
          refine pd_icmp_eq (tgt := 92) dX6_readHigh_79 (by decide) (fun hc => ?_) (fun hc => ?_)
          · have hf := pd_ip hf hc
            refine pd_iconst dX6_readHigh_92 (by decide) ?_
            obtain ⟨h1, h2⟩ := pd_inj hf
            subst h1 h2
            exact pd_zret dX6_readHigh_93 rfl (by decide) (Nat.le_refl 0) (Nat.le_refl 0)
          · have hf := pd_in_ hf hc
            refine pd_aload_n (i := 0) dX6_readHigh_82 rfl rfl ?_
            refine pd_ldc2 (x := 29807) dX6_readHigh_83 pq_278 (by decide +kernel) ?_
            obtain ⟨r14, F13, hr, hf⟩ := pd_ob2 hf
            refine pd_callV (pkX6_pass l hr) dX6_readHigh_86 pq_344 pq_347 pq_348 (show vwCl[6]? = some (yX6_pass.cls, TX6, 3) from rfl) hg1 (pd_okm (by omega) (by decide) pq_345 pq_346 (by decide) (show (parseMethodDescriptor yX6_pass.desc).map (fun d => d.parameters.length) = some 1 from by decide +kernel)) (Nat.le_of_ble_eq_true rfl) rfl ?_
            refine pd_if_ne (tgt := 94) dX6_readHigh_89 (by decide) (fun hc => ?_) (fun hc => ?_)
            · have hf := pd_ip hf hc
              refine pd_aload_n (i := 0) dX6_readHigh_94 rfl rfl ?_
              refine pd_iload_n (i := 3) dX6_readHigh_95 rfl rfl ?_
              refine pd_sipush dX6_readHigh_96 (by decide) ?_
              refine pd_iconst dX6_readHigh_99 (by decide) ?_
              obtain ⟨r16, F15, hr, hf⟩ := pd_ob2 hf
              refine pd_callV (pkX6_takeNumberIn l hr) dX6_readHigh_100 pq_310 pq_313 pq_314 (show vwCl[6]? = some (yX6_takeNumberIn.cls, TX6, 3) from rfl) hg1 (pd_okm (by omega) (by decide) pq_311 pq_312 (by decide) (show (parseMethodDescriptor yX6_takeNumberIn.desc).map (fun d => d.parameters.length) = some 3 from by decide +kernel)) (Nat.le_of_ble_eq_true rfl) rfl ?_
              refine pd_istore (L' := [pd_R x0, pd_I r6, pd_I r8, pd_I r12, pd_I r16]) dX6_readHigh_103 (by decide) rfl ?_
              refine pd_iload (i := 4) dX6_readHigh_105 rfl ?_
              refine pd_iconst dX6_readHigh_107 (by decide) ?_
              refine pd_icmp_eq (tgt := 118) dX6_readHigh_108 (by decide) (fun hc => ?_) (fun hc => ?_)
              · have hf := pd_ip hf hc
                refine pd_iconst dX6_readHigh_118 (by decide) ?_
                obtain ⟨h1, h2⟩ := pd_inj hf
                subst h1 h2
                exact pd_zret dX6_readHigh_119 rfl (by decide) (Nat.le_refl 0) (Nat.le_refl 0)
              · have hf := pd_in_ hf hc
                refine pd_aload_n (i := 0) dX6_readHigh_111 rfl rfl ?_
                obtain ⟨r18, F17, hr, hf⟩ := pd_ob2 hf
                refine pd_callV (pkX6_passEnd l hr) dX6_readHigh_112 pq_349 pq_352 pq_353 (show vwCl[6]? = some (yX6_passEnd.cls, TX6, 3) from rfl) hg1 (pd_okm (by omega) (by decide) pq_350 pq_351 (by decide) (show (parseMethodDescriptor yX6_passEnd.desc).map (fun d => d.parameters.length) = some 0 from by decide +kernel)) (Nat.le_of_ble_eq_true rfl) rfl ?_
                refine pd_if_ne (tgt := 120) dX6_readHigh_115 (by decide) (fun hc => ?_) (fun hc => ?_)
                · have hf := pd_ip hf hc
                  refine pd_aload_n (i := 0) dX6_readHigh_120 rfl rfl ?_
                  refine pd_get (x := pd_R (F17 x0 1)) 1 dX6_readHigh_121 (show vwCl[6]? = some (RX6, TX6, 3) from rfl) pin_6 (by decide) pq_265 hg1 rfl ?_
                  obtain ⟨hg19, hf⟩ := pd_ig hf
                  refine pd_getN (x := pd_R (F17 (F17 x0 1) 4)) 4 dX6_readHigh_124 (show vwCl[0]? = some (RX0, TX0, 15) from rfl) pin_0 (by decide) pq_354 hg19 rfl ?_
                  refine pd_aload_n (i := 0) dX6_readHigh_127 rfl rfl ?_
                  refine pd_get (x := pd_R (F17 x0 1)) 1 dX6_readHigh_128 (show vwCl[6]? = some (RX6, TX6, 3) from rfl) pin_6 (by decide) pq_265 hg1 rfl ?_
                  refine pd_getN (x := pd_I (F17 (F17 x0 1) 12)) 12 dX6_readHigh_131 (show vwCl[0]? = some (RX0, TX0, 15) from rfl) pin_0 (by decide) pq_337 hg19 rfl ?_
                  obtain ⟨hg20, hf⟩ := pd_ig hf
                  refine pd_aald dX6_readHigh_134 hg20 ?_
                  refine pd_iload_n (i := 1) dX6_readHigh_135 rfl rfl ?_
                  refine pd_iload_n (i := 2) dX6_readHigh_136 rfl rfl ?_
                  refine pd_iload_n (i := 3) dX6_readHigh_137 rfl rfl ?_
                  refine pd_iload (i := 4) dX6_readHigh_138 rfl ?_
                  obtain ⟨hg22, hf⟩ := pd_ig hf
                  obtain ⟨F21, hr, hf⟩ := pd_ob1 hf
                  refine pd_callV (pkX1_setTo l hr) dX6_readHigh_140 pq_355 pq_358 pq_359 (show vwCl[1]? = some (yX1_setTo.cls, TX1, 4) from rfl) hg22 (pd_okm (by omega) (by decide) pq_356 pq_357 (by decide) (show (parseMethodDescriptor yX1_setTo.desc).map (fun d => d.parameters.length) = some 4 from by decide +kernel)) (Nat.le_of_ble_eq_true rfl) rfl ?_
                  refine pd_aload_n (i := 0) dX6_readHigh_143 rfl rfl ?_
                  refine pd_get (x := pd_R (F21 x0 1)) 1 dX6_readHigh_144 (show vwCl[6]? = some (RX6, TX6, 3) from rfl) pin_6 (by decide) pq_265 hg1 rfl ?_
                  refine pd_dup dX6_readHigh_147 rfl ?_
                  obtain ⟨hg23, hf⟩ := pd_ig hf
                  refine pd_getN (x := pd_I (F21 (F21 x0 1) 12)) 12 dX6_readHigh_148 (show vwCl[0]? = some (RX0, TX0, 15) from rfl) pin_0 (by decide) pq_337 hg23 rfl ?_
                  refine pd_iconst dX6_readHigh_151 (by decide) ?_
                  refine pd_iadd dX6_readHigh_152 ?_
                  refine pd_putN (n := (pd_w ((F21 (F21 x0 1) 12) + 1))) (x := pd_I (pd_w ((F21 (F21 x0 1) 12) + 1))) 12 dX6_readHigh_153 (show vwCl[0]? = some (RX0, TX0, 15) from rfl) pin_0 tyX0_ok nmX0 (by decide) pq_337 rfl hg23 rfl pd_nrI pd_ftI ?_
                  refine pd_topF (fun F24 eF24 => ?_)
                  have hf := pd_lt hf eF24
                  clear eF24
                  refine pd_iconst dX6_readHigh_156 (by decide) ?_
                  obtain ⟨h1, h2⟩ := pd_inj hf
                  subst h1 h2
                  exact pd_zret dX6_readHigh_157 rfl (by decide) (Nat.le_refl 0) (Nat.le_refl 0)
                · have hf := pd_iq hf hc
                  refine pd_iconst dX6_readHigh_118 (by decide) ?_
                  obtain ⟨h1, h2⟩ := pd_inj hf
                  subst h1 h2
                  exact pd_zret dX6_readHigh_119 rfl (by decide) (Nat.le_refl 0) (Nat.le_refl 0)
            · have hf := pd_iq hf hc
              refine pd_iconst dX6_readHigh_92 (by decide) ?_
              obtain ⟨h1, h2⟩ := pd_inj hf
              subst h1 h2
              exact pd_zret dX6_readHigh_93 rfl (by decide) (Nat.le_refl 0) (Nat.le_refl 0)
        · have hf := pd_iq hf hc
          refine pd_iconst dX6_readHigh_65 (by decide) ?_
          obtain ⟨h1, h2⟩ := pd_inj hf
          subst h1 h2
          exact pd_zret dX6_readHigh_66 rfl (by decide) (Nat.le_refl 0) (Nat.le_refl 0)
    · have hf := pd_iq hf hc
      refine pd_iconst dX6_readHigh_39 (by decide) ?_
      obtain ⟨h1, h2⟩ := pd_inj hf
      subst h1 h2
      exact pd_zret dX6_readHigh_40 rfl (by decide) (Nat.le_refl 0) (Nat.le_refl 0)
  · have hf := pd_in_ hf hc
    refine pd_aload_n (i := 0) dX6_readHigh_12 rfl rfl ?_
    refine pd_iconst dX6_readHigh_13 (by decide) ?_
    obtain ⟨r26, F25, hr, hf⟩ := pd_ob2 hf
    refine pd_callV (pkX6_fail l hr) dX6_readHigh_14 pq_298 pq_301 pq_302 (show vwCl[6]? = some (yX6_fail.cls, TX6, 3) from rfl) hg1 (pd_okm (by omega) (by decide) pq_299 pq_300 (by decide) (show (parseMethodDescriptor yX6_fail.desc).map (fun d => d.parameters.length) = some 1 from by decide +kernel)) (Nat.le_of_ble_eq_true rfl) rfl ?_
    obtain ⟨hg27, hf⟩ := pd_ig hf
    obtain ⟨h1, h2⟩ := pd_inj hf
    subst h1 h2
    exact pd_zret dX6_readHigh_17 rfl hg27 (Nat.le_refl 0) (Nat.le_refl 0)
set_option maxHeartbeats 4000000 in
set_option maxRecDepth 100000 in
theorem pkX6_readLoan (l : Launch) {al : Bool} {sh : pd_S} {n : Nat} {F : pd_F} {x0 : Int} {ρ : Int} {Fz : pd_F} (hf : pfX6_readLoan sh n F x0 = some (ρ, Fz)) : pd_C l yX6_readLoan (Cond.code yX6_readLoan cX6_readLoan 4 (some .boolean) :: pd_gt) (pd_rm 4 0 0) al 0 0 sh F [pd_R x0] (some (pd_I ρ)) sh Fz := by
  unfold pfX6_readLoan at hf
  refine pd_body (L := [pd_R x0, pd_N, pd_N, pd_N]) (by decide +kernel) (Nat.le_of_ble_eq_true rfl) rfl (fun E => ?_)
  refine pd_aload_n (i := 0) dX6_readLoan_0 rfl rfl ?_
  obtain ⟨hg1, hf⟩ := pd_ig hf
  refine pd_get (x := pd_R (F x0 1)) 1 dX6_readLoan_1 (show vwCl[6]? = some (RX6, TX6, 3) from rfl) pin_6 (by decide) pq_265 hg1 rfl ?_
  obtain ⟨hg2, hf⟩ := pd_ig hf
  refine pd_getN (x := pd_I (F (F x0 1) 13)) 13 dX6_readLoan_4 (show vwCl[0]? = some (RX0, TX0, 15) from rfl) pin_0 (by decide) pq_360 hg2 rfl ?_
  refine pd_bipush dX6_readLoan_7 (by decide) ?_
  refine pd_icmp_lt (tgt := 18) dX6_readLoan_9 (by decide) (fun hc => ?_) (fun hc => ?_)
  · have hf := pd_ip hf hc
    refine pd_aload_n (i := 0) dX6_readLoan_18 rfl rfl ?_
    refine pd_get (x := pd_R (F x0 0)) 0 dX6_readLoan_19 (show vwCl[6]? = some (RX6, TX6, 3) from rfl) pin_6 (by decide) pq_266 hg1 rfl ?_
    obtain ⟨hg4, hf⟩ := pd_ig hf
    obtain ⟨F3, hr, hf⟩ := pd_ob1 hf
    refine pd_callV (pkX9_advance l hr) dX6_readLoan_22 pq_308 pq_192 pq_193 (show vwCl[9]? = some (yX9_advance.cls, TX9, 9) from rfl) hg4 (pd_okm (by omega) (by decide) pq_190 pq_191 (by decide) (show (parseMethodDescriptor yX9_advance.desc).map (fun d => d.parameters.length) = some 0 from by decide +kernel)) (Nat.le_of_ble_eq_true rfl) rfl ?_
    refine pd_aload_n (i := 0) dX6_readLoan_25 rfl rfl ?_
    refine pd_iconst dX6_readLoan_26 (by decide) ?_
    refine pd_bipush dX6_readLoan_27 (by decide) ?_
    obtain ⟨r6, F5, hr, hf⟩ := pd_ob2 hf
    refine pd_callV (pkX6_takeTold l hr) dX6_readLoan_29 pq_338 pq_341 pq_342 (show vwCl[6]? = some (yX6_takeTold.cls, TX6, 3) from rfl) hg1 (pd_okm (by omega) (by decide) pq_339 pq_340 (by decide) (show (parseMethodDescriptor yX6_takeTold.desc).map (fun d => d.parameters.length) = some 2 from by decide +kernel)) (Nat.le_of_ble_eq_true rfl) rfl ?_
    refine pd_istore_n (L' := [pd_R x0, pd_I r6, pd_N, pd_N]) dX6_readLoan_32 rfl (by decide) rfl ?_
    refine pd_iload_n (i := 1) dX6_readLoan_33 rfl rfl ?_
    refine pd_iconst dX6_readLoan_34 (by decide) ?_
    refine pd_icmp_ne (tgt := 40) dX6_readLoan_35 (by decide) (fun hc => ?_) (fun hc => ?_)
    · have hf := pd_ip hf hc
      refine pd_aload_n (i := 0) dX6_readLoan_40 rfl rfl ?_
      refine pd_iconst dX6_readLoan_41 (by decide) ?_
      refine pd_ldc (x := 9999999) dX6_readLoan_42 pq_343 (by decide +kernel) ?_
      refine pd_iconst dX6_readLoan_44 (by decide) ?_
      obtain ⟨r8, F7, hr, hf⟩ := pd_ob2 hf
      refine pd_callV (pkX6_takeNumberIn l hr) dX6_readLoan_45 pq_310 pq_313 pq_314 (show vwCl[6]? = some (yX6_takeNumberIn.cls, TX6, 3) from rfl) hg1 (pd_okm (by omega) (by decide) pq_311 pq_312 (by decide) (show (parseMethodDescriptor yX6_takeNumberIn.desc).map (fun d => d.parameters.length) = some 3 from by decide +kernel)) (Nat.le_of_ble_eq_true rfl) rfl ?_
      refine pd_istore_n (L' := [pd_R x0, pd_I r6, pd_I r8, pd_N]) dX6_readLoan_48 rfl (by decide) rfl ?_
      refine pd_iload_n (i := 2) dX6_readLoan_49 rfl rfl ?_
      refine pd_iconst dX6_readLoan_50 (by decide) ?_
      refine pd_icmp_eq (tgt := 64) dX6_readLoan_51 (by decide) (fun hc => ?_) (fun hc => ?_)
      · have hf := pd_ip hf hc
        refine pd_iconst dX6_readLoan_64 (by decide) ?_
        obtain ⟨h1, h2⟩ := pd_inj hf
        subst h1 h2
        exact pd_zret dX6_readLoan_65 rfl (by decide) (Nat.le_refl 0) (Nat.le_refl 0)
      · have hf := pd_in_ hf hc
        refine pd_aload_n (i := 0) dX6_readLoan_54 rfl rfl ?_
        refine pd_ldc2 (x := 6583653) dX6_readLoan_55 pq_280 (by decide +kernel) ?_
        obtain ⟨r10, F9, hr, hf⟩ := pd_ob2 hf
        refine pd_callV (pkX6_pass l hr) dX6_readLoan_58 pq_344 pq_347 pq_348 (show vwCl[6]? = some (yX6_pass.cls, TX6, 3) from rfl) hg1 (pd_okm (by omega) (by decide) pq_345 pq_346 (by decide) (show (parseMethodDescriptor yX6_pass.desc).map (fun d => d.parameters.length) = some 1 from by decide +kernel)) (Nat.le_of_ble_eq_true rfl) rfl ?_
        refine pd_if_ne (tgt := 66) dX6_readLoan_61 (by decide) (fun hc => ?_) (fun hc => ?_)
        · have hf := pd_ip hf hc
          refine pd_aload_n (i := 0) dX6_readLoan_66 rfl rfl ?_
          refine pd_iconst dX6_readLoan_67 (by decide) ?_
          refine pd_sipush dX6_readLoan_68 (by decide) ?_
          refine pd_iconst dX6_readLoan_71 (by decide) ?_
          obtain ⟨r12, F11, hr, hf⟩ := pd_ob2 hf
          refine pd_callV (pkX6_takeNumberIn l hr) dX6_readLoan_72 pq_310 pq_313 pq_314 (show vwCl[6]? = some (yX6_takeNumberIn.cls, TX6, 3) from rfl) hg1 (pd_okm (by omega) (by decide) pq_311 pq_312 (by decide) (show (parseMethodDescriptor yX6_takeNumberIn.desc).map (fun d => d.parameters.length) = some 3 from by decide +kernel)) (Nat.le_of_ble_eq_true rfl) rfl ?_
          refine pd_istore_n (L' := [pd_R x0, pd_I r6, pd_I r8, pd_I r12]) dX6_readLoan_75 rfl (by decide) rfl ?_
          refine pd_iload_n (i := 3) dX6_readLoan_76 rfl rfl ?_
          refine pd_iconst dX6_readLoan_77 (by decide) ?_
          refine pd_icmp_eq (tgt := 88) dX6_readLoan_78 (by decide) (fun hc => ?_) (fun hc => ?_)
          · have hf := pd_ip hf hc
            refine pd_iconst dX6_readLoan_88 (by decide) ?_
            obtain ⟨h1, h2⟩ := pd_inj hf
            subst h1 h2
            exact pd_zret dX6_readLoan_89 rfl (by decide) (Nat.le_refl 0) (Nat.le_refl 0)
          · have hf := pd_in_ hf hc
            refine pd_aload_n (i := 0) dX6_readLoan_81 rfl rfl ?_
            obtain ⟨r14, F13, hr, hf⟩ := pd_ob2 hf
            refine pd_callV (pkX6_passEnd l hr) dX6_readLoan_82 pq_349 pq_352 pq_353 (show vwCl[6]? = some (yX6_passEnd.cls, TX6, 3) from rfl) hg1 (pd_okm (by omega) (by decide) pq_350 pq_351 (by decide) (show (parseMethodDescriptor yX6_passEnd.desc).map (fun d => d.parameters.length) = some 0 from by decide +kernel)) (Nat.le_of_ble_eq_true rfl) rfl ?_
            refine pd_if_ne (tgt := 90) dX6_readLoan_85 (by decide) (fun hc => ?_) (fun hc => ?_)
            · have hf := pd_ip hf hc
              refine pd_aload_n (i := 0) dX6_readLoan_90 rfl rfl ?_
              refine pd_get (x := pd_R (F13 x0 1)) 1 dX6_readLoan_91 (show vwCl[6]? = some (RX6, TX6, 3) from rfl) pin_6 (by decide) pq_265 hg1 rfl ?_
              obtain ⟨hg15, hf⟩ := pd_ig hf
              refine pd_getN (x := pd_R (F13 (F13 x0 1) 5)) 5 dX6_readLoan_94 (show vwCl[0]? = some (RX0, TX0, 15) from rfl) pin_0 (by decide) pq_361 hg15 rfl ?_
              refine pd_aload_n (i := 0) dX6_readLoan_97 rfl rfl ?_
              refine pd_get (x := pd_R (F13 x0 1)) 1 dX6_readLoan_98 (show vwCl[6]? = some (RX6, TX6, 3) from rfl) pin_6 (by decide) pq_265 hg1 rfl ?_
              refine pd_getN (x := pd_I (F13 (F13 x0 1) 13)) 13 dX6_readLoan_101 (show vwCl[0]? = some (RX0, TX0, 15) from rfl) pin_0 (by decide) pq_360 hg15 rfl ?_
              obtain ⟨hg16, hf⟩ := pd_ig hf
              refine pd_aald dX6_readLoan_104 hg16 ?_
              refine pd_iload_n (i := 1) dX6_readLoan_105 rfl rfl ?_
              refine pd_iload_n (i := 2) dX6_readLoan_106 rfl rfl ?_
              refine pd_iload_n (i := 3) dX6_readLoan_107 rfl rfl ?_
              refine pd_sipush dX6_readLoan_108 (by decide) ?_
              obtain ⟨hg18, hf⟩ := pd_ig hf
              obtain ⟨F17, hr, hf⟩ := pd_ob1 hf
              refine pd_callV (pkX1_setTo l hr) dX6_readLoan_111 pq_355 pq_358 pq_359 (show vwCl[1]? = some (yX1_setTo.cls, TX1, 4) from rfl) hg18 (pd_okm (by omega) (by decide) pq_356 pq_357 (by decide) (show (parseMethodDescriptor yX1_setTo.desc).map (fun d => d.parameters.length) = some 4 from by decide +kernel)) (Nat.le_of_ble_eq_true rfl) rfl ?_
              refine pd_aload_n (i := 0) dX6_readLoan_114 rfl rfl ?_
              refine pd_get (x := pd_R (F17 x0 1)) 1 dX6_readLoan_115 (show vwCl[6]? = some (RX6, TX6, 3) from rfl) pin_6 (by decide) pq_265 hg1 rfl ?_
              refine pd_dup dX6_readLoan_118 rfl ?_
              obtain ⟨hg19, hf⟩ := pd_ig hf
              refine pd_getN (x := pd_I (F17 (F17 x0 1) 13)) 13 dX6_readLoan_119 (show vwCl[0]? = some (RX0, TX0, 15) from rfl) pin_0 (by decide) pq_360 hg19 rfl ?_
              refine pd_iconst dX6_readLoan_122 (by decide) ?_
              refine pd_iadd dX6_readLoan_123 ?_
              refine pd_putN (n := (pd_w ((F17 (F17 x0 1) 13) + 1))) (x := pd_I (pd_w ((F17 (F17 x0 1) 13) + 1))) 13 dX6_readLoan_124 (show vwCl[0]? = some (RX0, TX0, 15) from rfl) pin_0 tyX0_ok nmX0 (by decide) pq_360 rfl hg19 rfl pd_nrI pd_ftI ?_
              refine pd_topF (fun F20 eF20 => ?_)
              have hf := pd_lt hf eF20
              clear eF20
              refine pd_iconst dX6_readLoan_127 (by decide) ?_
              obtain ⟨h1, h2⟩ := pd_inj hf
              subst h1 h2
              exact pd_zret dX6_readLoan_128 rfl (by decide) (Nat.le_refl 0) (Nat.le_refl 0)
            · have hf := pd_iq hf hc
              refine pd_iconst dX6_readLoan_88 (by decide) ?_
              obtain ⟨h1, h2⟩ := pd_inj hf
              subst h1 h2
              exact pd_zret dX6_readLoan_89 rfl (by decide) (Nat.le_refl 0) (Nat.le_refl 0)
        · have hf := pd_iq hf hc
          refine pd_iconst dX6_readLoan_64 (by decide) ?_
          obtain ⟨h1, h2⟩ := pd_inj hf
          subst h1 h2
          exact pd_zret dX6_readLoan_65 rfl (by decide) (Nat.le_refl 0) (Nat.le_refl 0)
    · have hf := pd_iq hf hc
      refine pd_iconst dX6_readLoan_38 (by decide) ?_
      obtain ⟨h1, h2⟩ := pd_inj hf
      subst h1 h2
      exact pd_zret dX6_readLoan_39 rfl (by decide) (Nat.le_refl 0) (Nat.le_refl 0)
  · have hf := pd_in_ hf hc
    refine pd_aload_n (i := 0) dX6_readLoan_12 rfl rfl ?_
    refine pd_iconst dX6_readLoan_13 (by decide) ?_
    obtain ⟨r22, F21, hr, hf⟩ := pd_ob2 hf
    refine pd_callV (pkX6_fail l hr) dX6_readLoan_14 pq_298 pq_301 pq_302 (show vwCl[6]? = some (yX6_fail.cls, TX6, 3) from rfl) hg1 (pd_okm (by omega) (by decide) pq_299 pq_300 (by decide) (show (parseMethodDescriptor yX6_fail.desc).map (fun d => d.parameters.length) = some 1 from by decide +kernel)) (Nat.le_of_ble_eq_true rfl) rfl ?_
    obtain ⟨hg23, hf⟩ := pd_ig hf
    obtain ⟨h1, h2⟩ := pd_inj hf
    subst h1 h2
    exact pd_zret dX6_readLoan_17 rfl hg23 (Nat.le_refl 0) (Nat.le_refl 0)
set_option maxHeartbeats 4000000 in
set_option maxRecDepth 100000 in
theorem pkX6_readSetting (l : Launch) {al : Bool} {sh : pd_S} {n : Nat} {F : pd_F} {x0 : Int} {x1 : Int} {ρ : Int} {Fz : pd_F} (hf : pfX6_readSetting sh n F x0 x1 = some (ρ, Fz)) : pd_C l yX6_readSetting (Cond.code yX6_readSetting cX6_readSetting 3 (some .boolean) :: pd_gt) (pd_rm 4 0 0) al 0 0 sh F [pd_R x0, pd_I x1] (some (pd_I ρ)) sh Fz := by
  unfold pfX6_readSetting at hf
  refine pd_body (L := [pd_R x0, pd_I x1, pd_N]) (by decide +kernel) (Nat.le_of_ble_eq_true rfl) rfl (fun E => ?_)
  refine pd_aload_n (i := 0) dX6_readSetting_0 rfl rfl ?_
  obtain ⟨hg1, hf⟩ := pd_ig hf
  refine pd_get (x := pd_R (F x0 1)) 1 dX6_readSetting_1 (show vwCl[6]? = some (RX6, TX6, 3) from rfl) pin_6 (by decide) pq_265 hg1 rfl ?_
  obtain ⟨hg2, hf⟩ := pd_ig hf
  refine pd_getN (x := pd_R (F (F x0 1) 6)) 6 dX6_readSetting_4 (show vwCl[0]? = some (RX0, TX0, 15) from rfl) pin_0 (by decide) pq_362 hg2 rfl ?_
  refine pd_iload_n (i := 1) dX6_readSetting_7 rfl rfl ?_
  obtain ⟨hg3, hf⟩ := pd_ig hf
  refine pd_iald dX6_readSetting_8 hg3 ?_
  refine pd_iconst dX6_readSetting_9 (by decide) ?_
  refine pd_icmp_eq (tgt := 19) dX6_readSetting_10 (by decide) (fun hc => ?_) (fun hc => ?_)
  · have hf := pd_ip hf hc
    refine pd_aload_n (i := 0) dX6_readSetting_19 rfl rfl ?_
    refine pd_get (x := pd_R (F x0 0)) 0 dX6_readSetting_20 (show vwCl[6]? = some (RX6, TX6, 3) from rfl) pin_6 (by decide) pq_266 hg1 rfl ?_
    obtain ⟨hg5, hf⟩ := pd_ig hf
    obtain ⟨F4, hr, hf⟩ := pd_ob1 hf
    refine pd_callV (pkX9_advance l hr) dX6_readSetting_23 pq_308 pq_192 pq_193 (show vwCl[9]? = some (yX9_advance.cls, TX9, 9) from rfl) hg5 (pd_okm (by omega) (by decide) pq_190 pq_191 (by decide) (show (parseMethodDescriptor yX9_advance.desc).map (fun d => d.parameters.length) = some 0 from by decide +kernel)) (Nat.le_of_ble_eq_true rfl) rfl ?_
    refine pd_aload_n (i := 0) dX6_readSetting_26 rfl rfl ?_
    refine pd_iconst dX6_readSetting_27 (by decide) ?_
    refine pd_iload_n (i := 1) dX6_readSetting_28 rfl rfl ?_
    obtain ⟨r7, F6, hr, hf⟩ := pd_ob2 hf
    refine pd_callSN (pkX11_greatestOf l hr) dX6_readSetting_29 pq_363 pq_366 (pd_okm (by omega) (by decide) pq_364 pq_365 (by decide) (show (parseMethodDescriptor yX11_greatestOf.desc).map (fun d => d.parameters.length) = some 1 from by decide +kernel)) (Nat.le_of_ble_eq_true rfl) rfl ?_
    refine pd_iconst dX6_readSetting_32 (by decide) ?_
    obtain ⟨r9, F8, hr, hf⟩ := pd_ob2 hf
    refine pd_callV (pkX6_takeNumberIn l hr) dX6_readSetting_33 pq_310 pq_313 pq_314 (show vwCl[6]? = some (yX6_takeNumberIn.cls, TX6, 3) from rfl) hg1 (pd_okm (by omega) (by decide) pq_311 pq_312 (by decide) (show (parseMethodDescriptor yX6_takeNumberIn.desc).map (fun d => d.parameters.length) = some 3 from by decide +kernel)) (Nat.le_of_ble_eq_true rfl) rfl ?_
    refine pd_istore_n (L' := [pd_R x0, pd_I x1, pd_I r9]) dX6_readSetting_36 rfl (by decide) rfl ?_
    refine pd_iload_n (i := 2) dX6_readSetting_37 rfl rfl ?_
    refine pd_iconst dX6_readSetting_38 (by decide) ?_
    refine pd_icmp_eq (tgt := 49) dX6_readSetting_39 (by decide) (fun hc => ?_) (fun hc => ?_)
    · have hf := pd_ip hf hc
      refine pd_iconst dX6_readSetting_49 (by decide) ?_
      obtain ⟨h1, h2⟩ := pd_inj hf
      subst h1 h2
      exact pd_zret dX6_readSetting_50 rfl (by decide) (Nat.le_refl 0) (Nat.le_refl 0)
    · have hf := pd_in_ hf hc
      refine pd_aload_n (i := 0) dX6_readSetting_42 rfl rfl ?_
      obtain ⟨r11, F10, hr, hf⟩ := pd_ob2 hf
      refine pd_callV (pkX6_passEnd l hr) dX6_readSetting_43 pq_349 pq_352 pq_353 (show vwCl[6]? = some (yX6_passEnd.cls, TX6, 3) from rfl) hg1 (pd_okm (by omega) (by decide) pq_350 pq_351 (by decide) (show (parseMethodDescriptor yX6_passEnd.desc).map (fun d => d.parameters.length) = some 0 from by decide +kernel)) (Nat.le_of_ble_eq_true rfl) rfl ?_
      refine pd_if_ne (tgt := 51) dX6_readSetting_46 (by decide) (fun hc => ?_) (fun hc => ?_)
      · have hf := pd_ip hf hc
        refine pd_aload_n (i := 0) dX6_readSetting_51 rfl rfl ?_
        refine pd_get (x := pd_R (F10 x0 1)) 1 dX6_readSetting_52 (show vwCl[6]? = some (RX6, TX6, 3) from rfl) pin_6 (by decide) pq_265 hg1 rfl ?_
        obtain ⟨hg12, hf⟩ := pd_ig hf
        refine pd_getN (x := pd_R (F10 (F10 x0 1) 6)) 6 dX6_readSetting_55 (show vwCl[0]? = some (RX0, TX0, 15) from rfl) pin_0 (by decide) pq_362 hg12 rfl ?_
        refine pd_iload_n (i := 1) dX6_readSetting_58 rfl rfl ?_
        refine pd_iload_n (i := 2) dX6_readSetting_59 rfl rfl ?_
        obtain ⟨hg13, hf⟩ := pd_ig hf
        refine pd_iast dX6_readSetting_60 hg13 ?_
        refine pd_topF (fun F14 eF14 => ?_)
        have hf := pd_lt hf eF14
        clear eF14
        refine pd_iconst dX6_readSetting_61 (by decide) ?_
        obtain ⟨h1, h2⟩ := pd_inj hf
        subst h1 h2
        exact pd_zret dX6_readSetting_62 rfl (by decide) (Nat.le_refl 0) (Nat.le_refl 0)
      · have hf := pd_iq hf hc
        refine pd_iconst dX6_readSetting_49 (by decide) ?_
        obtain ⟨h1, h2⟩ := pd_inj hf
        subst h1 h2
        exact pd_zret dX6_readSetting_50 rfl (by decide) (Nat.le_refl 0) (Nat.le_refl 0)
  · have hf := pd_in_ hf hc
    refine pd_aload_n (i := 0) dX6_readSetting_13 rfl rfl ?_
    refine pd_iconst dX6_readSetting_14 (by decide) ?_
    obtain ⟨r16, F15, hr, hf⟩ := pd_ob2 hf
    refine pd_callV (pkX6_fail l hr) dX6_readSetting_15 pq_298 pq_301 pq_302 (show vwCl[6]? = some (yX6_fail.cls, TX6, 3) from rfl) hg1 (pd_okm (by omega) (by decide) pq_299 pq_300 (by decide) (show (parseMethodDescriptor yX6_fail.desc).map (fun d => d.parameters.length) = some 1 from by decide +kernel)) (Nat.le_of_ble_eq_true rfl) rfl ?_
    obtain ⟨hg17, hf⟩ := pd_ig hf
    obtain ⟨h1, h2⟩ := pd_inj hf
    subst h1 h2
    exact pd_zret dX6_readSetting_18 rfl hg17 (Nat.le_refl 0) (Nat.le_refl 0)
set_option maxHeartbeats 4000000 in
set_option maxRecDepth 100000 in
theorem pkX6_readPerson_b113 (E : pd_E) (l : Launch) {al : Bool} {sh : pd_S} {n : Nat} {ρ : Int} {Fz : pd_F}  (F : pd_F) (x0 : Int) (hf : pfX6_readPerson_b113 sh n  F x0 = some (ρ, Fz)) : pd_V E l (pd_rm 5 0 0) (RX6, cX6_readPerson, 2, (some .boolean), "readPerson") (pd_Qm E al (some (pd_I ρ)) sh Fz 0 0) al 0 0 sh F 113 [pd_R x0, pd_N] [] := by
  unfold pfX6_readPerson_b113 at hf
  refine pd_aload_n (i := 0) dX6_readPerson_113 rfl rfl ?_
  obtain ⟨hg2, hf⟩ := pd_ig hf
  obtain ⟨r3, F1, hr, hf⟩ := pd_ob2 hf
  refine pd_callV (pkX6_passEnd l hr) dX6_readPerson_114 pq_349 pq_352 pq_353 (show vwCl[6]? = some (yX6_passEnd.cls, TX6, 3) from rfl) hg2 (pd_okm (by omega) (by decide) pq_350 pq_351 (by decide) (show (parseMethodDescriptor yX6_passEnd.desc).map (fun d => d.parameters.length) = some 0 from by decide +kernel)) (Nat.le_of_ble_eq_true rfl) rfl ?_
  refine pd_if_ne (tgt := 122) dX6_readPerson_117 (by decide) (fun hc => ?_) (fun hc => ?_)
  · have hf := pd_ip hf hc
    refine pd_aload_n (i := 0) dX6_readPerson_122 rfl rfl ?_
    refine pd_get (x := pd_R (F1 x0 1)) 1 dX6_readPerson_123 (show vwCl[6]? = some (RX6, TX6, 3) from rfl) pin_6 (by decide) pq_265 hg2 rfl ?_
    obtain ⟨hg5, hf⟩ := pd_ig hf
    obtain ⟨F4, hr, hf⟩ := pd_ob1 hf
    refine pd_callV (pkX0_addPerson l hr) dX6_readPerson_126 pq_367 pq_370 pq_371 (show vwCl[0]? = some (yX0_addPerson.cls, TX0, 15) from rfl) hg5 (pd_okm (by omega) (by decide) pq_368 pq_369 (by decide) (show (parseMethodDescriptor yX0_addPerson.desc).map (fun d => d.parameters.length) = some 0 from by decide +kernel)) (Nat.le_of_ble_eq_true rfl) rfl ?_
    refine pd_iconst dX6_readPerson_129 (by decide) ?_
    obtain ⟨h1, h2⟩ := pd_inj hf
    subst h1 h2
    exact pd_zret dX6_readPerson_130 rfl (by decide) (Nat.le_refl 0) (Nat.le_refl 0)
  · have hf := pd_iq hf hc
    refine pd_iconst dX6_readPerson_120 (by decide) ?_
    obtain ⟨h1, h2⟩ := pd_inj hf
    subst h1 h2
    exact pd_zret dX6_readPerson_121 rfl (by decide) (Nat.le_refl 0) (Nat.le_refl 0)
set_option maxHeartbeats 4000000 in
set_option maxRecDepth 100000 in
theorem pkX6_readPerson (l : Launch) {al : Bool} {sh : pd_S} {n : Nat} {F : pd_F} {x0 : Int} {ρ : Int} {Fz : pd_F} (hf : pfX6_readPerson sh n F x0 = some (ρ, Fz)) : pd_C l yX6_readPerson (Cond.code yX6_readPerson cX6_readPerson 2 (some .boolean) :: pd_gt) (pd_rm 5 0 0) al 0 0 sh F [pd_R x0] (some (pd_I ρ)) sh Fz := by
  unfold pfX6_readPerson at hf
  refine pd_body (L := [pd_R x0, pd_N]) (by decide +kernel) (Nat.le_of_ble_eq_true rfl) rfl (fun E => ?_)
  refine pd_aload_n (i := 0) dX6_readPerson_0 rfl rfl ?_
  obtain ⟨hg6, hf⟩ := pd_ig hf
  refine pd_get (x := pd_R (F x0 1)) 1 dX6_readPerson_1 (show vwCl[6]? = some (RX6, TX6, 3) from rfl) pin_6 (by decide) pq_265 hg6 rfl ?_
  obtain ⟨hg7, hf⟩ := pd_ig hf
  refine pd_getN (x := pd_I (F (F x0 1) 9)) 9 dX6_readPerson_4 (show vwCl[0]? = some (RX0, TX0, 15) from rfl) pin_0 (by decide) pq_372 hg7 rfl ?_
  refine pd_bipush dX6_readPerson_7 (by decide) ?_
  refine pd_icmp_lt (tgt := 18) dX6_readPerson_9 (by decide) (fun hc => ?_) (fun hc => ?_)
  · have hf := pd_ip hf hc
    refine pd_aload_n (i := 0) dX6_readPerson_18 rfl rfl ?_
    refine pd_get (x := pd_R (F x0 1)) 1 dX6_readPerson_19 (show vwCl[6]? = some (RX6, TX6, 3) from rfl) pin_6 (by decide) pq_265 hg6 rfl ?_
    refine pd_getN (x := pd_R (F (F x0 1) 0)) 0 dX6_readPerson_22 (show vwCl[0]? = some (RX0, TX0, 15) from rfl) pin_0 (by decide) pq_373 hg7 rfl ?_
    refine pd_aload_n (i := 0) dX6_readPerson_25 rfl rfl ?_
    refine pd_get (x := pd_R (F x0 1)) 1 dX6_readPerson_26 (show vwCl[6]? = some (RX6, TX6, 3) from rfl) pin_6 (by decide) pq_265 hg6 rfl ?_
    refine pd_getN (x := pd_I (F (F x0 1) 9)) 9 dX6_readPerson_29 (show vwCl[0]? = some (RX0, TX0, 15) from rfl) pin_0 (by decide) pq_372 hg7 rfl ?_
    obtain ⟨hg8, hf⟩ := pd_ig hf
    refine pd_aald dX6_readPerson_32 hg8 ?_
    refine pd_topR (fun x1_33 ex1_33 => ?_)
    have hf := pd_lt hf ex1_33
    clear ex1_33
    obtain ⟨hg9, hf⟩ := pd_ig hf
    refine pd_astore_n (L' := [pd_R x0, pd_R x1_33]) dX6_readPerson_33 rfl (by decide) hg9 rfl ?_
    refine pd_aload_n (i := 0) dX6_readPerson_34 rfl rfl ?_
    refine pd_get (x := pd_R (F x0 0)) 0 dX6_readPerson_35 (show vwCl[6]? = some (RX6, TX6, 3) from rfl) pin_6 (by decide) pq_266 hg6 rfl ?_
    obtain ⟨hg11, hf⟩ := pd_ig hf
    obtain ⟨F10, hr, hf⟩ := pd_ob1 hf
    refine pd_callV (pkX9_advance l hr) dX6_readPerson_38 pq_308 pq_192 pq_193 (show vwCl[9]? = some (yX9_advance.cls, TX9, 9) from rfl) hg11 (pd_okm (by omega) (by decide) pq_190 pq_191 (by decide) (show (parseMethodDescriptor yX9_advance.desc).map (fun d => d.parameters.length) = some 0 from by decide +kernel)) (Nat.le_of_ble_eq_true rfl) rfl ?_
    refine pd_aload_n (i := 0) dX6_readPerson_41 rfl rfl ?_
    obtain ⟨r13, F12, hr, hf⟩ := pd_ob2 hf
    refine pd_callV (pkX6_atNewName l hr) dX6_readPerson_42 pq_374 pq_377 pq_378 (show vwCl[6]? = some (yX6_atNewName.cls, TX6, 3) from rfl) hg6 (pd_okm (by omega) (by decide) pq_375 pq_376 (by decide) (show (parseMethodDescriptor yX6_atNewName.desc).map (fun d => d.parameters.length) = some 0 from by decide +kernel)) (Nat.le_of_ble_eq_true rfl) rfl ?_
    refine pd_if_ne (tgt := 50) dX6_readPerson_45 (by decide) (fun hc => ?_) (fun hc => ?_)
    · have hf := pd_ip hf hc
      refine pd_aload_n (i := 1) dX6_readPerson_50 rfl rfl ?_
      refine pd_aload_n (i := 0) dX6_readPerson_51 rfl rfl ?_
      refine pd_get (x := pd_R (F12 x0 0)) 0 dX6_readPerson_52 (show vwCl[6]? = some (RX6, TX6, 3) from rfl) pin_6 (by decide) pq_266 hg6 rfl ?_
      obtain ⟨hg14, hf⟩ := pd_ig hf
      refine pd_getN (x := pd_J (F12 (F12 x0 0) 8)) 8 dX6_readPerson_55 (show vwCl[9]? = some (RX9, TX9, 9) from rfl) pin_9 (by decide) pq_270 hg14 rfl ?_
      refine pd_aload_n (i := 0) dX6_readPerson_58 rfl rfl ?_
      refine pd_get (x := pd_R (F12 x0 0)) 0 dX6_readPerson_59 (show vwCl[6]? = some (RX6, TX6, 3) from rfl) pin_6 (by decide) pq_266 hg6 rfl ?_
      refine pd_getN (x := pd_I (F12 (F12 x0 0) 6)) 6 dX6_readPerson_62 (show vwCl[9]? = some (RX9, TX9, 9) from rfl) pin_9 (by decide) pq_379 hg14 rfl ?_
      refine pd_bipush dX6_readPerson_65 (by decide) ?_
      refine pd_isub dX6_readPerson_67 ?_
      obtain ⟨hg16, hf⟩ := pd_ig hf
      obtain ⟨F15, hr, hf⟩ := pd_ob1 hf
      refine pd_callV (pkX5_begin l hr) dX6_readPerson_68 pq_380 pq_383 pq_384 (show vwCl[5]? = some (yX5_begin.cls, TX5, 5) from rfl) hg16 (pd_okm (by omega) (by decide) pq_381 pq_382 (by decide) (show (parseMethodDescriptor yX5_begin.desc).map (fun d => d.parameters.length) = some 2 from by decide +kernel)) (Nat.le_of_ble_eq_true rfl) rfl ?_
      refine pd_aload_n (i := 0) dX6_readPerson_71 rfl rfl ?_
      refine pd_get (x := pd_R (F15 x0 0)) 0 dX6_readPerson_72 (show vwCl[6]? = some (RX6, TX6, 3) from rfl) pin_6 (by decide) pq_266 hg6 rfl ?_
      obtain ⟨hg18, hf⟩ := pd_ig hf
      obtain ⟨F17, hr, hf⟩ := pd_ob1 hf
      refine pd_callV (pkX9_advance l hr) dX6_readPerson_75 pq_308 pq_192 pq_193 (show vwCl[9]? = some (yX9_advance.cls, TX9, 9) from rfl) hg18 (pd_okm (by omega) (by decide) pq_190 pq_191 (by decide) (show (parseMethodDescriptor yX9_advance.desc).map (fun d => d.parameters.length) = some 0 from by decide +kernel)) (Nat.le_of_ble_eq_true rfl) rfl ?_
      refine pd_aload_n (i := 0) dX6_readPerson_78 rfl rfl ?_
      refine pd_aload_n (i := 1) dX6_readPerson_79 rfl rfl ?_
      obtain ⟨r20, F19, hr, hf⟩ := pd_ob2 hf
      refine pd_callV (pkX6_readMarks l hr) dX6_readPerson_80 pq_385 pq_388 pq_389 (show vwCl[6]? = some (yX6_readMarks.cls, TX6, 3) from rfl) hg6 (pd_okm (by omega) (by decide) pq_386 pq_387 (by decide) (show (parseMethodDescriptor yX6_readMarks.desc).map (fun d => d.parameters.length) = some 1 from by decide +kernel)) (Nat.le_of_ble_eq_true rfl) rfl ?_
      refine pd_if_ne (tgt := 88) dX6_readPerson_83 (by decide) (fun hc => ?_) (fun hc => ?_)
      · have hf := pd_ip hf hc
        refine pd_aload_n (i := 1) dX6_readPerson_88 rfl rfl ?_
        refine pd_aload_n (i := 0) dX6_readPerson_89 rfl rfl ?_
        refine pd_ldc2 (x := 29676314523100530) dX6_readPerson_90 pq_272 (by decide +kernel) ?_
        obtain ⟨r22, F21, hr, hf⟩ := pd_ob2 hf
        refine pd_callV (pkX6_at l hr) dX6_readPerson_93 pq_303 pq_306 pq_307 (show vwCl[6]? = some (yX6_at.cls, TX6, 3) from rfl) hg6 (pd_okm (by omega) (by decide) pq_304 pq_305 (by decide) (show (parseMethodDescriptor yX6_at.desc).map (fun d => d.parameters.length) = some 1 from by decide +kernel)) (Nat.le_of_ble_eq_true rfl) rfl ?_
        obtain ⟨hg23, hf⟩ := pd_ig hf
        refine pd_putN (n := r22) (x := pd_I r22) 4 dX6_readPerson_96 (show vwCl[5]? = some (RX5, TX5, 5) from rfl) pin_5 tyX5_ok nmX5 (by decide) pq_390 rfl hg16 rfl (pd_nrZ hg23) (pd_ftZ hg23) ?_
        refine pd_topF (fun F24 eF24 => ?_)
        have hf := pd_lt hf eF24
        clear eF24
        refine pd_aload_n (i := 1) dX6_readPerson_99 rfl rfl ?_
        refine pd_getN (x := pd_I (F24 x1_33 4)) 4 dX6_readPerson_100 (show vwCl[5]? = some (RX5, TX5, 5) from rfl) pin_5 (by decide) pq_390 hg16 rfl ?_
        refine pd_if_eq (tgt := 113) dX6_readPerson_103 (by decide) (fun hc => ?_) (fun hc => ?_)
        · have hf := pd_ip hf hc
          exact pd_weak (L' := [pd_R x0, pd_N]) ⟨Or.inr rfl, Or.inl rfl, trivial⟩ (pkX6_readPerson_b113 E l _ _ hf)
        · have hf := pd_in_ hf hc
          refine pd_aload_n (i := 0) dX6_readPerson_106 rfl rfl ?_
          refine pd_get (x := pd_R (F24 x0 0)) 0 dX6_readPerson_107 (show vwCl[6]? = some (RX6, TX6, 3) from rfl) pin_6 (by decide) pq_266 hg6 rfl ?_
          obtain ⟨hg26, hf⟩ := pd_ig hf
          obtain ⟨F25, hr, hf⟩ := pd_ob1 hf
          refine pd_callV (pkX9_advance l hr) dX6_readPerson_110 pq_308 pq_192 pq_193 (show vwCl[9]? = some (yX9_advance.cls, TX9, 9) from rfl) hg26 (pd_okm (by omega) (by decide) pq_190 pq_191 (by decide) (show (parseMethodDescriptor yX9_advance.desc).map (fun d => d.parameters.length) = some 0 from by decide +kernel)) (Nat.le_of_ble_eq_true rfl) rfl ?_
          exact pd_weak (L' := [pd_R x0, pd_N]) ⟨Or.inr rfl, Or.inl rfl, trivial⟩ (pkX6_readPerson_b113 E l _ _ hf)
      · have hf := pd_iq hf hc
        refine pd_iconst dX6_readPerson_86 (by decide) ?_
        obtain ⟨h1, h2⟩ := pd_inj hf
        subst h1 h2
        exact pd_zret dX6_readPerson_87 rfl (by decide) (Nat.le_refl 0) (Nat.le_refl 0)
    · have hf := pd_iq hf hc
      refine pd_iconst dX6_readPerson_48 (by decide) ?_
      obtain ⟨h1, h2⟩ := pd_inj hf
      subst h1 h2
      exact pd_zret dX6_readPerson_49 rfl (by decide) (Nat.le_refl 0) (Nat.le_refl 0)
  · have hf := pd_in_ hf hc
    refine pd_aload_n (i := 0) dX6_readPerson_12 rfl rfl ?_
    refine pd_iconst dX6_readPerson_13 (by decide) ?_
    obtain ⟨r28, F27, hr, hf⟩ := pd_ob2 hf
    refine pd_callV (pkX6_fail l hr) dX6_readPerson_14 pq_298 pq_301 pq_302 (show vwCl[6]? = some (yX6_fail.cls, TX6, 3) from rfl) hg6 (pd_okm (by omega) (by decide) pq_299 pq_300 (by decide) (show (parseMethodDescriptor yX6_fail.desc).map (fun d => d.parameters.length) = some 1 from by decide +kernel)) (Nat.le_of_ble_eq_true rfl) rfl ?_
    obtain ⟨hg29, hf⟩ := pd_ig hf
    obtain ⟨h1, h2⟩ := pd_inj hf
    subst h1 h2
    exact pd_zret dX6_readPerson_17 rfl hg29 (Nat.le_refl 0) (Nat.le_refl 0)
set_option maxHeartbeats 4000000 in
set_option maxRecDepth 100000 in
theorem pkX6_readTrust (l : Launch) {al : Bool} {sh : pd_S} {n : Nat} {F : pd_F} {x0 : Int} {ρ : Int} {Fz : pd_F} (hf : pfX6_readTrust sh n F x0 = some (ρ, Fz)) : pd_C l yX6_readTrust (Cond.code yX6_readTrust cX6_readTrust 2 (some .boolean) :: pd_gt) (pd_rm 5 0 0) al 0 0 sh F [pd_R x0] (some (pd_I ρ)) sh Fz := by
  unfold pfX6_readTrust at hf
  refine pd_body (L := [pd_R x0, pd_N]) (by decide +kernel) (Nat.le_of_ble_eq_true rfl) rfl (fun E => ?_)
  refine pd_aload_n (i := 0) dX6_readTrust_0 rfl rfl ?_
  obtain ⟨hg1, hf⟩ := pd_ig hf
  refine pd_get (x := pd_R (F x0 1)) 1 dX6_readTrust_1 (show vwCl[6]? = some (RX6, TX6, 3) from rfl) pin_6 (by decide) pq_265 hg1 rfl ?_
  obtain ⟨hg2, hf⟩ := pd_ig hf
  refine pd_getN (x := pd_I (F (F x0 1) 10)) 10 dX6_readTrust_4 (show vwCl[0]? = some (RX0, TX0, 15) from rfl) pin_0 (by decide) pq_391 hg2 rfl ?_
  refine pd_iconst dX6_readTrust_7 (by decide) ?_
  refine pd_icmp_lt (tgt := 17) dX6_readTrust_8 (by decide) (fun hc => ?_) (fun hc => ?_)
  · have hf := pd_ip hf hc
    refine pd_aload_n (i := 0) dX6_readTrust_17 rfl rfl ?_
    refine pd_get (x := pd_R (F x0 1)) 1 dX6_readTrust_18 (show vwCl[6]? = some (RX6, TX6, 3) from rfl) pin_6 (by decide) pq_265 hg1 rfl ?_
    refine pd_getN (x := pd_R (F (F x0 1) 1)) 1 dX6_readTrust_21 (show vwCl[0]? = some (RX0, TX0, 15) from rfl) pin_0 (by decide) pq_392 hg2 rfl ?_
    refine pd_aload_n (i := 0) dX6_readTrust_24 rfl rfl ?_
    refine pd_get (x := pd_R (F x0 1)) 1 dX6_readTrust_25 (show vwCl[6]? = some (RX6, TX6, 3) from rfl) pin_6 (by decide) pq_265 hg1 rfl ?_
    refine pd_getN (x := pd_I (F (F x0 1) 10)) 10 dX6_readTrust_28 (show vwCl[0]? = some (RX0, TX0, 15) from rfl) pin_0 (by decide) pq_391 hg2 rfl ?_
    obtain ⟨hg3, hf⟩ := pd_ig hf
    refine pd_aald dX6_readTrust_31 hg3 ?_
    refine pd_topR (fun x1_32 ex1_32 => ?_)
    have hf := pd_lt hf ex1_32
    clear ex1_32
    obtain ⟨hg4, hf⟩ := pd_ig hf
    refine pd_astore_n (L' := [pd_R x0, pd_R x1_32]) dX6_readTrust_32 rfl (by decide) hg4 rfl ?_
    refine pd_aload_n (i := 0) dX6_readTrust_33 rfl rfl ?_
    refine pd_get (x := pd_R (F x0 0)) 0 dX6_readTrust_34 (show vwCl[6]? = some (RX6, TX6, 3) from rfl) pin_6 (by decide) pq_266 hg1 rfl ?_
    obtain ⟨hg6, hf⟩ := pd_ig hf
    obtain ⟨F5, hr, hf⟩ := pd_ob1 hf
    refine pd_callV (pkX9_advance l hr) dX6_readTrust_37 pq_308 pq_192 pq_193 (show vwCl[9]? = some (yX9_advance.cls, TX9, 9) from rfl) hg6 (pd_okm (by omega) (by decide) pq_190 pq_191 (by decide) (show (parseMethodDescriptor yX9_advance.desc).map (fun d => d.parameters.length) = some 0 from by decide +kernel)) (Nat.le_of_ble_eq_true rfl) rfl ?_
    refine pd_aload_n (i := 0) dX6_readTrust_40 rfl rfl ?_
    obtain ⟨r8, F7, hr, hf⟩ := pd_ob2 hf
    refine pd_callV (pkX6_atNewName l hr) dX6_readTrust_41 pq_374 pq_377 pq_378 (show vwCl[6]? = some (yX6_atNewName.cls, TX6, 3) from rfl) hg1 (pd_okm (by omega) (by decide) pq_375 pq_376 (by decide) (show (parseMethodDescriptor yX6_atNewName.desc).map (fun d => d.parameters.length) = some 0 from by decide +kernel)) (Nat.le_of_ble_eq_true rfl) rfl ?_
    refine pd_if_ne (tgt := 49) dX6_readTrust_44 (by decide) (fun hc => ?_) (fun hc => ?_)
    · have hf := pd_ip hf hc
      refine pd_aload_n (i := 1) dX6_readTrust_49 rfl rfl ?_
      refine pd_aload_n (i := 0) dX6_readTrust_50 rfl rfl ?_
      refine pd_get (x := pd_R (F7 x0 0)) 0 dX6_readTrust_51 (show vwCl[6]? = some (RX6, TX6, 3) from rfl) pin_6 (by decide) pq_266 hg1 rfl ?_
      obtain ⟨hg9, hf⟩ := pd_ig hf
      refine pd_getN (x := pd_J (F7 (F7 x0 0) 8)) 8 dX6_readTrust_54 (show vwCl[9]? = some (RX9, TX9, 9) from rfl) pin_9 (by decide) pq_270 hg9 rfl ?_
      obtain ⟨hg11, hf⟩ := pd_ig hf
      obtain ⟨F10, hr, hf⟩ := pd_ob1 hf
      refine pd_callV (pkX2_begin l hr) dX6_readTrust_57 pq_393 pq_396 pq_397 (show vwCl[2]? = some (yX2_begin.cls, TX2, 8) from rfl) hg11 (pd_okm (by omega) (by decide) pq_394 pq_395 (by decide) (show (parseMethodDescriptor yX2_begin.desc).map (fun d => d.parameters.length) = some 1 from by decide +kernel)) (Nat.le_of_ble_eq_true rfl) rfl ?_
      refine pd_aload_n (i := 0) dX6_readTrust_60 rfl rfl ?_
      refine pd_get (x := pd_R (F10 x0 0)) 0 dX6_readTrust_61 (show vwCl[6]? = some (RX6, TX6, 3) from rfl) pin_6 (by decide) pq_266 hg1 rfl ?_
      obtain ⟨hg13, hf⟩ := pd_ig hf
      obtain ⟨F12, hr, hf⟩ := pd_ob1 hf
      refine pd_callV (pkX9_advance l hr) dX6_readTrust_64 pq_308 pq_192 pq_193 (show vwCl[9]? = some (yX9_advance.cls, TX9, 9) from rfl) hg13 (pd_okm (by omega) (by decide) pq_190 pq_191 (by decide) (show (parseMethodDescriptor yX9_advance.desc).map (fun d => d.parameters.length) = some 0 from by decide +kernel)) (Nat.le_of_ble_eq_true rfl) rfl ?_
      refine pd_aload_n (i := 0) dX6_readTrust_67 rfl rfl ?_
      refine pd_aload_n (i := 1) dX6_readTrust_68 rfl rfl ?_
      obtain ⟨r15, F14, hr, hf⟩ := pd_ob2 hf
      refine pd_callV (pkX6_readParts l hr) dX6_readTrust_69 pq_398 pq_401 pq_402 (show vwCl[6]? = some (yX6_readParts.cls, TX6, 3) from rfl) hg1 (pd_okm (by omega) (by decide) pq_399 pq_400 (by decide) (show (parseMethodDescriptor yX6_readParts.desc).map (fun d => d.parameters.length) = some 1 from by decide +kernel)) (Nat.le_of_ble_eq_true rfl) rfl ?_
      refine pd_if_eq (tgt := 82) dX6_readTrust_72 (by decide) (fun hc => ?_) (fun hc => ?_)
      · have hf := pd_ip hf hc
        refine pd_iconst dX6_readTrust_82 (by decide) ?_
        obtain ⟨h1, h2⟩ := pd_inj hf
        subst h1 h2
        exact pd_zret dX6_readTrust_83 rfl (by decide) (Nat.le_refl 0) (Nat.le_refl 0)
      · have hf := pd_in_ hf hc
        refine pd_aload_n (i := 0) dX6_readTrust_75 rfl rfl ?_
        obtain ⟨r17, F16, hr, hf⟩ := pd_ob2 hf
        refine pd_callV (pkX6_passEnd l hr) dX6_readTrust_76 pq_349 pq_352 pq_353 (show vwCl[6]? = some (yX6_passEnd.cls, TX6, 3) from rfl) hg1 (pd_okm (by omega) (by decide) pq_350 pq_351 (by decide) (show (parseMethodDescriptor yX6_passEnd.desc).map (fun d => d.parameters.length) = some 0 from by decide +kernel)) (Nat.le_of_ble_eq_true rfl) rfl ?_
        refine pd_if_ne (tgt := 84) dX6_readTrust_79 (by decide) (fun hc => ?_) (fun hc => ?_)
        · have hf := pd_ip hf hc
          refine pd_aload_n (i := 1) dX6_readTrust_84 rfl rfl ?_
          refine pd_aload_n (i := 0) dX6_readTrust_85 rfl rfl ?_
          refine pd_get (x := pd_R (F16 x0 1)) 1 dX6_readTrust_86 (show vwCl[6]? = some (RX6, TX6, 3) from rfl) pin_6 (by decide) pq_265 hg1 rfl ?_
          obtain ⟨hg18, hf⟩ := pd_ig hf
          refine pd_getN (x := pd_R (F16 (F16 x0 1) 1)) 1 dX6_readTrust_89 (show vwCl[0]? = some (RX0, TX0, 15) from rfl) pin_0 (by decide) pq_392 hg18 rfl ?_
          obtain ⟨F19, hr, hf⟩ := pd_ob1 hf
          refine pd_callV (pkX2_settle l hr) dX6_readTrust_92 pq_403 pq_406 pq_407 (show vwCl[2]? = some (yX2_settle.cls, TX2, 8) from rfl) hg11 (pd_okm (by omega) (by decide) pq_404 pq_405 (by decide) (show (parseMethodDescriptor yX2_settle.desc).map (fun d => d.parameters.length) = some 1 from by decide +kernel)) (Nat.le_of_ble_eq_true rfl) rfl ?_
          refine pd_aload_n (i := 0) dX6_readTrust_95 rfl rfl ?_
          refine pd_get (x := pd_R (F19 x0 1)) 1 dX6_readTrust_96 (show vwCl[6]? = some (RX6, TX6, 3) from rfl) pin_6 (by decide) pq_265 hg1 rfl ?_
          refine pd_dup dX6_readTrust_99 rfl ?_
          obtain ⟨hg20, hf⟩ := pd_ig hf
          refine pd_getN (x := pd_I (F19 (F19 x0 1) 10)) 10 dX6_readTrust_100 (show vwCl[0]? = some (RX0, TX0, 15) from rfl) pin_0 (by decide) pq_391 hg20 rfl ?_
          refine pd_iconst dX6_readTrust_103 (by decide) ?_
          refine pd_iadd dX6_readTrust_104 ?_
          refine pd_putN (n := (pd_w ((F19 (F19 x0 1) 10) + 1))) (x := pd_I (pd_w ((F19 (F19 x0 1) 10) + 1))) 10 dX6_readTrust_105 (show vwCl[0]? = some (RX0, TX0, 15) from rfl) pin_0 tyX0_ok nmX0 (by decide) pq_391 rfl hg20 rfl pd_nrI pd_ftI ?_
          refine pd_topF (fun F21 eF21 => ?_)
          have hf := pd_lt hf eF21
          clear eF21
          refine pd_iconst dX6_readTrust_108 (by decide) ?_
          obtain ⟨h1, h2⟩ := pd_inj hf
          subst h1 h2
          exact pd_zret dX6_readTrust_109 rfl (by decide) (Nat.le_refl 0) (Nat.le_refl 0)
        · have hf := pd_iq hf hc
          refine pd_iconst dX6_readTrust_82 (by decide) ?_
          obtain ⟨h1, h2⟩ := pd_inj hf
          subst h1 h2
          exact pd_zret dX6_readTrust_83 rfl (by decide) (Nat.le_refl 0) (Nat.le_refl 0)
    · have hf := pd_iq hf hc
      refine pd_iconst dX6_readTrust_47 (by decide) ?_
      obtain ⟨h1, h2⟩ := pd_inj hf
      subst h1 h2
      exact pd_zret dX6_readTrust_48 rfl (by decide) (Nat.le_refl 0) (Nat.le_refl 0)
  · have hf := pd_in_ hf hc
    refine pd_aload_n (i := 0) dX6_readTrust_11 rfl rfl ?_
    refine pd_iconst dX6_readTrust_12 (by decide) ?_
    obtain ⟨r23, F22, hr, hf⟩ := pd_ob2 hf
    refine pd_callV (pkX6_fail l hr) dX6_readTrust_13 pq_298 pq_301 pq_302 (show vwCl[6]? = some (yX6_fail.cls, TX6, 3) from rfl) hg1 (pd_okm (by omega) (by decide) pq_299 pq_300 (by decide) (show (parseMethodDescriptor yX6_fail.desc).map (fun d => d.parameters.length) = some 1 from by decide +kernel)) (Nat.le_of_ble_eq_true rfl) rfl ?_
    obtain ⟨hg24, hf⟩ := pd_ig hf
    obtain ⟨h1, h2⟩ := pd_inj hf
    subst h1 h2
    exact pd_zret dX6_readTrust_16 rfl hg24 (Nat.le_refl 0) (Nat.le_refl 0)
set_option maxHeartbeats 4000000 in
set_option maxRecDepth 100000 in
theorem pkX6_readAccount (l : Launch) {al : Bool} {sh : pd_S} {n : Nat} {F : pd_F} {x0 : Int} {ρ : Int} {Fz : pd_F} (hf : pfX6_readAccount sh n F x0 = some (ρ, Fz)) : pd_C l yX6_readAccount (Cond.code yX6_readAccount cX6_readAccount 3 (some .boolean) :: pd_gt) (pd_rm 5 0 0) al 0 0 sh F [pd_R x0] (some (pd_I ρ)) sh Fz := by
  unfold pfX6_readAccount at hf
  refine pd_body (L := [pd_R x0, pd_N, pd_N]) (by decide +kernel) (Nat.le_of_ble_eq_true rfl) rfl (fun E => ?_)
  refine pd_aload_n (i := 0) dX6_readAccount_0 rfl rfl ?_
  obtain ⟨hg1, hf⟩ := pd_ig hf
  refine pd_get (x := pd_R (F x0 1)) 1 dX6_readAccount_1 (show vwCl[6]? = some (RX6, TX6, 3) from rfl) pin_6 (by decide) pq_265 hg1 rfl ?_
  obtain ⟨hg2, hf⟩ := pd_ig hf
  refine pd_getN (x := pd_I (F (F x0 1) 11)) 11 dX6_readAccount_4 (show vwCl[0]? = some (RX0, TX0, 15) from rfl) pin_0 (by decide) pq_408 hg2 rfl ?_
  refine pd_bipush dX6_readAccount_7 (by decide) ?_
  refine pd_icmp_lt (tgt := 18) dX6_readAccount_9 (by decide) (fun hc => ?_) (fun hc => ?_)
  · have hf := pd_ip hf hc
    refine pd_aload_n (i := 0) dX6_readAccount_18 rfl rfl ?_
    refine pd_get (x := pd_R (F x0 1)) 1 dX6_readAccount_19 (show vwCl[6]? = some (RX6, TX6, 3) from rfl) pin_6 (by decide) pq_265 hg1 rfl ?_
    refine pd_getN (x := pd_R (F (F x0 1) 2)) 2 dX6_readAccount_22 (show vwCl[0]? = some (RX0, TX0, 15) from rfl) pin_0 (by decide) pq_409 hg2 rfl ?_
    refine pd_aload_n (i := 0) dX6_readAccount_25 rfl rfl ?_
    refine pd_get (x := pd_R (F x0 1)) 1 dX6_readAccount_26 (show vwCl[6]? = some (RX6, TX6, 3) from rfl) pin_6 (by decide) pq_265 hg1 rfl ?_
    refine pd_getN (x := pd_I (F (F x0 1) 11)) 11 dX6_readAccount_29 (show vwCl[0]? = some (RX0, TX0, 15) from rfl) pin_0 (by decide) pq_408 hg2 rfl ?_
    obtain ⟨hg3, hf⟩ := pd_ig hf
    refine pd_aald dX6_readAccount_32 hg3 ?_
    refine pd_topR (fun x1_33 ex1_33 => ?_)
    have hf := pd_lt hf ex1_33
    clear ex1_33
    obtain ⟨hg4, hf⟩ := pd_ig hf
    refine pd_astore_n (L' := [pd_R x0, pd_R x1_33, pd_N]) dX6_readAccount_33 rfl (by decide) hg4 rfl ?_
    refine pd_aload_n (i := 0) dX6_readAccount_34 rfl rfl ?_
    refine pd_get (x := pd_R (F x0 0)) 0 dX6_readAccount_35 (show vwCl[6]? = some (RX6, TX6, 3) from rfl) pin_6 (by decide) pq_266 hg1 rfl ?_
    obtain ⟨hg6, hf⟩ := pd_ig hf
    obtain ⟨F5, hr, hf⟩ := pd_ob1 hf
    refine pd_callV (pkX9_advance l hr) dX6_readAccount_38 pq_308 pq_192 pq_193 (show vwCl[9]? = some (yX9_advance.cls, TX9, 9) from rfl) hg6 (pd_okm (by omega) (by decide) pq_190 pq_191 (by decide) (show (parseMethodDescriptor yX9_advance.desc).map (fun d => d.parameters.length) = some 0 from by decide +kernel)) (Nat.le_of_ble_eq_true rfl) rfl ?_
    refine pd_aload_n (i := 0) dX6_readAccount_41 rfl rfl ?_
    obtain ⟨r8, F7, hr, hf⟩ := pd_ob2 hf
    refine pd_callV (pkX6_atNewName l hr) dX6_readAccount_42 pq_374 pq_377 pq_378 (show vwCl[6]? = some (yX6_atNewName.cls, TX6, 3) from rfl) hg1 (pd_okm (by omega) (by decide) pq_375 pq_376 (by decide) (show (parseMethodDescriptor yX6_atNewName.desc).map (fun d => d.parameters.length) = some 0 from by decide +kernel)) (Nat.le_of_ble_eq_true rfl) rfl ?_
    refine pd_if_ne (tgt := 50) dX6_readAccount_45 (by decide) (fun hc => ?_) (fun hc => ?_)
    · have hf := pd_ip hf hc
      refine pd_aload_n (i := 1) dX6_readAccount_50 rfl rfl ?_
      refine pd_aload_n (i := 0) dX6_readAccount_51 rfl rfl ?_
      refine pd_get (x := pd_R (F7 x0 0)) 0 dX6_readAccount_52 (show vwCl[6]? = some (RX6, TX6, 3) from rfl) pin_6 (by decide) pq_266 hg1 rfl ?_
      obtain ⟨hg9, hf⟩ := pd_ig hf
      refine pd_getN (x := pd_J (F7 (F7 x0 0) 8)) 8 dX6_readAccount_55 (show vwCl[9]? = some (RX9, TX9, 9) from rfl) pin_9 (by decide) pq_270 hg9 rfl ?_
      obtain ⟨hg11, hf⟩ := pd_ig hf
      obtain ⟨F10, hr, hf⟩ := pd_ob1 hf
      refine pd_callV (pkX2_begin l hr) dX6_readAccount_58 pq_393 pq_396 pq_397 (show vwCl[2]? = some (yX2_begin.cls, TX2, 8) from rfl) hg11 (pd_okm (by omega) (by decide) pq_394 pq_395 (by decide) (show (parseMethodDescriptor yX2_begin.desc).map (fun d => d.parameters.length) = some 1 from by decide +kernel)) (Nat.le_of_ble_eq_true rfl) rfl ?_
      refine pd_aload_n (i := 0) dX6_readAccount_61 rfl rfl ?_
      refine pd_get (x := pd_R (F10 x0 0)) 0 dX6_readAccount_62 (show vwCl[6]? = some (RX6, TX6, 3) from rfl) pin_6 (by decide) pq_266 hg1 rfl ?_
      obtain ⟨hg13, hf⟩ := pd_ig hf
      obtain ⟨F12, hr, hf⟩ := pd_ob1 hf
      refine pd_callV (pkX9_advance l hr) dX6_readAccount_65 pq_308 pq_192 pq_193 (show vwCl[9]? = some (yX9_advance.cls, TX9, 9) from rfl) hg13 (pd_okm (by omega) (by decide) pq_190 pq_191 (by decide) (show (parseMethodDescriptor yX9_advance.desc).map (fun d => d.parameters.length) = some 0 from by decide +kernel)) (Nat.le_of_ble_eq_true rfl) rfl ?_
      refine pd_aload_n (i := 0) dX6_readAccount_68 rfl rfl ?_
      refine pd_ldc2 (x := 27691665836630885) dX6_readAccount_69 pq_275 (by decide +kernel) ?_
      obtain ⟨r15, F14, hr, hf⟩ := pd_ob2 hf
      refine pd_callV (pkX6_pass l hr) dX6_readAccount_72 pq_344 pq_347 pq_348 (show vwCl[6]? = some (yX6_pass.cls, TX6, 3) from rfl) hg1 (pd_okm (by omega) (by decide) pq_345 pq_346 (by decide) (show (parseMethodDescriptor yX6_pass.desc).map (fun d => d.parameters.length) = some 1 from by decide +kernel)) (Nat.le_of_ble_eq_true rfl) rfl ?_
      refine pd_if_ne (tgt := 80) dX6_readAccount_75 (by decide) (fun hc => ?_) (fun hc => ?_)
      · have hf := pd_ip hf hc
        refine pd_aload_n (i := 0) dX6_readAccount_80 rfl rfl ?_
        refine pd_iconst dX6_readAccount_81 (by decide) ?_
        refine pd_ldc (x := 9999999) dX6_readAccount_82 pq_343 (by decide +kernel) ?_
        refine pd_iconst dX6_readAccount_84 (by decide) ?_
        obtain ⟨r17, F16, hr, hf⟩ := pd_ob2 hf
        refine pd_callV (pkX6_takeNumberIn l hr) dX6_readAccount_85 pq_310 pq_313 pq_314 (show vwCl[6]? = some (yX6_takeNumberIn.cls, TX6, 3) from rfl) hg1 (pd_okm (by omega) (by decide) pq_311 pq_312 (by decide) (show (parseMethodDescriptor yX6_takeNumberIn.desc).map (fun d => d.parameters.length) = some 3 from by decide +kernel)) (Nat.le_of_ble_eq_true rfl) rfl ?_
        refine pd_istore_n (L' := [pd_R x0, pd_R x1_33, pd_I r17]) dX6_readAccount_88 rfl (by decide) rfl ?_
        refine pd_iload_n (i := 2) dX6_readAccount_89 rfl rfl ?_
        refine pd_iconst dX6_readAccount_90 (by decide) ?_
        refine pd_icmp_eq (tgt := 102) dX6_readAccount_91 (by decide) (fun hc => ?_) (fun hc => ?_)
        · have hf := pd_ip hf hc
          refine pd_iconst dX6_readAccount_102 (by decide) ?_
          obtain ⟨h1, h2⟩ := pd_inj hf
          subst h1 h2
          exact pd_zret dX6_readAccount_103 rfl (by decide) (Nat.le_refl 0) (Nat.le_refl 0)
        · have hf := pd_in_ hf hc
          refine pd_aload_n (i := 0) dX6_readAccount_94 rfl rfl ?_
          refine pd_aload_n (i := 1) dX6_readAccount_95 rfl rfl ?_
          obtain ⟨r19, F18, hr, hf⟩ := pd_ob2 hf
          refine pd_callV (pkX6_readParts l hr) dX6_readAccount_96 pq_398 pq_401 pq_402 (show vwCl[6]? = some (yX6_readParts.cls, TX6, 3) from rfl) hg1 (pd_okm (by omega) (by decide) pq_399 pq_400 (by decide) (show (parseMethodDescriptor yX6_readParts.desc).map (fun d => d.parameters.length) = some 1 from by decide +kernel)) (Nat.le_of_ble_eq_true rfl) rfl ?_
          refine pd_if_ne (tgt := 104) dX6_readAccount_99 (by decide) (fun hc => ?_) (fun hc => ?_)
          · have hf := pd_ip hf hc
            refine pd_aload_n (i := 1) dX6_readAccount_104 rfl rfl ?_
            refine pd_getN (x := pd_I (F18 x1_33 3)) 3 dX6_readAccount_105 (show vwCl[2]? = some (RX2, TX2, 8) from rfl) pin_2 (by decide) pq_326 hg11 rfl ?_
            refine pd_if_ne (tgt := 117) dX6_readAccount_108 (by decide) (fun hc => ?_) (fun hc => ?_)
            · have hf := pd_ip hf hc
              refine pd_aload_n (i := 0) dX6_readAccount_117 rfl rfl ?_
              obtain ⟨r21, F20, hr, hf⟩ := pd_ob2 hf
              refine pd_callV (pkX6_passEnd l hr) dX6_readAccount_118 pq_349 pq_352 pq_353 (show vwCl[6]? = some (yX6_passEnd.cls, TX6, 3) from rfl) hg1 (pd_okm (by omega) (by decide) pq_350 pq_351 (by decide) (show (parseMethodDescriptor yX6_passEnd.desc).map (fun d => d.parameters.length) = some 0 from by decide +kernel)) (Nat.le_of_ble_eq_true rfl) rfl ?_
              refine pd_if_ne (tgt := 126) dX6_readAccount_121 (by decide) (fun hc => ?_) (fun hc => ?_)
              · have hf := pd_ip hf hc
                refine pd_aload_n (i := 1) dX6_readAccount_126 rfl rfl ?_
                refine pd_aload_n (i := 0) dX6_readAccount_127 rfl rfl ?_
                refine pd_get (x := pd_R (F20 x0 1)) 1 dX6_readAccount_128 (show vwCl[6]? = some (RX6, TX6, 3) from rfl) pin_6 (by decide) pq_265 hg1 rfl ?_
                obtain ⟨hg22, hf⟩ := pd_ig hf
                refine pd_getN (x := pd_R (F20 (F20 x0 1) 1)) 1 dX6_readAccount_131 (show vwCl[0]? = some (RX0, TX0, 15) from rfl) pin_0 (by decide) pq_392 hg22 rfl ?_
                obtain ⟨F23, hr, hf⟩ := pd_ob1 hf
                refine pd_callV (pkX2_settle l hr) dX6_readAccount_134 pq_403 pq_406 pq_407 (show vwCl[2]? = some (yX2_settle.cls, TX2, 8) from rfl) hg11 (pd_okm (by omega) (by decide) pq_404 pq_405 (by decide) (show (parseMethodDescriptor yX2_settle.desc).map (fun d => d.parameters.length) = some 1 from by decide +kernel)) (Nat.le_of_ble_eq_true rfl) rfl ?_
                refine pd_aload_n (i := 0) dX6_readAccount_137 rfl rfl ?_
                refine pd_get (x := pd_R (F23 x0 1)) 1 dX6_readAccount_138 (show vwCl[6]? = some (RX6, TX6, 3) from rfl) pin_6 (by decide) pq_265 hg1 rfl ?_
                obtain ⟨hg24, hf⟩ := pd_ig hf
                refine pd_getN (x := pd_R (F23 (F23 x0 1) 3)) 3 dX6_readAccount_141 (show vwCl[0]? = some (RX0, TX0, 15) from rfl) pin_0 (by decide) pq_410 hg24 rfl ?_
                refine pd_aload_n (i := 0) dX6_readAccount_144 rfl rfl ?_
                refine pd_get (x := pd_R (F23 x0 1)) 1 dX6_readAccount_145 (show vwCl[6]? = some (RX6, TX6, 3) from rfl) pin_6 (by decide) pq_265 hg1 rfl ?_
                refine pd_getN (x := pd_I (F23 (F23 x0 1) 11)) 11 dX6_readAccount_148 (show vwCl[0]? = some (RX0, TX0, 15) from rfl) pin_0 (by decide) pq_408 hg24 rfl ?_
                refine pd_iload_n (i := 2) dX6_readAccount_151 rfl rfl ?_
                obtain ⟨hg25, hf⟩ := pd_ig hf
                refine pd_iast dX6_readAccount_152 hg25 ?_
                refine pd_topF (fun F26 eF26 => ?_)
                have hf := pd_lt hf eF26
                clear eF26
                refine pd_aload_n (i := 0) dX6_readAccount_153 rfl rfl ?_
                refine pd_get (x := pd_R (F26 x0 1)) 1 dX6_readAccount_154 (show vwCl[6]? = some (RX6, TX6, 3) from rfl) pin_6 (by decide) pq_265 hg1 rfl ?_
                refine pd_dup dX6_readAccount_157 rfl ?_
                obtain ⟨hg27, hf⟩ := pd_ig hf
                refine pd_getN (x := pd_I (F26 (F26 x0 1) 11)) 11 dX6_readAccount_158 (show vwCl[0]? = some (RX0, TX0, 15) from rfl) pin_0 (by decide) pq_408 hg27 rfl ?_
                refine pd_iconst dX6_readAccount_161 (by decide) ?_
                refine pd_iadd dX6_readAccount_162 ?_
                refine pd_putN (n := (pd_w ((F26 (F26 x0 1) 11) + 1))) (x := pd_I (pd_w ((F26 (F26 x0 1) 11) + 1))) 11 dX6_readAccount_163 (show vwCl[0]? = some (RX0, TX0, 15) from rfl) pin_0 tyX0_ok nmX0 (by decide) pq_408 rfl hg27 rfl pd_nrI pd_ftI ?_
                refine pd_topF (fun F28 eF28 => ?_)
                have hf := pd_lt hf eF28
                clear eF28
                refine pd_iconst dX6_readAccount_166 (by decide) ?_
                obtain ⟨h1, h2⟩ := pd_inj hf
                subst h1 h2
                exact pd_zret dX6_readAccount_167 rfl (by decide) (Nat.le_refl 0) (Nat.le_refl 0)
              · have hf := pd_iq hf hc
                refine pd_iconst dX6_readAccount_124 (by decide) ?_
                obtain ⟨h1, h2⟩ := pd_inj hf
                subst h1 h2
                exact pd_zret dX6_readAccount_125 rfl (by decide) (Nat.le_refl 0) (Nat.le_refl 0)
            · have hf := pd_iq hf hc
              refine pd_aload_n (i := 0) dX6_readAccount_111 rfl rfl ?_
              refine pd_iconst dX6_readAccount_112 (by decide) ?_
              obtain ⟨r30, F29, hr, hf⟩ := pd_ob2 hf
              refine pd_callV (pkX6_fail l hr) dX6_readAccount_113 pq_298 pq_301 pq_302 (show vwCl[6]? = some (yX6_fail.cls, TX6, 3) from rfl) hg1 (pd_okm (by omega) (by decide) pq_299 pq_300 (by decide) (show (parseMethodDescriptor yX6_fail.desc).map (fun d => d.parameters.length) = some 1 from by decide +kernel)) (Nat.le_of_ble_eq_true rfl) rfl ?_
              obtain ⟨hg31, hf⟩ := pd_ig hf
              obtain ⟨h1, h2⟩ := pd_inj hf
              subst h1 h2
              exact pd_zret dX6_readAccount_116 rfl hg31 (Nat.le_refl 0) (Nat.le_refl 0)
          · have hf := pd_iq hf hc
            refine pd_iconst dX6_readAccount_102 (by decide) ?_
            obtain ⟨h1, h2⟩ := pd_inj hf
            subst h1 h2
            exact pd_zret dX6_readAccount_103 rfl (by decide) (Nat.le_refl 0) (Nat.le_refl 0)
      · have hf := pd_iq hf hc
        refine pd_iconst dX6_readAccount_78 (by decide) ?_
        obtain ⟨h1, h2⟩ := pd_inj hf
        subst h1 h2
        exact pd_zret dX6_readAccount_79 rfl (by decide) (Nat.le_refl 0) (Nat.le_refl 0)
    · have hf := pd_iq hf hc
      refine pd_iconst dX6_readAccount_48 (by decide) ?_
      obtain ⟨h1, h2⟩ := pd_inj hf
      subst h1 h2
      exact pd_zret dX6_readAccount_49 rfl (by decide) (Nat.le_refl 0) (Nat.le_refl 0)
  · have hf := pd_in_ hf hc
    refine pd_aload_n (i := 0) dX6_readAccount_12 rfl rfl ?_
    refine pd_iconst dX6_readAccount_13 (by decide) ?_
    obtain ⟨r33, F32, hr, hf⟩ := pd_ob2 hf
    refine pd_callV (pkX6_fail l hr) dX6_readAccount_14 pq_298 pq_301 pq_302 (show vwCl[6]? = some (yX6_fail.cls, TX6, 3) from rfl) hg1 (pd_okm (by omega) (by decide) pq_299 pq_300 (by decide) (show (parseMethodDescriptor yX6_fail.desc).map (fun d => d.parameters.length) = some 1 from by decide +kernel)) (Nat.le_of_ble_eq_true rfl) rfl ?_
    obtain ⟨hg34, hf⟩ := pd_ig hf
    obtain ⟨h1, h2⟩ := pd_inj hf
    subst h1 h2
    exact pd_zret dX6_readAccount_17 rfl hg34 (Nat.le_refl 0) (Nat.le_refl 0)
set_option maxHeartbeats 4000000 in
set_option maxRecDepth 100000 in
theorem pkX6_readLine (l : Launch) {al : Bool} {sh : pd_S} {n : Nat} {F : pd_F} {x0 : Int} {ρ : Int} {Fz : pd_F} (hf : pfX6_readLine sh n F x0 = some (ρ, Fz)) : pd_C l yX6_readLine (Cond.code yX6_readLine cX6_readLine 1 (some .boolean) :: pd_gt) (pd_rm 6 0 0) al 0 0 sh F [pd_R x0] (some (pd_I ρ)) sh Fz := by
  unfold pfX6_readLine at hf
  refine pd_body (L := [pd_R x0]) (by decide +kernel) (Nat.le_of_ble_eq_true rfl) rfl (fun E => ?_)
  refine pd_aload_n (i := 0) dX6_readLine_0 rfl rfl ?_
  refine pd_ldc2 (x := 123581014175598) dX6_readLine_1 pq_271 (by decide +kernel) ?_
  obtain ⟨hg2, hf⟩ := pd_ig hf
  obtain ⟨r3, F1, hr, hf⟩ := pd_ob2 hf
  refine pd_callV (pkX6_at l hr) dX6_readLine_4 pq_303 pq_306 pq_307 (show vwCl[6]? = some (yX6_at.cls, TX6, 3) from rfl) hg2 (pd_okm (by omega) (by decide) pq_304 pq_305 (by decide) (show (parseMethodDescriptor yX6_at.desc).map (fun d => d.parameters.length) = some 1 from by decide +kernel)) (Nat.le_of_ble_eq_true rfl) rfl ?_
  refine pd_if_eq (tgt := 15) dX6_readLine_7 (by decide) (fun hc => ?_) (fun hc => ?_)
  · have hf := pd_ip hf hc
    refine pd_aload_n (i := 0) dX6_readLine_15 rfl rfl ?_
    refine pd_ldc2 (x := 500136506228) dX6_readLine_16 pq_273 (by decide +kernel) ?_
    obtain ⟨r5, F4, hr, hf⟩ := pd_ob2 hf
    refine pd_callV (pkX6_at l hr) dX6_readLine_19 pq_303 pq_306 pq_307 (show vwCl[6]? = some (yX6_at.cls, TX6, 3) from rfl) hg2 (pd_okm (by omega) (by decide) pq_304 pq_305 (by decide) (show (parseMethodDescriptor yX6_at.desc).map (fun d => d.parameters.length) = some 1 from by decide +kernel)) (Nat.le_of_ble_eq_true rfl) rfl ?_
    refine pd_if_eq (tgt := 30) dX6_readLine_22 (by decide) (fun hc => ?_) (fun hc => ?_)
    · have hf := pd_ip hf hc
      refine pd_aload_n (i := 0) dX6_readLine_30 rfl rfl ?_
      refine pd_ldc2 (x := 27412351463812724) dX6_readLine_31 pq_274 (by decide +kernel) ?_
      obtain ⟨r7, F6, hr, hf⟩ := pd_ob2 hf
      refine pd_callV (pkX6_at l hr) dX6_readLine_34 pq_303 pq_306 pq_307 (show vwCl[6]? = some (yX6_at.cls, TX6, 3) from rfl) hg2 (pd_okm (by omega) (by decide) pq_304 pq_305 (by decide) (show (parseMethodDescriptor yX6_at.desc).map (fun d => d.parameters.length) = some 1 from by decide +kernel)) (Nat.le_of_ble_eq_true rfl) rfl ?_
      refine pd_if_eq (tgt := 45) dX6_readLine_37 (by decide) (fun hc => ?_) (fun hc => ?_)
      · have hf := pd_ip hf hc
        refine pd_aload_n (i := 0) dX6_readLine_45 rfl rfl ?_
        refine pd_ldc2 (x := 1751738216) dX6_readLine_46 pq_276 (by decide +kernel) ?_
        obtain ⟨r9, F8, hr, hf⟩ := pd_ob2 hf
        refine pd_callV (pkX6_at l hr) dX6_readLine_49 pq_303 pq_306 pq_307 (show vwCl[6]? = some (yX6_at.cls, TX6, 3) from rfl) hg2 (pd_okm (by omega) (by decide) pq_304 pq_305 (by decide) (show (parseMethodDescriptor yX6_at.desc).map (fun d => d.parameters.length) = some 1 from by decide +kernel)) (Nat.le_of_ble_eq_true rfl) rfl ?_
        refine pd_if_eq (tgt := 60) dX6_readLine_52 (by decide) (fun hc => ?_) (fun hc => ?_)
        · have hf := pd_ip hf hc
          refine pd_aload_n (i := 0) dX6_readLine_60 rfl rfl ?_
          refine pd_ldc2 (x := 1819238766) dX6_readLine_61 pq_279 (by decide +kernel) ?_
          obtain ⟨r11, F10, hr, hf⟩ := pd_ob2 hf
          refine pd_callV (pkX6_at l hr) dX6_readLine_64 pq_303 pq_306 pq_307 (show vwCl[6]? = some (yX6_at.cls, TX6, 3) from rfl) hg2 (pd_okm (by omega) (by decide) pq_304 pq_305 (by decide) (show (parseMethodDescriptor yX6_at.desc).map (fun d => d.parameters.length) = some 1 from by decide +kernel)) (Nat.le_of_ble_eq_true rfl) rfl ?_
          refine pd_if_eq (tgt := 75) dX6_readLine_67 (by decide) (fun hc => ?_) (fun hc => ?_)
          · have hf := pd_ip hf hc
            refine pd_aload_n (i := 0) dX6_readLine_75 rfl rfl ?_
            refine pd_ldc2 (x := 427071792498) dX6_readLine_76 pq_281 (by decide +kernel) ?_
            obtain ⟨r13, F12, hr, hf⟩ := pd_ob2 hf
            refine pd_callV (pkX6_at l hr) dX6_readLine_79 pq_303 pq_306 pq_307 (show vwCl[6]? = some (yX6_at.cls, TX6, 3) from rfl) hg2 (pd_okm (by omega) (by decide) pq_304 pq_305 (by decide) (show (parseMethodDescriptor yX6_at.desc).map (fun d => d.parameters.length) = some 1 from by decide +kernel)) (Nat.le_of_ble_eq_true rfl) rfl ?_
            refine pd_if_eq (tgt := 91) dX6_readLine_82 (by decide) (fun hc => ?_) (fun hc => ?_)
            · have hf := pd_ip hf hc
              refine pd_aload_n (i := 0) dX6_readLine_91 rfl rfl ?_
              refine pd_ldc2 (x := 491260572517) dX6_readLine_92 pq_282 (by decide +kernel) ?_
              obtain ⟨r15, F14, hr, hf⟩ := pd_ob2 hf
              refine pd_callV (pkX6_at l hr) dX6_readLine_95 pq_303 pq_306 pq_307 (show vwCl[6]? = some (yX6_at.cls, TX6, 3) from rfl) hg2 (pd_okm (by omega) (by decide) pq_304 pq_305 (by decide) (show (parseMethodDescriptor yX6_at.desc).map (fun d => d.parameters.length) = some 1 from by decide +kernel)) (Nat.le_of_ble_eq_true rfl) rfl ?_
              refine pd_if_eq (tgt := 107) dX6_readLine_98 (by decide) (fun hc => ?_) (fun hc => ?_)
              · have hf := pd_ip hf hc
                refine pd_aload_n (i := 0) dX6_readLine_107 rfl rfl ?_
                refine pd_ldc2 (x := 109317377451364) dX6_readLine_108 pq_283 (by decide +kernel) ?_
                obtain ⟨r17, F16, hr, hf⟩ := pd_ob2 hf
                refine pd_callV (pkX6_at l hr) dX6_readLine_111 pq_303 pq_306 pq_307 (show vwCl[6]? = some (yX6_at.cls, TX6, 3) from rfl) hg2 (pd_okm (by omega) (by decide) pq_304 pq_305 (by decide) (show (parseMethodDescriptor yX6_at.desc).map (fun d => d.parameters.length) = some 1 from by decide +kernel)) (Nat.le_of_ble_eq_true rfl) rfl ?_
                refine pd_if_eq (tgt := 125) dX6_readLine_114 (by decide) (fun hc => ?_) (fun hc => ?_)
                · have hf := pd_ip hf hc
                  refine pd_aload_n (i := 0) dX6_readLine_125 rfl rfl ?_
                  refine pd_iconst dX6_readLine_126 (by decide) ?_
                  obtain ⟨r19, F18, hr, hf⟩ := pd_ob2 hf
                  refine pd_callV (pkX6_fail l hr) dX6_readLine_127 pq_298 pq_301 pq_302 (show vwCl[6]? = some (yX6_fail.cls, TX6, 3) from rfl) hg2 (pd_okm (by omega) (by decide) pq_299 pq_300 (by decide) (show (parseMethodDescriptor yX6_fail.desc).map (fun d => d.parameters.length) = some 1 from by decide +kernel)) (Nat.le_of_ble_eq_true rfl) rfl ?_
                  obtain ⟨hg20, hf⟩ := pd_ig hf
                  obtain ⟨h1, h2⟩ := pd_inj hf
                  subst h1 h2
                  exact pd_zret dX6_readLine_130 rfl hg20 (Nat.le_refl 0) (Nat.le_refl 0)
                · have hf := pd_in_ hf hc
                  refine pd_aload_n (i := 0) dX6_readLine_117 rfl rfl ?_
                  refine pd_iconst dX6_readLine_118 (by decide) ?_
                  obtain ⟨r22, F21, hr, hf⟩ := pd_ob2 hf
                  refine pd_callV (pkX6_readSetting l hr) dX6_readLine_119 pq_411 pq_414 pq_415 (show vwCl[6]? = some (yX6_readSetting.cls, TX6, 3) from rfl) hg2 (pd_okm (by omega) (by decide) pq_412 pq_413 (by decide) (show (parseMethodDescriptor yX6_readSetting.desc).map (fun d => d.parameters.length) = some 1 from by decide +kernel)) (Nat.le_of_ble_eq_true rfl) rfl ?_
                  refine pd_goto (tgt := 130) dX6_readLine_122 (by decide) ?_
                  obtain ⟨hg23, hf⟩ := pd_ig hf
                  obtain ⟨h1, h2⟩ := pd_inj hf
                  subst h1 h2
                  exact pd_zret dX6_readLine_130 rfl hg23 (Nat.le_refl 0) (Nat.le_refl 0)
              · have hf := pd_in_ hf hc
                refine pd_aload_n (i := 0) dX6_readLine_101 rfl rfl ?_
                refine pd_iconst dX6_readLine_102 (by decide) ?_
                obtain ⟨r25, F24, hr, hf⟩ := pd_ob2 hf
                refine pd_callV (pkX6_readSetting l hr) dX6_readLine_103 pq_411 pq_414 pq_415 (show vwCl[6]? = some (yX6_readSetting.cls, TX6, 3) from rfl) hg2 (pd_okm (by omega) (by decide) pq_412 pq_413 (by decide) (show (parseMethodDescriptor yX6_readSetting.desc).map (fun d => d.parameters.length) = some 1 from by decide +kernel)) (Nat.le_of_ble_eq_true rfl) rfl ?_
                obtain ⟨hg26, hf⟩ := pd_ig hf
                obtain ⟨h1, h2⟩ := pd_inj hf
                subst h1 h2
                exact pd_zret dX6_readLine_106 rfl hg26 (Nat.le_refl 0) (Nat.le_refl 0)
            · have hf := pd_in_ hf hc
              refine pd_aload_n (i := 0) dX6_readLine_85 rfl rfl ?_
              refine pd_iconst dX6_readLine_86 (by decide) ?_
              obtain ⟨r28, F27, hr, hf⟩ := pd_ob2 hf
              refine pd_callV (pkX6_readSetting l hr) dX6_readLine_87 pq_411 pq_414 pq_415 (show vwCl[6]? = some (yX6_readSetting.cls, TX6, 3) from rfl) hg2 (pd_okm (by omega) (by decide) pq_412 pq_413 (by decide) (show (parseMethodDescriptor yX6_readSetting.desc).map (fun d => d.parameters.length) = some 1 from by decide +kernel)) (Nat.le_of_ble_eq_true rfl) rfl ?_
              obtain ⟨hg29, hf⟩ := pd_ig hf
              obtain ⟨h1, h2⟩ := pd_inj hf
              subst h1 h2
              exact pd_zret dX6_readLine_90 rfl hg29 (Nat.le_refl 0) (Nat.le_refl 0)
          · have hf := pd_in_ hf hc
            refine pd_aload_n (i := 0) dX6_readLine_70 rfl rfl ?_
            obtain ⟨r31, F30, hr, hf⟩ := pd_ob2 hf
            refine pd_callV (pkX6_readLoan l hr) dX6_readLine_71 pq_416 pq_419 pq_420 (show vwCl[6]? = some (yX6_readLoan.cls, TX6, 3) from rfl) hg2 (pd_okm (by omega) (by decide) pq_417 pq_418 (by decide) (show (parseMethodDescriptor yX6_readLoan.desc).map (fun d => d.parameters.length) = some 0 from by decide +kernel)) (Nat.le_of_ble_eq_true rfl) rfl ?_
            obtain ⟨hg32, hf⟩ := pd_ig hf
            obtain ⟨h1, h2⟩ := pd_inj hf
            subst h1 h2
            exact pd_zret dX6_readLine_74 rfl hg32 (Nat.le_refl 0) (Nat.le_refl 0)
        · have hf := pd_in_ hf hc
          refine pd_aload_n (i := 0) dX6_readLine_55 rfl rfl ?_
          obtain ⟨r34, F33, hr, hf⟩ := pd_ob2 hf
          refine pd_callV (pkX6_readHigh l hr) dX6_readLine_56 pq_421 pq_424 pq_425 (show vwCl[6]? = some (yX6_readHigh.cls, TX6, 3) from rfl) hg2 (pd_okm (by omega) (by decide) pq_422 pq_423 (by decide) (show (parseMethodDescriptor yX6_readHigh.desc).map (fun d => d.parameters.length) = some 0 from by decide +kernel)) (Nat.le_of_ble_eq_true rfl) rfl ?_
          obtain ⟨hg35, hf⟩ := pd_ig hf
          obtain ⟨h1, h2⟩ := pd_inj hf
          subst h1 h2
          exact pd_zret dX6_readLine_59 rfl hg35 (Nat.le_refl 0) (Nat.le_refl 0)
      · have hf := pd_in_ hf hc
        refine pd_aload_n (i := 0) dX6_readLine_40 rfl rfl ?_
        obtain ⟨r37, F36, hr, hf⟩ := pd_ob2 hf
        refine pd_callV (pkX6_readAccount l hr) dX6_readLine_41 pq_426 pq_429 pq_430 (show vwCl[6]? = some (yX6_readAccount.cls, TX6, 3) from rfl) hg2 (pd_okm (by omega) (by decide) pq_427 pq_428 (by decide) (show (parseMethodDescriptor yX6_readAccount.desc).map (fun d => d.parameters.length) = some 0 from by decide +kernel)) (Nat.le_of_ble_eq_true rfl) rfl ?_
        obtain ⟨hg38, hf⟩ := pd_ig hf
        obtain ⟨h1, h2⟩ := pd_inj hf
        subst h1 h2
        exact pd_zret dX6_readLine_44 rfl hg38 (Nat.le_refl 0) (Nat.le_refl 0)
    · have hf := pd_in_ hf hc
      refine pd_aload_n (i := 0) dX6_readLine_25 rfl rfl ?_
      obtain ⟨r40, F39, hr, hf⟩ := pd_ob2 hf
      refine pd_callV (pkX6_readTrust l hr) dX6_readLine_26 pq_431 pq_434 pq_435 (show vwCl[6]? = some (yX6_readTrust.cls, TX6, 3) from rfl) hg2 (pd_okm (by omega) (by decide) pq_432 pq_433 (by decide) (show (parseMethodDescriptor yX6_readTrust.desc).map (fun d => d.parameters.length) = some 0 from by decide +kernel)) (Nat.le_of_ble_eq_true rfl) rfl ?_
      obtain ⟨hg41, hf⟩ := pd_ig hf
      obtain ⟨h1, h2⟩ := pd_inj hf
      subst h1 h2
      exact pd_zret dX6_readLine_29 rfl hg41 (Nat.le_refl 0) (Nat.le_refl 0)
  · have hf := pd_in_ hf hc
    refine pd_aload_n (i := 0) dX6_readLine_10 rfl rfl ?_
    obtain ⟨r43, F42, hr, hf⟩ := pd_ob2 hf
    refine pd_callV (pkX6_readPerson l hr) dX6_readLine_11 pq_436 pq_439 pq_440 (show vwCl[6]? = some (yX6_readPerson.cls, TX6, 3) from rfl) hg2 (pd_okm (by omega) (by decide) pq_437 pq_438 (by decide) (show (parseMethodDescriptor yX6_readPerson.desc).map (fun d => d.parameters.length) = some 0 from by decide +kernel)) (Nat.le_of_ble_eq_true rfl) rfl ?_
    obtain ⟨hg44, hf⟩ := pd_ig hf
    obtain ⟨h1, h2⟩ := pd_inj hf
    subst h1 h2
    exact pd_zret dX6_readLine_14 rfl hg44 (Nat.le_refl 0) (Nat.le_refl 0)
set_option maxHeartbeats 4000000 in
set_option maxRecDepth 100000 in
theorem pkX6_read_b50 (E : pd_E) (l : Launch) {al : Bool} {sh : pd_S} {n : Nat} {ρ : Int} {Fz : pd_F}  (F : pd_F) (x0 : Int) (x2 : Int) (hf : pfX6_read_b50 sh n  F x0 x2 = some (ρ, Fz)) : pd_V E l (pd_rm 7 0 0) (RX6, cX6_read, 4, (some .int), "read") (pd_Qm E al (some (pd_I ρ)) sh Fz 0 0) al 0 0 sh F 50 [pd_R x0, pd_N, pd_I x2, pd_N] [] := by
  unfold pfX6_read_b50 at hf
  refine pd_aload_n (i := 0) dX6_read_50 rfl rfl ?_
  obtain ⟨hg1, hf⟩ := pd_ig hf
  refine pd_get (x := pd_R (F x0 1)) 1 dX6_read_51 (show vwCl[6]? = some (RX6, TX6, 3) from rfl) pin_6 (by decide) pq_265 hg1 rfl ?_
  obtain ⟨hg3, hf⟩ := pd_ig hf
  obtain ⟨F2, hr, hf⟩ := pd_ob1 hf
  refine pd_callV (pkX0_settleUntold l hr) dX6_read_54 pq_441 pq_444 pq_445 (show vwCl[0]? = some (yX0_settleUntold.cls, TX0, 15) from rfl) hg3 (pd_okm (by omega) (by decide) pq_442 pq_443 (by decide) (show (parseMethodDescriptor yX0_settleUntold.desc).map (fun d => d.parameters.length) = some 0 from by decide +kernel)) (Nat.le_of_ble_eq_true rfl) rfl ?_
  refine pd_iload_n (i := 2) dX6_read_57 rfl rfl ?_
  obtain ⟨h1, h2⟩ := pd_inj hf
  subst h1 h2
  exact pd_iret dX6_read_58 rfl (Nat.le_refl 0) (Nat.le_refl 0)
set_option maxHeartbeats 4000000 in
set_option maxRecDepth 100000 in
theorem pkX6_read_b27 (E : pd_E) (l : Launch) {al : Bool} {sh : pd_S} {n : Nat} {ρ : Int} {Fz : pd_F}  : ∀ (k : Nat) (F : pd_F) (x0 : Int) (x2 : Int) (x3 : Int), pfX6_read_b27 sh n  k F x0 x2 x3 = some (ρ, Fz) → pd_V E l (pd_rm 7 0 0) (RX6, cX6_read, 4, (some .int), "read") (pd_Qm E al (some (pd_I ρ)) sh Fz 0 0) al 0 0 sh F 27 [pd_R x0, pd_N, pd_I x2, pd_I x3] [] := by
  intro k
  induction k with
  | zero => intro F x0 x2 x3 hf; exact absurd hf (by unfold pfX6_read_b27; exact fun h => nomatch h)
  | succ k ih =>
    intro F x0 x2 x3 hf
    unfold pfX6_read_b27 at hf
    refine pd_iload_n (i := 3) dX6_read_27 rfl rfl ?_
    refine pd_if_eq (tgt := 67) dX6_read_28 (by decide) (fun hc => ?_) (fun hc => ?_)
    · have hf := pd_ip hf hc
      refine pd_bipush dX6_read_67 (by decide) ?_
      refine pd_aload_n (i := 0) dX6_read_69 rfl rfl ?_
      obtain ⟨hg4, hf⟩ := pd_ig hf
      refine pd_get (x := pd_I (F x0 2)) 2 dX6_read_70 (show vwCl[6]? = some (RX6, TX6, 3) from rfl) pin_6 (by decide) pq_268 hg4 rfl ?_
      refine pd_isub dX6_read_73 ?_
      obtain ⟨h1, h2⟩ := pd_inj hf
      subst h1 h2
      exact pd_iret dX6_read_74 rfl (Nat.le_refl 0) (Nat.le_refl 0)
    · have hf := pd_in_ hf hc
      refine pd_iload_n (i := 2) dX6_read_31 rfl rfl ?_
      refine pd_bipush dX6_read_32 (by decide) ?_
      refine pd_icmp_gt (tgt := 67) dX6_read_34 (by decide) (fun hc => ?_) (fun hc => ?_)
      · have hf := pd_ip hf hc
        refine pd_bipush dX6_read_67 (by decide) ?_
        refine pd_aload_n (i := 0) dX6_read_69 rfl rfl ?_
        obtain ⟨hg5, hf⟩ := pd_ig hf
        refine pd_get (x := pd_I (F x0 2)) 2 dX6_read_70 (show vwCl[6]? = some (RX6, TX6, 3) from rfl) pin_6 (by decide) pq_268 hg5 rfl ?_
        refine pd_isub dX6_read_73 ?_
        obtain ⟨h1, h2⟩ := pd_inj hf
        subst h1 h2
        exact pd_iret dX6_read_74 rfl (Nat.le_refl 0) (Nat.le_refl 0)
      · have hf := pd_in_ hf hc
        refine pd_iincN (L' := fun y => [pd_R x0, pd_N, pd_I y, pd_I x3]) dX6_read_37 rfl (by decide) (by decide) (fun _ => rfl) (fun x2_37 ex2_37 => ?_)
        have hf := pd_lt hf ex2_37
        clear ex2_37
        refine pd_aload_n (i := 0) dX6_read_40 rfl rfl ?_
        obtain ⟨hg6, hf⟩ := pd_ig hf
        refine pd_get (x := pd_R (F x0 0)) 0 dX6_read_41 (show vwCl[6]? = some (RX6, TX6, 3) from rfl) pin_6 (by decide) pq_266 hg6 rfl ?_
        obtain ⟨hg7, hf⟩ := pd_ig hf
        refine pd_getN (x := pd_I (F (F x0 0) 4)) 4 dX6_read_44 (show vwCl[9]? = some (RX9, TX9, 9) from rfl) pin_9 (by decide) pq_269 hg7 rfl ?_
        refine pd_if_ne (tgt := 59) dX6_read_47 (by decide) (fun hc => ?_) (fun hc => ?_)
        · have hf := pd_ip hf hc
          refine pd_aload_n (i := 0) dX6_read_59 rfl rfl ?_
          obtain ⟨r9, F8, hr, hf⟩ := pd_ob2 hf
          refine pd_callV (pkX6_readLine l hr) dX6_read_60 pq_446 pq_449 pq_450 (show vwCl[6]? = some (yX6_readLine.cls, TX6, 3) from rfl) hg6 (pd_okm (by omega) (by decide) pq_447 pq_448 (by decide) (show (parseMethodDescriptor yX6_readLine.desc).map (fun d => d.parameters.length) = some 0 from by decide +kernel)) (Nat.le_of_ble_eq_true rfl) rfl ?_
          refine pd_istore_n (L' := [pd_R x0, pd_N, pd_I x2_37, pd_I r9]) dX6_read_63 rfl (by decide) rfl ?_
          refine pd_goto (tgt := 27) dX6_read_64 (by decide) ?_
          exact pd_weak (L' := [pd_R x0, pd_N, pd_I x2_37, pd_I r9]) ⟨Or.inr rfl, Or.inr rfl, Or.inr rfl, Or.inr rfl, trivial⟩ (ih _ _ _ _ hf)
        · have hf := pd_iq hf hc
          exact pd_weak (L' := [pd_R x0, pd_N, pd_I x2_37, pd_N]) ⟨Or.inr rfl, Or.inr rfl, Or.inr rfl, Or.inl rfl, trivial⟩ (pkX6_read_b50 E l _ _ _ hf)
set_option maxHeartbeats 4000000 in
set_option maxRecDepth 100000 in
theorem pkX6_read (l : Launch) {al : Bool} {sh : pd_S} {n : Nat} {F : pd_F} {x0 : Int} {x1 : Int} {ρ : Int} {Fz : pd_F} (hf : pfX6_read sh n F x0 x1 = some (ρ, Fz)) : pd_C l yX6_read (Cond.code yX6_read cX6_read 4 (some .int) :: pd_gt) (pd_rm 7 0 0) al 0 0 sh F [pd_R x0, pd_I x1] (some (pd_I ρ)) sh Fz := by
  unfold pfX6_read at hf
  refine pd_body (L := [pd_R x0, pd_I x1, pd_N, pd_N]) (by decide +kernel) (Nat.le_of_ble_eq_true rfl) rfl (fun E => ?_)
  refine pd_aload_n (i := 0) dX6_read_0 rfl rfl ?_
  obtain ⟨hg10, hf⟩ := pd_ig hf
  refine pd_get (x := pd_R (F x0 1)) 1 dX6_read_1 (show vwCl[6]? = some (RX6, TX6, 3) from rfl) pin_6 (by decide) pq_265 hg10 rfl ?_
  obtain ⟨hg12, hf⟩ := pd_ig hf
  obtain ⟨F11, hr, hf⟩ := pd_ob1 hf
  refine pd_callV (pkX0_clear l hr) dX6_read_4 pq_451 pq_454 pq_455 (show vwCl[0]? = some (yX0_clear.cls, TX0, 15) from rfl) hg12 (pd_okm (by omega) (by decide) pq_452 pq_453 (by decide) (show (parseMethodDescriptor yX0_clear.desc).map (fun d => d.parameters.length) = some 0 from by decide +kernel)) (Nat.le_of_ble_eq_true rfl) rfl ?_
  refine pd_aload_n (i := 0) dX6_read_7 rfl rfl ?_
  refine pd_iconst dX6_read_8 (by decide) ?_
  refine pd_put (n := 0) (x := pd_I 0) 2 dX6_read_9 (show vwCl[6]? = some (RX6, TX6, 3) from rfl) pin_6 tyX6_ok nmX6 (by decide) pq_268 rfl hg10 rfl pd_nrI pd_ftI ?_
  refine pd_topF (fun F13 eF13 => ?_)
  have hf := pd_lt hf eF13
  clear eF13
  refine pd_aload_n (i := 0) dX6_read_12 rfl rfl ?_
  refine pd_get (x := pd_R (F13 x0 0)) 0 dX6_read_13 (show vwCl[6]? = some (RX6, TX6, 3) from rfl) pin_6 (by decide) pq_266 hg10 rfl ?_
  refine pd_iload_n (i := 1) dX6_read_16 rfl rfl ?_
  obtain ⟨hg15, hf⟩ := pd_ig hf
  obtain ⟨F14, hr, hf⟩ := pd_ob1 hf
  refine pd_callV (pkX9_open l hr) dX6_read_17 pq_456 pq_459 pq_460 (show vwCl[9]? = some (yX9_open.cls, TX9, 9) from rfl) hg15 (pd_okm (by omega) (by decide) pq_457 pq_458 (by decide) (show (parseMethodDescriptor yX9_open.desc).map (fun d => d.parameters.length) = some 1 from by decide +kernel)) (Nat.le_of_ble_eq_true rfl) rfl ?_
  refine pd_iconst dX6_read_20 (by decide) ?_
  refine pd_istore_n (L' := [pd_R x0, pd_I x1, pd_I 0, pd_N]) dX6_read_21 rfl (by decide) rfl ?_
  refine pd_aload_n (i := 0) dX6_read_22 rfl rfl ?_
  obtain ⟨r17, F16, hr, hf⟩ := pd_ob2 hf
  refine pd_callV (pkX6_readLine l hr) dX6_read_23 pq_446 pq_449 pq_450 (show vwCl[6]? = some (yX6_readLine.cls, TX6, 3) from rfl) hg10 (pd_okm (by omega) (by decide) pq_447 pq_448 (by decide) (show (parseMethodDescriptor yX6_readLine.desc).map (fun d => d.parameters.length) = some 0 from by decide +kernel)) (Nat.le_of_ble_eq_true rfl) rfl ?_
  refine pd_istore_n (L' := [pd_R x0, pd_I x1, pd_I 0, pd_I r17]) dX6_read_26 rfl (by decide) rfl ?_
  exact pd_weak (L' := [pd_R x0, pd_N, pd_I 0, pd_I r17]) ⟨Or.inr rfl, Or.inl rfl, Or.inr rfl, Or.inr rfl, trivial⟩ (pkX6_read_b27 E l n _ _ _ _ hf)
