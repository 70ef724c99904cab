theorem dX11_count_0 : decode cX11_count 0 = .ok (.iload_n 1, 1) := by decide +kernel
theorem dX11_count_1 : decode cX11_count 1 = .ok (.tableswitch 168 0 11 #[63, 71, 79, 87, 95, 103, 113, 123, 133, 141, 152, 160], 63) := by decide +kernel
theorem dX11_count_64 : decode cX11_count 64 = .ok (.aload_n 0, 1) := by decide +kernel
theorem dX11_count_65 : decode cX11_count 65 = .ok (.getfield 58, 3) := by decide +kernel
theorem dX11_count_68 : decode cX11_count 68 = .ok (.getfield 371, 3) := by decide +kernel
theorem dX11_count_71 : decode cX11_count 71 = .ok (.ireturn, 1) := by decide +kernel
theorem dX11_count_72 : decode cX11_count 72 = .ok (.aload_n 0, 1) := by decide +kernel
theorem dX11_count_73 : decode cX11_count 73 = .ok (.getfield 58, 3) := by decide +kernel
theorem dX11_count_76 : decode cX11_count 76 = .ok (.getfield 126, 3) := by decide +kernel
theorem dX11_count_79 : decode cX11_count 79 = .ok (.ireturn, 1) := by decide +kernel
theorem dX11_count_80 : decode cX11_count 80 = .ok (.aload_n 0, 1) := by decide +kernel
theorem dX11_count_81 : decode cX11_count 81 = .ok (.getfield 58, 3) := by decide +kernel
theorem dX11_count_84 : decode cX11_count 84 = .ok (.getfield 374, 3) := by decide +kernel
theorem dX11_count_87 : decode cX11_count 87 = .ok (.ireturn, 1) := by decide +kernel
theorem dX11_count_88 : decode cX11_count 88 = .ok (.aload_n 0, 1) := by decide +kernel
theorem dX11_count_89 : decode cX11_count 89 = .ok (.getfield 58, 3) := by decide +kernel
theorem dX11_count_92 : decode cX11_count 92 = .ok (.getfield 266, 3) := by decide +kernel
theorem dX11_count_95 : decode cX11_count 95 = .ok (.ireturn, 1) := by decide +kernel
theorem dX11_count_96 : decode cX11_count 96 = .ok (.aload_n 0, 1) := by decide +kernel
theorem dX11_count_97 : decode cX11_count 97 = .ok (.getfield 58, 3) := by decide +kernel
theorem dX11_count_100 : decode cX11_count 100 = .ok (.getfield 285, 3) := by decide +kernel
theorem dX11_count_103 : decode cX11_count 103 = .ok (.ireturn, 1) := by decide +kernel
theorem dX11_count_104 : decode cX11_count 104 = .ok (.aload_n 0, 1) := by decide +kernel
theorem dX11_count_105 : decode cX11_count 105 = .ok (.getfield 38, 3) := by decide +kernel
theorem dX11_count_108 : decode cX11_count 108 = .ok (.getfield 353, 3) := by decide +kernel
theorem dX11_count_111 : decode cX11_count 111 = .ok (.iconst 0, 1) := by decide +kernel
theorem dX11_count_112 : decode cX11_count 112 = .ok (.iaload, 1) := by decide +kernel
theorem dX11_count_113 : decode cX11_count 113 = .ok (.ireturn, 1) := by decide +kernel
theorem dX11_count_114 : decode cX11_count 114 = .ok (.aload_n 0, 1) := by decide +kernel
theorem dX11_count_115 : decode cX11_count 115 = .ok (.getfield 38, 3) := by decide +kernel
theorem dX11_count_118 : decode cX11_count 118 = .ok (.getfield 353, 3) := by decide +kernel
theorem dX11_count_121 : decode cX11_count 121 = .ok (.iconst 1, 1) := by decide +kernel
theorem dX11_count_122 : decode cX11_count 122 = .ok (.iaload, 1) := by decide +kernel
theorem dX11_count_123 : decode cX11_count 123 = .ok (.ireturn, 1) := by decide +kernel
theorem dX11_count_124 : decode cX11_count 124 = .ok (.aload_n 0, 1) := by decide +kernel
theorem dX11_count_125 : decode cX11_count 125 = .ok (.getfield 38, 3) := by decide +kernel
theorem dX11_count_128 : decode cX11_count 128 = .ok (.getfield 353, 3) := by decide +kernel
theorem dX11_count_131 : decode cX11_count 131 = .ok (.iconst 2, 1) := by decide +kernel
theorem dX11_count_132 : decode cX11_count 132 = .ok (.iaload, 1) := by decide +kernel
theorem dX11_count_133 : decode cX11_count 133 = .ok (.ireturn, 1) := by decide +kernel
theorem dX11_count_134 : decode cX11_count 134 = .ok (.aload_n 0, 1) := by decide +kernel
theorem dX11_count_135 : decode cX11_count 135 = .ok (.getfield 38, 3) := by decide +kernel
theorem dX11_count_138 : decode cX11_count 138 = .ok (.getfield 338, 3) := by decide +kernel
theorem dX11_count_141 : decode cX11_count 141 = .ok (.ireturn, 1) := by decide +kernel
theorem dX11_count_142 : decode cX11_count 142 = .ok (.aload_n 0, 1) := by decide +kernel
theorem dX11_count_143 : decode cX11_count 143 = .ok (.getfield 38, 3) := by decide +kernel
theorem dX11_count_146 : decode cX11_count 146 = .ok (.getfield 377, 3) := by decide +kernel
theorem dX11_count_149 : decode cX11_count 149 = .ok (.invokestatic 380, 3) := by decide +kernel
theorem dX11_count_152 : decode cX11_count 152 = .ok (.ireturn, 1) := by decide +kernel
theorem dX11_count_153 : decode cX11_count 153 = .ok (.aload_n 0, 1) := by decide +kernel
theorem dX11_count_154 : decode cX11_count 154 = .ok (.getfield 24, 3) := by decide +kernel
theorem dX11_count_157 : decode cX11_count 157 = .ok (.getfield 360, 3) := by decide +kernel
theorem dX11_count_160 : decode cX11_count 160 = .ok (.ireturn, 1) := by decide +kernel
theorem dX11_count_161 : decode cX11_count 161 = .ok (.aload_n 0, 1) := by decide +kernel
theorem dX11_count_162 : decode cX11_count 162 = .ok (.getfield 20, 3) := by decide +kernel
theorem dX11_count_165 : decode cX11_count 165 = .ok (.getfield 66, 3) := by decide +kernel
theorem dX11_count_168 : decode cX11_count 168 = .ok (.ireturn, 1) := by decide +kernel
theorem dX11_count_169 : decode cX11_count 169 = .ok (.iconst (-1), 1) := by decide +kernel
theorem dX11_count_170 : decode cX11_count 170 = .ok (.ireturn, 1) := by decide +kernel
theorem dX11_isPerson_0 : decode cX11_isPerson 0 = .ok (.iload_n 1, 1) := by decide +kernel
theorem dX11_isPerson_1 : decode cX11_isPerson 1 = .ok (.ifCond .lt 18, 3) := by decide +kernel
theorem dX11_isPerson_4 : decode cX11_isPerson 4 = .ok (.iload_n 1, 1) := by decide +kernel
theorem dX11_isPerson_5 : decode cX11_isPerson 5 = .ok (.aload_n 0, 1) := by decide +kernel
theorem dX11_isPerson_6 : decode cX11_isPerson 6 = .ok (.getfield 58, 3) := by decide +kernel
theorem dX11_isPerson_9 : decode cX11_isPerson 9 = .ok (.getfield 371, 3) := by decide +kernel
theorem dX11_isPerson_12 : decode cX11_isPerson 12 = .ok (.if_icmp .ge 7, 3) := by decide +kernel
theorem dX11_isPerson_15 : decode cX11_isPerson 15 = .ok (.iconst 1, 1) := by decide +kernel
theorem dX11_isPerson_16 : decode cX11_isPerson 16 = .ok (.goto 4, 3) := by decide +kernel
theorem dX11_isPerson_19 : decode cX11_isPerson 19 = .ok (.iconst 0, 1) := by decide +kernel
theorem dX11_isPerson_20 : decode cX11_isPerson 20 = .ok (.ireturn, 1) := by decide +kernel
theorem dX11_isAccount_0 : decode cX11_isAccount 0 = .ok (.iload_n 1, 1) := by decide +kernel
theorem dX11_isAccount_1 : decode cX11_isAccount 1 = .ok (.ifCond .lt 18, 3) := by decide +kernel
theorem dX11_isAccount_4 : decode cX11_isAccount 4 = .ok (.iload_n 1, 1) := by decide +kernel
theorem dX11_isAccount_5 : decode cX11_isAccount 5 = .ok (.aload_n 0, 1) := by decide +kernel
theorem dX11_isAccount_6 : decode cX11_isAccount 6 = .ok (.getfield 58, 3) := by decide +kernel
theorem dX11_isAccount_9 : decode cX11_isAccount 9 = .ok (.getfield 374, 3) := by decide +kernel
theorem dX11_isAccount_12 : decode cX11_isAccount 12 = .ok (.if_icmp .ge 7, 3) := by decide +kernel
theorem dX11_isAccount_15 : decode cX11_isAccount 15 = .ok (.iconst 1, 1) := by decide +kernel
theorem dX11_isAccount_16 : decode cX11_isAccount 16 = .ok (.goto 4, 3) := by decide +kernel
theorem dX11_isAccount_19 : decode cX11_isAccount 19 = .ok (.iconst 0, 1) := by decide +kernel
theorem dX11_isAccount_20 : decode cX11_isAccount 20 = .ok (.ireturn, 1) := by decide +kernel
theorem dX11_isDepositor_0 : decode cX11_isDepositor 0 = .ok (.iload_n 1, 1) := by decide +kernel
theorem dX11_isDepositor_1 : decode cX11_isDepositor 1 = .ok (.ifCond .lt 21, 3) := by decide +kernel
theorem dX11_isDepositor_4 : decode cX11_isDepositor 4 = .ok (.iload_n 1, 1) := by decide +kernel
theorem dX11_isDepositor_5 : decode cX11_isDepositor 5 = .ok (.aload_n 0, 1) := by decide +kernel
theorem dX11_isDepositor_6 : decode cX11_isDepositor 6 = .ok (.getfield 45, 3) := by decide +kernel
theorem dX11_isDepositor_9 : decode cX11_isDepositor 9 = .ok (.getfield 114, 3) := by decide +kernel
theorem dX11_isDepositor_12 : decode cX11_isDepositor 12 = .ok (.getfield 230, 3) := by decide +kernel
theorem dX11_isDepositor_15 : decode cX11_isDepositor 15 = .ok (.if_icmp .ge 7, 3) := by decide +kernel
theorem dX11_isDepositor_18 : decode cX11_isDepositor 18 = .ok (.iconst 1, 1) := by decide +kernel
theorem dX11_isDepositor_19 : decode cX11_isDepositor 19 = .ok (.goto 4, 3) := by decide +kernel
theorem dX11_isDepositor_22 : decode cX11_isDepositor 22 = .ok (.iconst 0, 1) := by decide +kernel
theorem dX11_isDepositor_23 : decode cX11_isDepositor 23 = .ok (.ireturn, 1) := by decide +kernel
theorem dX11_frozenBalances_0 : decode cX11_frozenBalances 0 = .ok (.lconst 0, 1) := by decide +kernel
theorem dX11_frozenBalances_1 : decode cX11_frozenBalances 1 = .ok (.lstore_n 1, 1) := by decide +kernel
theorem dX11_frozenBalances_2 : decode cX11_frozenBalances 2 = .ok (.iconst 0, 1) := by decide +kernel
theorem dX11_frozenBalances_3 : decode cX11_frozenBalances 3 = .ok (.istore_n 3, 1) := by decide +kernel
theorem dX11_frozenBalances_4 : decode cX11_frozenBalances 4 = .ok (.iload_n 3, 1) := by decide +kernel
theorem dX11_frozenBalances_5 : decode cX11_frozenBalances 5 = .ok (.aload_n 0, 1) := by decide +kernel
theorem dX11_frozenBalances_6 : decode cX11_frozenBalances 6 = .ok (.getfield 58, 3) := by decide +kernel
theorem dX11_frozenBalances_9 : decode cX11_frozenBalances 9 = .ok (.getfield 374, 3) := by decide +kernel
theorem dX11_frozenBalances_12 : decode cX11_frozenBalances 12 = .ok (.if_icmp .ge 37, 3) := by decide +kernel
theorem dX11_frozenBalances_15 : decode cX11_frozenBalances 15 = .ok (.aload_n 0, 1) := by decide +kernel
theorem dX11_frozenBalances_16 : decode cX11_frozenBalances 16 = .ok (.getfield 58, 3) := by decide +kernel
theorem dX11_frozenBalances_19 : decode cX11_frozenBalances 19 = .ok (.getfield 150, 3) := by decide +kernel
theorem dX11_frozenBalances_22 : decode cX11_frozenBalances 22 = .ok (.iload_n 3, 1) := by decide +kernel
theorem dX11_frozenBalances_23 : decode cX11_frozenBalances 23 = .ok (.aaload, 1) := by decide +kernel
theorem dX11_frozenBalances_24 : decode cX11_frozenBalances 24 = .ok (.getfield 141, 3) := by decide +kernel
theorem dX11_frozenBalances_27 : decode cX11_frozenBalances 27 = .ok (.ifCond .eq 16, 3) := by decide +kernel
theorem dX11_frozenBalances_30 : decode cX11_frozenBalances 30 = .ok (.lload_n 1, 1) := by decide +kernel
theorem dX11_frozenBalances_31 : decode cX11_frozenBalances 31 = .ok (.aload_n 0, 1) := by decide +kernel
theorem dX11_frozenBalances_32 : decode cX11_frozenBalances 32 = .ok (.getfield 38, 3) := by decide +kernel
theorem dX11_frozenBalances_35 : decode cX11_frozenBalances 35 = .ok (.getfield 153, 3) := by decide +kernel
theorem dX11_frozenBalances_38 : decode cX11_frozenBalances 38 = .ok (.iload_n 3, 1) := by decide +kernel
theorem dX11_frozenBalances_39 : decode cX11_frozenBalances 39 = .ok (.iaload, 1) := by decide +kernel
theorem dX11_frozenBalances_40 : decode cX11_frozenBalances 40 = .ok (.i2l, 1) := by decide +kernel
theorem dX11_frozenBalances_41 : decode cX11_frozenBalances 41 = .ok (.ladd, 1) := by decide +kernel
theorem dX11_frozenBalances_42 : decode cX11_frozenBalances 42 = .ok (.lstore_n 1, 1) := by decide +kernel
theorem dX11_frozenBalances_43 : decode cX11_frozenBalances 43 = .ok (.iinc 3 1, 3) := by decide +kernel
theorem dX11_frozenBalances_46 : decode cX11_frozenBalances 46 = .ok (.goto (-42), 3) := by decide +kernel
theorem dX11_frozenBalances_49 : decode cX11_frozenBalances 49 = .ok (.lload_n 1, 1) := by decide +kernel
theorem dX11_frozenBalances_50 : decode cX11_frozenBalances 50 = .ok (.lreturn, 1) := by decide +kernel
theorem dX11_feed_0 : decode cX11_feed 0 = .ok (.aload_n 0, 1) := by decide +kernel
theorem dX11_feed_1 : decode cX11_feed 1 = .ok (.getfield 20, 3) := by decide +kernel
theorem dX11_feed_4 : decode cX11_feed 4 = .ok (.getfield 66, 3) := by decide +kernel
theorem dX11_feed_7 : decode cX11_feed 7 = .ok (.bipush 20, 2) := by decide +kernel
theorem dX11_feed_9 : decode cX11_feed 9 = .ok (.iadd, 1) := by decide +kernel
theorem dX11_feed_10 : decode cX11_feed 10 = .ok (.sipush 1000, 3) := by decide +kernel
theorem dX11_feed_13 : decode cX11_feed 13 = .ok (.if_icmp .le 5, 3) := by decide +kernel
theorem dX11_feed_16 : decode cX11_feed 16 = .ok (.iconst (-1), 1) := by decide +kernel
theorem dX11_feed_17 : decode cX11_feed 17 = .ok (.ireturn, 1) := by decide +kernel
theorem dX11_feed_18 : decode cX11_feed 18 = .ok (.aload_n 0, 1) := by decide +kernel
theorem dX11_feed_19 : decode cX11_feed 19 = .ok (.getfield 20, 3) := by decide +kernel
theorem dX11_feed_22 : decode cX11_feed 22 = .ok (.iload_n 1, 1) := by decide +kernel
theorem dX11_feed_23 : decode cX11_feed 23 = .ok (.invokevirtual 72, 3) := by decide +kernel
theorem dX11_feed_26 : decode cX11_feed 26 = .ok (.aload_n 0, 1) := by decide +kernel
theorem dX11_feed_27 : decode cX11_feed 27 = .ok (.getfield 20, 3) := by decide +kernel
theorem dX11_feed_30 : decode cX11_feed 30 = .ok (.iload_n 2, 1) := by decide +kernel
theorem dX11_feed_31 : decode cX11_feed 31 = .ok (.invokevirtual 72, 3) := by decide +kernel
theorem dX11_feed_34 : decode cX11_feed 34 = .ok (.aload_n 0, 1) := by decide +kernel
theorem dX11_feed_35 : decode cX11_feed 35 = .ok (.getfield 20, 3) := by decide +kernel
theorem dX11_feed_38 : decode cX11_feed 38 = .ok (.iload_n 3, 1) := by decide +kernel
theorem dX11_feed_39 : decode cX11_feed 39 = .ok (.invokevirtual 72, 3) := by decide +kernel
theorem dX11_feed_42 : decode cX11_feed 42 = .ok (.aload_n 0, 1) := by decide +kernel
theorem dX11_feed_43 : decode cX11_feed 43 = .ok (.getfield 20, 3) := by decide +kernel
theorem dX11_feed_46 : decode cX11_feed 46 = .ok (.iload 4, 2) := by decide +kernel
theorem dX11_feed_48 : decode cX11_feed 48 = .ok (.invokevirtual 72, 3) := by decide +kernel
theorem dX11_feed_51 : decode cX11_feed 51 = .ok (.aload_n 0, 1) := by decide +kernel
theorem dX11_feed_52 : decode cX11_feed 52 = .ok (.getfield 20, 3) := by decide +kernel
theorem dX11_feed_55 : decode cX11_feed 55 = .ok (.iload 5, 2) := by decide +kernel
theorem dX11_feed_57 : decode cX11_feed 57 = .ok (.invokevirtual 72, 3) := by decide +kernel
theorem dX11_feed_60 : decode cX11_feed 60 = .ok (.aload_n 0, 1) := by decide +kernel
theorem dX11_feed_61 : decode cX11_feed 61 = .ok (.getfield 20, 3) := by decide +kernel
theorem dX11_feed_64 : decode cX11_feed 64 = .ok (.getfield 66, 3) := by decide +kernel
theorem dX11_feed_67 : decode cX11_feed 67 = .ok (.ireturn, 1) := by decide +kernel
theorem dX11_person_0 : decode cX11_person 0 = .ok (.aload_n 0, 1) := by decide +kernel
theorem dX11_person_1 : decode cX11_person 1 = .ok (.iload_n 1, 1) := by decide +kernel
theorem dX11_person_2 : decode cX11_person 2 = .ok (.invokevirtual 94, 3) := by decide +kernel
theorem dX11_person_5 : decode cX11_person 5 = .ok (.ifCond .ne 5, 3) := by decide +kernel
theorem dX11_person_8 : decode cX11_person 8 = .ok (.iconst (-1), 1) := by decide +kernel
theorem dX11_person_9 : decode cX11_person 9 = .ok (.ireturn, 1) := by decide +kernel
theorem dX11_person_10 : decode cX11_person 10 = .ok (.aload_n 0, 1) := by decide +kernel
theorem dX11_person_11 : decode cX11_person 11 = .ok (.getfield 58, 3) := by decide +kernel
theorem dX11_person_14 : decode cX11_person 14 = .ok (.getfield 98, 3) := by decide +kernel
theorem dX11_person_17 : decode cX11_person 17 = .ok (.iload_n 1, 1) := by decide +kernel
theorem dX11_person_18 : decode cX11_person 18 = .ok (.aaload, 1) := by decide +kernel
theorem dX11_person_19 : decode cX11_person 19 = .ok (.astore_n 3, 1) := by decide +kernel
theorem dX11_person_20 : decode cX11_person 20 = .ok (.iload_n 2, 1) := by decide +kernel
theorem dX11_person_21 : decode cX11_person 21 = .ok (.tableswitch 100 0 6 #[43, 48, 48, 48, 69, 82, 95], 43) := by decide +kernel
theorem dX11_person_64 : decode cX11_person 64 = .ok (.aload_n 3, 1) := by decide +kernel
theorem dX11_person_65 : decode cX11_person 65 = .ok (.getfield 102, 3) := by decide +kernel
theorem dX11_person_68 : decode cX11_person 68 = .ok (.ireturn, 1) := by decide +kernel
theorem dX11_person_69 : decode cX11_person 69 = .ok (.iload_n 2, 1) := by decide +kernel
theorem dX11_person_70 : decode cX11_person 70 = .ok (.aload_n 3, 1) := by decide +kernel
theorem dX11_person_71 : decode cX11_person 71 = .ok (.getfield 102, 3) := by decide +kernel
theorem dX11_person_74 : decode cX11_person 74 = .ok (.if_icmp .gt 14, 3) := by decide +kernel
theorem dX11_person_77 : decode cX11_person 77 = .ok (.aload_n 3, 1) := by decide +kernel
theorem dX11_person_78 : decode cX11_person 78 = .ok (.getfield 107, 3) := by decide +kernel
theorem dX11_person_81 : decode cX11_person 81 = .ok (.iload_n 2, 1) := by decide +kernel
theorem dX11_person_82 : decode cX11_person 82 = .ok (.iconst 1, 1) := by decide +kernel
theorem dX11_person_83 : decode cX11_person 83 = .ok (.isub, 1) := by decide +kernel
theorem dX11_person_84 : decode cX11_person 84 = .ok (.iaload, 1) := by decide +kernel
theorem dX11_person_85 : decode cX11_person 85 = .ok (.goto 4, 3) := by decide +kernel
theorem dX11_person_88 : decode cX11_person 88 = .ok (.iconst 0, 1) := by decide +kernel
theorem dX11_person_89 : decode cX11_person 89 = .ok (.ireturn, 1) := by decide +kernel
theorem dX11_person_90 : decode cX11_person 90 = .ok (.aload_n 3, 1) := by decide +kernel
theorem dX11_person_91 : decode cX11_person 91 = .ok (.getfield 111, 3) := by decide +kernel
theorem dX11_person_94 : decode cX11_person 94 = .ok (.ifCond .eq 7, 3) := by decide +kernel
theorem dX11_person_97 : decode cX11_person 97 = .ok (.iconst 1, 1) := by decide +kernel
theorem dX11_person_98 : decode cX11_person 98 = .ok (.goto 4, 3) := by decide +kernel
theorem dX11_person_101 : decode cX11_person 101 = .ok (.iconst 0, 1) := by decide +kernel
theorem dX11_person_102 : decode cX11_person 102 = .ok (.ireturn, 1) := by decide +kernel
theorem dX11_person_103 : decode cX11_person 103 = .ok (.aload_n 0, 1) := by decide +kernel
theorem dX11_person_104 : decode cX11_person 104 = .ok (.getfield 45, 3) := by decide +kernel
theorem dX11_person_107 : decode cX11_person 107 = .ok (.getfield 114, 3) := by decide +kernel
theorem dX11_person_110 : decode cX11_person 110 = .ok (.getfield 118, 3) := by decide +kernel
theorem dX11_person_113 : decode cX11_person 113 = .ok (.iload_n 1, 1) := by decide +kernel
theorem dX11_person_114 : decode cX11_person 114 = .ok (.iaload, 1) := by decide +kernel
theorem dX11_person_115 : decode cX11_person 115 = .ok (.ireturn, 1) := by decide +kernel
theorem dX11_person_116 : decode cX11_person 116 = .ok (.aload_n 3, 1) := by decide +kernel
theorem dX11_person_117 : decode cX11_person 117 = .ok (.getfield 123, 3) := by decide +kernel
theorem dX11_person_120 : decode cX11_person 120 = .ok (.ireturn, 1) := by decide +kernel
theorem dX11_person_121 : decode cX11_person 121 = .ok (.iconst (-1), 1) := by decide +kernel
theorem dX11_person_122 : decode cX11_person 122 = .ok (.ireturn, 1) := by decide +kernel
theorem dX11_account_0 : decode cX11_account 0 = .ok (.aload_n 0, 1) := by decide +kernel
theorem dX11_account_1 : decode cX11_account 1 = .ok (.iload_n 1, 1) := by decide +kernel
theorem dX11_account_2 : decode cX11_account 2 = .ok (.invokevirtual 147, 3) := by decide +kernel
theorem dX11_account_5 : decode cX11_account 5 = .ok (.ifCond .ne 5, 3) := by decide +kernel
theorem dX11_account_8 : decode cX11_account 8 = .ok (.iconst (-1), 1) := by decide +kernel
theorem dX11_account_9 : decode cX11_account 9 = .ok (.ireturn, 1) := by decide +kernel
theorem dX11_account_10 : decode cX11_account 10 = .ok (.aload_n 0, 1) := by decide +kernel
theorem dX11_account_11 : decode cX11_account 11 = .ok (.getfield 58, 3) := by decide +kernel
theorem dX11_account_14 : decode cX11_account 14 = .ok (.getfield 150, 3) := by decide +kernel
theorem dX11_account_17 : decode cX11_account 17 = .ok (.iload_n 1, 1) := by decide +kernel
theorem dX11_account_18 : decode cX11_account 18 = .ok (.aaload, 1) := by decide +kernel
theorem dX11_account_19 : decode cX11_account 19 = .ok (.astore_n 3, 1) := by decide +kernel
theorem dX11_account_20 : decode cX11_account 20 = .ok (.iload_n 2, 1) := by decide +kernel
theorem dX11_account_21 : decode cX11_account 21 = .ok (.tableswitch 64 0 3 #[31, 41, 46, 59], 31) := by decide +kernel
theorem dX11_account_52 : decode cX11_account 52 = .ok (.aload_n 0, 1) := by decide +kernel
theorem dX11_account_53 : decode cX11_account 53 = .ok (.getfield 38, 3) := by decide +kernel
theorem dX11_account_56 : decode cX11_account 56 = .ok (.getfield 153, 3) := by decide +kernel
theorem dX11_account_59 : decode cX11_account 59 = .ok (.iload_n 1, 1) := by decide +kernel
theorem dX11_account_60 : decode cX11_account 60 = .ok (.iaload, 1) := by decide +kernel
theorem dX11_account_61 : decode cX11_account 61 = .ok (.ireturn, 1) := by decide +kernel
theorem dX11_account_62 : decode cX11_account 62 = .ok (.aload_n 3, 1) := by decide +kernel
theorem dX11_account_63 : decode cX11_account 63 = .ok (.getfield 133, 3) := by decide +kernel
theorem dX11_account_66 : decode cX11_account 66 = .ok (.ireturn, 1) := by decide +kernel
theorem dX11_account_67 : decode cX11_account 67 = .ok (.aload_n 3, 1) := by decide +kernel
theorem dX11_account_68 : decode cX11_account 68 = .ok (.getfield 141, 3) := by decide +kernel
theorem dX11_account_71 : decode cX11_account 71 = .ok (.ifCond .eq 7, 3) := by decide +kernel
theorem dX11_account_74 : decode cX11_account 74 = .ok (.iconst 1, 1) := by decide +kernel
theorem dX11_account_75 : decode cX11_account 75 = .ok (.goto 4, 3) := by decide +kernel
theorem dX11_account_78 : decode cX11_account 78 = .ok (.iconst 0, 1) := by decide +kernel
theorem dX11_account_79 : decode cX11_account 79 = .ok (.ireturn, 1) := by decide +kernel
theorem dX11_account_80 : decode cX11_account 80 = .ok (.aload_n 3, 1) := by decide +kernel
theorem dX11_account_81 : decode cX11_account 81 = .ok (.invokevirtual 156, 3) := by decide +kernel
theorem dX11_account_84 : decode cX11_account 84 = .ok (.ireturn, 1) := by decide +kernel
theorem dX11_account_85 : decode cX11_account 85 = .ok (.iconst (-1), 1) := by decide +kernel
theorem dX11_account_86 : decode cX11_account 86 = .ok (.ireturn, 1) := by decide +kernel
theorem dX11_who_0 : decode cX11_who 0 = .ok (.aload_n 0, 1) := by decide +kernel
theorem dX11_who_1 : decode cX11_who 1 = .ok (.iload_n 1, 1) := by decide +kernel
theorem dX11_who_2 : decode cX11_who 2 = .ok (.invokevirtual 171, 3) := by decide +kernel
theorem dX11_who_5 : decode cX11_who 5 = .ok (.ifCond .eq 18, 3) := by decide +kernel
theorem dX11_who_8 : decode cX11_who 8 = .ok (.aload_n 0, 1) := by decide +kernel
theorem dX11_who_9 : decode cX11_who 9 = .ok (.getfield 45, 3) := by decide +kernel
theorem dX11_who_12 : decode cX11_who 12 = .ok (.getfield 114, 3) := by decide +kernel
theorem dX11_who_15 : decode cX11_who 15 = .ok (.getfield 174, 3) := by decide +kernel
theorem dX11_who_18 : decode cX11_who 18 = .ok (.iload_n 1, 1) := by decide +kernel
theorem dX11_who_19 : decode cX11_who 19 = .ok (.iaload, 1) := by decide +kernel
theorem dX11_who_20 : decode cX11_who 20 = .ok (.goto 4, 3) := by decide +kernel
theorem dX11_who_23 : decode cX11_who 23 = .ok (.iconst (-1), 1) := by decide +kernel
theorem dX11_who_24 : decode cX11_who 24 = .ok (.ireturn, 1) := by decide +kernel
theorem dX11_ways_0 : decode cX11_ways 0 = .ok (.aload_n 0, 1) := by decide +kernel
theorem dX11_ways_1 : decode cX11_ways 1 = .ok (.iload_n 1, 1) := by decide +kernel
theorem dX11_ways_2 : decode cX11_ways 2 = .ok (.invokevirtual 147, 3) := by decide +kernel
theorem dX11_ways_5 : decode cX11_ways 5 = .ok (.ifCond .eq 28, 3) := by decide +kernel
theorem dX11_ways_8 : decode cX11_ways 8 = .ok (.aload_n 0, 1) := by decide +kernel
theorem dX11_ways_9 : decode cX11_ways 9 = .ok (.iload_n 2, 1) := by decide +kernel
theorem dX11_ways_10 : decode cX11_ways 10 = .ok (.invokevirtual 94, 3) := by decide +kernel
theorem dX11_ways_13 : decode cX11_ways 13 = .ok (.ifCond .eq 20, 3) := by decide +kernel
theorem dX11_ways_16 : decode cX11_ways 16 = .ok (.aload_n 0, 1) := by decide +kernel
theorem dX11_ways_17 : decode cX11_ways 17 = .ok (.getfield 58, 3) := by decide +kernel
theorem dX11_ways_20 : decode cX11_ways 20 = .ok (.getfield 150, 3) := by decide +kernel
theorem dX11_ways_23 : decode cX11_ways 23 = .ok (.iload_n 1, 1) := by decide +kernel
theorem dX11_ways_24 : decode cX11_ways 24 = .ok (.aaload, 1) := by decide +kernel
theorem dX11_ways_25 : decode cX11_ways 25 = .ok (.getfield 331, 3) := by decide +kernel
theorem dX11_ways_28 : decode cX11_ways 28 = .ok (.iload_n 2, 1) := by decide +kernel
theorem dX11_ways_29 : decode cX11_ways 29 = .ok (.iaload, 1) := by decide +kernel
theorem dX11_ways_30 : decode cX11_ways 30 = .ok (.goto 4, 3) := by decide +kernel
theorem dX11_ways_33 : decode cX11_ways 33 = .ok (.iconst (-1), 1) := by decide +kernel
theorem dX11_ways_34 : decode cX11_ways 34 = .ok (.ireturn, 1) := by decide +kernel
theorem dX11_areTwo_0 : decode cX11_areTwo 0 = .ok (.aload_n 0, 1) := by decide +kernel
theorem dX11_areTwo_1 : decode cX11_areTwo 1 = .ok (.iload_n 1, 1) := by decide +kernel
theorem dX11_areTwo_2 : decode cX11_areTwo 2 = .ok (.invokevirtual 94, 3) := by decide +kernel
theorem dX11_areTwo_5 : decode cX11_areTwo 5 = .ok (.ifCond .eq 20, 3) := by decide +kernel
theorem dX11_areTwo_8 : decode cX11_areTwo 8 = .ok (.aload_n 0, 1) := by decide +kernel
theorem dX11_areTwo_9 : decode cX11_areTwo 9 = .ok (.iload_n 2, 1) := by decide +kernel
theorem dX11_areTwo_10 : decode cX11_areTwo 10 = .ok (.invokevirtual 94, 3) := by decide +kernel
theorem dX11_areTwo_13 : decode cX11_areTwo 13 = .ok (.ifCond .eq 12, 3) := by decide +kernel
theorem dX11_areTwo_16 : decode cX11_areTwo 16 = .ok (.iload_n 1, 1) := by decide +kernel
theorem dX11_areTwo_17 : decode cX11_areTwo 17 = .ok (.iload_n 2, 1) := by decide +kernel
theorem dX11_areTwo_18 : decode cX11_areTwo 18 = .ok (.if_icmp .eq 7, 3) := by decide +kernel
theorem dX11_areTwo_21 : decode cX11_areTwo 21 = .ok (.iconst 1, 1) := by decide +kernel
theorem dX11_areTwo_22 : decode cX11_areTwo 22 = .ok (.goto 4, 3) := by decide +kernel
theorem dX11_areTwo_25 : decode cX11_areTwo 25 = .ok (.iconst 0, 1) := by decide +kernel
theorem dX11_areTwo_26 : decode cX11_areTwo 26 = .ok (.ireturn, 1) := by decide +kernel
theorem dX11_view_0 : decode cX11_view 0 = .ok (.aload_n 0, 1) := by decide +kernel
theorem dX11_view_1 : decode cX11_view 1 = .ok (.iload_n 1, 1) := by decide +kernel
theorem dX11_view_2 : decode cX11_view 2 = .ok (.invokevirtual 171, 3) := by decide +kernel
theorem dX11_view_5 : decode cX11_view 5 = .ok (.ifCond .ne 7, 3) := by decide +kernel
theorem dX11_view_8 : decode cX11_view 8 = .ok (.ldc2_w 177, 3) := by decide +kernel
theorem dX11_view_11 : decode cX11_view 11 = .ok (.lreturn, 1) := by decide +kernel
theorem dX11_view_12 : decode cX11_view 12 = .ok (.iload_n 2, 1) := by decide +kernel
theorem dX11_view_13 : decode cX11_view 13 = .ok (.tableswitch 151 0 8 #[51, 61, 71, 80, 89, 99, 115, 124, 133], 51) := by decide +kernel
theorem dX11_view_64 : decode cX11_view 64 = .ok (.aload_n 0, 1) := by decide +kernel
theorem dX11_view_65 : decode cX11_view 65 = .ok (.getfield 45, 3) := by decide +kernel
theorem dX11_view_68 : decode cX11_view 68 = .ok (.getfield 179, 3) := by decide +kernel
theorem dX11_view_71 : decode cX11_view 71 = .ok (.iload_n 1, 1) := by decide +kernel
theorem dX11_view_72 : decode cX11_view 72 = .ok (.laload, 1) := by decide +kernel
theorem dX11_view_73 : decode cX11_view 73 = .ok (.lreturn, 1) := by decide +kernel
theorem dX11_view_74 : decode cX11_view 74 = .ok (.aload_n 0, 1) := by decide +kernel
theorem dX11_view_75 : decode cX11_view 75 = .ok (.getfield 45, 3) := by decide +kernel
theorem dX11_view_78 : decode cX11_view 78 = .ok (.getfield 183, 3) := by decide +kernel
theorem dX11_view_81 : decode cX11_view 81 = .ok (.iload_n 1, 1) := by decide +kernel
theorem dX11_view_82 : decode cX11_view 82 = .ok (.laload, 1) := by decide +kernel
theorem dX11_view_83 : decode cX11_view 83 = .ok (.lreturn, 1) := by decide +kernel
theorem dX11_view_84 : decode cX11_view 84 = .ok (.aload_n 0, 1) := by decide +kernel
theorem dX11_view_85 : decode cX11_view 85 = .ok (.getfield 45, 3) := by decide +kernel
theorem dX11_view_88 : decode cX11_view 88 = .ok (.iload_n 1, 1) := by decide +kernel
theorem dX11_view_89 : decode cX11_view 89 = .ok (.invokevirtual 186, 3) := by decide +kernel
theorem dX11_view_92 : decode cX11_view 92 = .ok (.lreturn, 1) := by decide +kernel
theorem dX11_view_93 : decode cX11_view 93 = .ok (.aload_n 0, 1) := by decide +kernel
theorem dX11_view_94 : decode cX11_view 94 = .ok (.getfield 45, 3) := by decide +kernel
theorem dX11_view_97 : decode cX11_view 97 = .ok (.iload_n 1, 1) := by decide +kernel
theorem dX11_view_98 : decode cX11_view 98 = .ok (.invokevirtual 190, 3) := by decide +kernel
theorem dX11_view_101 : decode cX11_view 101 = .ok (.lreturn, 1) := by decide +kernel
theorem dX11_view_102 : decode cX11_view 102 = .ok (.aload_n 0, 1) := by decide +kernel
theorem dX11_view_103 : decode cX11_view 103 = .ok (.getfield 45, 3) := by decide +kernel
theorem dX11_view_106 : decode cX11_view 106 = .ok (.getfield 193, 3) := by decide +kernel
theorem dX11_view_109 : decode cX11_view 109 = .ok (.iload_n 1, 1) := by decide +kernel
theorem dX11_view_110 : decode cX11_view 110 = .ok (.laload, 1) := by decide +kernel
theorem dX11_view_111 : decode cX11_view 111 = .ok (.lreturn, 1) := by decide +kernel
theorem dX11_view_112 : decode cX11_view 112 = .ok (.aload_n 0, 1) := by decide +kernel
theorem dX11_view_113 : decode cX11_view 113 = .ok (.getfield 45, 3) := by decide +kernel
theorem dX11_view_116 : decode cX11_view 116 = .ok (.iload_n 1, 1) := by decide +kernel
theorem dX11_view_117 : decode cX11_view 117 = .ok (.aload_n 0, 1) := by decide +kernel
theorem dX11_view_118 : decode cX11_view 118 = .ok (.getfield 45, 3) := by decide +kernel
theorem dX11_view_121 : decode cX11_view 121 = .ok (.getfield 196, 3) := by decide +kernel
theorem dX11_view_124 : decode cX11_view 124 = .ok (.invokevirtual 200, 3) := by decide +kernel
theorem dX11_view_127 : decode cX11_view 127 = .ok (.lreturn, 1) := by decide +kernel
theorem dX11_view_128 : decode cX11_view 128 = .ok (.aload_n 0, 1) := by decide +kernel
theorem dX11_view_129 : decode cX11_view 129 = .ok (.getfield 45, 3) := by decide +kernel
theorem dX11_view_132 : decode cX11_view 132 = .ok (.iload_n 1, 1) := by decide +kernel
theorem dX11_view_133 : decode cX11_view 133 = .ok (.invokevirtual 204, 3) := by decide +kernel
theorem dX11_view_136 : decode cX11_view 136 = .ok (.lreturn, 1) := by decide +kernel
theorem dX11_view_137 : decode cX11_view 137 = .ok (.aload_n 0, 1) := by decide +kernel
theorem dX11_view_138 : decode cX11_view 138 = .ok (.getfield 45, 3) := by decide +kernel
theorem dX11_view_141 : decode cX11_view 141 = .ok (.iload_n 1, 1) := by decide +kernel
theorem dX11_view_142 : decode cX11_view 142 = .ok (.invokevirtual 207, 3) := by decide +kernel
theorem dX11_view_145 : decode cX11_view 145 = .ok (.lreturn, 1) := by decide +kernel
theorem dX11_view_146 : decode cX11_view 146 = .ok (.aload_n 0, 1) := by decide +kernel
theorem dX11_view_147 : decode cX11_view 147 = .ok (.getfield 45, 3) := by decide +kernel
theorem dX11_view_150 : decode cX11_view 150 = .ok (.getfield 210, 3) := by decide +kernel
theorem dX11_view_153 : decode cX11_view 153 = .ok (.iload_n 1, 1) := by decide +kernel
theorem dX11_view_154 : decode cX11_view 154 = .ok (.baload, 1) := by decide +kernel
theorem dX11_view_155 : decode cX11_view 155 = .ok (.ifCond .eq 7, 3) := by decide +kernel
theorem dX11_view_158 : decode cX11_view 158 = .ok (.lconst 1, 1) := by decide +kernel
theorem dX11_view_159 : decode cX11_view 159 = .ok (.goto 4, 3) := by decide +kernel
theorem dX11_view_162 : decode cX11_view 162 = .ok (.lconst 0, 1) := by decide +kernel
theorem dX11_view_163 : decode cX11_view 163 = .ok (.lreturn, 1) := by decide +kernel
theorem dX11_view_164 : decode cX11_view 164 = .ok (.ldc2_w 177, 3) := by decide +kernel
theorem dX11_view_167 : decode cX11_view 167 = .ok (.lreturn, 1) := by decide +kernel
theorem dX11_ranked_0 : decode cX11_ranked 0 = .ok (.iconst 0, 1) := by decide +kernel
theorem dX11_ranked_1 : decode cX11_ranked 1 = .ok (.istore_n 2, 1) := by decide +kernel
theorem dX11_ranked_2 : decode cX11_ranked 2 = .ok (.iload_n 2, 1) := by decide +kernel
theorem dX11_ranked_3 : decode cX11_ranked 3 = .ok (.aload_n 0, 1) := by decide +kernel
theorem dX11_ranked_4 : decode cX11_ranked 4 = .ok (.getfield 45, 3) := by decide +kernel
theorem dX11_ranked_7 : decode cX11_ranked 7 = .ok (.getfield 114, 3) := by decide +kernel
theorem dX11_ranked_10 : decode cX11_ranked 10 = .ok (.getfield 230, 3) := by decide +kernel
theorem dX11_ranked_13 : decode cX11_ranked 13 = .ok (.if_icmp .ge 23, 3) := by decide +kernel
theorem dX11_ranked_16 : decode cX11_ranked 16 = .ok (.aload_n 0, 1) := by decide +kernel
theorem dX11_ranked_17 : decode cX11_ranked 17 = .ok (.getfield 45, 3) := by decide +kernel
theorem dX11_ranked_20 : decode cX11_ranked 20 = .ok (.iload_n 2, 1) := by decide +kernel
theorem dX11_ranked_21 : decode cX11_ranked 21 = .ok (.invokevirtual 236, 3) := by decide +kernel
theorem dX11_ranked_24 : decode cX11_ranked 24 = .ok (.iload_n 1, 1) := by decide +kernel
theorem dX11_ranked_25 : decode cX11_ranked 25 = .ok (.if_icmp .ne 5, 3) := by decide +kernel
theorem dX11_ranked_28 : decode cX11_ranked 28 = .ok (.iload_n 2, 1) := by decide +kernel
theorem dX11_ranked_29 : decode cX11_ranked 29 = .ok (.ireturn, 1) := by decide +kernel
theorem dX11_ranked_30 : decode cX11_ranked 30 = .ok (.iinc 2 1, 3) := by decide +kernel
theorem dX11_ranked_33 : decode cX11_ranked 33 = .ok (.goto (-31), 3) := by decide +kernel
theorem dX11_ranked_36 : decode cX11_ranked 36 = .ok (.iconst (-1), 1) := by decide +kernel
theorem dX11_ranked_37 : decode cX11_ranked 37 = .ok (.ireturn, 1) := by decide +kernel
theorem dX11_all_0 : decode cX11_all 0 = .ok (.iload_n 1, 1) := by decide +kernel
theorem dX11_all_1 : decode cX11_all 1 = .ok (.tableswitch 111 0 6 #[43, 51, 59, 67, 85, 90, 102], 43) := by decide +kernel
theorem dX11_all_44 : decode cX11_all 44 = .ok (.aload_n 0, 1) := by decide +kernel
theorem dX11_all_45 : decode cX11_all 45 = .ok (.getfield 45, 3) := by decide +kernel
theorem dX11_all_48 : decode cX11_all 48 = .ok (.invokevirtual 213, 3) := by decide +kernel
theorem dX11_all_51 : decode cX11_all 51 = .ok (.lreturn, 1) := by decide +kernel
theorem dX11_all_52 : decode cX11_all 52 = .ok (.aload_n 0, 1) := by decide +kernel
theorem dX11_all_53 : decode cX11_all 53 = .ok (.getfield 45, 3) := by decide +kernel
theorem dX11_all_56 : decode cX11_all 56 = .ok (.invokevirtual 217, 3) := by decide +kernel
theorem dX11_all_59 : decode cX11_all 59 = .ok (.lreturn, 1) := by decide +kernel
theorem dX11_all_60 : decode cX11_all 60 = .ok (.aload_n 0, 1) := by decide +kernel
theorem dX11_all_61 : decode cX11_all 61 = .ok (.getfield 45, 3) := by decide +kernel
theorem dX11_all_64 : decode cX11_all 64 = .ok (.invokevirtual 220, 3) := by decide +kernel
theorem dX11_all_67 : decode cX11_all 67 = .ok (.lreturn, 1) := by decide +kernel
theorem dX11_all_68 : decode cX11_all 68 = .ok (.aload_n 0, 1) := by decide +kernel
theorem dX11_all_69 : decode cX11_all 69 = .ok (.getfield 45, 3) := by decide +kernel
theorem dX11_all_72 : decode cX11_all 72 = .ok (.iconst 0, 1) := by decide +kernel
theorem dX11_all_73 : decode cX11_all 73 = .ok (.invokevirtual 223, 3) := by decide +kernel
theorem dX11_all_76 : decode cX11_all 76 = .ok (.aload_n 0, 1) := by decide +kernel
theorem dX11_all_77 : decode cX11_all 77 = .ok (.getfield 45, 3) := by decide +kernel
theorem dX11_all_80 : decode cX11_all 80 = .ok (.iconst 1, 1) := by decide +kernel
theorem dX11_all_81 : decode cX11_all 81 = .ok (.invokevirtual 223, 3) := by decide +kernel
theorem dX11_all_84 : decode cX11_all 84 = .ok (.ladd, 1) := by decide +kernel
theorem dX11_all_85 : decode cX11_all 85 = .ok (.lreturn, 1) := by decide +kernel
theorem dX11_all_86 : decode cX11_all 86 = .ok (.aload_n 0, 1) := by decide +kernel
theorem dX11_all_87 : decode cX11_all 87 = .ok (.invokevirtual 227, 3) := by decide +kernel
theorem dX11_all_90 : decode cX11_all 90 = .ok (.lreturn, 1) := by decide +kernel
theorem dX11_all_91 : decode cX11_all 91 = .ok (.aload_n 0, 1) := by decide +kernel
theorem dX11_all_92 : decode cX11_all 92 = .ok (.getfield 45, 3) := by decide +kernel
theorem dX11_all_95 : decode cX11_all 95 = .ok (.getfield 114, 3) := by decide +kernel
theorem dX11_all_98 : decode cX11_all 98 = .ok (.getfield 230, 3) := by decide +kernel
theorem dX11_all_101 : decode cX11_all 101 = .ok (.i2l, 1) := by decide +kernel
theorem dX11_all_102 : decode cX11_all 102 = .ok (.lreturn, 1) := by decide +kernel
theorem dX11_all_103 : decode cX11_all 103 = .ok (.aload_n 0, 1) := by decide +kernel
theorem dX11_all_104 : decode cX11_all 104 = .ok (.getfield 45, 3) := by decide +kernel
theorem dX11_all_107 : decode cX11_all 107 = .ok (.invokevirtual 233, 3) := by decide +kernel
theorem dX11_all_110 : decode cX11_all 110 = .ok (.i2l, 1) := by decide +kernel
theorem dX11_all_111 : decode cX11_all 111 = .ok (.lreturn, 1) := by decide +kernel
theorem dX11_all_112 : decode cX11_all 112 = .ok (.ldc2_w 177, 3) := by decide +kernel
theorem dX11_all_115 : decode cX11_all 115 = .ok (.lreturn, 1) := by decide +kernel
theorem dX11_enough_0 : decode cX11_enough 0 = .ok (.aload_n 0, 1) := by decide +kernel
theorem dX11_enough_1 : decode cX11_enough 1 = .ok (.getfield 45, 3) := by decide +kernel
theorem dX11_enough_4 : decode cX11_enough 4 = .ok (.invokevirtual 220, 3) := by decide +kernel
theorem dX11_enough_7 : decode cX11_enough 7 = .ok (.lstore_n 2, 1) := by decide +kernel
theorem dX11_enough_8 : decode cX11_enough 8 = .ok (.aload_n 0, 1) := by decide +kernel
theorem dX11_enough_9 : decode cX11_enough 9 = .ok (.getfield 45, 3) := by decide +kernel
theorem dX11_enough_12 : decode cX11_enough 12 = .ok (.iconst 0, 1) := by decide +kernel
theorem dX11_enough_13 : decode cX11_enough 13 = .ok (.invokevirtual 223, 3) := by decide +kernel
theorem dX11_enough_16 : decode cX11_enough 16 = .ok (.lstore 4, 2) := by decide +kernel
theorem dX11_enough_18 : decode cX11_enough 18 = .ok (.aload_n 0, 1) := by decide +kernel
theorem dX11_enough_19 : decode cX11_enough 19 = .ok (.getfield 45, 3) := by decide +kernel
theorem dX11_enough_22 : decode cX11_enough 22 = .ok (.iconst 1, 1) := by decide +kernel
theorem dX11_enough_23 : decode cX11_enough 23 = .ok (.invokevirtual 223, 3) := by decide +kernel
theorem dX11_enough_26 : decode cX11_enough 26 = .ok (.lstore 6, 2) := by decide +kernel
theorem dX11_enough_28 : decode cX11_enough 28 = .ok (.iload_n 1, 1) := by decide +kernel
theorem dX11_enough_29 : decode cX11_enough 29 = .ok (.tableswitch 64 0 2 #[27, 29, 45], 27) := by decide +kernel
theorem dX11_enough_56 : decode cX11_enough 56 = .ok (.lload_n 2, 1) := by decide +kernel
theorem dX11_enough_57 : decode cX11_enough 57 = .ok (.lreturn, 1) := by decide +kernel
theorem dX11_enough_58 : decode cX11_enough 58 = .ok (.lload 4, 2) := by decide +kernel
theorem dX11_enough_60 : decode cX11_enough 60 = .ok (.lconst 0, 1) := by decide +kernel
theorem dX11_enough_61 : decode cX11_enough 61 = .ok (.lcmp, 1) := by decide +kernel
theorem dX11_enough_62 : decode cX11_enough 62 = .ok (.ifCond .ne 7, 3) := by decide +kernel
theorem dX11_enough_65 : decode cX11_enough 65 = .ok (.lconst 0, 1) := by decide +kernel
theorem dX11_enough_66 : decode cX11_enough 66 = .ok (.goto 7, 3) := by decide +kernel
theorem dX11_enough_69 : decode cX11_enough 69 = .ok (.lload_n 2, 1) := by decide +kernel
theorem dX11_enough_70 : decode cX11_enough 70 = .ok (.lload 4, 2) := by decide +kernel
theorem dX11_enough_72 : decode cX11_enough 72 = .ok (.ladd, 1) := by decide +kernel
theorem dX11_enough_73 : decode cX11_enough 73 = .ok (.lreturn, 1) := by decide +kernel
theorem dX11_enough_74 : decode cX11_enough 74 = .ok (.lload 6, 2) := by decide +kernel
theorem dX11_enough_76 : decode cX11_enough 76 = .ok (.lconst 0, 1) := by decide +kernel
theorem dX11_enough_77 : decode cX11_enough 77 = .ok (.lcmp, 1) := by decide +kernel
theorem dX11_enough_78 : decode cX11_enough 78 = .ok (.ifCond .ne 7, 3) := by decide +kernel
theorem dX11_enough_81 : decode cX11_enough 81 = .ok (.lconst 0, 1) := by decide +kernel
theorem dX11_enough_82 : decode cX11_enough 82 = .ok (.goto 10, 3) := by decide +kernel
theorem dX11_enough_85 : decode cX11_enough 85 = .ok (.lload_n 2, 1) := by decide +kernel
theorem dX11_enough_86 : decode cX11_enough 86 = .ok (.lload 4, 2) := by decide +kernel
theorem dX11_enough_88 : decode cX11_enough 88 = .ok (.ladd, 1) := by decide +kernel
theorem dX11_enough_89 : decode cX11_enough 89 = .ok (.lload 6, 2) := by decide +kernel
theorem dX11_enough_91 : decode cX11_enough 91 = .ok (.ladd, 1) := by decide +kernel
theorem dX11_enough_92 : decode cX11_enough 92 = .ok (.lreturn, 1) := by decide +kernel
theorem dX11_enough_93 : decode cX11_enough 93 = .ok (.ldc2_w 177, 3) := by decide +kernel
theorem dX11_enough_96 : decode cX11_enough 96 = .ok (.lreturn, 1) := by decide +kernel
theorem dX11_estate_0 : decode cX11_estate 0 = .ok (.iload_n 1, 1) := by decide +kernel
theorem dX11_estate_1 : decode cX11_estate 1 = .ok (.ifCond .lt 9, 3) := by decide +kernel
theorem dX11_estate_4 : decode cX11_estate 4 = .ok (.iload_n 1, 1) := by decide +kernel
theorem dX11_estate_5 : decode cX11_estate 5 = .ok (.ldc 239, 2) := by decide +kernel
theorem dX11_estate_7 : decode cX11_estate 7 = .ok (.if_icmp .le 7, 3) := by decide +kernel
theorem dX11_estate_10 : decode cX11_estate 10 = .ok (.ldc2_w 240, 3) := by decide +kernel
theorem dX11_estate_13 : decode cX11_estate 13 = .ok (.lreturn, 1) := by decide +kernel
theorem dX11_estate_14 : decode cX11_estate 14 = .ok (.iload_n 2, 1) := by decide +kernel
theorem dX11_estate_15 : decode cX11_estate 15 = .ok (.iconst (-1), 1) := by decide +kernel
theorem dX11_estate_16 : decode cX11_estate 16 = .ok (.if_icmp .ne 16, 3) := by decide +kernel
theorem dX11_estate_19 : decode cX11_estate 19 = .ok (.iload_n 1, 1) := by decide +kernel
theorem dX11_estate_20 : decode cX11_estate 20 = .ok (.i2l, 1) := by decide +kernel
theorem dX11_estate_21 : decode cX11_estate 21 = .ok (.aload_n 0, 1) := by decide +kernel
theorem dX11_estate_22 : decode cX11_estate 22 = .ok (.getfield 45, 3) := by decide +kernel
theorem dX11_estate_25 : decode cX11_estate 25 = .ok (.invokevirtual 220, 3) := by decide +kernel
theorem dX11_estate_28 : decode cX11_estate 28 = .ok (.invokestatic 242, 3) := by decide +kernel
theorem dX11_estate_31 : decode cX11_estate 31 = .ok (.lreturn, 1) := by decide +kernel
theorem dX11_estate_32 : decode cX11_estate 32 = .ok (.aload_n 0, 1) := by decide +kernel
theorem dX11_estate_33 : decode cX11_estate 33 = .ok (.iload_n 2, 1) := by decide +kernel
theorem dX11_estate_34 : decode cX11_estate 34 = .ok (.invokevirtual 171, 3) := by decide +kernel
theorem dX11_estate_37 : decode cX11_estate 37 = .ok (.ifCond .eq 16, 3) := by decide +kernel
theorem dX11_estate_40 : decode cX11_estate 40 = .ok (.aload_n 0, 1) := by decide +kernel
theorem dX11_estate_41 : decode cX11_estate 41 = .ok (.getfield 45, 3) := by decide +kernel
theorem dX11_estate_44 : decode cX11_estate 44 = .ok (.iload_n 1, 1) := by decide +kernel
theorem dX11_estate_45 : decode cX11_estate 45 = .ok (.i2l, 1) := by decide +kernel
theorem dX11_estate_46 : decode cX11_estate 46 = .ok (.iload_n 2, 1) := by decide +kernel
theorem dX11_estate_47 : decode cX11_estate 47 = .ok (.invokevirtual 248, 3) := by decide +kernel
theorem dX11_estate_50 : decode cX11_estate 50 = .ok (.goto 6, 3) := by decide +kernel
theorem dX11_estate_53 : decode cX11_estate 53 = .ok (.ldc2_w 240, 3) := by decide +kernel
theorem dX11_estate_56 : decode cX11_estate 56 = .ok (.lreturn, 1) := by decide +kernel
theorem dX11_refresh_0 : decode cX11_refresh 0 = .ok (.aload_n 0, 1) := by decide +kernel
theorem dX11_refresh_1 : decode cX11_refresh 1 = .ok (.getfield 31, 3) := by decide +kernel
theorem dX11_refresh_4 : decode cX11_refresh 4 = .ok (.aload_n 0, 1) := by decide +kernel
theorem dX11_refresh_5 : decode cX11_refresh 5 = .ok (.getfield 58, 3) := by decide +kernel
theorem dX11_refresh_8 : decode cX11_refresh 8 = .ok (.aload_n 0, 1) := by decide +kernel
theorem dX11_refresh_9 : decode cX11_refresh 9 = .ok (.getfield 38, 3) := by decide +kernel
theorem dX11_refresh_12 : decode cX11_refresh 12 = .ok (.invokevirtual 386, 3) := by decide +kernel
theorem dX11_refresh_15 : decode cX11_refresh 15 = .ok (.aload_n 0, 1) := by decide +kernel
theorem dX11_refresh_16 : decode cX11_refresh 16 = .ok (.getfield 45, 3) := by decide +kernel
theorem dX11_refresh_19 : decode cX11_refresh 19 = .ok (.getfield 114, 3) := by decide +kernel
theorem dX11_refresh_22 : decode cX11_refresh 22 = .ok (.aload_n 0, 1) := by decide +kernel
theorem dX11_refresh_23 : decode cX11_refresh 23 = .ok (.getfield 58, 3) := by decide +kernel
theorem dX11_refresh_26 : decode cX11_refresh 26 = .ok (.aload_n 0, 1) := by decide +kernel
theorem dX11_refresh_27 : decode cX11_refresh 27 = .ok (.getfield 38, 3) := by decide +kernel
theorem dX11_refresh_30 : decode cX11_refresh 30 = .ok (.invokevirtual 259, 3) := by decide +kernel
theorem dX11_refresh_33 : decode cX11_refresh 33 = .ok (.aload_n 0, 1) := by decide +kernel
theorem dX11_refresh_34 : decode cX11_refresh 34 = .ok (.getfield 45, 3) := by decide +kernel
theorem dX11_refresh_37 : decode cX11_refresh 37 = .ok (.aload_n 0, 1) := by decide +kernel
theorem dX11_refresh_38 : decode cX11_refresh 38 = .ok (.getfield 58, 3) := by decide +kernel
theorem dX11_refresh_41 : decode cX11_refresh 41 = .ok (.aload_n 0, 1) := by decide +kernel
theorem dX11_refresh_42 : decode cX11_refresh 42 = .ok (.getfield 38, 3) := by decide +kernel
theorem dX11_refresh_45 : decode cX11_refresh 45 = .ok (.aload_n 0, 1) := by decide +kernel
theorem dX11_refresh_46 : decode cX11_refresh 46 = .ok (.getfield 31, 3) := by decide +kernel
theorem dX11_refresh_49 : decode cX11_refresh 49 = .ok (.invokevirtual 387, 3) := by decide +kernel
theorem dX11_refresh_52 : decode cX11_refresh 52 = .ok (.return_, 1) := by decide +kernel
theorem dX11_book_0 : decode cX11_book 0 = .ok (.iload_n 1, 1) := by decide +kernel
theorem dX11_book_1 : decode cX11_book 1 = .ok (.ifCond .lt 14, 3) := by decide +kernel
theorem dX11_book_4 : decode cX11_book 4 = .ok (.iload_n 1, 1) := by decide +kernel
theorem dX11_book_5 : decode cX11_book 5 = .ok (.aload_n 0, 1) := by decide +kernel
theorem dX11_book_6 : decode cX11_book 6 = .ok (.getfield 20, 3) := by decide +kernel
theorem dX11_book_9 : decode cX11_book 9 = .ok (.getfield 66, 3) := by decide +kernel
theorem dX11_book_12 : decode cX11_book 12 = .ok (.if_icmp .le 5, 3) := by decide +kernel
theorem dX11_book_15 : decode cX11_book 15 = .ok (.iconst (-1), 1) := by decide +kernel
theorem dX11_book_16 : decode cX11_book 16 = .ok (.ireturn, 1) := by decide +kernel
theorem dX11_book_17 : decode cX11_book 17 = .ok (.aload_n 0, 1) := by decide +kernel
theorem dX11_book_18 : decode cX11_book 18 = .ok (.getfield 12, 3) := by decide +kernel
theorem dX11_book_21 : decode cX11_book 21 = .ok (.iload_n 1, 1) := by decide +kernel
theorem dX11_book_22 : decode cX11_book 22 = .ok (.invokevirtual 76, 3) := by decide +kernel
theorem dX11_book_25 : decode cX11_book 25 = .ok (.istore_n 2, 1) := by decide +kernel
theorem dX11_book_26 : decode cX11_book 26 = .ok (.aload_n 0, 1) := by decide +kernel
theorem dX11_book_27 : decode cX11_book 27 = .ok (.getfield 20, 3) := by decide +kernel
theorem dX11_book_30 : decode cX11_book 30 = .ok (.iconst 0, 1) := by decide +kernel
theorem dX11_book_31 : decode cX11_book 31 = .ok (.putfield 66, 3) := by decide +kernel
theorem dX11_book_34 : decode cX11_book 34 = .ok (.iload_n 2, 1) := by decide +kernel
theorem dX11_book_35 : decode cX11_book 35 = .ok (.ifCond .le 45, 3) := by decide +kernel
theorem dX11_book_38 : decode cX11_book 38 = .ok (.aload_n 0, 1) := by decide +kernel
theorem dX11_book_39 : decode cX11_book 39 = .ok (.aload_n 0, 1) := by decide +kernel
theorem dX11_book_40 : decode cX11_book 40 = .ok (.getfield 12, 3) := by decide +kernel
theorem dX11_book_43 : decode cX11_book 43 = .ok (.aload_n 0, 1) := by decide +kernel
theorem dX11_book_44 : decode cX11_book 44 = .ok (.getfield 58, 3) := by decide +kernel
theorem dX11_book_47 : decode cX11_book 47 = .ok (.invokevirtual 80, 3) := by decide +kernel
theorem dX11_book_50 : decode cX11_book 50 = .ok (.putfield 58, 3) := by decide +kernel
theorem dX11_book_53 : decode cX11_book 53 = .ok (.aload_n 0, 1) := by decide +kernel
theorem dX11_book_54 : decode cX11_book 54 = .ok (.iconst 1, 1) := by decide +kernel
theorem dX11_book_55 : decode cX11_book 55 = .ok (.putfield 62, 3) := by decide +kernel
theorem dX11_book_58 : decode cX11_book 58 = .ok (.aload_n 0, 1) := by decide +kernel
theorem dX11_book_59 : decode cX11_book 59 = .ok (.getfield 38, 3) := by decide +kernel
theorem dX11_book_62 : decode cX11_book 62 = .ok (.aload_n 0, 1) := by decide +kernel
theorem dX11_book_63 : decode cX11_book 63 = .ok (.getfield 58, 3) := by decide +kernel
theorem dX11_book_66 : decode cX11_book 66 = .ok (.invokevirtual 84, 3) := by decide +kernel
theorem dX11_book_69 : decode cX11_book 69 = .ok (.aload_n 0, 1) := by decide +kernel
theorem dX11_book_70 : decode cX11_book 70 = .ok (.getfield 24, 3) := by decide +kernel
theorem dX11_book_73 : decode cX11_book 73 = .ok (.invokevirtual 88, 3) := by decide +kernel
theorem dX11_book_76 : decode cX11_book 76 = .ok (.aload_n 0, 1) := by decide +kernel
theorem dX11_book_77 : decode cX11_book 77 = .ok (.invokevirtual 91, 3) := by decide +kernel
theorem dX11_book_80 : decode cX11_book 80 = .ok (.iload_n 2, 1) := by decide +kernel
theorem dX11_book_81 : decode cX11_book 81 = .ok (.ireturn, 1) := by decide +kernel
theorem dX11_balance_0 : decode cX11_balance 0 = .ok (.aload_n 0, 1) := by decide +kernel
theorem dX11_balance_1 : decode cX11_balance 1 = .ok (.iload_n 1, 1) := by decide +kernel
theorem dX11_balance_2 : decode cX11_balance 2 = .ok (.invokevirtual 147, 3) := by decide +kernel
theorem dX11_balance_5 : decode cX11_balance 5 = .ok (.ifCond .eq 14, 3) := by decide +kernel
theorem dX11_balance_8 : decode cX11_balance 8 = .ok (.iload_n 2, 1) := by decide +kernel
theorem dX11_balance_9 : decode cX11_balance 9 = .ok (.ifCond .lt 10, 3) := by decide +kernel
theorem dX11_balance_12 : decode cX11_balance 12 = .ok (.iload_n 2, 1) := by decide +kernel
theorem dX11_balance_13 : decode cX11_balance 13 = .ok (.ldc_w 334, 3) := by decide +kernel
theorem dX11_balance_16 : decode cX11_balance 16 = .ok (.if_icmp .le 5, 3) := by decide +kernel
theorem dX11_balance_19 : decode cX11_balance 19 = .ok (.iconst (-1), 1) := by decide +kernel
theorem dX11_balance_20 : decode cX11_balance 20 = .ok (.ireturn, 1) := by decide +kernel
theorem dX11_balance_21 : decode cX11_balance 21 = .ok (.aload_n 0, 1) := by decide +kernel
theorem dX11_balance_22 : decode cX11_balance 22 = .ok (.getfield 38, 3) := by decide +kernel
theorem dX11_balance_25 : decode cX11_balance 25 = .ok (.getfield 153, 3) := by decide +kernel
theorem dX11_balance_28 : decode cX11_balance 28 = .ok (.iload_n 1, 1) := by decide +kernel
theorem dX11_balance_29 : decode cX11_balance 29 = .ok (.iaload, 1) := by decide +kernel
theorem dX11_balance_30 : decode cX11_balance 30 = .ok (.istore_n 3, 1) := by decide +kernel
theorem dX11_balance_31 : decode cX11_balance 31 = .ok (.aload_n 0, 1) := by decide +kernel
theorem dX11_balance_32 : decode cX11_balance 32 = .ok (.getfield 24, 3) := by decide +kernel
theorem dX11_balance_35 : decode cX11_balance 35 = .ok (.aload_n 0, 1) := by decide +kernel
theorem dX11_balance_36 : decode cX11_balance 36 = .ok (.getfield 38, 3) := by decide +kernel
theorem dX11_balance_39 : decode cX11_balance 39 = .ok (.invokevirtual 335, 3) := by decide +kernel
theorem dX11_balance_42 : decode cX11_balance 42 = .ok (.aload_n 0, 1) := by decide +kernel
theorem dX11_balance_43 : decode cX11_balance 43 = .ok (.getfield 38, 3) := by decide +kernel
theorem dX11_balance_46 : decode cX11_balance 46 = .ok (.getfield 153, 3) := by decide +kernel
theorem dX11_balance_49 : decode cX11_balance 49 = .ok (.iload_n 1, 1) := by decide +kernel
theorem dX11_balance_50 : decode cX11_balance 50 = .ok (.iload_n 2, 1) := by decide +kernel
theorem dX11_balance_51 : decode cX11_balance 51 = .ok (.iastore, 1) := by decide +kernel
theorem dX11_balance_52 : decode cX11_balance 52 = .ok (.aload_n 0, 1) := by decide +kernel
theorem dX11_balance_53 : decode cX11_balance 53 = .ok (.invokevirtual 91, 3) := by decide +kernel
theorem dX11_balance_56 : decode cX11_balance 56 = .ok (.iload_n 3, 1) := by decide +kernel
theorem dX11_balance_57 : decode cX11_balance 57 = .ok (.ireturn, 1) := by decide +kernel
theorem dX11_join_0 : decode cX11_join 0 = .ok (.aload_n 0, 1) := by decide +kernel
theorem dX11_join_1 : decode cX11_join 1 = .ok (.iload_n 1, 1) := by decide +kernel
theorem dX11_join_2 : decode cX11_join 2 = .ok (.iload_n 2, 1) := by decide +kernel
theorem dX11_join_3 : decode cX11_join 3 = .ok (.invokevirtual 317, 3) := by decide +kernel
theorem dX11_join_6 : decode cX11_join 6 = .ok (.ifCond .eq 15, 3) := by decide +kernel
theorem dX11_join_9 : decode cX11_join 9 = .ok (.aload_n 0, 1) := by decide +kernel
theorem dX11_join_10 : decode cX11_join 10 = .ok (.getfield 38, 3) := by decide +kernel
theorem dX11_join_13 : decode cX11_join 13 = .ok (.getfield 338, 3) := by decide +kernel
theorem dX11_join_16 : decode cX11_join 16 = .ok (.bipush 30, 2) := by decide +kernel
theorem dX11_join_18 : decode cX11_join 18 = .ok (.if_icmp .lt 5, 3) := by decide +kernel
theorem dX11_join_21 : decode cX11_join 21 = .ok (.iconst (-1), 1) := by decide +kernel
theorem dX11_join_22 : decode cX11_join 22 = .ok (.ireturn, 1) := by decide +kernel
theorem dX11_join_23 : decode cX11_join 23 = .ok (.aload_n 0, 1) := by decide +kernel
theorem dX11_join_24 : decode cX11_join 24 = .ok (.getfield 24, 3) := by decide +kernel
theorem dX11_join_27 : decode cX11_join 27 = .ok (.aload_n 0, 1) := by decide +kernel
theorem dX11_join_28 : decode cX11_join 28 = .ok (.getfield 38, 3) := by decide +kernel
theorem dX11_join_31 : decode cX11_join 31 = .ok (.invokevirtual 335, 3) := by decide +kernel
theorem dX11_join_34 : decode cX11_join 34 = .ok (.aload_n 0, 1) := by decide +kernel
theorem dX11_join_35 : decode cX11_join 35 = .ok (.getfield 38, 3) := by decide +kernel
theorem dX11_join_38 : decode cX11_join 38 = .ok (.iload_n 1, 1) := by decide +kernel
theorem dX11_join_39 : decode cX11_join 39 = .ok (.iload_n 2, 1) := by decide +kernel
theorem dX11_join_40 : decode cX11_join 40 = .ok (.invokevirtual 323, 3) := by decide +kernel
theorem dX11_join_43 : decode cX11_join 43 = .ok (.aload_n 0, 1) := by decide +kernel
theorem dX11_join_44 : decode cX11_join 44 = .ok (.invokevirtual 91, 3) := by decide +kernel
theorem dX11_join_47 : decode cX11_join 47 = .ok (.aload_n 0, 1) := by decide +kernel
theorem dX11_join_48 : decode cX11_join 48 = .ok (.getfield 45, 3) := by decide +kernel
theorem dX11_join_51 : decode cX11_join 51 = .ok (.getfield 114, 3) := by decide +kernel
theorem dX11_join_54 : decode cX11_join 54 = .ok (.getfield 230, 3) := by decide +kernel
theorem dX11_join_57 : decode cX11_join 57 = .ok (.ireturn, 1) := by decide +kernel
theorem dX11_tell_0 : decode cX11_tell 0 = .ok (.aload_n 0, 1) := by decide +kernel
theorem dX11_tell_1 : decode cX11_tell 1 = .ok (.getfield 62, 3) := by decide +kernel
theorem dX11_tell_4 : decode cX11_tell 4 = .ok (.ifCond .eq 24, 3) := by decide +kernel
theorem dX11_tell_7 : decode cX11_tell 7 = .ok (.iload_n 1, 1) := by decide +kernel
theorem dX11_tell_8 : decode cX11_tell 8 = .ok (.ifCond .lt 20, 3) := by decide +kernel
theorem dX11_tell_11 : decode cX11_tell 11 = .ok (.iload_n 1, 1) := by decide +kernel
theorem dX11_tell_12 : decode cX11_tell 12 = .ok (.iconst 3, 1) := by decide +kernel
theorem dX11_tell_13 : decode cX11_tell 13 = .ok (.if_icmp .ge 15, 3) := by decide +kernel
theorem dX11_tell_16 : decode cX11_tell 16 = .ok (.iload_n 2, 1) := by decide +kernel
theorem dX11_tell_17 : decode cX11_tell 17 = .ok (.ifCond .lt 11, 3) := by decide +kernel
theorem dX11_tell_20 : decode cX11_tell 20 = .ok (.iload_n 2, 1) := by decide +kernel
theorem dX11_tell_21 : decode cX11_tell 21 = .ok (.iload_n 1, 1) := by decide +kernel
theorem dX11_tell_22 : decode cX11_tell 22 = .ok (.invokestatic 350, 3) := by decide +kernel
theorem dX11_tell_25 : decode cX11_tell 25 = .ok (.if_icmp .le 5, 3) := by decide +kernel
theorem dX11_tell_28 : decode cX11_tell 28 = .ok (.iconst (-1), 1) := by decide +kernel
theorem dX11_tell_29 : decode cX11_tell 29 = .ok (.ireturn, 1) := by decide +kernel
theorem dX11_tell_30 : decode cX11_tell 30 = .ok (.aload_n 0, 1) := by decide +kernel
theorem dX11_tell_31 : decode cX11_tell 31 = .ok (.getfield 38, 3) := by decide +kernel
theorem dX11_tell_34 : decode cX11_tell 34 = .ok (.getfield 353, 3) := by decide +kernel
theorem dX11_tell_37 : decode cX11_tell 37 = .ok (.iload_n 1, 1) := by decide +kernel
theorem dX11_tell_38 : decode cX11_tell 38 = .ok (.iaload, 1) := by decide +kernel
theorem dX11_tell_39 : decode cX11_tell 39 = .ok (.istore_n 3, 1) := by decide +kernel
theorem dX11_tell_40 : decode cX11_tell 40 = .ok (.aload_n 0, 1) := by decide +kernel
theorem dX11_tell_41 : decode cX11_tell 41 = .ok (.getfield 24, 3) := by decide +kernel
theorem dX11_tell_44 : decode cX11_tell 44 = .ok (.aload_n 0, 1) := by decide +kernel
theorem dX11_tell_45 : decode cX11_tell 45 = .ok (.getfield 38, 3) := by decide +kernel
theorem dX11_tell_48 : decode cX11_tell 48 = .ok (.invokevirtual 335, 3) := by decide +kernel
theorem dX11_tell_51 : decode cX11_tell 51 = .ok (.aload_n 0, 1) := by decide +kernel
theorem dX11_tell_52 : decode cX11_tell 52 = .ok (.getfield 38, 3) := by decide +kernel
theorem dX11_tell_55 : decode cX11_tell 55 = .ok (.getfield 353, 3) := by decide +kernel
theorem dX11_tell_58 : decode cX11_tell 58 = .ok (.iload_n 1, 1) := by decide +kernel
theorem dX11_tell_59 : decode cX11_tell 59 = .ok (.iload_n 2, 1) := by decide +kernel
theorem dX11_tell_60 : decode cX11_tell 60 = .ok (.iastore, 1) := by decide +kernel
theorem dX11_tell_61 : decode cX11_tell 61 = .ok (.aload_n 0, 1) := by decide +kernel
theorem dX11_tell_62 : decode cX11_tell 62 = .ok (.invokevirtual 91, 3) := by decide +kernel
theorem dX11_tell_65 : decode cX11_tell 65 = .ok (.iload_n 3, 1) := by decide +kernel
theorem dX11_tell_66 : decode cX11_tell 66 = .ok (.ireturn, 1) := by decide +kernel
theorem dX11_mark_0 : decode cX11_mark 0 = .ok (.aload_n 0, 1) := by decide +kernel
theorem dX11_mark_1 : decode cX11_mark 1 = .ok (.getfield 58, 3) := by decide +kernel
theorem dX11_mark_4 : decode cX11_mark 4 = .ok (.iload_n 1, 1) := by decide +kernel
theorem dX11_mark_5 : decode cX11_mark 5 = .ok (.invokevirtual 302, 3) := by decide +kernel
theorem dX11_mark_8 : decode cX11_mark 8 = .ok (.istore_n 3, 1) := by decide +kernel
theorem dX11_mark_9 : decode cX11_mark 9 = .ok (.iload_n 3, 1) := by decide +kernel
theorem dX11_mark_10 : decode cX11_mark 10 = .ok (.iconst (-1), 1) := by decide +kernel
theorem dX11_mark_11 : decode cX11_mark 11 = .ok (.if_icmp .ne 5, 3) := by decide +kernel
theorem dX11_mark_14 : decode cX11_mark 14 = .ok (.iconst 0, 1) := by decide +kernel
theorem dX11_mark_15 : decode cX11_mark 15 = .ok (.ireturn, 1) := by decide +kernel
theorem dX11_mark_16 : decode cX11_mark 16 = .ok (.aload_n 0, 1) := by decide +kernel
theorem dX11_mark_17 : decode cX11_mark 17 = .ok (.getfield 24, 3) := by decide +kernel
theorem dX11_mark_20 : decode cX11_mark 20 = .ok (.aload_n 0, 1) := by decide +kernel
theorem dX11_mark_21 : decode cX11_mark 21 = .ok (.getfield 38, 3) := by decide +kernel
theorem dX11_mark_24 : decode cX11_mark 24 = .ok (.invokevirtual 335, 3) := by decide +kernel
theorem dX11_mark_27 : decode cX11_mark 27 = .ok (.aload_n 0, 1) := by decide +kernel
theorem dX11_mark_28 : decode cX11_mark 28 = .ok (.getfield 38, 3) := by decide +kernel
theorem dX11_mark_31 : decode cX11_mark 31 = .ok (.iload_n 3, 1) := by decide +kernel
theorem dX11_mark_32 : decode cX11_mark 32 = .ok (.iload_n 2, 1) := by decide +kernel
theorem dX11_mark_33 : decode cX11_mark 33 = .ok (.invokevirtual 310, 3) := by decide +kernel
theorem dX11_mark_36 : decode cX11_mark 36 = .ok (.aload_n 0, 1) := by decide +kernel
theorem dX11_mark_37 : decode cX11_mark 37 = .ok (.invokevirtual 91, 3) := by decide +kernel
theorem dX11_mark_40 : decode cX11_mark 40 = .ok (.iconst 1, 1) := by decide +kernel
theorem dX11_mark_41 : decode cX11_mark 41 = .ok (.ireturn, 1) := by decide +kernel
theorem dX11_share_0 : decode cX11_share 0 = .ok (.aload_n 0, 1) := by decide +kernel
theorem dX11_share_1 : decode cX11_share 1 = .ok (.iload_n 1, 1) := by decide +kernel
theorem dX11_share_2 : decode cX11_share 2 = .ok (.invokevirtual 147, 3) := by decide +kernel
theorem dX11_share_5 : decode cX11_share 5 = .ok (.ifCond .eq 11, 3) := by decide +kernel
theorem dX11_share_8 : decode cX11_share 8 = .ok (.aload_n 0, 1) := by decide +kernel
theorem dX11_share_9 : decode cX11_share 9 = .ok (.iload_n 2, 1) := by decide +kernel
theorem dX11_share_10 : decode cX11_share 10 = .ok (.invokevirtual 94, 3) := by decide +kernel
theorem dX11_share_13 : decode cX11_share 13 = .ok (.ifCond .ne 13, 3) := by decide +kernel
theorem dX11_share_16 : decode cX11_share 16 = .ok (.new 160, 3) := by decide +kernel
theorem dX11_share_19 : decode cX11_share 19 = .ok (.dup, 1) := by decide +kernel
theorem dX11_share_20 : decode cX11_share 20 = .ok (.ldc 162, 2) := by decide +kernel
theorem dX11_share_22 : decode cX11_share 22 = .ok (.invokespecial 164, 3) := by decide +kernel
theorem dX11_share_25 : decode cX11_share 25 = .ok (.athrow, 1) := by decide +kernel
theorem dX11_share_26 : decode cX11_share 26 = .ok (.aload_n 0, 1) := by decide +kernel
theorem dX11_share_27 : decode cX11_share 27 = .ok (.getfield 31, 3) := by decide +kernel
theorem dX11_share_30 : decode cX11_share 30 = .ok (.getfield 167, 3) := by decide +kernel
theorem dX11_share_33 : decode cX11_share 33 = .ok (.iload_n 1, 1) := by decide +kernel
theorem dX11_share_34 : decode cX11_share 34 = .ok (.aaload, 1) := by decide +kernel
theorem dX11_share_35 : decode cX11_share 35 = .ok (.iload_n 2, 1) := by decide +kernel
theorem dX11_share_36 : decode cX11_share 36 = .ok (.iaload, 1) := by decide +kernel
theorem dX11_share_37 : decode cX11_share 37 = .ok (.ireturn, 1) := by decide +kernel
theorem pq_617 : Cond.fieldLink RX11 58 "PayoutDesk" "told" "LPayoutDesk$Book;" ∈ pd_gt := pd_in 469 (by decide +kernel) (by decide +kernel)
theorem pq_618 : Cond.fieldLinkNest RX11 371 "PayoutDesk$Book" "personCount" "I" "PayoutDesk" ∈ pd_gt := pd_in 257 (by decide +kernel) (by decide +kernel)
theorem pq_619 : Cond.fieldLinkNest RX11 126 "PayoutDesk$Book" "trustCount" "I" "PayoutDesk" ∈ pd_gt := pd_in 260 (by decide +kernel) (by decide +kernel)
theorem pq_620 : Cond.fieldLinkNest RX11 374 "PayoutDesk$Book" "accountCount" "I" "PayoutDesk" ∈ pd_gt := pd_in 265 (by decide +kernel) (by decide +kernel)
theorem pq_621 : Cond.fieldLinkNest RX11 266 "PayoutDesk$Book" "highCount" "I" "PayoutDesk" ∈ pd_gt := pd_in 270 (by decide +kernel) (by decide +kernel)
theorem pq_622 : Cond.fieldLinkNest RX11 285 "PayoutDesk$Book" "loanCount" "I" "PayoutDesk" ∈ pd_gt := pd_in 274 (by decide +kernel) (by decide +kernel)
theorem pq_623 : Cond.fieldLink RX11 38 "PayoutDesk" "now" "LPayoutDesk$State;" ∈ pd_gt := pd_in 465 (by decide +kernel) (by decide +kernel)
theorem pq_624 : Cond.fieldLinkNest RX11 353 "PayoutDesk$State" "settings" "[I" "PayoutDesk" ∈ pd_gt := pd_in 339 (by decide +kernel) (by decide +kernel)
theorem pq_625 : Cond.fieldLinkNest RX11 338 "PayoutDesk$State" "joinCount" "I" "PayoutDesk" ∈ pd_gt := pd_in 346 (by decide +kernel) (by decide +kernel)
theorem pq_626 : Cond.fieldLinkNest RX11 377 "PayoutDesk$State" "leftOut" "J" "PayoutDesk" ∈ pd_gt := pd_in 348 (by decide +kernel) (by decide +kernel)
theorem pq_627 : Cond.methodLink RX11 380 yJ13_bitCount_95d88 ∈ pd_gt := pd_in 753 (by decide +kernel) (by decide +kernel)
theorem pq_628 : Cond.code yJ13_bitCount_95d88 cJ13_bitCount_95d88 2 (some .int) ∈ pd_gt := pd_in 755 (by decide +kernel) (by decide +kernel)
theorem pq_629 : Cond.initialized yJ13_bitCount_95d88.cls ∈ pd_gt := pd_in 61 (by decide +kernel) (by decide +kernel)
theorem pq_630 : Cond.static yJ13_bitCount_95d88 ∈ pd_gt := pd_in 754 (by decide +kernel) (by decide +kernel)
theorem pq_631 : Cond.fieldLink RX11 24 "PayoutDesk" "history" "LPayoutDesk$History;" ∈ pd_gt := pd_in 463 (by decide +kernel) (by decide +kernel)
theorem pq_632 : Cond.fieldLinkNest RX11 360 "PayoutDesk$History" "undoable" "I" "PayoutDesk" ∈ pd_gt := pd_in 368 (by decide +kernel) (by decide +kernel)
theorem pq_633 : Cond.fieldLink RX11 20 "PayoutDesk" "tape" "LPayoutDesk$Tape;" ∈ pd_gt := pd_in 462 (by decide +kernel) (by decide +kernel)
theorem pq_634 : Cond.fieldLinkNest RX11 66 "PayoutDesk$Tape" "length" "I" "PayoutDesk" ∈ pd_gt := pd_in 87 (by decide +kernel) (by decide +kernel)
theorem pq_635 : Cond.fieldLink RX11 45 "PayoutDesk" "ledger" "LPayoutDesk$Ledger;" ∈ pd_gt := pd_in 466 (by decide +kernel) (by decide +kernel)
theorem pq_636 : Cond.fieldLinkNest RX11 114 "PayoutDesk$Ledger" "ties" "LPayoutDesk$Ties;" "PayoutDesk" ∈ pd_gt := pd_in 431 (by decide +kernel) (by decide +kernel)
theorem pq_637 : Cond.fieldLinkNest RX11 230 "PayoutDesk$Ties" "depositors" "I" "PayoutDesk" ∈ pd_gt := pd_in 420 (by decide +kernel) (by decide +kernel)
theorem pq_638 : Cond.fieldLinkNest RX11 150 "PayoutDesk$Book" "accounts" "[LPayoutDesk$Group;" "PayoutDesk" ∈ pd_gt := pd_in 235 (by decide +kernel) (by decide +kernel)
theorem pq_639 : Cond.fieldLinkNest RX11 141 "PayoutDesk$Group" "fails" "Z" "PayoutDesk" ∈ pd_gt := pd_in 186 (by decide +kernel) (by decide +kernel)
theorem pq_640 : Cond.fieldLinkNest RX11 153 "PayoutDesk$State" "balances" "[I" "PayoutDesk" ∈ pd_gt := pd_in 336 (by decide +kernel) (by decide +kernel)
theorem pq_641 : Cond.methodLink RX11 72 yX9_append ∈ pd_gt := pd_in 1073 (by decide +kernel) (by decide +kernel)
theorem pq_642 : Cond.code yX9_append cX9_append 3 none ∈ pd_gt := pd_in 1076 (by decide +kernel) (by decide +kernel)
theorem pq_643 : Cond.initialized yX9_append.cls ∈ pd_gt := pd_in 39 (by decide +kernel) (by decide +kernel)
theorem pq_644 : Cond.instanceMethod yX9_append ∈ pd_gt := pd_in 1074 (by decide +kernel) (by decide +kernel)
theorem pq_645 : Cond.selects yX9_append.cls yX9_append yX9_append ∈ pd_gt := pd_in 1075 (by decide +kernel) (by decide +kernel)
theorem pq_646 : Cond.methodLink RX11 94 yX11_isPerson ∈ pd_gt := pd_in 496 (by decide +kernel) (by decide +kernel)
theorem pq_647 : Cond.code yX11_isPerson cX11_isPerson 2 (some .boolean) ∈ pd_gt := pd_in 499 (by decide +kernel) (by decide +kernel)
theorem pq_648 : Cond.initialized yX11_isPerson.cls ∈ pd_gt := pd_in 37 (by decide +kernel) (by decide +kernel)
theorem pq_649 : Cond.instanceMethod yX11_isPerson ∈ pd_gt := pd_in 498 (by decide +kernel) (by decide +kernel)
theorem pq_650 : Cond.selects yX11_isPerson.cls yX11_isPerson yX11_isPerson ∈ pd_gt := pd_in 0 (by decide +kernel) (by decide +kernel)
theorem pq_651 : Cond.fieldLinkNest RX11 98 "PayoutDesk$Book" "persons" "[LPayoutDesk$Person;" "PayoutDesk" ∈ pd_gt := pd_in 228 (by decide +kernel) (by decide +kernel)
theorem pq_652 : Cond.fieldLinkNest RX11 102 "PayoutDesk$Person" "markCount" "I" "PayoutDesk" ∈ pd_gt := pd_in 143 (by decide +kernel) (by decide +kernel)
theorem pq_653 : Cond.fieldLinkNest RX11 107 "PayoutDesk$Person" "marks" "[I" "PayoutDesk" ∈ pd_gt := pd_in 140 (by decide +kernel) (by decide +kernel)
theorem pq_654 : Cond.fieldLinkNest RX11 111 "PayoutDesk$Person" "insider" "Z" "PayoutDesk" ∈ pd_gt := pd_in 150 (by decide +kernel) (by decide +kernel)
theorem pq_655 : Cond.fieldLinkNest RX11 118 "PayoutDesk$Ties" "depositorOf" "[I" "PayoutDesk" ∈ pd_gt := pd_in 415 (by decide +kernel) (by decide +kernel)
theorem pq_656 : Cond.fieldLinkNest RX11 123 "PayoutDesk$Person" "firstLetter" "I" "PayoutDesk" ∈ pd_gt := pd_in 148 (by decide +kernel) (by decide +kernel)
theorem pq_657 : Cond.methodLink RX11 147 yX11_isAccount ∈ pd_gt := pd_in 504 (by decide +kernel) (by decide +kernel)
theorem pq_658 : Cond.code yX11_isAccount cX11_isAccount 2 (some .boolean) ∈ pd_gt := pd_in 507 (by decide +kernel) (by decide +kernel)
theorem pq_659 : Cond.initialized yX11_isAccount.cls ∈ pd_gt := pd_in 37 (by decide +kernel) (by decide +kernel)
theorem pq_660 : Cond.instanceMethod yX11_isAccount ∈ pd_gt := pd_in 506 (by decide +kernel) (by decide +kernel)
theorem pq_661 : Cond.selects yX11_isAccount.cls yX11_isAccount yX11_isAccount ∈ pd_gt := pd_in 1 (by decide +kernel) (by decide +kernel)
theorem pq_662 : Cond.fieldLinkNest RX11 133 "PayoutDesk$Group" "partCount" "I" "PayoutDesk" ∈ pd_gt := pd_in 177 (by decide +kernel) (by decide +kernel)
theorem pq_663 : Cond.methodLink RX11 156 yX2_personsReached ∈ pd_gt := pd_in 508 (by decide +kernel) (by decide +kernel)
theorem pq_664 : Cond.code yX2_personsReached cX2_personsReached 3 (some .int) ∈ pd_gt := pd_in 511 (by decide +kernel) (by decide +kernel)
theorem pq_665 : Cond.initialized yX2_personsReached.cls ∈ pd_gt := pd_in 42 (by decide +kernel) (by decide +kernel)
theorem pq_666 : Cond.instanceMethod yX2_personsReached ∈ pd_gt := pd_in 509 (by decide +kernel) (by decide +kernel)
theorem pq_667 : Cond.selects yX2_personsReached.cls yX2_personsReached yX2_personsReached ∈ pd_gt := pd_in 510 (by decide +kernel) (by decide +kernel)
theorem pq_668 : Cond.methodLink RX11 171 yX11_isDepositor ∈ pd_gt := pd_in 585 (by decide +kernel) (by decide +kernel)
theorem pq_669 : Cond.code yX11_isDepositor cX11_isDepositor 2 (some .boolean) ∈ pd_gt := pd_in 588 (by decide +kernel) (by decide +kernel)
theorem pq_670 : Cond.initialized yX11_isDepositor.cls ∈ pd_gt := pd_in 37 (by decide +kernel) (by decide +kernel)
theorem pq_671 : Cond.instanceMethod yX11_isDepositor ∈ pd_gt := pd_in 587 (by decide +kernel) (by decide +kernel)
theorem pq_672 : Cond.selects yX11_isDepositor.cls yX11_isDepositor yX11_isDepositor ∈ pd_gt := pd_in 3 (by decide +kernel) (by decide +kernel)
theorem pq_673 : Cond.fieldLinkNest RX11 174 "PayoutDesk$Ties" "personsOf" "[I" "PayoutDesk" ∈ pd_gt := pd_in 417 (by decide +kernel) (by decide +kernel)
theorem pq_674 : Cond.fieldLinkNest RX11 331 "PayoutDesk$Group" "ways" "[I" "PayoutDesk" ∈ pd_gt := pd_in 174 (by decide +kernel) (by decide +kernel)
theorem pq_675 : Cond.fieldLinkNest RX11 179 "PayoutDesk$Ledger" "has" "[J" "PayoutDesk" ∈ pd_gt := pd_in 433 (by decide +kernel) (by decide +kernel)
theorem pq_676 : Cond.fieldLinkNest RX11 183 "PayoutDesk$Ledger" "owes" "[J" "PayoutDesk" ∈ pd_gt := pd_in 435 (by decide +kernel) (by decide +kernel)
theorem pq_677 : Cond.methodLink RX11 186 yX4_setOff ∈ pd_gt := pd_in 594 (by decide +kernel) (by decide +kernel)
theorem pq_678 : Cond.methodLink RX11 190 yX4_net ∈ pd_gt := pd_in 601 (by decide +kernel) (by decide +kernel)
theorem pq_679 : Cond.fieldLinkNest RX11 193 "PayoutDesk$Ledger" "high" "[J" "PayoutDesk" ∈ pd_gt := pd_in 437 (by decide +kernel) (by decide +kernel)
theorem pq_680 : Cond.fieldLinkNest RX11 196 "PayoutDesk$Ledger" "cover" "J" "PayoutDesk" ∈ pd_gt := pd_in 441 (by decide +kernel) (by decide +kernel)
theorem pq_681 : Cond.methodLink RX11 200 yX4_limit ∈ pd_gt := pd_in 608 (by decide +kernel) (by decide +kernel)
theorem pq_682 : Cond.methodLink RX11 204 yX4_paid ∈ pd_gt := pd_in 612 (by decide +kernel) (by decide +kernel)
theorem pq_683 : Cond.methodLink RX11 207 yX4_claim ∈ pd_gt := pd_in 618 (by decide +kernel) (by decide +kernel)
theorem pq_684 : Cond.fieldLinkNest RX11 210 "PayoutDesk$Ledger" "insider" "[Z" "PayoutDesk" ∈ pd_gt := pd_in 439 (by decide +kernel) (by decide +kernel)
theorem pq_685 : Cond.constantLong RX11 177 ((-1) : Int64) ∈ pd_gt := pd_in 593 (by decide +kernel) (by decide +kernel)
theorem pq_686 : Cond.methodLink RX11 236 yX4_aheadOf ∈ pd_gt := pd_in 1322 (by decide +kernel) (by decide +kernel)
theorem pq_687 : Cond.code yX4_aheadOf cX4_aheadOf 8 (some .int) ∈ pd_gt := pd_in 1325 (by decide +kernel) (by decide +kernel)
theorem pq_688 : Cond.initialized yX4_aheadOf.cls ∈ pd_gt := pd_in 47 (by decide +kernel) (by decide +kernel)
theorem pq_689 : Cond.instanceMethod yX4_aheadOf ∈ pd_gt := pd_in 1323 (by decide +kernel) (by decide +kernel)
theorem pq_690 : Cond.selects yX4_aheadOf.cls yX4_aheadOf yX4_aheadOf ∈ pd_gt := pd_in 1324 (by decide +kernel) (by decide +kernel)
theorem pq_691 : Cond.methodLink RX11 213 yX4_hasTogether ∈ pd_gt := pd_in 627 (by decide +kernel) (by decide +kernel)
theorem pq_692 : Cond.code yX4_hasTogether cX4_hasTogether 4 (some .long) ∈ pd_gt := pd_in 630 (by decide +kernel) (by decide +kernel)
theorem pq_693 : Cond.initialized yX4_hasTogether.cls ∈ pd_gt := pd_in 47 (by decide +kernel) (by decide +kernel)
theorem pq_694 : Cond.instanceMethod yX4_hasTogether ∈ pd_gt := pd_in 628 (by decide +kernel) (by decide +kernel)
theorem pq_695 : Cond.selects yX4_hasTogether.cls yX4_hasTogether yX4_hasTogether ∈ pd_gt := pd_in 629 (by decide +kernel) (by decide +kernel)
theorem pq_696 : Cond.methodLink RX11 217 yX4_setOffTogether ∈ pd_gt := pd_in 631 (by decide +kernel) (by decide +kernel)
theorem pq_697 : Cond.code yX4_setOffTogether cX4_setOffTogether 4 (some .long) ∈ pd_gt := pd_in 634 (by decide +kernel) (by decide +kernel)
theorem pq_698 : Cond.initialized yX4_setOffTogether.cls ∈ pd_gt := pd_in 47 (by decide +kernel) (by decide +kernel)
theorem pq_699 : Cond.instanceMethod yX4_setOffTogether ∈ pd_gt := pd_in 632 (by decide +kernel) (by decide +kernel)
theorem pq_700 : Cond.selects yX4_setOffTogether.cls yX4_setOffTogether yX4_setOffTogether ∈ pd_gt := pd_in 633 (by decide +kernel) (by decide +kernel)
theorem pq_701 : Cond.methodLink RX11 220 yX4_paidTogether ∈ pd_gt := pd_in 636 (by decide +kernel) (by decide +kernel)
theorem pq_702 : Cond.methodLink RX11 223 yX4_claimsOf ∈ pd_gt := pd_in 644 (by decide +kernel) (by decide +kernel)
theorem pq_703 : Cond.methodLink RX11 227 yX11_frozenBalances ∈ pd_gt := pd_in 653 (by decide +kernel) (by decide +kernel)
theorem pq_704 : Cond.code yX11_frozenBalances cX11_frozenBalances 4 (some .long) ∈ pd_gt := pd_in 656 (by decide +kernel) (by decide +kernel)
theorem pq_705 : Cond.initialized yX11_frozenBalances.cls ∈ pd_gt := pd_in 37 (by decide +kernel) (by decide +kernel)
theorem pq_706 : Cond.instanceMethod yX11_frozenBalances ∈ pd_gt := pd_in 655 (by decide +kernel) (by decide +kernel)
theorem pq_707 : Cond.selects yX11_frozenBalances.cls yX11_frozenBalances yX11_frozenBalances ∈ pd_gt := pd_in 6 (by decide +kernel) (by decide +kernel)
theorem pq_708 : Cond.methodLink RX11 233 yX4_claimants ∈ pd_gt := pd_in 657 (by decide +kernel) (by decide +kernel)
theorem pq_709 : Cond.code yX4_claimants cX4_claimants 3 (some .int) ∈ pd_gt := pd_in 660 (by decide +kernel) (by decide +kernel)
theorem pq_710 : Cond.initialized yX4_claimants.cls ∈ pd_gt := pd_in 47 (by decide +kernel) (by decide +kernel)
theorem pq_711 : Cond.instanceMethod yX4_claimants ∈ pd_gt := pd_in 658 (by decide +kernel) (by decide +kernel)
theorem pq_712 : Cond.selects yX4_claimants.cls yX4_claimants yX4_claimants ∈ pd_gt := pd_in 659 (by decide +kernel) (by decide +kernel)
theorem pq_713 : Cond.constantLong RX11 240 ((-2) : Int64) ∈ pd_gt := pd_in 1304 (by decide +kernel) (by decide +kernel)
theorem pq_714 : Cond.constant RX11 239 (99999999 : Int32) ∈ pd_gt := pd_in 1303 (by decide +kernel) (by decide +kernel)
theorem pq_715 : Cond.methodLink RX11 248 yX4_fromEstate ∈ pd_gt := pd_in 1306 (by decide +kernel) (by decide +kernel)
theorem pq_716 : Cond.code yX4_fromEstate cX4_fromEstate 13 (some .long) ∈ pd_gt := pd_in 1309 (by decide +kernel) (by decide +kernel)
theorem pq_717 : Cond.initialized yX4_fromEstate.cls ∈ pd_gt := pd_in 47 (by decide +kernel) (by decide +kernel)
theorem pq_718 : Cond.instanceMethod yX4_fromEstate ∈ pd_gt := pd_in 1307 (by decide +kernel) (by decide +kernel)
theorem pq_719 : Cond.selects yX4_fromEstate.cls yX4_fromEstate yX4_fromEstate ∈ pd_gt := pd_in 1308 (by decide +kernel) (by decide +kernel)
theorem pq_720 : Cond.methodLink RX11 242 Lib.MathLoose.min_long.x ∈ pd_gt := pd_in 1305 (by decide +kernel) (by decide +kernel)
theorem pq_721 : Cond.fieldLink RX11 31 "PayoutDesk" "shares" "LPayoutDesk$Shares;" ∈ pd_gt := pd_in 464 (by decide +kernel) (by decide +kernel)
theorem pq_722 : Cond.methodLink RX11 386 yX7_reckon ∈ pd_gt := pd_in 691 (by decide +kernel) (by decide +kernel)
theorem pq_723 : Cond.code yX7_reckon cX7_reckon 5 none ∈ pd_gt := pd_in 694 (by decide +kernel) (by decide +kernel)
theorem pq_724 : Cond.initialized yX7_reckon.cls ∈ pd_gt := pd_in 46 (by decide +kernel) (by decide +kernel)
theorem pq_725 : Cond.instanceMethod yX7_reckon ∈ pd_gt := pd_in 692 (by decide +kernel) (by decide +kernel)
theorem pq_726 : Cond.selects yX7_reckon.cls yX7_reckon yX7_reckon ∈ pd_gt := pd_in 693 (by decide +kernel) (by decide +kernel)
theorem pq_727 : Cond.methodLink RX11 259 yX10_reckon ∈ pd_gt := pd_in 706 (by decide +kernel) (by decide +kernel)
theorem pq_728 : Cond.code yX10_reckon cX10_reckon 4 none ∈ pd_gt := pd_in 709 (by decide +kernel) (by decide +kernel)
theorem pq_729 : Cond.initialized yX10_reckon.cls ∈ pd_gt := pd_in 48 (by decide +kernel) (by decide +kernel)
theorem pq_730 : Cond.instanceMethod yX10_reckon ∈ pd_gt := pd_in 707 (by decide +kernel) (by decide +kernel)
theorem pq_731 : Cond.selects yX10_reckon.cls yX10_reckon yX10_reckon ∈ pd_gt := pd_in 708 (by decide +kernel) (by decide +kernel)
theorem pq_732 : Cond.methodLink RX11 387 yX4_sumUp ∈ pd_gt := pd_in 737 (by decide +kernel) (by decide +kernel)
theorem pq_733 : Cond.code yX4_sumUp cX4_sumUp 6 none ∈ pd_gt := pd_in 740 (by decide +kernel) (by decide +kernel)
theorem pq_734 : Cond.initialized yX4_sumUp.cls ∈ pd_gt := pd_in 47 (by decide +kernel) (by decide +kernel)
theorem pq_735 : Cond.instanceMethod yX4_sumUp ∈ pd_gt := pd_in 738 (by decide +kernel) (by decide +kernel)
theorem pq_736 : Cond.selects yX4_sumUp.cls yX4_sumUp yX4_sumUp ∈ pd_gt := pd_in 739 (by decide +kernel) (by decide +kernel)
theorem pq_737 : Cond.fieldLink RX11 12 "PayoutDesk" "reader" "LPayoutDesk$Reader;" ∈ pd_gt := pd_in 461 (by decide +kernel) (by decide +kernel)
theorem pq_738 : Cond.methodLink RX11 76 yX6_read ∈ pd_gt := pd_in 1081 (by decide +kernel) (by decide +kernel)
theorem pq_739 : Cond.code yX6_read cX6_read 4 (some .int) ∈ pd_gt := pd_in 1084 (by decide +kernel) (by decide +kernel)
theorem pq_740 : Cond.initialized yX6_read.cls ∈ pd_gt := pd_in 38 (by decide +kernel) (by decide +kernel)
theorem pq_741 : Cond.instanceMethod yX6_read ∈ pd_gt := pd_in 1082 (by decide +kernel) (by decide +kernel)
theorem pq_742 : Cond.selects yX6_read.cls yX6_read yX6_read ∈ pd_gt := pd_in 1083 (by decide +kernel) (by decide +kernel)
theorem pq_743 : Cond.methodLink RX11 80 yX6_trade ∈ pd_gt := pd_in 1252 (by decide +kernel) (by decide +kernel)
theorem pq_744 : Cond.code yX6_trade cX6_trade 3 (some (.object "PayoutDesk$Book")) ∈ pd_gt := pd_in 1255 (by decide +kernel) (by decide +kernel)
theorem pq_745 : Cond.initialized yX6_trade.cls ∈ pd_gt := pd_in 38 (by decide +kernel) (by decide +kernel)
theorem pq_746 : Cond.instanceMethod yX6_trade ∈ pd_gt := pd_in 1253 (by decide +kernel) (by decide +kernel)
theorem pq_747 : Cond.selects yX6_trade.cls yX6_trade yX6_trade ∈ pd_gt := pd_in 1254 (by decide +kernel) (by decide +kernel)
theorem pq_748 : Cond.fieldLink RX11 62 "PayoutDesk" "hasBook" "Z" ∈ pd_gt := pd_in 470 (by decide +kernel) (by decide +kernel)
theorem pq_749 : Cond.methodLink RX11 84 yX8_begin ∈ pd_gt := pd_in 1256 (by decide +kernel) (by decide +kernel)
theorem pq_750 : Cond.code yX8_begin cX8_begin 2 none ∈ pd_gt := pd_in 1259 (by decide +kernel) (by decide +kernel)
theorem pq_751 : Cond.initialized yX8_begin.cls ∈ pd_gt := pd_in 45 (by decide +kernel) (by decide +kernel)
theorem pq_752 : Cond.instanceMethod yX8_begin ∈ pd_gt := pd_in 1257 (by decide +kernel) (by decide +kernel)
theorem pq_753 : Cond.selects yX8_begin.cls yX8_begin yX8_begin ∈ pd_gt := pd_in 1258 (by decide +kernel) (by decide +kernel)
theorem pq_754 : Cond.methodLink RX11 88 yX3_forget ∈ pd_gt := pd_in 1260 (by decide +kernel) (by decide +kernel)
theorem pq_755 : Cond.code yX3_forget cX3_forget 2 none ∈ pd_gt := pd_in 1263 (by decide +kernel) (by decide +kernel)
theorem pq_756 : Cond.initialized yX3_forget.cls ∈ pd_gt := pd_in 44 (by decide +kernel) (by decide +kernel)
theorem pq_757 : Cond.instanceMethod yX3_forget ∈ pd_gt := pd_in 1261 (by decide +kernel) (by decide +kernel)
theorem pq_758 : Cond.selects yX3_forget.cls yX3_forget yX3_forget ∈ pd_gt := pd_in 1262 (by decide +kernel) (by decide +kernel)
theorem pq_759 : Cond.methodLink RX11 91 yX11_refresh ∈ pd_gt := pd_in 687 (by decide +kernel) (by decide +kernel)
theorem pq_760 : Cond.code yX11_refresh cX11_refresh 1 none ∈ pd_gt := pd_in 690 (by decide +kernel) (by decide +kernel)
theorem pq_761 : Cond.initialized yX11_refresh.cls ∈ pd_gt := pd_in 37 (by decide +kernel) (by decide +kernel)
theorem pq_762 : Cond.instanceMethod yX11_refresh ∈ pd_gt := pd_in 689 (by decide +kernel) (by decide +kernel)
theorem pq_763 : Cond.selects yX11_refresh.cls yX11_refresh yX11_refresh ∈ pd_gt := pd_in 7 (by decide +kernel) (by decide +kernel)
theorem pq_764 : Cond.methodLink RX11 335 yX3_remember ∈ pd_gt := pd_in 673 (by decide +kernel) (by decide +kernel)
theorem pq_765 : Cond.code yX3_remember cX3_remember 2 none ∈ pd_gt := pd_in 676 (by decide +kernel) (by decide +kernel)
theorem pq_766 : Cond.initialized yX3_remember.cls ∈ pd_gt := pd_in 44 (by decide +kernel) (by decide +kernel)
theorem pq_767 : Cond.instanceMethod yX3_remember ∈ pd_gt := pd_in 674 (by decide +kernel) (by decide +kernel)
theorem pq_768 : Cond.selects yX3_remember.cls yX3_remember yX3_remember ∈ pd_gt := pd_in 675 (by decide +kernel) (by decide +kernel)
theorem pq_769 : Cond.methodLink RX11 317 yX11_areTwo ∈ pd_gt := pd_in 1268 (by decide +kernel) (by decide +kernel)
theorem pq_770 : Cond.code yX11_areTwo cX11_areTwo 3 (some .boolean) ∈ pd_gt := pd_in 1271 (by decide +kernel) (by decide +kernel)
theorem pq_771 : Cond.initialized yX11_areTwo.cls ∈ pd_gt := pd_in 37 (by decide +kernel) (by decide +kernel)
theorem pq_772 : Cond.instanceMethod yX11_areTwo ∈ pd_gt := pd_in 1270 (by decide +kernel) (by decide +kernel)
theorem pq_773 : Cond.selects yX11_areTwo.cls yX11_areTwo yX11_areTwo ∈ pd_gt := pd_in 35 (by decide +kernel) (by decide +kernel)
theorem pq_774 : Cond.methodLink RX11 323 yX8_addJoin ∈ pd_gt := pd_in 1272 (by decide +kernel) (by decide +kernel)
theorem pq_775 : Cond.code yX8_addJoin cX8_addJoin 3 none ∈ pd_gt := pd_in 1275 (by decide +kernel) (by decide +kernel)
theorem pq_776 : Cond.initialized yX8_addJoin.cls ∈ pd_gt := pd_in 45 (by decide +kernel) (by decide +kernel)
theorem pq_777 : Cond.instanceMethod yX8_addJoin ∈ pd_gt := pd_in 1273 (by decide +kernel) (by decide +kernel)
theorem pq_778 : Cond.selects yX8_addJoin.cls yX8_addJoin yX8_addJoin ∈ pd_gt := pd_in 1274 (by decide +kernel) (by decide +kernel)
theorem pq_779 : Cond.methodLink RX11 350 yX11_greatestOf ∈ pd_gt := pd_in 669 (by decide +kernel) (by decide +kernel)
theorem pq_780 : Cond.methodLink RX11 302 yX0_indexOfMark ∈ pd_gt := pd_in 1284 (by decide +kernel) (by decide +kernel)
theorem pq_781 : Cond.methodLink RX11 310 yX8_leaveOut ∈ pd_gt := pd_in 1285 (by decide +kernel) (by decide +kernel)
theorem pq_782 : Cond.code yX8_leaveOut cX8_leaveOut 5 none ∈ pd_gt := pd_in 1288 (by decide +kernel) (by decide +kernel)
theorem pq_783 : Cond.initialized yX8_leaveOut.cls ∈ pd_gt := pd_in 45 (by decide +kernel) (by decide +kernel)
theorem pq_784 : Cond.instanceMethod yX8_leaveOut ∈ pd_gt := pd_in 1286 (by decide +kernel) (by decide +kernel)
theorem pq_785 : Cond.selects yX8_leaveOut.cls yX8_leaveOut yX8_leaveOut ∈ pd_gt := pd_in 1287 (by decide +kernel) (by decide +kernel)
theorem pq_786 : Cond.fieldLinkNest RX11 167 "PayoutDesk$Shares" "ofAccount" "[[I" "PayoutDesk" ∈ pd_gt := pd_in 390 (by decide +kernel) (by decide +kernel)
def pfX11_count (sh : pd_S) (n : Nat) (F : pd_F) (x0 : Int) (x1 : Int) : Option (Int × pd_F) :=
  if x1 = 0 then
    pd_i (pd_ob sh 11 x0 = true) <|
    pd_i (pd_ob sh 0 (F x0 8) = true) <|
    some (F (F x0 8) 9, F)
  else
    if x1 = 1 then
      pd_i (pd_ob sh 11 x0 = true) <|
      pd_i (pd_ob sh 0 (F x0 8) = true) <|
      some (F (F x0 8) 10, F)
    else
      if x1 = 2 then
        pd_i (pd_ob sh 11 x0 = true) <|
        pd_i (pd_ob sh 0 (F x0 8) = true) <|
        some (F (F x0 8) 11, F)
      else
        if x1 = 3 then
          pd_i (pd_ob sh 11 x0 = true) <|
          pd_i (pd_ob sh 0 (F x0 8) = true) <|
          some (F (F x0 8) 12, F)
        else
          if x1 = 4 then
            pd_i (pd_ob sh 11 x0 = true) <|
            pd_i (pd_ob sh 0 (F x0 8) = true) <|
            some (F (F x0 8) 13, F)
          else
            if x1 = 5 then
              pd_i (pd_ob sh 11 x0 = true) <|
              pd_i (pd_ob sh 8 (F x0 4) = true) <|
              pd_i (pd_ib sh 0 0 (F (F x0 4) 1) 0 = true) <|
              some (F (F (F x0 4) 1) 0, F)
            else
              if x1 = 6 then
                pd_i (pd_ob sh 11 x0 = true) <|
                pd_i (pd_ob sh 8 (F x0 4) = true) <|
                pd_i (pd_ib sh 0 0 (F (F x0 4) 1) 1 = true) <|
                some (F (F (F x0 4) 1) 1, F)
              else
                if x1 = 7 then
                  pd_i (pd_ob sh 11 x0 = true) <|
                  pd_i (pd_ob sh 8 (F x0 4) = true) <|
                  pd_i (pd_ib sh 0 0 (F (F x0 4) 1) 2 = true) <|
                  some (F (F (F x0 4) 1) 2, F)
                else
                  if x1 = 8 then
                    pd_i (pd_ob sh 11 x0 = true) <|
                    pd_i (pd_ob sh 8 (F x0 4) = true) <|
                    some (F (F x0 4) 4, F)
                  else
                    if x1 = 9 then
                      pd_i (pd_ob sh 11 x0 = true) <|
                      pd_i (pd_ob sh 8 (F x0 4) = true) <|
                      Option.bind (pfJ13_bitCount_95d88 sh n F (F (F x0 4) 5)) fun qr25 => pd_l qr25.1 fun r25 => pd_l qr25.2 fun F24 =>
                      some (r25, F24)
                    else
                      if x1 = 10 then
                        pd_i (pd_ob sh 11 x0 = true) <|
                        pd_i (pd_ob sh 3 (F x0 2) = true) <|
                        some (F (F x0 2) 4, F)
                      else
                        if x1 = 11 then
                          pd_i (pd_ob sh 11 x0 = true) <|
                          pd_i (pd_ob sh 9 (F x0 1) = true) <|
                          some (F (F x0 1) 1, F)
                        else
                          some ((-1), F)
def pfX11_isPerson (sh : pd_S) (n : Nat) (F : pd_F) (x0 : Int) (x1 : Int) : Option (Int × pd_F) :=
  if x1 < 0 then
    some (0, F)
  else
    pd_i (pd_ob sh 11 x0 = true) <|
    pd_i (pd_ob sh 0 (F x0 8) = true) <|
    if x1 ≥ (F (F x0 8) 9) then
      some (0, F)
    else
      some (1, F)
def pfX11_isAccount (sh : pd_S) (n : Nat) (F : pd_F) (x0 : Int) (x1 : Int) : Option (Int × pd_F) :=
  if x1 < 0 then
    some (0, F)
  else
    pd_i (pd_ob sh 11 x0 = true) <|
    pd_i (pd_ob sh 0 (F x0 8) = true) <|
    if x1 ≥ (F (F x0 8) 11) then
      some (0, F)
    else
      some (1, F)
def pfX11_isDepositor (sh : pd_S) (n : Nat) (F : pd_F) (x0 : Int) (x1 : Int) : Option (Int × pd_F) :=
  if x1 < 0 then
    some (0, F)
  else
    pd_i (pd_ob sh 11 x0 = true) <|
    pd_i (pd_ob sh 4 (F x0 5) = true) <|
    pd_i (pd_ob sh 10 (F (F x0 5) 0) = true) <|
    if x1 ≥ (F (F (F x0 5) 0) 3) then
      some (0, F)
    else
      some (1, F)
def pfX11_frozenBalances_b43 (sh : pd_S) (n : Nat) (c4 : pd_F → Int → Int → Int → Option (Int × pd_F)) (F : pd_F) (x0 : Int) (x1 : Int) (x3 : Int) : Option (Int × pd_F) :=
  pd_l (pd_w (x3 + 1)) fun x3_43 =>
  c4 F x0 x1 x3_43
def pfX11_frozenBalances_b4 (sh : pd_S) (n : Nat)  : Nat → pd_F → Int → Int → Int → Option (Int × pd_F)
  | 0, _, _, _, _ => none
  | k + 1, F, x0, x1, x3 =>
    pd_i (pd_ob sh 11 x0 = true) <|
    pd_i (pd_ob sh 0 (F x0 8) = true) <|
    if x3 ≥ (F (F x0 8) 11) then
      some (x1, F)
    else
      pd_i (pd_ib sh 2 2 (F (F x0 8) 2) x3 = true) <|
      pd_i (pd_ob sh 2 (F (F (F x0 8) 2) x3) = true) <|
      if (F (F (F (F x0 8) 2) x3) 7) = 0 then
        pfX11_frozenBalances_b43 sh n (pfX11_frozenBalances_b4 sh n k) F x0 x1 x3
      else
        pd_i (pd_ob sh 8 (F x0 4) = true) <|
        pd_i (pd_ib sh 0 0 (F (F x0 4) 0) x3 = true) <|
        pd_l (pd_W (x1 + (F (F (F x0 4) 0) x3))) fun x1_42 =>
        pfX11_frozenBalances_b43 sh n (pfX11_frozenBalances_b4 sh n k) F x0 x1_42 x3
def pfX11_frozenBalances (sh : pd_S) (n : Nat) (F : pd_F) (x0 : Int) : Option (Int × pd_F) :=
  pfX11_frozenBalances_b4 sh n n F x0 0 0
def pfX11_feed (sh : pd_S) (n : Nat) (F : pd_F) (x0 : Int) (x1 : Int) (x2 : Int) (x3 : Int) (x4 : Int) (x5 : Int) : Option (Int × pd_F) :=
  pd_i (pd_ob sh 11 x0 = true) <|
  pd_i (pd_ob sh 9 (F x0 1) = true) <|
  if (pd_w ((F (F x0 1) 1) + 20)) ≤ 1000 then
    Option.bind (pfX9_append sh n F (F x0 1) x1) fun F3 =>
    pd_i (pd_ob sh 9 (F3 x0 1) = true) <|
    Option.bind (pfX9_append sh n F3 (F3 x0 1) x2) fun F4 =>
    pd_i (pd_ob sh 9 (F4 x0 1) = true) <|
    Option.bind (pfX9_append sh n F4 (F4 x0 1) x3) fun F6 =>
    pd_i (pd_ob sh 9 (F6 x0 1) = true) <|
    Option.bind (pfX9_append sh n F6 (F6 x0 1) x4) fun F8 =>
    pd_i (pd_ob sh 9 (F8 x0 1) = true) <|
    Option.bind (pfX9_append sh n F8 (F8 x0 1) x5) fun F10 =>
    pd_i (pd_ob sh 9 (F10 x0 1) = true) <|
    some (F10 (F10 x0 1) 1, F10)
  else
    some ((-1), F)
def pfX11_person (sh : pd_S) (n : Nat) (F : pd_F) (x0 : Int) (x1 : Int) (x2 : Int) : Option (Int × pd_F) :=
  pd_i (pd_ob sh 11 x0 = true) <|
  Option.bind (pfX11_isPerson sh n F x0 x1) fun qr3 => pd_l qr3.1 fun r3 => pd_l qr3.2 fun F1 =>
  if r3 ≠ 0 then
    pd_i (pd_ob sh 0 (F1 x0 8) = true) <|
    pd_i (pd_ib sh 2 5 (F1 (F1 x0 8) 0) x1 = true) <|
    pd_l (F1 (F1 (F1 x0 8) 0) x1) fun x3_19 =>
    pd_i (x3_19 ≠ 0) <|
    if x2 = 0 then
      pd_i (pd_ob sh 5 x3_19 = true) <|
      some (F1 x3_19 1, F1)
    else
      if x2 = 1 then
        pd_i (pd_ob sh 5 x3_19 = true) <|
        if x2 > (F1 x3_19 1) then
          some (0, F1)
        else
          pd_i (pd_ib sh 0 0 (F1 x3_19 0) (pd_w (x2 - 1)) = true) <|
          some (F1 (F1 x3_19 0) (pd_w (x2 - 1)), F1)
      else
        if x2 = 2 then
          pd_i (pd_ob sh 5 x3_19 = true) <|
          if x2 > (F1 x3_19 1) then
            some (0, F1)
          else
            pd_i (pd_ib sh 0 0 (F1 x3_19 0) (pd_w (x2 - 1)) = true) <|
            some (F1 (F1 x3_19 0) (pd_w (x2 - 1)), F1)
        else
          if x2 = 3 then
            pd_i (pd_ob sh 5 x3_19 = true) <|
            if x2 > (F1 x3_19 1) then
              some (0, F1)
            else
              pd_i (pd_ib sh 0 0 (F1 x3_19 0) (pd_w (x2 - 1)) = true) <|
              some (F1 (F1 x3_19 0) (pd_w (x2 - 1)), F1)
          else
            if x2 = 4 then
              pd_i (pd_ob sh 5 x3_19 = true) <|
              if (F1 x3_19 4) = 0 then
                some (0, F1)
              else
                some (1, F1)
            else
              if x2 = 5 then
                pd_i (pd_ob sh 4 (F1 x0 5) = true) <|
                pd_i (pd_ob sh 10 (F1 (F1 x0 5) 0) = true) <|
                pd_i (pd_ib sh 0 0 (F1 (F1 (F1 x0 5) 0) 1) x1 = true) <|
                some (F1 (F1 (F1 (F1 x0 5) 0) 1) x1, F1)
              else
                if x2 = 6 then
                  pd_i (pd_ob sh 5 x3_19 = true) <|
                  some (F1 x3_19 3, F1)
                else
                  some ((-1), F1)
  else
    some ((-1), F1)
def pfX11_account (sh : pd_S) (n : Nat) (F : pd_F) (x0 : Int) (x1 : Int) (x2 : Int) : Option (Int × pd_F) :=
  pd_i (pd_ob sh 11 x0 = true) <|
  Option.bind (pfX11_isAccount sh n F x0 x1) fun qr3 => pd_l qr3.1 fun r3 => pd_l qr3.2 fun F1 =>
  if r3 ≠ 0 then
    pd_i (pd_ob sh 0 (F1 x0 8) = true) <|
    pd_i (pd_ib sh 2 2 (F1 (F1 x0 8) 2) x1 = true) <|
    pd_l (F1 (F1 (F1 x0 8) 2) x1) fun x3_19 =>
    pd_i (x3_19 ≠ 0) <|
    if x2 = 0 then
      pd_i (pd_ob sh 8 (F1 x0 4) = true) <|
      pd_i (pd_ib sh 0 0 (F1 (F1 x0 4) 0) x1 = true) <|
      some (F1 (F1 (F1 x0 4) 0) x1, F1)
    else
      if x2 = 1 then
        pd_i (pd_ob sh 2 x3_19 = true) <|
        some (F1 x3_19 3, F1)
      else
        if x2 = 2 then
          pd_i (pd_ob sh 2 x3_19 = true) <|
          if (F1 x3_19 7) = 0 then
            some (0, F1)
          else
            some (1, F1)
        else
          if x2 = 3 then
            pd_i (pd_ob sh 2 x3_19 = true) <|
            Option.bind (pfX2_personsReached sh n F1 x3_19) fun qr13 => pd_l qr13.1 fun r13 => pd_l qr13.2 fun F11 =>
            some (r13, F11)
          else
            some ((-1), F1)
  else
    some ((-1), F1)
def pfX11_who (sh : pd_S) (n : Nat) (F : pd_F) (x0 : Int) (x1 : Int) : Option (Int × pd_F) :=
  pd_i (pd_ob sh 11 x0 = true) <|
  Option.bind (pfX11_isDepositor sh n F x0 x1) fun qr3 => pd_l qr3.1 fun r3 => pd_l qr3.2 fun F1 =>
  if r3 = 0 then
    some ((-1), F1)
  else
    pd_i (pd_ob sh 4 (F1 x0 5) = true) <|
    pd_i (pd_ob sh 10 (F1 (F1 x0 5) 0) = true) <|
    pd_i (pd_ib sh 0 0 (F1 (F1 (F1 x0 5) 0) 2) x1 = true) <|
    some (F1 (F1 (F1 (F1 x0 5) 0) 2) x1, F1)
def pfX11_ways (sh : pd_S) (n : Nat) (F : pd_F) (x0 : Int) (x1 : Int) (x2 : Int) : Option (Int × pd_F) :=
  pd_i (pd_ob sh 11 x0 = true) <|
  Option.bind (pfX11_isAccount sh n F x0 x1) fun qr3 => pd_l qr3.1 fun r3 => pd_l qr3.2 fun F1 =>
  if r3 = 0 then
    some ((-1), F1)
  else
    Option.bind (pfX11_isPerson sh n F1 x0 x2) fun qr5 => pd_l qr5.1 fun r5 => pd_l qr5.2 fun F4 =>
    if r5 = 0 then
      some ((-1), F4)
    else
      pd_i (pd_ob sh 0 (F4 x0 8) = true) <|
      pd_i (pd_ib sh 2 2 (F4 (F4 x0 8) 2) x1 = true) <|
      pd_i (pd_ob sh 2 (F4 (F4 (F4 x0 8) 2) x1) = true) <|
      pd_i (pd_ib sh 0 0 (F4 (F4 (F4 (F4 x0 8) 2) x1) 2) x2 = true) <|
      some (F4 (F4 (F4 (F4 (F4 x0 8) 2) x1) 2) x2, F4)
def pfX11_areTwo (sh : pd_S) (n : Nat) (F : pd_F) (x0 : Int) (x1 : Int) (x2 : Int) : Option (Int × pd_F) :=
  pd_i (pd_ob sh 11 x0 = true) <|
  Option.bind (pfX11_isPerson sh n F x0 x1) fun qr3 => pd_l qr3.1 fun r3 => pd_l qr3.2 fun F1 =>
  if r3 = 0 then
    some (0, F1)
  else
    Option.bind (pfX11_isPerson sh n F1 x0 x2) fun qr5 => pd_l qr5.1 fun r5 => pd_l qr5.2 fun F4 =>
    if r5 = 0 then
      some (0, F4)
    else
      if x1 = x2 then
        some (0, F4)
      else
        some (1, F4)
def pfX11_view (sh : pd_S) (n : Nat) (F : pd_F) (x0 : Int) (x1 : Int) (x2 : Int) : Option (Int × pd_F) :=
  pd_i (pd_ob sh 11 x0 = true) <|
  Option.bind (pfX11_isDepositor sh n F x0 x1) fun qr3 => pd_l qr3.1 fun r3 => pd_l qr3.2 fun F1 =>
  if r3 ≠ 0 then
    if x2 = 0 then
      pd_i (pd_ob sh 4 (F1 x0 5) = true) <|
      pd_i (pd_ib sh 1 0 (F1 (F1 x0 5) 1) x1 = true) <|
      some (F1 (F1 (F1 x0 5) 1) x1, F1)
    else
      if x2 = 1 then
        pd_i (pd_ob sh 4 (F1 x0 5) = true) <|
        pd_i (pd_ib sh 1 0 (F1 (F1 x0 5) 2) x1 = true) <|
        some (F1 (F1 (F1 x0 5) 2) x1, F1)
      else
        if x2 = 2 then
          pd_i (pd_ob sh 4 (F1 x0 5) = true) <|
          Option.bind (pfX4_setOff sh n F1 (F1 x0 5) x1) fun qr10 => pd_l qr10.1 fun r10 => pd_l qr10.2 fun F8 =>
          some (r10, F8)
        else
          if x2 = 3 then
            pd_i (pd_ob sh 4 (F1 x0 5) = true) <|
            Option.bind (pfX4_net sh n F1 (F1 x0 5) x1) fun qr13 => pd_l qr13.1 fun r13 => pd_l qr13.2 fun F11 =>
            some (r13, F11)
          else
            if x2 = 4 then
              pd_i (pd_ob sh 4 (F1 x0 5) = true) <|
              pd_i (pd_ib sh 1 0 (F1 (F1 x0 5) 3) x1 = true) <|
              some (F1 (F1 (F1 x0 5) 3) x1, F1)
            else
              if x2 = 5 then
                pd_i (pd_ob sh 4 (F1 x0 5) = true) <|
                Option.bind (pfX4_limit sh n F1 (F1 x0 5) x1 (F1 (F1 x0 5) 5)) fun qr18 => pd_l qr18.1 fun r18 => pd_l qr18.2 fun F17 =>
                some (r18, F17)
              else
                if x2 = 6 then
                  pd_i (pd_ob sh 4 (F1 x0 5) = true) <|
                  Option.bind (pfX4_paid sh n F1 (F1 x0 5) x1) fun qr21 => pd_l qr21.1 fun r21 => pd_l qr21.2 fun F19 =>
                  some (r21, F19)
                else
                  if x2 = 7 then
                    pd_i (pd_ob sh 4 (F1 x0 5) = true) <|
                    Option.bind (pfX4_claim sh n F1 (F1 x0 5) x1) fun qr24 => pd_l qr24.1 fun r24 => pd_l qr24.2 fun F22 =>
                    some (r24, F22)
                  else
                    if x2 = 8 then
                      pd_i (pd_ob sh 4 (F1 x0 5) = true) <|
                      pd_i (pd_ib sh 0 2 (F1 (F1 x0 5) 4) x1 = true) <|
                      if (F1 (F1 (F1 x0 5) 4) x1) = 0 then
                        some (0, F1)
                      else
                        some (1, F1)
                    else
                      some ((-1), F1)
  else
    some ((-1), F1)
def pfX11_ranked_b2 (sh : pd_S) (n : Nat)  : Nat → pd_F → Int → Int → Int → Option (Int × pd_F)
  | 0, _, _, _, _ => none
  | k + 1, F, x0, x1, x2 =>
    pd_i (pd_ob sh 11 x0 = true) <|
    pd_i (pd_ob sh 4 (F x0 5) = true) <|
    pd_i (pd_ob sh 10 (F (F x0 5) 0) = true) <|
    if x2 ≥ (F (F (F x0 5) 0) 3) then
      some ((-1), F)
    else
      Option.bind (pfX4_aheadOf sh n F (F x0 5) x2) fun qr5 => pd_l qr5.1 fun r5 => pd_l qr5.2 fun F4 =>
      if r5 ≠ x1 then
        pd_l (pd_w (x2 + 1)) fun x2_30 =>
        pfX11_ranked_b2 sh n k F4 x0 x1 x2_30
      else
        some (x2, F4)
def pfX11_ranked (sh : pd_S) (n : Nat) (F : pd_F) (x0 : Int) (x1 : Int) : Option (Int × pd_F) :=
  pfX11_ranked_b2 sh n n F x0 x1 0
def pfX11_all (sh : pd_S) (n : Nat) (F : pd_F) (x0 : Int) (x1 : Int) : Option (Int × pd_F) :=
  if x1 = 0 then
    pd_i (pd_ob sh 11 x0 = true) <|
    pd_i (pd_ob sh 4 (F x0 5) = true) <|
    Option.bind (pfX4_hasTogether sh n F (F x0 5)) fun qr4 => pd_l qr4.1 fun r4 => pd_l qr4.2 fun F2 =>
    some (r4, F2)
  else
    if x1 = 1 then
      pd_i (pd_ob sh 11 x0 = true) <|
      pd_i (pd_ob sh 4 (F x0 5) = true) <|
      Option.bind (pfX4_setOffTogether sh n F (F x0 5)) fun qr8 => pd_l qr8.1 fun r8 => pd_l qr8.2 fun F6 =>
      some (r8, F6)
    else
      if x1 = 2 then
        pd_i (pd_ob sh 11 x0 = true) <|
        pd_i (pd_ob sh 4 (F x0 5) = true) <|
        Option.bind (pfX4_paidTogether sh n F (F x0 5)) fun qr12 => pd_l qr12.1 fun r12 => pd_l qr12.2 fun F10 =>
        some (r12, F10)
      else
        if x1 = 3 then
          pd_i (pd_ob sh 11 x0 = true) <|
          pd_i (pd_ob sh 4 (F x0 5) = true) <|
          Option.bind (pfX4_claimsOf sh n F (F x0 5) 0) fun qr16 => pd_l qr16.1 fun r16 => pd_l qr16.2 fun F14 =>
          pd_i (pd_ob sh 4 (F14 x0 5) = true) <|
          Option.bind (pfX4_claimsOf sh n F14 (F14 x0 5) 1) fun qr19 => pd_l qr19.1 fun r19 => pd_l qr19.2 fun F17 =>
          some (pd_W (r16 + r19), F17)
        else
          if x1 = 4 then
            pd_i (pd_ob sh 11 x0 = true) <|
            Option.bind (pfX11_frozenBalances sh n F x0) fun qr22 => pd_l qr22.1 fun r22 => pd_l qr22.2 fun F20 =>
            some (r22, F20)
          else
            if x1 = 5 then
              pd_i (pd_ob sh 11 x0 = true) <|
              pd_i (pd_ob sh 4 (F x0 5) = true) <|
              pd_i (pd_ob sh 10 (F (F x0 5) 0) = true) <|
              some (F (F (F x0 5) 0) 3, F)
            else
              if x1 = 6 then
                pd_i (pd_ob sh 11 x0 = true) <|
                pd_i (pd_ob sh 4 (F x0 5) = true) <|
                Option.bind (pfX4_claimants sh n F (F x0 5)) fun qr29 => pd_l qr29.1 fun r29 => pd_l qr29.2 fun F27 =>
                some (r29, F27)
              else
                some ((-1), F)
def pfX11_enough (sh : pd_S) (n : Nat) (F : pd_F) (x0 : Int) (x1 : Int) : Option (Int × pd_F) :=
  pd_i (pd_ob sh 11 x0 = true) <|
  pd_i (pd_ob sh 4 (F x0 5) = true) <|
  Option.bind (pfX4_paidTogether sh n F (F x0 5)) fun qr4 => pd_l qr4.1 fun r4 => pd_l qr4.2 fun F2 =>
  pd_i (pd_ob sh 4 (F2 x0 5) = true) <|
  Option.bind (pfX4_claimsOf sh n F2 (F2 x0 5) 0) fun qr7 => pd_l qr7.1 fun r7 => pd_l qr7.2 fun F5 =>
  pd_i (pd_ob sh 4 (F5 x0 5) = true) <|
  Option.bind (pfX4_claimsOf sh n F5 (F5 x0 5) 1) fun qr10 => pd_l qr10.1 fun r10 => pd_l qr10.2 fun F8 =>
  if x1 = 0 then
    some (r4, F8)
  else
    if x1 = 1 then
      if r7 ≠ 0 then
        some (pd_W (r4 + r7), F8)
      else
        some (0, F8)
    else
      if x1 = 2 then
        if r10 ≠ 0 then
          some (pd_W ((pd_W (r4 + r7)) + r10), F8)
        else
          some (0, F8)
      else
        some ((-1), F8)
def pfX11_estate (sh : pd_S) (n : Nat) (F : pd_F) (x0 : Int) (x1 : Int) (x2 : Int) : Option (Int × pd_F) :=
  if x1 < 0 then
    some ((-2), F)
  else
    if x1 ≤ 99999999 then
      if x2 ≠ (-1) then
        pd_i (pd_ob sh 11 x0 = true) <|
        Option.bind (pfX11_isDepositor sh n F x0 x2) fun qr3 => pd_l qr3.1 fun r3 => pd_l qr3.2 fun F1 =>
        if r3 = 0 then
          some ((-2), F1)
        else
          pd_i (pd_ob sh 4 (F1 x0 5) = true) <|
          Option.bind (pfX4_fromEstate sh n F1 (F1 x0 5) x1 x2) fun qr6 => pd_l qr6.1 fun r6 => pd_l qr6.2 fun F4 =>
          some (r6, F4)
      else
        pd_i (pd_ob sh 11 x0 = true) <|
        pd_i (pd_ob sh 4 (F x0 5) = true) <|
        Option.bind (pfX4_paidTogether sh n F (F x0 5)) fun qr10 => pd_l qr10.1 fun r10 => pd_l qr10.2 fun F8 =>
        some (min x1 r10, F8)
    else
      some ((-2), F)
def pfX11_refresh (sh : pd_S) (n : Nat) (F : pd_F) (x0 : Int) : Option pd_F :=
  pd_i (pd_ob sh 11 x0 = true) <|
  pd_i (pd_ob sh 7 (F x0 3) = true) <|
  Option.bind (pfX7_reckon sh n F (F x0 3) (F x0 8) (F x0 4)) fun F2 =>
  pd_i (pd_ob sh 4 (F2 x0 5) = true) <|
  pd_i (pd_ob sh 10 (F2 (F2 x0 5) 0) = true) <|
  Option.bind (pfX10_reckon sh n F2 (F2 (F2 x0 5) 0) (F2 x0 8) (F2 x0 4)) fun F5 =>
  pd_i (pd_ob sh 4 (F5 x0 5) = true) <|
  Option.bind (pfX4_sumUp sh n F5 (F5 x0 5) (F5 x0 8) (F5 x0 4) (F5 x0 3)) fun F7 =>
  some F7
def pfX11_book (sh : pd_S) (n : Nat) (F : pd_F) (x0 : Int) (x1 : Int) : Option (Int × pd_F) :=
  if x1 < 0 then
    some ((-1), F)
  else
    pd_i (pd_ob sh 11 x0 = true) <|
    pd_i (pd_ob sh 9 (F x0 1) = true) <|
    if x1 ≤ (F (F x0 1) 1) then
      pd_i (pd_ob sh 6 (F x0 0) = true) <|
      Option.bind (pfX6_read sh n F (F x0 0) x1) fun qr5 => pd_l qr5.1 fun r5 => pd_l qr5.2 fun F3 =>
      pd_i (pd_ob sh 9 (F3 x0 1) = true) <|
      pd_l (pd_up F3 (F3 x0 1) 1 0) fun F7 =>
      if r5 ≤ 0 then
        some (r5, F7)
      else
        pd_i (pd_ob sh 6 (F7 x0 0) = true) <|
        Option.bind (pfX6_trade sh n F7 (F7 x0 0) (F7 x0 8)) fun qr10 => pd_l qr10.1 fun r10 => pd_l qr10.2 fun F8 =>
        pd_l (pd_up F8 x0 8 r10) fun F11 =>
        pd_l (pd_up F11 x0 9 1) fun F12 =>
        pd_i (pd_ob sh 8 (F12 x0 4) = true) <|
        Option.bind (pfX8_begin sh n F12 (F12 x0 4) (F12 x0 8)) fun F13 =>
        pd_i (pd_ob sh 3 (F13 x0 2) = true) <|
        Option.bind (pfX3_forget sh n F13 (F13 x0 2)) fun F15 =>
        Option.bind (pfX11_refresh sh n F15 x0) fun F17 =>
        some (r5, F17)
    else
      some ((-1), F)
def pfX11_balance (sh : pd_S) (n : Nat) (F : pd_F) (x0 : Int) (x1 : Int) (x2 : Int) : Option (Int × pd_F) :=
  pd_i (pd_ob sh 11 x0 = true) <|
  Option.bind (pfX11_isAccount sh n F x0 x1) fun qr3 => pd_l qr3.1 fun r3 => pd_l qr3.2 fun F1 =>
  if r3 = 0 then
    some ((-1), F1)
  else
    if x2 < 0 then
      some ((-1), F1)
    else
      if x2 ≤ 9999999 then
        pd_i (pd_ob sh 8 (F1 x0 4) = true) <|
        pd_i (pd_ib sh 0 0 (F1 (F1 x0 4) 0) x1 = true) <|
        pd_l (F1 (F1 (F1 x0 4) 0) x1) fun x3_30 =>
        pd_i (pd_ob sh 3 (F1 x0 2) = true) <|
        Option.bind (pfX3_remember sh n F1 (F1 x0 2) (F1 x0 4)) fun F6 =>
        pd_i (pd_ob sh 8 (F6 x0 4) = true) <|
        pd_i (pd_ib sh 0 0 (F6 (F6 x0 4) 0) x1 = true) <|
        pd_l (pd_up F6 (F6 (F6 x0 4) 0) x1 x2) fun F10 =>
        Option.bind (pfX11_refresh sh n F10 x0) fun F11 =>
        some (x3_30, F11)
      else
        some ((-1), F1)
def pfX11_join (sh : pd_S) (n : Nat) (F : pd_F) (x0 : Int) (x1 : Int) (x2 : Int) : Option (Int × pd_F) :=
  pd_i (pd_ob sh 11 x0 = true) <|
  Option.bind (pfX11_areTwo sh n F x0 x1 x2) fun qr3 => pd_l qr3.1 fun r3 => pd_l qr3.2 fun F1 =>
  if r3 = 0 then
    some ((-1), F1)
  else
    pd_i (pd_ob sh 8 (F1 x0 4) = true) <|
    if (F1 (F1 x0 4) 4) < 30 then
      pd_i (pd_ob sh 3 (F1 x0 2) = true) <|
      Option.bind (pfX3_remember sh n F1 (F1 x0 2) (F1 x0 4)) fun F5 =>
      pd_i (pd_ob sh 8 (F5 x0 4) = true) <|
      Option.bind (pfX8_addJoin sh n F5 (F5 x0 4) x1 x2) fun F7 =>
      Option.bind (pfX11_refresh sh n F7 x0) fun F9 =>
      pd_i (pd_ob sh 4 (F9 x0 5) = true) <|
      pd_i (pd_ob sh 10 (F9 (F9 x0 5) 0) = true) <|
      some (F9 (F9 (F9 x0 5) 0) 3, F9)
    else
      some ((-1), F1)
def pfX11_tell (sh : pd_S) (n : Nat) (F : pd_F) (x0 : Int) (x1 : Int) (x2 : Int) : Option (Int × pd_F) :=
  pd_i (pd_ob sh 11 x0 = true) <|
  if (F x0 9) = 0 then
    some ((-1), F)
  else
    if x1 < 0 then
      some ((-1), F)
    else
      if x1 ≥ 3 then
        some ((-1), F)
      else
        if x2 < 0 then
          some ((-1), F)
        else
          Option.bind (pfX11_greatestOf sh n F x1) fun qr3 => pd_l qr3.1 fun r3 => pd_l qr3.2 fun F2 =>
          if x2 ≤ r3 then
            pd_i (pd_ob sh 8 (F2 x0 4) = true) <|
            pd_i (pd_ib sh 0 0 (F2 (F2 x0 4) 1) x1 = true) <|
            pd_l (F2 (F2 (F2 x0 4) 1) x1) fun x3_39 =>
            pd_i (pd_ob sh 3 (F2 x0 2) = true) <|
            Option.bind (pfX3_remember sh n F2 (F2 x0 2) (F2 x0 4)) fun F6 =>
            pd_i (pd_ob sh 8 (F6 x0 4) = true) <|
            pd_i (pd_ib sh 0 0 (F6 (F6 x0 4) 1) x1 = true) <|
            pd_l (pd_up F6 (F6 (F6 x0 4) 1) x1 x2) fun F10 =>
            Option.bind (pfX11_refresh sh n F10 x0) fun F11 =>
            some (x3_39, F11)
          else
            some ((-1), F2)
def pfX11_mark (sh : pd_S) (n : Nat) (F : pd_F) (x0 : Int) (x1 : Int) (x2 : Int) : Option (Int × pd_F) :=
  pd_i (pd_ob sh 11 x0 = true) <|
  pd_i (pd_ob sh 0 (F x0 8) = true) <|
  Option.bind (pfX0_indexOfMark sh n F (F x0 8) x1) fun qr4 => pd_l qr4.1 fun r4 => pd_l qr4.2 fun F2 =>
  if r4 ≠ (-1) then
    pd_i (pd_ob sh 3 (F2 x0 2) = true) <|
    Option.bind (pfX3_remember sh n F2 (F2 x0 2) (F2 x0 4)) fun F5 =>
    pd_i (pd_ob sh 8 (F5 x0 4) = true) <|
    Option.bind (pfX8_leaveOut sh n F5 (F5 x0 4) r4 x2) fun F7 =>
    Option.bind (pfX11_refresh sh n F7 x0) fun F9 =>
    some (1, F9)
  else
    some (0, F2)
def pfX11_share (sh : pd_S) (n : Nat) (F : pd_F) (x0 : Int) (x1 : Int) (x2 : Int) : Option (Int × pd_F) :=
  pd_i (pd_ob sh 11 x0 = true) <|
  Option.bind (pfX11_isAccount sh n F x0 x1) fun qr3 => pd_l qr3.1 fun r3 => pd_l qr3.2 fun F1 =>
  if r3 = 0 then
    none
  else
    Option.bind (pfX11_isPerson sh n F1 x0 x2) fun qr5 => pd_l qr5.1 fun r5 => pd_l qr5.2 fun F4 =>
    if r5 ≠ 0 then
      pd_i (pd_ob sh 7 (F4 x0 3) = true) <|
      pd_i (pd_ib sh 3 0 (F4 (F4 x0 3) 0) x1 = true) <|
      pd_i (pd_ib sh 0 0 (F4 (F4 (F4 x0 3) 0) x1) x2 = true) <|
      some (F4 (F4 (F4 (F4 x0 3) 0) x1) x2, F4)
    else
      none
set_option maxHeartbeats 4000000 in
set_option maxRecDepth 100000 in
theorem pkX11_count (l : Launch) {al : Bool} {sh : pd_S} {n : Nat} {F : pd_F} {x0 : Int} {x1 : Int} {ρ : Int} {Fz : pd_F} (hf : pfX11_count sh n F x0 x1 = some (ρ, Fz)) : pd_C l yX11_count (Cond.code yX11_count cX11_count 2 (some .int) :: pd_gt) (pd_rm 2 0 0) al 0 0 sh F [pd_R x0, pd_I x1] (some (pd_I ρ)) sh Fz := by
  unfold pfX11_count at hf
  refine pd_body (L := [pd_R x0, pd_I x1]) (by decide +kernel) (Nat.le_of_ble_eq_true rfl) rfl (fun E => ?_)
  refine pd_iload_n (i := 1) dX11_count_0 rfl rfl ?_
  by_cases hv0 : x1 = 0
  · have hf := pd_ip hf hv0
    refine pd_tabE (v := 0) (off := 63) (tgt := 64) dX11_count_1 hv0 (by decide) (by decide) (by decide) (by decide) ?_
    refine pd_aload_n (i := 0) dX11_count_64 rfl rfl ?_
    obtain ⟨hg1, hf⟩ := pd_ig hf
    refine pd_get (x := pd_R (F x0 8)) 8 dX11_count_65 (show vwCl[11]? = some (RX11, TX11, 10) from rfl) pin_11 (by decide) pq_617 hg1 rfl ?_
    obtain ⟨hg2, hf⟩ := pd_ig hf
    refine pd_getN (x := pd_I (F (F x0 8) 9)) 9 dX11_count_68 (show vwCl[0]? = some (RX0, TX0, 15) from rfl) pin_0 (by decide) pq_618 hg2 rfl ?_
    obtain ⟨h1, h2⟩ := pd_inj hf
    subst h1 h2
    exact pd_iret dX11_count_71 rfl (Nat.le_refl 0) (Nat.le_refl 0)
  · have hf := pd_in_ hf hv0
    by_cases hv1 : x1 = 1
    · have hf := pd_ip hf hv1
      refine pd_tabE (v := 1) (off := 71) (tgt := 72) dX11_count_1 hv1 (by decide) (by decide) (by decide) (by decide) ?_
      refine pd_aload_n (i := 0) dX11_count_72 rfl rfl ?_
      obtain ⟨hg3, hf⟩ := pd_ig hf
      refine pd_get (x := pd_R (F x0 8)) 8 dX11_count_73 (show vwCl[11]? = some (RX11, TX11, 10) from rfl) pin_11 (by decide) pq_617 hg3 rfl ?_
      obtain ⟨hg4, hf⟩ := pd_ig hf
      refine pd_getN (x := pd_I (F (F x0 8) 10)) 10 dX11_count_76 (show vwCl[0]? = some (RX0, TX0, 15) from rfl) pin_0 (by decide) pq_619 hg4 rfl ?_
      obtain ⟨h1, h2⟩ := pd_inj hf
      subst h1 h2
      exact pd_iret dX11_count_79 rfl (Nat.le_refl 0) (Nat.le_refl 0)
    · have hf := pd_in_ hf hv1
      by_cases hv2 : x1 = 2
      · have hf := pd_ip hf hv2
        refine pd_tabE (v := 2) (off := 79) (tgt := 80) dX11_count_1 hv2 (by decide) (by decide) (by decide) (by decide) ?_
        refine pd_aload_n (i := 0) dX11_count_80 rfl rfl ?_
        obtain ⟨hg5, hf⟩ := pd_ig hf
        refine pd_get (x := pd_R (F x0 8)) 8 dX11_count_81 (show vwCl[11]? = some (RX11, TX11, 10) from rfl) pin_11 (by decide) pq_617 hg5 rfl ?_
        obtain ⟨hg6, hf⟩ := pd_ig hf
        refine pd_getN (x := pd_I (F (F x0 8) 11)) 11 dX11_count_84 (show vwCl[0]? = some (RX0, TX0, 15) from rfl) pin_0 (by decide) pq_620 hg6 rfl ?_
        obtain ⟨h1, h2⟩ := pd_inj hf
        subst h1 h2
        exact pd_iret dX11_count_87 rfl (Nat.le_refl 0) (Nat.le_refl 0)
      · have hf := pd_in_ hf hv2
        by_cases hv3 : x1 = 3
        · have hf := pd_ip hf hv3
          refine pd_tabE (v := 3) (off := 87) (tgt := 88) dX11_count_1 hv3 (by decide) (by decide) (by decide) (by decide) ?_
          refine pd_aload_n (i := 0) dX11_count_88 rfl rfl ?_
          obtain ⟨hg7, hf⟩ := pd_ig hf
          refine pd_get (x := pd_R (F x0 8)) 8 dX11_count_89 (show vwCl[11]? = some (RX11, TX11, 10) from rfl) pin_11 (by decide) pq_617 hg7 rfl ?_
          obtain ⟨hg8, hf⟩ := pd_ig hf
          refine pd_getN (x := pd_I (F (F x0 8) 12)) 12 dX11_count_92 (show vwCl[0]? = some (RX0, TX0, 15) from rfl) pin_0 (by decide) pq_621 hg8 rfl ?_
          obtain ⟨h1, h2⟩ := pd_inj hf
          subst h1 h2
          exact pd_iret dX11_count_95 rfl (Nat.le_refl 0) (Nat.le_refl 0)
        · have hf := pd_in_ hf hv3
          by_cases hv4 : x1 = 4
          · have hf := pd_ip hf hv4
            refine pd_tabE (v := 4) (off := 95) (tgt := 96) dX11_count_1 hv4 (by decide) (by decide) (by decide) (by decide) ?_
            refine pd_aload_n (i := 0) dX11_count_96 rfl rfl ?_
            obtain ⟨hg9, hf⟩ := pd_ig hf
            refine pd_get (x := pd_R (F x0 8)) 8 dX11_count_97 (show vwCl[11]? = some (RX11, TX11, 10) from rfl) pin_11 (by decide) pq_617 hg9 rfl ?_
            obtain ⟨hg10, hf⟩ := pd_ig hf
            refine pd_getN (x := pd_I (F (F x0 8) 13)) 13 dX11_count_100 (show vwCl[0]? = some (RX0, TX0, 15) from rfl) pin_0 (by decide) pq_622 hg10 rfl ?_
            obtain ⟨h1, h2⟩ := pd_inj hf
            subst h1 h2
            exact pd_iret dX11_count_103 rfl (Nat.le_refl 0) (Nat.le_refl 0)
          · have hf := pd_in_ hf hv4
            by_cases hv5 : x1 = 5
            · have hf := pd_ip hf hv5
              refine pd_tabE (v := 5) (off := 103) (tgt := 104) dX11_count_1 hv5 (by decide) (by decide) (by decide) (by decide) ?_
              refine pd_aload_n (i := 0) dX11_count_104 rfl rfl ?_
              obtain ⟨hg11, hf⟩ := pd_ig hf
              refine pd_get (x := pd_R (F x0 4)) 4 dX11_count_105 (show vwCl[11]? = some (RX11, TX11, 10) from rfl) pin_11 (by decide) pq_623 hg11 rfl ?_
              obtain ⟨hg12, hf⟩ := pd_ig hf
              refine pd_getN (x := pd_R (F (F x0 4) 1)) 1 dX11_count_108 (show vwCl[8]? = some (RX8, TX8, 6) from rfl) pin_8 (by decide) pq_624 hg12 rfl ?_
              refine pd_iconst dX11_count_111 (by decide) ?_
              obtain ⟨hg13, hf⟩ := pd_ig hf
              refine pd_iald dX11_count_112 hg13 ?_
              obtain ⟨h1, h2⟩ := pd_inj hf
              subst h1 h2
              exact pd_iret dX11_count_113 rfl (Nat.le_refl 0) (Nat.le_refl 0)
            · have hf := pd_in_ hf hv5
              by_cases hv6 : x1 = 6
              · have hf := pd_ip hf hv6
                refine pd_tabE (v := 6) (off := 113) (tgt := 114) dX11_count_1 hv6 (by decide) (by decide) (by decide) (by decide) ?_
                refine pd_aload_n (i := 0) dX11_count_114 rfl rfl ?_
                obtain ⟨hg14, hf⟩ := pd_ig hf
                refine pd_get (x := pd_R (F x0 4)) 4 dX11_count_115 (show vwCl[11]? = some (RX11, TX11, 10) from rfl) pin_11 (by decide) pq_623 hg14 rfl ?_
                obtain ⟨hg15, hf⟩ := pd_ig hf
                refine pd_getN (x := pd_R (F (F x0 4) 1)) 1 dX11_count_118 (show vwCl[8]? = some (RX8, TX8, 6) from rfl) pin_8 (by decide) pq_624 hg15 rfl ?_
                refine pd_iconst dX11_count_121 (by decide) ?_
                obtain ⟨hg16, hf⟩ := pd_ig hf
                refine pd_iald dX11_count_122 hg16 ?_
                obtain ⟨h1, h2⟩ := pd_inj hf
                subst h1 h2
                exact pd_iret dX11_count_123 rfl (Nat.le_refl 0) (Nat.le_refl 0)
              · have hf := pd_in_ hf hv6
                by_cases hv7 : x1 = 7
                · have hf := pd_ip hf hv7
                  refine pd_tabE (v := 7) (off := 123) (tgt := 124) dX11_count_1 hv7 (by decide) (by decide) (by decide) (by decide) ?_
                  refine pd_aload_n (i := 0) dX11_count_124 rfl rfl ?_
                  obtain ⟨hg17, hf⟩ := pd_ig hf
                  refine pd_get (x := pd_R (F x0 4)) 4 dX11_count_125 (show vwCl[11]? = some (RX11, TX11, 10) from rfl) pin_11 (by decide) pq_623 hg17 rfl ?_
                  obtain ⟨hg18, hf⟩ := pd_ig hf
                  refine pd_getN (x := pd_R (F (F x0 4) 1)) 1 dX11_count_128 (show vwCl[8]? = some (RX8, TX8, 6) from rfl) pin_8 (by decide) pq_624 hg18 rfl ?_
                  refine pd_iconst dX11_count_131 (by decide) ?_
                  obtain ⟨hg19, hf⟩ := pd_ig hf
                  refine pd_iald dX11_count_132 hg19 ?_
                  obtain ⟨h1, h2⟩ := pd_inj hf
                  subst h1 h2
                  exact pd_iret dX11_count_133 rfl (Nat.le_refl 0) (Nat.le_refl 0)
                · have hf := pd_in_ hf hv7
                  by_cases hv8 : x1 = 8
                  · have hf := pd_ip hf hv8
                    refine pd_tabE (v := 8) (off := 133) (tgt := 134) dX11_count_1 hv8 (by decide) (by decide) (by decide) (by decide) ?_
                    refine pd_aload_n (i := 0) dX11_count_134 rfl rfl ?_
                    obtain ⟨hg20, hf⟩ := pd_ig hf
                    refine pd_get (x := pd_R (F x0 4)) 4 dX11_count_135 (show vwCl[11]? = some (RX11, TX11, 10) from rfl) pin_11 (by decide) pq_623 hg20 rfl ?_
                    obtain ⟨hg21, hf⟩ := pd_ig hf
                    refine pd_getN (x := pd_I (F (F x0 4) 4)) 4 dX11_count_138 (show vwCl[8]? = some (RX8, TX8, 6) from rfl) pin_8 (by decide) pq_625 hg21 rfl ?_
                    obtain ⟨h1, h2⟩ := pd_inj hf
                    subst h1 h2
                    exact pd_iret dX11_count_141 rfl (Nat.le_refl 0) (Nat.le_refl 0)
                  · have hf := pd_in_ hf hv8
                    by_cases hv9 : x1 = 9
                    · have hf := pd_ip hf hv9
                      refine pd_tabE (v := 9) (off := 141) (tgt := 142) dX11_count_1 hv9 (by decide) (by decide) (by decide) (by decide) ?_
                      refine pd_aload_n (i := 0) dX11_count_142 rfl rfl ?_
                      obtain ⟨hg22, hf⟩ := pd_ig hf
                      refine pd_get (x := pd_R (F x0 4)) 4 dX11_count_143 (show vwCl[11]? = some (RX11, TX11, 10) from rfl) pin_11 (by decide) pq_623 hg22 rfl ?_
                      obtain ⟨hg23, hf⟩ := pd_ig hf
                      refine pd_getN (x := pd_J (F (F x0 4) 5)) 5 dX11_count_146 (show vwCl[8]? = some (RX8, TX8, 6) from rfl) pin_8 (by decide) pq_626 hg23 rfl ?_
                      obtain ⟨r25, F24, hr, hf⟩ := pd_ob2 hf
                      refine pd_callS (pkJ13_bitCount_95d88 l hr) dX11_count_149 pq_627 pq_630 (pd_okm (by omega) (by decide) pq_628 pq_629 (by decide) (show (parseMethodDescriptor yJ13_bitCount_95d88.desc).map (fun d => d.parameters.length) = some 1 from by decide +kernel)) (Nat.le_of_ble_eq_true rfl) rfl ?_
                      obtain ⟨h1, h2⟩ := pd_inj hf
                      subst h1 h2
                      exact pd_iret dX11_count_152 rfl (Nat.le_refl 0) (Nat.le_refl 0)
                    · have hf := pd_in_ hf hv9
                      by_cases hv10 : x1 = 10
                      · have hf := pd_ip hf hv10
                        refine pd_tabE (v := 10) (off := 152) (tgt := 153) dX11_count_1 hv10 (by decide) (by decide) (by decide) (by decide) ?_
                        refine pd_aload_n (i := 0) dX11_count_153 rfl rfl ?_
                        obtain ⟨hg26, hf⟩ := pd_ig hf
                        refine pd_get (x := pd_R (F x0 2)) 2 dX11_count_154 (show vwCl[11]? = some (RX11, TX11, 10) from rfl) pin_11 (by decide) pq_631 hg26 rfl ?_
                        obtain ⟨hg27, hf⟩ := pd_ig hf
                        refine pd_getN (x := pd_I (F (F x0 2) 4)) 4 dX11_count_157 (show vwCl[3]? = some (RX3, TX3, 5) from rfl) pin_3 (by decide) pq_632 hg27 rfl ?_
                        obtain ⟨h1, h2⟩ := pd_inj hf
                        subst h1 h2
                        exact pd_iret dX11_count_160 rfl (Nat.le_refl 0) (Nat.le_refl 0)
                      · have hf := pd_in_ hf hv10
                        by_cases hv11 : x1 = 11
                        · have hf := pd_ip hf hv11
                          refine pd_tabE (v := 11) (off := 160) (tgt := 161) dX11_count_1 hv11 (by decide) (by decide) (by decide) (by decide) ?_
                          refine pd_aload_n (i := 0) dX11_count_161 rfl rfl ?_
                          obtain ⟨hg28, hf⟩ := pd_ig hf
                          refine pd_get (x := pd_R (F x0 1)) 1 dX11_count_162 (show vwCl[11]? = some (RX11, TX11, 10) from rfl) pin_11 (by decide) pq_633 hg28 rfl ?_
                          obtain ⟨hg29, hf⟩ := pd_ig hf
                          refine pd_getN (x := pd_I (F (F x0 1) 1)) 1 dX11_count_165 (show vwCl[9]? = some (RX9, TX9, 9) from rfl) pin_9 (by decide) pq_634 hg29 rfl ?_
                          obtain ⟨h1, h2⟩ := pd_inj hf
                          subst h1 h2
                          exact pd_iret dX11_count_168 rfl (Nat.le_refl 0) (Nat.le_refl 0)
                        · have hf := pd_in_ hf hv11
                          refine pd_tabO (tgt := 169) dX11_count_1 (by omega) (by decide) ?_
                          refine pd_iconst dX11_count_169 (by decide) ?_
                          obtain ⟨h1, h2⟩ := pd_inj hf
                          subst h1 h2
                          exact pd_iret dX11_count_170 rfl (Nat.le_refl 0) (Nat.le_refl 0)
set_option maxHeartbeats 4000000 in
set_option maxRecDepth 100000 in
theorem pkX11_isPerson (l : Launch) {al : Bool} {sh : pd_S} {n : Nat} {F : pd_F} {x0 : Int} {x1 : Int} {ρ : Int} {Fz : pd_F} (hf : pfX11_isPerson sh n F x0 x1 = some (ρ, Fz)) : pd_C l yX11_isPerson (Cond.code yX11_isPerson cX11_isPerson 2 (some .boolean) :: pd_gt) (pd_rm 1 0 0) al 0 0 sh F [pd_R x0, pd_I x1] (some (pd_I ρ)) sh Fz := by
  unfold pfX11_isPerson at hf
  refine pd_body (L := [pd_R x0, pd_I x1]) (by decide +kernel) (Nat.le_of_ble_eq_true rfl) rfl (fun E => ?_)
  refine pd_iload_n (i := 1) dX11_isPerson_0 rfl rfl ?_
  refine pd_if_lt (tgt := 19) dX11_isPerson_1 (by decide) (fun hc => ?_) (fun hc => ?_)
  · have hf := pd_ip hf hc
    refine pd_iconst dX11_isPerson_19 (by decide) ?_
    obtain ⟨h1, h2⟩ := pd_inj hf
    subst h1 h2
    exact pd_zret dX11_isPerson_20 rfl (by decide) (Nat.le_refl 0) (Nat.le_refl 0)
  · have hf := pd_in_ hf hc
    refine pd_iload_n (i := 1) dX11_isPerson_4 rfl rfl ?_
    refine pd_aload_n (i := 0) dX11_isPerson_5 rfl rfl ?_
    obtain ⟨hg1, hf⟩ := pd_ig hf
    refine pd_get (x := pd_R (F x0 8)) 8 dX11_isPerson_6 (show vwCl[11]? = some (RX11, TX11, 10) from rfl) pin_11 (by decide) pq_617 hg1 rfl ?_
    obtain ⟨hg2, hf⟩ := pd_ig hf
    refine pd_getN (x := pd_I (F (F x0 8) 9)) 9 dX11_isPerson_9 (show vwCl[0]? = some (RX0, TX0, 15) from rfl) pin_0 (by decide) pq_618 hg2 rfl ?_
    refine pd_icmp_ge (tgt := 19) dX11_isPerson_12 (by decide) (fun hc => ?_) (fun hc => ?_)
    · have hf := pd_ip hf hc
      refine pd_iconst dX11_isPerson_19 (by decide) ?_
      obtain ⟨h1, h2⟩ := pd_inj hf
      subst h1 h2
      exact pd_zret dX11_isPerson_20 rfl (by decide) (Nat.le_refl 0) (Nat.le_refl 0)
    · have hf := pd_in_ hf hc
      refine pd_iconst dX11_isPerson_15 (by decide) ?_
      refine pd_goto (tgt := 20) dX11_isPerson_16 (by decide) ?_
      obtain ⟨h1, h2⟩ := pd_inj hf
      subst h1 h2
      exact pd_zret dX11_isPerson_20 rfl (by decide) (Nat.le_refl 0) (Nat.le_refl 0)
set_option maxHeartbeats 4000000 in
set_option maxRecDepth 100000 in
theorem pkX11_isAccount (l : Launch) {al : Bool} {sh : pd_S} {n : Nat} {F : pd_F} {x0 : Int} {x1 : Int} {ρ : Int} {Fz : pd_F} (hf : pfX11_isAccount sh n F x0 x1 = some (ρ, Fz)) : pd_C l yX11_isAccount (Cond.code yX11_isAccount cX11_isAccount 2 (some .boolean) :: pd_gt) (pd_rm 1 0 0) al 0 0 sh F [pd_R x0, pd_I x1] (some (pd_I ρ)) sh Fz := by
  unfold pfX11_isAccount at hf
  refine pd_body (L := [pd_R x0, pd_I x1]) (by decide +kernel) (Nat.le_of_ble_eq_true rfl) rfl (fun E => ?_)
  refine pd_iload_n (i := 1) dX11_isAccount_0 rfl rfl ?_
  refine pd_if_lt (tgt := 19) dX11_isAccount_1 (by decide) (fun hc => ?_) (fun hc => ?_)
  · have hf := pd_ip hf hc
    refine pd_iconst dX11_isAccount_19 (by decide) ?_
    obtain ⟨h1, h2⟩ := pd_inj hf
    subst h1 h2
    exact pd_zret dX11_isAccount_20 rfl (by decide) (Nat.le_refl 0) (Nat.le_refl 0)
  · have hf := pd_in_ hf hc
    refine pd_iload_n (i := 1) dX11_isAccount_4 rfl rfl ?_
    refine pd_aload_n (i := 0) dX11_isAccount_5 rfl rfl ?_
    obtain ⟨hg1, hf⟩ := pd_ig hf
    refine pd_get (x := pd_R (F x0 8)) 8 dX11_isAccount_6 (show vwCl[11]? = some (RX11, TX11, 10) from rfl) pin_11 (by decide) pq_617 hg1 rfl ?_
    obtain ⟨hg2, hf⟩ := pd_ig hf
    refine pd_getN (x := pd_I (F (F x0 8) 11)) 11 dX11_isAccount_9 (show vwCl[0]? = some (RX0, TX0, 15) from rfl) pin_0 (by decide) pq_620 hg2 rfl ?_
    refine pd_icmp_ge (tgt := 19) dX11_isAccount_12 (by decide) (fun hc => ?_) (fun hc => ?_)
    · have hf := pd_ip hf hc
      refine pd_iconst dX11_isAccount_19 (by decide) ?_
      obtain ⟨h1, h2⟩ := pd_inj hf
      subst h1 h2
      exact pd_zret dX11_isAccount_20 rfl (by decide) (Nat.le_refl 0) (Nat.le_refl 0)
    · have hf := pd_in_ hf hc
      refine pd_iconst dX11_isAccount_15 (by decide) ?_
      refine pd_goto (tgt := 20) dX11_isAccount_16 (by decide) ?_
      obtain ⟨h1, h2⟩ := pd_inj hf
      subst h1 h2
      exact pd_zret dX11_isAccount_20 rfl (by decide) (Nat.le_refl 0) (Nat.le_refl 0)
set_option maxHeartbeats 4000000 in
set_option maxRecDepth 100000 in
theorem pkX11_isDepositor (l : Launch) {al : Bool} {sh : pd_S} {n : Nat} {F : pd_F} {x0 : Int} {x1 : Int} {ρ : Int} {Fz : pd_F} (hf : pfX11_isDepositor sh n F x0 x1 = some (ρ, Fz)) : pd_C l yX11_isDepositor (Cond.code yX11_isDepositor cX11_isDepositor 2 (some .boolean) :: pd_gt) (pd_rm 1 0 0) al 0 0 sh F [pd_R x0, pd_I x1] (some (pd_I ρ)) sh Fz := by
  unfold pfX11_isDepositor at hf
  refine pd_body (L := [pd_R x0, pd_I x1]) (by decide +kernel) (Nat.le_of_ble_eq_true rfl) rfl (fun E => ?_)
  refine pd_iload_n (i := 1) dX11_isDepositor_0 rfl rfl ?_
  refine pd_if_lt (tgt := 22) dX11_isDepositor_1 (by decide) (fun hc => ?_) (fun hc => ?_)
  · have hf := pd_ip hf hc
    refine pd_iconst dX11_isDepositor_22 (by decide) ?_
    obtain ⟨h1, h2⟩ := pd_inj hf
    subst h1 h2
    exact pd_zret dX11_isDepositor_23 rfl (by decide) (Nat.le_refl 0) (Nat.le_refl 0)
  · have hf := pd_in_ hf hc
    refine pd_iload_n (i := 1) dX11_isDepositor_4 rfl rfl ?_
    refine pd_aload_n (i := 0) dX11_isDepositor_5 rfl rfl ?_
    obtain ⟨hg1, hf⟩ := pd_ig hf
    refine pd_get (x := pd_R (F x0 5)) 5 dX11_isDepositor_6 (show vwCl[11]? = some (RX11, TX11, 10) from rfl) pin_11 (by decide) pq_635 hg1 rfl ?_
    obtain ⟨hg2, hf⟩ := pd_ig hf
    refine pd_getN (x := pd_R (F (F x0 5) 0)) 0 dX11_isDepositor_9 (show vwCl[4]? = some (RX4, TX4, 7) from rfl) pin_4 (by decide) pq_636 hg2 rfl ?_
    obtain ⟨hg3, hf⟩ := pd_ig hf
    refine pd_getN (x := pd_I (F (F (F x0 5) 0) 3)) 3 dX11_isDepositor_12 (show vwCl[10]? = some (RX10, TX10, 4) from rfl) pin_10 (by decide) pq_637 hg3 rfl ?_
    refine pd_icmp_ge (tgt := 22) dX11_isDepositor_15 (by decide) (fun hc => ?_) (fun hc => ?_)
    · have hf := pd_ip hf hc
      refine pd_iconst dX11_isDepositor_22 (by decide) ?_
      obtain ⟨h1, h2⟩ := pd_inj hf
      subst h1 h2
      exact pd_zret dX11_isDepositor_23 rfl (by decide) (Nat.le_refl 0) (Nat.le_refl 0)
    · have hf := pd_in_ hf hc
      refine pd_iconst dX11_isDepositor_18 (by decide) ?_
      refine pd_goto (tgt := 23) dX11_isDepositor_19 (by decide) ?_
      obtain ⟨h1, h2⟩ := pd_inj hf
      subst h1 h2
      exact pd_zret dX11_isDepositor_23 rfl (by decide) (Nat.le_refl 0) (Nat.le_refl 0)
set_option maxHeartbeats 4000000 in
set_option maxRecDepth 100000 in
theorem pkX11_frozenBalances_b43 (E : pd_E) (l : Launch) {al : Bool} {sh : pd_S} {n : Nat} {ρ : Int} {Fz : pd_F} {c4 : pd_F → Int → Int → Int → Option (Int × pd_F)} (hL4 : ∀ (F : pd_F) (x0 : Int) (x1 : Int) (x3 : Int), c4 F x0 x1 x3 = some (ρ, Fz) → pd_V E l (pd_rm 1 0 0) (RX11, cX11_frozenBalances, 4, (some .long), "frozenBalances") (pd_Qm E al (some (pd_J ρ)) sh Fz 0 0) al 0 0 sh F 4 [pd_R x0, pd_J x1, pd_N, pd_I x3] []) (F : pd_F) (x0 : Int) (x1 : Int) (x3 : Int) (hf : pfX11_frozenBalances_b43 sh n c4 F x0 x1 x3 = some (ρ, Fz)) : pd_V E l (pd_rm 1 0 0) (RX11, cX11_frozenBalances, 4, (some .long), "frozenBalances") (pd_Qm E al (some (pd_J ρ)) sh Fz 0 0) al 0 0 sh F 43 [pd_R x0, pd_J x1, pd_N, pd_I x3] [] := by
  unfold pfX11_frozenBalances_b43 at hf
  refine pd_iincN (L' := fun y => [pd_R x0, pd_J x1, pd_N, pd_I y]) dX11_frozenBalances_43 rfl (by decide) (by decide) (fun _ => rfl) (fun x3_43 ex3_43 => ?_)
  have hf := pd_lt hf ex3_43
  clear ex3_43
  refine pd_goto (tgt := 4) dX11_frozenBalances_46 (by decide) ?_
  exact pd_weak (L' := [pd_R x0, pd_J x1, pd_N, pd_I x3_43]) ⟨Or.inr rfl, Or.inr rfl, Or.inr rfl, Or.inr rfl, trivial⟩ (hL4 _ _ _ _ hf)
set_option maxHeartbeats 4000000 in
set_option maxRecDepth 100000 in
theorem pkX11_frozenBalances_b4 (E : pd_E) (l : Launch) {al : Bool} {sh : pd_S} {n : Nat} {ρ : Int} {Fz : pd_F}  : ∀ (k : Nat) (F : pd_F) (x0 : Int) (x1 : Int) (x3 : Int), pfX11_frozenBalances_b4 sh n  k F x0 x1 x3 = some (ρ, Fz) → pd_V E l (pd_rm 1 0 0) (RX11, cX11_frozenBalances, 4, (some .long), "frozenBalances") (pd_Qm E al (some (pd_J ρ)) sh Fz 0 0) al 0 0 sh F 4 [pd_R x0, pd_J x1, pd_N, pd_I x3] [] := by
  intro k
  induction k with
  | zero => intro F x0 x1 x3 hf; exact absurd hf (by unfold pfX11_frozenBalances_b4; exact fun h => nomatch h)
  | succ k ih =>
    intro F x0 x1 x3 hf
    unfold pfX11_frozenBalances_b4 at hf
    refine pd_iload_n (i := 3) dX11_frozenBalances_4 rfl rfl ?_
    refine pd_aload_n (i := 0) dX11_frozenBalances_5 rfl rfl ?_
    obtain ⟨hg1, hf⟩ := pd_ig hf
    refine pd_get (x := pd_R (F x0 8)) 8 dX11_frozenBalances_6 (show vwCl[11]? = some (RX11, TX11, 10) from rfl) pin_11 (by decide) pq_617 hg1 rfl ?_
    obtain ⟨hg2, hf⟩ := pd_ig hf
    refine pd_getN (x := pd_I (F (F x0 8) 11)) 11 dX11_frozenBalances_9 (show vwCl[0]? = some (RX0, TX0, 15) from rfl) pin_0 (by decide) pq_620 hg2 rfl ?_
    refine pd_icmp_ge (tgt := 49) dX11_frozenBalances_12 (by decide) (fun hc => ?_) (fun hc => ?_)
    · have hf := pd_ip hf hc
      refine pd_lload_n (i := 1) dX11_frozenBalances_49 rfl rfl ?_
      obtain ⟨h1, h2⟩ := pd_inj hf
      subst h1 h2
      exact pd_lret dX11_frozenBalances_50 rfl (Nat.le_refl 0) (Nat.le_refl 0)
    · have hf := pd_in_ hf hc
      refine pd_aload_n (i := 0) dX11_frozenBalances_15 rfl rfl ?_
      refine pd_get (x := pd_R (F x0 8)) 8 dX11_frozenBalances_16 (show vwCl[11]? = some (RX11, TX11, 10) from rfl) pin_11 (by decide) pq_617 hg1 rfl ?_
      refine pd_getN (x := pd_R (F (F x0 8) 2)) 2 dX11_frozenBalances_19 (show vwCl[0]? = some (RX0, TX0, 15) from rfl) pin_0 (by decide) pq_638 hg2 rfl ?_
      refine pd_iload_n (i := 3) dX11_frozenBalances_22 rfl rfl ?_
      obtain ⟨hg3, hf⟩ := pd_ig hf
      refine pd_aald dX11_frozenBalances_23 hg3 ?_
      obtain ⟨hg4, hf⟩ := pd_ig hf
      refine pd_getN (x := pd_I (F (F (F (F x0 8) 2) x3) 7)) 7 dX11_frozenBalances_24 (show vwCl[2]? = some (RX2, TX2, 8) from rfl) pin_2 (by decide) pq_639 hg4 rfl ?_
      refine pd_if_eq (tgt := 43) dX11_frozenBalances_27 (by decide) (fun hc => ?_) (fun hc => ?_)
      · have hf := pd_ip hf hc
        exact pd_weak (L' := [pd_R x0, pd_J x1, pd_N, pd_I x3]) ⟨Or.inr rfl, Or.inr rfl, Or.inr rfl, Or.inr rfl, trivial⟩ (pkX11_frozenBalances_b43 E l ih _ _ _ _ hf)
      · have hf := pd_in_ hf hc
        refine pd_lload_n (i := 1) dX11_frozenBalances_30 rfl rfl ?_
        refine pd_aload_n (i := 0) dX11_frozenBalances_31 rfl rfl ?_
        refine pd_get (x := pd_R (F x0 4)) 4 dX11_frozenBalances_32 (show vwCl[11]? = some (RX11, TX11, 10) from rfl) pin_11 (by decide) pq_623 hg1 rfl ?_
        obtain ⟨hg5, hf⟩ := pd_ig hf
        refine pd_getN (x := pd_R (F (F x0 4) 0)) 0 dX11_frozenBalances_35 (show vwCl[8]? = some (RX8, TX8, 6) from rfl) pin_8 (by decide) pq_640 hg5 rfl ?_
        refine pd_iload_n (i := 3) dX11_frozenBalances_38 rfl rfl ?_
        obtain ⟨hg6, hf⟩ := pd_ig hf
        refine pd_iald dX11_frozenBalances_39 hg6 ?_
        refine pd_i2l dX11_frozenBalances_40 ?_
        refine pd_ladd dX11_frozenBalances_41 ?_
        refine pd_topJ (fun x1_42 ex1_42 => ?_)
        have hf := pd_lt hf ex1_42
        clear ex1_42
        refine pd_lstore_n (L' := [pd_R x0, pd_J x1_42, pd_N, pd_I x3]) dX11_frozenBalances_42 rfl (by decide) rfl ?_
        exact pd_weak (L' := [pd_R x0, pd_J x1_42, pd_N, pd_I x3]) ⟨Or.inr rfl, Or.inr rfl, Or.inr rfl, Or.inr rfl, trivial⟩ (pkX11_frozenBalances_b43 E l ih _ _ _ _ hf)
set_option maxHeartbeats 4000000 in
set_option maxRecDepth 100000 in
theorem pkX11_frozenBalances (l : Launch) {al : Bool} {sh : pd_S} {n : Nat} {F : pd_F} {x0 : Int} {ρ : Int} {Fz : pd_F} (hf : pfX11_frozenBalances sh n F x0 = some (ρ, Fz)) : pd_C l yX11_frozenBalances (Cond.code yX11_frozenBalances cX11_frozenBalances 4 (some .long) :: pd_gt) (pd_rm 1 0 0) al 0 0 sh F [pd_R x0] (some (pd_J ρ)) sh Fz := by
  unfold pfX11_frozenBalances at hf
  refine pd_body (L := [pd_R x0, pd_N, pd_N, pd_N]) (by decide +kernel) (Nat.le_of_ble_eq_true rfl) rfl (fun E => ?_)
  refine pd_lconst (x := 0) dX11_frozenBalances_0 (by decide) ?_
  refine pd_lstore_n (L' := [pd_R x0, pd_J 0, pd_N, pd_N]) dX11_frozenBalances_1 rfl (by decide) rfl ?_
  refine pd_iconst dX11_frozenBalances_2 (by decide) ?_
  refine pd_istore_n (L' := [pd_R x0, pd_J 0, pd_N, pd_I 0]) dX11_frozenBalances_3 rfl (by decide) rfl ?_
  exact pd_weak (L' := [pd_R x0, pd_J 0, pd_N, pd_I 0]) ⟨Or.inr rfl, Or.inr rfl, Or.inr rfl, Or.inr rfl, trivial⟩ (pkX11_frozenBalances_b4 E l n _ _ _ _ hf)
set_option maxHeartbeats 4000000 in
set_option maxRecDepth 100000 in
theorem pkX11_feed (l : Launch) {al : Bool} {sh : pd_S} {n : Nat} {F : pd_F} {x0 : Int} {x1 : Int} {x2 : Int} {x3 : Int} {x4 : Int} {x5 : Int} {ρ : Int} {Fz : pd_F} (hf : pfX11_feed sh n F x0 x1 x2 x3 x4 x5 = some (ρ, Fz)) : pd_C l yX11_feed (Cond.code yX11_feed cX11_feed 6 (some .int) :: pd_gt) (pd_rm 2 0 0) al 0 0 sh F [pd_R x0, pd_I x1, pd_I x2, pd_I x3, pd_I x4, pd_I x5] (some (pd_I ρ)) sh Fz := by
  unfold pfX11_feed at hf
  refine pd_body (L := [pd_R x0, pd_I x1, pd_I x2, pd_I x3, pd_I x4, pd_I x5]) (by decide +kernel) (Nat.le_of_ble_eq_true rfl) rfl (fun E => ?_)
  refine pd_aload_n (i := 0) dX11_feed_0 rfl rfl ?_
  obtain ⟨hg1, hf⟩ := pd_ig hf
  refine pd_get (x := pd_R (F x0 1)) 1 dX11_feed_1 (show vwCl[11]? = some (RX11, TX11, 10) from rfl) pin_11 (by decide) pq_633 hg1 rfl ?_
  obtain ⟨hg2, hf⟩ := pd_ig hf
  refine pd_getN (x := pd_I (F (F x0 1) 1)) 1 dX11_feed_4 (show vwCl[9]? = some (RX9, TX9, 9) from rfl) pin_9 (by decide) pq_634 hg2 rfl ?_
  refine pd_bipush dX11_feed_7 (by decide) ?_
  refine pd_iadd dX11_feed_9 ?_
  refine pd_sipush dX11_feed_10 (by decide) ?_
  refine pd_icmp_le (tgt := 18) dX11_feed_13 (by decide) (fun hc => ?_) (fun hc => ?_)
  · have hf := pd_ip hf hc
    refine pd_aload_n (i := 0) dX11_feed_18 rfl rfl ?_
    refine pd_get (x := pd_R (F x0 1)) 1 dX11_feed_19 (show vwCl[11]? = some (RX11, TX11, 10) from rfl) pin_11 (by decide) pq_633 hg1 rfl ?_
    refine pd_iload_n (i := 1) dX11_feed_22 rfl rfl ?_
    obtain ⟨F3, hr, hf⟩ := pd_ob1 hf
    refine pd_callV (pkX9_append l hr) dX11_feed_23 pq_641 pq_644 pq_645 (show vwCl[9]? = some (yX9_append.cls, TX9, 9) from rfl) hg2 (pd_okm (by omega) (by decide) pq_642 pq_643 (by decide) (show (parseMethodDescriptor yX9_append.desc).map (fun d => d.parameters.length) = some 1 from by decide +kernel)) (Nat.le_of_ble_eq_true rfl) rfl ?_
    refine pd_aload_n (i := 0) dX11_feed_26 rfl rfl ?_
    refine pd_get (x := pd_R (F3 x0 1)) 1 dX11_feed_27 (show vwCl[11]? = some (RX11, TX11, 10) from rfl) pin_11 (by decide) pq_633 hg1 rfl ?_
    refine pd_iload_n (i := 2) dX11_feed_30 rfl rfl ?_
    obtain ⟨hg5, hf⟩ := pd_ig hf
    obtain ⟨F4, hr, hf⟩ := pd_ob1 hf
    refine pd_callV (pkX9_append l hr) dX11_feed_31 pq_641 pq_644 pq_645 (show vwCl[9]? = some (yX9_append.cls, TX9, 9) from rfl) hg5 (pd_okm (by omega) (by decide) pq_642 pq_643 (by decide) (show (parseMethodDescriptor yX9_append.desc).map (fun d => d.parameters.length) = some 1 from by decide +kernel)) (Nat.le_of_ble_eq_true rfl) rfl ?_
    refine pd_aload_n (i := 0) dX11_feed_34 rfl rfl ?_
    refine pd_get (x := pd_R (F4 x0 1)) 1 dX11_feed_35 (show vwCl[11]? = some (RX11, TX11, 10) from rfl) pin_11 (by decide) pq_633 hg1 rfl ?_
    refine pd_iload_n (i := 3) dX11_feed_38 rfl rfl ?_
    obtain ⟨hg7, hf⟩ := pd_ig hf
    obtain ⟨F6, hr, hf⟩ := pd_ob1 hf
    refine pd_callV (pkX9_append l hr) dX11_feed_39 pq_641 pq_644 pq_645 (show vwCl[9]? = some (yX9_append.cls, TX9, 9) from rfl) hg7 (pd_okm (by omega) (by decide) pq_642 pq_643 (by decide) (show (parseMethodDescriptor yX9_append.desc).map (fun d => d.parameters.length) = some 1 from by decide +kernel)) (Nat.le_of_ble_eq_true rfl) rfl ?_
    refine pd_aload_n (i := 0) dX11_feed_42 rfl rfl ?_
    refine pd_get (x := pd_R (F6 x0 1)) 1 dX11_feed_43 (show vwCl[11]? = some (RX11, TX11, 10) from rfl) pin_11 (by decide) pq_633 hg1 rfl ?_
    refine pd_iload (i := 4) dX11_feed_46 rfl ?_
    obtain ⟨hg9, hf⟩ := pd_ig hf
    obtain ⟨F8, hr, hf⟩ := pd_ob1 hf
    refine pd_callV (pkX9_append l hr) dX11_feed_48 pq_641 pq_644 pq_645 (show vwCl[9]? = some (yX9_append.cls, TX9, 9) from rfl) hg9 (pd_okm (by omega) (by decide) pq_642 pq_643 (by decide) (show (parseMethodDescriptor yX9_append.desc).map (fun d => d.parameters.length) = some 1 from by decide +kernel)) (Nat.le_of_ble_eq_true rfl) rfl ?_
    refine pd_aload_n (i := 0) dX11_feed_51 rfl rfl ?_
    refine pd_get (x := pd_R (F8 x0 1)) 1 dX11_feed_52 (show vwCl[11]? = some (RX11, TX11, 10) from rfl) pin_11 (by decide) pq_633 hg1 rfl ?_
    refine pd_iload (i := 5) dX11_feed_55 rfl ?_
    obtain ⟨hg11, hf⟩ := pd_ig hf
    obtain ⟨F10, hr, hf⟩ := pd_ob1 hf
    refine pd_callV (pkX9_append l hr) dX11_feed_57 pq_641 pq_644 pq_645 (show vwCl[9]? = some (yX9_append.cls, TX9, 9) from rfl) hg11 (pd_okm (by omega) (by decide) pq_642 pq_643 (by decide) (show (parseMethodDescriptor yX9_append.desc).map (fun d => d.parameters.length) = some 1 from by decide +kernel)) (Nat.le_of_ble_eq_true rfl) rfl ?_
    refine pd_aload_n (i := 0) dX11_feed_60 rfl rfl ?_
    refine pd_get (x := pd_R (F10 x0 1)) 1 dX11_feed_61 (show vwCl[11]? = some (RX11, TX11, 10) from rfl) pin_11 (by decide) pq_633 hg1 rfl ?_
    obtain ⟨hg12, hf⟩ := pd_ig hf
    refine pd_getN (x := pd_I (F10 (F10 x0 1) 1)) 1 dX11_feed_64 (show vwCl[9]? = some (RX9, TX9, 9) from rfl) pin_9 (by decide) pq_634 hg12 rfl ?_
    obtain ⟨h1, h2⟩ := pd_inj hf
    subst h1 h2
    exact pd_iret dX11_feed_67 rfl (Nat.le_refl 0) (Nat.le_refl 0)
  · have hf := pd_in_ hf hc
    refine pd_iconst dX11_feed_16 (by decide) ?_
    obtain ⟨h1, h2⟩ := pd_inj hf
    subst h1 h2
    exact pd_iret dX11_feed_17 rfl (Nat.le_refl 0) (Nat.le_refl 0)
set_option maxHeartbeats 4000000 in
set_option maxRecDepth 100000 in
theorem pkX11_person (l : Launch) {al : Bool} {sh : pd_S} {n : Nat} {F : pd_F} {x0 : Int} {x1 : Int} {x2 : Int} {ρ : Int} {Fz : pd_F} (hf : pfX11_person sh n F x0 x1 x2 = some (ρ, Fz)) : pd_C l yX11_person (Cond.code yX11_person cX11_person 4 (some .int) :: pd_gt) (pd_rm 2 0 0) al 0 0 sh F [pd_R x0, pd_I x1, pd_I x2] (some (pd_I ρ)) sh Fz := by
  unfold pfX11_person at hf
  refine pd_body (L := [pd_R x0, pd_I x1, pd_I x2, pd_N]) (by decide +kernel) (Nat.le_of_ble_eq_true rfl) rfl (fun E => ?_)
  refine pd_aload_n (i := 0) dX11_person_0 rfl rfl ?_
  refine pd_iload_n (i := 1) dX11_person_1 rfl rfl ?_
  obtain ⟨hg2, hf⟩ := pd_ig hf
  obtain ⟨r3, F1, hr, hf⟩ := pd_ob2 hf
  refine pd_callV (pkX11_isPerson l hr) dX11_person_2 pq_646 pq_649 pq_650 (show vwCl[11]? = some (yX11_isPerson.cls, TX11, 10) from rfl) hg2 (pd_okm (by omega) (by decide) pq_647 pq_648 (by decide) (show (parseMethodDescriptor yX11_isPerson.desc).map (fun d => d.parameters.length) = some 1 from by decide +kernel)) (Nat.le_of_ble_eq_true rfl) rfl ?_
  refine pd_if_ne (tgt := 10) dX11_person_5 (by decide) (fun hc => ?_) (fun hc => ?_)
  · have hf := pd_ip hf hc
    refine pd_aload_n (i := 0) dX11_person_10 rfl rfl ?_
    refine pd_get (x := pd_R (F1 x0 8)) 8 dX11_person_11 (show vwCl[11]? = some (RX11, TX11, 10) from rfl) pin_11 (by decide) pq_617 hg2 rfl ?_
    obtain ⟨hg4, hf⟩ := pd_ig hf
    refine pd_getN (x := pd_R (F1 (F1 x0 8) 0)) 0 dX11_person_14 (show vwCl[0]? = some (RX0, TX0, 15) from rfl) pin_0 (by decide) pq_651 hg4 rfl ?_
    refine pd_iload_n (i := 1) dX11_person_17 rfl rfl ?_
    obtain ⟨hg5, hf⟩ := pd_ig hf
    refine pd_aald dX11_person_18 hg5 ?_
    refine pd_topR (fun x3_19 ex3_19 => ?_)
    have hf := pd_lt hf ex3_19
    clear ex3_19
    obtain ⟨hg6, hf⟩ := pd_ig hf
    refine pd_astore_n (L' := [pd_R x0, pd_I x1, pd_I x2, pd_R x3_19]) dX11_person_19 rfl (by decide) hg6 rfl ?_
    refine pd_iload_n (i := 2) dX11_person_20 rfl rfl ?_
    by_cases hv0 : x2 = 0
    · have hf := pd_ip hf hv0
      refine pd_tabE (v := 0) (off := 43) (tgt := 64) dX11_person_21 hv0 (by decide) (by decide) (by decide) (by decide) ?_
      refine pd_aload_n (i := 3) dX11_person_64 rfl rfl ?_
      obtain ⟨hg7, hf⟩ := pd_ig hf
      refine pd_getN (x := pd_I (F1 x3_19 1)) 1 dX11_person_65 (show vwCl[5]? = some (RX5, TX5, 5) from rfl) pin_5 (by decide) pq_652 hg7 rfl ?_
      obtain ⟨h1, h2⟩ := pd_inj hf
      subst h1 h2
      exact pd_iret dX11_person_68 rfl (Nat.le_refl 0) (Nat.le_refl 0)
    · have hf := pd_in_ hf hv0
      by_cases hv1 : x2 = 1
      · have hf := pd_ip hf hv1
        refine pd_tabE (v := 1) (off := 48) (tgt := 69) dX11_person_21 hv1 (by decide) (by decide) (by decide) (by decide) ?_
        refine pd_iload_n (i := 2) dX11_person_69 rfl rfl ?_
        refine pd_aload_n (i := 3) dX11_person_70 rfl rfl ?_
        obtain ⟨hg8, hf⟩ := pd_ig hf
        refine pd_getN (x := pd_I (F1 x3_19 1)) 1 dX11_person_71 (show vwCl[5]? = some (RX5, TX5, 5) from rfl) pin_5 (by decide) pq_652 hg8 rfl ?_
        refine pd_icmp_gt (tgt := 88) dX11_person_74 (by decide) (fun hc => ?_) (fun hc => ?_)
        · have hf := pd_ip hf hc
          refine pd_iconst dX11_person_88 (by decide) ?_
          obtain ⟨h1, h2⟩ := pd_inj hf
          subst h1 h2
          exact pd_iret dX11_person_89 rfl (Nat.le_refl 0) (Nat.le_refl 0)
        · have hf := pd_in_ hf hc
          refine pd_aload_n (i := 3) dX11_person_77 rfl rfl ?_
          refine pd_getN (x := pd_R (F1 x3_19 0)) 0 dX11_person_78 (show vwCl[5]? = some (RX5, TX5, 5) from rfl) pin_5 (by decide) pq_653 hg8 rfl ?_
          refine pd_iload_n (i := 2) dX11_person_81 rfl rfl ?_
          refine pd_iconst dX11_person_82 (by decide) ?_
          refine pd_isub dX11_person_83 ?_
          obtain ⟨hg9, hf⟩ := pd_ig hf
          refine pd_iald dX11_person_84 hg9 ?_
          refine pd_goto (tgt := 89) dX11_person_85 (by decide) ?_
          obtain ⟨h1, h2⟩ := pd_inj hf
          subst h1 h2
          exact pd_iret dX11_person_89 rfl (Nat.le_refl 0) (Nat.le_refl 0)
      · have hf := pd_in_ hf hv1
        by_cases hv2 : x2 = 2
        · have hf := pd_ip hf hv2
          refine pd_tabE (v := 2) (off := 48) (tgt := 69) dX11_person_21 hv2 (by decide) (by decide) (by decide) (by decide) ?_
          refine pd_iload_n (i := 2) dX11_person_69 rfl rfl ?_
          refine pd_aload_n (i := 3) dX11_person_70 rfl rfl ?_
          obtain ⟨hg10, hf⟩ := pd_ig hf
          refine pd_getN (x := pd_I (F1 x3_19 1)) 1 dX11_person_71 (show vwCl[5]? = some (RX5, TX5, 5) from rfl) pin_5 (by decide) pq_652 hg10 rfl ?_
          refine pd_icmp_gt (tgt := 88) dX11_person_74 (by decide) (fun hc => ?_) (fun hc => ?_)
          · have hf := pd_ip hf hc
            refine pd_iconst dX11_person_88 (by decide) ?_
            obtain ⟨h1, h2⟩ := pd_inj hf
            subst h1 h2
            exact pd_iret dX11_person_89 rfl (Nat.le_refl 0) (Nat.le_refl 0)
          · have hf := pd_in_ hf hc
            refine pd_aload_n (i := 3) dX11_person_77 rfl rfl ?_
            refine pd_getN (x := pd_R (F1 x3_19 0)) 0 dX11_person_78 (show vwCl[5]? = some (RX5, TX5, 5) from rfl) pin_5 (by decide) pq_653 hg10 rfl ?_
            refine pd_iload_n (i := 2) dX11_person_81 rfl rfl ?_
            refine pd_iconst dX11_person_82 (by decide) ?_
            refine pd_isub dX11_person_83 ?_
            obtain ⟨hg11, hf⟩ := pd_ig hf
            refine pd_iald dX11_person_84 hg11 ?_
            refine pd_goto (tgt := 89) dX11_person_85 (by decide) ?_
            obtain ⟨h1, h2⟩ := pd_inj hf
            subst h1 h2
            exact pd_iret dX11_person_89 rfl (Nat.le_refl 0) (Nat.le_refl 0)
        · have hf := pd_in_ hf hv2
          by_cases hv3 : x2 = 3
          · have hf := pd_ip hf hv3
            refine pd_tabE (v := 3) (off := 48) (tgt := 69) dX11_person_21 hv3 (by decide) (by decide) (by decide) (by decide) ?_
            refine pd_iload_n (i := 2) dX11_person_69 rfl rfl ?_
            refine pd_aload_n (i := 3) dX11_person_70 rfl rfl ?_
            obtain ⟨hg12, hf⟩ := pd_ig hf
            refine pd_getN (x := pd_I (F1 x3_19 1)) 1 dX11_person_71 (show vwCl[5]? = some (RX5, TX5, 5) from rfl) pin_5 (by decide) pq_652 hg12 rfl ?_
            refine pd_icmp_gt (tgt := 88) dX11_person_74 (by decide) (fun hc => ?_) (fun hc => ?_)
            · have hf := pd_ip hf hc
              refine pd_iconst dX11_person_88 (by decide) ?_
              obtain ⟨h1, h2⟩ := pd_inj hf
              subst h1 h2
              exact pd_iret dX11_person_89 rfl (Nat.le_refl 0) (Nat.le_refl 0)
            · have hf := pd_in_ hf hc
              refine pd_aload_n (i := 3) dX11_person_77 rfl rfl ?_
              refine pd_getN (x := pd_R (F1 x3_19 0)) 0 dX11_person_78 (show vwCl[5]? = some (RX5, TX5, 5) from rfl) pin_5 (by decide) pq_653 hg12 rfl ?_
              refine pd_iload_n (i := 2) dX11_person_81 rfl rfl ?_
              refine pd_iconst dX11_person_82 (by decide) ?_
              refine pd_isub dX11_person_83 ?_
              obtain ⟨hg13, hf⟩ := pd_ig hf
              refine pd_iald dX11_person_84 hg13 ?_
              refine pd_goto (tgt := 89) dX11_person_85 (by decide) ?_
              obtain ⟨h1, h2⟩ := pd_inj hf
              subst h1 h2
              exact pd_iret dX11_person_89 rfl (Nat.le_refl 0) (Nat.le_refl 0)
          · have hf := pd_in_ hf hv3
            by_cases hv4 : x2 = 4
            · have hf := pd_ip hf hv4
              refine pd_tabE (v := 4) (off := 69) (tgt := 90) dX11_person_21 hv4 (by decide) (by decide) (by decide) (by decide) ?_
              refine pd_aload_n (i := 3) dX11_person_90 rfl rfl ?_
              obtain ⟨hg14, hf⟩ := pd_ig hf
              refine pd_getN (x := pd_I (F1 x3_19 4)) 4 dX11_person_91 (show vwCl[5]? = some (RX5, TX5, 5) from rfl) pin_5 (by decide) pq_654 hg14 rfl ?_
              refine pd_if_eq (tgt := 101) dX11_person_94 (by decide) (fun hc => ?_) (fun hc => ?_)
              · have hf := pd_ip hf hc
                refine pd_iconst dX11_person_101 (by decide) ?_
                obtain ⟨h1, h2⟩ := pd_inj hf
                subst h1 h2
                exact pd_iret dX11_person_102 rfl (Nat.le_refl 0) (Nat.le_refl 0)
              · have hf := pd_in_ hf hc
                refine pd_iconst dX11_person_97 (by decide) ?_
                refine pd_goto (tgt := 102) dX11_person_98 (by decide) ?_
                obtain ⟨h1, h2⟩ := pd_inj hf
                subst h1 h2
                exact pd_iret dX11_person_102 rfl (Nat.le_refl 0) (Nat.le_refl 0)
            · have hf := pd_in_ hf hv4
              by_cases hv5 : x2 = 5
              · have hf := pd_ip hf hv5
                refine pd_tabE (v := 5) (off := 82) (tgt := 103) dX11_person_21 hv5 (by decide) (by decide) (by decide) (by decide) ?_
                refine pd_aload_n (i := 0) dX11_person_103 rfl rfl ?_
                refine pd_get (x := pd_R (F1 x0 5)) 5 dX11_person_104 (show vwCl[11]? = some (RX11, TX11, 10) from rfl) pin_11 (by decide) pq_635 hg2 rfl ?_
                obtain ⟨hg15, hf⟩ := pd_ig hf
                refine pd_getN (x := pd_R (F1 (F1 x0 5) 0)) 0 dX11_person_107 (show vwCl[4]? = some (RX4, TX4, 7) from rfl) pin_4 (by decide) pq_636 hg15 rfl ?_
                obtain ⟨hg16, hf⟩ := pd_ig hf
                refine pd_getN (x := pd_R (F1 (F1 (F1 x0 5) 0) 1)) 1 dX11_person_110 (show vwCl[10]? = some (RX10, TX10, 4) from rfl) pin_10 (by decide) pq_655 hg16 rfl ?_
                refine pd_iload_n (i := 1) dX11_person_113 rfl rfl ?_
                obtain ⟨hg17, hf⟩ := pd_ig hf
                refine pd_iald dX11_person_114 hg17 ?_
                obtain ⟨h1, h2⟩ := pd_inj hf
                subst h1 h2
                exact pd_iret dX11_person_115 rfl (Nat.le_refl 0) (Nat.le_refl 0)
              · have hf := pd_in_ hf hv5
                by_cases hv6 : x2 = 6
                · have hf := pd_ip hf hv6
                  refine pd_tabE (v := 6) (off := 95) (tgt := 116) dX11_person_21 hv6 (by decide) (by decide) (by decide) (by decide) ?_
                  refine pd_aload_n (i := 3) dX11_person_116 rfl rfl ?_
                  obtain ⟨hg18, hf⟩ := pd_ig hf
                  refine pd_getN (x := pd_I (F1 x3_19 3)) 3 dX11_person_117 (show vwCl[5]? = some (RX5, TX5, 5) from rfl) pin_5 (by decide) pq_656 hg18 rfl ?_
                  obtain ⟨h1, h2⟩ := pd_inj hf
                  subst h1 h2
                  exact pd_iret dX11_person_120 rfl (Nat.le_refl 0) (Nat.le_refl 0)
                · have hf := pd_in_ hf hv6
                  refine pd_tabO (tgt := 121) dX11_person_21 (by omega) (by decide) ?_
                  refine pd_iconst dX11_person_121 (by decide) ?_
                  obtain ⟨h1, h2⟩ := pd_inj hf
                  subst h1 h2
                  exact pd_iret dX11_person_122 rfl (Nat.le_refl 0) (Nat.le_refl 0)
  · have hf := pd_iq hf hc
    refine pd_iconst dX11_person_8 (by decide) ?_
    obtain ⟨h1, h2⟩ := pd_inj hf
    subst h1 h2
    exact pd_iret dX11_person_9 rfl (Nat.le_refl 0) (Nat.le_refl 0)
set_option maxHeartbeats 4000000 in
set_option maxRecDepth 100000 in
theorem pkX11_account (l : Launch) {al : Bool} {sh : pd_S} {n : Nat} {F : pd_F} {x0 : Int} {x1 : Int} {x2 : Int} {ρ : Int} {Fz : pd_F} (hf : pfX11_account sh n F x0 x1 x2 = some (ρ, Fz)) : pd_C l yX11_account (Cond.code yX11_account cX11_account 4 (some .int) :: pd_gt) (pd_rm 2 0 0) al 0 0 sh F [pd_R x0, pd_I x1, pd_I x2] (some (pd_I ρ)) sh Fz := by
  unfold pfX11_account at hf
  refine pd_body (L := [pd_R x0, pd_I x1, pd_I x2, pd_N]) (by decide +kernel) (Nat.le_of_ble_eq_true rfl) rfl (fun E => ?_)
  refine pd_aload_n (i := 0) dX11_account_0 rfl rfl ?_
  refine pd_iload_n (i := 1) dX11_account_1 rfl rfl ?_
  obtain ⟨hg2, hf⟩ := pd_ig hf
  obtain ⟨r3, F1, hr, hf⟩ := pd_ob2 hf
  refine pd_callV (pkX11_isAccount l hr) dX11_account_2 pq_657 pq_660 pq_661 (show vwCl[11]? = some (yX11_isAccount.cls, TX11, 10) from rfl) hg2 (pd_okm (by omega) (by decide) pq_658 pq_659 (by decide) (show (parseMethodDescriptor yX11_isAccount.desc).map (fun d => d.parameters.length) = some 1 from by decide +kernel)) (Nat.le_of_ble_eq_true rfl) rfl ?_
  refine pd_if_ne (tgt := 10) dX11_account_5 (by decide) (fun hc => ?_) (fun hc => ?_)
  · have hf := pd_ip hf hc
    refine pd_aload_n (i := 0) dX11_account_10 rfl rfl ?_
    refine pd_get (x := pd_R (F1 x0 8)) 8 dX11_account_11 (show vwCl[11]? = some (RX11, TX11, 10) from rfl) pin_11 (by decide) pq_617 hg2 rfl ?_
    obtain ⟨hg4, hf⟩ := pd_ig hf
    refine pd_getN (x := pd_R (F1 (F1 x0 8) 2)) 2 dX11_account_14 (show vwCl[0]? = some (RX0, TX0, 15) from rfl) pin_0 (by decide) pq_638 hg4 rfl ?_
    refine pd_iload_n (i := 1) dX11_account_17 rfl rfl ?_
    obtain ⟨hg5, hf⟩ := pd_ig hf
    refine pd_aald dX11_account_18 hg5 ?_
    refine pd_topR (fun x3_19 ex3_19 => ?_)
    have hf := pd_lt hf ex3_19
    clear ex3_19
    obtain ⟨hg6, hf⟩ := pd_ig hf
    refine pd_astore_n (L' := [pd_R x0, pd_I x1, pd_I x2, pd_R x3_19]) dX11_account_19 rfl (by decide) hg6 rfl ?_
    refine pd_iload_n (i := 2) dX11_account_20 rfl rfl ?_
    by_cases hv0 : x2 = 0
    · have hf := pd_ip hf hv0
      refine pd_tabE (v := 0) (off := 31) (tgt := 52) dX11_account_21 hv0 (by decide) (by decide) (by decide) (by decide) ?_
      refine pd_aload_n (i := 0) dX11_account_52 rfl rfl ?_
      refine pd_get (x := pd_R (F1 x0 4)) 4 dX11_account_53 (show vwCl[11]? = some (RX11, TX11, 10) from rfl) pin_11 (by decide) pq_623 hg2 rfl ?_
      obtain ⟨hg7, hf⟩ := pd_ig hf
      refine pd_getN (x := pd_R (F1 (F1 x0 4) 0)) 0 dX11_account_56 (show vwCl[8]? = some (RX8, TX8, 6) from rfl) pin_8 (by decide) pq_640 hg7 rfl ?_
      refine pd_iload_n (i := 1) dX11_account_59 rfl rfl ?_
      obtain ⟨hg8, hf⟩ := pd_ig hf
      refine pd_iald dX11_account_60 hg8 ?_
      obtain ⟨h1, h2⟩ := pd_inj hf
      subst h1 h2
      exact pd_iret dX11_account_61 rfl (Nat.le_refl 0) (Nat.le_refl 0)
    · have hf := pd_in_ hf hv0
      by_cases hv1 : x2 = 1
      · have hf := pd_ip hf hv1
        refine pd_tabE (v := 1) (off := 41) (tgt := 62) dX11_account_21 hv1 (by decide) (by decide) (by decide) (by decide) ?_
        refine pd_aload_n (i := 3) dX11_account_62 rfl rfl ?_
        obtain ⟨hg9, hf⟩ := pd_ig hf
        refine pd_getN (x := pd_I (F1 x3_19 3)) 3 dX11_account_63 (show vwCl[2]? = some (RX2, TX2, 8) from rfl) pin_2 (by decide) pq_662 hg9 rfl ?_
        obtain ⟨h1, h2⟩ := pd_inj hf
        subst h1 h2
        exact pd_iret dX11_account_66 rfl (Nat.le_refl 0) (Nat.le_refl 0)
      · have hf := pd_in_ hf hv1
        by_cases hv2 : x2 = 2
        · have hf := pd_ip hf hv2
          refine pd_tabE (v := 2) (off := 46) (tgt := 67) dX11_account_21 hv2 (by decide) (by decide) (by decide) (by decide) ?_
          refine pd_aload_n (i := 3) dX11_account_67 rfl rfl ?_
          obtain ⟨hg10, hf⟩ := pd_ig hf
          refine pd_getN (x := pd_I (F1 x3_19 7)) 7 dX11_account_68 (show vwCl[2]? = some (RX2, TX2, 8) from rfl) pin_2 (by decide) pq_639 hg10 rfl ?_
          refine pd_if_eq (tgt := 78) dX11_account_71 (by decide) (fun hc => ?_) (fun hc => ?_)
          · have hf := pd_ip hf hc
            refine pd_iconst dX11_account_78 (by decide) ?_
            obtain ⟨h1, h2⟩ := pd_inj hf
            subst h1 h2
            exact pd_iret dX11_account_79 rfl (Nat.le_refl 0) (Nat.le_refl 0)
          · have hf := pd_in_ hf hc
            refine pd_iconst dX11_account_74 (by decide) ?_
            refine pd_goto (tgt := 79) dX11_account_75 (by decide) ?_
            obtain ⟨h1, h2⟩ := pd_inj hf
            subst h1 h2
            exact pd_iret dX11_account_79 rfl (Nat.le_refl 0) (Nat.le_refl 0)
        · have hf := pd_in_ hf hv2
          by_cases hv3 : x2 = 3
          · have hf := pd_ip hf hv3
            refine pd_tabE (v := 3) (off := 59) (tgt := 80) dX11_account_21 hv3 (by decide) (by decide) (by decide) (by decide) ?_
            refine pd_aload_n (i := 3) dX11_account_80 rfl rfl ?_
            obtain ⟨hg12, hf⟩ := pd_ig hf
            obtain ⟨r13, F11, hr, hf⟩ := pd_ob2 hf
            refine pd_callV (pkX2_personsReached l hr) dX11_account_81 pq_663 pq_666 pq_667 (show vwCl[2]? = some (yX2_personsReached.cls, TX2, 8) from rfl) hg12 (pd_okm (by omega) (by decide) pq_664 pq_665 (by decide) (show (parseMethodDescriptor yX2_personsReached.desc).map (fun d => d.parameters.length) = some 0 from by decide +kernel)) (Nat.le_of_ble_eq_true rfl) rfl ?_
            obtain ⟨h1, h2⟩ := pd_inj hf
            subst h1 h2
            exact pd_iret dX11_account_84 rfl (Nat.le_refl 0) (Nat.le_refl 0)
          · have hf := pd_in_ hf hv3
            refine pd_tabO (tgt := 85) dX11_account_21 (by omega) (by decide) ?_
            refine pd_iconst dX11_account_85 (by decide) ?_
            obtain ⟨h1, h2⟩ := pd_inj hf
            subst h1 h2
            exact pd_iret dX11_account_86 rfl (Nat.le_refl 0) (Nat.le_refl 0)
  · have hf := pd_iq hf hc
    refine pd_iconst dX11_account_8 (by decide) ?_
    obtain ⟨h1, h2⟩ := pd_inj hf
    subst h1 h2
    exact pd_iret dX11_account_9 rfl (Nat.le_refl 0) (Nat.le_refl 0)
set_option maxHeartbeats 4000000 in
set_option maxRecDepth 100000 in
theorem pkX11_who (l : Launch) {al : Bool} {sh : pd_S} {n : Nat} {F : pd_F} {x0 : Int} {x1 : Int} {ρ : Int} {Fz : pd_F} (hf : pfX11_who sh n F x0 x1 = some (ρ, Fz)) : pd_C l yX11_who (Cond.code yX11_who cX11_who 2 (some .int) :: pd_gt) (pd_rm 2 0 0) al 0 0 sh F [pd_R x0, pd_I x1] (some (pd_I ρ)) sh Fz := by
  unfold pfX11_who at hf
  refine pd_body (L := [pd_R x0, pd_I x1]) (by decide +kernel) (Nat.le_of_ble_eq_true rfl) rfl (fun E => ?_)
  refine pd_aload_n (i := 0) dX11_who_0 rfl rfl ?_
  refine pd_iload_n (i := 1) dX11_who_1 rfl rfl ?_
  obtain ⟨hg2, hf⟩ := pd_ig hf
  obtain ⟨r3, F1, hr, hf⟩ := pd_ob2 hf
  refine pd_callV (pkX11_isDepositor l hr) dX11_who_2 pq_668 pq_671 pq_672 (show vwCl[11]? = some (yX11_isDepositor.cls, TX11, 10) from rfl) hg2 (pd_okm (by omega) (by decide) pq_669 pq_670 (by decide) (show (parseMethodDescriptor yX11_isDepositor.desc).map (fun d => d.parameters.length) = some 1 from by decide +kernel)) (Nat.le_of_ble_eq_true rfl) rfl ?_
  refine pd_if_eq (tgt := 23) dX11_who_5 (by decide) (fun hc => ?_) (fun hc => ?_)
  · have hf := pd_ip hf hc
    refine pd_iconst dX11_who_23 (by decide) ?_
    obtain ⟨h1, h2⟩ := pd_inj hf
    subst h1 h2
    exact pd_iret dX11_who_24 rfl (Nat.le_refl 0) (Nat.le_refl 0)
  · have hf := pd_in_ hf hc
    refine pd_aload_n (i := 0) dX11_who_8 rfl rfl ?_
    refine pd_get (x := pd_R (F1 x0 5)) 5 dX11_who_9 (show vwCl[11]? = some (RX11, TX11, 10) from rfl) pin_11 (by decide) pq_635 hg2 rfl ?_
    obtain ⟨hg4, hf⟩ := pd_ig hf
    refine pd_getN (x := pd_R (F1 (F1 x0 5) 0)) 0 dX11_who_12 (show vwCl[4]? = some (RX4, TX4, 7) from rfl) pin_4 (by decide) pq_636 hg4 rfl ?_
    obtain ⟨hg5, hf⟩ := pd_ig hf
    refine pd_getN (x := pd_R (F1 (F1 (F1 x0 5) 0) 2)) 2 dX11_who_15 (show vwCl[10]? = some (RX10, TX10, 4) from rfl) pin_10 (by decide) pq_673 hg5 rfl ?_
    refine pd_iload_n (i := 1) dX11_who_18 rfl rfl ?_
    obtain ⟨hg6, hf⟩ := pd_ig hf
    refine pd_iald dX11_who_19 hg6 ?_
    refine pd_goto (tgt := 24) dX11_who_20 (by decide) ?_
    obtain ⟨h1, h2⟩ := pd_inj hf
    subst h1 h2
    exact pd_iret dX11_who_24 rfl (Nat.le_refl 0) (Nat.le_refl 0)
set_option maxHeartbeats 4000000 in
set_option maxRecDepth 100000 in
theorem pkX11_ways (l : Launch) {al : Bool} {sh : pd_S} {n : Nat} {F : pd_F} {x0 : Int} {x1 : Int} {x2 : Int} {ρ : Int} {Fz : pd_F} (hf : pfX11_ways sh n F x0 x1 x2 = some (ρ, Fz)) : pd_C l yX11_ways (Cond.code yX11_ways cX11_ways 3 (some .int) :: pd_gt) (pd_rm 2 0 0) al 0 0 sh F [pd_R x0, pd_I x1, pd_I x2] (some (pd_I ρ)) sh Fz := by
  unfold pfX11_ways at hf
  refine pd_body (L := [pd_R x0, pd_I x1, pd_I x2]) (by decide +kernel) (Nat.le_of_ble_eq_true rfl) rfl (fun E => ?_)
  refine pd_aload_n (i := 0) dX11_ways_0 rfl rfl ?_
  refine pd_iload_n (i := 1) dX11_ways_1 rfl rfl ?_
  obtain ⟨hg2, hf⟩ := pd_ig hf
  obtain ⟨r3, F1, hr, hf⟩ := pd_ob2 hf
  refine pd_callV (pkX11_isAccount l hr) dX11_ways_2 pq_657 pq_660 pq_661 (show vwCl[11]? = some (yX11_isAccount.cls, TX11, 10) from rfl) hg2 (pd_okm (by omega) (by decide) pq_658 pq_659 (by decide) (show (parseMethodDescriptor yX11_isAccount.desc).map (fun d => d.parameters.length) = some 1 from by decide +kernel)) (Nat.le_of_ble_eq_true rfl) rfl ?_
  refine pd_if_eq (tgt := 33) dX11_ways_5 (by decide) (fun hc => ?_) (fun hc => ?_)
  · have hf := pd_ip hf hc
    refine pd_iconst dX11_ways_33 (by decide) ?_
    obtain ⟨h1, h2⟩ := pd_inj hf
    subst h1 h2
    exact pd_iret dX11_ways_34 rfl (Nat.le_refl 0) (Nat.le_refl 0)
  · have hf := pd_in_ hf hc
    refine pd_aload_n (i := 0) dX11_ways_8 rfl rfl ?_
    refine pd_iload_n (i := 2) dX11_ways_9 rfl rfl ?_
    obtain ⟨r5, F4, hr, hf⟩ := pd_ob2 hf
    refine pd_callV (pkX11_isPerson l hr) dX11_ways_10 pq_646 pq_649 pq_650 (show vwCl[11]? = some (yX11_isPerson.cls, TX11, 10) from rfl) hg2 (pd_okm (by omega) (by decide) pq_647 pq_648 (by decide) (show (parseMethodDescriptor yX11_isPerson.desc).map (fun d => d.parameters.length) = some 1 from by decide +kernel)) (Nat.le_of_ble_eq_true rfl) rfl ?_
    refine pd_if_eq (tgt := 33) dX11_ways_13 (by decide) (fun hc => ?_) (fun hc => ?_)
    · have hf := pd_ip hf hc
      refine pd_iconst dX11_ways_33 (by decide) ?_
      obtain ⟨h1, h2⟩ := pd_inj hf
      subst h1 h2
      exact pd_iret dX11_ways_34 rfl (Nat.le_refl 0) (Nat.le_refl 0)
    · have hf := pd_in_ hf hc
      refine pd_aload_n (i := 0) dX11_ways_16 rfl rfl ?_
      refine pd_get (x := pd_R (F4 x0 8)) 8 dX11_ways_17 (show vwCl[11]? = some (RX11, TX11, 10) from rfl) pin_11 (by decide) pq_617 hg2 rfl ?_
      obtain ⟨hg6, hf⟩ := pd_ig hf
      refine pd_getN (x := pd_R (F4 (F4 x0 8) 2)) 2 dX11_ways_20 (show vwCl[0]? = some (RX0, TX0, 15) from rfl) pin_0 (by decide) pq_638 hg6 rfl ?_
      refine pd_iload_n (i := 1) dX11_ways_23 rfl rfl ?_
      obtain ⟨hg7, hf⟩ := pd_ig hf
      refine pd_aald dX11_ways_24 hg7 ?_
      obtain ⟨hg8, hf⟩ := pd_ig hf
      refine pd_getN (x := pd_R (F4 (F4 (F4 (F4 x0 8) 2) x1) 2)) 2 dX11_ways_25 (show vwCl[2]? = some (RX2, TX2, 8) from rfl) pin_2 (by decide) pq_674 hg8 rfl ?_
      refine pd_iload_n (i := 2) dX11_ways_28 rfl rfl ?_
      obtain ⟨hg9, hf⟩ := pd_ig hf
      refine pd_iald dX11_ways_29 hg9 ?_
      refine pd_goto (tgt := 34) dX11_ways_30 (by decide) ?_
      obtain ⟨h1, h2⟩ := pd_inj hf
      subst h1 h2
      exact pd_iret dX11_ways_34 rfl (Nat.le_refl 0) (Nat.le_refl 0)
set_option maxHeartbeats 4000000 in
set_option maxRecDepth 100000 in
theorem pkX11_areTwo (l : Launch) {al : Bool} {sh : pd_S} {n : Nat} {F : pd_F} {x0 : Int} {x1 : Int} {x2 : Int} {ρ : Int} {Fz : pd_F} (hf : pfX11_areTwo sh n F x0 x1 x2 = some (ρ, Fz)) : pd_C l yX11_areTwo (Cond.code yX11_areTwo cX11_areTwo 3 (some .boolean) :: pd_gt) (pd_rm 2 0 0) al 0 0 sh F [pd_R x0, pd_I x1, pd_I x2] (some (pd_I ρ)) sh Fz := by
  unfold pfX11_areTwo at hf
  refine pd_body (L := [pd_R x0, pd_I x1, pd_I x2]) (by decide +kernel) (Nat.le_of_ble_eq_true rfl) rfl (fun E => ?_)
  refine pd_aload_n (i := 0) dX11_areTwo_0 rfl rfl ?_
  refine pd_iload_n (i := 1) dX11_areTwo_1 rfl rfl ?_
  obtain ⟨hg2, hf⟩ := pd_ig hf
  obtain ⟨r3, F1, hr, hf⟩ := pd_ob2 hf
  refine pd_callV (pkX11_isPerson l hr) dX11_areTwo_2 pq_646 pq_649 pq_650 (show vwCl[11]? = some (yX11_isPerson.cls, TX11, 10) from rfl) hg2 (pd_okm (by omega) (by decide) pq_647 pq_648 (by decide) (show (parseMethodDescriptor yX11_isPerson.desc).map (fun d => d.parameters.length) = some 1 from by decide +kernel)) (Nat.le_of_ble_eq_true rfl) rfl ?_
  refine pd_if_eq (tgt := 25) dX11_areTwo_5 (by decide) (fun hc => ?_) (fun hc => ?_)
  · have hf := pd_ip hf hc
    refine pd_iconst dX11_areTwo_25 (by decide) ?_
    obtain ⟨h1, h2⟩ := pd_inj hf
    subst h1 h2
    exact pd_zret dX11_areTwo_26 rfl (by decide) (Nat.le_refl 0) (Nat.le_refl 0)
  · have hf := pd_in_ hf hc
    refine pd_aload_n (i := 0) dX11_areTwo_8 rfl rfl ?_
    refine pd_iload_n (i := 2) dX11_areTwo_9 rfl rfl ?_
    obtain ⟨r5, F4, hr, hf⟩ := pd_ob2 hf
    refine pd_callV (pkX11_isPerson l hr) dX11_areTwo_10 pq_646 pq_649 pq_650 (show vwCl[11]? = some (yX11_isPerson.cls, TX11, 10) from rfl) hg2 (pd_okm (by omega) (by decide) pq_647 pq_648 (by decide) (show (parseMethodDescriptor yX11_isPerson.desc).map (fun d => d.parameters.length) = some 1 from by decide +kernel)) (Nat.le_of_ble_eq_true rfl) rfl ?_
    refine pd_if_eq (tgt := 25) dX11_areTwo_13 (by decide) (fun hc => ?_) (fun hc => ?_)
    · have hf := pd_ip hf hc
      refine pd_iconst dX11_areTwo_25 (by decide) ?_
      obtain ⟨h1, h2⟩ := pd_inj hf
      subst h1 h2
      exact pd_zret dX11_areTwo_26 rfl (by decide) (Nat.le_refl 0) (Nat.le_refl 0)
    · have hf := pd_in_ hf hc
      refine pd_iload_n (i := 1) dX11_areTwo_16 rfl rfl ?_
      refine pd_iload_n (i := 2) dX11_areTwo_17 rfl rfl ?_
      refine pd_icmp_eq (tgt := 25) dX11_areTwo_18 (by decide) (fun hc => ?_) (fun hc => ?_)
      · have hf := pd_ip hf hc
        refine pd_iconst dX11_areTwo_25 (by decide) ?_
        obtain ⟨h1, h2⟩ := pd_inj hf
        subst h1 h2
        exact pd_zret dX11_areTwo_26 rfl (by decide) (Nat.le_refl 0) (Nat.le_refl 0)
      · have hf := pd_in_ hf hc
        refine pd_iconst dX11_areTwo_21 (by decide) ?_
        refine pd_goto (tgt := 26) dX11_areTwo_22 (by decide) ?_
        obtain ⟨h1, h2⟩ := pd_inj hf
        subst h1 h2
        exact pd_zret dX11_areTwo_26 rfl (by decide) (Nat.le_refl 0) (Nat.le_refl 0)
set_option maxHeartbeats 4000000 in
set_option maxRecDepth 100000 in
theorem pkX11_view (l : Launch) {al : Bool} {sh : pd_S} {n : Nat} {F : pd_F} {x0 : Int} {x1 : Int} {x2 : Int} {ρ : Int} {Fz : pd_F} (hf : pfX11_view sh n F x0 x1 x2 = some (ρ, Fz)) : pd_C l yX11_view (Cond.code yX11_view cX11_view 3 (some .long) :: pd_gt) (pd_rm 4 0 0) al 0 0 sh F [pd_R x0, pd_I x1, pd_I x2] (some (pd_J ρ)) sh Fz := by
  unfold pfX11_view at hf
  refine pd_body (L := [pd_R x0, pd_I x1, pd_I x2]) (by decide +kernel) (Nat.le_of_ble_eq_true rfl) rfl (fun E => ?_)
  refine pd_aload_n (i := 0) dX11_view_0 rfl rfl ?_
  refine pd_iload_n (i := 1) dX11_view_1 rfl rfl ?_
  obtain ⟨hg2, hf⟩ := pd_ig hf
  obtain ⟨r3, F1, hr, hf⟩ := pd_ob2 hf
  refine pd_callV (pkX11_isDepositor l hr) dX11_view_2 pq_668 pq_671 pq_672 (show vwCl[11]? = some (yX11_isDepositor.cls, TX11, 10) from rfl) hg2 (pd_okm (by omega) (by decide) pq_669 pq_670 (by decide) (show (parseMethodDescriptor yX11_isDepositor.desc).map (fun d => d.parameters.length) = some 1 from by decide +kernel)) (Nat.le_of_ble_eq_true rfl) rfl ?_
  refine pd_if_ne (tgt := 12) dX11_view_5 (by decide) (fun hc => ?_) (fun hc => ?_)
  · have hf := pd_ip hf hc
    refine pd_iload_n (i := 2) dX11_view_12 rfl rfl ?_
    by_cases hv0 : x2 = 0
    · have hf := pd_ip hf hv0
      refine pd_tabE (v := 0) (off := 51) (tgt := 64) dX11_view_13 hv0 (by decide) (by decide) (by decide) (by decide) ?_
      refine pd_aload_n (i := 0) dX11_view_64 rfl rfl ?_
      refine pd_get (x := pd_R (F1 x0 5)) 5 dX11_view_65 (show vwCl[11]? = some (RX11, TX11, 10) from rfl) pin_11 (by decide) pq_635 hg2 rfl ?_
      obtain ⟨hg4, hf⟩ := pd_ig hf
      refine pd_getN (x := pd_R (F1 (F1 x0 5) 1)) 1 dX11_view_68 (show vwCl[4]? = some (RX4, TX4, 7) from rfl) pin_4 (by decide) pq_675 hg4 rfl ?_
      refine pd_iload_n (i := 1) dX11_view_71 rfl rfl ?_
      obtain ⟨hg5, hf⟩ := pd_ig hf
      refine pd_lald dX11_view_72 hg5 ?_
      obtain ⟨h1, h2⟩ := pd_inj hf
      subst h1 h2
      exact pd_lret dX11_view_73 rfl (Nat.le_refl 0) (Nat.le_refl 0)
    · have hf := pd_in_ hf hv0
      by_cases hv1 : x2 = 1
      · have hf := pd_ip hf hv1
        refine pd_tabE (v := 1) (off := 61) (tgt := 74) dX11_view_13 hv1 (by decide) (by decide) (by decide) (by decide) ?_
        refine pd_aload_n (i := 0) dX11_view_74 rfl rfl ?_
        refine pd_get (x := pd_R (F1 x0 5)) 5 dX11_view_75 (show vwCl[11]? = some (RX11, TX11, 10) from rfl) pin_11 (by decide) pq_635 hg2 rfl ?_
        obtain ⟨hg6, hf⟩ := pd_ig hf
        refine pd_getN (x := pd_R (F1 (F1 x0 5) 2)) 2 dX11_view_78 (show vwCl[4]? = some (RX4, TX4, 7) from rfl) pin_4 (by decide) pq_676 hg6 rfl ?_
        refine pd_iload_n (i := 1) dX11_view_81 rfl rfl ?_
        obtain ⟨hg7, hf⟩ := pd_ig hf
        refine pd_lald dX11_view_82 hg7 ?_
        obtain ⟨h1, h2⟩ := pd_inj hf
        subst h1 h2
        exact pd_lret dX11_view_83 rfl (Nat.le_refl 0) (Nat.le_refl 0)
      · have hf := pd_in_ hf hv1
        by_cases hv2 : x2 = 2
        · have hf := pd_ip hf hv2
          refine pd_tabE (v := 2) (off := 71) (tgt := 84) dX11_view_13 hv2 (by decide) (by decide) (by decide) (by decide) ?_
          refine pd_aload_n (i := 0) dX11_view_84 rfl rfl ?_
          refine pd_get (x := pd_R (F1 x0 5)) 5 dX11_view_85 (show vwCl[11]? = some (RX11, TX11, 10) from rfl) pin_11 (by decide) pq_635 hg2 rfl ?_
          refine pd_iload_n (i := 1) dX11_view_88 rfl rfl ?_
          obtain ⟨hg9, hf⟩ := pd_ig hf
          obtain ⟨r10, F8, hr, hf⟩ := pd_ob2 hf
          refine pd_callV (pkX4_setOff l hr) dX11_view_89 pq_677 pq_577 pq_578 (show vwCl[4]? = some (yX4_setOff.cls, TX4, 7) from rfl) hg9 (pd_okm (by omega) (by decide) pq_575 pq_576 (by decide) (show (parseMethodDescriptor yX4_setOff.desc).map (fun d => d.parameters.length) = some 1 from by decide +kernel)) (Nat.le_of_ble_eq_true rfl) rfl ?_
          obtain ⟨h1, h2⟩ := pd_inj hf
          subst h1 h2
          exact pd_lret dX11_view_92 rfl (Nat.le_refl 0) (Nat.le_refl 0)
        · have hf := pd_in_ hf hv2
          by_cases hv3 : x2 = 3
          · have hf := pd_ip hf hv3
            refine pd_tabE (v := 3) (off := 80) (tgt := 93) dX11_view_13 hv3 (by decide) (by decide) (by decide) (by decide) ?_
            refine pd_aload_n (i := 0) dX11_view_93 rfl rfl ?_
            refine pd_get (x := pd_R (F1 x0 5)) 5 dX11_view_94 (show vwCl[11]? = some (RX11, TX11, 10) from rfl) pin_11 (by decide) pq_635 hg2 rfl ?_
            refine pd_iload_n (i := 1) dX11_view_97 rfl rfl ?_
            obtain ⟨hg12, hf⟩ := pd_ig hf
            obtain ⟨r13, F11, hr, hf⟩ := pd_ob2 hf
            refine pd_callV (pkX4_net l hr) dX11_view_98 pq_678 pq_566 pq_567 (show vwCl[4]? = some (yX4_net.cls, TX4, 7) from rfl) hg12 (pd_okm (by omega) (by decide) pq_564 pq_565 (by decide) (show (parseMethodDescriptor yX4_net.desc).map (fun d => d.parameters.length) = some 1 from by decide +kernel)) (Nat.le_of_ble_eq_true rfl) rfl ?_
            obtain ⟨h1, h2⟩ := pd_inj hf
            subst h1 h2
            exact pd_lret dX11_view_101 rfl (Nat.le_refl 0) (Nat.le_refl 0)
          · have hf := pd_in_ hf hv3
            by_cases hv4 : x2 = 4
            · have hf := pd_ip hf hv4
              refine pd_tabE (v := 4) (off := 89) (tgt := 102) dX11_view_13 hv4 (by decide) (by decide) (by decide) (by decide) ?_
              refine pd_aload_n (i := 0) dX11_view_102 rfl rfl ?_
              refine pd_get (x := pd_R (F1 x0 5)) 5 dX11_view_103 (show vwCl[11]? = some (RX11, TX11, 10) from rfl) pin_11 (by decide) pq_635 hg2 rfl ?_
              obtain ⟨hg14, hf⟩ := pd_ig hf
              refine pd_getN (x := pd_R (F1 (F1 x0 5) 3)) 3 dX11_view_106 (show vwCl[4]? = some (RX4, TX4, 7) from rfl) pin_4 (by decide) pq_679 hg14 rfl ?_
              refine pd_iload_n (i := 1) dX11_view_109 rfl rfl ?_
              obtain ⟨hg15, hf⟩ := pd_ig hf
              refine pd_lald dX11_view_110 hg15 ?_
              obtain ⟨h1, h2⟩ := pd_inj hf
              subst h1 h2
              exact pd_lret dX11_view_111 rfl (Nat.le_refl 0) (Nat.le_refl 0)
            · have hf := pd_in_ hf hv4
              by_cases hv5 : x2 = 5
              · have hf := pd_ip hf hv5
                refine pd_tabE (v := 5) (off := 99) (tgt := 112) dX11_view_13 hv5 (by decide) (by decide) (by decide) (by decide) ?_
                refine pd_aload_n (i := 0) dX11_view_112 rfl rfl ?_
                refine pd_get (x := pd_R (F1 x0 5)) 5 dX11_view_113 (show vwCl[11]? = some (RX11, TX11, 10) from rfl) pin_11 (by decide) pq_635 hg2 rfl ?_
                refine pd_iload_n (i := 1) dX11_view_116 rfl rfl ?_
                refine pd_aload_n (i := 0) dX11_view_117 rfl rfl ?_
                refine pd_get (x := pd_R (F1 x0 5)) 5 dX11_view_118 (show vwCl[11]? = some (RX11, TX11, 10) from rfl) pin_11 (by decide) pq_635 hg2 rfl ?_
                obtain ⟨hg16, hf⟩ := pd_ig hf
                refine pd_getN (x := pd_J (F1 (F1 x0 5) 5)) 5 dX11_view_121 (show vwCl[4]? = some (RX4, TX4, 7) from rfl) pin_4 (by decide) pq_680 hg16 rfl ?_
                obtain ⟨r18, F17, hr, hf⟩ := pd_ob2 hf
                refine pd_callV (pkX4_limit l hr) dX11_view_124 pq_681 pq_572 pq_573 (show vwCl[4]? = some (yX4_limit.cls, TX4, 7) from rfl) hg16 (pd_okm (by omega) (by decide) pq_570 pq_571 (by decide) (show (parseMethodDescriptor yX4_limit.desc).map (fun d => d.parameters.length) = some 2 from by decide +kernel)) (Nat.le_of_ble_eq_true rfl) rfl ?_
                obtain ⟨h1, h2⟩ := pd_inj hf
                subst h1 h2
                exact pd_lret dX11_view_127 rfl (Nat.le_refl 0) (Nat.le_refl 0)
              · have hf := pd_in_ hf hv5
                by_cases hv6 : x2 = 6
                · have hf := pd_ip hf hv6
                  refine pd_tabE (v := 6) (off := 115) (tgt := 128) dX11_view_13 hv6 (by decide) (by decide) (by decide) (by decide) ?_
                  refine pd_aload_n (i := 0) dX11_view_128 rfl rfl ?_
                  refine pd_get (x := pd_R (F1 x0 5)) 5 dX11_view_129 (show vwCl[11]? = some (RX11, TX11, 10) from rfl) pin_11 (by decide) pq_635 hg2 rfl ?_
                  refine pd_iload_n (i := 1) dX11_view_132 rfl rfl ?_
                  obtain ⟨hg20, hf⟩ := pd_ig hf
                  obtain ⟨r21, F19, hr, hf⟩ := pd_ob2 hf
                  refine pd_callV (pkX4_paid l hr) dX11_view_133 pq_682 pq_590 pq_591 (show vwCl[4]? = some (yX4_paid.cls, TX4, 7) from rfl) hg20 (pd_okm (by omega) (by decide) pq_588 pq_589 (by decide) (show (parseMethodDescriptor yX4_paid.desc).map (fun d => d.parameters.length) = some 1 from by decide +kernel)) (Nat.le_of_ble_eq_true rfl) rfl ?_
                  obtain ⟨h1, h2⟩ := pd_inj hf
                  subst h1 h2
                  exact pd_lret dX11_view_136 rfl (Nat.le_refl 0) (Nat.le_refl 0)
                · have hf := pd_in_ hf hv6
                  by_cases hv7 : x2 = 7
                  · have hf := pd_ip hf hv7
                    refine pd_tabE (v := 7) (off := 124) (tgt := 137) dX11_view_13 hv7 (by decide) (by decide) (by decide) (by decide) ?_
                    refine pd_aload_n (i := 0) dX11_view_137 rfl rfl ?_
                    refine pd_get (x := pd_R (F1 x0 5)) 5 dX11_view_138 (show vwCl[11]? = some (RX11, TX11, 10) from rfl) pin_11 (by decide) pq_635 hg2 rfl ?_
                    refine pd_iload_n (i := 1) dX11_view_141 rfl rfl ?_
                    obtain ⟨hg23, hf⟩ := pd_ig hf
                    obtain ⟨r24, F22, hr, hf⟩ := pd_ob2 hf
                    refine pd_callV (pkX4_claim l hr) dX11_view_142 pq_683 pq_600 pq_601 (show vwCl[4]? = some (yX4_claim.cls, TX4, 7) from rfl) hg23 (pd_okm (by omega) (by decide) pq_598 pq_599 (by decide) (show (parseMethodDescriptor yX4_claim.desc).map (fun d => d.parameters.length) = some 1 from by decide +kernel)) (Nat.le_of_ble_eq_true rfl) rfl ?_
                    obtain ⟨h1, h2⟩ := pd_inj hf
                    subst h1 h2
                    exact pd_lret dX11_view_145 rfl (Nat.le_refl 0) (Nat.le_refl 0)
                  · have hf := pd_in_ hf hv7
                    by_cases hv8 : x2 = 8
                    · have hf := pd_ip hf hv8
                      refine pd_tabE (v := 8) (off := 133) (tgt := 146) dX11_view_13 hv8 (by decide) (by decide) (by decide) (by decide) ?_
                      refine pd_aload_n (i := 0) dX11_view_146 rfl rfl ?_
                      refine pd_get (x := pd_R (F1 x0 5)) 5 dX11_view_147 (show vwCl[11]? = some (RX11, TX11, 10) from rfl) pin_11 (by decide) pq_635 hg2 rfl ?_
                      obtain ⟨hg25, hf⟩ := pd_ig hf
                      refine pd_getN (x := pd_R (F1 (F1 x0 5) 4)) 4 dX11_view_150 (show vwCl[4]? = some (RX4, TX4, 7) from rfl) pin_4 (by decide) pq_684 hg25 rfl ?_
                      refine pd_iload_n (i := 1) dX11_view_153 rfl rfl ?_
                      obtain ⟨hg26, hf⟩ := pd_ig hf
                      refine pd_zald dX11_view_154 hg26 ?_
                      refine pd_if_eq (tgt := 162) dX11_view_155 (by decide) (fun hc => ?_) (fun hc => ?_)
                      · have hf := pd_ip hf hc
                        refine pd_lconst (x := 0) dX11_view_162 (by decide) ?_
                        obtain ⟨h1, h2⟩ := pd_inj hf
                        subst h1 h2
                        exact pd_lret dX11_view_163 rfl (Nat.le_refl 0) (Nat.le_refl 0)
                      · have hf := pd_in_ hf hc
                        refine pd_lconst (x := 1) dX11_view_158 (by decide) ?_
                        refine pd_goto (tgt := 163) dX11_view_159 (by decide) ?_
                        obtain ⟨h1, h2⟩ := pd_inj hf
                        subst h1 h2
                        exact pd_lret dX11_view_163 rfl (Nat.le_refl 0) (Nat.le_refl 0)
                    · have hf := pd_in_ hf hv8
                      refine pd_tabO (tgt := 164) dX11_view_13 (by omega) (by decide) ?_
                      refine pd_ldc2 (x := (-1)) dX11_view_164 pq_685 (by decide +kernel) ?_
                      obtain ⟨h1, h2⟩ := pd_inj hf
                      subst h1 h2
                      exact pd_lret dX11_view_167 rfl (Nat.le_refl 0) (Nat.le_refl 0)
  · have hf := pd_iq hf hc
    refine pd_ldc2 (x := (-1)) dX11_view_8 pq_685 (by decide +kernel) ?_
    obtain ⟨h1, h2⟩ := pd_inj hf
    subst h1 h2
    exact pd_lret dX11_view_11 rfl (Nat.le_refl 0) (Nat.le_refl 0)
set_option maxHeartbeats 4000000 in
set_option maxRecDepth 100000 in
theorem pkX11_ranked_b2 (E : pd_E) (l : Launch) {al : Bool} {sh : pd_S} {n : Nat} {ρ : Int} {Fz : pd_F}  : ∀ (k : Nat) (F : pd_F) (x0 : Int) (x1 : Int) (x2 : Int), pfX11_ranked_b2 sh n  k F x0 x1 x2 = some (ρ, Fz) → pd_V E l (pd_rm 5 0 0) (RX11, cX11_ranked, 3, (some .int), "ranked") (pd_Qm E al (some (pd_I ρ)) sh Fz 0 0) al 0 0 sh F 2 [pd_R x0, pd_I x1, pd_I x2] [] := by
  intro k
  induction k with
  | zero => intro F x0 x1 x2 hf; exact absurd hf (by unfold pfX11_ranked_b2; exact fun h => nomatch h)
  | succ k ih =>
    intro F x0 x1 x2 hf
    unfold pfX11_ranked_b2 at hf
    refine pd_iload_n (i := 2) dX11_ranked_2 rfl rfl ?_
    refine pd_aload_n (i := 0) dX11_ranked_3 rfl rfl ?_
    obtain ⟨hg1, hf⟩ := pd_ig hf
    refine pd_get (x := pd_R (F x0 5)) 5 dX11_ranked_4 (show vwCl[11]? = some (RX11, TX11, 10) from rfl) pin_11 (by decide) pq_635 hg1 rfl ?_
    obtain ⟨hg2, hf⟩ := pd_ig hf
    refine pd_getN (x := pd_R (F (F x0 5) 0)) 0 dX11_ranked_7 (show vwCl[4]? = some (RX4, TX4, 7) from rfl) pin_4 (by decide) pq_636 hg2 rfl ?_
    obtain ⟨hg3, hf⟩ := pd_ig hf
    refine pd_getN (x := pd_I (F (F (F x0 5) 0) 3)) 3 dX11_ranked_10 (show vwCl[10]? = some (RX10, TX10, 4) from rfl) pin_10 (by decide) pq_637 hg3 rfl ?_
    refine pd_icmp_ge (tgt := 36) dX11_ranked_13 (by decide) (fun hc => ?_) (fun hc => ?_)
    · have hf := pd_ip hf hc
      refine pd_iconst dX11_ranked_36 (by decide) ?_
      obtain ⟨h1, h2⟩ := pd_inj hf
      subst h1 h2
      exact pd_iret dX11_ranked_37 rfl (Nat.le_refl 0) (Nat.le_refl 0)
    · have hf := pd_in_ hf hc
      refine pd_aload_n (i := 0) dX11_ranked_16 rfl rfl ?_
      refine pd_get (x := pd_R (F x0 5)) 5 dX11_ranked_17 (show vwCl[11]? = some (RX11, TX11, 10) from rfl) pin_11 (by decide) pq_635 hg1 rfl ?_
      refine pd_iload_n (i := 2) dX11_ranked_20 rfl rfl ?_
      obtain ⟨r5, F4, hr, hf⟩ := pd_ob2 hf
      refine pd_callV (pkX4_aheadOf l hr) dX11_ranked_21 pq_686 pq_689 pq_690 (show vwCl[4]? = some (yX4_aheadOf.cls, TX4, 7) from rfl) hg2 (pd_okm (by omega) (by decide) pq_687 pq_688 (by decide) (show (parseMethodDescriptor yX4_aheadOf.desc).map (fun d => d.parameters.length) = some 1 from by decide +kernel)) (Nat.le_of_ble_eq_true rfl) rfl ?_
      refine pd_iload_n (i := 1) dX11_ranked_24 rfl rfl ?_
      refine pd_icmp_ne (tgt := 30) dX11_ranked_25 (by decide) (fun hc => ?_) (fun hc => ?_)
      · have hf := pd_ip hf hc
        refine pd_iincN (L' := fun y => [pd_R x0, pd_I x1, pd_I y]) dX11_ranked_30 rfl (by decide) (by decide) (fun _ => rfl) (fun x2_30 ex2_30 => ?_)
        have hf := pd_lt hf ex2_30
        clear ex2_30
        refine pd_goto (tgt := 2) dX11_ranked_33 (by decide) ?_
        exact pd_weak (L' := [pd_R x0, pd_I x1, pd_I x2_30]) ⟨Or.inr rfl, Or.inr rfl, Or.inr rfl, trivial⟩ (ih _ _ _ _ hf)
      · have hf := pd_iq hf hc
        refine pd_iload_n (i := 2) dX11_ranked_28 rfl rfl ?_
        obtain ⟨h1, h2⟩ := pd_inj hf
        subst h1 h2
        exact pd_iret dX11_ranked_29 rfl (Nat.le_refl 0) (Nat.le_refl 0)
set_option maxHeartbeats 4000000 in
set_option maxRecDepth 100000 in
theorem pkX11_ranked (l : Launch) {al : Bool} {sh : pd_S} {n : Nat} {F : pd_F} {x0 : Int} {x1 : Int} {ρ : Int} {Fz : pd_F} (hf : pfX11_ranked sh n F x0 x1 = some (ρ, Fz)) : pd_C l yX11_ranked (Cond.code yX11_ranked cX11_ranked 3 (some .int) :: pd_gt) (pd_rm 5 0 0) al 0 0 sh F [pd_R x0, pd_I x1] (some (pd_I ρ)) sh Fz := by
  unfold pfX11_ranked at hf
  refine pd_body (L := [pd_R x0, pd_I x1, pd_N]) (by decide +kernel) (Nat.le_of_ble_eq_true rfl) rfl (fun E => ?_)
  refine pd_iconst dX11_ranked_0 (by decide) ?_
  refine pd_istore_n (L' := [pd_R x0, pd_I x1, pd_I 0]) dX11_ranked_1 rfl (by decide) rfl ?_
  exact pd_weak (L' := [pd_R x0, pd_I x1, pd_I 0]) ⟨Or.inr rfl, Or.inr rfl, Or.inr rfl, trivial⟩ (pkX11_ranked_b2 E l n _ _ _ _ hf)
set_option maxHeartbeats 4000000 in
set_option maxRecDepth 100000 in
theorem pkX11_all (l : Launch) {al : Bool} {sh : pd_S} {n : Nat} {F : pd_F} {x0 : Int} {x1 : Int} {ρ : Int} {Fz : pd_F} (hf : pfX11_all sh n F x0 x1 = some (ρ, Fz)) : pd_C l yX11_all (Cond.code yX11_all cX11_all 2 (some .long) :: pd_gt) (pd_rm 6 0 0) al 0 0 sh F [pd_R x0, pd_I x1] (some (pd_J ρ)) sh Fz := by
  unfold pfX11_all at hf
  refine pd_body (L := [pd_R x0, pd_I x1]) (by decide +kernel) (Nat.le_of_ble_eq_true rfl) rfl (fun E => ?_)
  refine pd_iload_n (i := 1) dX11_all_0 rfl rfl ?_
  by_cases hv0 : x1 = 0
  · have hf := pd_ip hf hv0
    refine pd_tabE (v := 0) (off := 43) (tgt := 44) dX11_all_1 hv0 (by decide) (by decide) (by decide) (by decide) ?_
    refine pd_aload_n (i := 0) dX11_all_44 rfl rfl ?_
    obtain ⟨hg1, hf⟩ := pd_ig hf
    refine pd_get (x := pd_R (F x0 5)) 5 dX11_all_45 (show vwCl[11]? = some (RX11, TX11, 10) from rfl) pin_11 (by decide) pq_635 hg1 rfl ?_
    obtain ⟨hg3, hf⟩ := pd_ig hf
    obtain ⟨r4, F2, hr, hf⟩ := pd_ob2 hf
    refine pd_callV (pkX4_hasTogether l hr) dX11_all_48 pq_691 pq_694 pq_695 (show vwCl[4]? = some (yX4_hasTogether.cls, TX4, 7) from rfl) hg3 (pd_okm (by omega) (by decide) pq_692 pq_693 (by decide) (show (parseMethodDescriptor yX4_hasTogether.desc).map (fun d => d.parameters.length) = some 0 from by decide +kernel)) (Nat.le_of_ble_eq_true rfl) rfl ?_
    obtain ⟨h1, h2⟩ := pd_inj hf
    subst h1 h2
    exact pd_lret dX11_all_51 rfl (Nat.le_refl 0) (Nat.le_refl 0)
  · have hf := pd_in_ hf hv0
    by_cases hv1 : x1 = 1
    · have hf := pd_ip hf hv1
      refine pd_tabE (v := 1) (off := 51) (tgt := 52) dX11_all_1 hv1 (by decide) (by decide) (by decide) (by decide) ?_
      refine pd_aload_n (i := 0) dX11_all_52 rfl rfl ?_
      obtain ⟨hg5, hf⟩ := pd_ig hf
      refine pd_get (x := pd_R (F x0 5)) 5 dX11_all_53 (show vwCl[11]? = some (RX11, TX11, 10) from rfl) pin_11 (by decide) pq_635 hg5 rfl ?_
      obtain ⟨hg7, hf⟩ := pd_ig hf
      obtain ⟨r8, F6, hr, hf⟩ := pd_ob2 hf
      refine pd_callV (pkX4_setOffTogether l hr) dX11_all_56 pq_696 pq_699 pq_700 (show vwCl[4]? = some (yX4_setOffTogether.cls, TX4, 7) from rfl) hg7 (pd_okm (by omega) (by decide) pq_697 pq_698 (by decide) (show (parseMethodDescriptor yX4_setOffTogether.desc).map (fun d => d.parameters.length) = some 0 from by decide +kernel)) (Nat.le_of_ble_eq_true rfl) rfl ?_
      obtain ⟨h1, h2⟩ := pd_inj hf
      subst h1 h2
      exact pd_lret dX11_all_59 rfl (Nat.le_refl 0) (Nat.le_refl 0)
    · have hf := pd_in_ hf hv1
      by_cases hv2 : x1 = 2
      · have hf := pd_ip hf hv2
        refine pd_tabE (v := 2) (off := 59) (tgt := 60) dX11_all_1 hv2 (by decide) (by decide) (by decide) (by decide) ?_
        refine pd_aload_n (i := 0) dX11_all_60 rfl rfl ?_
        obtain ⟨hg9, hf⟩ := pd_ig hf
        refine pd_get (x := pd_R (F x0 5)) 5 dX11_all_61 (show vwCl[11]? = some (RX11, TX11, 10) from rfl) pin_11 (by decide) pq_635 hg9 rfl ?_
        obtain ⟨hg11, hf⟩ := pd_ig hf
        obtain ⟨r12, F10, hr, hf⟩ := pd_ob2 hf
        refine pd_callV (pkX4_paidTogether l hr) dX11_all_64 pq_701 pq_615 pq_616 (show vwCl[4]? = some (yX4_paidTogether.cls, TX4, 7) from rfl) hg11 (pd_okm (by omega) (by decide) pq_613 pq_614 (by decide) (show (parseMethodDescriptor yX4_paidTogether.desc).map (fun d => d.parameters.length) = some 0 from by decide +kernel)) (Nat.le_of_ble_eq_true rfl) rfl ?_
        obtain ⟨h1, h2⟩ := pd_inj hf
        subst h1 h2
        exact pd_lret dX11_all_67 rfl (Nat.le_refl 0) (Nat.le_refl 0)
      · have hf := pd_in_ hf hv2
        by_cases hv3 : x1 = 3
        · have hf := pd_ip hf hv3
          refine pd_tabE (v := 3) (off := 67) (tgt := 68) dX11_all_1 hv3 (by decide) (by decide) (by decide) (by decide) ?_
          refine pd_aload_n (i := 0) dX11_all_68 rfl rfl ?_
          obtain ⟨hg13, hf⟩ := pd_ig hf
          refine pd_get (x := pd_R (F x0 5)) 5 dX11_all_69 (show vwCl[11]? = some (RX11, TX11, 10) from rfl) pin_11 (by decide) pq_635 hg13 rfl ?_
          refine pd_iconst dX11_all_72 (by decide) ?_
          obtain ⟨hg15, hf⟩ := pd_ig hf
          obtain ⟨r16, F14, hr, hf⟩ := pd_ob2 hf
          refine pd_callV (pkX4_claimsOf l hr) dX11_all_73 pq_702 pq_610 pq_611 (show vwCl[4]? = some (yX4_claimsOf.cls, TX4, 7) from rfl) hg15 (pd_okm (by omega) (by decide) pq_608 pq_609 (by decide) (show (parseMethodDescriptor yX4_claimsOf.desc).map (fun d => d.parameters.length) = some 1 from by decide +kernel)) (Nat.le_of_ble_eq_true rfl) rfl ?_
          refine pd_aload_n (i := 0) dX11_all_76 rfl rfl ?_
          refine pd_get (x := pd_R (F14 x0 5)) 5 dX11_all_77 (show vwCl[11]? = some (RX11, TX11, 10) from rfl) pin_11 (by decide) pq_635 hg13 rfl ?_
          refine pd_iconst dX11_all_80 (by decide) ?_
          obtain ⟨hg18, hf⟩ := pd_ig hf
          obtain ⟨r19, F17, hr, hf⟩ := pd_ob2 hf
          refine pd_callV (pkX4_claimsOf l hr) dX11_all_81 pq_702 pq_610 pq_611 (show vwCl[4]? = some (yX4_claimsOf.cls, TX4, 7) from rfl) hg18 (pd_okm (by omega) (by decide) pq_608 pq_609 (by decide) (show (parseMethodDescriptor yX4_claimsOf.desc).map (fun d => d.parameters.length) = some 1 from by decide +kernel)) (Nat.le_of_ble_eq_true rfl) rfl ?_
          refine pd_ladd dX11_all_84 ?_
          obtain ⟨h1, h2⟩ := pd_inj hf
          subst h1 h2
          exact pd_lret dX11_all_85 rfl (Nat.le_refl 0) (Nat.le_refl 0)
        · have hf := pd_in_ hf hv3
          by_cases hv4 : x1 = 4
          · have hf := pd_ip hf hv4
            refine pd_tabE (v := 4) (off := 85) (tgt := 86) dX11_all_1 hv4 (by decide) (by decide) (by decide) (by decide) ?_
            refine pd_aload_n (i := 0) dX11_all_86 rfl rfl ?_
            obtain ⟨hg21, hf⟩ := pd_ig hf
            obtain ⟨r22, F20, hr, hf⟩ := pd_ob2 hf
            refine pd_callV (pkX11_frozenBalances l hr) dX11_all_87 pq_703 pq_706 pq_707 (show vwCl[11]? = some (yX11_frozenBalances.cls, TX11, 10) from rfl) hg21 (pd_okm (by omega) (by decide) pq_704 pq_705 (by decide) (show (parseMethodDescriptor yX11_frozenBalances.desc).map (fun d => d.parameters.length) = some 0 from by decide +kernel)) (Nat.le_of_ble_eq_true rfl) rfl ?_
            obtain ⟨h1, h2⟩ := pd_inj hf
            subst h1 h2
            exact pd_lret dX11_all_90 rfl (Nat.le_refl 0) (Nat.le_refl 0)
          · have hf := pd_in_ hf hv4
            by_cases hv5 : x1 = 5
            · have hf := pd_ip hf hv5
              refine pd_tabE (v := 5) (off := 90) (tgt := 91) dX11_all_1 hv5 (by decide) (by decide) (by decide) (by decide) ?_
              refine pd_aload_n (i := 0) dX11_all_91 rfl rfl ?_
              obtain ⟨hg23, hf⟩ := pd_ig hf
              refine pd_get (x := pd_R (F x0 5)) 5 dX11_all_92 (show vwCl[11]? = some (RX11, TX11, 10) from rfl) pin_11 (by decide) pq_635 hg23 rfl ?_
              obtain ⟨hg24, hf⟩ := pd_ig hf
              refine pd_getN (x := pd_R (F (F x0 5) 0)) 0 dX11_all_95 (show vwCl[4]? = some (RX4, TX4, 7) from rfl) pin_4 (by decide) pq_636 hg24 rfl ?_
              obtain ⟨hg25, hf⟩ := pd_ig hf
              refine pd_getN (x := pd_I (F (F (F x0 5) 0) 3)) 3 dX11_all_98 (show vwCl[10]? = some (RX10, TX10, 4) from rfl) pin_10 (by decide) pq_637 hg25 rfl ?_
              refine pd_i2l dX11_all_101 ?_
              obtain ⟨h1, h2⟩ := pd_inj hf
              subst h1 h2
              exact pd_lret dX11_all_102 rfl (Nat.le_refl 0) (Nat.le_refl 0)
            · have hf := pd_in_ hf hv5
              by_cases hv6 : x1 = 6
              · have hf := pd_ip hf hv6
                refine pd_tabE (v := 6) (off := 102) (tgt := 103) dX11_all_1 hv6 (by decide) (by decide) (by decide) (by decide) ?_
                refine pd_aload_n (i := 0) dX11_all_103 rfl rfl ?_
                obtain ⟨hg26, hf⟩ := pd_ig hf
                refine pd_get (x := pd_R (F x0 5)) 5 dX11_all_104 (show vwCl[11]? = some (RX11, TX11, 10) from rfl) pin_11 (by decide) pq_635 hg26 rfl ?_
                obtain ⟨hg28, hf⟩ := pd_ig hf
                obtain ⟨r29, F27, hr, hf⟩ := pd_ob2 hf
                refine pd_callV (pkX4_claimants l hr) dX11_all_107 pq_708 pq_711 pq_712 (show vwCl[4]? = some (yX4_claimants.cls, TX4, 7) from rfl) hg28 (pd_okm (by omega) (by decide) pq_709 pq_710 (by decide) (show (parseMethodDescriptor yX4_claimants.desc).map (fun d => d.parameters.length) = some 0 from by decide +kernel)) (Nat.le_of_ble_eq_true rfl) rfl ?_
                refine pd_i2l dX11_all_110 ?_
                obtain ⟨h1, h2⟩ := pd_inj hf
                subst h1 h2
                exact pd_lret dX11_all_111 rfl (Nat.le_refl 0) (Nat.le_refl 0)
              · have hf := pd_in_ hf hv6
                refine pd_tabO (tgt := 112) dX11_all_1 (by omega) (by decide) ?_
                refine pd_ldc2 (x := (-1)) dX11_all_112 pq_685 (by decide +kernel) ?_
                obtain ⟨h1, h2⟩ := pd_inj hf
                subst h1 h2
                exact pd_lret dX11_all_115 rfl (Nat.le_refl 0) (Nat.le_refl 0)
set_option maxHeartbeats 4000000 in
set_option maxRecDepth 100000 in
theorem pkX11_enough (l : Launch) {al : Bool} {sh : pd_S} {n : Nat} {F : pd_F} {x0 : Int} {x1 : Int} {ρ : Int} {Fz : pd_F} (hf : pfX11_enough sh n F x0 x1 = some (ρ, Fz)) : pd_C l yX11_enough (Cond.code yX11_enough cX11_enough 8 (some .long) :: pd_gt) (pd_rm 6 0 0) al 0 0 sh F [pd_R x0, pd_I x1] (some (pd_J ρ)) sh Fz := by
  unfold pfX11_enough at hf
  refine pd_body (L := [pd_R x0, pd_I x1, pd_N, pd_N, pd_N, pd_N, pd_N, pd_N]) (by decide +kernel) (Nat.le_of_ble_eq_true rfl) rfl (fun E => ?_)
  refine pd_aload_n (i := 0) dX11_enough_0 rfl rfl ?_
  obtain ⟨hg1, hf⟩ := pd_ig hf
  refine pd_get (x := pd_R (F x0 5)) 5 dX11_enough_1 (show vwCl[11]? = some (RX11, TX11, 10) from rfl) pin_11 (by decide) pq_635 hg1 rfl ?_
  obtain ⟨hg3, hf⟩ := pd_ig hf
  obtain ⟨r4, F2, hr, hf⟩ := pd_ob2 hf
  refine pd_callV (pkX4_paidTogether l hr) dX11_enough_4 pq_701 pq_615 pq_616 (show vwCl[4]? = some (yX4_paidTogether.cls, TX4, 7) from rfl) hg3 (pd_okm (by omega) (by decide) pq_613 pq_614 (by decide) (show (parseMethodDescriptor yX4_paidTogether.desc).map (fun d => d.parameters.length) = some 0 from by decide +kernel)) (Nat.le_of_ble_eq_true rfl) rfl ?_
  refine pd_lstore_n (L' := [pd_R x0, pd_I x1, pd_J r4, pd_N, pd_N, pd_N, pd_N, pd_N]) dX11_enough_7 rfl (by decide) rfl ?_
  refine pd_aload_n (i := 0) dX11_enough_8 rfl rfl ?_
  refine pd_get (x := pd_R (F2 x0 5)) 5 dX11_enough_9 (show vwCl[11]? = some (RX11, TX11, 10) from rfl) pin_11 (by decide) pq_635 hg1 rfl ?_
  refine pd_iconst dX11_enough_12 (by decide) ?_
  obtain ⟨hg6, hf⟩ := pd_ig hf
  obtain ⟨r7, F5, hr, hf⟩ := pd_ob2 hf
  refine pd_callV (pkX4_claimsOf l hr) dX11_enough_13 pq_702 pq_610 pq_611 (show vwCl[4]? = some (yX4_claimsOf.cls, TX4, 7) from rfl) hg6 (pd_okm (by omega) (by decide) pq_608 pq_609 (by decide) (show (parseMethodDescriptor yX4_claimsOf.desc).map (fun d => d.parameters.length) = some 1 from by decide +kernel)) (Nat.le_of_ble_eq_true rfl) rfl ?_
  refine pd_lstore (L' := [pd_R x0, pd_I x1, pd_J r4, pd_N, pd_J r7, pd_N, pd_N, pd_N]) dX11_enough_16 (by decide) rfl ?_
  refine pd_aload_n (i := 0) dX11_enough_18 rfl rfl ?_
  refine pd_get (x := pd_R (F5 x0 5)) 5 dX11_enough_19 (show vwCl[11]? = some (RX11, TX11, 10) from rfl) pin_11 (by decide) pq_635 hg1 rfl ?_
  refine pd_iconst dX11_enough_22 (by decide) ?_
  obtain ⟨hg9, hf⟩ := pd_ig hf
  obtain ⟨r10, F8, hr, hf⟩ := pd_ob2 hf
  refine pd_callV (pkX4_claimsOf l hr) dX11_enough_23 pq_702 pq_610 pq_611 (show vwCl[4]? = some (yX4_claimsOf.cls, TX4, 7) from rfl) hg9 (pd_okm (by omega) (by decide) pq_608 pq_609 (by decide) (show (parseMethodDescriptor yX4_claimsOf.desc).map (fun d => d.parameters.length) = some 1 from by decide +kernel)) (Nat.le_of_ble_eq_true rfl) rfl ?_
  refine pd_lstore (L' := [pd_R x0, pd_I x1, pd_J r4, pd_N, pd_J r7, pd_N, pd_J r10, pd_N]) dX11_enough_26 (by decide) rfl ?_
  refine pd_iload_n (i := 1) dX11_enough_28 rfl rfl ?_
  by_cases hv0 : x1 = 0
  · have hf := pd_ip hf hv0
    refine pd_tabE (v := 0) (off := 27) (tgt := 56) dX11_enough_29 hv0 (by decide) (by decide) (by decide) (by decide) ?_
    refine pd_lload_n (i := 2) dX11_enough_56 rfl rfl ?_
    obtain ⟨h1, h2⟩ := pd_inj hf
    subst h1 h2
    exact pd_lret dX11_enough_57 rfl (Nat.le_refl 0) (Nat.le_refl 0)
  · have hf := pd_in_ hf hv0
    by_cases hv1 : x1 = 1
    · have hf := pd_ip hf hv1
      refine pd_tabE (v := 1) (off := 29) (tgt := 58) dX11_enough_29 hv1 (by decide) (by decide) (by decide) (by decide) ?_
      refine pd_lload (i := 4) dX11_enough_58 rfl ?_
      refine pd_lconst (x := 0) dX11_enough_60 (by decide) ?_
      refine pd_lcmp_ne (tgt := 69) dX11_enough_61 dX11_enough_62 (by decide) (fun hc => ?_) (fun hc => ?_)
      · have hf := pd_ip hf hc
        refine pd_lload_n (i := 2) dX11_enough_69 rfl rfl ?_
        refine pd_lload (i := 4) dX11_enough_70 rfl ?_
        refine pd_ladd dX11_enough_72 ?_
        obtain ⟨h1, h2⟩ := pd_inj hf
        subst h1 h2
        exact pd_lret dX11_enough_73 rfl (Nat.le_refl 0) (Nat.le_refl 0)
      · have hf := pd_iq hf hc
        refine pd_lconst (x := 0) dX11_enough_65 (by decide) ?_
        refine pd_goto (tgt := 73) dX11_enough_66 (by decide) ?_
        obtain ⟨h1, h2⟩ := pd_inj hf
        subst h1 h2
        exact pd_lret dX11_enough_73 rfl (Nat.le_refl 0) (Nat.le_refl 0)
    · have hf := pd_in_ hf hv1
      by_cases hv2 : x1 = 2
      · have hf := pd_ip hf hv2
        refine pd_tabE (v := 2) (off := 45) (tgt := 74) dX11_enough_29 hv2 (by decide) (by decide) (by decide) (by decide) ?_
        refine pd_lload (i := 6) dX11_enough_74 rfl ?_
        refine pd_lconst (x := 0) dX11_enough_76 (by decide) ?_
        refine pd_lcmp_ne (tgt := 85) dX11_enough_77 dX11_enough_78 (by decide) (fun hc => ?_) (fun hc => ?_)
        · have hf := pd_ip hf hc
          refine pd_lload_n (i := 2) dX11_enough_85 rfl rfl ?_
          refine pd_lload (i := 4) dX11_enough_86 rfl ?_
          refine pd_ladd dX11_enough_88 ?_
          refine pd_lload (i := 6) dX11_enough_89 rfl ?_
          refine pd_ladd dX11_enough_91 ?_
          obtain ⟨h1, h2⟩ := pd_inj hf
          subst h1 h2
          exact pd_lret dX11_enough_92 rfl (Nat.le_refl 0) (Nat.le_refl 0)
        · have hf := pd_iq hf hc
          refine pd_lconst (x := 0) dX11_enough_81 (by decide) ?_
          refine pd_goto (tgt := 92) dX11_enough_82 (by decide) ?_
          obtain ⟨h1, h2⟩ := pd_inj hf
          subst h1 h2
          exact pd_lret dX11_enough_92 rfl (Nat.le_refl 0) (Nat.le_refl 0)
      · have hf := pd_in_ hf hv2
        refine pd_tabO (tgt := 93) dX11_enough_29 (by omega) (by decide) ?_
        refine pd_ldc2 (x := (-1)) dX11_enough_93 pq_685 (by decide +kernel) ?_
        obtain ⟨h1, h2⟩ := pd_inj hf
        subst h1 h2
        exact pd_lret dX11_enough_96 rfl (Nat.le_refl 0) (Nat.le_refl 0)
set_option maxHeartbeats 4000000 in
set_option maxRecDepth 100000 in
theorem pkX11_estate (l : Launch) {al : Bool} {sh : pd_S} {n : Nat} {F : pd_F} {x0 : Int} {x1 : Int} {x2 : Int} {ρ : Int} {Fz : pd_F} (hf : pfX11_estate sh n F x0 x1 x2 = some (ρ, Fz)) : pd_C l yX11_estate (Cond.code yX11_estate cX11_estate 3 (some .long) :: pd_gt) (pd_rm 7 0 0) al 0 0 sh F [pd_R x0, pd_I x1, pd_I x2] (some (pd_J ρ)) sh Fz := by
  unfold pfX11_estate at hf
  refine pd_body (L := [pd_R x0, pd_I x1, pd_I x2]) (by decide +kernel) (Nat.le_of_ble_eq_true rfl) rfl (fun E => ?_)
  refine pd_iload_n (i := 1) dX11_estate_0 rfl rfl ?_
  refine pd_if_lt (tgt := 10) dX11_estate_1 (by decide) (fun hc => ?_) (fun hc => ?_)
  · have hf := pd_ip hf hc
    refine pd_ldc2 (x := (-2)) dX11_estate_10 pq_713 (by decide +kernel) ?_
    obtain ⟨h1, h2⟩ := pd_inj hf
    subst h1 h2
    exact pd_lret dX11_estate_13 rfl (Nat.le_refl 0) (Nat.le_refl 0)
  · have hf := pd_in_ hf hc
    refine pd_iload_n (i := 1) dX11_estate_4 rfl rfl ?_
    refine pd_ldc (x := 99999999) dX11_estate_5 pq_714 (by decide +kernel) ?_
    refine pd_icmp_le (tgt := 14) dX11_estate_7 (by decide) (fun hc => ?_) (fun hc => ?_)
    · have hf := pd_ip hf hc
      refine pd_iload_n (i := 2) dX11_estate_14 rfl rfl ?_
      refine pd_iconst dX11_estate_15 (by decide) ?_
      refine pd_icmp_ne (tgt := 32) dX11_estate_16 (by decide) (fun hc => ?_) (fun hc => ?_)
      · have hf := pd_ip hf hc
        refine pd_aload_n (i := 0) dX11_estate_32 rfl rfl ?_
        refine pd_iload_n (i := 2) dX11_estate_33 rfl rfl ?_
        obtain ⟨hg2, hf⟩ := pd_ig hf
        obtain ⟨r3, F1, hr, hf⟩ := pd_ob2 hf
        refine pd_callV (pkX11_isDepositor l hr) dX11_estate_34 pq_668 pq_671 pq_672 (show vwCl[11]? = some (yX11_isDepositor.cls, TX11, 10) from rfl) hg2 (pd_okm (by omega) (by decide) pq_669 pq_670 (by decide) (show (parseMethodDescriptor yX11_isDepositor.desc).map (fun d => d.parameters.length) = some 1 from by decide +kernel)) (Nat.le_of_ble_eq_true rfl) rfl ?_
        refine pd_if_eq (tgt := 53) dX11_estate_37 (by decide) (fun hc => ?_) (fun hc => ?_)
        · have hf := pd_ip hf hc
          refine pd_ldc2 (x := (-2)) dX11_estate_53 pq_713 (by decide +kernel) ?_
          obtain ⟨h1, h2⟩ := pd_inj hf
          subst h1 h2
          exact pd_lret dX11_estate_56 rfl (Nat.le_refl 0) (Nat.le_refl 0)
        · have hf := pd_in_ hf hc
          refine pd_aload_n (i := 0) dX11_estate_40 rfl rfl ?_
          refine pd_get (x := pd_R (F1 x0 5)) 5 dX11_estate_41 (show vwCl[11]? = some (RX11, TX11, 10) from rfl) pin_11 (by decide) pq_635 hg2 rfl ?_
          refine pd_iload_n (i := 1) dX11_estate_44 rfl rfl ?_
          refine pd_i2l dX11_estate_45 ?_
          refine pd_iload_n (i := 2) dX11_estate_46 rfl rfl ?_
          obtain ⟨hg5, hf⟩ := pd_ig hf
          obtain ⟨r6, F4, hr, hf⟩ := pd_ob2 hf
          refine pd_callV (pkX4_fromEstate l hr) dX11_estate_47 pq_715 pq_718 pq_719 (show vwCl[4]? = some (yX4_fromEstate.cls, TX4, 7) from rfl) hg5 (pd_okm (by omega) (by decide) pq_716 pq_717 (by decide) (show (parseMethodDescriptor yX4_fromEstate.desc).map (fun d => d.parameters.length) = some 2 from by decide +kernel)) (Nat.le_of_ble_eq_true rfl) rfl ?_
          refine pd_goto (tgt := 56) dX11_estate_50 (by decide) ?_
          obtain ⟨h1, h2⟩ := pd_inj hf
          subst h1 h2
          exact pd_lret dX11_estate_56 rfl (Nat.le_refl 0) (Nat.le_refl 0)
      · have hf := pd_iq hf hc
        refine pd_iload_n (i := 1) dX11_estate_19 rfl rfl ?_
        refine pd_i2l dX11_estate_20 ?_
        refine pd_aload_n (i := 0) dX11_estate_21 rfl rfl ?_
        obtain ⟨hg7, hf⟩ := pd_ig hf
        refine pd_get (x := pd_R (F x0 5)) 5 dX11_estate_22 (show vwCl[11]? = some (RX11, TX11, 10) from rfl) pin_11 (by decide) pq_635 hg7 rfl ?_
        obtain ⟨hg9, hf⟩ := pd_ig hf
        obtain ⟨r10, F8, hr, hf⟩ := pd_ob2 hf
        refine pd_callV (pkX4_paidTogether l hr) dX11_estate_25 pq_701 pq_615 pq_616 (show vwCl[4]? = some (yX4_paidTogether.cls, TX4, 7) from rfl) hg9 (pd_okm (by omega) (by decide) pq_613 pq_614 (by decide) (show (parseMethodDescriptor yX4_paidTogether.desc).map (fun d => d.parameters.length) = some 0 from by decide +kernel)) (Nat.le_of_ble_eq_true rfl) rfl ?_
        refine pd_mminJ dX11_estate_28 pq_720 pq_537 pq_40 pq_538 pd_rmR (Nat.le_of_ble_eq_true rfl) ?_
        obtain ⟨h1, h2⟩ := pd_inj hf
        subst h1 h2
        exact pd_lret dX11_estate_31 rfl (Nat.le_refl 0) (Nat.le_refl 0)
    · have hf := pd_in_ hf hc
      refine pd_ldc2 (x := (-2)) dX11_estate_10 pq_713 (by decide +kernel) ?_
      obtain ⟨h1, h2⟩ := pd_inj hf
      subst h1 h2
      exact pd_lret dX11_estate_13 rfl (Nat.le_refl 0) (Nat.le_refl 0)
set_option maxHeartbeats 4000000 in
set_option maxRecDepth 100000 in
theorem pkX11_refresh (l : Launch) {al : Bool} {sh : pd_S} {n : Nat} {F : pd_F} {x0 : Int} {Fz : pd_F} (hf : pfX11_refresh sh n F x0 = some Fz) : pd_C l yX11_refresh (Cond.code yX11_refresh cX11_refresh 1 none :: pd_gt) (pd_rm 12 0 0) al 0 0 sh F [pd_R x0] none sh Fz := by
  unfold pfX11_refresh at hf
  refine pd_body (L := [pd_R x0]) (by decide +kernel) (Nat.le_of_ble_eq_true rfl) rfl (fun E => ?_)
  refine pd_aload_n (i := 0) dX11_refresh_0 rfl rfl ?_
  obtain ⟨hg1, hf⟩ := pd_ig hf
  refine pd_get (x := pd_R (F x0 3)) 3 dX11_refresh_1 (show vwCl[11]? = some (RX11, TX11, 10) from rfl) pin_11 (by decide) pq_721 hg1 rfl ?_
  refine pd_aload_n (i := 0) dX11_refresh_4 rfl rfl ?_
  refine pd_get (x := pd_R (F x0 8)) 8 dX11_refresh_5 (show vwCl[11]? = some (RX11, TX11, 10) from rfl) pin_11 (by decide) pq_617 hg1 rfl ?_
  refine pd_aload_n (i := 0) dX11_refresh_8 rfl rfl ?_
  refine pd_get (x := pd_R (F x0 4)) 4 dX11_refresh_9 (show vwCl[11]? = some (RX11, TX11, 10) from rfl) pin_11 (by decide) pq_623 hg1 rfl ?_
  obtain ⟨hg3, hf⟩ := pd_ig hf
  obtain ⟨F2, hr, hf⟩ := pd_ob1 hf
  refine pd_callV (pkX7_reckon l hr) dX11_refresh_12 pq_722 pq_725 pq_726 (show vwCl[7]? = some (yX7_reckon.cls, TX7, 2) from rfl) hg3 (pd_okm (by omega) (by decide) pq_723 pq_724 (by decide) (show (parseMethodDescriptor yX7_reckon.desc).map (fun d => d.parameters.length) = some 2 from by decide +kernel)) (Nat.le_of_ble_eq_true rfl) rfl ?_
  refine pd_aload_n (i := 0) dX11_refresh_15 rfl rfl ?_
  refine pd_get (x := pd_R (F2 x0 5)) 5 dX11_refresh_16 (show vwCl[11]? = some (RX11, TX11, 10) from rfl) pin_11 (by decide) pq_635 hg1 rfl ?_
  obtain ⟨hg4, hf⟩ := pd_ig hf
  refine pd_getN (x := pd_R (F2 (F2 x0 5) 0)) 0 dX11_refresh_19 (show vwCl[4]? = some (RX4, TX4, 7) from rfl) pin_4 (by decide) pq_636 hg4 rfl ?_
  refine pd_aload_n (i := 0) dX11_refresh_22 rfl rfl ?_
  refine pd_get (x := pd_R (F2 x0 8)) 8 dX11_refresh_23 (show vwCl[11]? = some (RX11, TX11, 10) from rfl) pin_11 (by decide) pq_617 hg1 rfl ?_
  refine pd_aload_n (i := 0) dX11_refresh_26 rfl rfl ?_
  refine pd_get (x := pd_R (F2 x0 4)) 4 dX11_refresh_27 (show vwCl[11]? = some (RX11, TX11, 10) from rfl) pin_11 (by decide) pq_623 hg1 rfl ?_
  obtain ⟨hg6, hf⟩ := pd_ig hf
  obtain ⟨F5, hr, hf⟩ := pd_ob1 hf
  refine pd_callV (pkX10_reckon l hr) dX11_refresh_30 pq_727 pq_730 pq_731 (show vwCl[10]? = some (yX10_reckon.cls, TX10, 4) from rfl) hg6 (pd_okm (by omega) (by decide) pq_728 pq_729 (by decide) (show (parseMethodDescriptor yX10_reckon.desc).map (fun d => d.parameters.length) = some 2 from by decide +kernel)) (Nat.le_of_ble_eq_true rfl) rfl ?_
  refine pd_aload_n (i := 0) dX11_refresh_33 rfl rfl ?_
  refine pd_get (x := pd_R (F5 x0 5)) 5 dX11_refresh_34 (show vwCl[11]? = some (RX11, TX11, 10) from rfl) pin_11 (by decide) pq_635 hg1 rfl ?_
  refine pd_aload_n (i := 0) dX11_refresh_37 rfl rfl ?_
  refine pd_get (x := pd_R (F5 x0 8)) 8 dX11_refresh_38 (show vwCl[11]? = some (RX11, TX11, 10) from rfl) pin_11 (by decide) pq_617 hg1 rfl ?_
  refine pd_aload_n (i := 0) dX11_refresh_41 rfl rfl ?_
  refine pd_get (x := pd_R (F5 x0 4)) 4 dX11_refresh_42 (show vwCl[11]? = some (RX11, TX11, 10) from rfl) pin_11 (by decide) pq_623 hg1 rfl ?_
  refine pd_aload_n (i := 0) dX11_refresh_45 rfl rfl ?_
  refine pd_get (x := pd_R (F5 x0 3)) 3 dX11_refresh_46 (show vwCl[11]? = some (RX11, TX11, 10) from rfl) pin_11 (by decide) pq_721 hg1 rfl ?_
  obtain ⟨hg8, hf⟩ := pd_ig hf
  obtain ⟨F7, hr, hf⟩ := pd_ob1 hf
  refine pd_callV (pkX4_sumUp l hr) dX11_refresh_49 pq_732 pq_735 pq_736 (show vwCl[4]? = some (yX4_sumUp.cls, TX4, 7) from rfl) hg8 (pd_okm (by omega) (by decide) pq_733 pq_734 (by decide) (show (parseMethodDescriptor yX4_sumUp.desc).map (fun d => d.parameters.length) = some 3 from by decide +kernel)) (Nat.le_of_ble_eq_true rfl) rfl ?_
  obtain h2 := pd_inj1 hf
  subst h2
  exact pd_vret dX11_refresh_52 rfl (Nat.le_refl 0) (Nat.le_refl 0)
set_option maxHeartbeats 4000000 in
set_option maxRecDepth 100000 in
theorem pkX11_book (l : Launch) {al : Bool} {sh : pd_S} {n : Nat} {F : pd_F} {x0 : Int} {x1 : Int} {ρ : Int} {Fz : pd_F} (hf : pfX11_book sh n F x0 x1 = some (ρ, Fz)) : pd_C l yX11_book (Cond.code yX11_book cX11_book 3 (some .int) :: pd_gt) (pd_rm 13 0 0) al 0 0 sh F [pd_R x0, pd_I x1] (some (pd_I ρ)) sh Fz := by
  unfold pfX11_book at hf
  refine pd_body (L := [pd_R x0, pd_I x1, pd_N]) (by decide +kernel) (Nat.le_of_ble_eq_true rfl) rfl (fun E => ?_)
  refine pd_iload_n (i := 1) dX11_book_0 rfl rfl ?_
  refine pd_if_lt (tgt := 15) dX11_book_1 (by decide) (fun hc => ?_) (fun hc => ?_)
  · have hf := pd_ip hf hc
    refine pd_iconst dX11_book_15 (by decide) ?_
    obtain ⟨h1, h2⟩ := pd_inj hf
    subst h1 h2
    exact pd_iret dX11_book_16 rfl (Nat.le_refl 0) (Nat.le_refl 0)
  · have hf := pd_in_ hf hc
    refine pd_iload_n (i := 1) dX11_book_4 rfl rfl ?_
    refine pd_aload_n (i := 0) dX11_book_5 rfl rfl ?_
    obtain ⟨hg1, hf⟩ := pd_ig hf
    refine pd_get (x := pd_R (F x0 1)) 1 dX11_book_6 (show vwCl[11]? = some (RX11, TX11, 10) from rfl) pin_11 (by decide) pq_633 hg1 rfl ?_
    obtain ⟨hg2, hf⟩ := pd_ig hf
    refine pd_getN (x := pd_I (F (F x0 1) 1)) 1 dX11_book_9 (show vwCl[9]? = some (RX9, TX9, 9) from rfl) pin_9 (by decide) pq_634 hg2 rfl ?_
    refine pd_icmp_le (tgt := 17) dX11_book_12 (by decide) (fun hc => ?_) (fun hc => ?_)
    · have hf := pd_ip hf hc
      refine pd_aload_n (i := 0) dX11_book_17 rfl rfl ?_
      refine pd_get (x := pd_R (F x0 0)) 0 dX11_book_18 (show vwCl[11]? = some (RX11, TX11, 10) from rfl) pin_11 (by decide) pq_737 hg1 rfl ?_
      refine pd_iload_n (i := 1) dX11_book_21 rfl rfl ?_
      obtain ⟨hg4, hf⟩ := pd_ig hf
      obtain ⟨r5, F3, hr, hf⟩ := pd_ob2 hf
      refine pd_callV (pkX6_read l hr) dX11_book_22 pq_738 pq_741 pq_742 (show vwCl[6]? = some (yX6_read.cls, TX6, 3) from rfl) hg4 (pd_okm (by omega) (by decide) pq_739 pq_740 (by decide) (show (parseMethodDescriptor yX6_read.desc).map (fun d => d.parameters.length) = some 1 from by decide +kernel)) (Nat.le_of_ble_eq_true rfl) rfl ?_
      refine pd_istore_n (L' := [pd_R x0, pd_I x1, pd_I r5]) dX11_book_25 rfl (by decide) rfl ?_
      refine pd_aload_n (i := 0) dX11_book_26 rfl rfl ?_
      refine pd_get (x := pd_R (F3 x0 1)) 1 dX11_book_27 (show vwCl[11]? = some (RX11, TX11, 10) from rfl) pin_11 (by decide) pq_633 hg1 rfl ?_
      refine pd_iconst dX11_book_30 (by decide) ?_
      obtain ⟨hg6, hf⟩ := pd_ig hf
      refine pd_putN (n := 0) (x := pd_I 0) 1 dX11_book_31 (show vwCl[9]? = some (RX9, TX9, 9) from rfl) pin_9 tyX9_ok nmX9 (by decide) pq_634 rfl hg6 rfl pd_nrI pd_ftI ?_
      refine pd_topF (fun F7 eF7 => ?_)
      have hf := pd_lt hf eF7
      clear eF7
      refine pd_iload_n (i := 2) dX11_book_34 rfl rfl ?_
      refine pd_if_le (tgt := 80) dX11_book_35 (by decide) (fun hc => ?_) (fun hc => ?_)
      · have hf := pd_ip hf hc
        refine pd_iload_n (i := 2) dX11_book_80 rfl rfl ?_
        obtain ⟨h1, h2⟩ := pd_inj hf
        subst h1 h2
        exact pd_iret dX11_book_81 rfl (Nat.le_refl 0) (Nat.le_refl 0)
      · have hf := pd_in_ hf hc
        refine pd_aload_n (i := 0) dX11_book_38 rfl rfl ?_
        refine pd_aload_n (i := 0) dX11_book_39 rfl rfl ?_
        refine pd_get (x := pd_R (F7 x0 0)) 0 dX11_book_40 (show vwCl[11]? = some (RX11, TX11, 10) from rfl) pin_11 (by decide) pq_737 hg1 rfl ?_
        refine pd_aload_n (i := 0) dX11_book_43 rfl rfl ?_
        refine pd_get (x := pd_R (F7 x0 8)) 8 dX11_book_44 (show vwCl[11]? = some (RX11, TX11, 10) from rfl) pin_11 (by decide) pq_617 hg1 rfl ?_
        obtain ⟨hg9, hf⟩ := pd_ig hf
        obtain ⟨r10, F8, hr, hf⟩ := pd_ob2 hf
        refine pd_callV (pkX6_trade l hr) dX11_book_47 pq_743 pq_746 pq_747 (show vwCl[6]? = some (yX6_trade.cls, TX6, 3) from rfl) hg9 (pd_okm (by omega) (by decide) pq_744 pq_745 (by decide) (show (parseMethodDescriptor yX6_trade.desc).map (fun d => d.parameters.length) = some 1 from by decide +kernel)) (Nat.le_of_ble_eq_true rfl) rfl ?_
        refine pd_put (n := r10) (x := pd_R r10) 8 dX11_book_50 (show vwCl[11]? = some (RX11, TX11, 10) from rfl) pin_11 tyX11_ok nmX11 (by decide) pq_617 rfl hg1 rfl (pd_nrR (Or.inl ⟨_, rfl⟩)) (pd_ftR (Or.inl ⟨_, rfl⟩)) ?_
        refine pd_topF (fun F11 eF11 => ?_)
        have hf := pd_lt hf eF11
        clear eF11
        refine pd_aload_n (i := 0) dX11_book_53 rfl rfl ?_
        refine pd_iconst dX11_book_54 (by decide) ?_
        refine pd_put (n := 1) (x := pd_I 1) 9 dX11_book_55 (show vwCl[11]? = some (RX11, TX11, 10) from rfl) pin_11 tyX11_ok nmX11 (by decide) pq_748 rfl hg1 rfl (pd_nrZ (by decide)) (pd_ftZ (by decide)) ?_
        refine pd_topF (fun F12 eF12 => ?_)
        have hf := pd_lt hf eF12
        clear eF12
        refine pd_aload_n (i := 0) dX11_book_58 rfl rfl ?_
        refine pd_get (x := pd_R (F12 x0 4)) 4 dX11_book_59 (show vwCl[11]? = some (RX11, TX11, 10) from rfl) pin_11 (by decide) pq_623 hg1 rfl ?_
        refine pd_aload_n (i := 0) dX11_book_62 rfl rfl ?_
        refine pd_get (x := pd_R (F12 x0 8)) 8 dX11_book_63 (show vwCl[11]? = some (RX11, TX11, 10) from rfl) pin_11 (by decide) pq_617 hg1 rfl ?_
        obtain ⟨hg14, hf⟩ := pd_ig hf
        obtain ⟨F13, hr, hf⟩ := pd_ob1 hf
        refine pd_callV (pkX8_begin l hr) dX11_book_66 pq_749 pq_752 pq_753 (show vwCl[8]? = some (yX8_begin.cls, TX8, 6) from rfl) hg14 (pd_okm (by omega) (by decide) pq_750 pq_751 (by decide) (show (parseMethodDescriptor yX8_begin.desc).map (fun d => d.parameters.length) = some 1 from by decide +kernel)) (Nat.le_of_ble_eq_true rfl) rfl ?_
        refine pd_aload_n (i := 0) dX11_book_69 rfl rfl ?_
        refine pd_get (x := pd_R (F13 x0 2)) 2 dX11_book_70 (show vwCl[11]? = some (RX11, TX11, 10) from rfl) pin_11 (by decide) pq_631 hg1 rfl ?_
        obtain ⟨hg16, hf⟩ := pd_ig hf
        obtain ⟨F15, hr, hf⟩ := pd_ob1 hf
        refine pd_callV (pkX3_forget l hr) dX11_book_73 pq_754 pq_757 pq_758 (show vwCl[3]? = some (yX3_forget.cls, TX3, 5) from rfl) hg16 (pd_okm (by omega) (by decide) pq_755 pq_756 (by decide) (show (parseMethodDescriptor yX3_forget.desc).map (fun d => d.parameters.length) = some 0 from by decide +kernel)) (Nat.le_of_ble_eq_true rfl) rfl ?_
        refine pd_aload_n (i := 0) dX11_book_76 rfl rfl ?_
        obtain ⟨F17, hr, hf⟩ := pd_ob1 hf
        refine pd_callV (pkX11_refresh l hr) dX11_book_77 pq_759 pq_762 pq_763 (show vwCl[11]? = some (yX11_refresh.cls, TX11, 10) from rfl) hg1 (pd_okm (by omega) (by decide) pq_760 pq_761 (by decide) (show (parseMethodDescriptor yX11_refresh.desc).map (fun d => d.parameters.length) = some 0 from by decide +kernel)) (Nat.le_of_ble_eq_true rfl) rfl ?_
        refine pd_iload_n (i := 2) dX11_book_80 rfl rfl ?_
        obtain ⟨h1, h2⟩ := pd_inj hf
        subst h1 h2
        exact pd_iret dX11_book_81 rfl (Nat.le_refl 0) (Nat.le_refl 0)
    · have hf := pd_in_ hf hc
      refine pd_iconst dX11_book_15 (by decide) ?_
      obtain ⟨h1, h2⟩ := pd_inj hf
      subst h1 h2
      exact pd_iret dX11_book_16 rfl (Nat.le_refl 0) (Nat.le_refl 0)
set_option maxHeartbeats 4000000 in
set_option maxRecDepth 100000 in
theorem pkX11_balance (l : Launch) {al : Bool} {sh : pd_S} {n : Nat} {F : pd_F} {x0 : Int} {x1 : Int} {x2 : Int} {ρ : Int} {Fz : pd_F} (hf : pfX11_balance sh n F x0 x1 x2 = some (ρ, Fz)) : pd_C l yX11_balance (Cond.code yX11_balance cX11_balance 4 (some .int) :: pd_gt) (pd_rm 13 0 0) al 0 0 sh F [pd_R x0, pd_I x1, pd_I x2] (some (pd_I ρ)) sh Fz := by
  unfold pfX11_balance at hf
  refine pd_body (L := [pd_R x0, pd_I x1, pd_I x2, pd_N]) (by decide +kernel) (Nat.le_of_ble_eq_true rfl) rfl (fun E => ?_)
  refine pd_aload_n (i := 0) dX11_balance_0 rfl rfl ?_
  refine pd_iload_n (i := 1) dX11_balance_1 rfl rfl ?_
  obtain ⟨hg2, hf⟩ := pd_ig hf
  obtain ⟨r3, F1, hr, hf⟩ := pd_ob2 hf
  refine pd_callV (pkX11_isAccount l hr) dX11_balance_2 pq_657 pq_660 pq_661 (show vwCl[11]? = some (yX11_isAccount.cls, TX11, 10) from rfl) hg2 (pd_okm (by omega) (by decide) pq_658 pq_659 (by decide) (show (parseMethodDescriptor yX11_isAccount.desc).map (fun d => d.parameters.length) = some 1 from by decide +kernel)) (Nat.le_of_ble_eq_true rfl) rfl ?_
  refine pd_if_eq (tgt := 19) dX11_balance_5 (by decide) (fun hc => ?_) (fun hc => ?_)
  · have hf := pd_ip hf hc
    refine pd_iconst dX11_balance_19 (by decide) ?_
    obtain ⟨h1, h2⟩ := pd_inj hf
    subst h1 h2
    exact pd_iret dX11_balance_20 rfl (Nat.le_refl 0) (Nat.le_refl 0)
  · have hf := pd_in_ hf hc
    refine pd_iload_n (i := 2) dX11_balance_8 rfl rfl ?_
    refine pd_if_lt (tgt := 19) dX11_balance_9 (by decide) (fun hc => ?_) (fun hc => ?_)
    · have hf := pd_ip hf hc
      refine pd_iconst dX11_balance_19 (by decide) ?_
      obtain ⟨h1, h2⟩ := pd_inj hf
      subst h1 h2
      exact pd_iret dX11_balance_20 rfl (Nat.le_refl 0) (Nat.le_refl 0)
    · have hf := pd_in_ hf hc
      refine pd_iload_n (i := 2) dX11_balance_12 rfl rfl ?_
      refine pd_ldcw (x := 9999999) dX11_balance_13 pq_244 (by decide +kernel) ?_
      refine pd_icmp_le (tgt := 21) dX11_balance_16 (by decide) (fun hc => ?_) (fun hc => ?_)
      · have hf := pd_ip hf hc
        refine pd_aload_n (i := 0) dX11_balance_21 rfl rfl ?_
        refine pd_get (x := pd_R (F1 x0 4)) 4 dX11_balance_22 (show vwCl[11]? = some (RX11, TX11, 10) from rfl) pin_11 (by decide) pq_623 hg2 rfl ?_
        obtain ⟨hg4, hf⟩ := pd_ig hf
        refine pd_getN (x := pd_R (F1 (F1 x0 4) 0)) 0 dX11_balance_25 (show vwCl[8]? = some (RX8, TX8, 6) from rfl) pin_8 (by decide) pq_640 hg4 rfl ?_
        refine pd_iload_n (i := 1) dX11_balance_28 rfl rfl ?_
        obtain ⟨hg5, hf⟩ := pd_ig hf
        refine pd_iald dX11_balance_29 hg5 ?_
        refine pd_topI (fun x3_30 ex3_30 => ?_)
        have hf := pd_lt hf ex3_30
        clear ex3_30
        refine pd_istore_n (L' := [pd_R x0, pd_I x1, pd_I x2, pd_I x3_30]) dX11_balance_30 rfl (by decide) rfl ?_
        refine pd_aload_n (i := 0) dX11_balance_31 rfl rfl ?_
        refine pd_get (x := pd_R (F1 x0 2)) 2 dX11_balance_32 (show vwCl[11]? = some (RX11, TX11, 10) from rfl) pin_11 (by decide) pq_631 hg2 rfl ?_
        refine pd_aload_n (i := 0) dX11_balance_35 rfl rfl ?_
        refine pd_get (x := pd_R (F1 x0 4)) 4 dX11_balance_36 (show vwCl[11]? = some (RX11, TX11, 10) from rfl) pin_11 (by decide) pq_623 hg2 rfl ?_
        obtain ⟨hg7, hf⟩ := pd_ig hf
        obtain ⟨F6, hr, hf⟩ := pd_ob1 hf
        refine pd_callV (pkX3_remember l hr) dX11_balance_39 pq_764 pq_767 pq_768 (show vwCl[3]? = some (yX3_remember.cls, TX3, 5) from rfl) hg7 (pd_okm (by omega) (by decide) pq_765 pq_766 (by decide) (show (parseMethodDescriptor yX3_remember.desc).map (fun d => d.parameters.length) = some 1 from by decide +kernel)) (Nat.le_of_ble_eq_true rfl) rfl ?_
        refine pd_aload_n (i := 0) dX11_balance_42 rfl rfl ?_
        refine pd_get (x := pd_R (F6 x0 4)) 4 dX11_balance_43 (show vwCl[11]? = some (RX11, TX11, 10) from rfl) pin_11 (by decide) pq_623 hg2 rfl ?_
        obtain ⟨hg8, hf⟩ := pd_ig hf
        refine pd_getN (x := pd_R (F6 (F6 x0 4) 0)) 0 dX11_balance_46 (show vwCl[8]? = some (RX8, TX8, 6) from rfl) pin_8 (by decide) pq_640 hg8 rfl ?_
        refine pd_iload_n (i := 1) dX11_balance_49 rfl rfl ?_
        refine pd_iload_n (i := 2) dX11_balance_50 rfl rfl ?_
        obtain ⟨hg9, hf⟩ := pd_ig hf
        refine pd_iast dX11_balance_51 hg9 ?_
        refine pd_topF (fun F10 eF10 => ?_)
        have hf := pd_lt hf eF10
        clear eF10
        refine pd_aload_n (i := 0) dX11_balance_52 rfl rfl ?_
        obtain ⟨F11, hr, hf⟩ := pd_ob1 hf
        refine pd_callV (pkX11_refresh l hr) dX11_balance_53 pq_759 pq_762 pq_763 (show vwCl[11]? = some (yX11_refresh.cls, TX11, 10) from rfl) hg2 (pd_okm (by omega) (by decide) pq_760 pq_761 (by decide) (show (parseMethodDescriptor yX11_refresh.desc).map (fun d => d.parameters.length) = some 0 from by decide +kernel)) (Nat.le_of_ble_eq_true rfl) rfl ?_
        refine pd_iload_n (i := 3) dX11_balance_56 rfl rfl ?_
        obtain ⟨h1, h2⟩ := pd_inj hf
        subst h1 h2
        exact pd_iret dX11_balance_57 rfl (Nat.le_refl 0) (Nat.le_refl 0)
      · have hf := pd_in_ hf hc
        refine pd_iconst dX11_balance_19 (by decide) ?_
        obtain ⟨h1, h2⟩ := pd_inj hf
        subst h1 h2
        exact pd_iret dX11_balance_20 rfl (Nat.le_refl 0) (Nat.le_refl 0)
set_option maxHeartbeats 4000000 in
set_option maxRecDepth 100000 in
theorem pkX11_join (l : Launch) {al : Bool} {sh : pd_S} {n : Nat} {F : pd_F} {x0 : Int} {x1 : Int} {x2 : Int} {ρ : Int} {Fz : pd_F} (hf : pfX11_join sh n F x0 x1 x2 = some (ρ, Fz)) : pd_C l yX11_join (Cond.code yX11_join cX11_join 3 (some .int) :: pd_gt) (pd_rm 13 0 0) al 0 0 sh F [pd_R x0, pd_I x1, pd_I x2] (some (pd_I ρ)) sh Fz := by
  unfold pfX11_join at hf
  refine pd_body (L := [pd_R x0, pd_I x1, pd_I x2]) (by decide +kernel) (Nat.le_of_ble_eq_true rfl) rfl (fun E => ?_)
  refine pd_aload_n (i := 0) dX11_join_0 rfl rfl ?_
  refine pd_iload_n (i := 1) dX11_join_1 rfl rfl ?_
  refine pd_iload_n (i := 2) dX11_join_2 rfl rfl ?_
  obtain ⟨hg2, hf⟩ := pd_ig hf
  obtain ⟨r3, F1, hr, hf⟩ := pd_ob2 hf
  refine pd_callV (pkX11_areTwo l hr) dX11_join_3 pq_769 pq_772 pq_773 (show vwCl[11]? = some (yX11_areTwo.cls, TX11, 10) from rfl) hg2 (pd_okm (by omega) (by decide) pq_770 pq_771 (by decide) (show (parseMethodDescriptor yX11_areTwo.desc).map (fun d => d.parameters.length) = some 2 from by decide +kernel)) (Nat.le_of_ble_eq_true rfl) rfl ?_
  refine pd_if_eq (tgt := 21) dX11_join_6 (by decide) (fun hc => ?_) (fun hc => ?_)
  · have hf := pd_ip hf hc
    refine pd_iconst dX11_join_21 (by decide) ?_
    obtain ⟨h1, h2⟩ := pd_inj hf
    subst h1 h2
    exact pd_iret dX11_join_22 rfl (Nat.le_refl 0) (Nat.le_refl 0)
  · have hf := pd_in_ hf hc
    refine pd_aload_n (i := 0) dX11_join_9 rfl rfl ?_
    refine pd_get (x := pd_R (F1 x0 4)) 4 dX11_join_10 (show vwCl[11]? = some (RX11, TX11, 10) from rfl) pin_11 (by decide) pq_623 hg2 rfl ?_
    obtain ⟨hg4, hf⟩ := pd_ig hf
    refine pd_getN (x := pd_I (F1 (F1 x0 4) 4)) 4 dX11_join_13 (show vwCl[8]? = some (RX8, TX8, 6) from rfl) pin_8 (by decide) pq_625 hg4 rfl ?_
    refine pd_bipush dX11_join_16 (by decide) ?_
    refine pd_icmp_lt (tgt := 23) dX11_join_18 (by decide) (fun hc => ?_) (fun hc => ?_)
    · have hf := pd_ip hf hc
      refine pd_aload_n (i := 0) dX11_join_23 rfl rfl ?_
      refine pd_get (x := pd_R (F1 x0 2)) 2 dX11_join_24 (show vwCl[11]? = some (RX11, TX11, 10) from rfl) pin_11 (by decide) pq_631 hg2 rfl ?_
      refine pd_aload_n (i := 0) dX11_join_27 rfl rfl ?_
      refine pd_get (x := pd_R (F1 x0 4)) 4 dX11_join_28 (show vwCl[11]? = some (RX11, TX11, 10) from rfl) pin_11 (by decide) pq_623 hg2 rfl ?_
      obtain ⟨hg6, hf⟩ := pd_ig hf
      obtain ⟨F5, hr, hf⟩ := pd_ob1 hf
      refine pd_callV (pkX3_remember l hr) dX11_join_31 pq_764 pq_767 pq_768 (show vwCl[3]? = some (yX3_remember.cls, TX3, 5) from rfl) hg6 (pd_okm (by omega) (by decide) pq_765 pq_766 (by decide) (show (parseMethodDescriptor yX3_remember.desc).map (fun d => d.parameters.length) = some 1 from by decide +kernel)) (Nat.le_of_ble_eq_true rfl) rfl ?_
      refine pd_aload_n (i := 0) dX11_join_34 rfl rfl ?_
      refine pd_get (x := pd_R (F5 x0 4)) 4 dX11_join_35 (show vwCl[11]? = some (RX11, TX11, 10) from rfl) pin_11 (by decide) pq_623 hg2 rfl ?_
      refine pd_iload_n (i := 1) dX11_join_38 rfl rfl ?_
      refine pd_iload_n (i := 2) dX11_join_39 rfl rfl ?_
      obtain ⟨hg8, hf⟩ := pd_ig hf
      obtain ⟨F7, hr, hf⟩ := pd_ob1 hf
      refine pd_callV (pkX8_addJoin l hr) dX11_join_40 pq_774 pq_777 pq_778 (show vwCl[8]? = some (yX8_addJoin.cls, TX8, 6) from rfl) hg8 (pd_okm (by omega) (by decide) pq_775 pq_776 (by decide) (show (parseMethodDescriptor yX8_addJoin.desc).map (fun d => d.parameters.length) = some 2 from by decide +kernel)) (Nat.le_of_ble_eq_true rfl) rfl ?_
      refine pd_aload_n (i := 0) dX11_join_43 rfl rfl ?_
      obtain ⟨F9, hr, hf⟩ := pd_ob1 hf
      refine pd_callV (pkX11_refresh l hr) dX11_join_44 pq_759 pq_762 pq_763 (show vwCl[11]? = some (yX11_refresh.cls, TX11, 10) from rfl) hg2 (pd_okm (by omega) (by decide) pq_760 pq_761 (by decide) (show (parseMethodDescriptor yX11_refresh.desc).map (fun d => d.parameters.length) = some 0 from by decide +kernel)) (Nat.le_of_ble_eq_true rfl) rfl ?_
      refine pd_aload_n (i := 0) dX11_join_47 rfl rfl ?_
      refine pd_get (x := pd_R (F9 x0 5)) 5 dX11_join_48 (show vwCl[11]? = some (RX11, TX11, 10) from rfl) pin_11 (by decide) pq_635 hg2 rfl ?_
      obtain ⟨hg10, hf⟩ := pd_ig hf
      refine pd_getN (x := pd_R (F9 (F9 x0 5) 0)) 0 dX11_join_51 (show vwCl[4]? = some (RX4, TX4, 7) from rfl) pin_4 (by decide) pq_636 hg10 rfl ?_
      obtain ⟨hg11, hf⟩ := pd_ig hf
      refine pd_getN (x := pd_I (F9 (F9 (F9 x0 5) 0) 3)) 3 dX11_join_54 (show vwCl[10]? = some (RX10, TX10, 4) from rfl) pin_10 (by decide) pq_637 hg11 rfl ?_
      obtain ⟨h1, h2⟩ := pd_inj hf
      subst h1 h2
      exact pd_iret dX11_join_57 rfl (Nat.le_refl 0) (Nat.le_refl 0)
    · have hf := pd_in_ hf hc
      refine pd_iconst dX11_join_21 (by decide) ?_
      obtain ⟨h1, h2⟩ := pd_inj hf
      subst h1 h2
      exact pd_iret dX11_join_22 rfl (Nat.le_refl 0) (Nat.le_refl 0)
set_option maxHeartbeats 4000000 in
set_option maxRecDepth 100000 in
theorem pkX11_tell (l : Launch) {al : Bool} {sh : pd_S} {n : Nat} {F : pd_F} {x0 : Int} {x1 : Int} {x2 : Int} {ρ : Int} {Fz : pd_F} (hf : pfX11_tell sh n F x0 x1 x2 = some (ρ, Fz)) : pd_C l yX11_tell (Cond.code yX11_tell cX11_tell 4 (some .int) :: pd_gt) (pd_rm 13 0 0) al 0 0 sh F [pd_R x0, pd_I x1, pd_I x2] (some (pd_I ρ)) sh Fz := by
  unfold pfX11_tell at hf
  refine pd_body (L := [pd_R x0, pd_I x1, pd_I x2, pd_N]) (by decide +kernel) (Nat.le_of_ble_eq_true rfl) rfl (fun E => ?_)
  refine pd_aload_n (i := 0) dX11_tell_0 rfl rfl ?_
  obtain ⟨hg1, hf⟩ := pd_ig hf
  refine pd_get (x := pd_I (F x0 9)) 9 dX11_tell_1 (show vwCl[11]? = some (RX11, TX11, 10) from rfl) pin_11 (by decide) pq_748 hg1 rfl ?_
  refine pd_if_eq (tgt := 28) dX11_tell_4 (by decide) (fun hc => ?_) (fun hc => ?_)
  · have hf := pd_ip hf hc
    refine pd_iconst dX11_tell_28 (by decide) ?_
    obtain ⟨h1, h2⟩ := pd_inj hf
    subst h1 h2
    exact pd_iret dX11_tell_29 rfl (Nat.le_refl 0) (Nat.le_refl 0)
  · have hf := pd_in_ hf hc
    refine pd_iload_n (i := 1) dX11_tell_7 rfl rfl ?_
    refine pd_if_lt (tgt := 28) dX11_tell_8 (by decide) (fun hc => ?_) (fun hc => ?_)
    · have hf := pd_ip hf hc
      refine pd_iconst dX11_tell_28 (by decide) ?_
      obtain ⟨h1, h2⟩ := pd_inj hf
      subst h1 h2
      exact pd_iret dX11_tell_29 rfl (Nat.le_refl 0) (Nat.le_refl 0)
    · have hf := pd_in_ hf hc
      refine pd_iload_n (i := 1) dX11_tell_11 rfl rfl ?_
      refine pd_iconst dX11_tell_12 (by decide) ?_
      refine pd_icmp_ge (tgt := 28) dX11_tell_13 (by decide) (fun hc => ?_) (fun hc => ?_)
      · have hf := pd_ip hf hc
        refine pd_iconst dX11_tell_28 (by decide) ?_
        obtain ⟨h1, h2⟩ := pd_inj hf
        subst h1 h2
        exact pd_iret dX11_tell_29 rfl (Nat.le_refl 0) (Nat.le_refl 0)
      · have hf := pd_in_ hf hc
        refine pd_iload_n (i := 2) dX11_tell_16 rfl rfl ?_
        refine pd_if_lt (tgt := 28) dX11_tell_17 (by decide) (fun hc => ?_) (fun hc => ?_)
        · have hf := pd_ip hf hc
          refine pd_iconst dX11_tell_28 (by decide) ?_
          obtain ⟨h1, h2⟩ := pd_inj hf
          subst h1 h2
          exact pd_iret dX11_tell_29 rfl (Nat.le_refl 0) (Nat.le_refl 0)
        · have hf := pd_in_ hf hc
          refine pd_iload_n (i := 2) dX11_tell_20 rfl rfl ?_
          refine pd_iload_n (i := 1) dX11_tell_21 rfl rfl ?_
          obtain ⟨r3, F2, hr, hf⟩ := pd_ob2 hf
          refine pd_callS (pkX11_greatestOf l hr) dX11_tell_22 pq_779 pq_366 (pd_okm (by omega) (by decide) pq_364 pq_365 (by decide) (show (parseMethodDescriptor yX11_greatestOf.desc).map (fun d => d.parameters.length) = some 1 from by decide +kernel)) (Nat.le_of_ble_eq_true rfl) rfl ?_
          refine pd_icmp_le (tgt := 30) dX11_tell_25 (by decide) (fun hc => ?_) (fun hc => ?_)
          · have hf := pd_ip hf hc
            refine pd_aload_n (i := 0) dX11_tell_30 rfl rfl ?_
            refine pd_get (x := pd_R (F2 x0 4)) 4 dX11_tell_31 (show vwCl[11]? = some (RX11, TX11, 10) from rfl) pin_11 (by decide) pq_623 hg1 rfl ?_
            obtain ⟨hg4, hf⟩ := pd_ig hf
            refine pd_getN (x := pd_R (F2 (F2 x0 4) 1)) 1 dX11_tell_34 (show vwCl[8]? = some (RX8, TX8, 6) from rfl) pin_8 (by decide) pq_624 hg4 rfl ?_
            refine pd_iload_n (i := 1) dX11_tell_37 rfl rfl ?_
            obtain ⟨hg5, hf⟩ := pd_ig hf
            refine pd_iald dX11_tell_38 hg5 ?_
            refine pd_topI (fun x3_39 ex3_39 => ?_)
            have hf := pd_lt hf ex3_39
            clear ex3_39
            refine pd_istore_n (L' := [pd_R x0, pd_I x1, pd_I x2, pd_I x3_39]) dX11_tell_39 rfl (by decide) rfl ?_
            refine pd_aload_n (i := 0) dX11_tell_40 rfl rfl ?_
            refine pd_get (x := pd_R (F2 x0 2)) 2 dX11_tell_41 (show vwCl[11]? = some (RX11, TX11, 10) from rfl) pin_11 (by decide) pq_631 hg1 rfl ?_
            refine pd_aload_n (i := 0) dX11_tell_44 rfl rfl ?_
            refine pd_get (x := pd_R (F2 x0 4)) 4 dX11_tell_45 (show vwCl[11]? = some (RX11, TX11, 10) from rfl) pin_11 (by decide) pq_623 hg1 rfl ?_
            obtain ⟨hg7, hf⟩ := pd_ig hf
            obtain ⟨F6, hr, hf⟩ := pd_ob1 hf
            refine pd_callV (pkX3_remember l hr) dX11_tell_48 pq_764 pq_767 pq_768 (show vwCl[3]? = some (yX3_remember.cls, TX3, 5) from rfl) hg7 (pd_okm (by omega) (by decide) pq_765 pq_766 (by decide) (show (parseMethodDescriptor yX3_remember.desc).map (fun d => d.parameters.length) = some 1 from by decide +kernel)) (Nat.le_of_ble_eq_true rfl) rfl ?_
            refine pd_aload_n (i := 0) dX11_tell_51 rfl rfl ?_
            refine pd_get (x := pd_R (F6 x0 4)) 4 dX11_tell_52 (show vwCl[11]? = some (RX11, TX11, 10) from rfl) pin_11 (by decide) pq_623 hg1 rfl ?_
            obtain ⟨hg8, hf⟩ := pd_ig hf
            refine pd_getN (x := pd_R (F6 (F6 x0 4) 1)) 1 dX11_tell_55 (show vwCl[8]? = some (RX8, TX8, 6) from rfl) pin_8 (by decide) pq_624 hg8 rfl ?_
            refine pd_iload_n (i := 1) dX11_tell_58 rfl rfl ?_
            refine pd_iload_n (i := 2) dX11_tell_59 rfl rfl ?_
            obtain ⟨hg9, hf⟩ := pd_ig hf
            refine pd_iast dX11_tell_60 hg9 ?_
            refine pd_topF (fun F10 eF10 => ?_)
            have hf := pd_lt hf eF10
            clear eF10
            refine pd_aload_n (i := 0) dX11_tell_61 rfl rfl ?_
            obtain ⟨F11, hr, hf⟩ := pd_ob1 hf
            refine pd_callV (pkX11_refresh l hr) dX11_tell_62 pq_759 pq_762 pq_763 (show vwCl[11]? = some (yX11_refresh.cls, TX11, 10) from rfl) hg1 (pd_okm (by omega) (by decide) pq_760 pq_761 (by decide) (show (parseMethodDescriptor yX11_refresh.desc).map (fun d => d.parameters.length) = some 0 from by decide +kernel)) (Nat.le_of_ble_eq_true rfl) rfl ?_
            refine pd_iload_n (i := 3) dX11_tell_65 rfl rfl ?_
            obtain ⟨h1, h2⟩ := pd_inj hf
            subst h1 h2
            exact pd_iret dX11_tell_66 rfl (Nat.le_refl 0) (Nat.le_refl 0)
          · have hf := pd_in_ hf hc
            refine pd_iconst dX11_tell_28 (by decide) ?_
            obtain ⟨h1, h2⟩ := pd_inj hf
            subst h1 h2
            exact pd_iret dX11_tell_29 rfl (Nat.le_refl 0) (Nat.le_refl 0)
set_option maxHeartbeats 4000000 in
set_option maxRecDepth 100000 in
theorem pkX11_mark (l : Launch) {al : Bool} {sh : pd_S} {n : Nat} {F : pd_F} {x0 : Int} {x1 : Int} {x2 : Int} {ρ : Int} {Fz : pd_F} (hf : pfX11_mark sh n F x0 x1 x2 = some (ρ, Fz)) : pd_C l yX11_mark (Cond.code yX11_mark cX11_mark 4 (some .boolean) :: pd_gt) (pd_rm 13 0 0) al 0 0 sh F [pd_R x0, pd_I x1, pd_I x2] (some (pd_I ρ)) sh Fz := by
  unfold pfX11_mark at hf
  refine pd_body (L := [pd_R x0, pd_I x1, pd_I x2, pd_N]) (by decide +kernel) (Nat.le_of_ble_eq_true rfl) rfl (fun E => ?_)
  refine pd_aload_n (i := 0) dX11_mark_0 rfl rfl ?_
  obtain ⟨hg1, hf⟩ := pd_ig hf
  refine pd_get (x := pd_R (F x0 8)) 8 dX11_mark_1 (show vwCl[11]? = some (RX11, TX11, 10) from rfl) pin_11 (by decide) pq_617 hg1 rfl ?_
  refine pd_iload_n (i := 1) dX11_mark_4 rfl rfl ?_
  obtain ⟨hg3, hf⟩ := pd_ig hf
  obtain ⟨r4, F2, hr, hf⟩ := pd_ob2 hf
  refine pd_callV (pkX0_indexOfMark l hr) dX11_mark_5 pq_780 pq_235 pq_236 (show vwCl[0]? = some (yX0_indexOfMark.cls, TX0, 15) from rfl) hg3 (pd_okm (by omega) (by decide) pq_233 pq_234 (by decide) (show (parseMethodDescriptor yX0_indexOfMark.desc).map (fun d => d.parameters.length) = some 1 from by decide +kernel)) (Nat.le_of_ble_eq_true rfl) rfl ?_
  refine pd_istore_n (L' := [pd_R x0, pd_I x1, pd_I x2, pd_I r4]) dX11_mark_8 rfl (by decide) rfl ?_
  refine pd_iload_n (i := 3) dX11_mark_9 rfl rfl ?_
  refine pd_iconst dX11_mark_10 (by decide) ?_
  refine pd_icmp_ne (tgt := 16) dX11_mark_11 (by decide) (fun hc => ?_) (fun hc => ?_)
  · have hf := pd_ip hf hc
    refine pd_aload_n (i := 0) dX11_mark_16 rfl rfl ?_
    refine pd_get (x := pd_R (F2 x0 2)) 2 dX11_mark_17 (show vwCl[11]? = some (RX11, TX11, 10) from rfl) pin_11 (by decide) pq_631 hg1 rfl ?_
    refine pd_aload_n (i := 0) dX11_mark_20 rfl rfl ?_
    refine pd_get (x := pd_R (F2 x0 4)) 4 dX11_mark_21 (show vwCl[11]? = some (RX11, TX11, 10) from rfl) pin_11 (by decide) pq_623 hg1 rfl ?_
    obtain ⟨hg6, hf⟩ := pd_ig hf
    obtain ⟨F5, hr, hf⟩ := pd_ob1 hf
    refine pd_callV (pkX3_remember l hr) dX11_mark_24 pq_764 pq_767 pq_768 (show vwCl[3]? = some (yX3_remember.cls, TX3, 5) from rfl) hg6 (pd_okm (by omega) (by decide) pq_765 pq_766 (by decide) (show (parseMethodDescriptor yX3_remember.desc).map (fun d => d.parameters.length) = some 1 from by decide +kernel)) (Nat.le_of_ble_eq_true rfl) rfl ?_
    refine pd_aload_n (i := 0) dX11_mark_27 rfl rfl ?_
    refine pd_get (x := pd_R (F5 x0 4)) 4 dX11_mark_28 (show vwCl[11]? = some (RX11, TX11, 10) from rfl) pin_11 (by decide) pq_623 hg1 rfl ?_
    refine pd_iload_n (i := 3) dX11_mark_31 rfl rfl ?_
    refine pd_iload_n (i := 2) dX11_mark_32 rfl rfl ?_
    obtain ⟨hg8, hf⟩ := pd_ig hf
    obtain ⟨F7, hr, hf⟩ := pd_ob1 hf
    refine pd_callV (pkX8_leaveOut l hr) dX11_mark_33 pq_781 pq_784 pq_785 (show vwCl[8]? = some (yX8_leaveOut.cls, TX8, 6) from rfl) hg8 (pd_okm (by omega) (by decide) pq_782 pq_783 (by decide) (show (parseMethodDescriptor yX8_leaveOut.desc).map (fun d => d.parameters.length) = some 2 from by decide +kernel)) (Nat.le_of_ble_eq_true rfl) rfl ?_
    refine pd_aload_n (i := 0) dX11_mark_36 rfl rfl ?_
    obtain ⟨F9, hr, hf⟩ := pd_ob1 hf
    refine pd_callV (pkX11_refresh l hr) dX11_mark_37 pq_759 pq_762 pq_763 (show vwCl[11]? = some (yX11_refresh.cls, TX11, 10) from rfl) hg1 (pd_okm (by omega) (by decide) pq_760 pq_761 (by decide) (show (parseMethodDescriptor yX11_refresh.desc).map (fun d => d.parameters.length) = some 0 from by decide +kernel)) (Nat.le_of_ble_eq_true rfl) rfl ?_
    refine pd_iconst dX11_mark_40 (by decide) ?_
    obtain ⟨h1, h2⟩ := pd_inj hf
    subst h1 h2
    exact pd_zret dX11_mark_41 rfl (by decide) (Nat.le_refl 0) (Nat.le_refl 0)
  · have hf := pd_iq hf hc
    refine pd_iconst dX11_mark_14 (by decide) ?_
    obtain ⟨h1, h2⟩ := pd_inj hf
    subst h1 h2
    exact pd_zret dX11_mark_15 rfl (by decide) (Nat.le_refl 0) (Nat.le_refl 0)
set_option maxHeartbeats 4000000 in
set_option maxRecDepth 100000 in
theorem pkX11_share (l : Launch) {al : Bool} {sh : pd_S} {n : Nat} {F : pd_F} {x0 : Int} {x1 : Int} {x2 : Int} {ρ : Int} {Fz : pd_F} (hf : pfX11_share sh n F x0 x1 x2 = some (ρ, Fz)) : pd_C l yX11_share (Cond.code yX11_share cX11_share 3 (some .int) :: pd_gt) (pd_rm 2 0 0) al 0 0 sh F [pd_R x0, pd_I x1, pd_I x2] (some (pd_I ρ)) sh Fz := by
  unfold pfX11_share at hf
  refine pd_body (L := [pd_R x0, pd_I x1, pd_I x2]) (by decide +kernel) (Nat.le_of_ble_eq_true rfl) rfl (fun E => ?_)
  refine pd_aload_n (i := 0) dX11_share_0 rfl rfl ?_
  refine pd_iload_n (i := 1) dX11_share_1 rfl rfl ?_
  obtain ⟨hg2, hf⟩ := pd_ig hf
  obtain ⟨r3, F1, hr, hf⟩ := pd_ob2 hf
  refine pd_callV (pkX11_isAccount l hr) dX11_share_2 pq_657 pq_660 pq_661 (show vwCl[11]? = some (yX11_isAccount.cls, TX11, 10) from rfl) hg2 (pd_okm (by omega) (by decide) pq_658 pq_659 (by decide) (show (parseMethodDescriptor yX11_isAccount.desc).map (fun d => d.parameters.length) = some 1 from by decide +kernel)) (Nat.le_of_ble_eq_true rfl) rfl ?_
  refine pd_if_eq (tgt := 16) dX11_share_5 (by decide) (fun hc => ?_) (fun hc => ?_)
  · have hf := pd_ip hf hc
    exact absurd hf (fun h => nomatch h)
  · have hf := pd_in_ hf hc
    refine pd_aload_n (i := 0) dX11_share_8 rfl rfl ?_
    refine pd_iload_n (i := 2) dX11_share_9 rfl rfl ?_
    obtain ⟨r5, F4, hr, hf⟩ := pd_ob2 hf
    refine pd_callV (pkX11_isPerson l hr) dX11_share_10 pq_646 pq_649 pq_650 (show vwCl[11]? = some (yX11_isPerson.cls, TX11, 10) from rfl) hg2 (pd_okm (by omega) (by decide) pq_647 pq_648 (by decide) (show (parseMethodDescriptor yX11_isPerson.desc).map (fun d => d.parameters.length) = some 1 from by decide +kernel)) (Nat.le_of_ble_eq_true rfl) rfl ?_
    refine pd_if_ne (tgt := 26) dX11_share_13 (by decide) (fun hc => ?_) (fun hc => ?_)
    · have hf := pd_ip hf hc
      refine pd_aload_n (i := 0) dX11_share_26 rfl rfl ?_
      refine pd_get (x := pd_R (F4 x0 3)) 3 dX11_share_27 (show vwCl[11]? = some (RX11, TX11, 10) from rfl) pin_11 (by decide) pq_721 hg2 rfl ?_
      obtain ⟨hg6, hf⟩ := pd_ig hf
      refine pd_getN (x := pd_R (F4 (F4 x0 3) 0)) 0 dX11_share_30 (show vwCl[7]? = some (RX7, TX7, 2) from rfl) pin_7 (by decide) pq_786 hg6 rfl ?_
      refine pd_iload_n (i := 1) dX11_share_33 rfl rfl ?_
      obtain ⟨hg7, hf⟩ := pd_ig hf
      refine pd_aalI dX11_share_34 hg7 ?_
      refine pd_iload_n (i := 2) dX11_share_35 rfl rfl ?_
      obtain ⟨hg8, hf⟩ := pd_ig hf
      refine pd_iald dX11_share_36 hg8 ?_
      obtain ⟨h1, h2⟩ := pd_inj hf
      subst h1 h2
      exact pd_iret dX11_share_37 rfl (Nat.le_refl 0) (Nat.le_refl 0)
    · have hf := pd_iq hf hc
      exact absurd hf (fun h => nomatch h)
