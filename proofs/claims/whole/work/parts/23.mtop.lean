theorem dX12_paidNow_0 : decode cX12_paidNow 0 = .ok (.aload_n 0, 1) := by decide +kernel
theorem dX12_paidNow_1 : decode cX12_paidNow 1 = .ok (.invokevirtual 369, 3) := by decide +kernel
theorem dX12_paidNow_4 : decode cX12_paidNow 4 = .ok (.aload_n 0, 1) := by decide +kernel
theorem dX12_paidNow_5 : decode cX12_paidNow 5 = .ok (.aload_n 0, 1) := by decide +kernel
theorem dX12_paidNow_6 : decode cX12_paidNow 6 = .ok (.getfield 88, 3) := by decide +kernel
theorem dX12_paidNow_9 : decode cX12_paidNow 9 = .ok (.bipush 72, 2) := by decide +kernel
theorem dX12_paidNow_11 : decode cX12_paidNow 11 = .ok (.iaload, 1) := by decide +kernel
theorem dX12_paidNow_12 : decode cX12_paidNow 12 = .ok (.i2l, 1) := by decide +kernel
theorem dX12_paidNow_13 : decode cX12_paidNow 13 = .ok (.invokevirtual 372, 3) := by decide +kernel
theorem dX12_paidNow_16 : decode cX12_paidNow 16 = .ok (.lreturn, 1) := by decide +kernel
theorem dX12_view_0 : decode cX12_view 0 = .ok (.aload_n 0, 1) := by decide +kernel
theorem dX12_view_1 : decode cX12_view 1 = .ok (.iconst 0, 1) := by decide +kernel
theorem dX12_view_2 : decode cX12_view 2 = .ok (.putfield 123, 3) := by decide +kernel
theorem dX12_view_5 : decode cX12_view 5 = .ok (.aload_n 0, 1) := by decide +kernel
theorem dX12_view_6 : decode cX12_view 6 = .ok (.invokevirtual 369, 3) := by decide +kernel
theorem dX12_view_9 : decode cX12_view 9 = .ok (.iload_n 1, 1) := by decide +kernel
theorem dX12_view_10 : decode cX12_view 10 = .ok (.i2l, 1) := by decide +kernel
theorem dX12_view_11 : decode cX12_view 11 = .ok (.lconst 0, 1) := by decide +kernel
theorem dX12_view_12 : decode cX12_view 12 = .ok (.aload_n 0, 1) := by decide +kernel
theorem dX12_view_13 : decode cX12_view 13 = .ok (.getfield 340, 3) := by decide +kernel
theorem dX12_view_16 : decode cX12_view 16 = .ok (.iconst 1, 1) := by decide +kernel
theorem dX12_view_17 : decode cX12_view 17 = .ok (.isub, 1) := by decide +kernel
theorem dX12_view_18 : decode cX12_view 18 = .ok (.i2l, 1) := by decide +kernel
theorem dX12_view_19 : decode cX12_view 19 = .ok (.invokestatic 161, 3) := by decide +kernel
theorem dX12_view_22 : decode cX12_view 22 = .ok (.ifCond .ne 7, 3) := by decide +kernel
theorem dX12_view_25 : decode cX12_view 25 = .ok (.ldc2_w 390, 3) := by decide +kernel
theorem dX12_view_28 : decode cX12_view 28 = .ok (.lreturn, 1) := by decide +kernel
theorem dX12_view_29 : decode cX12_view 29 = .ok (.iload_n 2, 1) := by decide +kernel
theorem dX12_view_30 : decode cX12_view 30 = .ok (.tableswitch 132 0 8 #[50, 57, 64, 70, 76, 83, 97, 111, 117], 50) := by decide +kernel
theorem dX12_view_80 : decode cX12_view 80 = .ok (.aload_n 0, 1) := by decide +kernel
theorem dX12_view_81 : decode cX12_view 81 = .ok (.getfield 109, 3) := by decide +kernel
theorem dX12_view_84 : decode cX12_view 84 = .ok (.iload_n 1, 1) := by decide +kernel
theorem dX12_view_85 : decode cX12_view 85 = .ok (.laload, 1) := by decide +kernel
theorem dX12_view_86 : decode cX12_view 86 = .ok (.lreturn, 1) := by decide +kernel
theorem dX12_view_87 : decode cX12_view 87 = .ok (.aload_n 0, 1) := by decide +kernel
theorem dX12_view_88 : decode cX12_view 88 = .ok (.getfield 112, 3) := by decide +kernel
theorem dX12_view_91 : decode cX12_view 91 = .ok (.iload_n 1, 1) := by decide +kernel
theorem dX12_view_92 : decode cX12_view 92 = .ok (.laload, 1) := by decide +kernel
theorem dX12_view_93 : decode cX12_view 93 = .ok (.lreturn, 1) := by decide +kernel
theorem dX12_view_94 : decode cX12_view 94 = .ok (.aload_n 0, 1) := by decide +kernel
theorem dX12_view_95 : decode cX12_view 95 = .ok (.iload_n 1, 1) := by decide +kernel
theorem dX12_view_96 : decode cX12_view 96 = .ok (.invokevirtual 355, 3) := by decide +kernel
theorem dX12_view_99 : decode cX12_view 99 = .ok (.lreturn, 1) := by decide +kernel
theorem dX12_view_100 : decode cX12_view 100 = .ok (.aload_n 0, 1) := by decide +kernel
theorem dX12_view_101 : decode cX12_view 101 = .ok (.iload_n 1, 1) := by decide +kernel
theorem dX12_view_102 : decode cX12_view 102 = .ok (.invokevirtual 359, 3) := by decide +kernel
theorem dX12_view_105 : decode cX12_view 105 = .ok (.lreturn, 1) := by decide +kernel
theorem dX12_view_106 : decode cX12_view 106 = .ok (.aload_n 0, 1) := by decide +kernel
theorem dX12_view_107 : decode cX12_view 107 = .ok (.getfield 115, 3) := by decide +kernel
theorem dX12_view_110 : decode cX12_view 110 = .ok (.iload_n 1, 1) := by decide +kernel
theorem dX12_view_111 : decode cX12_view 111 = .ok (.laload, 1) := by decide +kernel
theorem dX12_view_112 : decode cX12_view 112 = .ok (.lreturn, 1) := by decide +kernel
theorem dX12_view_113 : decode cX12_view 113 = .ok (.aload_n 0, 1) := by decide +kernel
theorem dX12_view_114 : decode cX12_view 114 = .ok (.iload_n 1, 1) := by decide +kernel
theorem dX12_view_115 : decode cX12_view 115 = .ok (.aload_n 0, 1) := by decide +kernel
theorem dX12_view_116 : decode cX12_view 116 = .ok (.getfield 88, 3) := by decide +kernel
theorem dX12_view_119 : decode cX12_view 119 = .ok (.bipush 72, 2) := by decide +kernel
theorem dX12_view_121 : decode cX12_view 121 = .ok (.iaload, 1) := by decide +kernel
theorem dX12_view_122 : decode cX12_view 122 = .ok (.i2l, 1) := by decide +kernel
theorem dX12_view_123 : decode cX12_view 123 = .ok (.invokevirtual 362, 3) := by decide +kernel
theorem dX12_view_126 : decode cX12_view 126 = .ok (.lreturn, 1) := by decide +kernel
theorem dX12_view_127 : decode cX12_view 127 = .ok (.aload_n 0, 1) := by decide +kernel
theorem dX12_view_128 : decode cX12_view 128 = .ok (.iload_n 1, 1) := by decide +kernel
theorem dX12_view_129 : decode cX12_view 129 = .ok (.aload_n 0, 1) := by decide +kernel
theorem dX12_view_130 : decode cX12_view 130 = .ok (.getfield 88, 3) := by decide +kernel
theorem dX12_view_133 : decode cX12_view 133 = .ok (.bipush 72, 2) := by decide +kernel
theorem dX12_view_135 : decode cX12_view 135 = .ok (.iaload, 1) := by decide +kernel
theorem dX12_view_136 : decode cX12_view 136 = .ok (.i2l, 1) := by decide +kernel
theorem dX12_view_137 : decode cX12_view 137 = .ok (.invokevirtual 366, 3) := by decide +kernel
theorem dX12_view_140 : decode cX12_view 140 = .ok (.lreturn, 1) := by decide +kernel
theorem dX12_view_141 : decode cX12_view 141 = .ok (.aload_n 0, 1) := by decide +kernel
theorem dX12_view_142 : decode cX12_view 142 = .ok (.iload_n 1, 1) := by decide +kernel
theorem dX12_view_143 : decode cX12_view 143 = .ok (.invokevirtual 392, 3) := by decide +kernel
theorem dX12_view_146 : decode cX12_view 146 = .ok (.lreturn, 1) := by decide +kernel
theorem dX12_view_147 : decode cX12_view 147 = .ok (.aload_n 0, 1) := by decide +kernel
theorem dX12_view_148 : decode cX12_view 148 = .ok (.getfield 118, 3) := by decide +kernel
theorem dX12_view_151 : decode cX12_view 151 = .ok (.iload_n 1, 1) := by decide +kernel
theorem dX12_view_152 : decode cX12_view 152 = .ok (.baload, 1) := by decide +kernel
theorem dX12_view_153 : decode cX12_view 153 = .ok (.ifCond .eq 7, 3) := by decide +kernel
theorem dX12_view_156 : decode cX12_view 156 = .ok (.lconst 1, 1) := by decide +kernel
theorem dX12_view_157 : decode cX12_view 157 = .ok (.goto 4, 3) := by decide +kernel
theorem dX12_view_160 : decode cX12_view 160 = .ok (.lconst 0, 1) := by decide +kernel
theorem dX12_view_161 : decode cX12_view 161 = .ok (.lreturn, 1) := by decide +kernel
theorem dX12_view_162 : decode cX12_view 162 = .ok (.ldc2_w 390, 3) := by decide +kernel
theorem dX12_view_165 : decode cX12_view 165 = .ok (.lreturn, 1) := by decide +kernel
theorem dX12_all_0 : decode cX12_all 0 = .ok (.aload_n 0, 1) := by decide +kernel
theorem dX12_all_1 : decode cX12_all 1 = .ok (.iconst 0, 1) := by decide +kernel
theorem dX12_all_2 : decode cX12_all 2 = .ok (.putfield 123, 3) := by decide +kernel
theorem dX12_all_5 : decode cX12_all 5 = .ok (.iload_n 1, 1) := by decide +kernel
theorem dX12_all_6 : decode cX12_all 6 = .ok (.i2l, 1) := by decide +kernel
theorem dX12_all_7 : decode cX12_all 7 = .ok (.lconst 0, 1) := by decide +kernel
theorem dX12_all_8 : decode cX12_all 8 = .ok (.ldc2_w 395, 3) := by decide +kernel
theorem dX12_all_11 : decode cX12_all 11 = .ok (.invokestatic 161, 3) := by decide +kernel
theorem dX12_all_14 : decode cX12_all 14 = .ok (.ifCond .ne 7, 3) := by decide +kernel
theorem dX12_all_17 : decode cX12_all 17 = .ok (.ldc2_w 390, 3) := by decide +kernel
theorem dX12_all_20 : decode cX12_all 20 = .ok (.lreturn, 1) := by decide +kernel
theorem dX12_all_21 : decode cX12_all 21 = .ok (.aload_n 0, 1) := by decide +kernel
theorem dX12_all_22 : decode cX12_all 22 = .ok (.invokevirtual 369, 3) := by decide +kernel
theorem dX12_all_25 : decode cX12_all 25 = .ok (.iload_n 1, 1) := by decide +kernel
theorem dX12_all_26 : decode cX12_all 26 = .ok (.iconst 4, 1) := by decide +kernel
theorem dX12_all_27 : decode cX12_all 27 = .ok (.if_icmp .ne 8, 3) := by decide +kernel
theorem dX12_all_30 : decode cX12_all 30 = .ok (.aload_n 0, 1) := by decide +kernel
theorem dX12_all_31 : decode cX12_all 31 = .ok (.invokevirtual 397, 3) := by decide +kernel
theorem dX12_all_34 : decode cX12_all 34 = .ok (.lreturn, 1) := by decide +kernel
theorem dX12_all_35 : decode cX12_all 35 = .ok (.iload_n 1, 1) := by decide +kernel
theorem dX12_all_36 : decode cX12_all 36 = .ok (.iconst 5, 1) := by decide +kernel
theorem dX12_all_37 : decode cX12_all 37 = .ok (.if_icmp .ne 9, 3) := by decide +kernel
theorem dX12_all_40 : decode cX12_all 40 = .ok (.aload_n 0, 1) := by decide +kernel
theorem dX12_all_41 : decode cX12_all 41 = .ok (.getfield 340, 3) := by decide +kernel
theorem dX12_all_44 : decode cX12_all 44 = .ok (.i2l, 1) := by decide +kernel
theorem dX12_all_45 : decode cX12_all 45 = .ok (.lreturn, 1) := by decide +kernel
theorem dX12_all_46 : decode cX12_all 46 = .ok (.lconst 0, 1) := by decide +kernel
theorem dX12_all_47 : decode cX12_all 47 = .ok (.lstore_n 2, 1) := by decide +kernel
theorem dX12_all_48 : decode cX12_all 48 = .ok (.iconst 0, 1) := by decide +kernel
theorem dX12_all_49 : decode cX12_all 49 = .ok (.istore 4, 2) := by decide +kernel
theorem dX12_all_51 : decode cX12_all 51 = .ok (.iload 4, 2) := by decide +kernel
theorem dX12_all_53 : decode cX12_all 53 = .ok (.aload_n 0, 1) := by decide +kernel
theorem dX12_all_54 : decode cX12_all 54 = .ok (.getfield 340, 3) := by decide +kernel
theorem dX12_all_57 : decode cX12_all 57 = .ok (.if_icmp .ge 92, 3) := by decide +kernel
theorem dX12_all_60 : decode cX12_all 60 = .ok (.lload_n 2, 1) := by decide +kernel
theorem dX12_all_61 : decode cX12_all 61 = .ok (.iload_n 1, 1) := by decide +kernel
theorem dX12_all_62 : decode cX12_all 62 = .ok (.ifCond .ne 13, 3) := by decide +kernel
theorem dX12_all_65 : decode cX12_all 65 = .ok (.aload_n 0, 1) := by decide +kernel
theorem dX12_all_66 : decode cX12_all 66 = .ok (.getfield 109, 3) := by decide +kernel
theorem dX12_all_69 : decode cX12_all 69 = .ok (.iload 4, 2) := by decide +kernel
theorem dX12_all_71 : decode cX12_all 71 = .ok (.laload, 1) := by decide +kernel
theorem dX12_all_72 : decode cX12_all 72 = .ok (.goto 69, 3) := by decide +kernel
theorem dX12_all_75 : decode cX12_all 75 = .ok (.iload_n 1, 1) := by decide +kernel
theorem dX12_all_76 : decode cX12_all 76 = .ok (.iconst 1, 1) := by decide +kernel
theorem dX12_all_77 : decode cX12_all 77 = .ok (.if_icmp .ne 12, 3) := by decide +kernel
theorem dX12_all_80 : decode cX12_all 80 = .ok (.aload_n 0, 1) := by decide +kernel
theorem dX12_all_81 : decode cX12_all 81 = .ok (.iload 4, 2) := by decide +kernel
theorem dX12_all_83 : decode cX12_all 83 = .ok (.invokevirtual 355, 3) := by decide +kernel
theorem dX12_all_86 : decode cX12_all 86 = .ok (.goto 55, 3) := by decide +kernel
theorem dX12_all_89 : decode cX12_all 89 = .ok (.iload_n 1, 1) := by decide +kernel
theorem dX12_all_90 : decode cX12_all 90 = .ok (.iconst 2, 1) := by decide +kernel
theorem dX12_all_91 : decode cX12_all 91 = .ok (.if_icmp .ne 20, 3) := by decide +kernel
theorem dX12_all_94 : decode cX12_all 94 = .ok (.aload_n 0, 1) := by decide +kernel
theorem dX12_all_95 : decode cX12_all 95 = .ok (.iload 4, 2) := by decide +kernel
theorem dX12_all_97 : decode cX12_all 97 = .ok (.aload_n 0, 1) := by decide +kernel
theorem dX12_all_98 : decode cX12_all 98 = .ok (.getfield 88, 3) := by decide +kernel
theorem dX12_all_101 : decode cX12_all 101 = .ok (.bipush 72, 2) := by decide +kernel
theorem dX12_all_103 : decode cX12_all 103 = .ok (.iaload, 1) := by decide +kernel
theorem dX12_all_104 : decode cX12_all 104 = .ok (.i2l, 1) := by decide +kernel
theorem dX12_all_105 : decode cX12_all 105 = .ok (.invokevirtual 366, 3) := by decide +kernel
theorem dX12_all_108 : decode cX12_all 108 = .ok (.goto 33, 3) := by decide +kernel
theorem dX12_all_111 : decode cX12_all 111 = .ok (.iload_n 1, 1) := by decide +kernel
theorem dX12_all_112 : decode cX12_all 112 = .ok (.iconst 3, 1) := by decide +kernel
theorem dX12_all_113 : decode cX12_all 113 = .ok (.if_icmp .ne 12, 3) := by decide +kernel
theorem dX12_all_116 : decode cX12_all 116 = .ok (.aload_n 0, 1) := by decide +kernel
theorem dX12_all_117 : decode cX12_all 117 = .ok (.iload 4, 2) := by decide +kernel
theorem dX12_all_119 : decode cX12_all 119 = .ok (.invokevirtual 392, 3) := by decide +kernel
theorem dX12_all_122 : decode cX12_all 122 = .ok (.goto 19, 3) := by decide +kernel
theorem dX12_all_125 : decode cX12_all 125 = .ok (.aload_n 0, 1) := by decide +kernel
theorem dX12_all_126 : decode cX12_all 126 = .ok (.iload 4, 2) := by decide +kernel
theorem dX12_all_128 : decode cX12_all 128 = .ok (.invokevirtual 392, 3) := by decide +kernel
theorem dX12_all_131 : decode cX12_all 131 = .ok (.lconst 0, 1) := by decide +kernel
theorem dX12_all_132 : decode cX12_all 132 = .ok (.lcmp, 1) := by decide +kernel
theorem dX12_all_133 : decode cX12_all 133 = .ok (.ifCond .le 7, 3) := by decide +kernel
theorem dX12_all_136 : decode cX12_all 136 = .ok (.lconst 1, 1) := by decide +kernel
theorem dX12_all_137 : decode cX12_all 137 = .ok (.goto 4, 3) := by decide +kernel
theorem dX12_all_140 : decode cX12_all 140 = .ok (.lconst 0, 1) := by decide +kernel
theorem dX12_all_141 : decode cX12_all 141 = .ok (.ladd, 1) := by decide +kernel
theorem dX12_all_142 : decode cX12_all 142 = .ok (.lstore_n 2, 1) := by decide +kernel
theorem dX12_all_143 : decode cX12_all 143 = .ok (.iinc 4 1, 3) := by decide +kernel
theorem dX12_all_146 : decode cX12_all 146 = .ok (.goto (-95), 3) := by decide +kernel
theorem dX12_all_149 : decode cX12_all 149 = .ok (.lload_n 2, 1) := by decide +kernel
theorem dX12_all_150 : decode cX12_all 150 = .ok (.lreturn, 1) := by decide +kernel
theorem dX12_ranked_0 : decode cX12_ranked 0 = .ok (.aload_n 0, 1) := by decide +kernel
theorem dX12_ranked_1 : decode cX12_ranked 1 = .ok (.iconst 0, 1) := by decide +kernel
theorem dX12_ranked_2 : decode cX12_ranked 2 = .ok (.putfield 123, 3) := by decide +kernel
theorem dX12_ranked_5 : decode cX12_ranked 5 = .ok (.aload_n 0, 1) := by decide +kernel
theorem dX12_ranked_6 : decode cX12_ranked 6 = .ok (.invokevirtual 369, 3) := by decide +kernel
theorem dX12_ranked_9 : decode cX12_ranked 9 = .ok (.iconst 0, 1) := by decide +kernel
theorem dX12_ranked_10 : decode cX12_ranked 10 = .ok (.istore_n 2, 1) := by decide +kernel
theorem dX12_ranked_11 : decode cX12_ranked 11 = .ok (.iload_n 2, 1) := by decide +kernel
theorem dX12_ranked_12 : decode cX12_ranked 12 = .ok (.aload_n 0, 1) := by decide +kernel
theorem dX12_ranked_13 : decode cX12_ranked 13 = .ok (.getfield 340, 3) := by decide +kernel
theorem dX12_ranked_16 : decode cX12_ranked 16 = .ok (.if_icmp .ge 20, 3) := by decide +kernel
theorem dX12_ranked_19 : decode cX12_ranked 19 = .ok (.aload_n 0, 1) := by decide +kernel
theorem dX12_ranked_20 : decode cX12_ranked 20 = .ok (.iload_n 2, 1) := by decide +kernel
theorem dX12_ranked_21 : decode cX12_ranked 21 = .ok (.invokevirtual 401, 3) := by decide +kernel
theorem dX12_ranked_24 : decode cX12_ranked 24 = .ok (.iload_n 1, 1) := by decide +kernel
theorem dX12_ranked_25 : decode cX12_ranked 25 = .ok (.if_icmp .ne 5, 3) := by decide +kernel
theorem dX12_ranked_28 : decode cX12_ranked 28 = .ok (.iload_n 2, 1) := by decide +kernel
theorem dX12_ranked_29 : decode cX12_ranked 29 = .ok (.ireturn, 1) := by decide +kernel
theorem dX12_ranked_30 : decode cX12_ranked 30 = .ok (.iinc 2 1, 3) := by decide +kernel
theorem dX12_ranked_33 : decode cX12_ranked 33 = .ok (.goto (-22), 3) := by decide +kernel
theorem dX12_ranked_36 : decode cX12_ranked 36 = .ok (.iconst (-1), 1) := by decide +kernel
theorem dX12_ranked_37 : decode cX12_ranked 37 = .ok (.ireturn, 1) := by decide +kernel
theorem dX12_estate_0 : decode cX12_estate 0 = .ok (.aload_n 0, 1) := by decide +kernel
theorem dX12_estate_1 : decode cX12_estate 1 = .ok (.iconst 0, 1) := by decide +kernel
theorem dX12_estate_2 : decode cX12_estate 2 = .ok (.putfield 123, 3) := by decide +kernel
theorem dX12_estate_5 : decode cX12_estate 5 = .ok (.aload_n 0, 1) := by decide +kernel
theorem dX12_estate_6 : decode cX12_estate 6 = .ok (.invokevirtual 369, 3) := by decide +kernel
theorem dX12_estate_9 : decode cX12_estate 9 = .ok (.iload_n 1, 1) := by decide +kernel
theorem dX12_estate_10 : decode cX12_estate 10 = .ok (.i2l, 1) := by decide +kernel
theorem dX12_estate_11 : decode cX12_estate 11 = .ok (.lconst 0, 1) := by decide +kernel
theorem dX12_estate_12 : decode cX12_estate 12 = .ok (.ldc2_w 407, 3) := by decide +kernel
theorem dX12_estate_15 : decode cX12_estate 15 = .ok (.invokestatic 161, 3) := by decide +kernel
theorem dX12_estate_18 : decode cX12_estate 18 = .ok (.ifCond .eq 21, 3) := by decide +kernel
theorem dX12_estate_21 : decode cX12_estate 21 = .ok (.iload_n 2, 1) := by decide +kernel
theorem dX12_estate_22 : decode cX12_estate 22 = .ok (.i2l, 1) := by decide +kernel
theorem dX12_estate_23 : decode cX12_estate 23 = .ok (.ldc2_w 390, 3) := by decide +kernel
theorem dX12_estate_26 : decode cX12_estate 26 = .ok (.aload_n 0, 1) := by decide +kernel
theorem dX12_estate_27 : decode cX12_estate 27 = .ok (.getfield 340, 3) := by decide +kernel
theorem dX12_estate_30 : decode cX12_estate 30 = .ok (.iconst 1, 1) := by decide +kernel
theorem dX12_estate_31 : decode cX12_estate 31 = .ok (.isub, 1) := by decide +kernel
theorem dX12_estate_32 : decode cX12_estate 32 = .ok (.i2l, 1) := by decide +kernel
theorem dX12_estate_33 : decode cX12_estate 33 = .ok (.invokestatic 161, 3) := by decide +kernel
theorem dX12_estate_36 : decode cX12_estate 36 = .ok (.ifCond .ne 7, 3) := by decide +kernel
theorem dX12_estate_39 : decode cX12_estate 39 = .ok (.ldc2_w 409, 3) := by decide +kernel
theorem dX12_estate_42 : decode cX12_estate 42 = .ok (.lreturn, 1) := by decide +kernel
theorem dX12_estate_43 : decode cX12_estate 43 = .ok (.iload_n 2, 1) := by decide +kernel
theorem dX12_estate_44 : decode cX12_estate 44 = .ok (.iconst (-1), 1) := by decide +kernel
theorem dX12_estate_45 : decode cX12_estate 45 = .ok (.if_icmp .ne 25, 3) := by decide +kernel
theorem dX12_estate_48 : decode cX12_estate 48 = .ok (.iload_n 1, 1) := by decide +kernel
theorem dX12_estate_49 : decode cX12_estate 49 = .ok (.i2l, 1) := by decide +kernel
theorem dX12_estate_50 : decode cX12_estate 50 = .ok (.aload_n 0, 1) := by decide +kernel
theorem dX12_estate_51 : decode cX12_estate 51 = .ok (.iconst 0, 1) := by decide +kernel
theorem dX12_estate_52 : decode cX12_estate 52 = .ok (.invokevirtual 404, 3) := by decide +kernel
theorem dX12_estate_55 : decode cX12_estate 55 = .ok (.lcmp, 1) := by decide +kernel
theorem dX12_estate_56 : decode cX12_estate 56 = .ok (.ifCond .ge 8, 3) := by decide +kernel
theorem dX12_estate_59 : decode cX12_estate 59 = .ok (.iload_n 1, 1) := by decide +kernel
theorem dX12_estate_60 : decode cX12_estate 60 = .ok (.i2l, 1) := by decide +kernel
theorem dX12_estate_61 : decode cX12_estate 61 = .ok (.goto 8, 3) := by decide +kernel
theorem dX12_estate_64 : decode cX12_estate 64 = .ok (.aload_n 0, 1) := by decide +kernel
theorem dX12_estate_65 : decode cX12_estate 65 = .ok (.iconst 0, 1) := by decide +kernel
theorem dX12_estate_66 : decode cX12_estate 66 = .ok (.invokevirtual 404, 3) := by decide +kernel
theorem dX12_estate_69 : decode cX12_estate 69 = .ok (.lreturn, 1) := by decide +kernel
theorem dX12_estate_70 : decode cX12_estate 70 = .ok (.aload_n 0, 1) := by decide +kernel
theorem dX12_estate_71 : decode cX12_estate 71 = .ok (.iload_n 1, 1) := by decide +kernel
theorem dX12_estate_72 : decode cX12_estate 72 = .ok (.i2l, 1) := by decide +kernel
theorem dX12_estate_73 : decode cX12_estate 73 = .ok (.iload_n 2, 1) := by decide +kernel
theorem dX12_estate_74 : decode cX12_estate 74 = .ok (.invokevirtual 411, 3) := by decide +kernel
theorem dX12_estate_77 : decode cX12_estate 77 = .ok (.lreturn, 1) := by decide +kernel
theorem dX12_enough_0 : decode cX12_enough 0 = .ok (.aload_n 0, 1) := by decide +kernel
theorem dX12_enough_1 : decode cX12_enough 1 = .ok (.iconst 0, 1) := by decide +kernel
theorem dX12_enough_2 : decode cX12_enough 2 = .ok (.putfield 123, 3) := by decide +kernel
theorem dX12_enough_5 : decode cX12_enough 5 = .ok (.iload_n 1, 1) := by decide +kernel
theorem dX12_enough_6 : decode cX12_enough 6 = .ok (.i2l, 1) := by decide +kernel
theorem dX12_enough_7 : decode cX12_enough 7 = .ok (.lconst 0, 1) := by decide +kernel
theorem dX12_enough_8 : decode cX12_enough 8 = .ok (.ldc2_w 415, 3) := by decide +kernel
theorem dX12_enough_11 : decode cX12_enough 11 = .ok (.invokestatic 161, 3) := by decide +kernel
theorem dX12_enough_14 : decode cX12_enough 14 = .ok (.ifCond .ne 7, 3) := by decide +kernel
theorem dX12_enough_17 : decode cX12_enough 17 = .ok (.ldc2_w 390, 3) := by decide +kernel
theorem dX12_enough_20 : decode cX12_enough 20 = .ok (.lreturn, 1) := by decide +kernel
theorem dX12_enough_21 : decode cX12_enough 21 = .ok (.aload_n 0, 1) := by decide +kernel
theorem dX12_enough_22 : decode cX12_enough 22 = .ok (.invokevirtual 369, 3) := by decide +kernel
theorem dX12_enough_25 : decode cX12_enough 25 = .ok (.lconst 0, 1) := by decide +kernel
theorem dX12_enough_26 : decode cX12_enough 26 = .ok (.lstore_n 2, 1) := by decide +kernel
theorem dX12_enough_27 : decode cX12_enough 27 = .ok (.iconst 0, 1) := by decide +kernel
theorem dX12_enough_28 : decode cX12_enough 28 = .ok (.istore 4, 2) := by decide +kernel
theorem dX12_enough_30 : decode cX12_enough 30 = .ok (.iload 4, 2) := by decide +kernel
theorem dX12_enough_32 : decode cX12_enough 32 = .ok (.iload_n 1, 1) := by decide +kernel
theorem dX12_enough_33 : decode cX12_enough 33 = .ok (.if_icmp .gt 28, 3) := by decide +kernel
theorem dX12_enough_36 : decode cX12_enough 36 = .ok (.aload_n 0, 1) := by decide +kernel
theorem dX12_enough_37 : decode cX12_enough 37 = .ok (.iload_n 1, 1) := by decide +kernel
theorem dX12_enough_38 : decode cX12_enough 38 = .ok (.invokevirtual 404, 3) := by decide +kernel
theorem dX12_enough_41 : decode cX12_enough 41 = .ok (.lconst 0, 1) := by decide +kernel
theorem dX12_enough_42 : decode cX12_enough 42 = .ok (.lcmp, 1) := by decide +kernel
theorem dX12_enough_43 : decode cX12_enough 43 = .ok (.ifCond .le 18, 3) := by decide +kernel
theorem dX12_enough_46 : decode cX12_enough 46 = .ok (.lload_n 2, 1) := by decide +kernel
theorem dX12_enough_47 : decode cX12_enough 47 = .ok (.aload_n 0, 1) := by decide +kernel
theorem dX12_enough_48 : decode cX12_enough 48 = .ok (.iload 4, 2) := by decide +kernel
theorem dX12_enough_50 : decode cX12_enough 50 = .ok (.invokevirtual 404, 3) := by decide +kernel
theorem dX12_enough_53 : decode cX12_enough 53 = .ok (.ladd, 1) := by decide +kernel
theorem dX12_enough_54 : decode cX12_enough 54 = .ok (.lstore_n 2, 1) := by decide +kernel
theorem dX12_enough_55 : decode cX12_enough 55 = .ok (.iinc 4 1, 3) := by decide +kernel
theorem dX12_enough_58 : decode cX12_enough 58 = .ok (.goto (-28), 3) := by decide +kernel
theorem dX12_enough_61 : decode cX12_enough 61 = .ok (.lload_n 2, 1) := by decide +kernel
theorem dX12_enough_62 : decode cX12_enough 62 = .ok (.lreturn, 1) := by decide +kernel
theorem dX12_coverFor_0 : decode cX12_coverFor 0 = .ok (.aload_n 0, 1) := by decide +kernel
theorem dX12_coverFor_1 : decode cX12_coverFor 1 = .ok (.iconst 0, 1) := by decide +kernel
theorem dX12_coverFor_2 : decode cX12_coverFor 2 = .ok (.putfield 123, 3) := by decide +kernel
theorem dX12_coverFor_5 : decode cX12_coverFor 5 = .ok (.iload_n 1, 1) := by decide +kernel
theorem dX12_coverFor_6 : decode cX12_coverFor 6 = .ok (.i2l, 1) := by decide +kernel
theorem dX12_coverFor_7 : decode cX12_coverFor 7 = .ok (.lconst 1, 1) := by decide +kernel
theorem dX12_coverFor_8 : decode cX12_coverFor 8 = .ok (.ldc2_w 425, 3) := by decide +kernel
theorem dX12_coverFor_11 : decode cX12_coverFor 11 = .ok (.invokestatic 161, 3) := by decide +kernel
theorem dX12_coverFor_14 : decode cX12_coverFor 14 = .ok (.ifCond .ne 7, 3) := by decide +kernel
theorem dX12_coverFor_17 : decode cX12_coverFor 17 = .ok (.ldc2_w 390, 3) := by decide +kernel
theorem dX12_coverFor_20 : decode cX12_coverFor 20 = .ok (.lreturn, 1) := by decide +kernel
theorem dX12_coverFor_21 : decode cX12_coverFor 21 = .ok (.aload_n 0, 1) := by decide +kernel
theorem dX12_coverFor_22 : decode cX12_coverFor 22 = .ok (.invokevirtual 369, 3) := by decide +kernel
theorem dX12_coverFor_25 : decode cX12_coverFor 25 = .ok (.lconst 0, 1) := by decide +kernel
theorem dX12_coverFor_26 : decode cX12_coverFor 26 = .ok (.lstore_n 2, 1) := by decide +kernel
theorem dX12_coverFor_27 : decode cX12_coverFor 27 = .ok (.iconst 0, 1) := by decide +kernel
theorem dX12_coverFor_28 : decode cX12_coverFor 28 = .ok (.istore 4, 2) := by decide +kernel
theorem dX12_coverFor_30 : decode cX12_coverFor 30 = .ok (.iload 4, 2) := by decide +kernel
theorem dX12_coverFor_32 : decode cX12_coverFor 32 = .ok (.aload_n 0, 1) := by decide +kernel
theorem dX12_coverFor_33 : decode cX12_coverFor 33 = .ok (.getfield 340, 3) := by decide +kernel
theorem dX12_coverFor_36 : decode cX12_coverFor 36 = .ok (.if_icmp .ge 18, 3) := by decide +kernel
theorem dX12_coverFor_39 : decode cX12_coverFor 39 = .ok (.lload_n 2, 1) := by decide +kernel
theorem dX12_coverFor_40 : decode cX12_coverFor 40 = .ok (.aload_n 0, 1) := by decide +kernel
theorem dX12_coverFor_41 : decode cX12_coverFor 41 = .ok (.iload 4, 2) := by decide +kernel
theorem dX12_coverFor_43 : decode cX12_coverFor 43 = .ok (.invokevirtual 359, 3) := by decide +kernel
theorem dX12_coverFor_46 : decode cX12_coverFor 46 = .ok (.ladd, 1) := by decide +kernel
theorem dX12_coverFor_47 : decode cX12_coverFor 47 = .ok (.lstore_n 2, 1) := by decide +kernel
theorem dX12_coverFor_48 : decode cX12_coverFor 48 = .ok (.iinc 4 1, 3) := by decide +kernel
theorem dX12_coverFor_51 : decode cX12_coverFor 51 = .ok (.goto (-21), 3) := by decide +kernel
theorem dX12_coverFor_54 : decode cX12_coverFor 54 = .ok (.lconst 0, 1) := by decide +kernel
theorem dX12_coverFor_55 : decode cX12_coverFor 55 = .ok (.lstore 4, 2) := by decide +kernel
theorem dX12_coverFor_57 : decode cX12_coverFor 57 = .ok (.lload_n 2, 1) := by decide +kernel
theorem dX12_coverFor_58 : decode cX12_coverFor 58 = .ok (.lstore 6, 2) := by decide +kernel
theorem dX12_coverFor_60 : decode cX12_coverFor 60 = .ok (.lload 4, 2) := by decide +kernel
theorem dX12_coverFor_62 : decode cX12_coverFor 62 = .ok (.lload 6, 2) := by decide +kernel
theorem dX12_coverFor_64 : decode cX12_coverFor 64 = .ok (.lcmp, 1) := by decide +kernel
theorem dX12_coverFor_65 : decode cX12_coverFor 65 = .ok (.ifCond .ge 48, 3) := by decide +kernel
theorem dX12_coverFor_68 : decode cX12_coverFor 68 = .ok (.lload 4, 2) := by decide +kernel
theorem dX12_coverFor_70 : decode cX12_coverFor 70 = .ok (.lload 6, 2) := by decide +kernel
theorem dX12_coverFor_72 : decode cX12_coverFor 72 = .ok (.ladd, 1) := by decide +kernel
theorem dX12_coverFor_73 : decode cX12_coverFor 73 = .ok (.ldc2_w 415, 3) := by decide +kernel
theorem dX12_coverFor_76 : decode cX12_coverFor 76 = .ok (.ldiv, 1) := by decide +kernel
theorem dX12_coverFor_77 : decode cX12_coverFor 77 = .ok (.lstore 8, 2) := by decide +kernel
theorem dX12_coverFor_79 : decode cX12_coverFor 79 = .ok (.aload_n 0, 1) := by decide +kernel
theorem dX12_coverFor_80 : decode cX12_coverFor 80 = .ok (.lload 8, 2) := by decide +kernel
theorem dX12_coverFor_82 : decode cX12_coverFor 82 = .ok (.invokevirtual 372, 3) := by decide +kernel
theorem dX12_coverFor_85 : decode cX12_coverFor 85 = .ok (.ldc2_w 425, 3) := by decide +kernel
theorem dX12_coverFor_88 : decode cX12_coverFor 88 = .ok (.lmul, 1) := by decide +kernel
theorem dX12_coverFor_89 : decode cX12_coverFor 89 = .ok (.lload_n 2, 1) := by decide +kernel
theorem dX12_coverFor_90 : decode cX12_coverFor 90 = .ok (.iload_n 1, 1) := by decide +kernel
theorem dX12_coverFor_91 : decode cX12_coverFor 91 = .ok (.i2l, 1) := by decide +kernel
theorem dX12_coverFor_92 : decode cX12_coverFor 92 = .ok (.lmul, 1) := by decide +kernel
theorem dX12_coverFor_93 : decode cX12_coverFor 93 = .ok (.lcmp, 1) := by decide +kernel
theorem dX12_coverFor_94 : decode cX12_coverFor 94 = .ok (.ifCond .lt 10, 3) := by decide +kernel
theorem dX12_coverFor_97 : decode cX12_coverFor 97 = .ok (.lload 8, 2) := by decide +kernel
theorem dX12_coverFor_99 : decode cX12_coverFor 99 = .ok (.lstore 6, 2) := by decide +kernel
theorem dX12_coverFor_101 : decode cX12_coverFor 101 = .ok (.goto 9, 3) := by decide +kernel
theorem dX12_coverFor_104 : decode cX12_coverFor 104 = .ok (.lload 8, 2) := by decide +kernel
theorem dX12_coverFor_106 : decode cX12_coverFor 106 = .ok (.lconst 1, 1) := by decide +kernel
theorem dX12_coverFor_107 : decode cX12_coverFor 107 = .ok (.ladd, 1) := by decide +kernel
theorem dX12_coverFor_108 : decode cX12_coverFor 108 = .ok (.lstore 4, 2) := by decide +kernel
theorem dX12_coverFor_110 : decode cX12_coverFor 110 = .ok (.goto (-50), 3) := by decide +kernel
theorem dX12_coverFor_113 : decode cX12_coverFor 113 = .ok (.lload 4, 2) := by decide +kernel
theorem dX12_coverFor_115 : decode cX12_coverFor 115 = .ok (.lreturn, 1) := by decide +kernel
theorem dX12_paidOn_0 : decode cX12_paidOn 0 = .ok (.aload_n 0, 1) := by decide +kernel
theorem dX12_paidOn_1 : decode cX12_paidOn 1 = .ok (.getfield 88, 3) := by decide +kernel
theorem dX12_paidOn_4 : decode cX12_paidOn 4 = .ok (.bipush 71, 2) := by decide +kernel
theorem dX12_paidOn_6 : decode cX12_paidOn 6 = .ok (.iaload, 1) := by decide +kernel
theorem dX12_paidOn_7 : decode cX12_paidOn 7 = .ok (.istore_n 2, 1) := by decide +kernel
theorem dX12_paidOn_8 : decode cX12_paidOn 8 = .ok (.aload_n 0, 1) := by decide +kernel
theorem dX12_paidOn_9 : decode cX12_paidOn 9 = .ok (.getfield 88, 3) := by decide +kernel
theorem dX12_paidOn_12 : decode cX12_paidOn 12 = .ok (.bipush 71, 2) := by decide +kernel
theorem dX12_paidOn_14 : decode cX12_paidOn 14 = .ok (.iload_n 1, 1) := by decide +kernel
theorem dX12_paidOn_15 : decode cX12_paidOn 15 = .ok (.iastore, 1) := by decide +kernel
theorem dX12_paidOn_16 : decode cX12_paidOn 16 = .ok (.aload_n 0, 1) := by decide +kernel
theorem dX12_paidOn_17 : decode cX12_paidOn 17 = .ok (.invokevirtual 417, 3) := by decide +kernel
theorem dX12_paidOn_20 : decode cX12_paidOn 20 = .ok (.lstore_n 3, 1) := by decide +kernel
theorem dX12_paidOn_21 : decode cX12_paidOn 21 = .ok (.aload_n 0, 1) := by decide +kernel
theorem dX12_paidOn_22 : decode cX12_paidOn 22 = .ok (.getfield 88, 3) := by decide +kernel
theorem dX12_paidOn_25 : decode cX12_paidOn 25 = .ok (.bipush 71, 2) := by decide +kernel
theorem dX12_paidOn_27 : decode cX12_paidOn 27 = .ok (.iload_n 2, 1) := by decide +kernel
theorem dX12_paidOn_28 : decode cX12_paidOn 28 = .ok (.iastore, 1) := by decide +kernel
theorem dX12_paidOn_29 : decode cX12_paidOn 29 = .ok (.lload_n 3, 1) := by decide +kernel
theorem dX12_paidOn_30 : decode cX12_paidOn 30 = .ok (.lreturn, 1) := by decide +kernel
theorem dX12_markless_0 : decode cX12_markless 0 = .ok (.aload_n 0, 1) := by decide +kernel
theorem dX12_markless_1 : decode cX12_markless 1 = .ok (.aload_n 0, 1) := by decide +kernel
theorem dX12_markless_2 : decode cX12_markless 2 = .ok (.iload_n 1, 1) := by decide +kernel
theorem dX12_markless_3 : decode cX12_markless 3 = .ok (.invokevirtual 427, 3) := by decide +kernel
theorem dX12_markless_6 : decode cX12_markless 6 = .ok (.ifCond .eq 7, 3) := by decide +kernel
theorem dX12_markless_9 : decode cX12_markless 9 = .ok (.iconst 0, 1) := by decide +kernel
theorem dX12_markless_10 : decode cX12_markless 10 = .ok (.goto 4, 3) := by decide +kernel
theorem dX12_markless_13 : decode cX12_markless 13 = .ok (.iconst 1, 1) := by decide +kernel
theorem dX12_markless_14 : decode cX12_markless 14 = .ok (.putfield 123, 3) := by decide +kernel
theorem dX12_markless_17 : decode cX12_markless 17 = .ok (.aload_n 0, 1) := by decide +kernel
theorem dX12_markless_18 : decode cX12_markless 18 = .ok (.getfield 123, 3) := by decide +kernel
theorem dX12_markless_21 : decode cX12_markless 21 = .ok (.iconst 1, 1) := by decide +kernel
theorem dX12_markless_22 : decode cX12_markless 22 = .ok (.if_icmp .ne 5, 3) := by decide +kernel
theorem dX12_markless_25 : decode cX12_markless 25 = .ok (.lconst 0, 1) := by decide +kernel
theorem dX12_markless_26 : decode cX12_markless 26 = .ok (.lreturn, 1) := by decide +kernel
theorem dX12_markless_27 : decode cX12_markless 27 = .ok (.aload_n 0, 1) := by decide +kernel
theorem dX12_markless_28 : decode cX12_markless 28 = .ok (.invokevirtual 417, 3) := by decide +kernel
theorem dX12_markless_31 : decode cX12_markless 31 = .ok (.lstore_n 2, 1) := by decide +kernel
theorem dX12_markless_32 : decode cX12_markless 32 = .ok (.aload_n 0, 1) := by decide +kernel
theorem dX12_markless_33 : decode cX12_markless 33 = .ok (.iload_n 1, 1) := by decide +kernel
theorem dX12_markless_34 : decode cX12_markless 34 = .ok (.invokevirtual 328, 3) := by decide +kernel
theorem dX12_markless_37 : decode cX12_markless 37 = .ok (.istore 4, 2) := by decide +kernel
theorem dX12_markless_39 : decode cX12_markless 39 = .ok (.aload_n 0, 1) := by decide +kernel
theorem dX12_markless_40 : decode cX12_markless 40 = .ok (.iload_n 1, 1) := by decide +kernel
theorem dX12_markless_41 : decode cX12_markless 41 = .ok (.iload 4, 2) := by decide +kernel
theorem dX12_markless_43 : decode cX12_markless 43 = .ok (.ifCond .ne 7, 3) := by decide +kernel
theorem dX12_markless_46 : decode cX12_markless 46 = .ok (.iconst 1, 1) := by decide +kernel
theorem dX12_markless_47 : decode cX12_markless 47 = .ok (.goto 4, 3) := by decide +kernel
theorem dX12_markless_50 : decode cX12_markless 50 = .ok (.iconst 0, 1) := by decide +kernel
theorem dX12_markless_51 : decode cX12_markless 51 = .ok (.invokevirtual 430, 3) := by decide +kernel
theorem dX12_markless_54 : decode cX12_markless 54 = .ok (.aload_n 0, 1) := by decide +kernel
theorem dX12_markless_55 : decode cX12_markless 55 = .ok (.invokevirtual 417, 3) := by decide +kernel
theorem dX12_markless_58 : decode cX12_markless 58 = .ok (.lstore 5, 2) := by decide +kernel
theorem dX12_markless_60 : decode cX12_markless 60 = .ok (.aload_n 0, 1) := by decide +kernel
theorem dX12_markless_61 : decode cX12_markless 61 = .ok (.iload_n 1, 1) := by decide +kernel
theorem dX12_markless_62 : decode cX12_markless 62 = .ok (.iload 4, 2) := by decide +kernel
theorem dX12_markless_64 : decode cX12_markless 64 = .ok (.invokevirtual 430, 3) := by decide +kernel
theorem dX12_markless_67 : decode cX12_markless 67 = .ok (.lload 5, 2) := by decide +kernel
theorem dX12_markless_69 : decode cX12_markless 69 = .ok (.lload_n 2, 1) := by decide +kernel
theorem dX12_markless_70 : decode cX12_markless 70 = .ok (.lsub, 1) := by decide +kernel
theorem dX12_markless_71 : decode cX12_markless 71 = .ok (.lreturn, 1) := by decide +kernel
theorem dX12_joining_0 : decode cX12_joining 0 = .ok (.aload_n 0, 1) := by decide +kernel
theorem dX12_joining_1 : decode cX12_joining 1 = .ok (.aload_n 0, 1) := by decide +kernel
theorem dX12_joining_2 : decode cX12_joining 2 = .ok (.iload_n 1, 1) := by decide +kernel
theorem dX12_joining_3 : decode cX12_joining 3 = .ok (.iload_n 2, 1) := by decide +kernel
theorem dX12_joining_4 : decode cX12_joining 4 = .ok (.invokevirtual 434, 3) := by decide +kernel
theorem dX12_joining_7 : decode cX12_joining 7 = .ok (.ifCond .eq 7, 3) := by decide +kernel
theorem dX12_joining_10 : decode cX12_joining 10 = .ok (.iconst 0, 1) := by decide +kernel
theorem dX12_joining_11 : decode cX12_joining 11 = .ok (.goto 4, 3) := by decide +kernel
theorem dX12_joining_14 : decode cX12_joining 14 = .ok (.iconst 1, 1) := by decide +kernel
theorem dX12_joining_15 : decode cX12_joining 15 = .ok (.putfield 123, 3) := by decide +kernel
theorem dX12_joining_18 : decode cX12_joining 18 = .ok (.aload_n 0, 1) := by decide +kernel
theorem dX12_joining_19 : decode cX12_joining 19 = .ok (.getfield 123, 3) := by decide +kernel
theorem dX12_joining_22 : decode cX12_joining 22 = .ok (.iconst 1, 1) := by decide +kernel
theorem dX12_joining_23 : decode cX12_joining 23 = .ok (.if_icmp .ne 5, 3) := by decide +kernel
theorem dX12_joining_26 : decode cX12_joining 26 = .ok (.lconst 0, 1) := by decide +kernel
theorem dX12_joining_27 : decode cX12_joining 27 = .ok (.lreturn, 1) := by decide +kernel
theorem dX12_joining_28 : decode cX12_joining 28 = .ok (.aload_n 0, 1) := by decide +kernel
theorem dX12_joining_29 : decode cX12_joining 29 = .ok (.invokevirtual 417, 3) := by decide +kernel
theorem dX12_joining_32 : decode cX12_joining 32 = .ok (.lstore_n 3, 1) := by decide +kernel
theorem dX12_joining_33 : decode cX12_joining 33 = .ok (.aload_n 0, 1) := by decide +kernel
theorem dX12_joining_34 : decode cX12_joining 34 = .ok (.getfield 103, 3) := by decide +kernel
theorem dX12_joining_37 : decode cX12_joining 37 = .ok (.iload_n 1, 1) := by decide +kernel
theorem dX12_joining_38 : decode cX12_joining 38 = .ok (.iaload, 1) := by decide +kernel
theorem dX12_joining_39 : decode cX12_joining 39 = .ok (.aload_n 0, 1) := by decide +kernel
theorem dX12_joining_40 : decode cX12_joining 40 = .ok (.getfield 103, 3) := by decide +kernel
theorem dX12_joining_43 : decode cX12_joining 43 = .ok (.iload_n 2, 1) := by decide +kernel
theorem dX12_joining_44 : decode cX12_joining 44 = .ok (.iaload, 1) := by decide +kernel
theorem dX12_joining_45 : decode cX12_joining 45 = .ok (.if_icmp .ne 5, 3) := by decide +kernel
theorem dX12_joining_48 : decode cX12_joining 48 = .ok (.lconst 0, 1) := by decide +kernel
theorem dX12_joining_49 : decode cX12_joining 49 = .ok (.lreturn, 1) := by decide +kernel
theorem dX12_joining_50 : decode cX12_joining 50 = .ok (.aload_n 0, 1) := by decide +kernel
theorem dX12_joining_51 : decode cX12_joining 51 = .ok (.getfield 88, 3) := by decide +kernel
theorem dX12_joining_54 : decode cX12_joining 54 = .ok (.bipush 70, 2) := by decide +kernel
theorem dX12_joining_56 : decode cX12_joining 56 = .ok (.iaload, 1) := by decide +kernel
theorem dX12_joining_57 : decode cX12_joining 57 = .ok (.bipush 30, 2) := by decide +kernel
theorem dX12_joining_59 : decode cX12_joining 59 = .ok (.if_icmp .ne 10, 3) := by decide +kernel
theorem dX12_joining_62 : decode cX12_joining 62 = .ok (.aload_n 0, 1) := by decide +kernel
theorem dX12_joining_63 : decode cX12_joining 63 = .ok (.invokevirtual 437, 3) := by decide +kernel
theorem dX12_joining_66 : decode cX12_joining 66 = .ok (.goto 10, 3) := by decide +kernel
theorem dX12_joining_69 : decode cX12_joining 69 = .ok (.aload_n 0, 1) := by decide +kernel
theorem dX12_joining_70 : decode cX12_joining 70 = .ok (.getfield 88, 3) := by decide +kernel
theorem dX12_joining_73 : decode cX12_joining 73 = .ok (.bipush 70, 2) := by decide +kernel
theorem dX12_joining_75 : decode cX12_joining 75 = .ok (.iaload, 1) := by decide +kernel
theorem dX12_joining_76 : decode cX12_joining 76 = .ok (.istore 5, 2) := by decide +kernel
theorem dX12_joining_78 : decode cX12_joining 78 = .ok (.aload_n 0, 1) := by decide +kernel
theorem dX12_joining_79 : decode cX12_joining 79 = .ok (.getfield 88, 3) := by decide +kernel
theorem dX12_joining_82 : decode cX12_joining 82 = .ok (.bipush 10, 2) := by decide +kernel
theorem dX12_joining_84 : decode cX12_joining 84 = .ok (.iconst 2, 1) := by decide +kernel
theorem dX12_joining_85 : decode cX12_joining 85 = .ok (.iload 5, 2) := by decide +kernel
theorem dX12_joining_87 : decode cX12_joining 87 = .ok (.imul, 1) := by decide +kernel
theorem dX12_joining_88 : decode cX12_joining 88 = .ok (.iadd, 1) := by decide +kernel
theorem dX12_joining_89 : decode cX12_joining 89 = .ok (.iaload, 1) := by decide +kernel
theorem dX12_joining_90 : decode cX12_joining 90 = .ok (.istore 6, 2) := by decide +kernel
theorem dX12_joining_92 : decode cX12_joining 92 = .ok (.aload_n 0, 1) := by decide +kernel
theorem dX12_joining_93 : decode cX12_joining 93 = .ok (.getfield 88, 3) := by decide +kernel
theorem dX12_joining_96 : decode cX12_joining 96 = .ok (.bipush 10, 2) := by decide +kernel
theorem dX12_joining_98 : decode cX12_joining 98 = .ok (.iconst 2, 1) := by decide +kernel
theorem dX12_joining_99 : decode cX12_joining 99 = .ok (.iload 5, 2) := by decide +kernel
theorem dX12_joining_101 : decode cX12_joining 101 = .ok (.imul, 1) := by decide +kernel
theorem dX12_joining_102 : decode cX12_joining 102 = .ok (.iadd, 1) := by decide +kernel
theorem dX12_joining_103 : decode cX12_joining 103 = .ok (.iconst 1, 1) := by decide +kernel
theorem dX12_joining_104 : decode cX12_joining 104 = .ok (.iadd, 1) := by decide +kernel
theorem dX12_joining_105 : decode cX12_joining 105 = .ok (.iaload, 1) := by decide +kernel
theorem dX12_joining_106 : decode cX12_joining 106 = .ok (.istore 7, 2) := by decide +kernel
theorem dX12_joining_108 : decode cX12_joining 108 = .ok (.aload_n 0, 1) := by decide +kernel
theorem dX12_joining_109 : decode cX12_joining 109 = .ok (.getfield 88, 3) := by decide +kernel
theorem dX12_joining_112 : decode cX12_joining 112 = .ok (.bipush 70, 2) := by decide +kernel
theorem dX12_joining_114 : decode cX12_joining 114 = .ok (.iaload, 1) := by decide +kernel
theorem dX12_joining_115 : decode cX12_joining 115 = .ok (.istore 8, 2) := by decide +kernel
theorem dX12_joining_117 : decode cX12_joining 117 = .ok (.aload_n 0, 1) := by decide +kernel
theorem dX12_joining_118 : decode cX12_joining 118 = .ok (.getfield 88, 3) := by decide +kernel
theorem dX12_joining_121 : decode cX12_joining 121 = .ok (.bipush 10, 2) := by decide +kernel
theorem dX12_joining_123 : decode cX12_joining 123 = .ok (.iconst 2, 1) := by decide +kernel
theorem dX12_joining_124 : decode cX12_joining 124 = .ok (.iload 5, 2) := by decide +kernel
theorem dX12_joining_126 : decode cX12_joining 126 = .ok (.imul, 1) := by decide +kernel
theorem dX12_joining_127 : decode cX12_joining 127 = .ok (.iadd, 1) := by decide +kernel
theorem dX12_joining_128 : decode cX12_joining 128 = .ok (.iload_n 1, 1) := by decide +kernel
theorem dX12_joining_129 : decode cX12_joining 129 = .ok (.iastore, 1) := by decide +kernel
theorem dX12_joining_130 : decode cX12_joining 130 = .ok (.aload_n 0, 1) := by decide +kernel
theorem dX12_joining_131 : decode cX12_joining 131 = .ok (.getfield 88, 3) := by decide +kernel
theorem dX12_joining_134 : decode cX12_joining 134 = .ok (.bipush 10, 2) := by decide +kernel
theorem dX12_joining_136 : decode cX12_joining 136 = .ok (.iconst 2, 1) := by decide +kernel
theorem dX12_joining_137 : decode cX12_joining 137 = .ok (.iload 5, 2) := by decide +kernel
theorem dX12_joining_139 : decode cX12_joining 139 = .ok (.imul, 1) := by decide +kernel
theorem dX12_joining_140 : decode cX12_joining 140 = .ok (.iadd, 1) := by decide +kernel
theorem dX12_joining_141 : decode cX12_joining 141 = .ok (.iconst 1, 1) := by decide +kernel
theorem dX12_joining_142 : decode cX12_joining 142 = .ok (.iadd, 1) := by decide +kernel
theorem dX12_joining_143 : decode cX12_joining 143 = .ok (.iload_n 2, 1) := by decide +kernel
theorem dX12_joining_144 : decode cX12_joining 144 = .ok (.iastore, 1) := by decide +kernel
theorem dX12_joining_145 : decode cX12_joining 145 = .ok (.aload_n 0, 1) := by decide +kernel
theorem dX12_joining_146 : decode cX12_joining 146 = .ok (.getfield 88, 3) := by decide +kernel
theorem dX12_joining_149 : decode cX12_joining 149 = .ok (.bipush 70, 2) := by decide +kernel
theorem dX12_joining_151 : decode cX12_joining 151 = .ok (.iload 8, 2) := by decide +kernel
theorem dX12_joining_153 : decode cX12_joining 153 = .ok (.bipush 30, 2) := by decide +kernel
theorem dX12_joining_155 : decode cX12_joining 155 = .ok (.if_icmp .ne 8, 3) := by decide +kernel
theorem dX12_joining_158 : decode cX12_joining 158 = .ok (.bipush 30, 2) := by decide +kernel
theorem dX12_joining_160 : decode cX12_joining 160 = .ok (.goto 7, 3) := by decide +kernel
theorem dX12_joining_163 : decode cX12_joining 163 = .ok (.iload 8, 2) := by decide +kernel
theorem dX12_joining_165 : decode cX12_joining 165 = .ok (.iconst 1, 1) := by decide +kernel
theorem dX12_joining_166 : decode cX12_joining 166 = .ok (.iadd, 1) := by decide +kernel
theorem dX12_joining_167 : decode cX12_joining 167 = .ok (.iastore, 1) := by decide +kernel
theorem dX12_joining_168 : decode cX12_joining 168 = .ok (.aload_n 0, 1) := by decide +kernel
theorem dX12_joining_169 : decode cX12_joining 169 = .ok (.invokevirtual 417, 3) := by decide +kernel
theorem dX12_joining_172 : decode cX12_joining 172 = .ok (.lstore 9, 2) := by decide +kernel
theorem dX12_joining_174 : decode cX12_joining 174 = .ok (.aload_n 0, 1) := by decide +kernel
theorem dX12_joining_175 : decode cX12_joining 175 = .ok (.getfield 88, 3) := by decide +kernel
theorem dX12_joining_178 : decode cX12_joining 178 = .ok (.bipush 10, 2) := by decide +kernel
theorem dX12_joining_180 : decode cX12_joining 180 = .ok (.iconst 2, 1) := by decide +kernel
theorem dX12_joining_181 : decode cX12_joining 181 = .ok (.iload 5, 2) := by decide +kernel
theorem dX12_joining_183 : decode cX12_joining 183 = .ok (.imul, 1) := by decide +kernel
theorem dX12_joining_184 : decode cX12_joining 184 = .ok (.iadd, 1) := by decide +kernel
theorem dX12_joining_185 : decode cX12_joining 185 = .ok (.iload 6, 2) := by decide +kernel
theorem dX12_joining_187 : decode cX12_joining 187 = .ok (.iastore, 1) := by decide +kernel
theorem dX12_joining_188 : decode cX12_joining 188 = .ok (.aload_n 0, 1) := by decide +kernel
theorem dX12_joining_189 : decode cX12_joining 189 = .ok (.getfield 88, 3) := by decide +kernel
theorem dX12_joining_192 : decode cX12_joining 192 = .ok (.bipush 10, 2) := by decide +kernel
theorem dX12_joining_194 : decode cX12_joining 194 = .ok (.iconst 2, 1) := by decide +kernel
theorem dX12_joining_195 : decode cX12_joining 195 = .ok (.iload 5, 2) := by decide +kernel
theorem dX12_joining_197 : decode cX12_joining 197 = .ok (.imul, 1) := by decide +kernel
theorem dX12_joining_198 : decode cX12_joining 198 = .ok (.iadd, 1) := by decide +kernel
theorem dX12_joining_199 : decode cX12_joining 199 = .ok (.iconst 1, 1) := by decide +kernel
theorem dX12_joining_200 : decode cX12_joining 200 = .ok (.iadd, 1) := by decide +kernel
theorem dX12_joining_201 : decode cX12_joining 201 = .ok (.iload 7, 2) := by decide +kernel
theorem dX12_joining_203 : decode cX12_joining 203 = .ok (.iastore, 1) := by decide +kernel
theorem dX12_joining_204 : decode cX12_joining 204 = .ok (.aload_n 0, 1) := by decide +kernel
theorem dX12_joining_205 : decode cX12_joining 205 = .ok (.getfield 88, 3) := by decide +kernel
theorem dX12_joining_208 : decode cX12_joining 208 = .ok (.bipush 70, 2) := by decide +kernel
theorem dX12_joining_210 : decode cX12_joining 210 = .ok (.iload 8, 2) := by decide +kernel
theorem dX12_joining_212 : decode cX12_joining 212 = .ok (.iastore, 1) := by decide +kernel
theorem dX12_joining_213 : decode cX12_joining 213 = .ok (.lload 9, 2) := by decide +kernel
theorem dX12_joining_215 : decode cX12_joining 215 = .ok (.lload_n 3, 1) := by decide +kernel
theorem dX12_joining_216 : decode cX12_joining 216 = .ok (.lsub, 1) := by decide +kernel
theorem dX12_joining_217 : decode cX12_joining 217 = .ok (.lreturn, 1) := by decide +kernel
theorem dX12_onDay_0 : decode cX12_onDay 0 = .ok (.aload_n 0, 1) := by decide +kernel
theorem dX12_onDay_1 : decode cX12_onDay 1 = .ok (.iconst 0, 1) := by decide +kernel
theorem dX12_onDay_2 : decode cX12_onDay 2 = .ok (.putfield 123, 3) := by decide +kernel
theorem dX12_onDay_5 : decode cX12_onDay 5 = .ok (.iload_n 1, 1) := by decide +kernel
theorem dX12_onDay_6 : decode cX12_onDay 6 = .ok (.i2l, 1) := by decide +kernel
theorem dX12_onDay_7 : decode cX12_onDay 7 = .ok (.lconst 0, 1) := by decide +kernel
theorem dX12_onDay_8 : decode cX12_onDay 8 = .ok (.ldc2_w 420, 3) := by decide +kernel
theorem dX12_onDay_11 : decode cX12_onDay 11 = .ok (.invokestatic 161, 3) := by decide +kernel
theorem dX12_onDay_14 : decode cX12_onDay 14 = .ok (.ifCond .eq 11, 3) := by decide +kernel
theorem dX12_onDay_17 : decode cX12_onDay 17 = .ok (.aload_n 0, 1) := by decide +kernel
theorem dX12_onDay_18 : decode cX12_onDay 18 = .ok (.iload_n 1, 1) := by decide +kernel
theorem dX12_onDay_19 : decode cX12_onDay 19 = .ok (.invokevirtual 422, 3) := by decide +kernel
theorem dX12_onDay_22 : decode cX12_onDay 22 = .ok (.goto 6, 3) := by decide +kernel
theorem dX12_onDay_25 : decode cX12_onDay 25 = .ok (.ldc2_w 390, 3) := by decide +kernel
theorem dX12_onDay_28 : decode cX12_onDay 28 = .ok (.lreturn, 1) := by decide +kernel
theorem dX12_bestDay_0 : decode cX12_bestDay 0 = .ok (.aload_n 0, 1) := by decide +kernel
theorem dX12_bestDay_1 : decode cX12_bestDay 1 = .ok (.iconst 0, 1) := by decide +kernel
theorem dX12_bestDay_2 : decode cX12_bestDay 2 = .ok (.putfield 123, 3) := by decide +kernel
theorem dX12_bestDay_5 : decode cX12_bestDay 5 = .ok (.iload_n 1, 1) := by decide +kernel
theorem dX12_bestDay_6 : decode cX12_bestDay 6 = .ok (.i2l, 1) := by decide +kernel
theorem dX12_bestDay_7 : decode cX12_bestDay 7 = .ok (.lconst 0, 1) := by decide +kernel
theorem dX12_bestDay_8 : decode cX12_bestDay 8 = .ok (.ldc2_w 420, 3) := by decide +kernel
theorem dX12_bestDay_11 : decode cX12_bestDay 11 = .ok (.invokestatic 161, 3) := by decide +kernel
theorem dX12_bestDay_14 : decode cX12_bestDay 14 = .ok (.ifCond .eq 26, 3) := by decide +kernel
theorem dX12_bestDay_17 : decode cX12_bestDay 17 = .ok (.iload_n 2, 1) := by decide +kernel
theorem dX12_bestDay_18 : decode cX12_bestDay 18 = .ok (.i2l, 1) := by decide +kernel
theorem dX12_bestDay_19 : decode cX12_bestDay 19 = .ok (.iload_n 1, 1) := by decide +kernel
theorem dX12_bestDay_20 : decode cX12_bestDay 20 = .ok (.i2l, 1) := by decide +kernel
theorem dX12_bestDay_21 : decode cX12_bestDay 21 = .ok (.ldc2_w 420, 3) := by decide +kernel
theorem dX12_bestDay_24 : decode cX12_bestDay 24 = .ok (.invokestatic 161, 3) := by decide +kernel
theorem dX12_bestDay_27 : decode cX12_bestDay 27 = .ok (.ifCond .eq 13, 3) := by decide +kernel
theorem dX12_bestDay_30 : decode cX12_bestDay 30 = .ok (.iload_n 3, 1) := by decide +kernel
theorem dX12_bestDay_31 : decode cX12_bestDay 31 = .ok (.i2l, 1) := by decide +kernel
theorem dX12_bestDay_32 : decode cX12_bestDay 32 = .ok (.lconst 0, 1) := by decide +kernel
theorem dX12_bestDay_33 : decode cX12_bestDay 33 = .ok (.lconst 1, 1) := by decide +kernel
theorem dX12_bestDay_34 : decode cX12_bestDay 34 = .ok (.invokestatic 161, 3) := by decide +kernel
theorem dX12_bestDay_37 : decode cX12_bestDay 37 = .ok (.ifCond .ne 5, 3) := by decide +kernel
theorem dX12_bestDay_40 : decode cX12_bestDay 40 = .ok (.iconst (-1), 1) := by decide +kernel
theorem dX12_bestDay_41 : decode cX12_bestDay 41 = .ok (.ireturn, 1) := by decide +kernel
theorem dX12_bestDay_42 : decode cX12_bestDay 42 = .ok (.iconst (-1), 1) := by decide +kernel
theorem dX12_bestDay_43 : decode cX12_bestDay 43 = .ok (.istore 4, 2) := by decide +kernel
theorem dX12_bestDay_45 : decode cX12_bestDay 45 = .ok (.lconst 0, 1) := by decide +kernel
theorem dX12_bestDay_46 : decode cX12_bestDay 46 = .ok (.lstore 5, 2) := by decide +kernel
theorem dX12_bestDay_48 : decode cX12_bestDay 48 = .ok (.iload_n 1, 1) := by decide +kernel
theorem dX12_bestDay_49 : decode cX12_bestDay 49 = .ok (.istore 7, 2) := by decide +kernel
theorem dX12_bestDay_51 : decode cX12_bestDay 51 = .ok (.iload 7, 2) := by decide +kernel
theorem dX12_bestDay_53 : decode cX12_bestDay 53 = .ok (.iload_n 2, 1) := by decide +kernel
theorem dX12_bestDay_54 : decode cX12_bestDay 54 = .ok (.if_icmp .gt 56, 3) := by decide +kernel
theorem dX12_bestDay_57 : decode cX12_bestDay 57 = .ok (.aload_n 0, 1) := by decide +kernel
theorem dX12_bestDay_58 : decode cX12_bestDay 58 = .ok (.iload 7, 2) := by decide +kernel
theorem dX12_bestDay_60 : decode cX12_bestDay 60 = .ok (.invokevirtual 422, 3) := by decide +kernel
theorem dX12_bestDay_63 : decode cX12_bestDay 63 = .ok (.lstore 8, 2) := by decide +kernel
theorem dX12_bestDay_65 : decode cX12_bestDay 65 = .ok (.iload 4, 2) := by decide +kernel
theorem dX12_bestDay_67 : decode cX12_bestDay 67 = .ok (.ifCond .lt 29, 3) := by decide +kernel
theorem dX12_bestDay_70 : decode cX12_bestDay 70 = .ok (.iload_n 3, 1) := by decide +kernel
theorem dX12_bestDay_71 : decode cX12_bestDay 71 = .ok (.ifCond .ne 14, 3) := by decide +kernel
theorem dX12_bestDay_74 : decode cX12_bestDay 74 = .ok (.lload 8, 2) := by decide +kernel
theorem dX12_bestDay_76 : decode cX12_bestDay 76 = .ok (.lload 5, 2) := by decide +kernel
theorem dX12_bestDay_78 : decode cX12_bestDay 78 = .ok (.lcmp, 1) := by decide +kernel
theorem dX12_bestDay_79 : decode cX12_bestDay 79 = .ok (.ifCond .lt 17, 3) := by decide +kernel
theorem dX12_bestDay_82 : decode cX12_bestDay 82 = .ok (.goto 22, 3) := by decide +kernel
theorem dX12_bestDay_85 : decode cX12_bestDay 85 = .ok (.lload 8, 2) := by decide +kernel
theorem dX12_bestDay_87 : decode cX12_bestDay 87 = .ok (.lload 5, 2) := by decide +kernel
theorem dX12_bestDay_89 : decode cX12_bestDay 89 = .ok (.lcmp, 1) := by decide +kernel
theorem dX12_bestDay_90 : decode cX12_bestDay 90 = .ok (.ifCond .gt 6, 3) := by decide +kernel
theorem dX12_bestDay_93 : decode cX12_bestDay 93 = .ok (.goto 11, 3) := by decide +kernel
theorem dX12_bestDay_96 : decode cX12_bestDay 96 = .ok (.iload 7, 2) := by decide +kernel
theorem dX12_bestDay_98 : decode cX12_bestDay 98 = .ok (.istore 4, 2) := by decide +kernel
theorem dX12_bestDay_100 : decode cX12_bestDay 100 = .ok (.lload 8, 2) := by decide +kernel
theorem dX12_bestDay_102 : decode cX12_bestDay 102 = .ok (.lstore 5, 2) := by decide +kernel
theorem dX12_bestDay_104 : decode cX12_bestDay 104 = .ok (.iinc 7 1, 3) := by decide +kernel
theorem dX12_bestDay_107 : decode cX12_bestDay 107 = .ok (.goto (-56), 3) := by decide +kernel
theorem dX12_bestDay_110 : decode cX12_bestDay 110 = .ok (.iload 4, 2) := by decide +kernel
theorem dX12_bestDay_112 : decode cX12_bestDay 112 = .ok (.ireturn, 1) := by decide +kernel
theorem pq_1045 : Cond.methodLink RX12 369 yX12_laysViews ∈ pd_gt := pd_in 1628 (by decide +kernel) (by decide +kernel)
theorem pq_1046 : Cond.code yX12_laysViews cX12_laysViews 3 none ∈ pd_gt := pd_in 1631 (by decide +kernel) (by decide +kernel)
theorem pq_1047 : Cond.initialized yX12_laysViews.cls ∈ pd_gt := pd_in 111 (by decide +kernel) (by decide +kernel)
theorem pq_1048 : Cond.instanceMethod yX12_laysViews ∈ pd_gt := pd_in 1630 (by decide +kernel) (by decide +kernel)
theorem pq_1049 : Cond.selects yX12_laysViews.cls yX12_laysViews yX12_laysViews ∈ pd_gt := pd_in 80 (by decide +kernel) (by decide +kernel)
theorem pq_1050 : Cond.constantLong RX12 390 ((-1) : Int64) ∈ pd_gt := pd_in 1632 (by decide +kernel) (by decide +kernel)
theorem pq_1051 : Cond.constantLong RX12 395 (6 : Int64) ∈ pd_gt := pd_in 1657 (by decide +kernel) (by decide +kernel)
theorem pq_1052 : Cond.methodLink RX12 397 yX12_frozen ∈ pd_gt := pd_in 1658 (by decide +kernel) (by decide +kernel)
theorem pq_1053 : Cond.code yX12_frozen cX12_frozen 4 (some .long) ∈ pd_gt := pd_in 1661 (by decide +kernel) (by decide +kernel)
theorem pq_1054 : Cond.initialized yX12_frozen.cls ∈ pd_gt := pd_in 111 (by decide +kernel) (by decide +kernel)
theorem pq_1055 : Cond.instanceMethod yX12_frozen ∈ pd_gt := pd_in 1660 (by decide +kernel) (by decide +kernel)
theorem pq_1056 : Cond.selects yX12_frozen.cls yX12_frozen yX12_frozen ∈ pd_gt := pd_in 86 (by decide +kernel) (by decide +kernel)
theorem pq_1057 : Cond.methodLink RX12 401 yX12_placeOf ∈ pd_gt := pd_in 1666 (by decide +kernel) (by decide +kernel)
theorem pq_1058 : Cond.code yX12_placeOf cX12_placeOf 4 (some .int) ∈ pd_gt := pd_in 1669 (by decide +kernel) (by decide +kernel)
theorem pq_1059 : Cond.initialized yX12_placeOf.cls ∈ pd_gt := pd_in 111 (by decide +kernel) (by decide +kernel)
theorem pq_1060 : Cond.instanceMethod yX12_placeOf ∈ pd_gt := pd_in 1668 (by decide +kernel) (by decide +kernel)
theorem pq_1061 : Cond.selects yX12_placeOf.cls yX12_placeOf yX12_placeOf ∈ pd_gt := pd_in 87 (by decide +kernel) (by decide +kernel)
theorem pq_1062 : Cond.constantLong RX12 407 (99999999 : Int64) ∈ pd_gt := pd_in 1674 (by decide +kernel) (by decide +kernel)
theorem pq_1063 : Cond.constantLong RX12 409 ((-2) : Int64) ∈ pd_gt := pd_in 1675 (by decide +kernel) (by decide +kernel)
theorem pq_1064 : Cond.methodLink RX12 411 yX12_estateOf ∈ pd_gt := pd_in 1684 (by decide +kernel) (by decide +kernel)
theorem pq_1065 : Cond.code yX12_estateOf cX12_estateOf 12 (some .long) ∈ pd_gt := pd_in 1687 (by decide +kernel) (by decide +kernel)
theorem pq_1066 : Cond.initialized yX12_estateOf.cls ∈ pd_gt := pd_in 111 (by decide +kernel) (by decide +kernel)
theorem pq_1067 : Cond.instanceMethod yX12_estateOf ∈ pd_gt := pd_in 1686 (by decide +kernel) (by decide +kernel)
theorem pq_1068 : Cond.selects yX12_estateOf.cls yX12_estateOf yX12_estateOf ∈ pd_gt := pd_in 90 (by decide +kernel) (by decide +kernel)
theorem pq_1069 : Cond.constantLong RX12 425 (100 : Int64) ∈ pd_gt := pd_in 1714 (by decide +kernel) (by decide +kernel)
theorem pq_1070 : Cond.methodLink RX12 417 yX12_paidNow ∈ pd_gt := pd_in 1702 (by decide +kernel) (by decide +kernel)
theorem pq_1071 : Cond.code yX12_paidNow cX12_paidNow 1 (some .long) ∈ pd_gt := pd_in 1705 (by decide +kernel) (by decide +kernel)
theorem pq_1072 : Cond.initialized yX12_paidNow.cls ∈ pd_gt := pd_in 111 (by decide +kernel) (by decide +kernel)
theorem pq_1073 : Cond.instanceMethod yX12_paidNow ∈ pd_gt := pd_in 1704 (by decide +kernel) (by decide +kernel)
theorem pq_1074 : Cond.selects yX12_paidNow.cls yX12_paidNow yX12_paidNow ∈ pd_gt := pd_in 92 (by decide +kernel) (by decide +kernel)
theorem pq_1075 : Cond.methodLink RX12 437 yX12_replaceable ∈ pd_gt := pd_in 1735 (by decide +kernel) (by decide +kernel)
theorem pq_1076 : Cond.code yX12_replaceable cX12_replaceable 4 (some .int) ∈ pd_gt := pd_in 1738 (by decide +kernel) (by decide +kernel)
theorem pq_1077 : Cond.initialized yX12_replaceable.cls ∈ pd_gt := pd_in 111 (by decide +kernel) (by decide +kernel)
theorem pq_1078 : Cond.instanceMethod yX12_replaceable ∈ pd_gt := pd_in 1737 (by decide +kernel) (by decide +kernel)
theorem pq_1079 : Cond.selects yX12_replaceable.cls yX12_replaceable yX12_replaceable ∈ pd_gt := pd_in 96 (by decide +kernel) (by decide +kernel)
theorem pq_1080 : Cond.methodLink RX12 422 yX12_paidOn ∈ pd_gt := pd_in 1698 (by decide +kernel) (by decide +kernel)
theorem pq_1081 : Cond.code yX12_paidOn cX12_paidOn 5 (some .long) ∈ pd_gt := pd_in 1701 (by decide +kernel) (by decide +kernel)
theorem pq_1082 : Cond.initialized yX12_paidOn.cls ∈ pd_gt := pd_in 111 (by decide +kernel) (by decide +kernel)
theorem pq_1083 : Cond.instanceMethod yX12_paidOn ∈ pd_gt := pd_in 1700 (by decide +kernel) (by decide +kernel)
theorem pq_1084 : Cond.selects yX12_paidOn.cls yX12_paidOn yX12_paidOn ∈ pd_gt := pd_in 91 (by decide +kernel) (by decide +kernel)
def pfX12_paidNow (sh : pd_S) (n : Nat) (F : pd_F) (x0 : Int) : Option (Int × pd_F) :=
  pd_i (pd_ob sh 12 x0 = true) <|
  Option.bind (pfX12_laysViews sh n F x0) fun F1 =>
  pd_i (pd_ib sh 0 0 (F1 x0 39) 72 = true) <|
  Option.bind (pfX12_paidAll sh n F1 x0 (F1 (F1 x0 39) 72)) fun qr5 => pd_l qr5.1 fun r5 => pd_l qr5.2 fun F4 =>
  some (r5, F4)
def pfX12_view (sh : pd_S) (n : Nat) (F : pd_F) (x0 : Int) (x1 : Int) (x2 : Int) : Option (Int × pd_F) :=
  pd_i (pd_ob sh 12 x0 = true) <|
  pd_l (pd_up F x0 0 0) fun F2 =>
  Option.bind (pfX12_laysViews sh n F2 x0) fun F3 =>
  Option.bind (pfX12_within sh n F3 x1 0 (pd_w ((F3 x0 46) - 1))) fun qr5 => pd_l qr5.1 fun r5 => pd_l qr5.2 fun F4 =>
  if r5 ≠ 0 then
    if x2 = 0 then
      pd_i (pd_ib sh 1 0 (F4 x0 48) x1 = true) <|
      some (F4 (F4 x0 48) x1, F4)
    else
      if x2 = 1 then
        pd_i (pd_ib sh 1 0 (F4 x0 49) x1 = true) <|
        some (F4 (F4 x0 49) x1, F4)
      else
        if x2 = 2 then
          Option.bind (pfX12_setOff sh n F4 x0 x1) fun qr9 => pd_l qr9.1 fun r9 => pd_l qr9.2 fun F8 =>
          some (r9, F8)
        else
          if x2 = 3 then
            Option.bind (pfX12_net sh n F4 x0 x1) fun qr11 => pd_l qr11.1 fun r11 => pd_l qr11.2 fun F10 =>
            some (r11, F10)
          else
            if x2 = 4 then
              pd_i (pd_ib sh 1 0 (F4 x0 50) x1 = true) <|
              some (F4 (F4 x0 50) x1, F4)
            else
              if x2 = 5 then
                pd_i (pd_ib sh 0 0 (F4 x0 39) 72 = true) <|
                Option.bind (pfX12_limit sh n F4 x0 x1 (F4 (F4 x0 39) 72)) fun qr15 => pd_l qr15.1 fun r15 => pd_l qr15.2 fun F14 =>
                some (r15, F14)
              else
                if x2 = 6 then
                  pd_i (pd_ib sh 0 0 (F4 x0 39) 72 = true) <|
                  Option.bind (pfX12_paid sh n F4 x0 x1 (F4 (F4 x0 39) 72)) fun qr18 => pd_l qr18.1 fun r18 => pd_l qr18.2 fun F17 =>
                  some (r18, F17)
                else
                  if x2 = 7 then
                    Option.bind (pfX12_claim sh n F4 x0 x1) fun qr20 => pd_l qr20.1 fun r20 => pd_l qr20.2 fun F19 =>
                    some (r20, F19)
                  else
                    if x2 = 8 then
                      pd_i (pd_ib sh 0 2 (F4 x0 51) x1 = true) <|
                      if (F4 (F4 x0 51) x1) = 0 then
                        some (0, F4)
                      else
                        some (1, F4)
                    else
                      some ((-1), F4)
  else
    some ((-1), F4)
def pfX12_all_b141 (sh : pd_S) (n : Nat) (c51 : pd_F → Int → Int → Int → Int → Option (Int × pd_F)) (F : pd_F) (x0 : Int) (x1 : Int) (x4 : Int) (t0 : Int) (t1 : Int) : Option (Int × pd_F) :=
  pd_l (pd_W (t1 + t0)) fun x2_142 =>
  pd_l (pd_w (x4 + 1)) fun x4_143 =>
  c51 F x0 x1 x2_142 x4_143
def pfX12_all_b51 (sh : pd_S) (n : Nat)  : Nat → pd_F → Int → Int → Int → Int → Option (Int × pd_F)
  | 0, _, _, _, _, _ => none
  | k + 1, F, x0, x1, x2, x4 =>
    pd_i (pd_ob sh 12 x0 = true) <|
    if x4 ≥ (F x0 46) then
      some (x2, F)
    else
      if x1 ≠ 0 then
        if x1 ≠ 1 then
          if x1 ≠ 2 then
            if x1 ≠ 3 then
              Option.bind (pfX12_claim sh n F x0 x4) fun qr3 => pd_l qr3.1 fun r3 => pd_l qr3.2 fun F2 =>
              if r3 ≤ 0 then
                pfX12_all_b141 sh n (pfX12_all_b51 sh n k) F2 x0 x1 x4 0 x2
              else
                pfX12_all_b141 sh n (pfX12_all_b51 sh n k) F2 x0 x1 x4 1 x2
            else
              Option.bind (pfX12_claim sh n F x0 x4) fun qr5 => pd_l qr5.1 fun r5 => pd_l qr5.2 fun F4 =>
              pfX12_all_b141 sh n (pfX12_all_b51 sh n k) F4 x0 x1 x4 r5 x2
          else
            pd_i (pd_ib sh 0 0 (F x0 39) 72 = true) <|
            Option.bind (pfX12_paid sh n F x0 x4 (F (F x0 39) 72)) fun qr8 => pd_l qr8.1 fun r8 => pd_l qr8.2 fun F7 =>
            pfX12_all_b141 sh n (pfX12_all_b51 sh n k) F7 x0 x1 x4 r8 x2
        else
          Option.bind (pfX12_setOff sh n F x0 x4) fun qr10 => pd_l qr10.1 fun r10 => pd_l qr10.2 fun F9 =>
          pfX12_all_b141 sh n (pfX12_all_b51 sh n k) F9 x0 x1 x4 r10 x2
      else
        pd_i (pd_ib sh 1 0 (F x0 48) x4 = true) <|
        pfX12_all_b141 sh n (pfX12_all_b51 sh n k) F x0 x1 x4 (F (F x0 48) x4) x2
def pfX12_all (sh : pd_S) (n : Nat) (F : pd_F) (x0 : Int) (x1 : Int) : Option (Int × pd_F) :=
  pd_i (pd_ob sh 12 x0 = true) <|
  pd_l (pd_up F x0 0 0) fun F13 =>
  Option.bind (pfX12_within sh n F13 x1 0 6) fun qr15 => pd_l qr15.1 fun r15 => pd_l qr15.2 fun F14 =>
  if r15 ≠ 0 then
    Option.bind (pfX12_laysViews sh n F14 x0) fun F16 =>
    if x1 ≠ 4 then
      if x1 ≠ 5 then
        pfX12_all_b51 sh n n F16 x0 x1 0 0
      else
        some (F16 x0 46, F16)
    else
      Option.bind (pfX12_frozen sh n F16 x0) fun qr18 => pd_l qr18.1 fun r18 => pd_l qr18.2 fun F17 =>
      some (r18, F17)
  else
    some ((-1), F14)
def pfX12_ranked_b11 (sh : pd_S) (n : Nat)  : Nat → pd_F → Int → Int → Int → Option (Int × pd_F)
  | 0, _, _, _, _ => none
  | k + 1, F, x0, x1, x2 =>
    pd_i (pd_ob sh 12 x0 = true) <|
    if x2 ≥ (F x0 46) then
      some ((-1), F)
    else
      Option.bind (pfX12_placeOf sh n F x0 x2) fun qr3 => pd_l qr3.1 fun r3 => pd_l qr3.2 fun F2 =>
      if r3 ≠ x1 then
        pd_l (pd_w (x2 + 1)) fun x2_30 =>
        pfX12_ranked_b11 sh n k F2 x0 x1 x2_30
      else
        some (x2, F2)
def pfX12_ranked (sh : pd_S) (n : Nat) (F : pd_F) (x0 : Int) (x1 : Int) : Option (Int × pd_F) :=
  pd_i (pd_ob sh 12 x0 = true) <|
  pd_l (pd_up F x0 0 0) fun F5 =>
  Option.bind (pfX12_laysViews sh n F5 x0) fun F6 =>
  pfX12_ranked_b11 sh n n F6 x0 x1 0
def pfX12_estate (sh : pd_S) (n : Nat) (F : pd_F) (x0 : Int) (x1 : Int) (x2 : Int) : Option (Int × pd_F) :=
  pd_i (pd_ob sh 12 x0 = true) <|
  pd_l (pd_up F x0 0 0) fun F2 =>
  Option.bind (pfX12_laysViews sh n F2 x0) fun F3 =>
  Option.bind (pfX12_within sh n F3 x1 0 99999999) fun qr5 => pd_l qr5.1 fun r5 => pd_l qr5.2 fun F4 =>
  if r5 = 0 then
    some ((-2), F4)
  else
    Option.bind (pfX12_within sh n F4 x2 (-1) (pd_w ((F4 x0 46) - 1))) fun qr7 => pd_l qr7.1 fun r7 => pd_l qr7.2 fun F6 =>
    if r7 ≠ 0 then
      if x2 ≠ (-1) then
        Option.bind (pfX12_estateOf sh n F6 x0 x1 x2) fun qr9 => pd_l qr9.1 fun r9 => pd_l qr9.2 fun F8 =>
        some (r9, F8)
      else
        Option.bind (pfX12_rank sh n F6 x0 0) fun qr11 => pd_l qr11.1 fun r11 => pd_l qr11.2 fun F10 =>
        if x1 ≥ r11 then
          Option.bind (pfX12_rank sh n F10 x0 0) fun qr13 => pd_l qr13.1 fun r13 => pd_l qr13.2 fun F12 =>
          some (r13, F12)
        else
          some (x1, F10)
    else
      some ((-2), F6)
def pfX12_enough_b30 (sh : pd_S) (n : Nat)  : Nat → pd_F → Int → Int → Int → Int → Option (Int × pd_F)
  | 0, _, _, _, _, _ => none
  | k + 1, F, x0, x1, x2, x4 =>
    if x4 > x1 then
      some (x2, F)
    else
      pd_i (pd_ob sh 12 x0 = true) <|
      Option.bind (pfX12_rank sh n F x0 x1) fun qr2 => pd_l qr2.1 fun r2 => pd_l qr2.2 fun F1 =>
      if r2 ≤ 0 then
        some (x2, F1)
      else
        Option.bind (pfX12_rank sh n F1 x0 x4) fun qr5 => pd_l qr5.1 fun r5 => pd_l qr5.2 fun F4 =>
        pd_l (pd_W (x2 + r5)) fun x2_54 =>
        pd_l (pd_w (x4 + 1)) fun x4_55 =>
        pfX12_enough_b30 sh n k F4 x0 x1 x2_54 x4_55
def pfX12_enough (sh : pd_S) (n : Nat) (F : pd_F) (x0 : Int) (x1 : Int) : Option (Int × pd_F) :=
  pd_i (pd_ob sh 12 x0 = true) <|
  pd_l (pd_up F x0 0 0) fun F7 =>
  Option.bind (pfX12_within sh n F7 x1 0 2) fun qr9 => pd_l qr9.1 fun r9 => pd_l qr9.2 fun F8 =>
  if r9 ≠ 0 then
    Option.bind (pfX12_laysViews sh n F8 x0) fun F10 =>
    pfX12_enough_b30 sh n n F10 x0 x1 0 0
  else
    some ((-1), F8)
def pfX12_coverFor_b110 (sh : pd_S) (n : Nat) (c60 : pd_F → Int → Int → Int → Int → Int → Option (Int × pd_F)) (F : pd_F) (x0 : Int) (x1 : Int) (x2 : Int) (x4 : Int) (x6 : Int) : Option (Int × pd_F) :=
  c60 F x0 x1 x2 x4 x6
def pfX12_coverFor_b60 (sh : pd_S) (n : Nat)  : Nat → pd_F → Int → Int → Int → Int → Int → Option (Int × pd_F)
  | 0, _, _, _, _, _, _ => none
  | k + 1, F, x0, x1, x2, x4, x6 =>
    if x4 ≥ x6 then
      some (x4, F)
    else
      pd_l (pd_W (Int.tdiv (pd_W (x4 + x6)) 2)) fun x8_77 =>
      pd_i (pd_ob sh 12 x0 = true) <|
      Option.bind (pfX12_paidAll sh n F x0 x8_77) fun qr2 => pd_l qr2.1 fun r2 => pd_l qr2.2 fun F1 =>
      if (pd_W (r2 * 100)) < (pd_W (x2 * x1)) then
        pd_l (pd_W (x8_77 + 1)) fun x4_108 =>
        pfX12_coverFor_b110 sh n (pfX12_coverFor_b60 sh n k) F1 x0 x1 x2 x4_108 x6
      else
        pfX12_coverFor_b110 sh n (pfX12_coverFor_b60 sh n k) F1 x0 x1 x2 x4 x8_77
def pfX12_coverFor_b54 (sh : pd_S) (n : Nat)  (F : pd_F) (x0 : Int) (x1 : Int) (x2 : Int) : Option (Int × pd_F) :=
  pfX12_coverFor_b60 sh n n F x0 x1 x2 0 x2
def pfX12_coverFor_b30 (sh : pd_S) (n : Nat)  : Nat → pd_F → Int → Int → Int → Int → Option (Int × pd_F)
  | 0, _, _, _, _, _ => none
  | k + 1, F, x0, x1, x2, x4 =>
    pd_i (pd_ob sh 12 x0 = true) <|
    if x4 ≥ (F x0 46) then
      pfX12_coverFor_b54 sh n F x0 x1 x2
    else
      Option.bind (pfX12_net sh n F x0 x4) fun qr6 => pd_l qr6.1 fun r6 => pd_l qr6.2 fun F5 =>
      pd_l (pd_W (x2 + r6)) fun x2_47 =>
      pd_l (pd_w (x4 + 1)) fun x4_48 =>
      pfX12_coverFor_b30 sh n k F5 x0 x1 x2_47 x4_48
def pfX12_coverFor (sh : pd_S) (n : Nat) (F : pd_F) (x0 : Int) (x1 : Int) : Option (Int × pd_F) :=
  pd_i (pd_ob sh 12 x0 = true) <|
  pd_l (pd_up F x0 0 0) fun F8 =>
  Option.bind (pfX12_within sh n F8 x1 1 100) fun qr10 => pd_l qr10.1 fun r10 => pd_l qr10.2 fun F9 =>
  if r10 ≠ 0 then
    Option.bind (pfX12_laysViews sh n F9 x0) fun F11 =>
    pfX12_coverFor_b30 sh n n F11 x0 x1 0 0
  else
    some ((-1), F9)
def pfX12_paidOn (sh : pd_S) (n : Nat) (F : pd_F) (x0 : Int) (x1 : Int) : Option (Int × pd_F) :=
  pd_i (pd_ob sh 12 x0 = true) <|
  pd_i (pd_ib sh 0 0 (F x0 39) 71 = true) <|
  pd_l (F (F x0 39) 71) fun x2_7 =>
  pd_l (pd_up F (F x0 39) 71 x1) fun F3 =>
  Option.bind (pfX12_paidNow sh n F3 x0) fun qr5 => pd_l qr5.1 fun r5 => pd_l qr5.2 fun F4 =>
  pd_i (pd_ib sh 0 0 (F4 x0 39) 71 = true) <|
  pd_l (pd_up F4 (F4 x0 39) 71 x2_7) fun F7 =>
  some (r5, F7)
def pfX12_markless_b51 (sh : pd_S) (n : Nat)  (F : pd_F) (x0 : Int) (x1 : Int) (x2 : Int) (x4 : Int) (t0 : Int) (t1 : Int) (t2 : Int) : Option (Int × pd_F) :=
  pd_i (pd_ob sh 12 t2 = true) <|
  Option.bind (pfX12_marks sh n F t2 t1 t0) fun F1 =>
  pd_i (pd_ob sh 12 x0 = true) <|
  Option.bind (pfX12_paidNow sh n F1 x0) fun qr4 => pd_l qr4.1 fun r4 => pd_l qr4.2 fun F3 =>
  Option.bind (pfX12_marks sh n F3 x0 x1 x4) fun F6 =>
  some (pd_W (r4 - x2), F6)
def pfX12_markless_b14 (sh : pd_S) (n : Nat)  (F : pd_F) (x0 : Int) (x1 : Int) (t0 : Int) (t1 : Int) : Option (Int × pd_F) :=
  pd_i (pd_ob sh 12 t1 = true) <|
  pd_l (pd_up F t1 0 t0) fun F8 =>
  pd_i (pd_ob sh 12 x0 = true) <|
  if (F8 x0 0) ≠ 1 then
    Option.bind (pfX12_paidNow sh n F8 x0) fun qr11 => pd_l qr11.1 fun r11 => pd_l qr11.2 fun F10 =>
    Option.bind (pfX12_isOut sh n F10 x0 x1) fun qr13 => pd_l qr13.1 fun r13 => pd_l qr13.2 fun F12 =>
    if r13 ≠ 0 then
      pfX12_markless_b51 sh n F12 x0 x1 r11 r13 0 x1 x0
    else
      pfX12_markless_b51 sh n F12 x0 x1 r11 r13 1 x1 x0
  else
    some (0, F8)
def pfX12_markless (sh : pd_S) (n : Nat) (F : pd_F) (x0 : Int) (x1 : Int) : Option (Int × pd_F) :=
  pd_i (pd_ob sh 12 x0 = true) <|
  Option.bind (pfX12_isMark sh n F x0 x1) fun qr15 => pd_l qr15.1 fun r15 => pd_l qr15.2 fun F14 =>
  if r15 = 0 then
    pfX12_markless_b14 sh n F14 x0 x1 1 x0
  else
    pfX12_markless_b14 sh n F14 x0 x1 0 x0
def pfX12_joining_b167 (sh : pd_S) (n : Nat)  (F : pd_F) (x0 : Int) (x3 : Int) (x5 : Int) (x6 : Int) (x7 : Int) (x8 : Int) (t0 : Int) (t1 : Int) (t2 : Int) : Option (Int × pd_F) :=
  pd_i (pd_ib sh 0 0 t2 t1 = true) <|
  pd_l (pd_up F t2 t1 t0) fun F2 =>
  pd_i (pd_ob sh 12 x0 = true) <|
  Option.bind (pfX12_paidNow sh n F2 x0) fun qr4 => pd_l qr4.1 fun r4 => pd_l qr4.2 fun F3 =>
  pd_i (pd_ib sh 0 0 (F3 x0 39) (pd_w (10 + (pd_w (2 * x5)))) = true) <|
  pd_l (pd_up F3 (F3 x0 39) (pd_w (10 + (pd_w (2 * x5)))) x6) fun F7 =>
  pd_i (pd_ib sh 0 0 (F7 x0 39) (pd_w ((pd_w (10 + (pd_w (2 * x5)))) + 1)) = true) <|
  pd_l (pd_up F7 (F7 x0 39) (pd_w ((pd_w (10 + (pd_w (2 * x5)))) + 1)) x7) fun F9 =>
  pd_i (pd_ib sh 0 0 (F9 x0 39) 70 = true) <|
  pd_l (pd_up F9 (F9 x0 39) 70 x8) fun F11 =>
  some (pd_W (r4 - x3), F11)
def pfX12_joining_b76 (sh : pd_S) (n : Nat)  (F : pd_F) (x0 : Int) (x1 : Int) (x2 : Int) (x3 : Int) (t0 : Int) : Option (Int × pd_F) :=
  pd_i (pd_ob sh 12 x0 = true) <|
  pd_i (pd_ib sh 0 0 (F x0 39) (pd_w (10 + (pd_w (2 * t0)))) = true) <|
  pd_l (F (F x0 39) (pd_w (10 + (pd_w (2 * t0))))) fun x6_90 =>
  pd_i (pd_ib sh 0 0 (F x0 39) (pd_w ((pd_w (10 + (pd_w (2 * t0)))) + 1)) = true) <|
  pd_l (F (F x0 39) (pd_w ((pd_w (10 + (pd_w (2 * t0)))) + 1))) fun x7_106 =>
  pd_i (pd_ib sh 0 0 (F x0 39) 70 = true) <|
  pd_l (F (F x0 39) 70) fun x8_115 =>
  pd_l (pd_up F (F x0 39) (pd_w (10 + (pd_w (2 * t0)))) x1) fun F16 =>
  pd_i (pd_ib sh 0 0 (F16 x0 39) (pd_w ((pd_w (10 + (pd_w (2 * t0)))) + 1)) = true) <|
  pd_l (pd_up F16 (F16 x0 39) (pd_w ((pd_w (10 + (pd_w (2 * t0)))) + 1)) x2) fun F18 =>
  if x8_115 ≠ 30 then
    pfX12_joining_b167 sh n F18 x0 x3 t0 x6_90 x7_106 x8_115 (pd_w (x8_115 + 1)) 70 (F18 x0 39)
  else
    pfX12_joining_b167 sh n F18 x0 x3 t0 x6_90 x7_106 x8_115 30 70 (F18 x0 39)
def pfX12_joining_b15 (sh : pd_S) (n : Nat)  (F : pd_F) (x0 : Int) (x1 : Int) (x2 : Int) (t0 : Int) (t1 : Int) : Option (Int × pd_F) :=
  pd_i (pd_ob sh 12 t1 = true) <|
  pd_l (pd_up F t1 0 t0) fun F20 =>
  pd_i (pd_ob sh 12 x0 = true) <|
  if (F20 x0 0) ≠ 1 then
    Option.bind (pfX12_paidNow sh n F20 x0) fun qr23 => pd_l qr23.1 fun r23 => pd_l qr23.2 fun F22 =>
    pd_i (pd_ib sh 0 0 (F22 x0 45) x1 = true) <|
    pd_i (pd_ib sh 0 0 (F22 x0 45) x2 = true) <|
    if (F22 (F22 x0 45) x1) ≠ (F22 (F22 x0 45) x2) then
      pd_i (pd_ib sh 0 0 (F22 x0 39) 70 = true) <|
      if (F22 (F22 x0 39) 70) ≠ 30 then
        pfX12_joining_b76 sh n F22 x0 x1 x2 r23 (F22 (F22 x0 39) 70)
      else
        Option.bind (pfX12_replaceable sh n F22 x0) fun qr28 => pd_l qr28.1 fun r28 => pd_l qr28.2 fun F27 =>
        pfX12_joining_b76 sh n F27 x0 x1 x2 r23 r28
    else
      some (0, F22)
  else
    some (0, F20)
def pfX12_joining (sh : pd_S) (n : Nat) (F : pd_F) (x0 : Int) (x1 : Int) (x2 : Int) : Option (Int × pd_F) :=
  pd_i (pd_ob sh 12 x0 = true) <|
  Option.bind (pfX12_isTwo sh n F x0 x1 x2) fun qr30 => pd_l qr30.1 fun r30 => pd_l qr30.2 fun F29 =>
  if r30 = 0 then
    pfX12_joining_b15 sh n F29 x0 x1 x2 1 x0
  else
    pfX12_joining_b15 sh n F29 x0 x1 x2 0 x0
def pfX12_onDay (sh : pd_S) (n : Nat) (F : pd_F) (x0 : Int) (x1 : Int) : Option (Int × pd_F) :=
  pd_i (pd_ob sh 12 x0 = true) <|
  pd_l (pd_up F x0 0 0) fun F2 =>
  Option.bind (pfX12_within sh n F2 x1 0 999) fun qr4 => pd_l qr4.1 fun r4 => pd_l qr4.2 fun F3 =>
  if r4 = 0 then
    some ((-1), F3)
  else
    Option.bind (pfX12_paidOn sh n F3 x0 x1) fun qr6 => pd_l qr6.1 fun r6 => pd_l qr6.2 fun F5 =>
    some (r6, F5)
def pfX12_bestDay_b104 (sh : pd_S) (n : Nat) (c51 : pd_F → Int → Int → Int → Int → Int → Int → Option (Int × pd_F)) (F : pd_F) (x0 : Int) (x2 : Int) (x3 : Int) (x4 : Int) (x5 : Int) (x7 : Int) : Option (Int × pd_F) :=
  pd_l (pd_w (x7 + 1)) fun x7_104 =>
  c51 F x0 x2 x3 x4 x5 x7_104
def pfX12_bestDay_b96 (sh : pd_S) (n : Nat) (c51 : pd_F → Int → Int → Int → Int → Int → Int → Option (Int × pd_F)) (F : pd_F) (x0 : Int) (x2 : Int) (x3 : Int) (x7 : Int) (x8 : Int) : Option (Int × pd_F) :=
  pfX12_bestDay_b104 sh n c51 F x0 x2 x3 x7 x8 x7
def pfX12_bestDay_b51 (sh : pd_S) (n : Nat)  : Nat → pd_F → Int → Int → Int → Int → Int → Int → Option (Int × pd_F)
  | 0, _, _, _, _, _, _, _ => none
  | k + 1, F, x0, x2, x3, x4, x5, x7 =>
    if x7 > x2 then
      some (x4, F)
    else
      pd_i (pd_ob sh 12 x0 = true) <|
      Option.bind (pfX12_paidOn sh n F x0 x7) fun qr2 => pd_l qr2.1 fun r2 => pd_l qr2.2 fun F1 =>
      if x4 < 0 then
        pfX12_bestDay_b96 sh n (pfX12_bestDay_b51 sh n k) F1 x0 x2 x3 x7 r2
      else
        if x3 ≠ 0 then
          if r2 > x5 then
            pfX12_bestDay_b96 sh n (pfX12_bestDay_b51 sh n k) F1 x0 x2 x3 x7 r2
          else
            pfX12_bestDay_b104 sh n (pfX12_bestDay_b51 sh n k) F1 x0 x2 x3 x4 x5 x7
        else
          if r2 < x5 then
            pfX12_bestDay_b96 sh n (pfX12_bestDay_b51 sh n k) F1 x0 x2 x3 x7 r2
          else
            pfX12_bestDay_b104 sh n (pfX12_bestDay_b51 sh n k) F1 x0 x2 x3 x4 x5 x7
def pfX12_bestDay (sh : pd_S) (n : Nat) (F : pd_F) (x0 : Int) (x1 : Int) (x2 : Int) (x3 : Int) : Option (Int × pd_F) :=
  pd_i (pd_ob sh 12 x0 = true) <|
  pd_l (pd_up F x0 0 0) fun F5 =>
  Option.bind (pfX12_within sh n F5 x1 0 999) fun qr7 => pd_l qr7.1 fun r7 => pd_l qr7.2 fun F6 =>
  if r7 = 0 then
    some ((-1), F6)
  else
    Option.bind (pfX12_within sh n F6 x2 x1 999) fun qr9 => pd_l qr9.1 fun r9 => pd_l qr9.2 fun F8 =>
    if r9 = 0 then
      some ((-1), F8)
    else
      Option.bind (pfX12_within sh n F8 x3 0 1) fun qr11 => pd_l qr11.1 fun r11 => pd_l qr11.2 fun F10 =>
      if r11 ≠ 0 then
        pfX12_bestDay_b51 sh n n F10 x0 x2 x3 (-1) 0 x1
      else
        some ((-1), F10)
set_option maxHeartbeats 4000000 in
set_option maxRecDepth 100000 in
theorem pkX12_paidNow (l : Launch) {sh : pd_S} {n : Nat} {F : pd_F} {x0 : Int} {ρ : Int} {Fz : pd_F} (hf : pfX12_paidNow sh n F x0 = some (ρ, Fz)) : pd_C l yX12_paidNow (Cond.code yX12_paidNow cX12_paidNow 1 (some .long) :: pd_gt) (pd_rm 12 0 0) false 0 0 sh F [pd_R x0] (some (pd_J ρ)) sh Fz := by
  unfold pfX12_paidNow at hf
  refine pd_body (L := [pd_R x0]) (by decide +kernel) (Nat.le_of_ble_eq_true rfl) rfl (fun E => ?_)
  refine pd_aload_n (i := 0) dX12_paidNow_0 rfl rfl ?_
  obtain ⟨hg2, hf⟩ := pd_ig hf
  obtain ⟨F1, hr, hf⟩ := pd_ob1 hf
  refine pd_callV (pkX12_laysViews l hr) dX12_paidNow_1 pq_1045 pq_1048 pq_1049 (show vwCl[12]? = some (yX12_laysViews.cls, TX12, 52) from rfl) hg2 (pd_okm (by omega) (by decide) pq_1046 pq_1047 (by decide) (show (parseMethodDescriptor yX12_laysViews.desc).map (fun d => d.parameters.length) = some 0 from by decide +kernel)) (Nat.le_of_ble_eq_true rfl) rfl ?_
  refine pd_aload_n (i := 0) dX12_paidNow_4 rfl rfl ?_
  refine pd_aload_n (i := 0) dX12_paidNow_5 rfl rfl ?_
  refine pd_get (x := pd_R (F1 x0 39)) 39 dX12_paidNow_6 (show vwCl[12]? = some (RX12, TX12, 52) from rfl) pin_12 (by decide) pq_877 hg2 rfl ?_
  refine pd_bipush dX12_paidNow_9 (by decide) ?_
  obtain ⟨hg3, hf⟩ := pd_ig hf
  refine pd_iald dX12_paidNow_11 hg3 ?_
  refine pd_i2l dX12_paidNow_12 ?_
  obtain ⟨r5, F4, hr, hf⟩ := pd_ob2 hf
  refine pd_callV (pkX12_paidAll l hr) dX12_paidNow_13 pq_982 pq_985 pq_986 (show vwCl[12]? = some (yX12_paidAll.cls, TX12, 52) from rfl) hg2 (pd_okm (by omega) (by decide) pq_983 pq_984 (by decide) (show (parseMethodDescriptor yX12_paidAll.desc).map (fun d => d.parameters.length) = some 1 from by decide +kernel)) (Nat.le_of_ble_eq_true rfl) rfl ?_
  obtain ⟨h1, h2⟩ := pd_inj hf
  subst h1 h2
  exact pd_lret dX12_paidNow_16 rfl (Nat.le_refl 0) (Nat.le_refl 0)
set_option maxHeartbeats 4000000 in
set_option maxRecDepth 100000 in
theorem pkX12_view (l : Launch) {sh : pd_S} {n : Nat} {F : pd_F} {x0 : Int} {x1 : Int} {x2 : Int} {ρ : Int} {Fz : pd_F} (hf : pfX12_view sh n F x0 x1 x2 = some (ρ, Fz)) : pd_C l yX12_view (Cond.code yX12_view cX12_view 3 (some .long) :: pd_gt) (pd_rm 12 0 0) false 0 0 sh F [pd_R x0, pd_I x1, pd_I x2] (some (pd_J ρ)) sh Fz := by
  unfold pfX12_view at hf
  refine pd_body (L := [pd_R x0, pd_I x1, pd_I x2]) (by decide +kernel) (Nat.le_of_ble_eq_true rfl) rfl (fun E => ?_)
  refine pd_aload_n (i := 0) dX12_view_0 rfl rfl ?_
  refine pd_iconst dX12_view_1 (by decide) ?_
  obtain ⟨hg1, hf⟩ := pd_ig hf
  refine pd_put (n := 0) (x := pd_I 0) 0 dX12_view_2 (show vwCl[12]? = some (RX12, TX12, 52) from rfl) pin_12 tyX12_ok nmX12 (by decide) pq_704 rfl hg1 rfl pd_nrI pd_ftI ?_
  refine pd_topF (fun F2 eF2 => ?_)
  have hf := pd_lt hf eF2
  clear eF2
  refine pd_aload_n (i := 0) dX12_view_5 rfl rfl ?_
  obtain ⟨F3, hr, hf⟩ := pd_ob1 hf
  refine pd_callV (pkX12_laysViews l hr) dX12_view_6 pq_1045 pq_1048 pq_1049 (show vwCl[12]? = some (yX12_laysViews.cls, TX12, 52) from rfl) hg1 (pd_okm (by omega) (by decide) pq_1046 pq_1047 (by decide) (show (parseMethodDescriptor yX12_laysViews.desc).map (fun d => d.parameters.length) = some 0 from by decide +kernel)) (Nat.le_of_ble_eq_true rfl) rfl ?_
  refine pd_iload_n (i := 1) dX12_view_9 rfl rfl ?_
  refine pd_i2l dX12_view_10 ?_
  refine pd_lconst (x := 0) dX12_view_11 (by decide) ?_
  refine pd_aload_n (i := 0) dX12_view_12 rfl rfl ?_
  refine pd_get (x := pd_I (F3 x0 46)) 46 dX12_view_13 (show vwCl[12]? = some (RX12, TX12, 52) from rfl) pin_12 (by decide) pq_969 hg1 rfl ?_
  refine pd_iconst dX12_view_16 (by decide) ?_
  refine pd_isub dX12_view_17 ?_
  refine pd_i2l dX12_view_18 ?_
  obtain ⟨r5, F4, hr, hf⟩ := pd_ob2 hf
  refine pd_callS (pkX12_within l hr) dX12_view_19 pq_738 pq_741 (pd_okm (by omega) (by decide) pq_739 pq_740 (by decide) (show (parseMethodDescriptor yX12_within.desc).map (fun d => d.parameters.length) = some 3 from by decide +kernel)) (Nat.le_of_ble_eq_true rfl) rfl ?_
  refine pd_if_ne (tgt := 29) dX12_view_22 (by decide) (fun hc => ?_) (fun hc => ?_)
  · have hf := pd_ip hf hc
    refine pd_iload_n (i := 2) dX12_view_29 rfl rfl ?_
    by_cases hv0 : x2 = 0
    · have hf := pd_ip hf hv0
      refine pd_tabE (v := 0) (off := 50) (tgt := 80) dX12_view_30 hv0 (by decide) (by decide) (by decide) (by decide) ?_
      refine pd_aload_n (i := 0) dX12_view_80 rfl rfl ?_
      refine pd_get (x := pd_R (F4 x0 48)) 48 dX12_view_81 (show vwCl[12]? = some (RX12, TX12, 52) from rfl) pin_12 (by decide) pq_895 hg1 rfl ?_
      refine pd_iload_n (i := 1) dX12_view_84 rfl rfl ?_
      obtain ⟨hg6, hf⟩ := pd_ig hf
      refine pd_lald dX12_view_85 hg6 ?_
      obtain ⟨h1, h2⟩ := pd_inj hf
      subst h1 h2
      exact pd_lret dX12_view_86 rfl (Nat.le_refl 0) (Nat.le_refl 0)
    · have hf := pd_in_ hf hv0
      by_cases hv1 : x2 = 1
      · have hf := pd_ip hf hv1
        refine pd_tabE (v := 1) (off := 57) (tgt := 87) dX12_view_30 hv1 (by decide) (by decide) (by decide) (by decide) ?_
        refine pd_aload_n (i := 0) dX12_view_87 rfl rfl ?_
        refine pd_get (x := pd_R (F4 x0 49)) 49 dX12_view_88 (show vwCl[12]? = some (RX12, TX12, 52) from rfl) pin_12 (by decide) pq_894 hg1 rfl ?_
        refine pd_iload_n (i := 1) dX12_view_91 rfl rfl ?_
        obtain ⟨hg7, hf⟩ := pd_ig hf
        refine pd_lald dX12_view_92 hg7 ?_
        obtain ⟨h1, h2⟩ := pd_inj hf
        subst h1 h2
        exact pd_lret dX12_view_93 rfl (Nat.le_refl 0) (Nat.le_refl 0)
      · have hf := pd_in_ hf hv1
        by_cases hv2 : x2 = 2
        · have hf := pd_ip hf hv2
          refine pd_tabE (v := 2) (off := 64) (tgt := 94) dX12_view_30 hv2 (by decide) (by decide) (by decide) (by decide) ?_
          refine pd_aload_n (i := 0) dX12_view_94 rfl rfl ?_
          refine pd_iload_n (i := 1) dX12_view_95 rfl rfl ?_
          obtain ⟨r9, F8, hr, hf⟩ := pd_ob2 hf
          refine pd_callV (pkX12_setOff l hr) dX12_view_96 pq_904 pq_907 pq_908 (show vwCl[12]? = some (yX12_setOff.cls, TX12, 52) from rfl) hg1 (pd_okm (by omega) (by decide) pq_905 pq_906 (by decide) (show (parseMethodDescriptor yX12_setOff.desc).map (fun d => d.parameters.length) = some 1 from by decide +kernel)) (Nat.le_of_ble_eq_true rfl) rfl ?_
          obtain ⟨h1, h2⟩ := pd_inj hf
          subst h1 h2
          exact pd_lret dX12_view_99 rfl (Nat.le_refl 0) (Nat.le_refl 0)
        · have hf := pd_in_ hf hv2
          by_cases hv3 : x2 = 3
          · have hf := pd_ip hf hv3
            refine pd_tabE (v := 3) (off := 70) (tgt := 100) dX12_view_30 hv3 (by decide) (by decide) (by decide) (by decide) ?_
            refine pd_aload_n (i := 0) dX12_view_100 rfl rfl ?_
            refine pd_iload_n (i := 1) dX12_view_101 rfl rfl ?_
            obtain ⟨r11, F10, hr, hf⟩ := pd_ob2 hf
            refine pd_callV (pkX12_net l hr) dX12_view_102 pq_928 pq_931 pq_932 (show vwCl[12]? = some (yX12_net.cls, TX12, 52) from rfl) hg1 (pd_okm (by omega) (by decide) pq_929 pq_930 (by decide) (show (parseMethodDescriptor yX12_net.desc).map (fun d => d.parameters.length) = some 1 from by decide +kernel)) (Nat.le_of_ble_eq_true rfl) rfl ?_
            obtain ⟨h1, h2⟩ := pd_inj hf
            subst h1 h2
            exact pd_lret dX12_view_105 rfl (Nat.le_refl 0) (Nat.le_refl 0)
          · have hf := pd_in_ hf hv3
            by_cases hv4 : x2 = 4
            · have hf := pd_ip hf hv4
              refine pd_tabE (v := 4) (off := 76) (tgt := 106) dX12_view_30 hv4 (by decide) (by decide) (by decide) (by decide) ?_
              refine pd_aload_n (i := 0) dX12_view_106 rfl rfl ?_
              refine pd_get (x := pd_R (F4 x0 50)) 50 dX12_view_107 (show vwCl[12]? = some (RX12, TX12, 52) from rfl) pin_12 (by decide) pq_896 hg1 rfl ?_
              refine pd_iload_n (i := 1) dX12_view_110 rfl rfl ?_
              obtain ⟨hg12, hf⟩ := pd_ig hf
              refine pd_lald dX12_view_111 hg12 ?_
              obtain ⟨h1, h2⟩ := pd_inj hf
              subst h1 h2
              exact pd_lret dX12_view_112 rfl (Nat.le_refl 0) (Nat.le_refl 0)
            · have hf := pd_in_ hf hv4
              by_cases hv5 : x2 = 5
              · have hf := pd_ip hf hv5
                refine pd_tabE (v := 5) (off := 83) (tgt := 113) dX12_view_30 hv5 (by decide) (by decide) (by decide) (by decide) ?_
                refine pd_aload_n (i := 0) dX12_view_113 rfl rfl ?_
                refine pd_iload_n (i := 1) dX12_view_114 rfl rfl ?_
                refine pd_aload_n (i := 0) dX12_view_115 rfl rfl ?_
                refine pd_get (x := pd_R (F4 x0 39)) 39 dX12_view_116 (show vwCl[12]? = some (RX12, TX12, 52) from rfl) pin_12 (by decide) pq_877 hg1 rfl ?_
                refine pd_bipush dX12_view_119 (by decide) ?_
                obtain ⟨hg13, hf⟩ := pd_ig hf
                refine pd_iald dX12_view_121 hg13 ?_
                refine pd_i2l dX12_view_122 ?_
                obtain ⟨r15, F14, hr, hf⟩ := pd_ob2 hf
                refine pd_callV (pkX12_limit l hr) dX12_view_123 pq_933 pq_936 pq_937 (show vwCl[12]? = some (yX12_limit.cls, TX12, 52) from rfl) hg1 (pd_okm (by omega) (by decide) pq_934 pq_935 (by decide) (show (parseMethodDescriptor yX12_limit.desc).map (fun d => d.parameters.length) = some 2 from by decide +kernel)) (Nat.le_of_ble_eq_true rfl) rfl ?_
                obtain ⟨h1, h2⟩ := pd_inj hf
                subst h1 h2
                exact pd_lret dX12_view_126 rfl (Nat.le_refl 0) (Nat.le_refl 0)
              · have hf := pd_in_ hf hv5
                by_cases hv6 : x2 = 6
                · have hf := pd_ip hf hv6
                  refine pd_tabE (v := 6) (off := 97) (tgt := 127) dX12_view_30 hv6 (by decide) (by decide) (by decide) (by decide) ?_
                  refine pd_aload_n (i := 0) dX12_view_127 rfl rfl ?_
                  refine pd_iload_n (i := 1) dX12_view_128 rfl rfl ?_
                  refine pd_aload_n (i := 0) dX12_view_129 rfl rfl ?_
                  refine pd_get (x := pd_R (F4 x0 39)) 39 dX12_view_130 (show vwCl[12]? = some (RX12, TX12, 52) from rfl) pin_12 (by decide) pq_877 hg1 rfl ?_
                  refine pd_bipush dX12_view_133 (by decide) ?_
                  obtain ⟨hg16, hf⟩ := pd_ig hf
                  refine pd_iald dX12_view_135 hg16 ?_
                  refine pd_i2l dX12_view_136 ?_
                  obtain ⟨r18, F17, hr, hf⟩ := pd_ob2 hf
                  refine pd_callV (pkX12_paid l hr) dX12_view_137 pq_964 pq_967 pq_968 (show vwCl[12]? = some (yX12_paid.cls, TX12, 52) from rfl) hg1 (pd_okm (by omega) (by decide) pq_965 pq_966 (by decide) (show (parseMethodDescriptor yX12_paid.desc).map (fun d => d.parameters.length) = some 2 from by decide +kernel)) (Nat.le_of_ble_eq_true rfl) rfl ?_
                  obtain ⟨h1, h2⟩ := pd_inj hf
                  subst h1 h2
                  exact pd_lret dX12_view_140 rfl (Nat.le_refl 0) (Nat.le_refl 0)
                · have hf := pd_in_ hf hv6
                  by_cases hv7 : x2 = 7
                  · have hf := pd_ip hf hv7
                    refine pd_tabE (v := 7) (off := 111) (tgt := 141) dX12_view_30 hv7 (by decide) (by decide) (by decide) (by decide) ?_
                    refine pd_aload_n (i := 0) dX12_view_141 rfl rfl ?_
                    refine pd_iload_n (i := 1) dX12_view_142 rfl rfl ?_
                    obtain ⟨r20, F19, hr, hf⟩ := pd_ob2 hf
                    refine pd_callV (pkX12_claim l hr) dX12_view_143 pq_976 pq_979 pq_980 (show vwCl[12]? = some (yX12_claim.cls, TX12, 52) from rfl) hg1 (pd_okm (by omega) (by decide) pq_977 pq_978 (by decide) (show (parseMethodDescriptor yX12_claim.desc).map (fun d => d.parameters.length) = some 1 from by decide +kernel)) (Nat.le_of_ble_eq_true rfl) rfl ?_
                    obtain ⟨h1, h2⟩ := pd_inj hf
                    subst h1 h2
                    exact pd_lret dX12_view_146 rfl (Nat.le_refl 0) (Nat.le_refl 0)
                  · have hf := pd_in_ hf hv7
                    by_cases hv8 : x2 = 8
                    · have hf := pd_ip hf hv8
                      refine pd_tabE (v := 8) (off := 117) (tgt := 147) dX12_view_30 hv8 (by decide) (by decide) (by decide) (by decide) ?_
                      refine pd_aload_n (i := 0) dX12_view_147 rfl rfl ?_
                      refine pd_get (x := pd_R (F4 x0 51)) 51 dX12_view_148 (show vwCl[12]? = some (RX12, TX12, 52) from rfl) pin_12 (by decide) pq_981 hg1 rfl ?_
                      refine pd_iload_n (i := 1) dX12_view_151 rfl rfl ?_
                      obtain ⟨hg21, hf⟩ := pd_ig hf
                      refine pd_zald dX12_view_152 hg21 ?_
                      refine pd_if_eq (tgt := 160) dX12_view_153 (by decide) (fun hc => ?_) (fun hc => ?_)
                      · have hf := pd_ip hf hc
                        refine pd_lconst (x := 0) dX12_view_160 (by decide) ?_
                        obtain ⟨h1, h2⟩ := pd_inj hf
                        subst h1 h2
                        exact pd_lret dX12_view_161 rfl (Nat.le_refl 0) (Nat.le_refl 0)
                      · have hf := pd_in_ hf hc
                        refine pd_lconst (x := 1) dX12_view_156 (by decide) ?_
                        refine pd_goto (tgt := 161) dX12_view_157 (by decide) ?_
                        obtain ⟨h1, h2⟩ := pd_inj hf
                        subst h1 h2
                        exact pd_lret dX12_view_161 rfl (Nat.le_refl 0) (Nat.le_refl 0)
                    · have hf := pd_in_ hf hv8
                      refine pd_tabO (tgt := 162) dX12_view_30 (by omega) (by decide) ?_
                      refine pd_ldc2 (x := (-1)) dX12_view_162 pq_1050 (by decide +kernel) ?_
                      obtain ⟨h1, h2⟩ := pd_inj hf
                      subst h1 h2
                      exact pd_lret dX12_view_165 rfl (Nat.le_refl 0) (Nat.le_refl 0)
  · have hf := pd_iq hf hc
    refine pd_ldc2 (x := (-1)) dX12_view_25 pq_1050 (by decide +kernel) ?_
    obtain ⟨h1, h2⟩ := pd_inj hf
    subst h1 h2
    exact pd_lret dX12_view_28 rfl (Nat.le_refl 0) (Nat.le_refl 0)
set_option maxHeartbeats 4000000 in
set_option maxRecDepth 100000 in
theorem pkX12_all_b141 (E : pd_E) (l : Launch) {sh : pd_S} {n : Nat} {ρ : Int} {Fz : pd_F} {c51 : pd_F → Int → Int → Int → Int → Option (Int × pd_F)} (hL51 : ∀ (F : pd_F) (x0 : Int) (x1 : Int) (x2 : Int) (x4 : Int), c51 F x0 x1 x2 x4 = some (ρ, Fz) → pd_V E l (pd_rm 12 0 0) (RX12, cX12_all, 5, (some .long), "all") (pd_Qm E false (some (pd_J ρ)) sh Fz 0 0) false 0 0 sh F 51 [pd_R x0, pd_I x1, pd_J x2, pd_N, pd_I x4] []) (F : pd_F) (x0 : Int) (x1 : Int) (x4 : Int) (t0 : Int) (t1 : Int) (hf : pfX12_all_b141 sh n c51 F x0 x1 x4 t0 t1 = some (ρ, Fz)) : pd_V E l (pd_rm 12 0 0) (RX12, cX12_all, 5, (some .long), "all") (pd_Qm E false (some (pd_J ρ)) sh Fz 0 0) false 0 0 sh F 141 [pd_R x0, pd_I x1, pd_N, pd_N, pd_I x4] [pd_J t0, pd_J t1] := by
  unfold pfX12_all_b141 at hf
  refine pd_ladd dX12_all_141 ?_
  refine pd_topJ (fun x2_142 ex2_142 => ?_)
  have hf := pd_lt hf ex2_142
  clear ex2_142
  refine pd_lstore_n (L' := [pd_R x0, pd_I x1, pd_J x2_142, pd_N, pd_I x4]) dX12_all_142 rfl (by decide) rfl ?_
  refine pd_iincN (L' := fun y => [pd_R x0, pd_I x1, pd_J x2_142, pd_N, pd_I y]) dX12_all_143 rfl (by decide) (by decide) (fun _ => rfl) (fun x4_143 ex4_143 => ?_)
  have hf := pd_lt hf ex4_143
  clear ex4_143
  refine pd_goto (tgt := 51) dX12_all_146 (by decide) ?_
  exact pd_weak (L' := [pd_R x0, pd_I x1, pd_J x2_142, pd_N, pd_I x4_143]) ⟨Or.inr rfl, Or.inr rfl, Or.inr rfl, Or.inr rfl, Or.inr rfl, trivial⟩ (hL51 _ _ _ _ _ hf)
set_option maxHeartbeats 4000000 in
set_option maxRecDepth 100000 in
theorem pkX12_all_b51 (E : pd_E) (l : Launch) {sh : pd_S} {n : Nat} {ρ : Int} {Fz : pd_F}  : ∀ (k : Nat) (F : pd_F) (x0 : Int) (x1 : Int) (x2 : Int) (x4 : Int), pfX12_all_b51 sh n  k F x0 x1 x2 x4 = some (ρ, Fz) → pd_V E l (pd_rm 12 0 0) (RX12, cX12_all, 5, (some .long), "all") (pd_Qm E false (some (pd_J ρ)) sh Fz 0 0) false 0 0 sh F 51 [pd_R x0, pd_I x1, pd_J x2, pd_N, pd_I x4] [] := by
  intro k
  induction k with
  | zero => intro F x0 x1 x2 x4 hf; exact absurd hf (by unfold pfX12_all_b51; exact fun h => nomatch h)
  | succ k ih =>
    intro F x0 x1 x2 x4 hf
    unfold pfX12_all_b51 at hf
    refine pd_iload (i := 4) dX12_all_51 rfl ?_
    refine pd_aload_n (i := 0) dX12_all_53 rfl rfl ?_
    obtain ⟨hg1, hf⟩ := pd_ig hf
    refine pd_get (x := pd_I (F x0 46)) 46 dX12_all_54 (show vwCl[12]? = some (RX12, TX12, 52) from rfl) pin_12 (by decide) pq_969 hg1 rfl ?_
    refine pd_icmp_ge (tgt := 149) dX12_all_57 (by decide) (fun hc => ?_) (fun hc => ?_)
    · have hf := pd_ip hf hc
      refine pd_lload_n (i := 2) dX12_all_149 rfl rfl ?_
      obtain ⟨h1, h2⟩ := pd_inj hf
      subst h1 h2
      exact pd_lret dX12_all_150 rfl (Nat.le_refl 0) (Nat.le_refl 0)
    · have hf := pd_in_ hf hc
      refine pd_lload_n (i := 2) dX12_all_60 rfl rfl ?_
      refine pd_iload_n (i := 1) dX12_all_61 rfl rfl ?_
      refine pd_if_ne (tgt := 75) dX12_all_62 (by decide) (fun hc => ?_) (fun hc => ?_)
      · have hf := pd_ip hf hc
        refine pd_iload_n (i := 1) dX12_all_75 rfl rfl ?_
        refine pd_iconst dX12_all_76 (by decide) ?_
        refine pd_icmp_ne (tgt := 89) dX12_all_77 (by decide) (fun hc => ?_) (fun hc => ?_)
        · have hf := pd_ip hf hc
          refine pd_iload_n (i := 1) dX12_all_89 rfl rfl ?_
          refine pd_iconst dX12_all_90 (by decide) ?_
          refine pd_icmp_ne (tgt := 111) dX12_all_91 (by decide) (fun hc => ?_) (fun hc => ?_)
          · have hf := pd_ip hf hc
            refine pd_iload_n (i := 1) dX12_all_111 rfl rfl ?_
            refine pd_iconst dX12_all_112 (by decide) ?_
            refine pd_icmp_ne (tgt := 125) dX12_all_113 (by decide) (fun hc => ?_) (fun hc => ?_)
            · have hf := pd_ip hf hc
              refine pd_aload_n (i := 0) dX12_all_125 rfl rfl ?_
              refine pd_iload (i := 4) dX12_all_126 rfl ?_
              obtain ⟨r3, F2, hr, hf⟩ := pd_ob2 hf
              refine pd_callV (pkX12_claim l hr) dX12_all_128 pq_976 pq_979 pq_980 (show vwCl[12]? = some (yX12_claim.cls, TX12, 52) from rfl) hg1 (pd_okm (by omega) (by decide) pq_977 pq_978 (by decide) (show (parseMethodDescriptor yX12_claim.desc).map (fun d => d.parameters.length) = some 1 from by decide +kernel)) (Nat.le_of_ble_eq_true rfl) rfl ?_
              refine pd_lconst (x := 0) dX12_all_131 (by decide) ?_
              refine pd_lcmp_le (tgt := 140) dX12_all_132 dX12_all_133 (by decide) (fun hc => ?_) (fun hc => ?_)
              · have hf := pd_ip hf hc
                refine pd_lconst (x := 0) dX12_all_140 (by decide) ?_
                exact pd_weak (L' := [pd_R x0, pd_I x1, pd_N, pd_N, pd_I x4]) ⟨Or.inr rfl, Or.inr rfl, Or.inl rfl, Or.inr rfl, Or.inr rfl, trivial⟩ (pkX12_all_b141 E l ih _ _ _ _ _ _ hf)
              · have hf := pd_in_ hf hc
                refine pd_lconst (x := 1) dX12_all_136 (by decide) ?_
                refine pd_goto (tgt := 141) dX12_all_137 (by decide) ?_
                exact pd_weak (L' := [pd_R x0, pd_I x1, pd_N, pd_N, pd_I x4]) ⟨Or.inr rfl, Or.inr rfl, Or.inl rfl, Or.inr rfl, Or.inr rfl, trivial⟩ (pkX12_all_b141 E l ih _ _ _ _ _ _ hf)
            · have hf := pd_iq hf hc
              refine pd_aload_n (i := 0) dX12_all_116 rfl rfl ?_
              refine pd_iload (i := 4) dX12_all_117 rfl ?_
              obtain ⟨r5, F4, hr, hf⟩ := pd_ob2 hf
              refine pd_callV (pkX12_claim l hr) dX12_all_119 pq_976 pq_979 pq_980 (show vwCl[12]? = some (yX12_claim.cls, TX12, 52) from rfl) hg1 (pd_okm (by omega) (by decide) pq_977 pq_978 (by decide) (show (parseMethodDescriptor yX12_claim.desc).map (fun d => d.parameters.length) = some 1 from by decide +kernel)) (Nat.le_of_ble_eq_true rfl) rfl ?_
              refine pd_goto (tgt := 141) dX12_all_122 (by decide) ?_
              exact pd_weak (L' := [pd_R x0, pd_I x1, pd_N, pd_N, pd_I x4]) ⟨Or.inr rfl, Or.inr rfl, Or.inl rfl, Or.inr rfl, Or.inr rfl, trivial⟩ (pkX12_all_b141 E l ih _ _ _ _ _ _ hf)
          · have hf := pd_iq hf hc
            refine pd_aload_n (i := 0) dX12_all_94 rfl rfl ?_
            refine pd_iload (i := 4) dX12_all_95 rfl ?_
            refine pd_aload_n (i := 0) dX12_all_97 rfl rfl ?_
            refine pd_get (x := pd_R (F x0 39)) 39 dX12_all_98 (show vwCl[12]? = some (RX12, TX12, 52) from rfl) pin_12 (by decide) pq_877 hg1 rfl ?_
            refine pd_bipush dX12_all_101 (by decide) ?_
            obtain ⟨hg6, hf⟩ := pd_ig hf
            refine pd_iald dX12_all_103 hg6 ?_
            refine pd_i2l dX12_all_104 ?_
            obtain ⟨r8, F7, hr, hf⟩ := pd_ob2 hf
            refine pd_callV (pkX12_paid l hr) dX12_all_105 pq_964 pq_967 pq_968 (show vwCl[12]? = some (yX12_paid.cls, TX12, 52) from rfl) hg1 (pd_okm (by omega) (by decide) pq_965 pq_966 (by decide) (show (parseMethodDescriptor yX12_paid.desc).map (fun d => d.parameters.length) = some 2 from by decide +kernel)) (Nat.le_of_ble_eq_true rfl) rfl ?_
            refine pd_goto (tgt := 141) dX12_all_108 (by decide) ?_
            exact pd_weak (L' := [pd_R x0, pd_I x1, pd_N, pd_N, pd_I x4]) ⟨Or.inr rfl, Or.inr rfl, Or.inl rfl, Or.inr rfl, Or.inr rfl, trivial⟩ (pkX12_all_b141 E l ih _ _ _ _ _ _ hf)
        · have hf := pd_iq hf hc
          refine pd_aload_n (i := 0) dX12_all_80 rfl rfl ?_
          refine pd_iload (i := 4) dX12_all_81 rfl ?_
          obtain ⟨r10, F9, hr, hf⟩ := pd_ob2 hf
          refine pd_callV (pkX12_setOff l hr) dX12_all_83 pq_904 pq_907 pq_908 (show vwCl[12]? = some (yX12_setOff.cls, TX12, 52) from rfl) hg1 (pd_okm (by omega) (by decide) pq_905 pq_906 (by decide) (show (parseMethodDescriptor yX12_setOff.desc).map (fun d => d.parameters.length) = some 1 from by decide +kernel)) (Nat.le_of_ble_eq_true rfl) rfl ?_
          refine pd_goto (tgt := 141) dX12_all_86 (by decide) ?_
          exact pd_weak (L' := [pd_R x0, pd_I x1, pd_N, pd_N, pd_I x4]) ⟨Or.inr rfl, Or.inr rfl, Or.inl rfl, Or.inr rfl, Or.inr rfl, trivial⟩ (pkX12_all_b141 E l ih _ _ _ _ _ _ hf)
      · have hf := pd_iq hf hc
        refine pd_aload_n (i := 0) dX12_all_65 rfl rfl ?_
        refine pd_get (x := pd_R (F x0 48)) 48 dX12_all_66 (show vwCl[12]? = some (RX12, TX12, 52) from rfl) pin_12 (by decide) pq_895 hg1 rfl ?_
        refine pd_iload (i := 4) dX12_all_69 rfl ?_
        obtain ⟨hg11, hf⟩ := pd_ig hf
        refine pd_lald dX12_all_71 hg11 ?_
        refine pd_goto (tgt := 141) dX12_all_72 (by decide) ?_
        exact pd_weak (L' := [pd_R x0, pd_I x1, pd_N, pd_N, pd_I x4]) ⟨Or.inr rfl, Or.inr rfl, Or.inl rfl, Or.inr rfl, Or.inr rfl, trivial⟩ (pkX12_all_b141 E l ih _ _ _ _ _ _ hf)
set_option maxHeartbeats 4000000 in
set_option maxRecDepth 100000 in
theorem pkX12_all (l : Launch) {sh : pd_S} {n : Nat} {F : pd_F} {x0 : Int} {x1 : Int} {ρ : Int} {Fz : pd_F} (hf : pfX12_all sh n F x0 x1 = some (ρ, Fz)) : pd_C l yX12_all (Cond.code yX12_all cX12_all 5 (some .long) :: pd_gt) (pd_rm 12 0 0) false 0 0 sh F [pd_R x0, pd_I x1] (some (pd_J ρ)) sh Fz := by
  unfold pfX12_all at hf
  refine pd_body (L := [pd_R x0, pd_I x1, pd_N, pd_N, pd_N]) (by decide +kernel) (Nat.le_of_ble_eq_true rfl) rfl (fun E => ?_)
  refine pd_aload_n (i := 0) dX12_all_0 rfl rfl ?_
  refine pd_iconst dX12_all_1 (by decide) ?_
  obtain ⟨hg12, hf⟩ := pd_ig hf
  refine pd_put (n := 0) (x := pd_I 0) 0 dX12_all_2 (show vwCl[12]? = some (RX12, TX12, 52) from rfl) pin_12 tyX12_ok nmX12 (by decide) pq_704 rfl hg12 rfl pd_nrI pd_ftI ?_
  refine pd_topF (fun F13 eF13 => ?_)
  have hf := pd_lt hf eF13
  clear eF13
  refine pd_iload_n (i := 1) dX12_all_5 rfl rfl ?_
  refine pd_i2l dX12_all_6 ?_
  refine pd_lconst (x := 0) dX12_all_7 (by decide) ?_
  refine pd_ldc2 (x := 6) dX12_all_8 pq_1051 (by decide +kernel) ?_
  obtain ⟨r15, F14, hr, hf⟩ := pd_ob2 hf
  refine pd_callS (pkX12_within l hr) dX12_all_11 pq_738 pq_741 (pd_okm (by omega) (by decide) pq_739 pq_740 (by decide) (show (parseMethodDescriptor yX12_within.desc).map (fun d => d.parameters.length) = some 3 from by decide +kernel)) (Nat.le_of_ble_eq_true rfl) rfl ?_
  refine pd_if_ne (tgt := 21) dX12_all_14 (by decide) (fun hc => ?_) (fun hc => ?_)
  · have hf := pd_ip hf hc
    refine pd_aload_n (i := 0) dX12_all_21 rfl rfl ?_
    obtain ⟨F16, hr, hf⟩ := pd_ob1 hf
    refine pd_callV (pkX12_laysViews l hr) dX12_all_22 pq_1045 pq_1048 pq_1049 (show vwCl[12]? = some (yX12_laysViews.cls, TX12, 52) from rfl) hg12 (pd_okm (by omega) (by decide) pq_1046 pq_1047 (by decide) (show (parseMethodDescriptor yX12_laysViews.desc).map (fun d => d.parameters.length) = some 0 from by decide +kernel)) (Nat.le_of_ble_eq_true rfl) rfl ?_
    refine pd_iload_n (i := 1) dX12_all_25 rfl rfl ?_
    refine pd_iconst dX12_all_26 (by decide) ?_
    refine pd_icmp_ne (tgt := 35) dX12_all_27 (by decide) (fun hc => ?_) (fun hc => ?_)
    · have hf := pd_ip hf hc
      refine pd_iload_n (i := 1) dX12_all_35 rfl rfl ?_
      refine pd_iconst dX12_all_36 (by decide) ?_
      refine pd_icmp_ne (tgt := 46) dX12_all_37 (by decide) (fun hc => ?_) (fun hc => ?_)
      · have hf := pd_ip hf hc
        refine pd_lconst (x := 0) dX12_all_46 (by decide) ?_
        refine pd_lstore_n (L' := [pd_R x0, pd_I x1, pd_J 0, pd_N, pd_N]) dX12_all_47 rfl (by decide) rfl ?_
        refine pd_iconst dX12_all_48 (by decide) ?_
        refine pd_istore (L' := [pd_R x0, pd_I x1, pd_J 0, pd_N, pd_I 0]) dX12_all_49 (by decide) rfl ?_
        exact pd_weak (L' := [pd_R x0, pd_I x1, pd_J 0, pd_N, pd_I 0]) ⟨Or.inr rfl, Or.inr rfl, Or.inr rfl, Or.inr rfl, Or.inr rfl, trivial⟩ (pkX12_all_b51 E l n _ _ _ _ _ hf)
      · have hf := pd_iq hf hc
        refine pd_aload_n (i := 0) dX12_all_40 rfl rfl ?_
        refine pd_get (x := pd_I (F16 x0 46)) 46 dX12_all_41 (show vwCl[12]? = some (RX12, TX12, 52) from rfl) pin_12 (by decide) pq_969 hg12 rfl ?_
        refine pd_i2l dX12_all_44 ?_
        obtain ⟨h1, h2⟩ := pd_inj hf
        subst h1 h2
        exact pd_lret dX12_all_45 rfl (Nat.le_refl 0) (Nat.le_refl 0)
    · have hf := pd_iq hf hc
      refine pd_aload_n (i := 0) dX12_all_30 rfl rfl ?_
      obtain ⟨r18, F17, hr, hf⟩ := pd_ob2 hf
      refine pd_callV (pkX12_frozen l hr) dX12_all_31 pq_1052 pq_1055 pq_1056 (show vwCl[12]? = some (yX12_frozen.cls, TX12, 52) from rfl) hg12 (pd_okm (by omega) (by decide) pq_1053 pq_1054 (by decide) (show (parseMethodDescriptor yX12_frozen.desc).map (fun d => d.parameters.length) = some 0 from by decide +kernel)) (Nat.le_of_ble_eq_true rfl) rfl ?_
      obtain ⟨h1, h2⟩ := pd_inj hf
      subst h1 h2
      exact pd_lret dX12_all_34 rfl (Nat.le_refl 0) (Nat.le_refl 0)
  · have hf := pd_iq hf hc
    refine pd_ldc2 (x := (-1)) dX12_all_17 pq_1050 (by decide +kernel) ?_
    obtain ⟨h1, h2⟩ := pd_inj hf
    subst h1 h2
    exact pd_lret dX12_all_20 rfl (Nat.le_refl 0) (Nat.le_refl 0)
set_option maxHeartbeats 4000000 in
set_option maxRecDepth 100000 in
theorem pkX12_ranked_b11 (E : pd_E) (l : Launch) {sh : pd_S} {n : Nat} {ρ : Int} {Fz : pd_F}  : ∀ (k : Nat) (F : pd_F) (x0 : Int) (x1 : Int) (x2 : Int), pfX12_ranked_b11 sh n  k F x0 x1 x2 = some (ρ, Fz) → pd_V E l (pd_rm 12 0 0) (RX12, cX12_ranked, 3, (some .int), "ranked") (pd_Qm E false (some (pd_I ρ)) sh Fz 0 0) false 0 0 sh F 11 [pd_R x0, pd_I x1, pd_I x2] [] := by
  intro k
  induction k with
  | zero => intro F x0 x1 x2 hf; exact absurd hf (by unfold pfX12_ranked_b11; exact fun h => nomatch h)
  | succ k ih =>
    intro F x0 x1 x2 hf
    unfold pfX12_ranked_b11 at hf
    refine pd_iload_n (i := 2) dX12_ranked_11 rfl rfl ?_
    refine pd_aload_n (i := 0) dX12_ranked_12 rfl rfl ?_
    obtain ⟨hg1, hf⟩ := pd_ig hf
    refine pd_get (x := pd_I (F x0 46)) 46 dX12_ranked_13 (show vwCl[12]? = some (RX12, TX12, 52) from rfl) pin_12 (by decide) pq_969 hg1 rfl ?_
    refine pd_icmp_ge (tgt := 36) dX12_ranked_16 (by decide) (fun hc => ?_) (fun hc => ?_)
    · have hf := pd_ip hf hc
      refine pd_iconst dX12_ranked_36 (by decide) ?_
      obtain ⟨h1, h2⟩ := pd_inj hf
      subst h1 h2
      exact pd_iret dX12_ranked_37 rfl (Nat.le_refl 0) (Nat.le_refl 0)
    · have hf := pd_in_ hf hc
      refine pd_aload_n (i := 0) dX12_ranked_19 rfl rfl ?_
      refine pd_iload_n (i := 2) dX12_ranked_20 rfl rfl ?_
      obtain ⟨r3, F2, hr, hf⟩ := pd_ob2 hf
      refine pd_callV (pkX12_placeOf l hr) dX12_ranked_21 pq_1057 pq_1060 pq_1061 (show vwCl[12]? = some (yX12_placeOf.cls, TX12, 52) from rfl) hg1 (pd_okm (by omega) (by decide) pq_1058 pq_1059 (by decide) (show (parseMethodDescriptor yX12_placeOf.desc).map (fun d => d.parameters.length) = some 1 from by decide +kernel)) (Nat.le_of_ble_eq_true rfl) rfl ?_
      refine pd_iload_n (i := 1) dX12_ranked_24 rfl rfl ?_
      refine pd_icmp_ne (tgt := 30) dX12_ranked_25 (by decide) (fun hc => ?_) (fun hc => ?_)
      · have hf := pd_ip hf hc
        refine pd_iincN (L' := fun y => [pd_R x0, pd_I x1, pd_I y]) dX12_ranked_30 rfl (by decide) (by decide) (fun _ => rfl) (fun x2_30 ex2_30 => ?_)
        have hf := pd_lt hf ex2_30
        clear ex2_30
        refine pd_goto (tgt := 11) dX12_ranked_33 (by decide) ?_
        exact pd_weak (L' := [pd_R x0, pd_I x1, pd_I x2_30]) ⟨Or.inr rfl, Or.inr rfl, Or.inr rfl, trivial⟩ (ih _ _ _ _ hf)
      · have hf := pd_iq hf hc
        refine pd_iload_n (i := 2) dX12_ranked_28 rfl rfl ?_
        obtain ⟨h1, h2⟩ := pd_inj hf
        subst h1 h2
        exact pd_iret dX12_ranked_29 rfl (Nat.le_refl 0) (Nat.le_refl 0)
set_option maxHeartbeats 4000000 in
set_option maxRecDepth 100000 in
theorem pkX12_ranked (l : Launch) {sh : pd_S} {n : Nat} {F : pd_F} {x0 : Int} {x1 : Int} {ρ : Int} {Fz : pd_F} (hf : pfX12_ranked sh n F x0 x1 = some (ρ, Fz)) : pd_C l yX12_ranked (Cond.code yX12_ranked cX12_ranked 3 (some .int) :: pd_gt) (pd_rm 12 0 0) false 0 0 sh F [pd_R x0, pd_I x1] (some (pd_I ρ)) sh Fz := by
  unfold pfX12_ranked at hf
  refine pd_body (L := [pd_R x0, pd_I x1, pd_N]) (by decide +kernel) (Nat.le_of_ble_eq_true rfl) rfl (fun E => ?_)
  refine pd_aload_n (i := 0) dX12_ranked_0 rfl rfl ?_
  refine pd_iconst dX12_ranked_1 (by decide) ?_
  obtain ⟨hg4, hf⟩ := pd_ig hf
  refine pd_put (n := 0) (x := pd_I 0) 0 dX12_ranked_2 (show vwCl[12]? = some (RX12, TX12, 52) from rfl) pin_12 tyX12_ok nmX12 (by decide) pq_704 rfl hg4 rfl pd_nrI pd_ftI ?_
  refine pd_topF (fun F5 eF5 => ?_)
  have hf := pd_lt hf eF5
  clear eF5
  refine pd_aload_n (i := 0) dX12_ranked_5 rfl rfl ?_
  obtain ⟨F6, hr, hf⟩ := pd_ob1 hf
  refine pd_callV (pkX12_laysViews l hr) dX12_ranked_6 pq_1045 pq_1048 pq_1049 (show vwCl[12]? = some (yX12_laysViews.cls, TX12, 52) from rfl) hg4 (pd_okm (by omega) (by decide) pq_1046 pq_1047 (by decide) (show (parseMethodDescriptor yX12_laysViews.desc).map (fun d => d.parameters.length) = some 0 from by decide +kernel)) (Nat.le_of_ble_eq_true rfl) rfl ?_
  refine pd_iconst dX12_ranked_9 (by decide) ?_
  refine pd_istore_n (L' := [pd_R x0, pd_I x1, pd_I 0]) dX12_ranked_10 rfl (by decide) rfl ?_
  exact pd_weak (L' := [pd_R x0, pd_I x1, pd_I 0]) ⟨Or.inr rfl, Or.inr rfl, Or.inr rfl, trivial⟩ (pkX12_ranked_b11 E l n _ _ _ _ hf)
set_option maxHeartbeats 4000000 in
set_option maxRecDepth 100000 in
theorem pkX12_estate (l : Launch) {sh : pd_S} {n : Nat} {F : pd_F} {x0 : Int} {x1 : Int} {x2 : Int} {ρ : Int} {Fz : pd_F} (hf : pfX12_estate sh n F x0 x1 x2 = some (ρ, Fz)) : pd_C l yX12_estate (Cond.code yX12_estate cX12_estate 3 (some .long) :: pd_gt) (pd_rm 12 0 0) false 0 0 sh F [pd_R x0, pd_I x1, pd_I x2] (some (pd_J ρ)) sh Fz := by
  unfold pfX12_estate at hf
  refine pd_body (L := [pd_R x0, pd_I x1, pd_I x2]) (by decide +kernel) (Nat.le_of_ble_eq_true rfl) rfl (fun E => ?_)
  refine pd_aload_n (i := 0) dX12_estate_0 rfl rfl ?_
  refine pd_iconst dX12_estate_1 (by decide) ?_
  obtain ⟨hg1, hf⟩ := pd_ig hf
  refine pd_put (n := 0) (x := pd_I 0) 0 dX12_estate_2 (show vwCl[12]? = some (RX12, TX12, 52) from rfl) pin_12 tyX12_ok nmX12 (by decide) pq_704 rfl hg1 rfl pd_nrI pd_ftI ?_
  refine pd_topF (fun F2 eF2 => ?_)
  have hf := pd_lt hf eF2
  clear eF2
  refine pd_aload_n (i := 0) dX12_estate_5 rfl rfl ?_
  obtain ⟨F3, hr, hf⟩ := pd_ob1 hf
  refine pd_callV (pkX12_laysViews l hr) dX12_estate_6 pq_1045 pq_1048 pq_1049 (show vwCl[12]? = some (yX12_laysViews.cls, TX12, 52) from rfl) hg1 (pd_okm (by omega) (by decide) pq_1046 pq_1047 (by decide) (show (parseMethodDescriptor yX12_laysViews.desc).map (fun d => d.parameters.length) = some 0 from by decide +kernel)) (Nat.le_of_ble_eq_true rfl) rfl ?_
  refine pd_iload_n (i := 1) dX12_estate_9 rfl rfl ?_
  refine pd_i2l dX12_estate_10 ?_
  refine pd_lconst (x := 0) dX12_estate_11 (by decide) ?_
  refine pd_ldc2 (x := 99999999) dX12_estate_12 pq_1062 (by decide +kernel) ?_
  obtain ⟨r5, F4, hr, hf⟩ := pd_ob2 hf
  refine pd_callS (pkX12_within l hr) dX12_estate_15 pq_738 pq_741 (pd_okm (by omega) (by decide) pq_739 pq_740 (by decide) (show (parseMethodDescriptor yX12_within.desc).map (fun d => d.parameters.length) = some 3 from by decide +kernel)) (Nat.le_of_ble_eq_true rfl) rfl ?_
  refine pd_if_eq (tgt := 39) dX12_estate_18 (by decide) (fun hc => ?_) (fun hc => ?_)
  · have hf := pd_ip hf hc
    refine pd_ldc2 (x := (-2)) dX12_estate_39 pq_1063 (by decide +kernel) ?_
    obtain ⟨h1, h2⟩ := pd_inj hf
    subst h1 h2
    exact pd_lret dX12_estate_42 rfl (Nat.le_refl 0) (Nat.le_refl 0)
  · have hf := pd_in_ hf hc
    refine pd_iload_n (i := 2) dX12_estate_21 rfl rfl ?_
    refine pd_i2l dX12_estate_22 ?_
    refine pd_ldc2 (x := (-1)) dX12_estate_23 pq_1050 (by decide +kernel) ?_
    refine pd_aload_n (i := 0) dX12_estate_26 rfl rfl ?_
    refine pd_get (x := pd_I (F4 x0 46)) 46 dX12_estate_27 (show vwCl[12]? = some (RX12, TX12, 52) from rfl) pin_12 (by decide) pq_969 hg1 rfl ?_
    refine pd_iconst dX12_estate_30 (by decide) ?_
    refine pd_isub dX12_estate_31 ?_
    refine pd_i2l dX12_estate_32 ?_
    obtain ⟨r7, F6, hr, hf⟩ := pd_ob2 hf
    refine pd_callS (pkX12_within l hr) dX12_estate_33 pq_738 pq_741 (pd_okm (by omega) (by decide) pq_739 pq_740 (by decide) (show (parseMethodDescriptor yX12_within.desc).map (fun d => d.parameters.length) = some 3 from by decide +kernel)) (Nat.le_of_ble_eq_true rfl) rfl ?_
    refine pd_if_ne (tgt := 43) dX12_estate_36 (by decide) (fun hc => ?_) (fun hc => ?_)
    · have hf := pd_ip hf hc
      refine pd_iload_n (i := 2) dX12_estate_43 rfl rfl ?_
      refine pd_iconst dX12_estate_44 (by decide) ?_
      refine pd_icmp_ne (tgt := 70) dX12_estate_45 (by decide) (fun hc => ?_) (fun hc => ?_)
      · have hf := pd_ip hf hc
        refine pd_aload_n (i := 0) dX12_estate_70 rfl rfl ?_
        refine pd_iload_n (i := 1) dX12_estate_71 rfl rfl ?_
        refine pd_i2l dX12_estate_72 ?_
        refine pd_iload_n (i := 2) dX12_estate_73 rfl rfl ?_
        obtain ⟨r9, F8, hr, hf⟩ := pd_ob2 hf
        refine pd_callV (pkX12_estateOf l hr) dX12_estate_74 pq_1064 pq_1067 pq_1068 (show vwCl[12]? = some (yX12_estateOf.cls, TX12, 52) from rfl) hg1 (pd_okm (by omega) (by decide) pq_1065 pq_1066 (by decide) (show (parseMethodDescriptor yX12_estateOf.desc).map (fun d => d.parameters.length) = some 2 from by decide +kernel)) (Nat.le_of_ble_eq_true rfl) rfl ?_
        obtain ⟨h1, h2⟩ := pd_inj hf
        subst h1 h2
        exact pd_lret dX12_estate_77 rfl (Nat.le_refl 0) (Nat.le_refl 0)
      · have hf := pd_iq hf hc
        refine pd_iload_n (i := 1) dX12_estate_48 rfl rfl ?_
        refine pd_i2l dX12_estate_49 ?_
        refine pd_aload_n (i := 0) dX12_estate_50 rfl rfl ?_
        refine pd_iconst dX12_estate_51 (by decide) ?_
        obtain ⟨r11, F10, hr, hf⟩ := pd_ob2 hf
        refine pd_callV (pkX12_rank l hr) dX12_estate_52 pq_996 pq_999 pq_1000 (show vwCl[12]? = some (yX12_rank.cls, TX12, 52) from rfl) hg1 (pd_okm (by omega) (by decide) pq_997 pq_998 (by decide) (show (parseMethodDescriptor yX12_rank.desc).map (fun d => d.parameters.length) = some 1 from by decide +kernel)) (Nat.le_of_ble_eq_true rfl) rfl ?_
        refine pd_lcmp_ge (tgt := 64) dX12_estate_55 dX12_estate_56 (by decide) (fun hc => ?_) (fun hc => ?_)
        · have hf := pd_ip hf hc
          refine pd_aload_n (i := 0) dX12_estate_64 rfl rfl ?_
          refine pd_iconst dX12_estate_65 (by decide) ?_
          obtain ⟨r13, F12, hr, hf⟩ := pd_ob2 hf
          refine pd_callV (pkX12_rank l hr) dX12_estate_66 pq_996 pq_999 pq_1000 (show vwCl[12]? = some (yX12_rank.cls, TX12, 52) from rfl) hg1 (pd_okm (by omega) (by decide) pq_997 pq_998 (by decide) (show (parseMethodDescriptor yX12_rank.desc).map (fun d => d.parameters.length) = some 1 from by decide +kernel)) (Nat.le_of_ble_eq_true rfl) rfl ?_
          obtain ⟨h1, h2⟩ := pd_inj hf
          subst h1 h2
          exact pd_lret dX12_estate_69 rfl (Nat.le_refl 0) (Nat.le_refl 0)
        · have hf := pd_in_ hf hc
          refine pd_iload_n (i := 1) dX12_estate_59 rfl rfl ?_
          refine pd_i2l dX12_estate_60 ?_
          refine pd_goto (tgt := 69) dX12_estate_61 (by decide) ?_
          obtain ⟨h1, h2⟩ := pd_inj hf
          subst h1 h2
          exact pd_lret dX12_estate_69 rfl (Nat.le_refl 0) (Nat.le_refl 0)
    · have hf := pd_iq hf hc
      refine pd_ldc2 (x := (-2)) dX12_estate_39 pq_1063 (by decide +kernel) ?_
      obtain ⟨h1, h2⟩ := pd_inj hf
      subst h1 h2
      exact pd_lret dX12_estate_42 rfl (Nat.le_refl 0) (Nat.le_refl 0)
set_option maxHeartbeats 4000000 in
set_option maxRecDepth 100000 in
theorem pkX12_enough_b30 (E : pd_E) (l : Launch) {sh : pd_S} {n : Nat} {ρ : Int} {Fz : pd_F}  : ∀ (k : Nat) (F : pd_F) (x0 : Int) (x1 : Int) (x2 : Int) (x4 : Int), pfX12_enough_b30 sh n  k F x0 x1 x2 x4 = some (ρ, Fz) → pd_V E l (pd_rm 12 0 0) (RX12, cX12_enough, 5, (some .long), "enough") (pd_Qm E false (some (pd_J ρ)) sh Fz 0 0) false 0 0 sh F 30 [pd_R x0, pd_I x1, pd_J x2, pd_N, pd_I x4] [] := by
  intro k
  induction k with
  | zero => intro F x0 x1 x2 x4 hf; exact absurd hf (by unfold pfX12_enough_b30; exact fun h => nomatch h)
  | succ k ih =>
    intro F x0 x1 x2 x4 hf
    unfold pfX12_enough_b30 at hf
    refine pd_iload (i := 4) dX12_enough_30 rfl ?_
    refine pd_iload_n (i := 1) dX12_enough_32 rfl rfl ?_
    refine pd_icmp_gt (tgt := 61) dX12_enough_33 (by decide) (fun hc => ?_) (fun hc => ?_)
    · have hf := pd_ip hf hc
      refine pd_lload_n (i := 2) dX12_enough_61 rfl rfl ?_
      obtain ⟨h1, h2⟩ := pd_inj hf
      subst h1 h2
      exact pd_lret dX12_enough_62 rfl (Nat.le_refl 0) (Nat.le_refl 0)
    · have hf := pd_in_ hf hc
      refine pd_aload_n (i := 0) dX12_enough_36 rfl rfl ?_
      refine pd_iload_n (i := 1) dX12_enough_37 rfl rfl ?_
      obtain ⟨hg3, hf⟩ := pd_ig hf
      obtain ⟨r2, F1, hr, hf⟩ := pd_ob2 hf
      refine pd_callV (pkX12_rank l hr) dX12_enough_38 pq_996 pq_999 pq_1000 (show vwCl[12]? = some (yX12_rank.cls, TX12, 52) from rfl) hg3 (pd_okm (by omega) (by decide) pq_997 pq_998 (by decide) (show (parseMethodDescriptor yX12_rank.desc).map (fun d => d.parameters.length) = some 1 from by decide +kernel)) (Nat.le_of_ble_eq_true rfl) rfl ?_
      refine pd_lconst (x := 0) dX12_enough_41 (by decide) ?_
      refine pd_lcmp_le (tgt := 61) dX12_enough_42 dX12_enough_43 (by decide) (fun hc => ?_) (fun hc => ?_)
      · have hf := pd_ip hf hc
        refine pd_lload_n (i := 2) dX12_enough_61 rfl rfl ?_
        obtain ⟨h1, h2⟩ := pd_inj hf
        subst h1 h2
        exact pd_lret dX12_enough_62 rfl (Nat.le_refl 0) (Nat.le_refl 0)
      · have hf := pd_in_ hf hc
        refine pd_lload_n (i := 2) dX12_enough_46 rfl rfl ?_
        refine pd_aload_n (i := 0) dX12_enough_47 rfl rfl ?_
        refine pd_iload (i := 4) dX12_enough_48 rfl ?_
        obtain ⟨r5, F4, hr, hf⟩ := pd_ob2 hf
        refine pd_callV (pkX12_rank l hr) dX12_enough_50 pq_996 pq_999 pq_1000 (show vwCl[12]? = some (yX12_rank.cls, TX12, 52) from rfl) hg3 (pd_okm (by omega) (by decide) pq_997 pq_998 (by decide) (show (parseMethodDescriptor yX12_rank.desc).map (fun d => d.parameters.length) = some 1 from by decide +kernel)) (Nat.le_of_ble_eq_true rfl) rfl ?_
        refine pd_ladd dX12_enough_53 ?_
        refine pd_topJ (fun x2_54 ex2_54 => ?_)
        have hf := pd_lt hf ex2_54
        clear ex2_54
        refine pd_lstore_n (L' := [pd_R x0, pd_I x1, pd_J x2_54, pd_N, pd_I x4]) dX12_enough_54 rfl (by decide) rfl ?_
        refine pd_iincN (L' := fun y => [pd_R x0, pd_I x1, pd_J x2_54, pd_N, pd_I y]) dX12_enough_55 rfl (by decide) (by decide) (fun _ => rfl) (fun x4_55 ex4_55 => ?_)
        have hf := pd_lt hf ex4_55
        clear ex4_55
        refine pd_goto (tgt := 30) dX12_enough_58 (by decide) ?_
        exact pd_weak (L' := [pd_R x0, pd_I x1, pd_J x2_54, pd_N, pd_I x4_55]) ⟨Or.inr rfl, Or.inr rfl, Or.inr rfl, Or.inr rfl, Or.inr rfl, trivial⟩ (ih _ _ _ _ _ hf)
set_option maxHeartbeats 4000000 in
set_option maxRecDepth 100000 in
theorem pkX12_enough (l : Launch) {sh : pd_S} {n : Nat} {F : pd_F} {x0 : Int} {x1 : Int} {ρ : Int} {Fz : pd_F} (hf : pfX12_enough sh n F x0 x1 = some (ρ, Fz)) : pd_C l yX12_enough (Cond.code yX12_enough cX12_enough 5 (some .long) :: pd_gt) (pd_rm 12 0 0) false 0 0 sh F [pd_R x0, pd_I x1] (some (pd_J ρ)) sh Fz := by
  unfold pfX12_enough at hf
  refine pd_body (L := [pd_R x0, pd_I x1, pd_N, pd_N, pd_N]) (by decide +kernel) (Nat.le_of_ble_eq_true rfl) rfl (fun E => ?_)
  refine pd_aload_n (i := 0) dX12_enough_0 rfl rfl ?_
  refine pd_iconst dX12_enough_1 (by decide) ?_
  obtain ⟨hg6, hf⟩ := pd_ig hf
  refine pd_put (n := 0) (x := pd_I 0) 0 dX12_enough_2 (show vwCl[12]? = some (RX12, TX12, 52) from rfl) pin_12 tyX12_ok nmX12 (by decide) pq_704 rfl hg6 rfl pd_nrI pd_ftI ?_
  refine pd_topF (fun F7 eF7 => ?_)
  have hf := pd_lt hf eF7
  clear eF7
  refine pd_iload_n (i := 1) dX12_enough_5 rfl rfl ?_
  refine pd_i2l dX12_enough_6 ?_
  refine pd_lconst (x := 0) dX12_enough_7 (by decide) ?_
  refine pd_ldc2 (x := 2) dX12_enough_8 pq_914 (by decide +kernel) ?_
  obtain ⟨r9, F8, hr, hf⟩ := pd_ob2 hf
  refine pd_callS (pkX12_within l hr) dX12_enough_11 pq_738 pq_741 (pd_okm (by omega) (by decide) pq_739 pq_740 (by decide) (show (parseMethodDescriptor yX12_within.desc).map (fun d => d.parameters.length) = some 3 from by decide +kernel)) (Nat.le_of_ble_eq_true rfl) rfl ?_
  refine pd_if_ne (tgt := 21) dX12_enough_14 (by decide) (fun hc => ?_) (fun hc => ?_)
  · have hf := pd_ip hf hc
    refine pd_aload_n (i := 0) dX12_enough_21 rfl rfl ?_
    obtain ⟨F10, hr, hf⟩ := pd_ob1 hf
    refine pd_callV (pkX12_laysViews l hr) dX12_enough_22 pq_1045 pq_1048 pq_1049 (show vwCl[12]? = some (yX12_laysViews.cls, TX12, 52) from rfl) hg6 (pd_okm (by omega) (by decide) pq_1046 pq_1047 (by decide) (show (parseMethodDescriptor yX12_laysViews.desc).map (fun d => d.parameters.length) = some 0 from by decide +kernel)) (Nat.le_of_ble_eq_true rfl) rfl ?_
    refine pd_lconst (x := 0) dX12_enough_25 (by decide) ?_
    refine pd_lstore_n (L' := [pd_R x0, pd_I x1, pd_J 0, pd_N, pd_N]) dX12_enough_26 rfl (by decide) rfl ?_
    refine pd_iconst dX12_enough_27 (by decide) ?_
    refine pd_istore (L' := [pd_R x0, pd_I x1, pd_J 0, pd_N, pd_I 0]) dX12_enough_28 (by decide) rfl ?_
    exact pd_weak (L' := [pd_R x0, pd_I x1, pd_J 0, pd_N, pd_I 0]) ⟨Or.inr rfl, Or.inr rfl, Or.inr rfl, Or.inr rfl, Or.inr rfl, trivial⟩ (pkX12_enough_b30 E l n _ _ _ _ _ hf)
  · have hf := pd_iq hf hc
    refine pd_ldc2 (x := (-1)) dX12_enough_17 pq_1050 (by decide +kernel) ?_
    obtain ⟨h1, h2⟩ := pd_inj hf
    subst h1 h2
    exact pd_lret dX12_enough_20 rfl (Nat.le_refl 0) (Nat.le_refl 0)
set_option maxHeartbeats 4000000 in
set_option maxRecDepth 100000 in
theorem pkX12_coverFor_b110 (E : pd_E) (l : Launch) {sh : pd_S} {n : Nat} {ρ : Int} {Fz : pd_F} {c60 : pd_F → Int → Int → Int → Int → Int → Option (Int × pd_F)} (hL60 : ∀ (F : pd_F) (x0 : Int) (x1 : Int) (x2 : Int) (x4 : Int) (x6 : Int), c60 F x0 x1 x2 x4 x6 = some (ρ, Fz) → pd_V E l (pd_rm 12 0 0) (RX12, cX12_coverFor, 10, (some .long), "coverFor") (pd_Qm E false (some (pd_J ρ)) sh Fz 0 0) false 0 0 sh F 60 [pd_R x0, pd_I x1, pd_J x2, pd_N, pd_J x4, pd_N, pd_J x6, pd_N, pd_N, pd_N] []) (F : pd_F) (x0 : Int) (x1 : Int) (x2 : Int) (x4 : Int) (x6 : Int) (hf : pfX12_coverFor_b110 sh n c60 F x0 x1 x2 x4 x6 = some (ρ, Fz)) : pd_V E l (pd_rm 12 0 0) (RX12, cX12_coverFor, 10, (some .long), "coverFor") (pd_Qm E false (some (pd_J ρ)) sh Fz 0 0) false 0 0 sh F 110 [pd_R x0, pd_I x1, pd_J x2, pd_N, pd_J x4, pd_N, pd_J x6, pd_N, pd_N, pd_N] [] := by
  unfold pfX12_coverFor_b110 at hf
  refine pd_goto (tgt := 60) dX12_coverFor_110 (by decide) ?_
  exact pd_weak (L' := [pd_R x0, pd_I x1, pd_J x2, pd_N, pd_J x4, pd_N, pd_J x6, pd_N, pd_N, pd_N]) ⟨Or.inr rfl, Or.inr rfl, Or.inr rfl, Or.inr rfl, Or.inr rfl, Or.inr rfl, Or.inr rfl, Or.inr rfl, Or.inr rfl, Or.inr rfl, trivial⟩ (hL60 _ _ _ _ _ _ hf)
set_option maxHeartbeats 4000000 in
set_option maxRecDepth 100000 in
theorem pkX12_coverFor_b60 (E : pd_E) (l : Launch) {sh : pd_S} {n : Nat} {ρ : Int} {Fz : pd_F}  : ∀ (k : Nat) (F : pd_F) (x0 : Int) (x1 : Int) (x2 : Int) (x4 : Int) (x6 : Int), pfX12_coverFor_b60 sh n  k F x0 x1 x2 x4 x6 = some (ρ, Fz) → pd_V E l (pd_rm 12 0 0) (RX12, cX12_coverFor, 10, (some .long), "coverFor") (pd_Qm E false (some (pd_J ρ)) sh Fz 0 0) false 0 0 sh F 60 [pd_R x0, pd_I x1, pd_J x2, pd_N, pd_J x4, pd_N, pd_J x6, pd_N, pd_N, pd_N] [] := by
  intro k
  induction k with
  | zero => intro F x0 x1 x2 x4 x6 hf; exact absurd hf (by unfold pfX12_coverFor_b60; exact fun h => nomatch h)
  | succ k ih =>
    intro F x0 x1 x2 x4 x6 hf
    unfold pfX12_coverFor_b60 at hf
    refine pd_lload (i := 4) dX12_coverFor_60 rfl ?_
    refine pd_lload (i := 6) dX12_coverFor_62 rfl ?_
    refine pd_lcmp_ge (tgt := 113) dX12_coverFor_64 dX12_coverFor_65 (by decide) (fun hc => ?_) (fun hc => ?_)
    · have hf := pd_ip hf hc
      refine pd_lload (i := 4) dX12_coverFor_113 rfl ?_
      obtain ⟨h1, h2⟩ := pd_inj hf
      subst h1 h2
      exact pd_lret dX12_coverFor_115 rfl (Nat.le_refl 0) (Nat.le_refl 0)
    · have hf := pd_in_ hf hc
      refine pd_lload (i := 4) dX12_coverFor_68 rfl ?_
      refine pd_lload (i := 6) dX12_coverFor_70 rfl ?_
      refine pd_ladd dX12_coverFor_72 ?_
      refine pd_ldc2 (x := 2) dX12_coverFor_73 pq_914 (by decide +kernel) ?_
      refine pd_ldiv dX12_coverFor_76 (by decide) ?_
      refine pd_topJ (fun x8_77 ex8_77 => ?_)
      have hf := pd_lt hf ex8_77
      clear ex8_77
      refine pd_lstore (L' := [pd_R x0, pd_I x1, pd_J x2, pd_N, pd_J x4, pd_N, pd_J x6, pd_N, pd_J x8_77, pd_N]) dX12_coverFor_77 (by decide) rfl ?_
      refine pd_aload_n (i := 0) dX12_coverFor_79 rfl rfl ?_
      refine pd_lload (i := 8) dX12_coverFor_80 rfl ?_
      obtain ⟨hg3, hf⟩ := pd_ig hf
      obtain ⟨r2, F1, hr, hf⟩ := pd_ob2 hf
      refine pd_callV (pkX12_paidAll l hr) dX12_coverFor_82 pq_982 pq_985 pq_986 (show vwCl[12]? = some (yX12_paidAll.cls, TX12, 52) from rfl) hg3 (pd_okm (by omega) (by decide) pq_983 pq_984 (by decide) (show (parseMethodDescriptor yX12_paidAll.desc).map (fun d => d.parameters.length) = some 1 from by decide +kernel)) (Nat.le_of_ble_eq_true rfl) rfl ?_
      refine pd_ldc2 (x := 100) dX12_coverFor_85 pq_1069 (by decide +kernel) ?_
      refine pd_lmul dX12_coverFor_88 ?_
      refine pd_lload_n (i := 2) dX12_coverFor_89 rfl rfl ?_
      refine pd_iload_n (i := 1) dX12_coverFor_90 rfl rfl ?_
      refine pd_i2l dX12_coverFor_91 ?_
      refine pd_lmul dX12_coverFor_92 ?_
      refine pd_lcmp_lt (tgt := 104) dX12_coverFor_93 dX12_coverFor_94 (by decide) (fun hc => ?_) (fun hc => ?_)
      · have hf := pd_ip hf hc
        refine pd_lload (i := 8) dX12_coverFor_104 rfl ?_
        refine pd_lconst (x := 1) dX12_coverFor_106 (by decide) ?_
        refine pd_ladd dX12_coverFor_107 ?_
        refine pd_topJ (fun x4_108 ex4_108 => ?_)
        have hf := pd_lt hf ex4_108
        clear ex4_108
        refine pd_lstore (L' := [pd_R x0, pd_I x1, pd_J x2, pd_N, pd_J x4_108, pd_N, pd_J x6, pd_N, pd_J x8_77, pd_N]) dX12_coverFor_108 (by decide) rfl ?_
        exact pd_weak (L' := [pd_R x0, pd_I x1, pd_J x2, pd_N, pd_J x4_108, pd_N, pd_J x6, pd_N, pd_N, pd_N]) ⟨Or.inr rfl, Or.inr rfl, Or.inr rfl, Or.inr rfl, Or.inr rfl, Or.inr rfl, Or.inr rfl, Or.inr rfl, Or.inl rfl, Or.inr rfl, trivial⟩ (pkX12_coverFor_b110 E l ih _ _ _ _ _ _ hf)
      · have hf := pd_in_ hf hc
        refine pd_lload (i := 8) dX12_coverFor_97 rfl ?_
        refine pd_lstore (L' := [pd_R x0, pd_I x1, pd_J x2, pd_N, pd_J x4, pd_N, pd_J x8_77, pd_N, pd_J x8_77, pd_N]) dX12_coverFor_99 (by decide) rfl ?_
        refine pd_goto (tgt := 110) dX12_coverFor_101 (by decide) ?_
        exact pd_weak (L' := [pd_R x0, pd_I x1, pd_J x2, pd_N, pd_J x4, pd_N, pd_J x8_77, pd_N, pd_N, pd_N]) ⟨Or.inr rfl, Or.inr rfl, Or.inr rfl, Or.inr rfl, Or.inr rfl, Or.inr rfl, Or.inr rfl, Or.inr rfl, Or.inl rfl, Or.inr rfl, trivial⟩ (pkX12_coverFor_b110 E l ih _ _ _ _ _ _ hf)
set_option maxHeartbeats 4000000 in
set_option maxRecDepth 100000 in
theorem pkX12_coverFor_b54 (E : pd_E) (l : Launch) {sh : pd_S} {n : Nat} {ρ : Int} {Fz : pd_F}  (F : pd_F) (x0 : Int) (x1 : Int) (x2 : Int) (hf : pfX12_coverFor_b54 sh n  F x0 x1 x2 = some (ρ, Fz)) : pd_V E l (pd_rm 12 0 0) (RX12, cX12_coverFor, 10, (some .long), "coverFor") (pd_Qm E false (some (pd_J ρ)) sh Fz 0 0) false 0 0 sh F 54 [pd_R x0, pd_I x1, pd_J x2, pd_N, pd_N, pd_N, pd_N, pd_N, pd_N, pd_N] [] := by
  unfold pfX12_coverFor_b54 at hf
  refine pd_lconst (x := 0) dX12_coverFor_54 (by decide) ?_
  refine pd_lstore (L' := [pd_R x0, pd_I x1, pd_J x2, pd_N, pd_J 0, pd_N, pd_N, pd_N, pd_N, pd_N]) dX12_coverFor_55 (by decide) rfl ?_
  refine pd_lload_n (i := 2) dX12_coverFor_57 rfl rfl ?_
  refine pd_lstore (L' := [pd_R x0, pd_I x1, pd_J x2, pd_N, pd_J 0, pd_N, pd_J x2, pd_N, pd_N, pd_N]) dX12_coverFor_58 (by decide) rfl ?_
  exact pd_weak (L' := [pd_R x0, pd_I x1, pd_J x2, pd_N, pd_J 0, pd_N, pd_J x2, pd_N, pd_N, pd_N]) ⟨Or.inr rfl, Or.inr rfl, Or.inr rfl, Or.inr rfl, Or.inr rfl, Or.inr rfl, Or.inr rfl, Or.inr rfl, Or.inr rfl, Or.inr rfl, trivial⟩ (pkX12_coverFor_b60 E l n _ _ _ _ _ _ hf)
set_option maxHeartbeats 4000000 in
set_option maxRecDepth 100000 in
theorem pkX12_coverFor_b30 (E : pd_E) (l : Launch) {sh : pd_S} {n : Nat} {ρ : Int} {Fz : pd_F}  : ∀ (k : Nat) (F : pd_F) (x0 : Int) (x1 : Int) (x2 : Int) (x4 : Int), pfX12_coverFor_b30 sh n  k F x0 x1 x2 x4 = some (ρ, Fz) → pd_V E l (pd_rm 12 0 0) (RX12, cX12_coverFor, 10, (some .long), "coverFor") (pd_Qm E false (some (pd_J ρ)) sh Fz 0 0) false 0 0 sh F 30 [pd_R x0, pd_I x1, pd_J x2, pd_N, pd_I x4, pd_N, pd_N, pd_N, pd_N, pd_N] [] := by
  intro k
  induction k with
  | zero => intro F x0 x1 x2 x4 hf; exact absurd hf (by unfold pfX12_coverFor_b30; exact fun h => nomatch h)
  | succ k ih =>
    intro F x0 x1 x2 x4 hf
    unfold pfX12_coverFor_b30 at hf
    refine pd_iload (i := 4) dX12_coverFor_30 rfl ?_
    refine pd_aload_n (i := 0) dX12_coverFor_32 rfl rfl ?_
    obtain ⟨hg4, hf⟩ := pd_ig hf
    refine pd_get (x := pd_I (F x0 46)) 46 dX12_coverFor_33 (show vwCl[12]? = some (RX12, TX12, 52) from rfl) pin_12 (by decide) pq_969 hg4 rfl ?_
    refine pd_icmp_ge (tgt := 54) dX12_coverFor_36 (by decide) (fun hc => ?_) (fun hc => ?_)
    · have hf := pd_ip hf hc
      exact pd_weak (L' := [pd_R x0, pd_I x1, pd_J x2, pd_N, pd_N, pd_N, pd_N, pd_N, pd_N, pd_N]) ⟨Or.inr rfl, Or.inr rfl, Or.inr rfl, Or.inr rfl, Or.inl rfl, Or.inr rfl, Or.inr rfl, Or.inr rfl, Or.inr rfl, Or.inr rfl, trivial⟩ (pkX12_coverFor_b54 E l _ _ _ _ hf)
    · have hf := pd_in_ hf hc
      refine pd_lload_n (i := 2) dX12_coverFor_39 rfl rfl ?_
      refine pd_aload_n (i := 0) dX12_coverFor_40 rfl rfl ?_
      refine pd_iload (i := 4) dX12_coverFor_41 rfl ?_
      obtain ⟨r6, F5, hr, hf⟩ := pd_ob2 hf
      refine pd_callV (pkX12_net l hr) dX12_coverFor_43 pq_928 pq_931 pq_932 (show vwCl[12]? = some (yX12_net.cls, TX12, 52) from rfl) hg4 (pd_okm (by omega) (by decide) pq_929 pq_930 (by decide) (show (parseMethodDescriptor yX12_net.desc).map (fun d => d.parameters.length) = some 1 from by decide +kernel)) (Nat.le_of_ble_eq_true rfl) rfl ?_
      refine pd_ladd dX12_coverFor_46 ?_
      refine pd_topJ (fun x2_47 ex2_47 => ?_)
      have hf := pd_lt hf ex2_47
      clear ex2_47
      refine pd_lstore_n (L' := [pd_R x0, pd_I x1, pd_J x2_47, pd_N, pd_I x4, pd_N, pd_N, pd_N, pd_N, pd_N]) dX12_coverFor_47 rfl (by decide) rfl ?_
      refine pd_iincN (L' := fun y => [pd_R x0, pd_I x1, pd_J x2_47, pd_N, pd_I y, pd_N, pd_N, pd_N, pd_N, pd_N]) dX12_coverFor_48 rfl (by decide) (by decide) (fun _ => rfl) (fun x4_48 ex4_48 => ?_)
      have hf := pd_lt hf ex4_48
      clear ex4_48
      refine pd_goto (tgt := 30) dX12_coverFor_51 (by decide) ?_
      exact pd_weak (L' := [pd_R x0, pd_I x1, pd_J x2_47, pd_N, pd_I x4_48, pd_N, pd_N, pd_N, pd_N, pd_N]) ⟨Or.inr rfl, Or.inr rfl, Or.inr rfl, Or.inr rfl, Or.inr rfl, Or.inr rfl, Or.inr rfl, Or.inr rfl, Or.inr rfl, Or.inr rfl, trivial⟩ (ih _ _ _ _ _ hf)
set_option maxHeartbeats 4000000 in
set_option maxRecDepth 100000 in
theorem pkX12_coverFor (l : Launch) {sh : pd_S} {n : Nat} {F : pd_F} {x0 : Int} {x1 : Int} {ρ : Int} {Fz : pd_F} (hf : pfX12_coverFor sh n F x0 x1 = some (ρ, Fz)) : pd_C l yX12_coverFor (Cond.code yX12_coverFor cX12_coverFor 10 (some .long) :: pd_gt) (pd_rm 12 0 0) false 0 0 sh F [pd_R x0, pd_I x1] (some (pd_J ρ)) sh Fz := by
  unfold pfX12_coverFor at hf
  refine pd_body (L := [pd_R x0, pd_I x1, pd_N, pd_N, pd_N, pd_N, pd_N, pd_N, pd_N, pd_N]) (by decide +kernel) (Nat.le_of_ble_eq_true rfl) rfl (fun E => ?_)
  refine pd_aload_n (i := 0) dX12_coverFor_0 rfl rfl ?_
  refine pd_iconst dX12_coverFor_1 (by decide) ?_
  obtain ⟨hg7, hf⟩ := pd_ig hf
  refine pd_put (n := 0) (x := pd_I 0) 0 dX12_coverFor_2 (show vwCl[12]? = some (RX12, TX12, 52) from rfl) pin_12 tyX12_ok nmX12 (by decide) pq_704 rfl hg7 rfl pd_nrI pd_ftI ?_
  refine pd_topF (fun F8 eF8 => ?_)
  have hf := pd_lt hf eF8
  clear eF8
  refine pd_iload_n (i := 1) dX12_coverFor_5 rfl rfl ?_
  refine pd_i2l dX12_coverFor_6 ?_
  refine pd_lconst (x := 1) dX12_coverFor_7 (by decide) ?_
  refine pd_ldc2 (x := 100) dX12_coverFor_8 pq_1069 (by decide +kernel) ?_
  obtain ⟨r10, F9, hr, hf⟩ := pd_ob2 hf
  refine pd_callS (pkX12_within l hr) dX12_coverFor_11 pq_738 pq_741 (pd_okm (by omega) (by decide) pq_739 pq_740 (by decide) (show (parseMethodDescriptor yX12_within.desc).map (fun d => d.parameters.length) = some 3 from by decide +kernel)) (Nat.le_of_ble_eq_true rfl) rfl ?_
  refine pd_if_ne (tgt := 21) dX12_coverFor_14 (by decide) (fun hc => ?_) (fun hc => ?_)
  · have hf := pd_ip hf hc
    refine pd_aload_n (i := 0) dX12_coverFor_21 rfl rfl ?_
    obtain ⟨F11, hr, hf⟩ := pd_ob1 hf
    refine pd_callV (pkX12_laysViews l hr) dX12_coverFor_22 pq_1045 pq_1048 pq_1049 (show vwCl[12]? = some (yX12_laysViews.cls, TX12, 52) from rfl) hg7 (pd_okm (by omega) (by decide) pq_1046 pq_1047 (by decide) (show (parseMethodDescriptor yX12_laysViews.desc).map (fun d => d.parameters.length) = some 0 from by decide +kernel)) (Nat.le_of_ble_eq_true rfl) rfl ?_
    refine pd_lconst (x := 0) dX12_coverFor_25 (by decide) ?_
    refine pd_lstore_n (L' := [pd_R x0, pd_I x1, pd_J 0, pd_N, pd_N, pd_N, pd_N, pd_N, pd_N, pd_N]) dX12_coverFor_26 rfl (by decide) rfl ?_
    refine pd_iconst dX12_coverFor_27 (by decide) ?_
    refine pd_istore (L' := [pd_R x0, pd_I x1, pd_J 0, pd_N, pd_I 0, pd_N, pd_N, pd_N, pd_N, pd_N]) dX12_coverFor_28 (by decide) rfl ?_
    exact pd_weak (L' := [pd_R x0, pd_I x1, pd_J 0, pd_N, pd_I 0, pd_N, pd_N, pd_N, pd_N, pd_N]) ⟨Or.inr rfl, Or.inr rfl, Or.inr rfl, Or.inr rfl, Or.inr rfl, Or.inr rfl, Or.inr rfl, Or.inr rfl, Or.inr rfl, Or.inr rfl, trivial⟩ (pkX12_coverFor_b30 E l n _ _ _ _ _ hf)
  · have hf := pd_iq hf hc
    refine pd_ldc2 (x := (-1)) dX12_coverFor_17 pq_1050 (by decide +kernel) ?_
    obtain ⟨h1, h2⟩ := pd_inj hf
    subst h1 h2
    exact pd_lret dX12_coverFor_20 rfl (Nat.le_refl 0) (Nat.le_refl 0)
set_option maxHeartbeats 4000000 in
set_option maxRecDepth 100000 in
theorem pkX12_paidOn (l : Launch) {sh : pd_S} {n : Nat} {F : pd_F} {x0 : Int} {x1 : Int} {ρ : Int} {Fz : pd_F} (hf : pfX12_paidOn sh n F x0 x1 = some (ρ, Fz)) : pd_C l yX12_paidOn (Cond.code yX12_paidOn cX12_paidOn 5 (some .long) :: pd_gt) (pd_rm 13 0 0) false 0 0 sh F [pd_R x0, pd_I x1] (some (pd_J ρ)) sh Fz := by
  unfold pfX12_paidOn at hf
  refine pd_body (L := [pd_R x0, pd_I x1, pd_N, pd_N, pd_N]) (by decide +kernel) (Nat.le_of_ble_eq_true rfl) rfl (fun E => ?_)
  refine pd_aload_n (i := 0) dX12_paidOn_0 rfl rfl ?_
  obtain ⟨hg1, hf⟩ := pd_ig hf
  refine pd_get (x := pd_R (F x0 39)) 39 dX12_paidOn_1 (show vwCl[12]? = some (RX12, TX12, 52) from rfl) pin_12 (by decide) pq_877 hg1 rfl ?_
  refine pd_bipush dX12_paidOn_4 (by decide) ?_
  obtain ⟨hg2, hf⟩ := pd_ig hf
  refine pd_iald dX12_paidOn_6 hg2 ?_
  refine pd_topI (fun x2_7 ex2_7 => ?_)
  have hf := pd_lt hf ex2_7
  clear ex2_7
  refine pd_istore_n (L' := [pd_R x0, pd_I x1, pd_I x2_7, pd_N, pd_N]) dX12_paidOn_7 rfl (by decide) rfl ?_
  refine pd_aload_n (i := 0) dX12_paidOn_8 rfl rfl ?_
  refine pd_get (x := pd_R (F x0 39)) 39 dX12_paidOn_9 (show vwCl[12]? = some (RX12, TX12, 52) from rfl) pin_12 (by decide) pq_877 hg1 rfl ?_
  refine pd_bipush dX12_paidOn_12 (by decide) ?_
  refine pd_iload_n (i := 1) dX12_paidOn_14 rfl rfl ?_
  refine pd_iast dX12_paidOn_15 hg2 ?_
  refine pd_topF (fun F3 eF3 => ?_)
  have hf := pd_lt hf eF3
  clear eF3
  refine pd_aload_n (i := 0) dX12_paidOn_16 rfl rfl ?_
  obtain ⟨r5, F4, hr, hf⟩ := pd_ob2 hf
  refine pd_callV (pkX12_paidNow l hr) dX12_paidOn_17 pq_1070 pq_1073 pq_1074 (show vwCl[12]? = some (yX12_paidNow.cls, TX12, 52) from rfl) hg1 (pd_okm (by omega) (by decide) pq_1071 pq_1072 (by decide) (show (parseMethodDescriptor yX12_paidNow.desc).map (fun d => d.parameters.length) = some 0 from by decide +kernel)) (Nat.le_of_ble_eq_true rfl) rfl ?_
  refine pd_lstore_n (L' := [pd_R x0, pd_I x1, pd_I x2_7, pd_J r5, pd_N]) dX12_paidOn_20 rfl (by decide) rfl ?_
  refine pd_aload_n (i := 0) dX12_paidOn_21 rfl rfl ?_
  refine pd_get (x := pd_R (F4 x0 39)) 39 dX12_paidOn_22 (show vwCl[12]? = some (RX12, TX12, 52) from rfl) pin_12 (by decide) pq_877 hg1 rfl ?_
  refine pd_bipush dX12_paidOn_25 (by decide) ?_
  refine pd_iload_n (i := 2) dX12_paidOn_27 rfl rfl ?_
  obtain ⟨hg6, hf⟩ := pd_ig hf
  refine pd_iast dX12_paidOn_28 hg6 ?_
  refine pd_topF (fun F7 eF7 => ?_)
  have hf := pd_lt hf eF7
  clear eF7
  refine pd_lload_n (i := 3) dX12_paidOn_29 rfl rfl ?_
  obtain ⟨h1, h2⟩ := pd_inj hf
  subst h1 h2
  exact pd_lret dX12_paidOn_30 rfl (Nat.le_refl 0) (Nat.le_refl 0)
set_option maxHeartbeats 4000000 in
set_option maxRecDepth 100000 in
theorem pkX12_markless_b51 (E : pd_E) (l : Launch) {sh : pd_S} {n : Nat} {ρ : Int} {Fz : pd_F}  (F : pd_F) (x0 : Int) (x1 : Int) (x2 : Int) (x4 : Int) (t0 : Int) (t1 : Int) (t2 : Int) (hf : pfX12_markless_b51 sh n  F x0 x1 x2 x4 t0 t1 t2 = some (ρ, Fz)) : pd_V E l (pd_rm 13 0 0) (RX12, cX12_markless, 7, (some .long), "markless") (pd_Qm E false (some (pd_J ρ)) sh Fz 0 0) false 0 0 sh F 51 [pd_R x0, pd_I x1, pd_J x2, pd_N, pd_I x4, pd_N, pd_N] [pd_I t0, pd_I t1, pd_R t2] := by
  unfold pfX12_markless_b51 at hf
  obtain ⟨hg2, hf⟩ := pd_ig hf
  obtain ⟨F1, hr, hf⟩ := pd_ob1 hf
  refine pd_callV (pkX12_marks l hr) dX12_markless_51 pq_953 pq_956 pq_957 (show vwCl[12]? = some (yX12_marks.cls, TX12, 52) from rfl) hg2 (pd_okm (by omega) (by decide) pq_954 pq_955 (by decide) (show (parseMethodDescriptor yX12_marks.desc).map (fun d => d.parameters.length) = some 2 from by decide +kernel)) (Nat.le_of_ble_eq_true rfl) rfl ?_
  refine pd_aload_n (i := 0) dX12_markless_54 rfl rfl ?_
  obtain ⟨hg5, hf⟩ := pd_ig hf
  obtain ⟨r4, F3, hr, hf⟩ := pd_ob2 hf
  refine pd_callV (pkX12_paidNow l hr) dX12_markless_55 pq_1070 pq_1073 pq_1074 (show vwCl[12]? = some (yX12_paidNow.cls, TX12, 52) from rfl) hg5 (pd_okm (by omega) (by decide) pq_1071 pq_1072 (by decide) (show (parseMethodDescriptor yX12_paidNow.desc).map (fun d => d.parameters.length) = some 0 from by decide +kernel)) (Nat.le_of_ble_eq_true rfl) rfl ?_
  refine pd_lstore (L' := [pd_R x0, pd_I x1, pd_J x2, pd_N, pd_I x4, pd_J r4, pd_N]) dX12_markless_58 (by decide) rfl ?_
  refine pd_aload_n (i := 0) dX12_markless_60 rfl rfl ?_
  refine pd_iload_n (i := 1) dX12_markless_61 rfl rfl ?_
  refine pd_iload (i := 4) dX12_markless_62 rfl ?_
  obtain ⟨F6, hr, hf⟩ := pd_ob1 hf
  refine pd_callV (pkX12_marks l hr) dX12_markless_64 pq_953 pq_956 pq_957 (show vwCl[12]? = some (yX12_marks.cls, TX12, 52) from rfl) hg5 (pd_okm (by omega) (by decide) pq_954 pq_955 (by decide) (show (parseMethodDescriptor yX12_marks.desc).map (fun d => d.parameters.length) = some 2 from by decide +kernel)) (Nat.le_of_ble_eq_true rfl) rfl ?_
  refine pd_lload (i := 5) dX12_markless_67 rfl ?_
  refine pd_lload_n (i := 2) dX12_markless_69 rfl rfl ?_
  refine pd_lsub dX12_markless_70 ?_
  obtain ⟨h1, h2⟩ := pd_inj hf
  subst h1 h2
  exact pd_lret dX12_markless_71 rfl (Nat.le_refl 0) (Nat.le_refl 0)
set_option maxHeartbeats 4000000 in
set_option maxRecDepth 100000 in
theorem pkX12_markless_b14 (E : pd_E) (l : Launch) {sh : pd_S} {n : Nat} {ρ : Int} {Fz : pd_F}  (F : pd_F) (x0 : Int) (x1 : Int) (t0 : Int) (t1 : Int) (hf : pfX12_markless_b14 sh n  F x0 x1 t0 t1 = some (ρ, Fz)) : pd_V E l (pd_rm 13 0 0) (RX12, cX12_markless, 7, (some .long), "markless") (pd_Qm E false (some (pd_J ρ)) sh Fz 0 0) false 0 0 sh F 14 [pd_R x0, pd_I x1, pd_N, pd_N, pd_N, pd_N, pd_N] [pd_I t0, pd_R t1] := by
  unfold pfX12_markless_b14 at hf
  obtain ⟨hg7, hf⟩ := pd_ig hf
  refine pd_put (n := t0) (x := pd_I t0) 0 dX12_markless_14 (show vwCl[12]? = some (RX12, TX12, 52) from rfl) pin_12 tyX12_ok nmX12 (by decide) pq_704 rfl hg7 rfl pd_nrI pd_ftI ?_
  refine pd_topF (fun F8 eF8 => ?_)
  have hf := pd_lt hf eF8
  clear eF8
  refine pd_aload_n (i := 0) dX12_markless_17 rfl rfl ?_
  obtain ⟨hg9, hf⟩ := pd_ig hf
  refine pd_get (x := pd_I (F8 x0 0)) 0 dX12_markless_18 (show vwCl[12]? = some (RX12, TX12, 52) from rfl) pin_12 (by decide) pq_704 hg9 rfl ?_
  refine pd_iconst dX12_markless_21 (by decide) ?_
  refine pd_icmp_ne (tgt := 27) dX12_markless_22 (by decide) (fun hc => ?_) (fun hc => ?_)
  · have hf := pd_ip hf hc
    refine pd_aload_n (i := 0) dX12_markless_27 rfl rfl ?_
    obtain ⟨r11, F10, hr, hf⟩ := pd_ob2 hf
    refine pd_callV (pkX12_paidNow l hr) dX12_markless_28 pq_1070 pq_1073 pq_1074 (show vwCl[12]? = some (yX12_paidNow.cls, TX12, 52) from rfl) hg9 (pd_okm (by omega) (by decide) pq_1071 pq_1072 (by decide) (show (parseMethodDescriptor yX12_paidNow.desc).map (fun d => d.parameters.length) = some 0 from by decide +kernel)) (Nat.le_of_ble_eq_true rfl) rfl ?_
    refine pd_lstore_n (L' := [pd_R x0, pd_I x1, pd_J r11, pd_N, pd_N, pd_N, pd_N]) dX12_markless_31 rfl (by decide) rfl ?_
    refine pd_aload_n (i := 0) dX12_markless_32 rfl rfl ?_
    refine pd_iload_n (i := 1) dX12_markless_33 rfl rfl ?_
    obtain ⟨r13, F12, hr, hf⟩ := pd_ob2 hf
    refine pd_callV (pkX12_isOut l hr) dX12_markless_34 pq_899 pq_902 pq_903 (show vwCl[12]? = some (yX12_isOut.cls, TX12, 52) from rfl) hg9 (pd_okm (by omega) (by decide) pq_900 pq_901 (by decide) (show (parseMethodDescriptor yX12_isOut.desc).map (fun d => d.parameters.length) = some 1 from by decide +kernel)) (Nat.le_of_ble_eq_true rfl) rfl ?_
    refine pd_istore (L' := [pd_R x0, pd_I x1, pd_J r11, pd_N, pd_I r13, pd_N, pd_N]) dX12_markless_37 (by decide) rfl ?_
    refine pd_aload_n (i := 0) dX12_markless_39 rfl rfl ?_
    refine pd_iload_n (i := 1) dX12_markless_40 rfl rfl ?_
    refine pd_iload (i := 4) dX12_markless_41 rfl ?_
    refine pd_if_ne (tgt := 50) dX12_markless_43 (by decide) (fun hc => ?_) (fun hc => ?_)
    · have hf := pd_ip hf hc
      refine pd_iconst dX12_markless_50 (by decide) ?_
      exact pd_weak (L' := [pd_R x0, pd_I x1, pd_J r11, pd_N, pd_I r13, pd_N, pd_N]) ⟨Or.inr rfl, Or.inr rfl, Or.inr rfl, Or.inr rfl, Or.inr rfl, Or.inr rfl, Or.inr rfl, trivial⟩ (pkX12_markless_b51 E l _ _ _ _ _ _ _ _ hf)
    · have hf := pd_iq hf hc
      refine pd_iconst dX12_markless_46 (by decide) ?_
      refine pd_goto (tgt := 51) dX12_markless_47 (by decide) ?_
      exact pd_weak (L' := [pd_R x0, pd_I x1, pd_J r11, pd_N, pd_I r13, pd_N, pd_N]) ⟨Or.inr rfl, Or.inr rfl, Or.inr rfl, Or.inr rfl, Or.inr rfl, Or.inr rfl, Or.inr rfl, trivial⟩ (pkX12_markless_b51 E l _ _ _ _ _ _ _ _ hf)
  · have hf := pd_iq hf hc
    refine pd_lconst (x := 0) dX12_markless_25 (by decide) ?_
    obtain ⟨h1, h2⟩ := pd_inj hf
    subst h1 h2
    exact pd_lret dX12_markless_26 rfl (Nat.le_refl 0) (Nat.le_refl 0)
set_option maxHeartbeats 4000000 in
set_option maxRecDepth 100000 in
theorem pkX12_markless (l : Launch) {sh : pd_S} {n : Nat} {F : pd_F} {x0 : Int} {x1 : Int} {ρ : Int} {Fz : pd_F} (hf : pfX12_markless sh n F x0 x1 = some (ρ, Fz)) : pd_C l yX12_markless (Cond.code yX12_markless cX12_markless 7 (some .long) :: pd_gt) (pd_rm 13 0 0) false 0 0 sh F [pd_R x0, pd_I x1] (some (pd_J ρ)) sh Fz := by
  unfold pfX12_markless at hf
  refine pd_body (L := [pd_R x0, pd_I x1, pd_N, pd_N, pd_N, pd_N, pd_N]) (by decide +kernel) (Nat.le_of_ble_eq_true rfl) rfl (fun E => ?_)
  refine pd_aload_n (i := 0) dX12_markless_0 rfl rfl ?_
  refine pd_aload_n (i := 0) dX12_markless_1 rfl rfl ?_
  refine pd_iload_n (i := 1) dX12_markless_2 rfl rfl ?_
  obtain ⟨hg16, hf⟩ := pd_ig hf
  obtain ⟨r15, F14, hr, hf⟩ := pd_ob2 hf
  refine pd_callV (pkX12_isMark l hr) dX12_markless_3 pq_948 pq_951 pq_952 (show vwCl[12]? = some (yX12_isMark.cls, TX12, 52) from rfl) hg16 (pd_okm (by omega) (by decide) pq_949 pq_950 (by decide) (show (parseMethodDescriptor yX12_isMark.desc).map (fun d => d.parameters.length) = some 1 from by decide +kernel)) (Nat.le_of_ble_eq_true rfl) rfl ?_
  refine pd_if_eq (tgt := 13) dX12_markless_6 (by decide) (fun hc => ?_) (fun hc => ?_)
  · have hf := pd_ip hf hc
    refine pd_iconst dX12_markless_13 (by decide) ?_
    exact pd_weak (L' := [pd_R x0, pd_I x1, pd_N, pd_N, pd_N, pd_N, pd_N]) ⟨Or.inr rfl, Or.inr rfl, Or.inr rfl, Or.inr rfl, Or.inr rfl, Or.inr rfl, Or.inr rfl, trivial⟩ (pkX12_markless_b14 E l _ _ _ _ _ hf)
  · have hf := pd_in_ hf hc
    refine pd_iconst dX12_markless_9 (by decide) ?_
    refine pd_goto (tgt := 14) dX12_markless_10 (by decide) ?_
    exact pd_weak (L' := [pd_R x0, pd_I x1, pd_N, pd_N, pd_N, pd_N, pd_N]) ⟨Or.inr rfl, Or.inr rfl, Or.inr rfl, Or.inr rfl, Or.inr rfl, Or.inr rfl, Or.inr rfl, trivial⟩ (pkX12_markless_b14 E l _ _ _ _ _ hf)
set_option maxHeartbeats 4000000 in
set_option maxRecDepth 100000 in
theorem pkX12_joining_b167 (E : pd_E) (l : Launch) {sh : pd_S} {n : Nat} {ρ : Int} {Fz : pd_F}  (F : pd_F) (x0 : Int) (x3 : Int) (x5 : Int) (x6 : Int) (x7 : Int) (x8 : Int) (t0 : Int) (t1 : Int) (t2 : Int) (hf : pfX12_joining_b167 sh n  F x0 x3 x5 x6 x7 x8 t0 t1 t2 = some (ρ, Fz)) : pd_V E l (pd_rm 13 0 0) (RX12, cX12_joining, 11, (some .long), "joining") (pd_Qm E false (some (pd_J ρ)) sh Fz 0 0) false 0 0 sh F 167 [pd_R x0, pd_N, pd_N, pd_J x3, pd_N, pd_I x5, pd_I x6, pd_I x7, pd_I x8, pd_N, pd_N] [pd_I t0, pd_I t1, pd_R t2] := by
  unfold pfX12_joining_b167 at hf
  obtain ⟨hg1, hf⟩ := pd_ig hf
  refine pd_iast dX12_joining_167 hg1 ?_
  refine pd_topF (fun F2 eF2 => ?_)
  have hf := pd_lt hf eF2
  clear eF2
  refine pd_aload_n (i := 0) dX12_joining_168 rfl rfl ?_
  obtain ⟨hg5, hf⟩ := pd_ig hf
  obtain ⟨r4, F3, hr, hf⟩ := pd_ob2 hf
  refine pd_callV (pkX12_paidNow l hr) dX12_joining_169 pq_1070 pq_1073 pq_1074 (show vwCl[12]? = some (yX12_paidNow.cls, TX12, 52) from rfl) hg5 (pd_okm (by omega) (by decide) pq_1071 pq_1072 (by decide) (show (parseMethodDescriptor yX12_paidNow.desc).map (fun d => d.parameters.length) = some 0 from by decide +kernel)) (Nat.le_of_ble_eq_true rfl) rfl ?_
  refine pd_lstore (L' := [pd_R x0, pd_N, pd_N, pd_J x3, pd_N, pd_I x5, pd_I x6, pd_I x7, pd_I x8, pd_J r4, pd_N]) dX12_joining_172 (by decide) rfl ?_
  refine pd_aload_n (i := 0) dX12_joining_174 rfl rfl ?_
  refine pd_get (x := pd_R (F3 x0 39)) 39 dX12_joining_175 (show vwCl[12]? = some (RX12, TX12, 52) from rfl) pin_12 (by decide) pq_877 hg5 rfl ?_
  refine pd_bipush dX12_joining_178 (by decide) ?_
  refine pd_iconst dX12_joining_180 (by decide) ?_
  refine pd_iload (i := 5) dX12_joining_181 rfl ?_
  refine pd_imul dX12_joining_183 ?_
  refine pd_iadd dX12_joining_184 ?_
  refine pd_iload (i := 6) dX12_joining_185 rfl ?_
  obtain ⟨hg6, hf⟩ := pd_ig hf
  refine pd_iast dX12_joining_187 hg6 ?_
  refine pd_topF (fun F7 eF7 => ?_)
  have hf := pd_lt hf eF7
  clear eF7
  refine pd_aload_n (i := 0) dX12_joining_188 rfl rfl ?_
  refine pd_get (x := pd_R (F7 x0 39)) 39 dX12_joining_189 (show vwCl[12]? = some (RX12, TX12, 52) from rfl) pin_12 (by decide) pq_877 hg5 rfl ?_
  refine pd_bipush dX12_joining_192 (by decide) ?_
  refine pd_iconst dX12_joining_194 (by decide) ?_
  refine pd_iload (i := 5) dX12_joining_195 rfl ?_
  refine pd_imul dX12_joining_197 ?_
  refine pd_iadd dX12_joining_198 ?_
  refine pd_iconst dX12_joining_199 (by decide) ?_
  refine pd_iadd dX12_joining_200 ?_
  refine pd_iload (i := 7) dX12_joining_201 rfl ?_
  obtain ⟨hg8, hf⟩ := pd_ig hf
  refine pd_iast dX12_joining_203 hg8 ?_
  refine pd_topF (fun F9 eF9 => ?_)
  have hf := pd_lt hf eF9
  clear eF9
  refine pd_aload_n (i := 0) dX12_joining_204 rfl rfl ?_
  refine pd_get (x := pd_R (F9 x0 39)) 39 dX12_joining_205 (show vwCl[12]? = some (RX12, TX12, 52) from rfl) pin_12 (by decide) pq_877 hg5 rfl ?_
  refine pd_bipush dX12_joining_208 (by decide) ?_
  refine pd_iload (i := 8) dX12_joining_210 rfl ?_
  obtain ⟨hg10, hf⟩ := pd_ig hf
  refine pd_iast dX12_joining_212 hg10 ?_
  refine pd_topF (fun F11 eF11 => ?_)
  have hf := pd_lt hf eF11
  clear eF11
  refine pd_lload (i := 9) dX12_joining_213 rfl ?_
  refine pd_lload_n (i := 3) dX12_joining_215 rfl rfl ?_
  refine pd_lsub dX12_joining_216 ?_
  obtain ⟨h1, h2⟩ := pd_inj hf
  subst h1 h2
  exact pd_lret dX12_joining_217 rfl (Nat.le_refl 0) (Nat.le_refl 0)
set_option maxHeartbeats 4000000 in
set_option maxRecDepth 100000 in
theorem pkX12_joining_b76 (E : pd_E) (l : Launch) {sh : pd_S} {n : Nat} {ρ : Int} {Fz : pd_F}  (F : pd_F) (x0 : Int) (x1 : Int) (x2 : Int) (x3 : Int) (t0 : Int) (hf : pfX12_joining_b76 sh n  F x0 x1 x2 x3 t0 = some (ρ, Fz)) : pd_V E l (pd_rm 13 0 0) (RX12, cX12_joining, 11, (some .long), "joining") (pd_Qm E false (some (pd_J ρ)) sh Fz 0 0) false 0 0 sh F 76 [pd_R x0, pd_I x1, pd_I x2, pd_J x3, pd_N, pd_N, pd_N, pd_N, pd_N, pd_N, pd_N] [pd_I t0] := by
  unfold pfX12_joining_b76 at hf
  refine pd_istore (L' := [pd_R x0, pd_I x1, pd_I x2, pd_J x3, pd_N, pd_I t0, pd_N, pd_N, pd_N, pd_N, pd_N]) dX12_joining_76 (by decide) rfl ?_
  refine pd_aload_n (i := 0) dX12_joining_78 rfl rfl ?_
  obtain ⟨hg12, hf⟩ := pd_ig hf
  refine pd_get (x := pd_R (F x0 39)) 39 dX12_joining_79 (show vwCl[12]? = some (RX12, TX12, 52) from rfl) pin_12 (by decide) pq_877 hg12 rfl ?_
  refine pd_bipush dX12_joining_82 (by decide) ?_
  refine pd_iconst dX12_joining_84 (by decide) ?_
  refine pd_iload (i := 5) dX12_joining_85 rfl ?_
  refine pd_imul dX12_joining_87 ?_
  refine pd_iadd dX12_joining_88 ?_
  obtain ⟨hg13, hf⟩ := pd_ig hf
  refine pd_iald dX12_joining_89 hg13 ?_
  refine pd_topI (fun x6_90 ex6_90 => ?_)
  have hf := pd_lt hf ex6_90
  clear ex6_90
  refine pd_istore (L' := [pd_R x0, pd_I x1, pd_I x2, pd_J x3, pd_N, pd_I t0, pd_I x6_90, pd_N, pd_N, pd_N, pd_N]) dX12_joining_90 (by decide) rfl ?_
  refine pd_aload_n (i := 0) dX12_joining_92 rfl rfl ?_
  refine pd_get (x := pd_R (F x0 39)) 39 dX12_joining_93 (show vwCl[12]? = some (RX12, TX12, 52) from rfl) pin_12 (by decide) pq_877 hg12 rfl ?_
  refine pd_bipush dX12_joining_96 (by decide) ?_
  refine pd_iconst dX12_joining_98 (by decide) ?_
  refine pd_iload (i := 5) dX12_joining_99 rfl ?_
  refine pd_imul dX12_joining_101 ?_
  refine pd_iadd dX12_joining_102 ?_
  refine pd_iconst dX12_joining_103 (by decide) ?_
  refine pd_iadd dX12_joining_104 ?_
  obtain ⟨hg14, hf⟩ := pd_ig hf
  refine pd_iald dX12_joining_105 hg14 ?_
  refine pd_topI (fun x7_106 ex7_106 => ?_)
  have hf := pd_lt hf ex7_106
  clear ex7_106
  refine pd_istore (L' := [pd_R x0, pd_I x1, pd_I x2, pd_J x3, pd_N, pd_I t0, pd_I x6_90, pd_I x7_106, pd_N, pd_N, pd_N]) dX12_joining_106 (by decide) rfl ?_
  refine pd_aload_n (i := 0) dX12_joining_108 rfl rfl ?_
  refine pd_get (x := pd_R (F x0 39)) 39 dX12_joining_109 (show vwCl[12]? = some (RX12, TX12, 52) from rfl) pin_12 (by decide) pq_877 hg12 rfl ?_
  refine pd_bipush dX12_joining_112 (by decide) ?_
  obtain ⟨hg15, hf⟩ := pd_ig hf
  refine pd_iald dX12_joining_114 hg15 ?_
  refine pd_topI (fun x8_115 ex8_115 => ?_)
  have hf := pd_lt hf ex8_115
  clear ex8_115
  refine pd_istore (L' := [pd_R x0, pd_I x1, pd_I x2, pd_J x3, pd_N, pd_I t0, pd_I x6_90, pd_I x7_106, pd_I x8_115, pd_N, pd_N]) dX12_joining_115 (by decide) rfl ?_
  refine pd_aload_n (i := 0) dX12_joining_117 rfl rfl ?_
  refine pd_get (x := pd_R (F x0 39)) 39 dX12_joining_118 (show vwCl[12]? = some (RX12, TX12, 52) from rfl) pin_12 (by decide) pq_877 hg12 rfl ?_
  refine pd_bipush dX12_joining_121 (by decide) ?_
  refine pd_iconst dX12_joining_123 (by decide) ?_
  refine pd_iload (i := 5) dX12_joining_124 rfl ?_
  refine pd_imul dX12_joining_126 ?_
  refine pd_iadd dX12_joining_127 ?_
  refine pd_iload_n (i := 1) dX12_joining_128 rfl rfl ?_
  refine pd_iast dX12_joining_129 hg13 ?_
  refine pd_topF (fun F16 eF16 => ?_)
  have hf := pd_lt hf eF16
  clear eF16
  refine pd_aload_n (i := 0) dX12_joining_130 rfl rfl ?_
  refine pd_get (x := pd_R (F16 x0 39)) 39 dX12_joining_131 (show vwCl[12]? = some (RX12, TX12, 52) from rfl) pin_12 (by decide) pq_877 hg12 rfl ?_
  refine pd_bipush dX12_joining_134 (by decide) ?_
  refine pd_iconst dX12_joining_136 (by decide) ?_
  refine pd_iload (i := 5) dX12_joining_137 rfl ?_
  refine pd_imul dX12_joining_139 ?_
  refine pd_iadd dX12_joining_140 ?_
  refine pd_iconst dX12_joining_141 (by decide) ?_
  refine pd_iadd dX12_joining_142 ?_
  refine pd_iload_n (i := 2) dX12_joining_143 rfl rfl ?_
  obtain ⟨hg17, hf⟩ := pd_ig hf
  refine pd_iast dX12_joining_144 hg17 ?_
  refine pd_topF (fun F18 eF18 => ?_)
  have hf := pd_lt hf eF18
  clear eF18
  refine pd_aload_n (i := 0) dX12_joining_145 rfl rfl ?_
  refine pd_get (x := pd_R (F18 x0 39)) 39 dX12_joining_146 (show vwCl[12]? = some (RX12, TX12, 52) from rfl) pin_12 (by decide) pq_877 hg12 rfl ?_
  refine pd_bipush dX12_joining_149 (by decide) ?_
  refine pd_iload (i := 8) dX12_joining_151 rfl ?_
  refine pd_bipush dX12_joining_153 (by decide) ?_
  refine pd_icmp_ne (tgt := 163) dX12_joining_155 (by decide) (fun hc => ?_) (fun hc => ?_)
  · have hf := pd_ip hf hc
    refine pd_iload (i := 8) dX12_joining_163 rfl ?_
    refine pd_iconst dX12_joining_165 (by decide) ?_
    refine pd_iadd dX12_joining_166 ?_
    exact pd_weak (L' := [pd_R x0, pd_N, pd_N, pd_J x3, pd_N, pd_I t0, pd_I x6_90, pd_I x7_106, pd_I x8_115, pd_N, pd_N]) ⟨Or.inr rfl, Or.inl rfl, Or.inl rfl, Or.inr rfl, Or.inr rfl, Or.inr rfl, Or.inr rfl, Or.inr rfl, Or.inr rfl, Or.inr rfl, Or.inr rfl, trivial⟩ (pkX12_joining_b167 E l _ _ _ _ _ _ _ _ _ _ hf)
  · have hf := pd_iq hf hc
    refine pd_bipush dX12_joining_158 (by decide) ?_
    refine pd_goto (tgt := 167) dX12_joining_160 (by decide) ?_
    exact pd_weak (L' := [pd_R x0, pd_N, pd_N, pd_J x3, pd_N, pd_I t0, pd_I x6_90, pd_I x7_106, pd_I x8_115, pd_N, pd_N]) ⟨Or.inr rfl, Or.inl rfl, Or.inl rfl, Or.inr rfl, Or.inr rfl, Or.inr rfl, Or.inr rfl, Or.inr rfl, Or.inr rfl, Or.inr rfl, Or.inr rfl, trivial⟩ (pkX12_joining_b167 E l _ _ _ _ _ _ _ _ _ _ hf)
set_option maxHeartbeats 4000000 in
set_option maxRecDepth 100000 in
theorem pkX12_joining_b15 (E : pd_E) (l : Launch) {sh : pd_S} {n : Nat} {ρ : Int} {Fz : pd_F}  (F : pd_F) (x0 : Int) (x1 : Int) (x2 : Int) (t0 : Int) (t1 : Int) (hf : pfX12_joining_b15 sh n  F x0 x1 x2 t0 t1 = some (ρ, Fz)) : pd_V E l (pd_rm 13 0 0) (RX12, cX12_joining, 11, (some .long), "joining") (pd_Qm E false (some (pd_J ρ)) sh Fz 0 0) false 0 0 sh F 15 [pd_R x0, pd_I x1, pd_I x2, pd_N, pd_N, pd_N, pd_N, pd_N, pd_N, pd_N, pd_N] [pd_I t0, pd_R t1] := by
  unfold pfX12_joining_b15 at hf
  obtain ⟨hg19, hf⟩ := pd_ig hf
  refine pd_put (n := t0) (x := pd_I t0) 0 dX12_joining_15 (show vwCl[12]? = some (RX12, TX12, 52) from rfl) pin_12 tyX12_ok nmX12 (by decide) pq_704 rfl hg19 rfl pd_nrI pd_ftI ?_
  refine pd_topF (fun F20 eF20 => ?_)
  have hf := pd_lt hf eF20
  clear eF20
  refine pd_aload_n (i := 0) dX12_joining_18 rfl rfl ?_
  obtain ⟨hg21, hf⟩ := pd_ig hf
  refine pd_get (x := pd_I (F20 x0 0)) 0 dX12_joining_19 (show vwCl[12]? = some (RX12, TX12, 52) from rfl) pin_12 (by decide) pq_704 hg21 rfl ?_
  refine pd_iconst dX12_joining_22 (by decide) ?_
  refine pd_icmp_ne (tgt := 28) dX12_joining_23 (by decide) (fun hc => ?_) (fun hc => ?_)
  · have hf := pd_ip hf hc
    refine pd_aload_n (i := 0) dX12_joining_28 rfl rfl ?_
    obtain ⟨r23, F22, hr, hf⟩ := pd_ob2 hf
    refine pd_callV (pkX12_paidNow l hr) dX12_joining_29 pq_1070 pq_1073 pq_1074 (show vwCl[12]? = some (yX12_paidNow.cls, TX12, 52) from rfl) hg21 (pd_okm (by omega) (by decide) pq_1071 pq_1072 (by decide) (show (parseMethodDescriptor yX12_paidNow.desc).map (fun d => d.parameters.length) = some 0 from by decide +kernel)) (Nat.le_of_ble_eq_true rfl) rfl ?_
    refine pd_lstore_n (L' := [pd_R x0, pd_I x1, pd_I x2, pd_J r23, pd_N, pd_N, pd_N, pd_N, pd_N, pd_N, pd_N]) dX12_joining_32 rfl (by decide) rfl ?_
    refine pd_aload_n (i := 0) dX12_joining_33 rfl rfl ?_
    refine pd_get (x := pd_R (F22 x0 45)) 45 dX12_joining_34 (show vwCl[12]? = some (RX12, TX12, 52) from rfl) pin_12 (by decide) pq_970 hg21 rfl ?_
    refine pd_iload_n (i := 1) dX12_joining_37 rfl rfl ?_
    obtain ⟨hg24, hf⟩ := pd_ig hf
    refine pd_iald dX12_joining_38 hg24 ?_
    refine pd_aload_n (i := 0) dX12_joining_39 rfl rfl ?_
    refine pd_get (x := pd_R (F22 x0 45)) 45 dX12_joining_40 (show vwCl[12]? = some (RX12, TX12, 52) from rfl) pin_12 (by decide) pq_970 hg21 rfl ?_
    refine pd_iload_n (i := 2) dX12_joining_43 rfl rfl ?_
    obtain ⟨hg25, hf⟩ := pd_ig hf
    refine pd_iald dX12_joining_44 hg25 ?_
    refine pd_icmp_ne (tgt := 50) dX12_joining_45 (by decide) (fun hc => ?_) (fun hc => ?_)
    · have hf := pd_ip hf hc
      refine pd_aload_n (i := 0) dX12_joining_50 rfl rfl ?_
      refine pd_get (x := pd_R (F22 x0 39)) 39 dX12_joining_51 (show vwCl[12]? = some (RX12, TX12, 52) from rfl) pin_12 (by decide) pq_877 hg21 rfl ?_
      refine pd_bipush dX12_joining_54 (by decide) ?_
      obtain ⟨hg26, hf⟩ := pd_ig hf
      refine pd_iald dX12_joining_56 hg26 ?_
      refine pd_bipush dX12_joining_57 (by decide) ?_
      refine pd_icmp_ne (tgt := 69) dX12_joining_59 (by decide) (fun hc => ?_) (fun hc => ?_)
      · have hf := pd_ip hf hc
        refine pd_aload_n (i := 0) dX12_joining_69 rfl rfl ?_
        refine pd_get (x := pd_R (F22 x0 39)) 39 dX12_joining_70 (show vwCl[12]? = some (RX12, TX12, 52) from rfl) pin_12 (by decide) pq_877 hg21 rfl ?_
        refine pd_bipush dX12_joining_73 (by decide) ?_
        refine pd_iald dX12_joining_75 hg26 ?_
        exact pd_weak (L' := [pd_R x0, pd_I x1, pd_I x2, pd_J r23, pd_N, pd_N, pd_N, pd_N, pd_N, pd_N, pd_N]) ⟨Or.inr rfl, Or.inr rfl, Or.inr rfl, Or.inr rfl, Or.inr rfl, Or.inr rfl, Or.inr rfl, Or.inr rfl, Or.inr rfl, Or.inr rfl, Or.inr rfl, trivial⟩ (pkX12_joining_b76 E l _ _ _ _ _ _ hf)
      · have hf := pd_iq hf hc
        refine pd_aload_n (i := 0) dX12_joining_62 rfl rfl ?_
        obtain ⟨r28, F27, hr, hf⟩ := pd_ob2 hf
        refine pd_callV (pkX12_replaceable l hr) dX12_joining_63 pq_1075 pq_1078 pq_1079 (show vwCl[12]? = some (yX12_replaceable.cls, TX12, 52) from rfl) hg21 (pd_okm (by omega) (by decide) pq_1076 pq_1077 (by decide) (show (parseMethodDescriptor yX12_replaceable.desc).map (fun d => d.parameters.length) = some 0 from by decide +kernel)) (Nat.le_of_ble_eq_true rfl) rfl ?_
        refine pd_goto (tgt := 76) dX12_joining_66 (by decide) ?_
        exact pd_weak (L' := [pd_R x0, pd_I x1, pd_I x2, pd_J r23, pd_N, pd_N, pd_N, pd_N, pd_N, pd_N, pd_N]) ⟨Or.inr rfl, Or.inr rfl, Or.inr rfl, Or.inr rfl, Or.inr rfl, Or.inr rfl, Or.inr rfl, Or.inr rfl, Or.inr rfl, Or.inr rfl, Or.inr rfl, trivial⟩ (pkX12_joining_b76 E l _ _ _ _ _ _ hf)
    · have hf := pd_iq hf hc
      refine pd_lconst (x := 0) dX12_joining_48 (by decide) ?_
      obtain ⟨h1, h2⟩ := pd_inj hf
      subst h1 h2
      exact pd_lret dX12_joining_49 rfl (Nat.le_refl 0) (Nat.le_refl 0)
  · have hf := pd_iq hf hc
    refine pd_lconst (x := 0) dX12_joining_26 (by decide) ?_
    obtain ⟨h1, h2⟩ := pd_inj hf
    subst h1 h2
    exact pd_lret dX12_joining_27 rfl (Nat.le_refl 0) (Nat.le_refl 0)
set_option maxHeartbeats 4000000 in
set_option maxRecDepth 100000 in
theorem pkX12_joining (l : Launch) {sh : pd_S} {n : Nat} {F : pd_F} {x0 : Int} {x1 : Int} {x2 : Int} {ρ : Int} {Fz : pd_F} (hf : pfX12_joining sh n F x0 x1 x2 = some (ρ, Fz)) : pd_C l yX12_joining (Cond.code yX12_joining cX12_joining 11 (some .long) :: pd_gt) (pd_rm 13 0 0) false 0 0 sh F [pd_R x0, pd_I x1, pd_I x2] (some (pd_J ρ)) sh Fz := by
  unfold pfX12_joining at hf
  refine pd_body (L := [pd_R x0, pd_I x1, pd_I x2, pd_N, pd_N, pd_N, pd_N, pd_N, pd_N, pd_N, pd_N]) (by decide +kernel) (Nat.le_of_ble_eq_true rfl) rfl (fun E => ?_)
  refine pd_aload_n (i := 0) dX12_joining_0 rfl rfl ?_
  refine pd_aload_n (i := 0) dX12_joining_1 rfl rfl ?_
  refine pd_iload_n (i := 1) dX12_joining_2 rfl rfl ?_
  refine pd_iload_n (i := 2) dX12_joining_3 rfl rfl ?_
  obtain ⟨hg31, hf⟩ := pd_ig hf
  obtain ⟨r30, F29, hr, hf⟩ := pd_ob2 hf
  refine pd_callV (pkX12_isTwo l hr) dX12_joining_4 pq_1001 pq_1004 pq_1005 (show vwCl[12]? = some (yX12_isTwo.cls, TX12, 52) from rfl) hg31 (pd_okm (by omega) (by decide) pq_1002 pq_1003 (by decide) (show (parseMethodDescriptor yX12_isTwo.desc).map (fun d => d.parameters.length) = some 2 from by decide +kernel)) (Nat.le_of_ble_eq_true rfl) rfl ?_
  refine pd_if_eq (tgt := 14) dX12_joining_7 (by decide) (fun hc => ?_) (fun hc => ?_)
  · have hf := pd_ip hf hc
    refine pd_iconst dX12_joining_14 (by decide) ?_
    exact pd_weak (L' := [pd_R x0, pd_I x1, pd_I x2, pd_N, pd_N, pd_N, pd_N, pd_N, pd_N, pd_N, pd_N]) ⟨Or.inr rfl, Or.inr rfl, Or.inr rfl, Or.inr rfl, Or.inr rfl, Or.inr rfl, Or.inr rfl, Or.inr rfl, Or.inr rfl, Or.inr rfl, Or.inr rfl, trivial⟩ (pkX12_joining_b15 E l _ _ _ _ _ _ hf)
  · have hf := pd_in_ hf hc
    refine pd_iconst dX12_joining_10 (by decide) ?_
    refine pd_goto (tgt := 15) dX12_joining_11 (by decide) ?_
    exact pd_weak (L' := [pd_R x0, pd_I x1, pd_I x2, pd_N, pd_N, pd_N, pd_N, pd_N, pd_N, pd_N, pd_N]) ⟨Or.inr rfl, Or.inr rfl, Or.inr rfl, Or.inr rfl, Or.inr rfl, Or.inr rfl, Or.inr rfl, Or.inr rfl, Or.inr rfl, Or.inr rfl, Or.inr rfl, trivial⟩ (pkX12_joining_b15 E l _ _ _ _ _ _ hf)
set_option maxHeartbeats 4000000 in
set_option maxRecDepth 100000 in
theorem pkX12_onDay (l : Launch) {sh : pd_S} {n : Nat} {F : pd_F} {x0 : Int} {x1 : Int} {ρ : Int} {Fz : pd_F} (hf : pfX12_onDay sh n F x0 x1 = some (ρ, Fz)) : pd_C l yX12_onDay (Cond.code yX12_onDay cX12_onDay 2 (some .long) :: pd_gt) (pd_rm 14 0 0) false 0 0 sh F [pd_R x0, pd_I x1] (some (pd_J ρ)) sh Fz := by
  unfold pfX12_onDay at hf
  refine pd_body (L := [pd_R x0, pd_I x1]) (by decide +kernel) (Nat.le_of_ble_eq_true rfl) rfl (fun E => ?_)
  refine pd_aload_n (i := 0) dX12_onDay_0 rfl rfl ?_
  refine pd_iconst dX12_onDay_1 (by decide) ?_
  obtain ⟨hg1, hf⟩ := pd_ig hf
  refine pd_put (n := 0) (x := pd_I 0) 0 dX12_onDay_2 (show vwCl[12]? = some (RX12, TX12, 52) from rfl) pin_12 tyX12_ok nmX12 (by decide) pq_704 rfl hg1 rfl pd_nrI pd_ftI ?_
  refine pd_topF (fun F2 eF2 => ?_)
  have hf := pd_lt hf eF2
  clear eF2
  refine pd_iload_n (i := 1) dX12_onDay_5 rfl rfl ?_
  refine pd_i2l dX12_onDay_6 ?_
  refine pd_lconst (x := 0) dX12_onDay_7 (by decide) ?_
  refine pd_ldc2 (x := 999) dX12_onDay_8 pq_916 (by decide +kernel) ?_
  obtain ⟨r4, F3, hr, hf⟩ := pd_ob2 hf
  refine pd_callS (pkX12_within l hr) dX12_onDay_11 pq_738 pq_741 (pd_okm (by omega) (by decide) pq_739 pq_740 (by decide) (show (parseMethodDescriptor yX12_within.desc).map (fun d => d.parameters.length) = some 3 from by decide +kernel)) (Nat.le_of_ble_eq_true rfl) rfl ?_
  refine pd_if_eq (tgt := 25) dX12_onDay_14 (by decide) (fun hc => ?_) (fun hc => ?_)
  · have hf := pd_ip hf hc
    refine pd_ldc2 (x := (-1)) dX12_onDay_25 pq_1050 (by decide +kernel) ?_
    obtain ⟨h1, h2⟩ := pd_inj hf
    subst h1 h2
    exact pd_lret dX12_onDay_28 rfl (Nat.le_refl 0) (Nat.le_refl 0)
  · have hf := pd_in_ hf hc
    refine pd_aload_n (i := 0) dX12_onDay_17 rfl rfl ?_
    refine pd_iload_n (i := 1) dX12_onDay_18 rfl rfl ?_
    obtain ⟨r6, F5, hr, hf⟩ := pd_ob2 hf
    refine pd_callV (pkX12_paidOn l hr) dX12_onDay_19 pq_1080 pq_1083 pq_1084 (show vwCl[12]? = some (yX12_paidOn.cls, TX12, 52) from rfl) hg1 (pd_okm (by omega) (by decide) pq_1081 pq_1082 (by decide) (show (parseMethodDescriptor yX12_paidOn.desc).map (fun d => d.parameters.length) = some 1 from by decide +kernel)) (Nat.le_of_ble_eq_true rfl) rfl ?_
    refine pd_goto (tgt := 28) dX12_onDay_22 (by decide) ?_
    obtain ⟨h1, h2⟩ := pd_inj hf
    subst h1 h2
    exact pd_lret dX12_onDay_28 rfl (Nat.le_refl 0) (Nat.le_refl 0)
set_option maxHeartbeats 4000000 in
set_option maxRecDepth 100000 in
theorem pkX12_bestDay_b104 (E : pd_E) (l : Launch) {sh : pd_S} {n : Nat} {ρ : Int} {Fz : pd_F} {c51 : pd_F → Int → Int → Int → Int → Int → Int → Option (Int × pd_F)} (hL51 : ∀ (F : pd_F) (x0 : Int) (x2 : Int) (x3 : Int) (x4 : Int) (x5 : Int) (x7 : Int), c51 F x0 x2 x3 x4 x5 x7 = some (ρ, Fz) → pd_V E l (pd_rm 14 0 0) (RX12, cX12_bestDay, 10, (some .int), "bestDay") (pd_Qm E false (some (pd_I ρ)) sh Fz 0 0) false 0 0 sh F 51 [pd_R x0, pd_N, pd_I x2, pd_I x3, pd_I x4, pd_J x5, pd_N, pd_I x7, pd_N, pd_N] []) (F : pd_F) (x0 : Int) (x2 : Int) (x3 : Int) (x4 : Int) (x5 : Int) (x7 : Int) (hf : pfX12_bestDay_b104 sh n c51 F x0 x2 x3 x4 x5 x7 = some (ρ, Fz)) : pd_V E l (pd_rm 14 0 0) (RX12, cX12_bestDay, 10, (some .int), "bestDay") (pd_Qm E false (some (pd_I ρ)) sh Fz 0 0) false 0 0 sh F 104 [pd_R x0, pd_N, pd_I x2, pd_I x3, pd_I x4, pd_J x5, pd_N, pd_I x7, pd_N, pd_N] [] := by
  unfold pfX12_bestDay_b104 at hf
  refine pd_iincN (L' := fun y => [pd_R x0, pd_N, pd_I x2, pd_I x3, pd_I x4, pd_J x5, pd_N, pd_I y, pd_N, pd_N]) dX12_bestDay_104 rfl (by decide) (by decide) (fun _ => rfl) (fun x7_104 ex7_104 => ?_)
  have hf := pd_lt hf ex7_104
  clear ex7_104
  refine pd_goto (tgt := 51) dX12_bestDay_107 (by decide) ?_
  exact pd_weak (L' := [pd_R x0, pd_N, pd_I x2, pd_I x3, pd_I x4, pd_J x5, pd_N, pd_I x7_104, pd_N, pd_N]) ⟨Or.inr rfl, Or.inr rfl, Or.inr rfl, Or.inr rfl, Or.inr rfl, Or.inr rfl, Or.inr rfl, Or.inr rfl, Or.inr rfl, Or.inr rfl, trivial⟩ (hL51 _ _ _ _ _ _ _ hf)
set_option maxHeartbeats 4000000 in
set_option maxRecDepth 100000 in
theorem pkX12_bestDay_b96 (E : pd_E) (l : Launch) {sh : pd_S} {n : Nat} {ρ : Int} {Fz : pd_F} {c51 : pd_F → Int → Int → Int → Int → Int → Int → Option (Int × pd_F)} (hL51 : ∀ (F : pd_F) (x0 : Int) (x2 : Int) (x3 : Int) (x4 : Int) (x5 : Int) (x7 : Int), c51 F x0 x2 x3 x4 x5 x7 = some (ρ, Fz) → pd_V E l (pd_rm 14 0 0) (RX12, cX12_bestDay, 10, (some .int), "bestDay") (pd_Qm E false (some (pd_I ρ)) sh Fz 0 0) false 0 0 sh F 51 [pd_R x0, pd_N, pd_I x2, pd_I x3, pd_I x4, pd_J x5, pd_N, pd_I x7, pd_N, pd_N] []) (F : pd_F) (x0 : Int) (x2 : Int) (x3 : Int) (x7 : Int) (x8 : Int) (hf : pfX12_bestDay_b96 sh n c51 F x0 x2 x3 x7 x8 = some (ρ, Fz)) : pd_V E l (pd_rm 14 0 0) (RX12, cX12_bestDay, 10, (some .int), "bestDay") (pd_Qm E false (some (pd_I ρ)) sh Fz 0 0) false 0 0 sh F 96 [pd_R x0, pd_N, pd_I x2, pd_I x3, pd_N, pd_N, pd_N, pd_I x7, pd_J x8, pd_N] [] := by
  unfold pfX12_bestDay_b96 at hf
  refine pd_iload (i := 7) dX12_bestDay_96 rfl ?_
  refine pd_istore (L' := [pd_R x0, pd_N, pd_I x2, pd_I x3, pd_I x7, pd_N, pd_N, pd_I x7, pd_J x8, pd_N]) dX12_bestDay_98 (by decide) rfl ?_
  refine pd_lload (i := 8) dX12_bestDay_100 rfl ?_
  refine pd_lstore (L' := [pd_R x0, pd_N, pd_I x2, pd_I x3, pd_I x7, pd_J x8, pd_N, pd_I x7, pd_J x8, pd_N]) dX12_bestDay_102 (by decide) rfl ?_
  exact pd_weak (L' := [pd_R x0, pd_N, pd_I x2, pd_I x3, pd_I x7, pd_J x8, pd_N, pd_I x7, pd_N, pd_N]) ⟨Or.inr rfl, Or.inr rfl, Or.inr rfl, Or.inr rfl, Or.inr rfl, Or.inr rfl, Or.inr rfl, Or.inr rfl, Or.inl rfl, Or.inr rfl, trivial⟩ (pkX12_bestDay_b104 E l hL51 _ _ _ _ _ _ _ hf)
set_option maxHeartbeats 4000000 in
set_option maxRecDepth 100000 in
theorem pkX12_bestDay_b51 (E : pd_E) (l : Launch) {sh : pd_S} {n : Nat} {ρ : Int} {Fz : pd_F}  : ∀ (k : Nat) (F : pd_F) (x0 : Int) (x2 : Int) (x3 : Int) (x4 : Int) (x5 : Int) (x7 : Int), pfX12_bestDay_b51 sh n  k F x0 x2 x3 x4 x5 x7 = some (ρ, Fz) → pd_V E l (pd_rm 14 0 0) (RX12, cX12_bestDay, 10, (some .int), "bestDay") (pd_Qm E false (some (pd_I ρ)) sh Fz 0 0) false 0 0 sh F 51 [pd_R x0, pd_N, pd_I x2, pd_I x3, pd_I x4, pd_J x5, pd_N, pd_I x7, pd_N, pd_N] [] := by
  intro k
  induction k with
  | zero => intro F x0 x2 x3 x4 x5 x7 hf; exact absurd hf (by unfold pfX12_bestDay_b51; exact fun h => nomatch h)
  | succ k ih =>
    intro F x0 x2 x3 x4 x5 x7 hf
    unfold pfX12_bestDay_b51 at hf
    refine pd_iload (i := 7) dX12_bestDay_51 rfl ?_
    refine pd_iload_n (i := 2) dX12_bestDay_53 rfl rfl ?_
    refine pd_icmp_gt (tgt := 110) dX12_bestDay_54 (by decide) (fun hc => ?_) (fun hc => ?_)
    · have hf := pd_ip hf hc
      refine pd_iload (i := 4) dX12_bestDay_110 rfl ?_
      obtain ⟨h1, h2⟩ := pd_inj hf
      subst h1 h2
      exact pd_iret dX12_bestDay_112 rfl (Nat.le_refl 0) (Nat.le_refl 0)
    · have hf := pd_in_ hf hc
      refine pd_aload_n (i := 0) dX12_bestDay_57 rfl rfl ?_
      refine pd_iload (i := 7) dX12_bestDay_58 rfl ?_
      obtain ⟨hg3, hf⟩ := pd_ig hf
      obtain ⟨r2, F1, hr, hf⟩ := pd_ob2 hf
      refine pd_callV (pkX12_paidOn l hr) dX12_bestDay_60 pq_1080 pq_1083 pq_1084 (show vwCl[12]? = some (yX12_paidOn.cls, TX12, 52) from rfl) hg3 (pd_okm (by omega) (by decide) pq_1081 pq_1082 (by decide) (show (parseMethodDescriptor yX12_paidOn.desc).map (fun d => d.parameters.length) = some 1 from by decide +kernel)) (Nat.le_of_ble_eq_true rfl) rfl ?_
      refine pd_lstore (L' := [pd_R x0, pd_N, pd_I x2, pd_I x3, pd_I x4, pd_J x5, pd_N, pd_I x7, pd_J r2, pd_N]) dX12_bestDay_63 (by decide) rfl ?_
      refine pd_iload (i := 4) dX12_bestDay_65 rfl ?_
      refine pd_if_lt (tgt := 96) dX12_bestDay_67 (by decide) (fun hc => ?_) (fun hc => ?_)
      · have hf := pd_ip hf hc
        exact pd_weak (L' := [pd_R x0, pd_N, pd_I x2, pd_I x3, pd_N, pd_N, pd_N, pd_I x7, pd_J r2, pd_N]) ⟨Or.inr rfl, Or.inr rfl, Or.inr rfl, Or.inr rfl, Or.inl rfl, Or.inl rfl, Or.inr rfl, Or.inr rfl, Or.inr rfl, Or.inr rfl, trivial⟩ (pkX12_bestDay_b96 E l ih _ _ _ _ _ _ hf)
      · have hf := pd_in_ hf hc
        refine pd_iload_n (i := 3) dX12_bestDay_70 rfl rfl ?_
        refine pd_if_ne (tgt := 85) dX12_bestDay_71 (by decide) (fun hc => ?_) (fun hc => ?_)
        · have hf := pd_ip hf hc
          refine pd_lload (i := 8) dX12_bestDay_85 rfl ?_
          refine pd_lload (i := 5) dX12_bestDay_87 rfl ?_
          refine pd_lcmp_gt (tgt := 96) dX12_bestDay_89 dX12_bestDay_90 (by decide) (fun hc => ?_) (fun hc => ?_)
          · have hf := pd_ip hf hc
            exact pd_weak (L' := [pd_R x0, pd_N, pd_I x2, pd_I x3, pd_N, pd_N, pd_N, pd_I x7, pd_J r2, pd_N]) ⟨Or.inr rfl, Or.inr rfl, Or.inr rfl, Or.inr rfl, Or.inl rfl, Or.inl rfl, Or.inr rfl, Or.inr rfl, Or.inr rfl, Or.inr rfl, trivial⟩ (pkX12_bestDay_b96 E l ih _ _ _ _ _ _ hf)
          · have hf := pd_in_ hf hc
            refine pd_goto (tgt := 104) dX12_bestDay_93 (by decide) ?_
            exact pd_weak (L' := [pd_R x0, pd_N, pd_I x2, pd_I x3, pd_I x4, pd_J x5, pd_N, pd_I x7, pd_N, pd_N]) ⟨Or.inr rfl, Or.inr rfl, Or.inr rfl, Or.inr rfl, Or.inr rfl, Or.inr rfl, Or.inr rfl, Or.inr rfl, Or.inl rfl, Or.inr rfl, trivial⟩ (pkX12_bestDay_b104 E l ih _ _ _ _ _ _ _ hf)
        · have hf := pd_iq hf hc
          refine pd_lload (i := 8) dX12_bestDay_74 rfl ?_
          refine pd_lload (i := 5) dX12_bestDay_76 rfl ?_
          refine pd_lcmp_lt (tgt := 96) dX12_bestDay_78 dX12_bestDay_79 (by decide) (fun hc => ?_) (fun hc => ?_)
          · have hf := pd_ip hf hc
            exact pd_weak (L' := [pd_R x0, pd_N, pd_I x2, pd_I x3, pd_N, pd_N, pd_N, pd_I x7, pd_J r2, pd_N]) ⟨Or.inr rfl, Or.inr rfl, Or.inr rfl, Or.inr rfl, Or.inl rfl, Or.inl rfl, Or.inr rfl, Or.inr rfl, Or.inr rfl, Or.inr rfl, trivial⟩ (pkX12_bestDay_b96 E l ih _ _ _ _ _ _ hf)
          · have hf := pd_in_ hf hc
            refine pd_goto (tgt := 104) dX12_bestDay_82 (by decide) ?_
            exact pd_weak (L' := [pd_R x0, pd_N, pd_I x2, pd_I x3, pd_I x4, pd_J x5, pd_N, pd_I x7, pd_N, pd_N]) ⟨Or.inr rfl, Or.inr rfl, Or.inr rfl, Or.inr rfl, Or.inr rfl, Or.inr rfl, Or.inr rfl, Or.inr rfl, Or.inl rfl, Or.inr rfl, trivial⟩ (pkX12_bestDay_b104 E l ih _ _ _ _ _ _ _ hf)
set_option maxHeartbeats 4000000 in
set_option maxRecDepth 100000 in
theorem pkX12_bestDay (l : Launch) {sh : pd_S} {n : Nat} {F : pd_F} {x0 : Int} {x1 : Int} {x2 : Int} {x3 : Int} {ρ : Int} {Fz : pd_F} (hf : pfX12_bestDay sh n F x0 x1 x2 x3 = some (ρ, Fz)) : pd_C l yX12_bestDay (Cond.code yX12_bestDay cX12_bestDay 10 (some .int) :: pd_gt) (pd_rm 14 0 0) false 0 0 sh F [pd_R x0, pd_I x1, pd_I x2, pd_I x3] (some (pd_I ρ)) sh Fz := by
  unfold pfX12_bestDay at hf
  refine pd_body (L := [pd_R x0, pd_I x1, pd_I x2, pd_I x3, pd_N, pd_N, pd_N, pd_N, pd_N, pd_N]) (by decide +kernel) (Nat.le_of_ble_eq_true rfl) rfl (fun E => ?_)
  refine pd_aload_n (i := 0) dX12_bestDay_0 rfl rfl ?_
  refine pd_iconst dX12_bestDay_1 (by decide) ?_
  obtain ⟨hg4, hf⟩ := pd_ig hf
  refine pd_put (n := 0) (x := pd_I 0) 0 dX12_bestDay_2 (show vwCl[12]? = some (RX12, TX12, 52) from rfl) pin_12 tyX12_ok nmX12 (by decide) pq_704 rfl hg4 rfl pd_nrI pd_ftI ?_
  refine pd_topF (fun F5 eF5 => ?_)
  have hf := pd_lt hf eF5
  clear eF5
  refine pd_iload_n (i := 1) dX12_bestDay_5 rfl rfl ?_
  refine pd_i2l dX12_bestDay_6 ?_
  refine pd_lconst (x := 0) dX12_bestDay_7 (by decide) ?_
  refine pd_ldc2 (x := 999) dX12_bestDay_8 pq_916 (by decide +kernel) ?_
  obtain ⟨r7, F6, hr, hf⟩ := pd_ob2 hf
  refine pd_callS (pkX12_within l hr) dX12_bestDay_11 pq_738 pq_741 (pd_okm (by omega) (by decide) pq_739 pq_740 (by decide) (show (parseMethodDescriptor yX12_within.desc).map (fun d => d.parameters.length) = some 3 from by decide +kernel)) (Nat.le_of_ble_eq_true rfl) rfl ?_
  refine pd_if_eq (tgt := 40) dX12_bestDay_14 (by decide) (fun hc => ?_) (fun hc => ?_)
  · have hf := pd_ip hf hc
    refine pd_iconst dX12_bestDay_40 (by decide) ?_
    obtain ⟨h1, h2⟩ := pd_inj hf
    subst h1 h2
    exact pd_iret dX12_bestDay_41 rfl (Nat.le_refl 0) (Nat.le_refl 0)
  · have hf := pd_in_ hf hc
    refine pd_iload_n (i := 2) dX12_bestDay_17 rfl rfl ?_
    refine pd_i2l dX12_bestDay_18 ?_
    refine pd_iload_n (i := 1) dX12_bestDay_19 rfl rfl ?_
    refine pd_i2l dX12_bestDay_20 ?_
    refine pd_ldc2 (x := 999) dX12_bestDay_21 pq_916 (by decide +kernel) ?_
    obtain ⟨r9, F8, hr, hf⟩ := pd_ob2 hf
    refine pd_callS (pkX12_within l hr) dX12_bestDay_24 pq_738 pq_741 (pd_okm (by omega) (by decide) pq_739 pq_740 (by decide) (show (parseMethodDescriptor yX12_within.desc).map (fun d => d.parameters.length) = some 3 from by decide +kernel)) (Nat.le_of_ble_eq_true rfl) rfl ?_
    refine pd_if_eq (tgt := 40) dX12_bestDay_27 (by decide) (fun hc => ?_) (fun hc => ?_)
    · have hf := pd_ip hf hc
      refine pd_iconst dX12_bestDay_40 (by decide) ?_
      obtain ⟨h1, h2⟩ := pd_inj hf
      subst h1 h2
      exact pd_iret dX12_bestDay_41 rfl (Nat.le_refl 0) (Nat.le_refl 0)
    · have hf := pd_in_ hf hc
      refine pd_iload_n (i := 3) dX12_bestDay_30 rfl rfl ?_
      refine pd_i2l dX12_bestDay_31 ?_
      refine pd_lconst (x := 0) dX12_bestDay_32 (by decide) ?_
      refine pd_lconst (x := 1) dX12_bestDay_33 (by decide) ?_
      obtain ⟨r11, F10, hr, hf⟩ := pd_ob2 hf
      refine pd_callS (pkX12_within l hr) dX12_bestDay_34 pq_738 pq_741 (pd_okm (by omega) (by decide) pq_739 pq_740 (by decide) (show (parseMethodDescriptor yX12_within.desc).map (fun d => d.parameters.length) = some 3 from by decide +kernel)) (Nat.le_of_ble_eq_true rfl) rfl ?_
      refine pd_if_ne (tgt := 42) dX12_bestDay_37 (by decide) (fun hc => ?_) (fun hc => ?_)
      · have hf := pd_ip hf hc
        refine pd_iconst dX12_bestDay_42 (by decide) ?_
        refine pd_istore (L' := [pd_R x0, pd_I x1, pd_I x2, pd_I x3, pd_I (-1), pd_N, pd_N, pd_N, pd_N, pd_N]) dX12_bestDay_43 (by decide) rfl ?_
        refine pd_lconst (x := 0) dX12_bestDay_45 (by decide) ?_
        refine pd_lstore (L' := [pd_R x0, pd_I x1, pd_I x2, pd_I x3, pd_I (-1), pd_J 0, pd_N, pd_N, pd_N, pd_N]) dX12_bestDay_46 (by decide) rfl ?_
        refine pd_iload_n (i := 1) dX12_bestDay_48 rfl rfl ?_
        refine pd_istore (L' := [pd_R x0, pd_I x1, pd_I x2, pd_I x3, pd_I (-1), pd_J 0, pd_N, pd_I x1, pd_N, pd_N]) dX12_bestDay_49 (by decide) rfl ?_
        exact pd_weak (L' := [pd_R x0, pd_N, pd_I x2, pd_I x3, pd_I (-1), pd_J 0, pd_N, pd_I x1, pd_N, pd_N]) ⟨Or.inr rfl, Or.inl rfl, Or.inr rfl, Or.inr rfl, Or.inr rfl, Or.inr rfl, Or.inr rfl, Or.inr rfl, Or.inr rfl, Or.inr rfl, trivial⟩ (pkX12_bestDay_b51 E l n _ _ _ _ _ _ _ hf)
      · have hf := pd_iq hf hc
        refine pd_iconst dX12_bestDay_40 (by decide) ?_
        obtain ⟨h1, h2⟩ := pd_inj hf
        subst h1 h2
        exact pd_iret dX12_bestDay_41 rfl (Nat.le_refl 0) (Nat.le_refl 0)
