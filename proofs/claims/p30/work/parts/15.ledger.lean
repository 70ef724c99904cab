theorem dX4_setOff_0 : decode cX4_setOff 0 = .ok (.aload_n 0, 1) := by decide +kernel
theorem dX4_setOff_1 : decode cX4_setOff 1 = .ok (.getfield 22, 3) := by decide +kernel
theorem dX4_setOff_4 : decode cX4_setOff 4 = .ok (.iload_n 1, 1) := by decide +kernel
theorem dX4_setOff_5 : decode cX4_setOff 5 = .ok (.laload, 1) := by decide +kernel
theorem dX4_setOff_6 : decode cX4_setOff 6 = .ok (.aload_n 0, 1) := by decide +kernel
theorem dX4_setOff_7 : decode cX4_setOff 7 = .ok (.getfield 18, 3) := by decide +kernel
theorem dX4_setOff_10 : decode cX4_setOff 10 = .ok (.iload_n 1, 1) := by decide +kernel
theorem dX4_setOff_11 : decode cX4_setOff 11 = .ok (.laload, 1) := by decide +kernel
theorem dX4_setOff_12 : decode cX4_setOff 12 = .ok (.invokestatic 104, 3) := by decide +kernel
theorem dX4_setOff_15 : decode cX4_setOff 15 = .ok (.lreturn, 1) := by decide +kernel
theorem dX4_net_0 : decode cX4_net 0 = .ok (.aload_n 0, 1) := by decide +kernel
theorem dX4_net_1 : decode cX4_net 1 = .ok (.getfield 18, 3) := by decide +kernel
theorem dX4_net_4 : decode cX4_net 4 = .ok (.iload_n 1, 1) := by decide +kernel
theorem dX4_net_5 : decode cX4_net 5 = .ok (.laload, 1) := by decide +kernel
theorem dX4_net_6 : decode cX4_net 6 = .ok (.aload_n 0, 1) := by decide +kernel
theorem dX4_net_7 : decode cX4_net 7 = .ok (.getfield 22, 3) := by decide +kernel
theorem dX4_net_10 : decode cX4_net 10 = .ok (.iload_n 1, 1) := by decide +kernel
theorem dX4_net_11 : decode cX4_net 11 = .ok (.laload, 1) := by decide +kernel
theorem dX4_net_12 : decode cX4_net 12 = .ok (.lsub, 1) := by decide +kernel
theorem dX4_net_13 : decode cX4_net 13 = .ok (.lconst 0, 1) := by decide +kernel
theorem dX4_net_14 : decode cX4_net 14 = .ok (.invokestatic 110, 3) := by decide +kernel
theorem dX4_net_17 : decode cX4_net 17 = .ok (.lreturn, 1) := by decide +kernel
theorem dX4_limit_0 : decode cX4_limit 0 = .ok (.lload_n 2, 1) := by decide +kernel
theorem dX4_limit_1 : decode cX4_limit 1 = .ok (.aload_n 0, 1) := by decide +kernel
theorem dX4_limit_2 : decode cX4_limit 2 = .ok (.getfield 25, 3) := by decide +kernel
theorem dX4_limit_5 : decode cX4_limit 5 = .ok (.iload_n 1, 1) := by decide +kernel
theorem dX4_limit_6 : decode cX4_limit 6 = .ok (.laload, 1) := by decide +kernel
theorem dX4_limit_7 : decode cX4_limit 7 = .ok (.aload_n 0, 1) := by decide +kernel
theorem dX4_limit_8 : decode cX4_limit 8 = .ok (.getfield 42, 3) := by decide +kernel
theorem dX4_limit_11 : decode cX4_limit 11 = .ok (.invokestatic 104, 3) := by decide +kernel
theorem dX4_limit_14 : decode cX4_limit 14 = .ok (.ladd, 1) := by decide +kernel
theorem dX4_limit_15 : decode cX4_limit 15 = .ok (.lreturn, 1) := by decide +kernel
theorem dX4_hasTogether_0 : decode cX4_hasTogether 0 = .ok (.lconst 0, 1) := by decide +kernel
theorem dX4_hasTogether_1 : decode cX4_hasTogether 1 = .ok (.lstore_n 1, 1) := by decide +kernel
theorem dX4_hasTogether_2 : decode cX4_hasTogether 2 = .ok (.iconst 0, 1) := by decide +kernel
theorem dX4_hasTogether_3 : decode cX4_hasTogether 3 = .ok (.istore_n 3, 1) := by decide +kernel
theorem dX4_hasTogether_4 : decode cX4_hasTogether 4 = .ok (.iload_n 3, 1) := by decide +kernel
theorem dX4_hasTogether_5 : decode cX4_hasTogether 5 = .ok (.aload_n 0, 1) := by decide +kernel
theorem dX4_hasTogether_6 : decode cX4_hasTogether 6 = .ok (.getfield 12, 3) := by decide +kernel
theorem dX4_hasTogether_9 : decode cX4_hasTogether 9 = .ok (.getfield 124, 3) := by decide +kernel
theorem dX4_hasTogether_12 : decode cX4_hasTogether 12 = .ok (.if_icmp .ge 18, 3) := by decide +kernel
theorem dX4_hasTogether_15 : decode cX4_hasTogether 15 = .ok (.lload_n 1, 1) := by decide +kernel
theorem dX4_hasTogether_16 : decode cX4_hasTogether 16 = .ok (.aload_n 0, 1) := by decide +kernel
theorem dX4_hasTogether_17 : decode cX4_hasTogether 17 = .ok (.getfield 18, 3) := by decide +kernel
theorem dX4_hasTogether_20 : decode cX4_hasTogether 20 = .ok (.iload_n 3, 1) := by decide +kernel
theorem dX4_hasTogether_21 : decode cX4_hasTogether 21 = .ok (.laload, 1) := by decide +kernel
theorem dX4_hasTogether_22 : decode cX4_hasTogether 22 = .ok (.ladd, 1) := by decide +kernel
theorem dX4_hasTogether_23 : decode cX4_hasTogether 23 = .ok (.lstore_n 1, 1) := by decide +kernel
theorem dX4_hasTogether_24 : decode cX4_hasTogether 24 = .ok (.iinc 3 1, 3) := by decide +kernel
theorem dX4_hasTogether_27 : decode cX4_hasTogether 27 = .ok (.goto (-23), 3) := by decide +kernel
theorem dX4_hasTogether_30 : decode cX4_hasTogether 30 = .ok (.lload_n 1, 1) := by decide +kernel
theorem dX4_hasTogether_31 : decode cX4_hasTogether 31 = .ok (.lreturn, 1) := by decide +kernel
theorem dX4_addPerson_0 : decode cX4_addPerson 0 = .ok (.aload_n 0, 1) := by decide +kernel
theorem dX4_addPerson_1 : decode cX4_addPerson 1 = .ok (.getfield 28, 3) := by decide +kernel
theorem dX4_addPerson_4 : decode cX4_addPerson 4 = .ok (.iload 5, 2) := by decide +kernel
theorem dX4_addPerson_6 : decode cX4_addPerson 6 = .ok (.aload_n 0, 1) := by decide +kernel
theorem dX4_addPerson_7 : decode cX4_addPerson 7 = .ok (.getfield 28, 3) := by decide +kernel
theorem dX4_addPerson_10 : decode cX4_addPerson 10 = .ok (.iload 5, 2) := by decide +kernel
theorem dX4_addPerson_12 : decode cX4_addPerson 12 = .ok (.baload, 1) := by decide +kernel
theorem dX4_addPerson_13 : decode cX4_addPerson 13 = .ok (.ifCond .ne 16, 3) := by decide +kernel
theorem dX4_addPerson_16 : decode cX4_addPerson 16 = .ok (.aload_n 1, 1) := by decide +kernel
theorem dX4_addPerson_17 : decode cX4_addPerson 17 = .ok (.getfield 58, 3) := by decide +kernel
theorem dX4_addPerson_20 : decode cX4_addPerson 20 = .ok (.iload 4, 2) := by decide +kernel
theorem dX4_addPerson_22 : decode cX4_addPerson 22 = .ok (.aaload, 1) := by decide +kernel
theorem dX4_addPerson_23 : decode cX4_addPerson 23 = .ok (.getfield 62, 3) := by decide +kernel
theorem dX4_addPerson_26 : decode cX4_addPerson 26 = .ok (.ifCond .eq 7, 3) := by decide +kernel
theorem dX4_addPerson_29 : decode cX4_addPerson 29 = .ok (.iconst 1, 1) := by decide +kernel
theorem dX4_addPerson_30 : decode cX4_addPerson 30 = .ok (.goto 4, 3) := by decide +kernel
theorem dX4_addPerson_33 : decode cX4_addPerson 33 = .ok (.iconst 0, 1) := by decide +kernel
theorem dX4_addPerson_34 : decode cX4_addPerson 34 = .ok (.bastore, 1) := by decide +kernel
theorem dX4_addPerson_35 : decode cX4_addPerson 35 = .ok (.iconst 0, 1) := by decide +kernel
theorem dX4_addPerson_36 : decode cX4_addPerson 36 = .ok (.istore 6, 2) := by decide +kernel
theorem dX4_addPerson_38 : decode cX4_addPerson 38 = .ok (.iload 6, 2) := by decide +kernel
theorem dX4_addPerson_40 : decode cX4_addPerson 40 = .ok (.aload_n 1, 1) := by decide +kernel
theorem dX4_addPerson_41 : decode cX4_addPerson 41 = .ok (.getfield 67, 3) := by decide +kernel
theorem dX4_addPerson_44 : decode cX4_addPerson 44 = .ok (.if_icmp .ge 30, 3) := by decide +kernel
theorem dX4_addPerson_47 : decode cX4_addPerson 47 = .ok (.aload_n 0, 1) := by decide +kernel
theorem dX4_addPerson_48 : decode cX4_addPerson 48 = .ok (.getfield 18, 3) := by decide +kernel
theorem dX4_addPerson_51 : decode cX4_addPerson 51 = .ok (.iload 5, 2) := by decide +kernel
theorem dX4_addPerson_53 : decode cX4_addPerson 53 = .ok (.dup2, 1) := by decide +kernel
theorem dX4_addPerson_54 : decode cX4_addPerson 54 = .ok (.laload, 1) := by decide +kernel
theorem dX4_addPerson_55 : decode cX4_addPerson 55 = .ok (.aload_n 3, 1) := by decide +kernel
theorem dX4_addPerson_56 : decode cX4_addPerson 56 = .ok (.getfield 70, 3) := by decide +kernel
theorem dX4_addPerson_59 : decode cX4_addPerson 59 = .ok (.iload 6, 2) := by decide +kernel
theorem dX4_addPerson_61 : decode cX4_addPerson 61 = .ok (.aaload, 1) := by decide +kernel
theorem dX4_addPerson_62 : decode cX4_addPerson 62 = .ok (.iload 4, 2) := by decide +kernel
theorem dX4_addPerson_64 : decode cX4_addPerson 64 = .ok (.iaload, 1) := by decide +kernel
theorem dX4_addPerson_65 : decode cX4_addPerson 65 = .ok (.i2l, 1) := by decide +kernel
theorem dX4_addPerson_66 : decode cX4_addPerson 66 = .ok (.ladd, 1) := by decide +kernel
theorem dX4_addPerson_67 : decode cX4_addPerson 67 = .ok (.lastore, 1) := by decide +kernel
theorem dX4_addPerson_68 : decode cX4_addPerson 68 = .ok (.iinc 6 1, 3) := by decide +kernel
theorem dX4_addPerson_71 : decode cX4_addPerson 71 = .ok (.goto (-33), 3) := by decide +kernel
theorem dX4_addPerson_74 : decode cX4_addPerson 74 = .ok (.iconst 0, 1) := by decide +kernel
theorem dX4_addPerson_75 : decode cX4_addPerson 75 = .ok (.istore 6, 2) := by decide +kernel
theorem dX4_addPerson_77 : decode cX4_addPerson 77 = .ok (.iload 6, 2) := by decide +kernel
theorem dX4_addPerson_79 : decode cX4_addPerson 79 = .ok (.aload_n 1, 1) := by decide +kernel
theorem dX4_addPerson_80 : decode cX4_addPerson 80 = .ok (.getfield 76, 3) := by decide +kernel
theorem dX4_addPerson_83 : decode cX4_addPerson 83 = .ok (.if_icmp .ge 53, 3) := by decide +kernel
theorem dX4_addPerson_86 : decode cX4_addPerson 86 = .ok (.aload_n 1, 1) := by decide +kernel
theorem dX4_addPerson_87 : decode cX4_addPerson 87 = .ok (.getfield 79, 3) := by decide +kernel
theorem dX4_addPerson_90 : decode cX4_addPerson 90 = .ok (.iload 6, 2) := by decide +kernel
theorem dX4_addPerson_92 : decode cX4_addPerson 92 = .ok (.aaload, 1) := by decide +kernel
theorem dX4_addPerson_93 : decode cX4_addPerson 93 = .ok (.astore 7, 2) := by decide +kernel
theorem dX4_addPerson_95 : decode cX4_addPerson 95 = .ok (.aload 7, 2) := by decide +kernel
theorem dX4_addPerson_97 : decode cX4_addPerson 97 = .ok (.getfield 83, 3) := by decide +kernel
theorem dX4_addPerson_100 : decode cX4_addPerson 100 = .ok (.iload 4, 2) := by decide +kernel
theorem dX4_addPerson_102 : decode cX4_addPerson 102 = .ok (.if_icmp .ne 28, 3) := by decide +kernel
theorem dX4_addPerson_105 : decode cX4_addPerson 105 = .ok (.aload 7, 2) := by decide +kernel
theorem dX4_addPerson_107 : decode cX4_addPerson 107 = .ok (.iload_n 2, 1) := by decide +kernel
theorem dX4_addPerson_108 : decode cX4_addPerson 108 = .ok (.invokevirtual 88, 3) := by decide +kernel
theorem dX4_addPerson_111 : decode cX4_addPerson 111 = .ok (.ifCond .eq 19, 3) := by decide +kernel
theorem dX4_addPerson_114 : decode cX4_addPerson 114 = .ok (.aload_n 0, 1) := by decide +kernel
theorem dX4_addPerson_115 : decode cX4_addPerson 115 = .ok (.getfield 22, 3) := by decide +kernel
theorem dX4_addPerson_118 : decode cX4_addPerson 118 = .ok (.iload 5, 2) := by decide +kernel
theorem dX4_addPerson_120 : decode cX4_addPerson 120 = .ok (.dup2, 1) := by decide +kernel
theorem dX4_addPerson_121 : decode cX4_addPerson 121 = .ok (.laload, 1) := by decide +kernel
theorem dX4_addPerson_122 : decode cX4_addPerson 122 = .ok (.aload 7, 2) := by decide +kernel
theorem dX4_addPerson_124 : decode cX4_addPerson 124 = .ok (.getfield 92, 3) := by decide +kernel
theorem dX4_addPerson_127 : decode cX4_addPerson 127 = .ok (.i2l, 1) := by decide +kernel
theorem dX4_addPerson_128 : decode cX4_addPerson 128 = .ok (.ladd, 1) := by decide +kernel
theorem dX4_addPerson_129 : decode cX4_addPerson 129 = .ok (.lastore, 1) := by decide +kernel
theorem dX4_addPerson_130 : decode cX4_addPerson 130 = .ok (.iinc 6 1, 3) := by decide +kernel
theorem dX4_addPerson_133 : decode cX4_addPerson 133 = .ok (.goto (-56), 3) := by decide +kernel
theorem dX4_addPerson_136 : decode cX4_addPerson 136 = .ok (.iconst 0, 1) := by decide +kernel
theorem dX4_addPerson_137 : decode cX4_addPerson 137 = .ok (.istore 6, 2) := by decide +kernel
theorem dX4_addPerson_139 : decode cX4_addPerson 139 = .ok (.iload 6, 2) := by decide +kernel
theorem dX4_addPerson_141 : decode cX4_addPerson 141 = .ok (.aload_n 1, 1) := by decide +kernel
theorem dX4_addPerson_142 : decode cX4_addPerson 142 = .ok (.getfield 95, 3) := by decide +kernel
theorem dX4_addPerson_145 : decode cX4_addPerson 145 = .ok (.if_icmp .ge 44, 3) := by decide +kernel
theorem dX4_addPerson_148 : decode cX4_addPerson 148 = .ok (.aload_n 1, 1) := by decide +kernel
theorem dX4_addPerson_149 : decode cX4_addPerson 149 = .ok (.getfield 98, 3) := by decide +kernel
theorem dX4_addPerson_152 : decode cX4_addPerson 152 = .ok (.iload 6, 2) := by decide +kernel
theorem dX4_addPerson_154 : decode cX4_addPerson 154 = .ok (.aaload, 1) := by decide +kernel
theorem dX4_addPerson_155 : decode cX4_addPerson 155 = .ok (.iload_n 2, 1) := by decide +kernel
theorem dX4_addPerson_156 : decode cX4_addPerson 156 = .ok (.invokevirtual 88, 3) := by decide +kernel
theorem dX4_addPerson_159 : decode cX4_addPerson 159 = .ok (.ifCond .eq 24, 3) := by decide +kernel
theorem dX4_addPerson_162 : decode cX4_addPerson 162 = .ok (.aload_n 0, 1) := by decide +kernel
theorem dX4_addPerson_163 : decode cX4_addPerson 163 = .ok (.getfield 25, 3) := by decide +kernel
theorem dX4_addPerson_166 : decode cX4_addPerson 166 = .ok (.iload 5, 2) := by decide +kernel
theorem dX4_addPerson_168 : decode cX4_addPerson 168 = .ok (.dup2, 1) := by decide +kernel
theorem dX4_addPerson_169 : decode cX4_addPerson 169 = .ok (.laload, 1) := by decide +kernel
theorem dX4_addPerson_170 : decode cX4_addPerson 170 = .ok (.aload_n 3, 1) := by decide +kernel
theorem dX4_addPerson_171 : decode cX4_addPerson 171 = .ok (.getfield 101, 3) := by decide +kernel
theorem dX4_addPerson_174 : decode cX4_addPerson 174 = .ok (.iload 6, 2) := by decide +kernel
theorem dX4_addPerson_176 : decode cX4_addPerson 176 = .ok (.aaload, 1) := by decide +kernel
theorem dX4_addPerson_177 : decode cX4_addPerson 177 = .ok (.iload 4, 2) := by decide +kernel
theorem dX4_addPerson_179 : decode cX4_addPerson 179 = .ok (.iaload, 1) := by decide +kernel
theorem dX4_addPerson_180 : decode cX4_addPerson 180 = .ok (.i2l, 1) := by decide +kernel
theorem dX4_addPerson_181 : decode cX4_addPerson 181 = .ok (.ladd, 1) := by decide +kernel
theorem dX4_addPerson_182 : decode cX4_addPerson 182 = .ok (.lastore, 1) := by decide +kernel
theorem dX4_addPerson_183 : decode cX4_addPerson 183 = .ok (.iinc 6 1, 3) := by decide +kernel
theorem dX4_addPerson_186 : decode cX4_addPerson 186 = .ok (.goto (-47), 3) := by decide +kernel
theorem dX4_addPerson_189 : decode cX4_addPerson 189 = .ok (.return_, 1) := by decide +kernel
theorem dX4_paid_0 : decode cX4_paid 0 = .ok (.aload_n 0, 1) := by decide +kernel
theorem dX4_paid_1 : decode cX4_paid 1 = .ok (.iload_n 1, 1) := by decide +kernel
theorem dX4_paid_2 : decode cX4_paid 2 = .ok (.invokevirtual 113, 3) := by decide +kernel
theorem dX4_paid_5 : decode cX4_paid 5 = .ok (.aload_n 0, 1) := by decide +kernel
theorem dX4_paid_6 : decode cX4_paid 6 = .ok (.iload_n 1, 1) := by decide +kernel
theorem dX4_paid_7 : decode cX4_paid 7 = .ok (.aload_n 0, 1) := by decide +kernel
theorem dX4_paid_8 : decode cX4_paid 8 = .ok (.getfield 38, 3) := by decide +kernel
theorem dX4_paid_11 : decode cX4_paid 11 = .ok (.invokevirtual 117, 3) := by decide +kernel
theorem dX4_paid_14 : decode cX4_paid 14 = .ok (.invokestatic 104, 3) := by decide +kernel
theorem dX4_paid_17 : decode cX4_paid 17 = .ok (.lreturn, 1) := by decide +kernel
theorem dX4_setOffTogether_0 : decode cX4_setOffTogether 0 = .ok (.lconst 0, 1) := by decide +kernel
theorem dX4_setOffTogether_1 : decode cX4_setOffTogether 1 = .ok (.lstore_n 1, 1) := by decide +kernel
theorem dX4_setOffTogether_2 : decode cX4_setOffTogether 2 = .ok (.iconst 0, 1) := by decide +kernel
theorem dX4_setOffTogether_3 : decode cX4_setOffTogether 3 = .ok (.istore_n 3, 1) := by decide +kernel
theorem dX4_setOffTogether_4 : decode cX4_setOffTogether 4 = .ok (.iload_n 3, 1) := by decide +kernel
theorem dX4_setOffTogether_5 : decode cX4_setOffTogether 5 = .ok (.aload_n 0, 1) := by decide +kernel
theorem dX4_setOffTogether_6 : decode cX4_setOffTogether 6 = .ok (.getfield 12, 3) := by decide +kernel
theorem dX4_setOffTogether_9 : decode cX4_setOffTogether 9 = .ok (.getfield 124, 3) := by decide +kernel
theorem dX4_setOffTogether_12 : decode cX4_setOffTogether 12 = .ok (.if_icmp .ge 17, 3) := by decide +kernel
theorem dX4_setOffTogether_15 : decode cX4_setOffTogether 15 = .ok (.lload_n 1, 1) := by decide +kernel
theorem dX4_setOffTogether_16 : decode cX4_setOffTogether 16 = .ok (.aload_n 0, 1) := by decide +kernel
theorem dX4_setOffTogether_17 : decode cX4_setOffTogether 17 = .ok (.iload_n 3, 1) := by decide +kernel
theorem dX4_setOffTogether_18 : decode cX4_setOffTogether 18 = .ok (.invokevirtual 127, 3) := by decide +kernel
theorem dX4_setOffTogether_21 : decode cX4_setOffTogether 21 = .ok (.ladd, 1) := by decide +kernel
theorem dX4_setOffTogether_22 : decode cX4_setOffTogether 22 = .ok (.lstore_n 1, 1) := by decide +kernel
theorem dX4_setOffTogether_23 : decode cX4_setOffTogether 23 = .ok (.iinc 3 1, 3) := by decide +kernel
theorem dX4_setOffTogether_26 : decode cX4_setOffTogether 26 = .ok (.goto (-22), 3) := by decide +kernel
theorem dX4_setOffTogether_29 : decode cX4_setOffTogether 29 = .ok (.lload_n 1, 1) := by decide +kernel
theorem dX4_setOffTogether_30 : decode cX4_setOffTogether 30 = .ok (.lreturn, 1) := by decide +kernel
theorem dX4_paidUnder_0 : decode cX4_paidUnder 0 = .ok (.lconst 0, 1) := by decide +kernel
theorem dX4_paidUnder_1 : decode cX4_paidUnder 1 = .ok (.lstore_n 3, 1) := by decide +kernel
theorem dX4_paidUnder_2 : decode cX4_paidUnder 2 = .ok (.iconst 0, 1) := by decide +kernel
theorem dX4_paidUnder_3 : decode cX4_paidUnder 3 = .ok (.istore 5, 2) := by decide +kernel
theorem dX4_paidUnder_5 : decode cX4_paidUnder 5 = .ok (.iload 5, 2) := by decide +kernel
theorem dX4_paidUnder_7 : decode cX4_paidUnder 7 = .ok (.aload_n 0, 1) := by decide +kernel
theorem dX4_paidUnder_8 : decode cX4_paidUnder 8 = .ok (.getfield 12, 3) := by decide +kernel
theorem dX4_paidUnder_11 : decode cX4_paidUnder 11 = .ok (.getfield 124, 3) := by decide +kernel
theorem dX4_paidUnder_14 : decode cX4_paidUnder 14 = .ok (.if_icmp .ge 28, 3) := by decide +kernel
theorem dX4_paidUnder_17 : decode cX4_paidUnder 17 = .ok (.lload_n 3, 1) := by decide +kernel
theorem dX4_paidUnder_18 : decode cX4_paidUnder 18 = .ok (.aload_n 0, 1) := by decide +kernel
theorem dX4_paidUnder_19 : decode cX4_paidUnder 19 = .ok (.iload 5, 2) := by decide +kernel
theorem dX4_paidUnder_21 : decode cX4_paidUnder 21 = .ok (.invokevirtual 113, 3) := by decide +kernel
theorem dX4_paidUnder_24 : decode cX4_paidUnder 24 = .ok (.aload_n 0, 1) := by decide +kernel
theorem dX4_paidUnder_25 : decode cX4_paidUnder 25 = .ok (.iload 5, 2) := by decide +kernel
theorem dX4_paidUnder_27 : decode cX4_paidUnder 27 = .ok (.lload_n 1, 1) := by decide +kernel
theorem dX4_paidUnder_28 : decode cX4_paidUnder 28 = .ok (.invokevirtual 117, 3) := by decide +kernel
theorem dX4_paidUnder_31 : decode cX4_paidUnder 31 = .ok (.invokestatic 104, 3) := by decide +kernel
theorem dX4_paidUnder_34 : decode cX4_paidUnder 34 = .ok (.ladd, 1) := by decide +kernel
theorem dX4_paidUnder_35 : decode cX4_paidUnder 35 = .ok (.lstore_n 3, 1) := by decide +kernel
theorem dX4_paidUnder_36 : decode cX4_paidUnder 36 = .ok (.iinc 5 1, 3) := by decide +kernel
theorem dX4_paidUnder_39 : decode cX4_paidUnder 39 = .ok (.goto (-34), 3) := by decide +kernel
theorem dX4_paidUnder_42 : decode cX4_paidUnder 42 = .ok (.lload_n 3, 1) := by decide +kernel
theorem dX4_paidUnder_43 : decode cX4_paidUnder 43 = .ok (.lreturn, 1) := by decide +kernel
theorem dX4_sumUp_0 : decode cX4_sumUp 0 = .ok (.aload_n 0, 1) := by decide +kernel
theorem dX4_sumUp_1 : decode cX4_sumUp 1 = .ok (.aload_n 2, 1) := by decide +kernel
theorem dX4_sumUp_2 : decode cX4_sumUp 2 = .ok (.getfield 32, 3) := by decide +kernel
theorem dX4_sumUp_5 : decode cX4_sumUp 5 = .ok (.iconst 1, 1) := by decide +kernel
theorem dX4_sumUp_6 : decode cX4_sumUp 6 = .ok (.iaload, 1) := by decide +kernel
theorem dX4_sumUp_7 : decode cX4_sumUp 7 = .ok (.i2l, 1) := by decide +kernel
theorem dX4_sumUp_8 : decode cX4_sumUp 8 = .ok (.putfield 38, 3) := by decide +kernel
theorem dX4_sumUp_11 : decode cX4_sumUp 11 = .ok (.aload_n 0, 1) := by decide +kernel
theorem dX4_sumUp_12 : decode cX4_sumUp 12 = .ok (.aload_n 2, 1) := by decide +kernel
theorem dX4_sumUp_13 : decode cX4_sumUp 13 = .ok (.getfield 32, 3) := by decide +kernel
theorem dX4_sumUp_16 : decode cX4_sumUp 16 = .ok (.iconst 2, 1) := by decide +kernel
theorem dX4_sumUp_17 : decode cX4_sumUp 17 = .ok (.iaload, 1) := by decide +kernel
theorem dX4_sumUp_18 : decode cX4_sumUp 18 = .ok (.i2l, 1) := by decide +kernel
theorem dX4_sumUp_19 : decode cX4_sumUp 19 = .ok (.putfield 42, 3) := by decide +kernel
theorem dX4_sumUp_22 : decode cX4_sumUp 22 = .ok (.iconst 0, 1) := by decide +kernel
theorem dX4_sumUp_23 : decode cX4_sumUp 23 = .ok (.istore 4, 2) := by decide +kernel
theorem dX4_sumUp_25 : decode cX4_sumUp 25 = .ok (.iload 4, 2) := by decide +kernel
theorem dX4_sumUp_27 : decode cX4_sumUp 27 = .ok (.bipush 12, 2) := by decide +kernel
theorem dX4_sumUp_29 : decode cX4_sumUp 29 = .ok (.if_icmp .ge 41, 3) := by decide +kernel
theorem dX4_sumUp_32 : decode cX4_sumUp 32 = .ok (.aload_n 0, 1) := by decide +kernel
theorem dX4_sumUp_33 : decode cX4_sumUp 33 = .ok (.getfield 18, 3) := by decide +kernel
theorem dX4_sumUp_36 : decode cX4_sumUp 36 = .ok (.iload 4, 2) := by decide +kernel
theorem dX4_sumUp_38 : decode cX4_sumUp 38 = .ok (.lconst 0, 1) := by decide +kernel
theorem dX4_sumUp_39 : decode cX4_sumUp 39 = .ok (.lastore, 1) := by decide +kernel
theorem dX4_sumUp_40 : decode cX4_sumUp 40 = .ok (.aload_n 0, 1) := by decide +kernel
theorem dX4_sumUp_41 : decode cX4_sumUp 41 = .ok (.getfield 22, 3) := by decide +kernel
theorem dX4_sumUp_44 : decode cX4_sumUp 44 = .ok (.iload 4, 2) := by decide +kernel
theorem dX4_sumUp_46 : decode cX4_sumUp 46 = .ok (.lconst 0, 1) := by decide +kernel
theorem dX4_sumUp_47 : decode cX4_sumUp 47 = .ok (.lastore, 1) := by decide +kernel
theorem dX4_sumUp_48 : decode cX4_sumUp 48 = .ok (.aload_n 0, 1) := by decide +kernel
theorem dX4_sumUp_49 : decode cX4_sumUp 49 = .ok (.getfield 25, 3) := by decide +kernel
theorem dX4_sumUp_52 : decode cX4_sumUp 52 = .ok (.iload 4, 2) := by decide +kernel
theorem dX4_sumUp_54 : decode cX4_sumUp 54 = .ok (.lconst 0, 1) := by decide +kernel
theorem dX4_sumUp_55 : decode cX4_sumUp 55 = .ok (.lastore, 1) := by decide +kernel
theorem dX4_sumUp_56 : decode cX4_sumUp 56 = .ok (.aload_n 0, 1) := by decide +kernel
theorem dX4_sumUp_57 : decode cX4_sumUp 57 = .ok (.getfield 28, 3) := by decide +kernel
theorem dX4_sumUp_60 : decode cX4_sumUp 60 = .ok (.iload 4, 2) := by decide +kernel
theorem dX4_sumUp_62 : decode cX4_sumUp 62 = .ok (.iconst 0, 1) := by decide +kernel
theorem dX4_sumUp_63 : decode cX4_sumUp 63 = .ok (.bastore, 1) := by decide +kernel
theorem dX4_sumUp_64 : decode cX4_sumUp 64 = .ok (.iinc 4 1, 3) := by decide +kernel
theorem dX4_sumUp_67 : decode cX4_sumUp 67 = .ok (.goto (-42), 3) := by decide +kernel
theorem dX4_sumUp_70 : decode cX4_sumUp 70 = .ok (.iconst 0, 1) := by decide +kernel
theorem dX4_sumUp_71 : decode cX4_sumUp 71 = .ok (.istore 4, 2) := by decide +kernel
theorem dX4_sumUp_73 : decode cX4_sumUp 73 = .ok (.iload 4, 2) := by decide +kernel
theorem dX4_sumUp_75 : decode cX4_sumUp 75 = .ok (.aload_n 1, 1) := by decide +kernel
theorem dX4_sumUp_76 : decode cX4_sumUp 76 = .ok (.getfield 45, 3) := by decide +kernel
theorem dX4_sumUp_79 : decode cX4_sumUp 79 = .ok (.if_icmp .ge 49, 3) := by decide +kernel
theorem dX4_sumUp_82 : decode cX4_sumUp 82 = .ok (.aload_n 0, 1) := by decide +kernel
theorem dX4_sumUp_83 : decode cX4_sumUp 83 = .ok (.getfield 12, 3) := by decide +kernel
theorem dX4_sumUp_86 : decode cX4_sumUp 86 = .ok (.getfield 51, 3) := by decide +kernel
theorem dX4_sumUp_89 : decode cX4_sumUp 89 = .ok (.iload 4, 2) := by decide +kernel
theorem dX4_sumUp_91 : decode cX4_sumUp 91 = .ok (.iaload, 1) := by decide +kernel
theorem dX4_sumUp_92 : decode cX4_sumUp 92 = .ok (.istore 5, 2) := by decide +kernel
theorem dX4_sumUp_94 : decode cX4_sumUp 94 = .ok (.iload 5, 2) := by decide +kernel
theorem dX4_sumUp_96 : decode cX4_sumUp 96 = .ok (.ifCond .lt 26, 3) := by decide +kernel
theorem dX4_sumUp_99 : decode cX4_sumUp 99 = .ok (.iload 5, 2) := by decide +kernel
theorem dX4_sumUp_101 : decode cX4_sumUp 101 = .ok (.bipush 12, 2) := by decide +kernel
theorem dX4_sumUp_103 : decode cX4_sumUp 103 = .ok (.if_icmp .ge 19, 3) := by decide +kernel
theorem dX4_sumUp_106 : decode cX4_sumUp 106 = .ok (.aload_n 0, 1) := by decide +kernel
theorem dX4_sumUp_107 : decode cX4_sumUp 107 = .ok (.aload_n 1, 1) := by decide +kernel
theorem dX4_sumUp_108 : decode cX4_sumUp 108 = .ok (.aload_n 2, 1) := by decide +kernel
theorem dX4_sumUp_109 : decode cX4_sumUp 109 = .ok (.getfield 32, 3) := by decide +kernel
theorem dX4_sumUp_112 : decode cX4_sumUp 112 = .ok (.iconst 0, 1) := by decide +kernel
theorem dX4_sumUp_113 : decode cX4_sumUp 113 = .ok (.iaload, 1) := by decide +kernel
theorem dX4_sumUp_114 : decode cX4_sumUp 114 = .ok (.aload_n 3, 1) := by decide +kernel
theorem dX4_sumUp_115 : decode cX4_sumUp 115 = .ok (.iload 4, 2) := by decide +kernel
theorem dX4_sumUp_117 : decode cX4_sumUp 117 = .ok (.iload 5, 2) := by decide +kernel
theorem dX4_sumUp_119 : decode cX4_sumUp 119 = .ok (.invokevirtual 54, 3) := by decide +kernel
theorem dX4_sumUp_122 : decode cX4_sumUp 122 = .ok (.iinc 4 1, 3) := by decide +kernel
theorem dX4_sumUp_125 : decode cX4_sumUp 125 = .ok (.goto (-52), 3) := by decide +kernel
theorem dX4_sumUp_128 : decode cX4_sumUp 128 = .ok (.return_, 1) := by decide +kernel
theorem dX4_claim_0 : decode cX4_claim 0 = .ok (.aload_n 0, 1) := by decide +kernel
theorem dX4_claim_1 : decode cX4_claim 1 = .ok (.iload_n 1, 1) := by decide +kernel
theorem dX4_claim_2 : decode cX4_claim 2 = .ok (.invokevirtual 113, 3) := by decide +kernel
theorem dX4_claim_5 : decode cX4_claim 5 = .ok (.aload_n 0, 1) := by decide +kernel
theorem dX4_claim_6 : decode cX4_claim 6 = .ok (.iload_n 1, 1) := by decide +kernel
theorem dX4_claim_7 : decode cX4_claim 7 = .ok (.invokevirtual 121, 3) := by decide +kernel
theorem dX4_claim_10 : decode cX4_claim 10 = .ok (.lsub, 1) := by decide +kernel
theorem dX4_claim_11 : decode cX4_claim 11 = .ok (.lreturn, 1) := by decide +kernel
theorem dX4_paidTogether_0 : decode cX4_paidTogether 0 = .ok (.aload_n 0, 1) := by decide +kernel
theorem dX4_paidTogether_1 : decode cX4_paidTogether 1 = .ok (.aload_n 0, 1) := by decide +kernel
theorem dX4_paidTogether_2 : decode cX4_paidTogether 2 = .ok (.getfield 38, 3) := by decide +kernel
theorem dX4_paidTogether_5 : decode cX4_paidTogether 5 = .ok (.invokevirtual 137, 3) := by decide +kernel
theorem dX4_paidTogether_8 : decode cX4_paidTogether 8 = .ok (.lreturn, 1) := by decide +kernel
theorem dX4_claimants_0 : decode cX4_claimants 0 = .ok (.iconst 0, 1) := by decide +kernel
theorem dX4_claimants_1 : decode cX4_claimants 1 = .ok (.istore_n 1, 1) := by decide +kernel
theorem dX4_claimants_2 : decode cX4_claimants 2 = .ok (.iconst 0, 1) := by decide +kernel
theorem dX4_claimants_3 : decode cX4_claimants 3 = .ok (.istore_n 2, 1) := by decide +kernel
theorem dX4_claimants_4 : decode cX4_claimants 4 = .ok (.iload_n 2, 1) := by decide +kernel
theorem dX4_claimants_5 : decode cX4_claimants 5 = .ok (.aload_n 0, 1) := by decide +kernel
theorem dX4_claimants_6 : decode cX4_claimants 6 = .ok (.getfield 12, 3) := by decide +kernel
theorem dX4_claimants_9 : decode cX4_claimants 9 = .ok (.getfield 124, 3) := by decide +kernel
theorem dX4_claimants_12 : decode cX4_claimants 12 = .ok (.if_icmp .ge 22, 3) := by decide +kernel
theorem dX4_claimants_15 : decode cX4_claimants 15 = .ok (.aload_n 0, 1) := by decide +kernel
theorem dX4_claimants_16 : decode cX4_claimants 16 = .ok (.iload_n 2, 1) := by decide +kernel
theorem dX4_claimants_17 : decode cX4_claimants 17 = .ok (.invokevirtual 141, 3) := by decide +kernel
theorem dX4_claimants_20 : decode cX4_claimants 20 = .ok (.lconst 0, 1) := by decide +kernel
theorem dX4_claimants_21 : decode cX4_claimants 21 = .ok (.lcmp, 1) := by decide +kernel
theorem dX4_claimants_22 : decode cX4_claimants 22 = .ok (.ifCond .le 6, 3) := by decide +kernel
theorem dX4_claimants_25 : decode cX4_claimants 25 = .ok (.iinc 1 1, 3) := by decide +kernel
theorem dX4_claimants_28 : decode cX4_claimants 28 = .ok (.iinc 2 1, 3) := by decide +kernel
theorem dX4_claimants_31 : decode cX4_claimants 31 = .ok (.goto (-27), 3) := by decide +kernel
theorem dX4_claimants_34 : decode cX4_claimants 34 = .ok (.iload_n 1, 1) := by decide +kernel
theorem dX4_claimants_35 : decode cX4_claimants 35 = .ok (.ireturn, 1) := by decide +kernel
theorem dX4_claimsAhead_0 : decode cX4_claimsAhead 0 = .ok (.lconst 0, 1) := by decide +kernel
theorem dX4_claimsAhead_1 : decode cX4_claimsAhead 1 = .ok (.lstore_n 3, 1) := by decide +kernel
theorem dX4_claimsAhead_2 : decode cX4_claimsAhead 2 = .ok (.iconst 0, 1) := by decide +kernel
theorem dX4_claimsAhead_3 : decode cX4_claimsAhead 3 = .ok (.istore 5, 2) := by decide +kernel
theorem dX4_claimsAhead_5 : decode cX4_claimsAhead 5 = .ok (.iload 5, 2) := by decide +kernel
theorem dX4_claimsAhead_7 : decode cX4_claimsAhead 7 = .ok (.iload_n 1, 1) := by decide +kernel
theorem dX4_claimsAhead_8 : decode cX4_claimsAhead 8 = .ok (.if_icmp .ge 29, 3) := by decide +kernel
theorem dX4_claimsAhead_11 : decode cX4_claimsAhead 11 = .ok (.aload_n 0, 1) := by decide +kernel
theorem dX4_claimsAhead_12 : decode cX4_claimsAhead 12 = .ok (.getfield 28, 3) := by decide +kernel
theorem dX4_claimsAhead_15 : decode cX4_claimsAhead 15 = .ok (.iload 5, 2) := by decide +kernel
theorem dX4_claimsAhead_17 : decode cX4_claimsAhead 17 = .ok (.baload, 1) := by decide +kernel
theorem dX4_claimsAhead_18 : decode cX4_claimsAhead 18 = .ok (.iload_n 2, 1) := by decide +kernel
theorem dX4_claimsAhead_19 : decode cX4_claimsAhead 19 = .ok (.if_icmp .ne 12, 3) := by decide +kernel
theorem dX4_claimsAhead_22 : decode cX4_claimsAhead 22 = .ok (.lload_n 3, 1) := by decide +kernel
theorem dX4_claimsAhead_23 : decode cX4_claimsAhead 23 = .ok (.aload_n 0, 1) := by decide +kernel
theorem dX4_claimsAhead_24 : decode cX4_claimsAhead 24 = .ok (.iload 5, 2) := by decide +kernel
theorem dX4_claimsAhead_26 : decode cX4_claimsAhead 26 = .ok (.invokevirtual 141, 3) := by decide +kernel
theorem dX4_claimsAhead_29 : decode cX4_claimsAhead 29 = .ok (.ladd, 1) := by decide +kernel
theorem dX4_claimsAhead_30 : decode cX4_claimsAhead 30 = .ok (.lstore_n 3, 1) := by decide +kernel
theorem dX4_claimsAhead_31 : decode cX4_claimsAhead 31 = .ok (.iinc 5 1, 3) := by decide +kernel
theorem dX4_claimsAhead_34 : decode cX4_claimsAhead 34 = .ok (.goto (-29), 3) := by decide +kernel
theorem dX4_claimsAhead_37 : decode cX4_claimsAhead 37 = .ok (.lload_n 3, 1) := by decide +kernel
theorem dX4_claimsAhead_38 : decode cX4_claimsAhead 38 = .ok (.lreturn, 1) := by decide +kernel
theorem dX4_aheadOf_0 : decode cX4_aheadOf 0 = .ok (.iconst 0, 1) := by decide +kernel
theorem dX4_aheadOf_1 : decode cX4_aheadOf 1 = .ok (.istore_n 2, 1) := by decide +kernel
theorem dX4_aheadOf_2 : decode cX4_aheadOf 2 = .ok (.aload_n 0, 1) := by decide +kernel
theorem dX4_aheadOf_3 : decode cX4_aheadOf 3 = .ok (.iload_n 1, 1) := by decide +kernel
theorem dX4_aheadOf_4 : decode cX4_aheadOf 4 = .ok (.invokevirtual 141, 3) := by decide +kernel
theorem dX4_aheadOf_7 : decode cX4_aheadOf 7 = .ok (.lstore_n 3, 1) := by decide +kernel
theorem dX4_aheadOf_8 : decode cX4_aheadOf 8 = .ok (.iconst 0, 1) := by decide +kernel
theorem dX4_aheadOf_9 : decode cX4_aheadOf 9 = .ok (.istore 5, 2) := by decide +kernel
theorem dX4_aheadOf_11 : decode cX4_aheadOf 11 = .ok (.iload 5, 2) := by decide +kernel
theorem dX4_aheadOf_13 : decode cX4_aheadOf 13 = .ok (.aload_n 0, 1) := by decide +kernel
theorem dX4_aheadOf_14 : decode cX4_aheadOf 14 = .ok (.getfield 12, 3) := by decide +kernel
theorem dX4_aheadOf_17 : decode cX4_aheadOf 17 = .ok (.getfield 124, 3) := by decide +kernel
theorem dX4_aheadOf_20 : decode cX4_aheadOf 20 = .ok (.if_icmp .ge 40, 3) := by decide +kernel
theorem dX4_aheadOf_23 : decode cX4_aheadOf 23 = .ok (.aload_n 0, 1) := by decide +kernel
theorem dX4_aheadOf_24 : decode cX4_aheadOf 24 = .ok (.iload 5, 2) := by decide +kernel
theorem dX4_aheadOf_26 : decode cX4_aheadOf 26 = .ok (.invokevirtual 141, 3) := by decide +kernel
theorem dX4_aheadOf_29 : decode cX4_aheadOf 29 = .ok (.lstore 6, 2) := by decide +kernel
theorem dX4_aheadOf_31 : decode cX4_aheadOf 31 = .ok (.lload 6, 2) := by decide +kernel
theorem dX4_aheadOf_33 : decode cX4_aheadOf 33 = .ok (.lload_n 3, 1) := by decide +kernel
theorem dX4_aheadOf_34 : decode cX4_aheadOf 34 = .ok (.lcmp, 1) := by decide +kernel
theorem dX4_aheadOf_35 : decode cX4_aheadOf 35 = .ok (.ifCond .gt 16, 3) := by decide +kernel
theorem dX4_aheadOf_38 : decode cX4_aheadOf 38 = .ok (.lload 6, 2) := by decide +kernel
theorem dX4_aheadOf_40 : decode cX4_aheadOf 40 = .ok (.lload_n 3, 1) := by decide +kernel
theorem dX4_aheadOf_41 : decode cX4_aheadOf 41 = .ok (.lcmp, 1) := by decide +kernel
theorem dX4_aheadOf_42 : decode cX4_aheadOf 42 = .ok (.ifCond .ne 12, 3) := by decide +kernel
theorem dX4_aheadOf_45 : decode cX4_aheadOf 45 = .ok (.iload 5, 2) := by decide +kernel
theorem dX4_aheadOf_47 : decode cX4_aheadOf 47 = .ok (.iload_n 1, 1) := by decide +kernel
theorem dX4_aheadOf_48 : decode cX4_aheadOf 48 = .ok (.if_icmp .ge 6, 3) := by decide +kernel
theorem dX4_aheadOf_51 : decode cX4_aheadOf 51 = .ok (.iinc 2 1, 3) := by decide +kernel
theorem dX4_aheadOf_54 : decode cX4_aheadOf 54 = .ok (.iinc 5 1, 3) := by decide +kernel
theorem dX4_aheadOf_57 : decode cX4_aheadOf 57 = .ok (.goto (-46), 3) := by decide +kernel
theorem dX4_aheadOf_60 : decode cX4_aheadOf 60 = .ok (.iload_n 2, 1) := by decide +kernel
theorem dX4_aheadOf_61 : decode cX4_aheadOf 61 = .ok (.ireturn, 1) := by decide +kernel
theorem dX4_claimsOf_0 : decode cX4_claimsOf 0 = .ok (.aload_n 0, 1) := by decide +kernel
theorem dX4_claimsOf_1 : decode cX4_claimsOf 1 = .ok (.aload_n 0, 1) := by decide +kernel
theorem dX4_claimsOf_2 : decode cX4_claimsOf 2 = .ok (.getfield 12, 3) := by decide +kernel
theorem dX4_claimsOf_5 : decode cX4_claimsOf 5 = .ok (.getfield 124, 3) := by decide +kernel
theorem dX4_claimsOf_8 : decode cX4_claimsOf 8 = .ok (.iload_n 1, 1) := by decide +kernel
theorem dX4_claimsOf_9 : decode cX4_claimsOf 9 = .ok (.invokevirtual 144, 3) := by decide +kernel
theorem dX4_claimsOf_12 : decode cX4_claimsOf 12 = .ok (.lreturn, 1) := by decide +kernel
theorem dX4_fromEstate_0 : decode cX4_fromEstate 0 = .ok (.aload_n 0, 1) := by decide +kernel
theorem dX4_fromEstate_1 : decode cX4_fromEstate 1 = .ok (.getfield 28, 3) := by decide +kernel
theorem dX4_fromEstate_4 : decode cX4_fromEstate 4 = .ok (.iload_n 3, 1) := by decide +kernel
theorem dX4_fromEstate_5 : decode cX4_fromEstate 5 = .ok (.baload, 1) := by decide +kernel
theorem dX4_fromEstate_6 : decode cX4_fromEstate 6 = .ok (.istore 4, 2) := by decide +kernel
theorem dX4_fromEstate_8 : decode cX4_fromEstate 8 = .ok (.lload_n 1, 1) := by decide +kernel
theorem dX4_fromEstate_9 : decode cX4_fromEstate 9 = .ok (.aload_n 0, 1) := by decide +kernel
theorem dX4_fromEstate_10 : decode cX4_fromEstate 10 = .ok (.invokevirtual 148, 3) := by decide +kernel
theorem dX4_fromEstate_13 : decode cX4_fromEstate 13 = .ok (.lsub, 1) := by decide +kernel
theorem dX4_fromEstate_14 : decode cX4_fromEstate 14 = .ok (.lstore 5, 2) := by decide +kernel
theorem dX4_fromEstate_16 : decode cX4_fromEstate 16 = .ok (.iload 4, 2) := by decide +kernel
theorem dX4_fromEstate_18 : decode cX4_fromEstate 18 = .ok (.ifCond .eq 13, 3) := by decide +kernel
theorem dX4_fromEstate_21 : decode cX4_fromEstate 21 = .ok (.lload 5, 2) := by decide +kernel
theorem dX4_fromEstate_23 : decode cX4_fromEstate 23 = .ok (.aload_n 0, 1) := by decide +kernel
theorem dX4_fromEstate_24 : decode cX4_fromEstate 24 = .ok (.iconst 0, 1) := by decide +kernel
theorem dX4_fromEstate_25 : decode cX4_fromEstate 25 = .ok (.invokevirtual 151, 3) := by decide +kernel
theorem dX4_fromEstate_28 : decode cX4_fromEstate 28 = .ok (.lsub, 1) := by decide +kernel
theorem dX4_fromEstate_29 : decode cX4_fromEstate 29 = .ok (.lstore 5, 2) := by decide +kernel
theorem dX4_fromEstate_31 : decode cX4_fromEstate 31 = .ok (.lload 5, 2) := by decide +kernel
theorem dX4_fromEstate_33 : decode cX4_fromEstate 33 = .ok (.lconst 0, 1) := by decide +kernel
theorem dX4_fromEstate_34 : decode cX4_fromEstate 34 = .ok (.invokestatic 110, 3) := by decide +kernel
theorem dX4_fromEstate_37 : decode cX4_fromEstate 37 = .ok (.lstore 5, 2) := by decide +kernel
theorem dX4_fromEstate_39 : decode cX4_fromEstate 39 = .ok (.aload_n 0, 1) := by decide +kernel
theorem dX4_fromEstate_40 : decode cX4_fromEstate 40 = .ok (.iload 4, 2) := by decide +kernel
theorem dX4_fromEstate_42 : decode cX4_fromEstate 42 = .ok (.invokevirtual 151, 3) := by decide +kernel
theorem dX4_fromEstate_45 : decode cX4_fromEstate 45 = .ok (.lstore 7, 2) := by decide +kernel
theorem dX4_fromEstate_47 : decode cX4_fromEstate 47 = .ok (.aload_n 0, 1) := by decide +kernel
theorem dX4_fromEstate_48 : decode cX4_fromEstate 48 = .ok (.iload_n 3, 1) := by decide +kernel
theorem dX4_fromEstate_49 : decode cX4_fromEstate 49 = .ok (.invokevirtual 141, 3) := by decide +kernel
theorem dX4_fromEstate_52 : decode cX4_fromEstate 52 = .ok (.lstore 9, 2) := by decide +kernel
theorem dX4_fromEstate_54 : decode cX4_fromEstate 54 = .ok (.lload 7, 2) := by decide +kernel
theorem dX4_fromEstate_56 : decode cX4_fromEstate 56 = .ok (.lconst 0, 1) := by decide +kernel
theorem dX4_fromEstate_57 : decode cX4_fromEstate 57 = .ok (.lcmp, 1) := by decide +kernel
theorem dX4_fromEstate_58 : decode cX4_fromEstate 58 = .ok (.ifCond .le 11, 3) := by decide +kernel
theorem dX4_fromEstate_61 : decode cX4_fromEstate 61 = .ok (.lload 7, 2) := by decide +kernel
theorem dX4_fromEstate_63 : decode cX4_fromEstate 63 = .ok (.lload 5, 2) := by decide +kernel
theorem dX4_fromEstate_65 : decode cX4_fromEstate 65 = .ok (.lcmp, 1) := by decide +kernel
theorem dX4_fromEstate_66 : decode cX4_fromEstate 66 = .ok (.ifCond .gt 6, 3) := by decide +kernel
theorem dX4_fromEstate_69 : decode cX4_fromEstate 69 = .ok (.lload 9, 2) := by decide +kernel
theorem dX4_fromEstate_71 : decode cX4_fromEstate 71 = .ok (.lreturn, 1) := by decide +kernel
theorem dX4_fromEstate_72 : decode cX4_fromEstate 72 = .ok (.aload_n 0, 1) := by decide +kernel
theorem dX4_fromEstate_73 : decode cX4_fromEstate 73 = .ok (.iload_n 3, 1) := by decide +kernel
theorem dX4_fromEstate_74 : decode cX4_fromEstate 74 = .ok (.iload 4, 2) := by decide +kernel
theorem dX4_fromEstate_76 : decode cX4_fromEstate 76 = .ok (.invokevirtual 144, 3) := by decide +kernel
theorem dX4_fromEstate_79 : decode cX4_fromEstate 79 = .ok (.lstore 11, 2) := by decide +kernel
theorem dX4_fromEstate_81 : decode cX4_fromEstate 81 = .ok (.lload 5, 2) := by decide +kernel
theorem dX4_fromEstate_83 : decode cX4_fromEstate 83 = .ok (.lload 11, 2) := by decide +kernel
theorem dX4_fromEstate_85 : decode cX4_fromEstate 85 = .ok (.lload 9, 2) := by decide +kernel
theorem dX4_fromEstate_87 : decode cX4_fromEstate 87 = .ok (.ladd, 1) := by decide +kernel
theorem dX4_fromEstate_88 : decode cX4_fromEstate 88 = .ok (.lmul, 1) := by decide +kernel
theorem dX4_fromEstate_89 : decode cX4_fromEstate 89 = .ok (.lload 7, 2) := by decide +kernel
theorem dX4_fromEstate_91 : decode cX4_fromEstate 91 = .ok (.ldiv, 1) := by decide +kernel
theorem dX4_fromEstate_92 : decode cX4_fromEstate 92 = .ok (.lload 5, 2) := by decide +kernel
theorem dX4_fromEstate_94 : decode cX4_fromEstate 94 = .ok (.lload 11, 2) := by decide +kernel
theorem dX4_fromEstate_96 : decode cX4_fromEstate 96 = .ok (.lmul, 1) := by decide +kernel
theorem dX4_fromEstate_97 : decode cX4_fromEstate 97 = .ok (.lload 7, 2) := by decide +kernel
theorem dX4_fromEstate_99 : decode cX4_fromEstate 99 = .ok (.ldiv, 1) := by decide +kernel
theorem dX4_fromEstate_100 : decode cX4_fromEstate 100 = .ok (.lsub, 1) := by decide +kernel
theorem dX4_fromEstate_101 : decode cX4_fromEstate 101 = .ok (.lreturn, 1) := by decide +kernel
theorem pq_534 : Cond.fieldLink RX4 22 "PayoutDesk$Ledger" "owes" "[J" ∈ pd_gt := pd_in 434 (by decide +kernel) (by decide +kernel)
theorem pq_535 : Cond.fieldLink RX4 18 "PayoutDesk$Ledger" "has" "[J" ∈ pd_gt := pd_in 432 (by decide +kernel) (by decide +kernel)
theorem pq_536 : Cond.methodLink RX4 104 Lib.MathLoose.min_long.x ∈ pd_gt := pd_in 598 (by decide +kernel) (by decide +kernel)
theorem pq_537 : Cond.static Lib.MathLoose.min_long.x ∈ pd_gt := pd_in 599 (by decide +kernel) (by decide +kernel)
theorem pq_538 : Cond.code Lib.MathLoose.min_long.x Lib.MathLoose.min_long.code 4 (some .long) ∈ pd_gt := pd_in 600 (by decide +kernel) (by decide +kernel)
theorem pq_539 : Cond.methodLink RX4 110 Lib.MathLoose.max_long.x ∈ pd_gt := pd_in 605 (by decide +kernel) (by decide +kernel)
theorem pq_540 : Cond.static Lib.MathLoose.max_long.x ∈ pd_gt := pd_in 606 (by decide +kernel) (by decide +kernel)
theorem pq_541 : Cond.code Lib.MathLoose.max_long.x Lib.MathLoose.max_long.code 4 (some .long) ∈ pd_gt := pd_in 607 (by decide +kernel) (by decide +kernel)
theorem pq_542 : Cond.fieldLink RX4 25 "PayoutDesk$Ledger" "high" "[J" ∈ pd_gt := pd_in 436 (by decide +kernel) (by decide +kernel)
theorem pq_543 : Cond.fieldLink RX4 42 "PayoutDesk$Ledger" "raise" "J" ∈ pd_gt := pd_in 442 (by decide +kernel) (by decide +kernel)
theorem pq_544 : Cond.fieldLink RX4 12 "PayoutDesk$Ledger" "ties" "LPayoutDesk$Ties;" ∈ pd_gt := pd_in 430 (by decide +kernel) (by decide +kernel)
theorem pq_545 : Cond.fieldLinkNest RX4 124 "PayoutDesk$Ties" "depositors" "I" "PayoutDesk" ∈ pd_gt := pd_in 419 (by decide +kernel) (by decide +kernel)
theorem pq_546 : Cond.fieldLinkNest RX4 95 "PayoutDesk$Book" "highCount" "I" "PayoutDesk" ∈ pd_gt := pd_in 268 (by decide +kernel) (by decide +kernel)
theorem pq_547 : Cond.fieldLinkNest RX4 98 "PayoutDesk$Book" "highs" "[LPayoutDesk$Dated;" "PayoutDesk" ∈ pd_gt := pd_in 242 (by decide +kernel) (by decide +kernel)
theorem pq_548 : Cond.methodLink RX4 88 yX1_countsOn ∈ pd_gt := pd_in 745 (by decide +kernel) (by decide +kernel)
theorem pq_549 : Cond.code yX1_countsOn cX1_countsOn 2 (some .boolean) ∈ pd_gt := pd_in 748 (by decide +kernel) (by decide +kernel)
theorem pq_550 : Cond.initialized yX1_countsOn.cls ∈ pd_gt := pd_in 43 (by decide +kernel) (by decide +kernel)
theorem pq_551 : Cond.instanceMethod yX1_countsOn ∈ pd_gt := pd_in 746 (by decide +kernel) (by decide +kernel)
theorem pq_552 : Cond.selects yX1_countsOn.cls yX1_countsOn yX1_countsOn ∈ pd_gt := pd_in 747 (by decide +kernel) (by decide +kernel)
theorem pq_553 : Cond.fieldLinkNest RX4 101 "PayoutDesk$Shares" "ofHigh" "[[I" "PayoutDesk" ∈ pd_gt := pd_in 392 (by decide +kernel) (by decide +kernel)
theorem pq_554 : Cond.fieldLinkNest RX4 76 "PayoutDesk$Book" "loanCount" "I" "PayoutDesk" ∈ pd_gt := pd_in 272 (by decide +kernel) (by decide +kernel)
theorem pq_555 : Cond.fieldLinkNest RX4 79 "PayoutDesk$Book" "loans" "[LPayoutDesk$Dated;" "PayoutDesk" ∈ pd_gt := pd_in 245 (by decide +kernel) (by decide +kernel)
theorem pq_556 : Cond.fieldLinkNest RX4 83 "PayoutDesk$Dated" "of" "I" "PayoutDesk" ∈ pd_gt := pd_in 211 (by decide +kernel) (by decide +kernel)
theorem pq_557 : Cond.fieldLinkNest RX4 92 "PayoutDesk$Dated" "amount" "I" "PayoutDesk" ∈ pd_gt := pd_in 214 (by decide +kernel) (by decide +kernel)
theorem pq_558 : Cond.fieldLinkNest RX4 67 "PayoutDesk$Book" "accountCount" "I" "PayoutDesk" ∈ pd_gt := pd_in 263 (by decide +kernel) (by decide +kernel)
theorem pq_559 : Cond.fieldLinkNest RX4 70 "PayoutDesk$Shares" "ofAccount" "[[I" "PayoutDesk" ∈ pd_gt := pd_in 389 (by decide +kernel) (by decide +kernel)
theorem pq_560 : Cond.fieldLink RX4 28 "PayoutDesk$Ledger" "insider" "[Z" ∈ pd_gt := pd_in 438 (by decide +kernel) (by decide +kernel)
theorem pq_561 : Cond.fieldLinkNest RX4 58 "PayoutDesk$Book" "persons" "[LPayoutDesk$Person;" "PayoutDesk" ∈ pd_gt := pd_in 227 (by decide +kernel) (by decide +kernel)
theorem pq_562 : Cond.fieldLinkNest RX4 62 "PayoutDesk$Person" "insider" "Z" "PayoutDesk" ∈ pd_gt := pd_in 149 (by decide +kernel) (by decide +kernel)
theorem pq_563 : Cond.methodLink RX4 113 yX4_net ∈ pd_gt := pd_in 616 (by decide +kernel) (by decide +kernel)
theorem pq_564 : Cond.code yX4_net cX4_net 2 (some .long) ∈ pd_gt := pd_in 604 (by decide +kernel) (by decide +kernel)
theorem pq_565 : Cond.initialized yX4_net.cls ∈ pd_gt := pd_in 47 (by decide +kernel) (by decide +kernel)
theorem pq_566 : Cond.instanceMethod yX4_net ∈ pd_gt := pd_in 602 (by decide +kernel) (by decide +kernel)
theorem pq_567 : Cond.selects yX4_net.cls yX4_net yX4_net ∈ pd_gt := pd_in 603 (by decide +kernel) (by decide +kernel)
theorem pq_568 : Cond.fieldLink RX4 38 "PayoutDesk$Ledger" "cover" "J" ∈ pd_gt := pd_in 440 (by decide +kernel) (by decide +kernel)
theorem pq_569 : Cond.methodLink RX4 117 yX4_limit ∈ pd_gt := pd_in 617 (by decide +kernel) (by decide +kernel)
theorem pq_570 : Cond.code yX4_limit cX4_limit 4 (some .long) ∈ pd_gt := pd_in 611 (by decide +kernel) (by decide +kernel)
theorem pq_571 : Cond.initialized yX4_limit.cls ∈ pd_gt := pd_in 47 (by decide +kernel) (by decide +kernel)
theorem pq_572 : Cond.instanceMethod yX4_limit ∈ pd_gt := pd_in 609 (by decide +kernel) (by decide +kernel)
theorem pq_573 : Cond.selects yX4_limit.cls yX4_limit yX4_limit ∈ pd_gt := pd_in 610 (by decide +kernel) (by decide +kernel)
theorem pq_574 : Cond.methodLink RX4 127 yX4_setOff ∈ pd_gt := pd_in 635 (by decide +kernel) (by decide +kernel)
theorem pq_575 : Cond.code yX4_setOff cX4_setOff 2 (some .long) ∈ pd_gt := pd_in 597 (by decide +kernel) (by decide +kernel)
theorem pq_576 : Cond.initialized yX4_setOff.cls ∈ pd_gt := pd_in 47 (by decide +kernel) (by decide +kernel)
theorem pq_577 : Cond.instanceMethod yX4_setOff ∈ pd_gt := pd_in 595 (by decide +kernel) (by decide +kernel)
theorem pq_578 : Cond.selects yX4_setOff.cls yX4_setOff yX4_setOff ∈ pd_gt := pd_in 596 (by decide +kernel) (by decide +kernel)
theorem pq_579 : Cond.fieldLinkNest RX4 45 "PayoutDesk$Book" "personCount" "I" "PayoutDesk" ∈ pd_gt := pd_in 254 (by decide +kernel) (by decide +kernel)
theorem pq_580 : Cond.fieldLinkNest RX4 51 "PayoutDesk$Ties" "depositorOf" "[I" "PayoutDesk" ∈ pd_gt := pd_in 414 (by decide +kernel) (by decide +kernel)
theorem pq_581 : Cond.fieldLinkNest RX4 32 "PayoutDesk$State" "settings" "[I" "PayoutDesk" ∈ pd_gt := pd_in 338 (by decide +kernel) (by decide +kernel)
theorem pq_582 : Cond.methodLink RX4 54 yX4_addPerson ∈ pd_gt := pd_in 741 (by decide +kernel) (by decide +kernel)
theorem pq_583 : Cond.code yX4_addPerson cX4_addPerson 8 none ∈ pd_gt := pd_in 744 (by decide +kernel) (by decide +kernel)
theorem pq_584 : Cond.initialized yX4_addPerson.cls ∈ pd_gt := pd_in 47 (by decide +kernel) (by decide +kernel)
theorem pq_585 : Cond.instanceMethod yX4_addPerson ∈ pd_gt := pd_in 743 (by decide +kernel) (by decide +kernel)
theorem pq_586 : Cond.selects yX4_addPerson.cls yX4_addPerson yX4_addPerson ∈ pd_gt := pd_in 13 (by decide +kernel) (by decide +kernel)
theorem pq_587 : Cond.methodLink RX4 121 yX4_paid ∈ pd_gt := pd_in 622 (by decide +kernel) (by decide +kernel)
theorem pq_588 : Cond.code yX4_paid cX4_paid 2 (some .long) ∈ pd_gt := pd_in 615 (by decide +kernel) (by decide +kernel)
theorem pq_589 : Cond.initialized yX4_paid.cls ∈ pd_gt := pd_in 47 (by decide +kernel) (by decide +kernel)
theorem pq_590 : Cond.instanceMethod yX4_paid ∈ pd_gt := pd_in 613 (by decide +kernel) (by decide +kernel)
theorem pq_591 : Cond.selects yX4_paid.cls yX4_paid yX4_paid ∈ pd_gt := pd_in 614 (by decide +kernel) (by decide +kernel)
theorem pq_592 : Cond.methodLink RX4 137 yX4_paidUnder ∈ pd_gt := pd_in 640 (by decide +kernel) (by decide +kernel)
theorem pq_593 : Cond.code yX4_paidUnder cX4_paidUnder 6 (some .long) ∈ pd_gt := pd_in 643 (by decide +kernel) (by decide +kernel)
theorem pq_594 : Cond.initialized yX4_paidUnder.cls ∈ pd_gt := pd_in 47 (by decide +kernel) (by decide +kernel)
theorem pq_595 : Cond.instanceMethod yX4_paidUnder ∈ pd_gt := pd_in 642 (by decide +kernel) (by decide +kernel)
theorem pq_596 : Cond.selects yX4_paidUnder.cls yX4_paidUnder yX4_paidUnder ∈ pd_gt := pd_in 4 (by decide +kernel) (by decide +kernel)
theorem pq_597 : Cond.methodLink RX4 141 yX4_claim ∈ pd_gt := pd_in 652 (by decide +kernel) (by decide +kernel)
theorem pq_598 : Cond.code yX4_claim cX4_claim 2 (some .long) ∈ pd_gt := pd_in 621 (by decide +kernel) (by decide +kernel)
theorem pq_599 : Cond.initialized yX4_claim.cls ∈ pd_gt := pd_in 47 (by decide +kernel) (by decide +kernel)
theorem pq_600 : Cond.instanceMethod yX4_claim ∈ pd_gt := pd_in 619 (by decide +kernel) (by decide +kernel)
theorem pq_601 : Cond.selects yX4_claim.cls yX4_claim yX4_claim ∈ pd_gt := pd_in 620 (by decide +kernel) (by decide +kernel)
theorem pq_602 : Cond.methodLink RX4 144 yX4_claimsAhead ∈ pd_gt := pd_in 648 (by decide +kernel) (by decide +kernel)
theorem pq_603 : Cond.code yX4_claimsAhead cX4_claimsAhead 6 (some .long) ∈ pd_gt := pd_in 651 (by decide +kernel) (by decide +kernel)
theorem pq_604 : Cond.initialized yX4_claimsAhead.cls ∈ pd_gt := pd_in 47 (by decide +kernel) (by decide +kernel)
theorem pq_605 : Cond.instanceMethod yX4_claimsAhead ∈ pd_gt := pd_in 650 (by decide +kernel) (by decide +kernel)
theorem pq_606 : Cond.selects yX4_claimsAhead.cls yX4_claimsAhead yX4_claimsAhead ∈ pd_gt := pd_in 5 (by decide +kernel) (by decide +kernel)
theorem pq_607 : Cond.methodLink RX4 151 yX4_claimsOf ∈ pd_gt := pd_in 1311 (by decide +kernel) (by decide +kernel)
theorem pq_608 : Cond.code yX4_claimsOf cX4_claimsOf 2 (some .long) ∈ pd_gt := pd_in 647 (by decide +kernel) (by decide +kernel)
theorem pq_609 : Cond.initialized yX4_claimsOf.cls ∈ pd_gt := pd_in 47 (by decide +kernel) (by decide +kernel)
theorem pq_610 : Cond.instanceMethod yX4_claimsOf ∈ pd_gt := pd_in 645 (by decide +kernel) (by decide +kernel)
theorem pq_611 : Cond.selects yX4_claimsOf.cls yX4_claimsOf yX4_claimsOf ∈ pd_gt := pd_in 646 (by decide +kernel) (by decide +kernel)
theorem pq_612 : Cond.methodLink RX4 148 yX4_paidTogether ∈ pd_gt := pd_in 1310 (by decide +kernel) (by decide +kernel)
theorem pq_613 : Cond.code yX4_paidTogether cX4_paidTogether 1 (some .long) ∈ pd_gt := pd_in 639 (by decide +kernel) (by decide +kernel)
theorem pq_614 : Cond.initialized yX4_paidTogether.cls ∈ pd_gt := pd_in 47 (by decide +kernel) (by decide +kernel)
theorem pq_615 : Cond.instanceMethod yX4_paidTogether ∈ pd_gt := pd_in 637 (by decide +kernel) (by decide +kernel)
theorem pq_616 : Cond.selects yX4_paidTogether.cls yX4_paidTogether yX4_paidTogether ∈ pd_gt := pd_in 638 (by decide +kernel) (by decide +kernel)
def pfX4_setOff (sh : pd_S) (n : Nat) (F : pd_F) (x0 : Int) (x1 : Int) : Option (Int × pd_F) :=
  pd_i (pd_ob sh 4 x0 = true) <|
  pd_i (pd_ib sh 1 0 (F x0 2) x1 = true) <|
  pd_i (pd_ib sh 1 0 (F x0 1) x1 = true) <|
  some (min (F (F x0 2) x1) (F (F x0 1) x1), F)
def pfX4_net (sh : pd_S) (n : Nat) (F : pd_F) (x0 : Int) (x1 : Int) : Option (Int × pd_F) :=
  pd_i (pd_ob sh 4 x0 = true) <|
  pd_i (pd_ib sh 1 0 (F x0 1) x1 = true) <|
  pd_i (pd_ib sh 1 0 (F x0 2) x1 = true) <|
  some (max (pd_W ((F (F x0 1) x1) - (F (F x0 2) x1))) 0, F)
def pfX4_limit (sh : pd_S) (n : Nat) (F : pd_F) (x0 : Int) (x1 : Int) (x2 : Int) : Option (Int × pd_F) :=
  pd_i (pd_ob sh 4 x0 = true) <|
  pd_i (pd_ib sh 1 0 (F x0 3) x1 = true) <|
  some (pd_W (x2 + (min (F (F x0 3) x1) (F x0 6))), F)
def pfX4_hasTogether_b4 (sh : pd_S) (n : Nat)  : Nat → pd_F → Int → Int → Int → Option (Int × pd_F)
  | 0, _, _, _, _ => none
  | k + 1, F, x0, x1, x3 =>
    pd_i (pd_ob sh 4 x0 = true) <|
    pd_i (pd_ob sh 10 (F x0 0) = true) <|
    if x3 ≥ (F (F x0 0) 3) then
      some (x1, F)
    else
      pd_i (pd_ib sh 1 0 (F x0 1) x3 = true) <|
      pd_l (pd_W (x1 + (F (F x0 1) x3))) fun x1_23 =>
      pd_l (pd_w (x3 + 1)) fun x3_24 =>
      pfX4_hasTogether_b4 sh n k F x0 x1_23 x3_24
def pfX4_hasTogether (sh : pd_S) (n : Nat) (F : pd_F) (x0 : Int) : Option (Int × pd_F) :=
  pfX4_hasTogether_b4 sh n n F x0 0 0
def pfX4_addPerson_b130 (sh : pd_S) (n : Nat) (c77 : pd_F → Int → Int → Int → Int → Int → Int → Int → Option pd_F) (F : pd_F) (x0 : Int) (x1 : Int) (x2 : Int) (x3 : Int) (x4 : Int) (x5 : Int) (x6 : Int) : Option pd_F :=
  pd_l (pd_w (x6 + 1)) fun x6_130 =>
  c77 F x0 x1 x2 x3 x4 x5 x6_130
def pfX4_addPerson_b183 (sh : pd_S) (n : Nat) (c139 : pd_F → Int → Int → Int → Int → Int → Int → Int → Option pd_F) (F : pd_F) (x0 : Int) (x1 : Int) (x2 : Int) (x3 : Int) (x4 : Int) (x5 : Int) (x6 : Int) : Option pd_F :=
  pd_l (pd_w (x6 + 1)) fun x6_183 =>
  c139 F x0 x1 x2 x3 x4 x5 x6_183
def pfX4_addPerson_b139 (sh : pd_S) (n : Nat)  : Nat → pd_F → Int → Int → Int → Int → Int → Int → Int → Option pd_F
  | 0, _, _, _, _, _, _, _, _ => none
  | k + 1, F, x0, x1, x2, x3, x4, x5, x6 =>
    pd_i (pd_ob sh 0 x1 = true) <|
    if x6 ≥ (F x1 12) then
      some F
    else
      pd_i (pd_ib sh 2 1 (F x1 4) x6 = true) <|
      pd_i (pd_ob sh 1 (F (F x1 4) x6) = true) <|
      Option.bind (pfX1_countsOn sh n F (F (F x1 4) x6) x2) fun qr5 => pd_l qr5.1 fun r5 => pd_l qr5.2 fun F3 =>
      if r5 = 0 then
        pfX4_addPerson_b183 sh n (pfX4_addPerson_b139 sh n k) F3 x0 x1 x2 x3 x4 x5 x6
      else
        pd_i (pd_ob sh 4 x0 = true) <|
        pd_i (pd_ib sh 1 0 (F3 x0 3) x5 = true) <|
        pd_i (pd_ob sh 7 x3 = true) <|
        pd_i (pd_ib sh 3 0 (F3 x3 1) x6 = true) <|
        pd_i (pd_ib sh 0 0 (F3 (F3 x3 1) x6) x4 = true) <|
        pd_l (pd_up F3 (F3 x0 3) x5 (pd_W ((F3 (F3 x0 3) x5) + (F3 (F3 (F3 x3 1) x6) x4)))) fun F11 =>
        pfX4_addPerson_b183 sh n (pfX4_addPerson_b139 sh n k) F11 x0 x1 x2 x3 x4 x5 x6
def pfX4_addPerson_b136 (sh : pd_S) (n : Nat)  (F : pd_F) (x0 : Int) (x1 : Int) (x2 : Int) (x3 : Int) (x4 : Int) (x5 : Int) : Option pd_F :=
  pfX4_addPerson_b139 sh n n F x0 x1 x2 x3 x4 x5 0
def pfX4_addPerson_b77 (sh : pd_S) (n : Nat)  : Nat → pd_F → Int → Int → Int → Int → Int → Int → Int → Option pd_F
  | 0, _, _, _, _, _, _, _, _ => none
  | k + 1, F, x0, x1, x2, x3, x4, x5, x6 =>
    pd_i (pd_ob sh 0 x1 = true) <|
    if x6 ≥ (F x1 13) then
      pfX4_addPerson_b136 sh n F x0 x1 x2 x3 x4 x5
    else
      pd_i (pd_ib sh 2 1 (F x1 5) x6 = true) <|
      pd_l (F (F x1 5) x6) fun x7_93 =>
      pd_i (x7_93 ≠ 0) <|
      pd_i (pd_ob sh 1 x7_93 = true) <|
      if (F x7_93 0) ≠ x4 then
        pfX4_addPerson_b130 sh n (pfX4_addPerson_b77 sh n k) F x0 x1 x2 x3 x4 x5 x6
      else
        Option.bind (pfX1_countsOn sh n F x7_93 x2) fun qr17 => pd_l qr17.1 fun r17 => pd_l qr17.2 fun F16 =>
        if r17 = 0 then
          pfX4_addPerson_b130 sh n (pfX4_addPerson_b77 sh n k) F16 x0 x1 x2 x3 x4 x5 x6
        else
          pd_i (pd_ob sh 4 x0 = true) <|
          pd_i (pd_ib sh 1 0 (F16 x0 2) x5 = true) <|
          pd_l (pd_up F16 (F16 x0 2) x5 (pd_W ((F16 (F16 x0 2) x5) + (F16 x7_93 1)))) fun F20 =>
          pfX4_addPerson_b130 sh n (pfX4_addPerson_b77 sh n k) F20 x0 x1 x2 x3 x4 x5 x6
def pfX4_addPerson_b74 (sh : pd_S) (n : Nat)  (F : pd_F) (x0 : Int) (x1 : Int) (x2 : Int) (x3 : Int) (x4 : Int) (x5 : Int) : Option pd_F :=
  pfX4_addPerson_b77 sh n n F x0 x1 x2 x3 x4 x5 0
def pfX4_addPerson_b38 (sh : pd_S) (n : Nat)  : Nat → pd_F → Int → Int → Int → Int → Int → Int → Int → Option pd_F
  | 0, _, _, _, _, _, _, _, _ => none
  | k + 1, F, x0, x1, x2, x3, x4, x5, x6 =>
    pd_i (pd_ob sh 0 x1 = true) <|
    if x6 ≥ (F x1 11) then
      pfX4_addPerson_b74 sh n F x0 x1 x2 x3 x4 x5
    else
      pd_i (pd_ob sh 4 x0 = true) <|
      pd_i (pd_ib sh 1 0 (F x0 1) x5 = true) <|
      pd_i (pd_ob sh 7 x3 = true) <|
      pd_i (pd_ib sh 3 0 (F x3 0) x6 = true) <|
      pd_i (pd_ib sh 0 0 (F (F x3 0) x6) x4 = true) <|
      pd_l (pd_up F (F x0 1) x5 (pd_W ((F (F x0 1) x5) + (F (F (F x3 0) x6) x4)))) fun F27 =>
      pd_l (pd_w (x6 + 1)) fun x6_68 =>
      pfX4_addPerson_b38 sh n k F27 x0 x1 x2 x3 x4 x5 x6_68
def pfX4_addPerson_b34 (sh : pd_S) (n : Nat)  (F : pd_F) (x0 : Int) (x1 : Int) (x2 : Int) (x3 : Int) (x4 : Int) (x5 : Int) (t0 : Int) (t1 : Int) (t2 : Int) : Option pd_F :=
  pd_i (pd_ib sh 0 2 t2 t1 = true) <|
  pd_i (t0 = 0 ∨ t0 = 1) <|
  pd_l (pd_up F t2 t1 t0) fun F30 =>
  pfX4_addPerson_b38 sh n n F30 x0 x1 x2 x3 x4 x5 0
def pfX4_addPerson_b29 (sh : pd_S) (n : Nat)  (F : pd_F) (x0 : Int) (x1 : Int) (x2 : Int) (x3 : Int) (x4 : Int) (x5 : Int) (t0 : Int) (t1 : Int) : Option pd_F :=
  pfX4_addPerson_b34 sh n F x0 x1 x2 x3 x4 x5 1 t0 t1
def pfX4_addPerson (sh : pd_S) (n : Nat) (F : pd_F) (x0 : Int) (x1 : Int) (x2 : Int) (x3 : Int) (x4 : Int) (x5 : Int) : Option pd_F :=
  pd_i (pd_ob sh 4 x0 = true) <|
  pd_i (pd_ib sh 0 2 (F x0 4) x5 = true) <|
  if (F (F x0 4) x5) ≠ 0 then
    pfX4_addPerson_b29 sh n F x0 x1 x2 x3 x4 x5 x5 (F x0 4)
  else
    pd_i (pd_ob sh 0 x1 = true) <|
    pd_i (pd_ib sh 2 5 (F x1 0) x4 = true) <|
    pd_i (pd_ob sh 5 (F (F x1 0) x4) = true) <|
    if (F (F (F x1 0) x4) 4) = 0 then
      pfX4_addPerson_b34 sh n F x0 x1 x2 x3 x4 x5 0 x5 (F x0 4)
    else
      pfX4_addPerson_b29 sh n F x0 x1 x2 x3 x4 x5 x5 (F x0 4)
def pfX4_paid (sh : pd_S) (n : Nat) (F : pd_F) (x0 : Int) (x1 : Int) : Option (Int × pd_F) :=
  pd_i (pd_ob sh 4 x0 = true) <|
  Option.bind (pfX4_net sh n F x0 x1) fun qr3 => pd_l qr3.1 fun r3 => pd_l qr3.2 fun F1 =>
  Option.bind (pfX4_limit sh n F1 x0 x1 (F1 x0 5)) fun qr5 => pd_l qr5.1 fun r5 => pd_l qr5.2 fun F4 =>
  some (min r3 r5, F4)
def pfX4_setOffTogether_b4 (sh : pd_S) (n : Nat)  : Nat → pd_F → Int → Int → Int → Option (Int × pd_F)
  | 0, _, _, _, _ => none
  | k + 1, F, x0, x1, x3 =>
    pd_i (pd_ob sh 4 x0 = true) <|
    pd_i (pd_ob sh 10 (F x0 0) = true) <|
    if x3 ≥ (F (F x0 0) 3) then
      some (x1, F)
    else
      Option.bind (pfX4_setOff sh n F x0 x3) fun qr4 => pd_l qr4.1 fun r4 => pd_l qr4.2 fun F3 =>
      pd_l (pd_W (x1 + r4)) fun x1_22 =>
      pd_l (pd_w (x3 + 1)) fun x3_23 =>
      pfX4_setOffTogether_b4 sh n k F3 x0 x1_22 x3_23
def pfX4_setOffTogether (sh : pd_S) (n : Nat) (F : pd_F) (x0 : Int) : Option (Int × pd_F) :=
  pfX4_setOffTogether_b4 sh n n F x0 0 0
def pfX4_paidUnder_b5 (sh : pd_S) (n : Nat)  : Nat → pd_F → Int → Int → Int → Int → Option (Int × pd_F)
  | 0, _, _, _, _, _ => none
  | k + 1, F, x0, x1, x3, x5 =>
    pd_i (pd_ob sh 4 x0 = true) <|
    pd_i (pd_ob sh 10 (F x0 0) = true) <|
    if x5 ≥ (F (F x0 0) 3) then
      some (x3, F)
    else
      Option.bind (pfX4_net sh n F x0 x5) fun qr4 => pd_l qr4.1 fun r4 => pd_l qr4.2 fun F3 =>
      Option.bind (pfX4_limit sh n F3 x0 x5 x1) fun qr6 => pd_l qr6.1 fun r6 => pd_l qr6.2 fun F5 =>
      pd_l (pd_W (x3 + (min r4 r6))) fun x3_35 =>
      pd_l (pd_w (x5 + 1)) fun x5_36 =>
      pfX4_paidUnder_b5 sh n k F5 x0 x1 x3_35 x5_36
def pfX4_paidUnder (sh : pd_S) (n : Nat) (F : pd_F) (x0 : Int) (x1 : Int) : Option (Int × pd_F) :=
  pfX4_paidUnder_b5 sh n n F x0 x1 0 0
def pfX4_sumUp_b122 (sh : pd_S) (n : Nat) (c73 : pd_F → Int → Int → Int → Int → Int → Option pd_F) (F : pd_F) (x0 : Int) (x1 : Int) (x2 : Int) (x3 : Int) (x4 : Int) : Option pd_F :=
  pd_l (pd_w (x4 + 1)) fun x4_122 =>
  c73 F x0 x1 x2 x3 x4_122
def pfX4_sumUp_b73 (sh : pd_S) (n : Nat)  : Nat → pd_F → Int → Int → Int → Int → Int → Option pd_F
  | 0, _, _, _, _, _, _ => none
  | k + 1, F, x0, x1, x2, x3, x4 =>
    pd_i (pd_ob sh 0 x1 = true) <|
    if x4 ≥ (F x1 9) then
      some F
    else
      pd_i (pd_ob sh 4 x0 = true) <|
      pd_i (pd_ob sh 10 (F x0 0) = true) <|
      pd_i (pd_ib sh 0 0 (F (F x0 0) 1) x4 = true) <|
      pd_l (F (F (F x0 0) 1) x4) fun x5_92 =>
      if x5_92 < 0 then
        pfX4_sumUp_b122 sh n (pfX4_sumUp_b73 sh n k) F x0 x1 x2 x3 x4
      else
        if x5_92 ≥ 12 then
          pfX4_sumUp_b122 sh n (pfX4_sumUp_b73 sh n k) F x0 x1 x2 x3 x4
        else
          pd_i (pd_ob sh 8 x2 = true) <|
          pd_i (pd_ib sh 0 0 (F x2 1) 0 = true) <|
          Option.bind (pfX4_addPerson sh n F x0 x1 (F (F x2 1) 0) x3 x4 x5_92) fun F7 =>
          pfX4_sumUp_b122 sh n (pfX4_sumUp_b73 sh n k) F7 x0 x1 x2 x3 x4
def pfX4_sumUp_b70 (sh : pd_S) (n : Nat)  (F : pd_F) (x0 : Int) (x1 : Int) (x2 : Int) (x3 : Int) : Option pd_F :=
  pfX4_sumUp_b73 sh n n F x0 x1 x2 x3 0
def pfX4_sumUp_b25 (sh : pd_S) (n : Nat)  : Nat → pd_F → Int → Int → Int → Int → Int → Option pd_F
  | 0, _, _, _, _, _, _ => none
  | k + 1, F, x0, x1, x2, x3, x4 =>
    if x4 ≥ 12 then
      pfX4_sumUp_b70 sh n F x0 x1 x2 x3
    else
      pd_i (pd_ob sh 4 x0 = true) <|
      pd_i (pd_ib sh 1 0 (F x0 1) x4 = true) <|
      pd_l (pd_up F (F x0 1) x4 0) fun F10 =>
      pd_i (pd_ib sh 1 0 (F10 x0 2) x4 = true) <|
      pd_l (pd_up F10 (F10 x0 2) x4 0) fun F12 =>
      pd_i (pd_ib sh 1 0 (F12 x0 3) x4 = true) <|
      pd_l (pd_up F12 (F12 x0 3) x4 0) fun F14 =>
      pd_i (pd_ib sh 0 2 (F14 x0 4) x4 = true) <|
      pd_l (pd_up F14 (F14 x0 4) x4 0) fun F16 =>
      pd_l (pd_w (x4 + 1)) fun x4_64 =>
      pfX4_sumUp_b25 sh n k F16 x0 x1 x2 x3 x4_64
def pfX4_sumUp (sh : pd_S) (n : Nat) (F : pd_F) (x0 : Int) (x1 : Int) (x2 : Int) (x3 : Int) : Option pd_F :=
  pd_i (pd_ob sh 8 x2 = true) <|
  pd_i (pd_ib sh 0 0 (F x2 1) 1 = true) <|
  pd_i (pd_ob sh 4 x0 = true) <|
  pd_l (pd_up F x0 5 (F (F x2 1) 1)) fun F20 =>
  pd_i (pd_ib sh 0 0 (F20 x2 1) 2 = true) <|
  pd_l (pd_up F20 x0 6 (F20 (F20 x2 1) 2)) fun F22 =>
  pfX4_sumUp_b25 sh n n F22 x0 x1 x2 x3 0
def pfX4_claim (sh : pd_S) (n : Nat) (F : pd_F) (x0 : Int) (x1 : Int) : Option (Int × pd_F) :=
  pd_i (pd_ob sh 4 x0 = true) <|
  Option.bind (pfX4_net sh n F x0 x1) fun qr3 => pd_l qr3.1 fun r3 => pd_l qr3.2 fun F1 =>
  Option.bind (pfX4_paid sh n F1 x0 x1) fun qr5 => pd_l qr5.1 fun r5 => pd_l qr5.2 fun F4 =>
  some (pd_W (r3 - r5), F4)
def pfX4_paidTogether (sh : pd_S) (n : Nat) (F : pd_F) (x0 : Int) : Option (Int × pd_F) :=
  pd_i (pd_ob sh 4 x0 = true) <|
  Option.bind (pfX4_paidUnder sh n F x0 (F x0 5)) fun qr3 => pd_l qr3.1 fun r3 => pd_l qr3.2 fun F2 =>
  some (r3, F2)
def pfX4_claimants_b28 (sh : pd_S) (n : Nat) (c4 : pd_F → Int → Int → Int → Option (Int × pd_F)) (F : pd_F) (x0 : Int) (x1 : Int) (x2 : Int) : Option (Int × pd_F) :=
  pd_l (pd_w (x2 + 1)) fun x2_28 =>
  c4 F x0 x1 x2_28
def pfX4_claimants_b4 (sh : pd_S) (n : Nat)  : Nat → pd_F → Int → Int → Int → Option (Int × pd_F)
  | 0, _, _, _, _ => none
  | k + 1, F, x0, x1, x2 =>
    pd_i (pd_ob sh 4 x0 = true) <|
    pd_i (pd_ob sh 10 (F x0 0) = true) <|
    if x2 ≥ (F (F x0 0) 3) then
      some (x1, F)
    else
      Option.bind (pfX4_claim sh n F x0 x2) fun qr4 => pd_l qr4.1 fun r4 => pd_l qr4.2 fun F3 =>
      if r4 ≤ 0 then
        pfX4_claimants_b28 sh n (pfX4_claimants_b4 sh n k) F3 x0 x1 x2
      else
        pd_l (pd_w (x1 + 1)) fun x1_25 =>
        pfX4_claimants_b28 sh n (pfX4_claimants_b4 sh n k) F3 x0 x1_25 x2
def pfX4_claimants (sh : pd_S) (n : Nat) (F : pd_F) (x0 : Int) : Option (Int × pd_F) :=
  pfX4_claimants_b4 sh n n F x0 0 0
def pfX4_claimsAhead_b31 (sh : pd_S) (n : Nat) (c5 : pd_F → Int → Int → Int → Int → Int → Option (Int × pd_F)) (F : pd_F) (x0 : Int) (x1 : Int) (x2 : Int) (x3 : Int) (x5 : Int) : Option (Int × pd_F) :=
  pd_l (pd_w (x5 + 1)) fun x5_31 =>
  c5 F x0 x1 x2 x3 x5_31
def pfX4_claimsAhead_b5 (sh : pd_S) (n : Nat)  : Nat → pd_F → Int → Int → Int → Int → Int → Option (Int × pd_F)
  | 0, _, _, _, _, _, _ => none
  | k + 1, F, x0, x1, x2, x3, x5 =>
    if x5 ≥ x1 then
      some (x3, F)
    else
      pd_i (pd_ob sh 4 x0 = true) <|
      pd_i (pd_ib sh 0 2 (F x0 4) x5 = true) <|
      if (F (F x0 4) x5) ≠ x2 then
        pfX4_claimsAhead_b31 sh n (pfX4_claimsAhead_b5 sh n k) F x0 x1 x2 x3 x5
      else
        Option.bind (pfX4_claim sh n F x0 x5) fun qr4 => pd_l qr4.1 fun r4 => pd_l qr4.2 fun F3 =>
        pd_l (pd_W (x3 + r4)) fun x3_30 =>
        pfX4_claimsAhead_b31 sh n (pfX4_claimsAhead_b5 sh n k) F3 x0 x1 x2 x3_30 x5
def pfX4_claimsAhead (sh : pd_S) (n : Nat) (F : pd_F) (x0 : Int) (x1 : Int) (x2 : Int) : Option (Int × pd_F) :=
  pfX4_claimsAhead_b5 sh n n F x0 x1 x2 0 0
def pfX4_aheadOf_b54 (sh : pd_S) (n : Nat) (c11 : pd_F → Int → Int → Int → Int → Int → Option (Int × pd_F)) (F : pd_F) (x0 : Int) (x1 : Int) (x2 : Int) (x3 : Int) (x5 : Int) : Option (Int × pd_F) :=
  pd_l (pd_w (x5 + 1)) fun x5_54 =>
  c11 F x0 x1 x2 x3 x5_54
def pfX4_aheadOf_b51 (sh : pd_S) (n : Nat) (c11 : pd_F → Int → Int → Int → Int → Int → Option (Int × pd_F)) (F : pd_F) (x0 : Int) (x1 : Int) (x2 : Int) (x3 : Int) (x5 : Int) : Option (Int × pd_F) :=
  pd_l (pd_w (x2 + 1)) fun x2_51 =>
  pfX4_aheadOf_b54 sh n c11 F x0 x1 x2_51 x3 x5
def pfX4_aheadOf_b11 (sh : pd_S) (n : Nat)  : Nat → pd_F → Int → Int → Int → Int → Int → Option (Int × pd_F)
  | 0, _, _, _, _, _, _ => none
  | k + 1, F, x0, x1, x2, x3, x5 =>
    pd_i (pd_ob sh 4 x0 = true) <|
    pd_i (pd_ob sh 10 (F x0 0) = true) <|
    if x5 ≥ (F (F x0 0) 3) then
      some (x2, F)
    else
      Option.bind (pfX4_claim sh n F x0 x5) fun qr4 => pd_l qr4.1 fun r4 => pd_l qr4.2 fun F3 =>
      if r4 > x3 then
        pfX4_aheadOf_b51 sh n (pfX4_aheadOf_b11 sh n k) F3 x0 x1 x2 x3 x5
      else
        if r4 ≠ x3 then
          pfX4_aheadOf_b54 sh n (pfX4_aheadOf_b11 sh n k) F3 x0 x1 x2 x3 x5
        else
          if x5 ≥ x1 then
            pfX4_aheadOf_b54 sh n (pfX4_aheadOf_b11 sh n k) F3 x0 x1 x2 x3 x5
          else
            pfX4_aheadOf_b51 sh n (pfX4_aheadOf_b11 sh n k) F3 x0 x1 x2 x3 x5
def pfX4_aheadOf (sh : pd_S) (n : Nat) (F : pd_F) (x0 : Int) (x1 : Int) : Option (Int × pd_F) :=
  pd_i (pd_ob sh 4 x0 = true) <|
  Option.bind (pfX4_claim sh n F x0 x1) fun qr7 => pd_l qr7.1 fun r7 => pd_l qr7.2 fun F5 =>
  pfX4_aheadOf_b11 sh n n F5 x0 x1 0 r7 0
def pfX4_claimsOf (sh : pd_S) (n : Nat) (F : pd_F) (x0 : Int) (x1 : Int) : Option (Int × pd_F) :=
  pd_i (pd_ob sh 4 x0 = true) <|
  pd_i (pd_ob sh 10 (F x0 0) = true) <|
  Option.bind (pfX4_claimsAhead sh n F x0 (F (F x0 0) 3) x1) fun qr4 => pd_l qr4.1 fun r4 => pd_l qr4.2 fun F3 =>
  some (r4, F3)
def pfX4_fromEstate_b31 (sh : pd_S) (n : Nat)  (F : pd_F) (x0 : Int) (x3 : Int) (x4 : Int) (x5 : Int) : Option (Int × pd_F) :=
  pd_l (max x5 0) fun x5_37 =>
  pd_i (pd_ob sh 4 x0 = true) <|
  Option.bind (pfX4_claimsOf sh n F x0 x4) fun qr3 => pd_l qr3.1 fun r3 => pd_l qr3.2 fun F1 =>
  Option.bind (pfX4_claim sh n F1 x0 x3) fun qr5 => pd_l qr5.1 fun r5 => pd_l qr5.2 fun F4 =>
  if r3 ≤ 0 then
    some (r5, F4)
  else
    if r3 > x5_37 then
      Option.bind (pfX4_claimsAhead sh n F4 x0 x3 x4) fun qr7 => pd_l qr7.1 fun r7 => pd_l qr7.2 fun F6 =>
      pd_i (r3 ≠ 0) <|
      some (pd_W ((pd_W (Int.tdiv (pd_W (x5_37 * (pd_W (r7 + r5)))) r3)) - (pd_W (Int.tdiv (pd_W (x5_37 * r7)) r3))), F6)
    else
      some (r5, F4)
def pfX4_fromEstate (sh : pd_S) (n : Nat) (F : pd_F) (x0 : Int) (x1 : Int) (x3 : Int) : Option (Int × pd_F) :=
  pd_i (pd_ob sh 4 x0 = true) <|
  pd_i (pd_ib sh 0 2 (F x0 4) x3 = true) <|
  pd_l (F (F x0 4) x3) fun x4_6 =>
  Option.bind (pfX4_paidTogether sh n F x0) fun qr12 => pd_l qr12.1 fun r12 => pd_l qr12.2 fun F11 =>
  pd_l (pd_W (x1 - r12)) fun x5_14 =>
  if x4_6 = 0 then
    pfX4_fromEstate_b31 sh n F11 x0 x3 x4_6 x5_14
  else
    Option.bind (pfX4_claimsOf sh n F11 x0 0) fun qr14 => pd_l qr14.1 fun r14 => pd_l qr14.2 fun F13 =>
    pd_l (pd_W (x5_14 - r14)) fun x5_29 =>
    pfX4_fromEstate_b31 sh n F13 x0 x3 x4_6 x5_29
set_option maxHeartbeats 4000000 in
set_option maxRecDepth 100000 in
theorem pkX4_setOff (l : Launch) {al : Bool} {sh : pd_S} {n : Nat} {F : pd_F} {x0 : Int} {x1 : Int} {ρ : Int} {Fz : pd_F} (hf : pfX4_setOff sh n F x0 x1 = some (ρ, Fz)) : pd_C l yX4_setOff (Cond.code yX4_setOff cX4_setOff 2 (some .long) :: pd_gt) (pd_rm 1 0 0) al 0 0 sh F [pd_R x0, pd_I x1] (some (pd_J ρ)) sh Fz := by
  unfold pfX4_setOff at hf
  refine pd_body (L := [pd_R x0, pd_I x1]) (by decide +kernel) (Nat.le_of_ble_eq_true rfl) rfl (fun E => ?_)
  refine pd_aload_n (i := 0) dX4_setOff_0 rfl rfl ?_
  obtain ⟨hg1, hf⟩ := pd_ig hf
  refine pd_get (x := pd_R (F x0 2)) 2 dX4_setOff_1 (show vwCl[4]? = some (RX4, TX4, 7) from rfl) pin_4 (by decide) pq_534 hg1 rfl ?_
  refine pd_iload_n (i := 1) dX4_setOff_4 rfl rfl ?_
  obtain ⟨hg2, hf⟩ := pd_ig hf
  refine pd_lald dX4_setOff_5 hg2 ?_
  refine pd_aload_n (i := 0) dX4_setOff_6 rfl rfl ?_
  refine pd_get (x := pd_R (F x0 1)) 1 dX4_setOff_7 (show vwCl[4]? = some (RX4, TX4, 7) from rfl) pin_4 (by decide) pq_535 hg1 rfl ?_
  refine pd_iload_n (i := 1) dX4_setOff_10 rfl rfl ?_
  obtain ⟨hg3, hf⟩ := pd_ig hf
  refine pd_lald dX4_setOff_11 hg3 ?_
  refine pd_mminJ dX4_setOff_12 pq_536 pq_537 pq_40 pq_538 pd_rmR (Nat.le_of_ble_eq_true rfl) ?_
  obtain ⟨h1, h2⟩ := pd_inj hf
  subst h1 h2
  exact pd_lret dX4_setOff_15 rfl (Nat.le_refl 0) (Nat.le_refl 0)
set_option maxHeartbeats 4000000 in
set_option maxRecDepth 100000 in
theorem pkX4_net (l : Launch) {al : Bool} {sh : pd_S} {n : Nat} {F : pd_F} {x0 : Int} {x1 : Int} {ρ : Int} {Fz : pd_F} (hf : pfX4_net sh n F x0 x1 = some (ρ, Fz)) : pd_C l yX4_net (Cond.code yX4_net cX4_net 2 (some .long) :: pd_gt) (pd_rm 1 0 0) al 0 0 sh F [pd_R x0, pd_I x1] (some (pd_J ρ)) sh Fz := by
  unfold pfX4_net at hf
  refine pd_body (L := [pd_R x0, pd_I x1]) (by decide +kernel) (Nat.le_of_ble_eq_true rfl) rfl (fun E => ?_)
  refine pd_aload_n (i := 0) dX4_net_0 rfl rfl ?_
  obtain ⟨hg1, hf⟩ := pd_ig hf
  refine pd_get (x := pd_R (F x0 1)) 1 dX4_net_1 (show vwCl[4]? = some (RX4, TX4, 7) from rfl) pin_4 (by decide) pq_535 hg1 rfl ?_
  refine pd_iload_n (i := 1) dX4_net_4 rfl rfl ?_
  obtain ⟨hg2, hf⟩ := pd_ig hf
  refine pd_lald dX4_net_5 hg2 ?_
  refine pd_aload_n (i := 0) dX4_net_6 rfl rfl ?_
  refine pd_get (x := pd_R (F x0 2)) 2 dX4_net_7 (show vwCl[4]? = some (RX4, TX4, 7) from rfl) pin_4 (by decide) pq_534 hg1 rfl ?_
  refine pd_iload_n (i := 1) dX4_net_10 rfl rfl ?_
  obtain ⟨hg3, hf⟩ := pd_ig hf
  refine pd_lald dX4_net_11 hg3 ?_
  refine pd_lsub dX4_net_12 ?_
  refine pd_lconst (x := 0) dX4_net_13 (by decide) ?_
  refine pd_mmaxJ dX4_net_14 pq_539 pq_540 pq_40 pq_541 pd_rmR (Nat.le_of_ble_eq_true rfl) ?_
  obtain ⟨h1, h2⟩ := pd_inj hf
  subst h1 h2
  exact pd_lret dX4_net_17 rfl (Nat.le_refl 0) (Nat.le_refl 0)
set_option maxHeartbeats 4000000 in
set_option maxRecDepth 100000 in
theorem pkX4_limit (l : Launch) {al : Bool} {sh : pd_S} {n : Nat} {F : pd_F} {x0 : Int} {x1 : Int} {x2 : Int} {ρ : Int} {Fz : pd_F} (hf : pfX4_limit sh n F x0 x1 x2 = some (ρ, Fz)) : pd_C l yX4_limit (Cond.code yX4_limit cX4_limit 4 (some .long) :: pd_gt) (pd_rm 1 0 0) al 0 0 sh F [pd_R x0, pd_I x1, pd_J x2] (some (pd_J ρ)) sh Fz := by
  unfold pfX4_limit at hf
  refine pd_body (L := [pd_R x0, pd_I x1, pd_J x2, pd_N]) (by decide +kernel) (Nat.le_of_ble_eq_true rfl) rfl (fun E => ?_)
  refine pd_lload_n (i := 2) dX4_limit_0 rfl rfl ?_
  refine pd_aload_n (i := 0) dX4_limit_1 rfl rfl ?_
  obtain ⟨hg1, hf⟩ := pd_ig hf
  refine pd_get (x := pd_R (F x0 3)) 3 dX4_limit_2 (show vwCl[4]? = some (RX4, TX4, 7) from rfl) pin_4 (by decide) pq_542 hg1 rfl ?_
  refine pd_iload_n (i := 1) dX4_limit_5 rfl rfl ?_
  obtain ⟨hg2, hf⟩ := pd_ig hf
  refine pd_lald dX4_limit_6 hg2 ?_
  refine pd_aload_n (i := 0) dX4_limit_7 rfl rfl ?_
  refine pd_get (x := pd_J (F x0 6)) 6 dX4_limit_8 (show vwCl[4]? = some (RX4, TX4, 7) from rfl) pin_4 (by decide) pq_543 hg1 rfl ?_
  refine pd_mminJ dX4_limit_11 pq_536 pq_537 pq_40 pq_538 pd_rmR (Nat.le_of_ble_eq_true rfl) ?_
  refine pd_ladd dX4_limit_14 ?_
  obtain ⟨h1, h2⟩ := pd_inj hf
  subst h1 h2
  exact pd_lret dX4_limit_15 rfl (Nat.le_refl 0) (Nat.le_refl 0)
set_option maxHeartbeats 4000000 in
set_option maxRecDepth 100000 in
theorem pkX4_hasTogether_b4 (E : pd_E) (l : Launch) {al : Bool} {sh : pd_S} {n : Nat} {ρ : Int} {Fz : pd_F}  : ∀ (k : Nat) (F : pd_F) (x0 : Int) (x1 : Int) (x3 : Int), pfX4_hasTogether_b4 sh n  k F x0 x1 x3 = some (ρ, Fz) → pd_V E l (pd_rm 1 0 0) (RX4, cX4_hasTogether, 4, (some .long), "hasTogether") (pd_Qm E al (some (pd_J ρ)) sh Fz 0 0) al 0 0 sh F 4 [pd_R x0, pd_J x1, pd_N, pd_I x3] [] := by
  intro k
  induction k with
  | zero => intro F x0 x1 x3 hf; exact absurd hf (by unfold pfX4_hasTogether_b4; exact fun h => nomatch h)
  | succ k ih =>
    intro F x0 x1 x3 hf
    unfold pfX4_hasTogether_b4 at hf
    refine pd_iload_n (i := 3) dX4_hasTogether_4 rfl rfl ?_
    refine pd_aload_n (i := 0) dX4_hasTogether_5 rfl rfl ?_
    obtain ⟨hg1, hf⟩ := pd_ig hf
    refine pd_get (x := pd_R (F x0 0)) 0 dX4_hasTogether_6 (show vwCl[4]? = some (RX4, TX4, 7) from rfl) pin_4 (by decide) pq_544 hg1 rfl ?_
    obtain ⟨hg2, hf⟩ := pd_ig hf
    refine pd_getN (x := pd_I (F (F x0 0) 3)) 3 dX4_hasTogether_9 (show vwCl[10]? = some (RX10, TX10, 4) from rfl) pin_10 (by decide) pq_545 hg2 rfl ?_
    refine pd_icmp_ge (tgt := 30) dX4_hasTogether_12 (by decide) (fun hc => ?_) (fun hc => ?_)
    · have hf := pd_ip hf hc
      refine pd_lload_n (i := 1) dX4_hasTogether_30 rfl rfl ?_
      obtain ⟨h1, h2⟩ := pd_inj hf
      subst h1 h2
      exact pd_lret dX4_hasTogether_31 rfl (Nat.le_refl 0) (Nat.le_refl 0)
    · have hf := pd_in_ hf hc
      refine pd_lload_n (i := 1) dX4_hasTogether_15 rfl rfl ?_
      refine pd_aload_n (i := 0) dX4_hasTogether_16 rfl rfl ?_
      refine pd_get (x := pd_R (F x0 1)) 1 dX4_hasTogether_17 (show vwCl[4]? = some (RX4, TX4, 7) from rfl) pin_4 (by decide) pq_535 hg1 rfl ?_
      refine pd_iload_n (i := 3) dX4_hasTogether_20 rfl rfl ?_
      obtain ⟨hg3, hf⟩ := pd_ig hf
      refine pd_lald dX4_hasTogether_21 hg3 ?_
      refine pd_ladd dX4_hasTogether_22 ?_
      refine pd_topJ (fun x1_23 ex1_23 => ?_)
      have hf := pd_lt hf ex1_23
      clear ex1_23
      refine pd_lstore_n (L' := [pd_R x0, pd_J x1_23, pd_N, pd_I x3]) dX4_hasTogether_23 rfl (by decide) rfl ?_
      refine pd_iincN (L' := fun y => [pd_R x0, pd_J x1_23, pd_N, pd_I y]) dX4_hasTogether_24 rfl (by decide) (by decide) (fun _ => rfl) (fun x3_24 ex3_24 => ?_)
      have hf := pd_lt hf ex3_24
      clear ex3_24
      refine pd_goto (tgt := 4) dX4_hasTogether_27 (by decide) ?_
      exact pd_weak (L' := [pd_R x0, pd_J x1_23, pd_N, pd_I x3_24]) ⟨Or.inr rfl, Or.inr rfl, Or.inr rfl, Or.inr rfl, trivial⟩ (ih _ _ _ _ hf)
set_option maxHeartbeats 4000000 in
set_option maxRecDepth 100000 in
theorem pkX4_hasTogether (l : Launch) {al : Bool} {sh : pd_S} {n : Nat} {F : pd_F} {x0 : Int} {ρ : Int} {Fz : pd_F} (hf : pfX4_hasTogether sh n F x0 = some (ρ, Fz)) : pd_C l yX4_hasTogether (Cond.code yX4_hasTogether cX4_hasTogether 4 (some .long) :: pd_gt) (pd_rm 1 0 0) al 0 0 sh F [pd_R x0] (some (pd_J ρ)) sh Fz := by
  unfold pfX4_hasTogether at hf
  refine pd_body (L := [pd_R x0, pd_N, pd_N, pd_N]) (by decide +kernel) (Nat.le_of_ble_eq_true rfl) rfl (fun E => ?_)
  refine pd_lconst (x := 0) dX4_hasTogether_0 (by decide) ?_
  refine pd_lstore_n (L' := [pd_R x0, pd_J 0, pd_N, pd_N]) dX4_hasTogether_1 rfl (by decide) rfl ?_
  refine pd_iconst dX4_hasTogether_2 (by decide) ?_
  refine pd_istore_n (L' := [pd_R x0, pd_J 0, pd_N, pd_I 0]) dX4_hasTogether_3 rfl (by decide) rfl ?_
  exact pd_weak (L' := [pd_R x0, pd_J 0, pd_N, pd_I 0]) ⟨Or.inr rfl, Or.inr rfl, Or.inr rfl, Or.inr rfl, trivial⟩ (pkX4_hasTogether_b4 E l n _ _ _ _ hf)
set_option maxHeartbeats 4000000 in
set_option maxRecDepth 100000 in
theorem pkX4_addPerson_b130 (E : pd_E) (l : Launch) {al : Bool} {sh : pd_S} {n : Nat} {Fz : pd_F} {c77 : pd_F → Int → Int → Int → Int → Int → Int → Int → Option pd_F} (hL77 : ∀ (F : pd_F) (x0 : Int) (x1 : Int) (x2 : Int) (x3 : Int) (x4 : Int) (x5 : Int) (x6 : Int), c77 F x0 x1 x2 x3 x4 x5 x6 = some Fz → pd_V E l (pd_rm 2 0 0) (RX4, cX4_addPerson, 8, none, "addPerson") (pd_Qm E al none sh Fz 0 0) al 0 0 sh F 77 [pd_R x0, pd_R x1, pd_I x2, pd_R x3, pd_I x4, pd_I x5, pd_I x6, pd_N] []) (F : pd_F) (x0 : Int) (x1 : Int) (x2 : Int) (x3 : Int) (x4 : Int) (x5 : Int) (x6 : Int) (hf : pfX4_addPerson_b130 sh n c77 F x0 x1 x2 x3 x4 x5 x6 = some Fz) : pd_V E l (pd_rm 2 0 0) (RX4, cX4_addPerson, 8, none, "addPerson") (pd_Qm E al none sh Fz 0 0) al 0 0 sh F 130 [pd_R x0, pd_R x1, pd_I x2, pd_R x3, pd_I x4, pd_I x5, pd_I x6, pd_N] [] := by
  unfold pfX4_addPerson_b130 at hf
  refine pd_iincN (L' := fun y => [pd_R x0, pd_R x1, pd_I x2, pd_R x3, pd_I x4, pd_I x5, pd_I y, pd_N]) dX4_addPerson_130 rfl (by decide) (by decide) (fun _ => rfl) (fun x6_130 ex6_130 => ?_)
  have hf := pd_lt hf ex6_130
  clear ex6_130
  refine pd_goto (tgt := 77) dX4_addPerson_133 (by decide) ?_
  exact pd_weak (L' := [pd_R x0, pd_R x1, pd_I x2, pd_R x3, pd_I x4, pd_I x5, pd_I x6_130, pd_N]) ⟨Or.inr rfl, Or.inr rfl, Or.inr rfl, Or.inr rfl, Or.inr rfl, Or.inr rfl, Or.inr rfl, Or.inr rfl, trivial⟩ (hL77 _ _ _ _ _ _ _ _ hf)
set_option maxHeartbeats 4000000 in
set_option maxRecDepth 100000 in
theorem pkX4_addPerson_b183 (E : pd_E) (l : Launch) {al : Bool} {sh : pd_S} {n : Nat} {Fz : pd_F} {c139 : pd_F → Int → Int → Int → Int → Int → Int → Int → Option pd_F} (hL139 : ∀ (F : pd_F) (x0 : Int) (x1 : Int) (x2 : Int) (x3 : Int) (x4 : Int) (x5 : Int) (x6 : Int), c139 F x0 x1 x2 x3 x4 x5 x6 = some Fz → pd_V E l (pd_rm 2 0 0) (RX4, cX4_addPerson, 8, none, "addPerson") (pd_Qm E al none sh Fz 0 0) al 0 0 sh F 139 [pd_R x0, pd_R x1, pd_I x2, pd_R x3, pd_I x4, pd_I x5, pd_I x6, pd_N] []) (F : pd_F) (x0 : Int) (x1 : Int) (x2 : Int) (x3 : Int) (x4 : Int) (x5 : Int) (x6 : Int) (hf : pfX4_addPerson_b183 sh n c139 F x0 x1 x2 x3 x4 x5 x6 = some Fz) : pd_V E l (pd_rm 2 0 0) (RX4, cX4_addPerson, 8, none, "addPerson") (pd_Qm E al none sh Fz 0 0) al 0 0 sh F 183 [pd_R x0, pd_R x1, pd_I x2, pd_R x3, pd_I x4, pd_I x5, pd_I x6, pd_N] [] := by
  unfold pfX4_addPerson_b183 at hf
  refine pd_iincN (L' := fun y => [pd_R x0, pd_R x1, pd_I x2, pd_R x3, pd_I x4, pd_I x5, pd_I y, pd_N]) dX4_addPerson_183 rfl (by decide) (by decide) (fun _ => rfl) (fun x6_183 ex6_183 => ?_)
  have hf := pd_lt hf ex6_183
  clear ex6_183
  refine pd_goto (tgt := 139) dX4_addPerson_186 (by decide) ?_
  exact pd_weak (L' := [pd_R x0, pd_R x1, pd_I x2, pd_R x3, pd_I x4, pd_I x5, pd_I x6_183, pd_N]) ⟨Or.inr rfl, Or.inr rfl, Or.inr rfl, Or.inr rfl, Or.inr rfl, Or.inr rfl, Or.inr rfl, Or.inr rfl, trivial⟩ (hL139 _ _ _ _ _ _ _ _ hf)
set_option maxHeartbeats 4000000 in
set_option maxRecDepth 100000 in
theorem pkX4_addPerson_b139 (E : pd_E) (l : Launch) {al : Bool} {sh : pd_S} {n : Nat} {Fz : pd_F}  : ∀ (k : Nat) (F : pd_F) (x0 : Int) (x1 : Int) (x2 : Int) (x3 : Int) (x4 : Int) (x5 : Int) (x6 : Int), pfX4_addPerson_b139 sh n  k F x0 x1 x2 x3 x4 x5 x6 = some Fz → pd_V E l (pd_rm 2 0 0) (RX4, cX4_addPerson, 8, none, "addPerson") (pd_Qm E al none sh Fz 0 0) al 0 0 sh F 139 [pd_R x0, pd_R x1, pd_I x2, pd_R x3, pd_I x4, pd_I x5, pd_I x6, pd_N] [] := by
  intro k
  induction k with
  | zero => intro F x0 x1 x2 x3 x4 x5 x6 hf; exact absurd hf (by unfold pfX4_addPerson_b139; exact fun h => nomatch h)
  | succ k ih =>
    intro F x0 x1 x2 x3 x4 x5 x6 hf
    unfold pfX4_addPerson_b139 at hf
    refine pd_iload (i := 6) dX4_addPerson_139 rfl ?_
    refine pd_aload_n (i := 1) dX4_addPerson_141 rfl rfl ?_
    obtain ⟨hg1, hf⟩ := pd_ig hf
    refine pd_getN (x := pd_I (F x1 12)) 12 dX4_addPerson_142 (show vwCl[0]? = some (RX0, TX0, 15) from rfl) pin_0 (by decide) pq_546 hg1 rfl ?_
    refine pd_icmp_ge (tgt := 189) dX4_addPerson_145 (by decide) (fun hc => ?_) (fun hc => ?_)
    · have hf := pd_ip hf hc
      obtain h2 := pd_inj1 hf
      subst h2
      exact pd_vret dX4_addPerson_189 rfl (Nat.le_refl 0) (Nat.le_refl 0)
    · have hf := pd_in_ hf hc
      refine pd_aload_n (i := 1) dX4_addPerson_148 rfl rfl ?_
      refine pd_getN (x := pd_R (F x1 4)) 4 dX4_addPerson_149 (show vwCl[0]? = some (RX0, TX0, 15) from rfl) pin_0 (by decide) pq_547 hg1 rfl ?_
      refine pd_iload (i := 6) dX4_addPerson_152 rfl ?_
      obtain ⟨hg2, hf⟩ := pd_ig hf
      refine pd_aald dX4_addPerson_154 hg2 ?_
      refine pd_iload_n (i := 2) dX4_addPerson_155 rfl rfl ?_
      obtain ⟨hg4, hf⟩ := pd_ig hf
      obtain ⟨r5, F3, hr, hf⟩ := pd_ob2 hf
      refine pd_callV (pkX1_countsOn l hr) dX4_addPerson_156 pq_548 pq_551 pq_552 (show vwCl[1]? = some (yX1_countsOn.cls, TX1, 4) from rfl) hg4 (pd_okm (by omega) (by decide) pq_549 pq_550 (by decide) (show (parseMethodDescriptor yX1_countsOn.desc).map (fun d => d.parameters.length) = some 1 from by decide +kernel)) (Nat.le_of_ble_eq_true rfl) rfl ?_
      refine pd_if_eq (tgt := 183) dX4_addPerson_159 (by decide) (fun hc => ?_) (fun hc => ?_)
      · have hf := pd_ip hf hc
        exact pd_weak (L' := [pd_R x0, pd_R x1, pd_I x2, pd_R x3, pd_I x4, pd_I x5, pd_I x6, pd_N]) ⟨Or.inr rfl, Or.inr rfl, Or.inr rfl, Or.inr rfl, Or.inr rfl, Or.inr rfl, Or.inr rfl, Or.inr rfl, trivial⟩ (pkX4_addPerson_b183 E l ih _ _ _ _ _ _ _ _ hf)
      · have hf := pd_in_ hf hc
        refine pd_aload_n (i := 0) dX4_addPerson_162 rfl rfl ?_
        obtain ⟨hg6, hf⟩ := pd_ig hf
        refine pd_get (x := pd_R (F3 x0 3)) 3 dX4_addPerson_163 (show vwCl[4]? = some (RX4, TX4, 7) from rfl) pin_4 (by decide) pq_542 hg6 rfl ?_
        refine pd_iload (i := 5) dX4_addPerson_166 rfl ?_
        refine pd_dup2 dX4_addPerson_168 rfl rfl ?_
        obtain ⟨hg7, hf⟩ := pd_ig hf
        refine pd_lald dX4_addPerson_169 hg7 ?_
        refine pd_aload_n (i := 3) dX4_addPerson_170 rfl rfl ?_
        obtain ⟨hg8, hf⟩ := pd_ig hf
        refine pd_getN (x := pd_R (F3 x3 1)) 1 dX4_addPerson_171 (show vwCl[7]? = some (RX7, TX7, 2) from rfl) pin_7 (by decide) pq_553 hg8 rfl ?_
        refine pd_iload (i := 6) dX4_addPerson_174 rfl ?_
        obtain ⟨hg9, hf⟩ := pd_ig hf
        refine pd_aalI dX4_addPerson_176 hg9 ?_
        refine pd_iload (i := 4) dX4_addPerson_177 rfl ?_
        obtain ⟨hg10, hf⟩ := pd_ig hf
        refine pd_iald dX4_addPerson_179 hg10 ?_
        refine pd_i2l dX4_addPerson_180 ?_
        refine pd_ladd dX4_addPerson_181 ?_
        refine pd_last dX4_addPerson_182 hg7 ?_
        refine pd_topF (fun F11 eF11 => ?_)
        have hf := pd_lt hf eF11
        clear eF11
        exact pd_weak (L' := [pd_R x0, pd_R x1, pd_I x2, pd_R x3, pd_I x4, pd_I x5, pd_I x6, pd_N]) ⟨Or.inr rfl, Or.inr rfl, Or.inr rfl, Or.inr rfl, Or.inr rfl, Or.inr rfl, Or.inr rfl, Or.inr rfl, trivial⟩ (pkX4_addPerson_b183 E l ih _ _ _ _ _ _ _ _ hf)
set_option maxHeartbeats 4000000 in
set_option maxRecDepth 100000 in
theorem pkX4_addPerson_b136 (E : pd_E) (l : Launch) {al : Bool} {sh : pd_S} {n : Nat} {Fz : pd_F}  (F : pd_F) (x0 : Int) (x1 : Int) (x2 : Int) (x3 : Int) (x4 : Int) (x5 : Int) (hf : pfX4_addPerson_b136 sh n  F x0 x1 x2 x3 x4 x5 = some Fz) : pd_V E l (pd_rm 2 0 0) (RX4, cX4_addPerson, 8, none, "addPerson") (pd_Qm E al none sh Fz 0 0) al 0 0 sh F 136 [pd_R x0, pd_R x1, pd_I x2, pd_R x3, pd_I x4, pd_I x5, pd_N, pd_N] [] := by
  unfold pfX4_addPerson_b136 at hf
  refine pd_iconst dX4_addPerson_136 (by decide) ?_
  refine pd_istore (L' := [pd_R x0, pd_R x1, pd_I x2, pd_R x3, pd_I x4, pd_I x5, pd_I 0, pd_N]) dX4_addPerson_137 (by decide) rfl ?_
  exact pd_weak (L' := [pd_R x0, pd_R x1, pd_I x2, pd_R x3, pd_I x4, pd_I x5, pd_I 0, pd_N]) ⟨Or.inr rfl, Or.inr rfl, Or.inr rfl, Or.inr rfl, Or.inr rfl, Or.inr rfl, Or.inr rfl, Or.inr rfl, trivial⟩ (pkX4_addPerson_b139 E l n _ _ _ _ _ _ _ _ hf)
set_option maxHeartbeats 4000000 in
set_option maxRecDepth 100000 in
theorem pkX4_addPerson_b77 (E : pd_E) (l : Launch) {al : Bool} {sh : pd_S} {n : Nat} {Fz : pd_F}  : ∀ (k : Nat) (F : pd_F) (x0 : Int) (x1 : Int) (x2 : Int) (x3 : Int) (x4 : Int) (x5 : Int) (x6 : Int), pfX4_addPerson_b77 sh n  k F x0 x1 x2 x3 x4 x5 x6 = some Fz → pd_V E l (pd_rm 2 0 0) (RX4, cX4_addPerson, 8, none, "addPerson") (pd_Qm E al none sh Fz 0 0) al 0 0 sh F 77 [pd_R x0, pd_R x1, pd_I x2, pd_R x3, pd_I x4, pd_I x5, pd_I x6, pd_N] [] := by
  intro k
  induction k with
  | zero => intro F x0 x1 x2 x3 x4 x5 x6 hf; exact absurd hf (by unfold pfX4_addPerson_b77; exact fun h => nomatch h)
  | succ k ih =>
    intro F x0 x1 x2 x3 x4 x5 x6 hf
    unfold pfX4_addPerson_b77 at hf
    refine pd_iload (i := 6) dX4_addPerson_77 rfl ?_
    refine pd_aload_n (i := 1) dX4_addPerson_79 rfl rfl ?_
    obtain ⟨hg12, hf⟩ := pd_ig hf
    refine pd_getN (x := pd_I (F x1 13)) 13 dX4_addPerson_80 (show vwCl[0]? = some (RX0, TX0, 15) from rfl) pin_0 (by decide) pq_554 hg12 rfl ?_
    refine pd_icmp_ge (tgt := 136) dX4_addPerson_83 (by decide) (fun hc => ?_) (fun hc => ?_)
    · have hf := pd_ip hf hc
      exact pd_weak (L' := [pd_R x0, pd_R x1, pd_I x2, pd_R x3, pd_I x4, pd_I x5, pd_N, pd_N]) ⟨Or.inr rfl, Or.inr rfl, Or.inr rfl, Or.inr rfl, Or.inr rfl, Or.inr rfl, Or.inl rfl, Or.inr rfl, trivial⟩ (pkX4_addPerson_b136 E l _ _ _ _ _ _ _ hf)
    · have hf := pd_in_ hf hc
      refine pd_aload_n (i := 1) dX4_addPerson_86 rfl rfl ?_
      refine pd_getN (x := pd_R (F x1 5)) 5 dX4_addPerson_87 (show vwCl[0]? = some (RX0, TX0, 15) from rfl) pin_0 (by decide) pq_555 hg12 rfl ?_
      refine pd_iload (i := 6) dX4_addPerson_90 rfl ?_
      obtain ⟨hg13, hf⟩ := pd_ig hf
      refine pd_aald dX4_addPerson_92 hg13 ?_
      refine pd_topR (fun x7_93 ex7_93 => ?_)
      have hf := pd_lt hf ex7_93
      clear ex7_93
      obtain ⟨hg14, hf⟩ := pd_ig hf
      refine pd_astore (L' := [pd_R x0, pd_R x1, pd_I x2, pd_R x3, pd_I x4, pd_I x5, pd_I x6, pd_R x7_93]) dX4_addPerson_93 (by decide) hg14 rfl ?_
      refine pd_aload (i := 7) dX4_addPerson_95 rfl ?_
      obtain ⟨hg15, hf⟩ := pd_ig hf
      refine pd_getN (x := pd_I (F x7_93 0)) 0 dX4_addPerson_97 (show vwCl[1]? = some (RX1, TX1, 4) from rfl) pin_1 (by decide) pq_556 hg15 rfl ?_
      refine pd_iload (i := 4) dX4_addPerson_100 rfl ?_
      refine pd_icmp_ne (tgt := 130) dX4_addPerson_102 (by decide) (fun hc => ?_) (fun hc => ?_)
      · have hf := pd_ip hf hc
        exact pd_weak (L' := [pd_R x0, pd_R x1, pd_I x2, pd_R x3, pd_I x4, pd_I x5, pd_I x6, pd_N]) ⟨Or.inr rfl, Or.inr rfl, Or.inr rfl, Or.inr rfl, Or.inr rfl, Or.inr rfl, Or.inr rfl, Or.inl rfl, trivial⟩ (pkX4_addPerson_b130 E l ih _ _ _ _ _ _ _ _ hf)
      · have hf := pd_iq hf hc
        refine pd_aload (i := 7) dX4_addPerson_105 rfl ?_
        refine pd_iload_n (i := 2) dX4_addPerson_107 rfl rfl ?_
        obtain ⟨r17, F16, hr, hf⟩ := pd_ob2 hf
        refine pd_callV (pkX1_countsOn l hr) dX4_addPerson_108 pq_548 pq_551 pq_552 (show vwCl[1]? = some (yX1_countsOn.cls, TX1, 4) from rfl) hg15 (pd_okm (by omega) (by decide) pq_549 pq_550 (by decide) (show (parseMethodDescriptor yX1_countsOn.desc).map (fun d => d.parameters.length) = some 1 from by decide +kernel)) (Nat.le_of_ble_eq_true rfl) rfl ?_
        refine pd_if_eq (tgt := 130) dX4_addPerson_111 (by decide) (fun hc => ?_) (fun hc => ?_)
        · have hf := pd_ip hf hc
          exact pd_weak (L' := [pd_R x0, pd_R x1, pd_I x2, pd_R x3, pd_I x4, pd_I x5, pd_I x6, pd_N]) ⟨Or.inr rfl, Or.inr rfl, Or.inr rfl, Or.inr rfl, Or.inr rfl, Or.inr rfl, Or.inr rfl, Or.inl rfl, trivial⟩ (pkX4_addPerson_b130 E l ih _ _ _ _ _ _ _ _ hf)
        · have hf := pd_in_ hf hc
          refine pd_aload_n (i := 0) dX4_addPerson_114 rfl rfl ?_
          obtain ⟨hg18, hf⟩ := pd_ig hf
          refine pd_get (x := pd_R (F16 x0 2)) 2 dX4_addPerson_115 (show vwCl[4]? = some (RX4, TX4, 7) from rfl) pin_4 (by decide) pq_534 hg18 rfl ?_
          refine pd_iload (i := 5) dX4_addPerson_118 rfl ?_
          refine pd_dup2 dX4_addPerson_120 rfl rfl ?_
          obtain ⟨hg19, hf⟩ := pd_ig hf
          refine pd_lald dX4_addPerson_121 hg19 ?_
          refine pd_aload (i := 7) dX4_addPerson_122 rfl ?_
          refine pd_getN (x := pd_I (F16 x7_93 1)) 1 dX4_addPerson_124 (show vwCl[1]? = some (RX1, TX1, 4) from rfl) pin_1 (by decide) pq_557 hg15 rfl ?_
          refine pd_i2l dX4_addPerson_127 ?_
          refine pd_ladd dX4_addPerson_128 ?_
          refine pd_last dX4_addPerson_129 hg19 ?_
          refine pd_topF (fun F20 eF20 => ?_)
          have hf := pd_lt hf eF20
          clear eF20
          exact pd_weak (L' := [pd_R x0, pd_R x1, pd_I x2, pd_R x3, pd_I x4, pd_I x5, pd_I x6, pd_N]) ⟨Or.inr rfl, Or.inr rfl, Or.inr rfl, Or.inr rfl, Or.inr rfl, Or.inr rfl, Or.inr rfl, Or.inl rfl, trivial⟩ (pkX4_addPerson_b130 E l ih _ _ _ _ _ _ _ _ hf)
set_option maxHeartbeats 4000000 in
set_option maxRecDepth 100000 in
theorem pkX4_addPerson_b74 (E : pd_E) (l : Launch) {al : Bool} {sh : pd_S} {n : Nat} {Fz : pd_F}  (F : pd_F) (x0 : Int) (x1 : Int) (x2 : Int) (x3 : Int) (x4 : Int) (x5 : Int) (hf : pfX4_addPerson_b74 sh n  F x0 x1 x2 x3 x4 x5 = some Fz) : pd_V E l (pd_rm 2 0 0) (RX4, cX4_addPerson, 8, none, "addPerson") (pd_Qm E al none sh Fz 0 0) al 0 0 sh F 74 [pd_R x0, pd_R x1, pd_I x2, pd_R x3, pd_I x4, pd_I x5, pd_N, pd_N] [] := by
  unfold pfX4_addPerson_b74 at hf
  refine pd_iconst dX4_addPerson_74 (by decide) ?_
  refine pd_istore (L' := [pd_R x0, pd_R x1, pd_I x2, pd_R x3, pd_I x4, pd_I x5, pd_I 0, pd_N]) dX4_addPerson_75 (by decide) rfl ?_
  exact pd_weak (L' := [pd_R x0, pd_R x1, pd_I x2, pd_R x3, pd_I x4, pd_I x5, pd_I 0, pd_N]) ⟨Or.inr rfl, Or.inr rfl, Or.inr rfl, Or.inr rfl, Or.inr rfl, Or.inr rfl, Or.inr rfl, Or.inr rfl, trivial⟩ (pkX4_addPerson_b77 E l n _ _ _ _ _ _ _ _ hf)
set_option maxHeartbeats 4000000 in
set_option maxRecDepth 100000 in
theorem pkX4_addPerson_b38 (E : pd_E) (l : Launch) {al : Bool} {sh : pd_S} {n : Nat} {Fz : pd_F}  : ∀ (k : Nat) (F : pd_F) (x0 : Int) (x1 : Int) (x2 : Int) (x3 : Int) (x4 : Int) (x5 : Int) (x6 : Int), pfX4_addPerson_b38 sh n  k F x0 x1 x2 x3 x4 x5 x6 = some Fz → pd_V E l (pd_rm 2 0 0) (RX4, cX4_addPerson, 8, none, "addPerson") (pd_Qm E al none sh Fz 0 0) al 0 0 sh F 38 [pd_R x0, pd_R x1, pd_I x2, pd_R x3, pd_I x4, pd_I x5, pd_I x6, pd_N] [] := by
  intro k
  induction k with
  | zero => intro F x0 x1 x2 x3 x4 x5 x6 hf; exact absurd hf (by unfold pfX4_addPerson_b38; exact fun h => nomatch h)
  | succ k ih =>
    intro F x0 x1 x2 x3 x4 x5 x6 hf
    unfold pfX4_addPerson_b38 at hf
    refine pd_iload (i := 6) dX4_addPerson_38 rfl ?_
    refine pd_aload_n (i := 1) dX4_addPerson_40 rfl rfl ?_
    obtain ⟨hg21, hf⟩ := pd_ig hf
    refine pd_getN (x := pd_I (F x1 11)) 11 dX4_addPerson_41 (show vwCl[0]? = some (RX0, TX0, 15) from rfl) pin_0 (by decide) pq_558 hg21 rfl ?_
    refine pd_icmp_ge (tgt := 74) dX4_addPerson_44 (by decide) (fun hc => ?_) (fun hc => ?_)
    · have hf := pd_ip hf hc
      exact pd_weak (L' := [pd_R x0, pd_R x1, pd_I x2, pd_R x3, pd_I x4, pd_I x5, pd_N, pd_N]) ⟨Or.inr rfl, Or.inr rfl, Or.inr rfl, Or.inr rfl, Or.inr rfl, Or.inr rfl, Or.inl rfl, Or.inr rfl, trivial⟩ (pkX4_addPerson_b74 E l _ _ _ _ _ _ _ hf)
    · have hf := pd_in_ hf hc
      refine pd_aload_n (i := 0) dX4_addPerson_47 rfl rfl ?_
      obtain ⟨hg22, hf⟩ := pd_ig hf
      refine pd_get (x := pd_R (F x0 1)) 1 dX4_addPerson_48 (show vwCl[4]? = some (RX4, TX4, 7) from rfl) pin_4 (by decide) pq_535 hg22 rfl ?_
      refine pd_iload (i := 5) dX4_addPerson_51 rfl ?_
      refine pd_dup2 dX4_addPerson_53 rfl rfl ?_
      obtain ⟨hg23, hf⟩ := pd_ig hf
      refine pd_lald dX4_addPerson_54 hg23 ?_
      refine pd_aload_n (i := 3) dX4_addPerson_55 rfl rfl ?_
      obtain ⟨hg24, hf⟩ := pd_ig hf
      refine pd_getN (x := pd_R (F x3 0)) 0 dX4_addPerson_56 (show vwCl[7]? = some (RX7, TX7, 2) from rfl) pin_7 (by decide) pq_559 hg24 rfl ?_
      refine pd_iload (i := 6) dX4_addPerson_59 rfl ?_
      obtain ⟨hg25, hf⟩ := pd_ig hf
      refine pd_aalI dX4_addPerson_61 hg25 ?_
      refine pd_iload (i := 4) dX4_addPerson_62 rfl ?_
      obtain ⟨hg26, hf⟩ := pd_ig hf
      refine pd_iald dX4_addPerson_64 hg26 ?_
      refine pd_i2l dX4_addPerson_65 ?_
      refine pd_ladd dX4_addPerson_66 ?_
      refine pd_last dX4_addPerson_67 hg23 ?_
      refine pd_topF (fun F27 eF27 => ?_)
      have hf := pd_lt hf eF27
      clear eF27
      refine pd_iincN (L' := fun y => [pd_R x0, pd_R x1, pd_I x2, pd_R x3, pd_I x4, pd_I x5, pd_I y, pd_N]) dX4_addPerson_68 rfl (by decide) (by decide) (fun _ => rfl) (fun x6_68 ex6_68 => ?_)
      have hf := pd_lt hf ex6_68
      clear ex6_68
      refine pd_goto (tgt := 38) dX4_addPerson_71 (by decide) ?_
      exact pd_weak (L' := [pd_R x0, pd_R x1, pd_I x2, pd_R x3, pd_I x4, pd_I x5, pd_I x6_68, pd_N]) ⟨Or.inr rfl, Or.inr rfl, Or.inr rfl, Or.inr rfl, Or.inr rfl, Or.inr rfl, Or.inr rfl, Or.inr rfl, trivial⟩ (ih _ _ _ _ _ _ _ _ hf)
set_option maxHeartbeats 4000000 in
set_option maxRecDepth 100000 in
theorem pkX4_addPerson_b34 (E : pd_E) (l : Launch) {al : Bool} {sh : pd_S} {n : Nat} {Fz : pd_F}  (F : pd_F) (x0 : Int) (x1 : Int) (x2 : Int) (x3 : Int) (x4 : Int) (x5 : Int) (t0 : Int) (t1 : Int) (t2 : Int) (hf : pfX4_addPerson_b34 sh n  F x0 x1 x2 x3 x4 x5 t0 t1 t2 = some Fz) : pd_V E l (pd_rm 2 0 0) (RX4, cX4_addPerson, 8, none, "addPerson") (pd_Qm E al none sh Fz 0 0) al 0 0 sh F 34 [pd_R x0, pd_R x1, pd_I x2, pd_R x3, pd_I x4, pd_I x5, pd_N, pd_N] [pd_I t0, pd_I t1, pd_R t2] := by
  unfold pfX4_addPerson_b34 at hf
  obtain ⟨hg28, hf⟩ := pd_ig hf
  obtain ⟨hg29, hf⟩ := pd_ig hf
  refine pd_zast hg29 dX4_addPerson_34 hg28 ?_
  refine pd_topF (fun F30 eF30 => ?_)
  have hf := pd_lt hf eF30
  clear eF30
  refine pd_iconst dX4_addPerson_35 (by decide) ?_
  refine pd_istore (L' := [pd_R x0, pd_R x1, pd_I x2, pd_R x3, pd_I x4, pd_I x5, pd_I 0, pd_N]) dX4_addPerson_36 (by decide) rfl ?_
  exact pd_weak (L' := [pd_R x0, pd_R x1, pd_I x2, pd_R x3, pd_I x4, pd_I x5, pd_I 0, pd_N]) ⟨Or.inr rfl, Or.inr rfl, Or.inr rfl, Or.inr rfl, Or.inr rfl, Or.inr rfl, Or.inr rfl, Or.inr rfl, trivial⟩ (pkX4_addPerson_b38 E l n _ _ _ _ _ _ _ _ hf)
set_option maxHeartbeats 4000000 in
set_option maxRecDepth 100000 in
theorem pkX4_addPerson_b29 (E : pd_E) (l : Launch) {al : Bool} {sh : pd_S} {n : Nat} {Fz : pd_F}  (F : pd_F) (x0 : Int) (x1 : Int) (x2 : Int) (x3 : Int) (x4 : Int) (x5 : Int) (t0 : Int) (t1 : Int) (hf : pfX4_addPerson_b29 sh n  F x0 x1 x2 x3 x4 x5 t0 t1 = some Fz) : pd_V E l (pd_rm 2 0 0) (RX4, cX4_addPerson, 8, none, "addPerson") (pd_Qm E al none sh Fz 0 0) al 0 0 sh F 29 [pd_R x0, pd_R x1, pd_I x2, pd_R x3, pd_I x4, pd_I x5, pd_N, pd_N] [pd_I t0, pd_R t1] := by
  unfold pfX4_addPerson_b29 at hf
  refine pd_iconst dX4_addPerson_29 (by decide) ?_
  refine pd_goto (tgt := 34) dX4_addPerson_30 (by decide) ?_
  exact pd_weak (L' := [pd_R x0, pd_R x1, pd_I x2, pd_R x3, pd_I x4, pd_I x5, pd_N, pd_N]) ⟨Or.inr rfl, Or.inr rfl, Or.inr rfl, Or.inr rfl, Or.inr rfl, Or.inr rfl, Or.inr rfl, Or.inr rfl, trivial⟩ (pkX4_addPerson_b34 E l _ _ _ _ _ _ _ _ _ _ hf)
set_option maxHeartbeats 4000000 in
set_option maxRecDepth 100000 in
theorem pkX4_addPerson (l : Launch) {al : Bool} {sh : pd_S} {n : Nat} {F : pd_F} {x0 : Int} {x1 : Int} {x2 : Int} {x3 : Int} {x4 : Int} {x5 : Int} {Fz : pd_F} (hf : pfX4_addPerson sh n F x0 x1 x2 x3 x4 x5 = some Fz) : pd_C l yX4_addPerson (Cond.code yX4_addPerson cX4_addPerson 8 none :: pd_gt) (pd_rm 2 0 0) al 0 0 sh F [pd_R x0, pd_R x1, pd_I x2, pd_R x3, pd_I x4, pd_I x5] none sh Fz := by
  unfold pfX4_addPerson at hf
  refine pd_body (L := [pd_R x0, pd_R x1, pd_I x2, pd_R x3, pd_I x4, pd_I x5, pd_N, pd_N]) (by decide +kernel) (Nat.le_of_ble_eq_true rfl) rfl (fun E => ?_)
  refine pd_aload_n (i := 0) dX4_addPerson_0 rfl rfl ?_
  obtain ⟨hg31, hf⟩ := pd_ig hf
  refine pd_get (x := pd_R (F x0 4)) 4 dX4_addPerson_1 (show vwCl[4]? = some (RX4, TX4, 7) from rfl) pin_4 (by decide) pq_560 hg31 rfl ?_
  refine pd_iload (i := 5) dX4_addPerson_4 rfl ?_
  refine pd_aload_n (i := 0) dX4_addPerson_6 rfl rfl ?_
  refine pd_get (x := pd_R (F x0 4)) 4 dX4_addPerson_7 (show vwCl[4]? = some (RX4, TX4, 7) from rfl) pin_4 (by decide) pq_560 hg31 rfl ?_
  refine pd_iload (i := 5) dX4_addPerson_10 rfl ?_
  obtain ⟨hg32, hf⟩ := pd_ig hf
  refine pd_zald dX4_addPerson_12 hg32 ?_
  refine pd_if_ne (tgt := 29) dX4_addPerson_13 (by decide) (fun hc => ?_) (fun hc => ?_)
  · have hf := pd_ip hf hc
    exact pd_weak (L' := [pd_R x0, pd_R x1, pd_I x2, pd_R x3, pd_I x4, pd_I x5, pd_N, pd_N]) ⟨Or.inr rfl, Or.inr rfl, Or.inr rfl, Or.inr rfl, Or.inr rfl, Or.inr rfl, Or.inr rfl, Or.inr rfl, trivial⟩ (pkX4_addPerson_b29 E l _ _ _ _ _ _ _ _ _ hf)
  · have hf := pd_iq hf hc
    refine pd_aload_n (i := 1) dX4_addPerson_16 rfl rfl ?_
    obtain ⟨hg33, hf⟩ := pd_ig hf
    refine pd_getN (x := pd_R (F x1 0)) 0 dX4_addPerson_17 (show vwCl[0]? = some (RX0, TX0, 15) from rfl) pin_0 (by decide) pq_561 hg33 rfl ?_
    refine pd_iload (i := 4) dX4_addPerson_20 rfl ?_
    obtain ⟨hg34, hf⟩ := pd_ig hf
    refine pd_aald dX4_addPerson_22 hg34 ?_
    obtain ⟨hg35, hf⟩ := pd_ig hf
    refine pd_getN (x := pd_I (F (F (F x1 0) x4) 4)) 4 dX4_addPerson_23 (show vwCl[5]? = some (RX5, TX5, 5) from rfl) pin_5 (by decide) pq_562 hg35 rfl ?_
    refine pd_if_eq (tgt := 33) dX4_addPerson_26 (by decide) (fun hc => ?_) (fun hc => ?_)
    · have hf := pd_ip hf hc
      refine pd_iconst dX4_addPerson_33 (by decide) ?_
      exact pd_weak (L' := [pd_R x0, pd_R x1, pd_I x2, pd_R x3, pd_I x4, pd_I x5, pd_N, pd_N]) ⟨Or.inr rfl, Or.inr rfl, Or.inr rfl, Or.inr rfl, Or.inr rfl, Or.inr rfl, Or.inr rfl, Or.inr rfl, trivial⟩ (pkX4_addPerson_b34 E l _ _ _ _ _ _ _ _ _ _ hf)
    · have hf := pd_in_ hf hc
      exact pd_weak (L' := [pd_R x0, pd_R x1, pd_I x2, pd_R x3, pd_I x4, pd_I x5, pd_N, pd_N]) ⟨Or.inr rfl, Or.inr rfl, Or.inr rfl, Or.inr rfl, Or.inr rfl, Or.inr rfl, Or.inr rfl, Or.inr rfl, trivial⟩ (pkX4_addPerson_b29 E l _ _ _ _ _ _ _ _ _ hf)
set_option maxHeartbeats 4000000 in
set_option maxRecDepth 100000 in
theorem pkX4_paid (l : Launch) {al : Bool} {sh : pd_S} {n : Nat} {F : pd_F} {x0 : Int} {x1 : Int} {ρ : Int} {Fz : pd_F} (hf : pfX4_paid sh n F x0 x1 = some (ρ, Fz)) : pd_C l yX4_paid (Cond.code yX4_paid cX4_paid 2 (some .long) :: pd_gt) (pd_rm 2 0 0) al 0 0 sh F [pd_R x0, pd_I x1] (some (pd_J ρ)) sh Fz := by
  unfold pfX4_paid at hf
  refine pd_body (L := [pd_R x0, pd_I x1]) (by decide +kernel) (Nat.le_of_ble_eq_true rfl) rfl (fun E => ?_)
  refine pd_aload_n (i := 0) dX4_paid_0 rfl rfl ?_
  refine pd_iload_n (i := 1) dX4_paid_1 rfl rfl ?_
  obtain ⟨hg2, hf⟩ := pd_ig hf
  obtain ⟨r3, F1, hr, hf⟩ := pd_ob2 hf
  refine pd_callV (pkX4_net l hr) dX4_paid_2 pq_563 pq_566 pq_567 (show vwCl[4]? = some (yX4_net.cls, TX4, 7) from rfl) hg2 (pd_okm (by omega) (by decide) pq_564 pq_565 (by decide) (show (parseMethodDescriptor yX4_net.desc).map (fun d => d.parameters.length) = some 1 from by decide +kernel)) (Nat.le_of_ble_eq_true rfl) rfl ?_
  refine pd_aload_n (i := 0) dX4_paid_5 rfl rfl ?_
  refine pd_iload_n (i := 1) dX4_paid_6 rfl rfl ?_
  refine pd_aload_n (i := 0) dX4_paid_7 rfl rfl ?_
  refine pd_get (x := pd_J (F1 x0 5)) 5 dX4_paid_8 (show vwCl[4]? = some (RX4, TX4, 7) from rfl) pin_4 (by decide) pq_568 hg2 rfl ?_
  obtain ⟨r5, F4, hr, hf⟩ := pd_ob2 hf
  refine pd_callV (pkX4_limit l hr) dX4_paid_11 pq_569 pq_572 pq_573 (show vwCl[4]? = some (yX4_limit.cls, TX4, 7) from rfl) hg2 (pd_okm (by omega) (by decide) pq_570 pq_571 (by decide) (show (parseMethodDescriptor yX4_limit.desc).map (fun d => d.parameters.length) = some 2 from by decide +kernel)) (Nat.le_of_ble_eq_true rfl) rfl ?_
  refine pd_mminJ dX4_paid_14 pq_536 pq_537 pq_40 pq_538 pd_rmR (Nat.le_of_ble_eq_true rfl) ?_
  obtain ⟨h1, h2⟩ := pd_inj hf
  subst h1 h2
  exact pd_lret dX4_paid_17 rfl (Nat.le_refl 0) (Nat.le_refl 0)
set_option maxHeartbeats 4000000 in
set_option maxRecDepth 100000 in
theorem pkX4_setOffTogether_b4 (E : pd_E) (l : Launch) {al : Bool} {sh : pd_S} {n : Nat} {ρ : Int} {Fz : pd_F}  : ∀ (k : Nat) (F : pd_F) (x0 : Int) (x1 : Int) (x3 : Int), pfX4_setOffTogether_b4 sh n  k F x0 x1 x3 = some (ρ, Fz) → pd_V E l (pd_rm 2 0 0) (RX4, cX4_setOffTogether, 4, (some .long), "setOffTogether") (pd_Qm E al (some (pd_J ρ)) sh Fz 0 0) al 0 0 sh F 4 [pd_R x0, pd_J x1, pd_N, pd_I x3] [] := by
  intro k
  induction k with
  | zero => intro F x0 x1 x3 hf; exact absurd hf (by unfold pfX4_setOffTogether_b4; exact fun h => nomatch h)
  | succ k ih =>
    intro F x0 x1 x3 hf
    unfold pfX4_setOffTogether_b4 at hf
    refine pd_iload_n (i := 3) dX4_setOffTogether_4 rfl rfl ?_
    refine pd_aload_n (i := 0) dX4_setOffTogether_5 rfl rfl ?_
    obtain ⟨hg1, hf⟩ := pd_ig hf
    refine pd_get (x := pd_R (F x0 0)) 0 dX4_setOffTogether_6 (show vwCl[4]? = some (RX4, TX4, 7) from rfl) pin_4 (by decide) pq_544 hg1 rfl ?_
    obtain ⟨hg2, hf⟩ := pd_ig hf
    refine pd_getN (x := pd_I (F (F x0 0) 3)) 3 dX4_setOffTogether_9 (show vwCl[10]? = some (RX10, TX10, 4) from rfl) pin_10 (by decide) pq_545 hg2 rfl ?_
    refine pd_icmp_ge (tgt := 29) dX4_setOffTogether_12 (by decide) (fun hc => ?_) (fun hc => ?_)
    · have hf := pd_ip hf hc
      refine pd_lload_n (i := 1) dX4_setOffTogether_29 rfl rfl ?_
      obtain ⟨h1, h2⟩ := pd_inj hf
      subst h1 h2
      exact pd_lret dX4_setOffTogether_30 rfl (Nat.le_refl 0) (Nat.le_refl 0)
    · have hf := pd_in_ hf hc
      refine pd_lload_n (i := 1) dX4_setOffTogether_15 rfl rfl ?_
      refine pd_aload_n (i := 0) dX4_setOffTogether_16 rfl rfl ?_
      refine pd_iload_n (i := 3) dX4_setOffTogether_17 rfl rfl ?_
      obtain ⟨r4, F3, hr, hf⟩ := pd_ob2 hf
      refine pd_callV (pkX4_setOff l hr) dX4_setOffTogether_18 pq_574 pq_577 pq_578 (show vwCl[4]? = some (yX4_setOff.cls, TX4, 7) from rfl) hg1 (pd_okm (by omega) (by decide) pq_575 pq_576 (by decide) (show (parseMethodDescriptor yX4_setOff.desc).map (fun d => d.parameters.length) = some 1 from by decide +kernel)) (Nat.le_of_ble_eq_true rfl) rfl ?_
      refine pd_ladd dX4_setOffTogether_21 ?_
      refine pd_topJ (fun x1_22 ex1_22 => ?_)
      have hf := pd_lt hf ex1_22
      clear ex1_22
      refine pd_lstore_n (L' := [pd_R x0, pd_J x1_22, pd_N, pd_I x3]) dX4_setOffTogether_22 rfl (by decide) rfl ?_
      refine pd_iincN (L' := fun y => [pd_R x0, pd_J x1_22, pd_N, pd_I y]) dX4_setOffTogether_23 rfl (by decide) (by decide) (fun _ => rfl) (fun x3_23 ex3_23 => ?_)
      have hf := pd_lt hf ex3_23
      clear ex3_23
      refine pd_goto (tgt := 4) dX4_setOffTogether_26 (by decide) ?_
      exact pd_weak (L' := [pd_R x0, pd_J x1_22, pd_N, pd_I x3_23]) ⟨Or.inr rfl, Or.inr rfl, Or.inr rfl, Or.inr rfl, trivial⟩ (ih _ _ _ _ hf)
set_option maxHeartbeats 4000000 in
set_option maxRecDepth 100000 in
theorem pkX4_setOffTogether (l : Launch) {al : Bool} {sh : pd_S} {n : Nat} {F : pd_F} {x0 : Int} {ρ : Int} {Fz : pd_F} (hf : pfX4_setOffTogether sh n F x0 = some (ρ, Fz)) : pd_C l yX4_setOffTogether (Cond.code yX4_setOffTogether cX4_setOffTogether 4 (some .long) :: pd_gt) (pd_rm 2 0 0) al 0 0 sh F [pd_R x0] (some (pd_J ρ)) sh Fz := by
  unfold pfX4_setOffTogether at hf
  refine pd_body (L := [pd_R x0, pd_N, pd_N, pd_N]) (by decide +kernel) (Nat.le_of_ble_eq_true rfl) rfl (fun E => ?_)
  refine pd_lconst (x := 0) dX4_setOffTogether_0 (by decide) ?_
  refine pd_lstore_n (L' := [pd_R x0, pd_J 0, pd_N, pd_N]) dX4_setOffTogether_1 rfl (by decide) rfl ?_
  refine pd_iconst dX4_setOffTogether_2 (by decide) ?_
  refine pd_istore_n (L' := [pd_R x0, pd_J 0, pd_N, pd_I 0]) dX4_setOffTogether_3 rfl (by decide) rfl ?_
  exact pd_weak (L' := [pd_R x0, pd_J 0, pd_N, pd_I 0]) ⟨Or.inr rfl, Or.inr rfl, Or.inr rfl, Or.inr rfl, trivial⟩ (pkX4_setOffTogether_b4 E l n _ _ _ _ hf)
set_option maxHeartbeats 4000000 in
set_option maxRecDepth 100000 in
theorem pkX4_paidUnder_b5 (E : pd_E) (l : Launch) {al : Bool} {sh : pd_S} {n : Nat} {ρ : Int} {Fz : pd_F}  : ∀ (k : Nat) (F : pd_F) (x0 : Int) (x1 : Int) (x3 : Int) (x5 : Int), pfX4_paidUnder_b5 sh n  k F x0 x1 x3 x5 = some (ρ, Fz) → pd_V E l (pd_rm 2 0 0) (RX4, cX4_paidUnder, 6, (some .long), "paidUnder") (pd_Qm E al (some (pd_J ρ)) sh Fz 0 0) al 0 0 sh F 5 [pd_R x0, pd_J x1, pd_N, pd_J x3, pd_N, pd_I x5] [] := by
  intro k
  induction k with
  | zero => intro F x0 x1 x3 x5 hf; exact absurd hf (by unfold pfX4_paidUnder_b5; exact fun h => nomatch h)
  | succ k ih =>
    intro F x0 x1 x3 x5 hf
    unfold pfX4_paidUnder_b5 at hf
    refine pd_iload (i := 5) dX4_paidUnder_5 rfl ?_
    refine pd_aload_n (i := 0) dX4_paidUnder_7 rfl rfl ?_
    obtain ⟨hg1, hf⟩ := pd_ig hf
    refine pd_get (x := pd_R (F x0 0)) 0 dX4_paidUnder_8 (show vwCl[4]? = some (RX4, TX4, 7) from rfl) pin_4 (by decide) pq_544 hg1 rfl ?_
    obtain ⟨hg2, hf⟩ := pd_ig hf
    refine pd_getN (x := pd_I (F (F x0 0) 3)) 3 dX4_paidUnder_11 (show vwCl[10]? = some (RX10, TX10, 4) from rfl) pin_10 (by decide) pq_545 hg2 rfl ?_
    refine pd_icmp_ge (tgt := 42) dX4_paidUnder_14 (by decide) (fun hc => ?_) (fun hc => ?_)
    · have hf := pd_ip hf hc
      refine pd_lload_n (i := 3) dX4_paidUnder_42 rfl rfl ?_
      obtain ⟨h1, h2⟩ := pd_inj hf
      subst h1 h2
      exact pd_lret dX4_paidUnder_43 rfl (Nat.le_refl 0) (Nat.le_refl 0)
    · have hf := pd_in_ hf hc
      refine pd_lload_n (i := 3) dX4_paidUnder_17 rfl rfl ?_
      refine pd_aload_n (i := 0) dX4_paidUnder_18 rfl rfl ?_
      refine pd_iload (i := 5) dX4_paidUnder_19 rfl ?_
      obtain ⟨r4, F3, hr, hf⟩ := pd_ob2 hf
      refine pd_callV (pkX4_net l hr) dX4_paidUnder_21 pq_563 pq_566 pq_567 (show vwCl[4]? = some (yX4_net.cls, TX4, 7) from rfl) hg1 (pd_okm (by omega) (by decide) pq_564 pq_565 (by decide) (show (parseMethodDescriptor yX4_net.desc).map (fun d => d.parameters.length) = some 1 from by decide +kernel)) (Nat.le_of_ble_eq_true rfl) rfl ?_
      refine pd_aload_n (i := 0) dX4_paidUnder_24 rfl rfl ?_
      refine pd_iload (i := 5) dX4_paidUnder_25 rfl ?_
      refine pd_lload_n (i := 1) dX4_paidUnder_27 rfl rfl ?_
      obtain ⟨r6, F5, hr, hf⟩ := pd_ob2 hf
      refine pd_callV (pkX4_limit l hr) dX4_paidUnder_28 pq_569 pq_572 pq_573 (show vwCl[4]? = some (yX4_limit.cls, TX4, 7) from rfl) hg1 (pd_okm (by omega) (by decide) pq_570 pq_571 (by decide) (show (parseMethodDescriptor yX4_limit.desc).map (fun d => d.parameters.length) = some 2 from by decide +kernel)) (Nat.le_of_ble_eq_true rfl) rfl ?_
      refine pd_mminJ dX4_paidUnder_31 pq_536 pq_537 pq_40 pq_538 pd_rmR (Nat.le_of_ble_eq_true rfl) ?_
      refine pd_ladd dX4_paidUnder_34 ?_
      refine pd_topJ (fun x3_35 ex3_35 => ?_)
      have hf := pd_lt hf ex3_35
      clear ex3_35
      refine pd_lstore_n (L' := [pd_R x0, pd_J x1, pd_N, pd_J x3_35, pd_N, pd_I x5]) dX4_paidUnder_35 rfl (by decide) rfl ?_
      refine pd_iincN (L' := fun y => [pd_R x0, pd_J x1, pd_N, pd_J x3_35, pd_N, pd_I y]) dX4_paidUnder_36 rfl (by decide) (by decide) (fun _ => rfl) (fun x5_36 ex5_36 => ?_)
      have hf := pd_lt hf ex5_36
      clear ex5_36
      refine pd_goto (tgt := 5) dX4_paidUnder_39 (by decide) ?_
      exact pd_weak (L' := [pd_R x0, pd_J x1, pd_N, pd_J x3_35, pd_N, pd_I x5_36]) ⟨Or.inr rfl, Or.inr rfl, Or.inr rfl, Or.inr rfl, Or.inr rfl, Or.inr rfl, trivial⟩ (ih _ _ _ _ _ hf)
set_option maxHeartbeats 4000000 in
set_option maxRecDepth 100000 in
theorem pkX4_paidUnder (l : Launch) {al : Bool} {sh : pd_S} {n : Nat} {F : pd_F} {x0 : Int} {x1 : Int} {ρ : Int} {Fz : pd_F} (hf : pfX4_paidUnder sh n F x0 x1 = some (ρ, Fz)) : pd_C l yX4_paidUnder (Cond.code yX4_paidUnder cX4_paidUnder 6 (some .long) :: pd_gt) (pd_rm 2 0 0) al 0 0 sh F [pd_R x0, pd_J x1] (some (pd_J ρ)) sh Fz := by
  unfold pfX4_paidUnder at hf
  refine pd_body (L := [pd_R x0, pd_J x1, pd_N, pd_N, pd_N, pd_N]) (by decide +kernel) (Nat.le_of_ble_eq_true rfl) rfl (fun E => ?_)
  refine pd_lconst (x := 0) dX4_paidUnder_0 (by decide) ?_
  refine pd_lstore_n (L' := [pd_R x0, pd_J x1, pd_N, pd_J 0, pd_N, pd_N]) dX4_paidUnder_1 rfl (by decide) rfl ?_
  refine pd_iconst dX4_paidUnder_2 (by decide) ?_
  refine pd_istore (L' := [pd_R x0, pd_J x1, pd_N, pd_J 0, pd_N, pd_I 0]) dX4_paidUnder_3 (by decide) rfl ?_
  exact pd_weak (L' := [pd_R x0, pd_J x1, pd_N, pd_J 0, pd_N, pd_I 0]) ⟨Or.inr rfl, Or.inr rfl, Or.inr rfl, Or.inr rfl, Or.inr rfl, Or.inr rfl, trivial⟩ (pkX4_paidUnder_b5 E l n _ _ _ _ _ hf)
set_option maxHeartbeats 4000000 in
set_option maxRecDepth 100000 in
theorem pkX4_sumUp_b122 (E : pd_E) (l : Launch) {al : Bool} {sh : pd_S} {n : Nat} {Fz : pd_F} {c73 : pd_F → Int → Int → Int → Int → Int → Option pd_F} (hL73 : ∀ (F : pd_F) (x0 : Int) (x1 : Int) (x2 : Int) (x3 : Int) (x4 : Int), c73 F x0 x1 x2 x3 x4 = some Fz → pd_V E l (pd_rm 3 0 0) (RX4, cX4_sumUp, 6, none, "sumUp") (pd_Qm E al none sh Fz 0 0) al 0 0 sh F 73 [pd_R x0, pd_R x1, pd_R x2, pd_R x3, pd_I x4, pd_N] []) (F : pd_F) (x0 : Int) (x1 : Int) (x2 : Int) (x3 : Int) (x4 : Int) (hf : pfX4_sumUp_b122 sh n c73 F x0 x1 x2 x3 x4 = some Fz) : pd_V E l (pd_rm 3 0 0) (RX4, cX4_sumUp, 6, none, "sumUp") (pd_Qm E al none sh Fz 0 0) al 0 0 sh F 122 [pd_R x0, pd_R x1, pd_R x2, pd_R x3, pd_I x4, pd_N] [] := by
  unfold pfX4_sumUp_b122 at hf
  refine pd_iincN (L' := fun y => [pd_R x0, pd_R x1, pd_R x2, pd_R x3, pd_I y, pd_N]) dX4_sumUp_122 rfl (by decide) (by decide) (fun _ => rfl) (fun x4_122 ex4_122 => ?_)
  have hf := pd_lt hf ex4_122
  clear ex4_122
  refine pd_goto (tgt := 73) dX4_sumUp_125 (by decide) ?_
  exact pd_weak (L' := [pd_R x0, pd_R x1, pd_R x2, pd_R x3, pd_I x4_122, pd_N]) ⟨Or.inr rfl, Or.inr rfl, Or.inr rfl, Or.inr rfl, Or.inr rfl, Or.inr rfl, trivial⟩ (hL73 _ _ _ _ _ _ hf)
set_option maxHeartbeats 4000000 in
set_option maxRecDepth 100000 in
theorem pkX4_sumUp_b73 (E : pd_E) (l : Launch) {al : Bool} {sh : pd_S} {n : Nat} {Fz : pd_F}  : ∀ (k : Nat) (F : pd_F) (x0 : Int) (x1 : Int) (x2 : Int) (x3 : Int) (x4 : Int), pfX4_sumUp_b73 sh n  k F x0 x1 x2 x3 x4 = some Fz → pd_V E l (pd_rm 3 0 0) (RX4, cX4_sumUp, 6, none, "sumUp") (pd_Qm E al none sh Fz 0 0) al 0 0 sh F 73 [pd_R x0, pd_R x1, pd_R x2, pd_R x3, pd_I x4, pd_N] [] := by
  intro k
  induction k with
  | zero => intro F x0 x1 x2 x3 x4 hf; exact absurd hf (by unfold pfX4_sumUp_b73; exact fun h => nomatch h)
  | succ k ih =>
    intro F x0 x1 x2 x3 x4 hf
    unfold pfX4_sumUp_b73 at hf
    refine pd_iload (i := 4) dX4_sumUp_73 rfl ?_
    refine pd_aload_n (i := 1) dX4_sumUp_75 rfl rfl ?_
    obtain ⟨hg1, hf⟩ := pd_ig hf
    refine pd_getN (x := pd_I (F x1 9)) 9 dX4_sumUp_76 (show vwCl[0]? = some (RX0, TX0, 15) from rfl) pin_0 (by decide) pq_579 hg1 rfl ?_
    refine pd_icmp_ge (tgt := 128) dX4_sumUp_79 (by decide) (fun hc => ?_) (fun hc => ?_)
    · have hf := pd_ip hf hc
      obtain h2 := pd_inj1 hf
      subst h2
      exact pd_vret dX4_sumUp_128 rfl (Nat.le_refl 0) (Nat.le_refl 0)
    · have hf := pd_in_ hf hc
      refine pd_aload_n (i := 0) dX4_sumUp_82 rfl rfl ?_
      obtain ⟨hg2, hf⟩ := pd_ig hf
      refine pd_get (x := pd_R (F x0 0)) 0 dX4_sumUp_83 (show vwCl[4]? = some (RX4, TX4, 7) from rfl) pin_4 (by decide) pq_544 hg2 rfl ?_
      obtain ⟨hg3, hf⟩ := pd_ig hf
      refine pd_getN (x := pd_R (F (F x0 0) 1)) 1 dX4_sumUp_86 (show vwCl[10]? = some (RX10, TX10, 4) from rfl) pin_10 (by decide) pq_580 hg3 rfl ?_
      refine pd_iload (i := 4) dX4_sumUp_89 rfl ?_
      obtain ⟨hg4, hf⟩ := pd_ig hf
      refine pd_iald dX4_sumUp_91 hg4 ?_
      refine pd_topI (fun x5_92 ex5_92 => ?_)
      have hf := pd_lt hf ex5_92
      clear ex5_92
      refine pd_istore (L' := [pd_R x0, pd_R x1, pd_R x2, pd_R x3, pd_I x4, pd_I x5_92]) dX4_sumUp_92 (by decide) rfl ?_
      refine pd_iload (i := 5) dX4_sumUp_94 rfl ?_
      refine pd_if_lt (tgt := 122) dX4_sumUp_96 (by decide) (fun hc => ?_) (fun hc => ?_)
      · have hf := pd_ip hf hc
        exact pd_weak (L' := [pd_R x0, pd_R x1, pd_R x2, pd_R x3, pd_I x4, pd_N]) ⟨Or.inr rfl, Or.inr rfl, Or.inr rfl, Or.inr rfl, Or.inr rfl, Or.inl rfl, trivial⟩ (pkX4_sumUp_b122 E l ih _ _ _ _ _ _ hf)
      · have hf := pd_in_ hf hc
        refine pd_iload (i := 5) dX4_sumUp_99 rfl ?_
        refine pd_bipush dX4_sumUp_101 (by decide) ?_
        refine pd_icmp_ge (tgt := 122) dX4_sumUp_103 (by decide) (fun hc => ?_) (fun hc => ?_)
        · have hf := pd_ip hf hc
          exact pd_weak (L' := [pd_R x0, pd_R x1, pd_R x2, pd_R x3, pd_I x4, pd_N]) ⟨Or.inr rfl, Or.inr rfl, Or.inr rfl, Or.inr rfl, Or.inr rfl, Or.inl rfl, trivial⟩ (pkX4_sumUp_b122 E l ih _ _ _ _ _ _ hf)
        · have hf := pd_in_ hf hc
          refine pd_aload_n (i := 0) dX4_sumUp_106 rfl rfl ?_
          refine pd_aload_n (i := 1) dX4_sumUp_107 rfl rfl ?_
          refine pd_aload_n (i := 2) dX4_sumUp_108 rfl rfl ?_
          obtain ⟨hg5, hf⟩ := pd_ig hf
          refine pd_getN (x := pd_R (F x2 1)) 1 dX4_sumUp_109 (show vwCl[8]? = some (RX8, TX8, 6) from rfl) pin_8 (by decide) pq_581 hg5 rfl ?_
          refine pd_iconst dX4_sumUp_112 (by decide) ?_
          obtain ⟨hg6, hf⟩ := pd_ig hf
          refine pd_iald dX4_sumUp_113 hg6 ?_
          refine pd_aload_n (i := 3) dX4_sumUp_114 rfl rfl ?_
          refine pd_iload (i := 4) dX4_sumUp_115 rfl ?_
          refine pd_iload (i := 5) dX4_sumUp_117 rfl ?_
          obtain ⟨F7, hr, hf⟩ := pd_ob1 hf
          refine pd_callV (pkX4_addPerson l hr) dX4_sumUp_119 pq_582 pq_585 pq_586 (show vwCl[4]? = some (yX4_addPerson.cls, TX4, 7) from rfl) hg2 (pd_okm (by omega) (by decide) pq_583 pq_584 (by decide) (show (parseMethodDescriptor yX4_addPerson.desc).map (fun d => d.parameters.length) = some 5 from by decide +kernel)) (Nat.le_of_ble_eq_true rfl) rfl ?_
          exact pd_weak (L' := [pd_R x0, pd_R x1, pd_R x2, pd_R x3, pd_I x4, pd_N]) ⟨Or.inr rfl, Or.inr rfl, Or.inr rfl, Or.inr rfl, Or.inr rfl, Or.inl rfl, trivial⟩ (pkX4_sumUp_b122 E l ih _ _ _ _ _ _ hf)
set_option maxHeartbeats 4000000 in
set_option maxRecDepth 100000 in
theorem pkX4_sumUp_b70 (E : pd_E) (l : Launch) {al : Bool} {sh : pd_S} {n : Nat} {Fz : pd_F}  (F : pd_F) (x0 : Int) (x1 : Int) (x2 : Int) (x3 : Int) (hf : pfX4_sumUp_b70 sh n  F x0 x1 x2 x3 = some Fz) : pd_V E l (pd_rm 3 0 0) (RX4, cX4_sumUp, 6, none, "sumUp") (pd_Qm E al none sh Fz 0 0) al 0 0 sh F 70 [pd_R x0, pd_R x1, pd_R x2, pd_R x3, pd_N, pd_N] [] := by
  unfold pfX4_sumUp_b70 at hf
  refine pd_iconst dX4_sumUp_70 (by decide) ?_
  refine pd_istore (L' := [pd_R x0, pd_R x1, pd_R x2, pd_R x3, pd_I 0, pd_N]) dX4_sumUp_71 (by decide) rfl ?_
  exact pd_weak (L' := [pd_R x0, pd_R x1, pd_R x2, pd_R x3, pd_I 0, pd_N]) ⟨Or.inr rfl, Or.inr rfl, Or.inr rfl, Or.inr rfl, Or.inr rfl, Or.inr rfl, trivial⟩ (pkX4_sumUp_b73 E l n _ _ _ _ _ _ hf)
set_option maxHeartbeats 4000000 in
set_option maxRecDepth 100000 in
theorem pkX4_sumUp_b25 (E : pd_E) (l : Launch) {al : Bool} {sh : pd_S} {n : Nat} {Fz : pd_F}  : ∀ (k : Nat) (F : pd_F) (x0 : Int) (x1 : Int) (x2 : Int) (x3 : Int) (x4 : Int), pfX4_sumUp_b25 sh n  k F x0 x1 x2 x3 x4 = some Fz → pd_V E l (pd_rm 3 0 0) (RX4, cX4_sumUp, 6, none, "sumUp") (pd_Qm E al none sh Fz 0 0) al 0 0 sh F 25 [pd_R x0, pd_R x1, pd_R x2, pd_R x3, pd_I x4, pd_N] [] := by
  intro k
  induction k with
  | zero => intro F x0 x1 x2 x3 x4 hf; exact absurd hf (by unfold pfX4_sumUp_b25; exact fun h => nomatch h)
  | succ k ih =>
    intro F x0 x1 x2 x3 x4 hf
    unfold pfX4_sumUp_b25 at hf
    refine pd_iload (i := 4) dX4_sumUp_25 rfl ?_
    refine pd_bipush dX4_sumUp_27 (by decide) ?_
    refine pd_icmp_ge (tgt := 70) dX4_sumUp_29 (by decide) (fun hc => ?_) (fun hc => ?_)
    · have hf := pd_ip hf hc
      exact pd_weak (L' := [pd_R x0, pd_R x1, pd_R x2, pd_R x3, pd_N, pd_N]) ⟨Or.inr rfl, Or.inr rfl, Or.inr rfl, Or.inr rfl, Or.inl rfl, Or.inr rfl, trivial⟩ (pkX4_sumUp_b70 E l _ _ _ _ _ hf)
    · have hf := pd_in_ hf hc
      refine pd_aload_n (i := 0) dX4_sumUp_32 rfl rfl ?_
      obtain ⟨hg8, hf⟩ := pd_ig hf
      refine pd_get (x := pd_R (F x0 1)) 1 dX4_sumUp_33 (show vwCl[4]? = some (RX4, TX4, 7) from rfl) pin_4 (by decide) pq_535 hg8 rfl ?_
      refine pd_iload (i := 4) dX4_sumUp_36 rfl ?_
      refine pd_lconst (x := 0) dX4_sumUp_38 (by decide) ?_
      obtain ⟨hg9, hf⟩ := pd_ig hf
      refine pd_last dX4_sumUp_39 hg9 ?_
      refine pd_topF (fun F10 eF10 => ?_)
      have hf := pd_lt hf eF10
      clear eF10
      refine pd_aload_n (i := 0) dX4_sumUp_40 rfl rfl ?_
      refine pd_get (x := pd_R (F10 x0 2)) 2 dX4_sumUp_41 (show vwCl[4]? = some (RX4, TX4, 7) from rfl) pin_4 (by decide) pq_534 hg8 rfl ?_
      refine pd_iload (i := 4) dX4_sumUp_44 rfl ?_
      refine pd_lconst (x := 0) dX4_sumUp_46 (by decide) ?_
      obtain ⟨hg11, hf⟩ := pd_ig hf
      refine pd_last dX4_sumUp_47 hg11 ?_
      refine pd_topF (fun F12 eF12 => ?_)
      have hf := pd_lt hf eF12
      clear eF12
      refine pd_aload_n (i := 0) dX4_sumUp_48 rfl rfl ?_
      refine pd_get (x := pd_R (F12 x0 3)) 3 dX4_sumUp_49 (show vwCl[4]? = some (RX4, TX4, 7) from rfl) pin_4 (by decide) pq_542 hg8 rfl ?_
      refine pd_iload (i := 4) dX4_sumUp_52 rfl ?_
      refine pd_lconst (x := 0) dX4_sumUp_54 (by decide) ?_
      obtain ⟨hg13, hf⟩ := pd_ig hf
      refine pd_last dX4_sumUp_55 hg13 ?_
      refine pd_topF (fun F14 eF14 => ?_)
      have hf := pd_lt hf eF14
      clear eF14
      refine pd_aload_n (i := 0) dX4_sumUp_56 rfl rfl ?_
      refine pd_get (x := pd_R (F14 x0 4)) 4 dX4_sumUp_57 (show vwCl[4]? = some (RX4, TX4, 7) from rfl) pin_4 (by decide) pq_560 hg8 rfl ?_
      refine pd_iload (i := 4) dX4_sumUp_60 rfl ?_
      refine pd_iconst dX4_sumUp_62 (by decide) ?_
      obtain ⟨hg15, hf⟩ := pd_ig hf
      refine pd_zast (by decide) dX4_sumUp_63 hg15 ?_
      refine pd_topF (fun F16 eF16 => ?_)
      have hf := pd_lt hf eF16
      clear eF16
      refine pd_iincN (L' := fun y => [pd_R x0, pd_R x1, pd_R x2, pd_R x3, pd_I y, pd_N]) dX4_sumUp_64 rfl (by decide) (by decide) (fun _ => rfl) (fun x4_64 ex4_64 => ?_)
      have hf := pd_lt hf ex4_64
      clear ex4_64
      refine pd_goto (tgt := 25) dX4_sumUp_67 (by decide) ?_
      exact pd_weak (L' := [pd_R x0, pd_R x1, pd_R x2, pd_R x3, pd_I x4_64, pd_N]) ⟨Or.inr rfl, Or.inr rfl, Or.inr rfl, Or.inr rfl, Or.inr rfl, Or.inr rfl, trivial⟩ (ih _ _ _ _ _ _ hf)
set_option maxHeartbeats 4000000 in
set_option maxRecDepth 100000 in
theorem pkX4_sumUp (l : Launch) {al : Bool} {sh : pd_S} {n : Nat} {F : pd_F} {x0 : Int} {x1 : Int} {x2 : Int} {x3 : Int} {Fz : pd_F} (hf : pfX4_sumUp sh n F x0 x1 x2 x3 = some Fz) : pd_C l yX4_sumUp (Cond.code yX4_sumUp cX4_sumUp 6 none :: pd_gt) (pd_rm 3 0 0) al 0 0 sh F [pd_R x0, pd_R x1, pd_R x2, pd_R x3] none sh Fz := by
  unfold pfX4_sumUp at hf
  refine pd_body (L := [pd_R x0, pd_R x1, pd_R x2, pd_R x3, pd_N, pd_N]) (by decide +kernel) (Nat.le_of_ble_eq_true rfl) rfl (fun E => ?_)
  refine pd_aload_n (i := 0) dX4_sumUp_0 rfl rfl ?_
  refine pd_aload_n (i := 2) dX4_sumUp_1 rfl rfl ?_
  obtain ⟨hg17, hf⟩ := pd_ig hf
  refine pd_getN (x := pd_R (F x2 1)) 1 dX4_sumUp_2 (show vwCl[8]? = some (RX8, TX8, 6) from rfl) pin_8 (by decide) pq_581 hg17 rfl ?_
  refine pd_iconst dX4_sumUp_5 (by decide) ?_
  obtain ⟨hg18, hf⟩ := pd_ig hf
  refine pd_iald dX4_sumUp_6 hg18 ?_
  refine pd_i2l dX4_sumUp_7 ?_
  obtain ⟨hg19, hf⟩ := pd_ig hf
  refine pd_put (n := (F (F x2 1) 1)) (x := pd_J (F (F x2 1) 1)) 5 dX4_sumUp_8 (show vwCl[4]? = some (RX4, TX4, 7) from rfl) pin_4 tyX4_ok nmX4 (by decide) pq_568 rfl hg19 rfl pd_nrJ pd_ftJ ?_
  refine pd_topF (fun F20 eF20 => ?_)
  have hf := pd_lt hf eF20
  clear eF20
  refine pd_aload_n (i := 0) dX4_sumUp_11 rfl rfl ?_
  refine pd_aload_n (i := 2) dX4_sumUp_12 rfl rfl ?_
  refine pd_getN (x := pd_R (F20 x2 1)) 1 dX4_sumUp_13 (show vwCl[8]? = some (RX8, TX8, 6) from rfl) pin_8 (by decide) pq_581 hg17 rfl ?_
  refine pd_iconst dX4_sumUp_16 (by decide) ?_
  obtain ⟨hg21, hf⟩ := pd_ig hf
  refine pd_iald dX4_sumUp_17 hg21 ?_
  refine pd_i2l dX4_sumUp_18 ?_
  refine pd_put (n := (F20 (F20 x2 1) 2)) (x := pd_J (F20 (F20 x2 1) 2)) 6 dX4_sumUp_19 (show vwCl[4]? = some (RX4, TX4, 7) from rfl) pin_4 tyX4_ok nmX4 (by decide) pq_543 rfl hg19 rfl pd_nrJ pd_ftJ ?_
  refine pd_topF (fun F22 eF22 => ?_)
  have hf := pd_lt hf eF22
  clear eF22
  refine pd_iconst dX4_sumUp_22 (by decide) ?_
  refine pd_istore (L' := [pd_R x0, pd_R x1, pd_R x2, pd_R x3, pd_I 0, pd_N]) dX4_sumUp_23 (by decide) rfl ?_
  exact pd_weak (L' := [pd_R x0, pd_R x1, pd_R x2, pd_R x3, pd_I 0, pd_N]) ⟨Or.inr rfl, Or.inr rfl, Or.inr rfl, Or.inr rfl, Or.inr rfl, Or.inr rfl, trivial⟩ (pkX4_sumUp_b25 E l n _ _ _ _ _ _ hf)
set_option maxHeartbeats 4000000 in
set_option maxRecDepth 100000 in
theorem pkX4_claim (l : Launch) {al : Bool} {sh : pd_S} {n : Nat} {F : pd_F} {x0 : Int} {x1 : Int} {ρ : Int} {Fz : pd_F} (hf : pfX4_claim sh n F x0 x1 = some (ρ, Fz)) : pd_C l yX4_claim (Cond.code yX4_claim cX4_claim 2 (some .long) :: pd_gt) (pd_rm 3 0 0) al 0 0 sh F [pd_R x0, pd_I x1] (some (pd_J ρ)) sh Fz := by
  unfold pfX4_claim at hf
  refine pd_body (L := [pd_R x0, pd_I x1]) (by decide +kernel) (Nat.le_of_ble_eq_true rfl) rfl (fun E => ?_)
  refine pd_aload_n (i := 0) dX4_claim_0 rfl rfl ?_
  refine pd_iload_n (i := 1) dX4_claim_1 rfl rfl ?_
  obtain ⟨hg2, hf⟩ := pd_ig hf
  obtain ⟨r3, F1, hr, hf⟩ := pd_ob2 hf
  refine pd_callV (pkX4_net l hr) dX4_claim_2 pq_563 pq_566 pq_567 (show vwCl[4]? = some (yX4_net.cls, TX4, 7) from rfl) hg2 (pd_okm (by omega) (by decide) pq_564 pq_565 (by decide) (show (parseMethodDescriptor yX4_net.desc).map (fun d => d.parameters.length) = some 1 from by decide +kernel)) (Nat.le_of_ble_eq_true rfl) rfl ?_
  refine pd_aload_n (i := 0) dX4_claim_5 rfl rfl ?_
  refine pd_iload_n (i := 1) dX4_claim_6 rfl rfl ?_
  obtain ⟨r5, F4, hr, hf⟩ := pd_ob2 hf
  refine pd_callV (pkX4_paid l hr) dX4_claim_7 pq_587 pq_590 pq_591 (show vwCl[4]? = some (yX4_paid.cls, TX4, 7) from rfl) hg2 (pd_okm (by omega) (by decide) pq_588 pq_589 (by decide) (show (parseMethodDescriptor yX4_paid.desc).map (fun d => d.parameters.length) = some 1 from by decide +kernel)) (Nat.le_of_ble_eq_true rfl) rfl ?_
  refine pd_lsub dX4_claim_10 ?_
  obtain ⟨h1, h2⟩ := pd_inj hf
  subst h1 h2
  exact pd_lret dX4_claim_11 rfl (Nat.le_refl 0) (Nat.le_refl 0)
set_option maxHeartbeats 4000000 in
set_option maxRecDepth 100000 in
theorem pkX4_paidTogether (l : Launch) {al : Bool} {sh : pd_S} {n : Nat} {F : pd_F} {x0 : Int} {ρ : Int} {Fz : pd_F} (hf : pfX4_paidTogether sh n F x0 = some (ρ, Fz)) : pd_C l yX4_paidTogether (Cond.code yX4_paidTogether cX4_paidTogether 1 (some .long) :: pd_gt) (pd_rm 3 0 0) al 0 0 sh F [pd_R x0] (some (pd_J ρ)) sh Fz := by
  unfold pfX4_paidTogether at hf
  refine pd_body (L := [pd_R x0]) (by decide +kernel) (Nat.le_of_ble_eq_true rfl) rfl (fun E => ?_)
  refine pd_aload_n (i := 0) dX4_paidTogether_0 rfl rfl ?_
  refine pd_aload_n (i := 0) dX4_paidTogether_1 rfl rfl ?_
  obtain ⟨hg1, hf⟩ := pd_ig hf
  refine pd_get (x := pd_J (F x0 5)) 5 dX4_paidTogether_2 (show vwCl[4]? = some (RX4, TX4, 7) from rfl) pin_4 (by decide) pq_568 hg1 rfl ?_
  obtain ⟨r3, F2, hr, hf⟩ := pd_ob2 hf
  refine pd_callV (pkX4_paidUnder l hr) dX4_paidTogether_5 pq_592 pq_595 pq_596 (show vwCl[4]? = some (yX4_paidUnder.cls, TX4, 7) from rfl) hg1 (pd_okm (by omega) (by decide) pq_593 pq_594 (by decide) (show (parseMethodDescriptor yX4_paidUnder.desc).map (fun d => d.parameters.length) = some 1 from by decide +kernel)) (Nat.le_of_ble_eq_true rfl) rfl ?_
  obtain ⟨h1, h2⟩ := pd_inj hf
  subst h1 h2
  exact pd_lret dX4_paidTogether_8 rfl (Nat.le_refl 0) (Nat.le_refl 0)
set_option maxHeartbeats 4000000 in
set_option maxRecDepth 100000 in
theorem pkX4_claimants_b28 (E : pd_E) (l : Launch) {al : Bool} {sh : pd_S} {n : Nat} {ρ : Int} {Fz : pd_F} {c4 : pd_F → Int → Int → Int → Option (Int × pd_F)} (hL4 : ∀ (F : pd_F) (x0 : Int) (x1 : Int) (x2 : Int), c4 F x0 x1 x2 = some (ρ, Fz) → pd_V E l (pd_rm 4 0 0) (RX4, cX4_claimants, 3, (some .int), "claimants") (pd_Qm E al (some (pd_I ρ)) sh Fz 0 0) al 0 0 sh F 4 [pd_R x0, pd_I x1, pd_I x2] []) (F : pd_F) (x0 : Int) (x1 : Int) (x2 : Int) (hf : pfX4_claimants_b28 sh n c4 F x0 x1 x2 = some (ρ, Fz)) : pd_V E l (pd_rm 4 0 0) (RX4, cX4_claimants, 3, (some .int), "claimants") (pd_Qm E al (some (pd_I ρ)) sh Fz 0 0) al 0 0 sh F 28 [pd_R x0, pd_I x1, pd_I x2] [] := by
  unfold pfX4_claimants_b28 at hf
  refine pd_iincN (L' := fun y => [pd_R x0, pd_I x1, pd_I y]) dX4_claimants_28 rfl (by decide) (by decide) (fun _ => rfl) (fun x2_28 ex2_28 => ?_)
  have hf := pd_lt hf ex2_28
  clear ex2_28
  refine pd_goto (tgt := 4) dX4_claimants_31 (by decide) ?_
  exact pd_weak (L' := [pd_R x0, pd_I x1, pd_I x2_28]) ⟨Or.inr rfl, Or.inr rfl, Or.inr rfl, trivial⟩ (hL4 _ _ _ _ hf)
set_option maxHeartbeats 4000000 in
set_option maxRecDepth 100000 in
theorem pkX4_claimants_b4 (E : pd_E) (l : Launch) {al : Bool} {sh : pd_S} {n : Nat} {ρ : Int} {Fz : pd_F}  : ∀ (k : Nat) (F : pd_F) (x0 : Int) (x1 : Int) (x2 : Int), pfX4_claimants_b4 sh n  k F x0 x1 x2 = some (ρ, Fz) → pd_V E l (pd_rm 4 0 0) (RX4, cX4_claimants, 3, (some .int), "claimants") (pd_Qm E al (some (pd_I ρ)) sh Fz 0 0) al 0 0 sh F 4 [pd_R x0, pd_I x1, pd_I x2] [] := by
  intro k
  induction k with
  | zero => intro F x0 x1 x2 hf; exact absurd hf (by unfold pfX4_claimants_b4; exact fun h => nomatch h)
  | succ k ih =>
    intro F x0 x1 x2 hf
    unfold pfX4_claimants_b4 at hf
    refine pd_iload_n (i := 2) dX4_claimants_4 rfl rfl ?_
    refine pd_aload_n (i := 0) dX4_claimants_5 rfl rfl ?_
    obtain ⟨hg1, hf⟩ := pd_ig hf
    refine pd_get (x := pd_R (F x0 0)) 0 dX4_claimants_6 (show vwCl[4]? = some (RX4, TX4, 7) from rfl) pin_4 (by decide) pq_544 hg1 rfl ?_
    obtain ⟨hg2, hf⟩ := pd_ig hf
    refine pd_getN (x := pd_I (F (F x0 0) 3)) 3 dX4_claimants_9 (show vwCl[10]? = some (RX10, TX10, 4) from rfl) pin_10 (by decide) pq_545 hg2 rfl ?_
    refine pd_icmp_ge (tgt := 34) dX4_claimants_12 (by decide) (fun hc => ?_) (fun hc => ?_)
    · have hf := pd_ip hf hc
      refine pd_iload_n (i := 1) dX4_claimants_34 rfl rfl ?_
      obtain ⟨h1, h2⟩ := pd_inj hf
      subst h1 h2
      exact pd_iret dX4_claimants_35 rfl (Nat.le_refl 0) (Nat.le_refl 0)
    · have hf := pd_in_ hf hc
      refine pd_aload_n (i := 0) dX4_claimants_15 rfl rfl ?_
      refine pd_iload_n (i := 2) dX4_claimants_16 rfl rfl ?_
      obtain ⟨r4, F3, hr, hf⟩ := pd_ob2 hf
      refine pd_callV (pkX4_claim l hr) dX4_claimants_17 pq_597 pq_600 pq_601 (show vwCl[4]? = some (yX4_claim.cls, TX4, 7) from rfl) hg1 (pd_okm (by omega) (by decide) pq_598 pq_599 (by decide) (show (parseMethodDescriptor yX4_claim.desc).map (fun d => d.parameters.length) = some 1 from by decide +kernel)) (Nat.le_of_ble_eq_true rfl) rfl ?_
      refine pd_lconst (x := 0) dX4_claimants_20 (by decide) ?_
      refine pd_lcmp_le (tgt := 28) dX4_claimants_21 dX4_claimants_22 (by decide) (fun hc => ?_) (fun hc => ?_)
      · have hf := pd_ip hf hc
        exact pd_weak (L' := [pd_R x0, pd_I x1, pd_I x2]) ⟨Or.inr rfl, Or.inr rfl, Or.inr rfl, trivial⟩ (pkX4_claimants_b28 E l ih _ _ _ _ hf)
      · have hf := pd_in_ hf hc
        refine pd_iincN (L' := fun y => [pd_R x0, pd_I y, pd_I x2]) dX4_claimants_25 rfl (by decide) (by decide) (fun _ => rfl) (fun x1_25 ex1_25 => ?_)
        have hf := pd_lt hf ex1_25
        clear ex1_25
        exact pd_weak (L' := [pd_R x0, pd_I x1_25, pd_I x2]) ⟨Or.inr rfl, Or.inr rfl, Or.inr rfl, trivial⟩ (pkX4_claimants_b28 E l ih _ _ _ _ hf)
set_option maxHeartbeats 4000000 in
set_option maxRecDepth 100000 in
theorem pkX4_claimants (l : Launch) {al : Bool} {sh : pd_S} {n : Nat} {F : pd_F} {x0 : Int} {ρ : Int} {Fz : pd_F} (hf : pfX4_claimants sh n F x0 = some (ρ, Fz)) : pd_C l yX4_claimants (Cond.code yX4_claimants cX4_claimants 3 (some .int) :: pd_gt) (pd_rm 4 0 0) al 0 0 sh F [pd_R x0] (some (pd_I ρ)) sh Fz := by
  unfold pfX4_claimants at hf
  refine pd_body (L := [pd_R x0, pd_N, pd_N]) (by decide +kernel) (Nat.le_of_ble_eq_true rfl) rfl (fun E => ?_)
  refine pd_iconst dX4_claimants_0 (by decide) ?_
  refine pd_istore_n (L' := [pd_R x0, pd_I 0, pd_N]) dX4_claimants_1 rfl (by decide) rfl ?_
  refine pd_iconst dX4_claimants_2 (by decide) ?_
  refine pd_istore_n (L' := [pd_R x0, pd_I 0, pd_I 0]) dX4_claimants_3 rfl (by decide) rfl ?_
  exact pd_weak (L' := [pd_R x0, pd_I 0, pd_I 0]) ⟨Or.inr rfl, Or.inr rfl, Or.inr rfl, trivial⟩ (pkX4_claimants_b4 E l n _ _ _ _ hf)
set_option maxHeartbeats 4000000 in
set_option maxRecDepth 100000 in
theorem pkX4_claimsAhead_b31 (E : pd_E) (l : Launch) {al : Bool} {sh : pd_S} {n : Nat} {ρ : Int} {Fz : pd_F} {c5 : pd_F → Int → Int → Int → Int → Int → Option (Int × pd_F)} (hL5 : ∀ (F : pd_F) (x0 : Int) (x1 : Int) (x2 : Int) (x3 : Int) (x5 : Int), c5 F x0 x1 x2 x3 x5 = some (ρ, Fz) → pd_V E l (pd_rm 4 0 0) (RX4, cX4_claimsAhead, 6, (some .long), "claimsAhead") (pd_Qm E al (some (pd_J ρ)) sh Fz 0 0) al 0 0 sh F 5 [pd_R x0, pd_I x1, pd_I x2, pd_J x3, pd_N, pd_I x5] []) (F : pd_F) (x0 : Int) (x1 : Int) (x2 : Int) (x3 : Int) (x5 : Int) (hf : pfX4_claimsAhead_b31 sh n c5 F x0 x1 x2 x3 x5 = some (ρ, Fz)) : pd_V E l (pd_rm 4 0 0) (RX4, cX4_claimsAhead, 6, (some .long), "claimsAhead") (pd_Qm E al (some (pd_J ρ)) sh Fz 0 0) al 0 0 sh F 31 [pd_R x0, pd_I x1, pd_I x2, pd_J x3, pd_N, pd_I x5] [] := by
  unfold pfX4_claimsAhead_b31 at hf
  refine pd_iincN (L' := fun y => [pd_R x0, pd_I x1, pd_I x2, pd_J x3, pd_N, pd_I y]) dX4_claimsAhead_31 rfl (by decide) (by decide) (fun _ => rfl) (fun x5_31 ex5_31 => ?_)
  have hf := pd_lt hf ex5_31
  clear ex5_31
  refine pd_goto (tgt := 5) dX4_claimsAhead_34 (by decide) ?_
  exact pd_weak (L' := [pd_R x0, pd_I x1, pd_I x2, pd_J x3, pd_N, pd_I x5_31]) ⟨Or.inr rfl, Or.inr rfl, Or.inr rfl, Or.inr rfl, Or.inr rfl, Or.inr rfl, trivial⟩ (hL5 _ _ _ _ _ _ hf)
set_option maxHeartbeats 4000000 in
set_option maxRecDepth 100000 in
theorem pkX4_claimsAhead_b5 (E : pd_E) (l : Launch) {al : Bool} {sh : pd_S} {n : Nat} {ρ : Int} {Fz : pd_F}  : ∀ (k : Nat) (F : pd_F) (x0 : Int) (x1 : Int) (x2 : Int) (x3 : Int) (x5 : Int), pfX4_claimsAhead_b5 sh n  k F x0 x1 x2 x3 x5 = some (ρ, Fz) → pd_V E l (pd_rm 4 0 0) (RX4, cX4_claimsAhead, 6, (some .long), "claimsAhead") (pd_Qm E al (some (pd_J ρ)) sh Fz 0 0) al 0 0 sh F 5 [pd_R x0, pd_I x1, pd_I x2, pd_J x3, pd_N, pd_I x5] [] := by
  intro k
  induction k with
  | zero => intro F x0 x1 x2 x3 x5 hf; exact absurd hf (by unfold pfX4_claimsAhead_b5; exact fun h => nomatch h)
  | succ k ih =>
    intro F x0 x1 x2 x3 x5 hf
    unfold pfX4_claimsAhead_b5 at hf
    refine pd_iload (i := 5) dX4_claimsAhead_5 rfl ?_
    refine pd_iload_n (i := 1) dX4_claimsAhead_7 rfl rfl ?_
    refine pd_icmp_ge (tgt := 37) dX4_claimsAhead_8 (by decide) (fun hc => ?_) (fun hc => ?_)
    · have hf := pd_ip hf hc
      refine pd_lload_n (i := 3) dX4_claimsAhead_37 rfl rfl ?_
      obtain ⟨h1, h2⟩ := pd_inj hf
      subst h1 h2
      exact pd_lret dX4_claimsAhead_38 rfl (Nat.le_refl 0) (Nat.le_refl 0)
    · have hf := pd_in_ hf hc
      refine pd_aload_n (i := 0) dX4_claimsAhead_11 rfl rfl ?_
      obtain ⟨hg1, hf⟩ := pd_ig hf
      refine pd_get (x := pd_R (F x0 4)) 4 dX4_claimsAhead_12 (show vwCl[4]? = some (RX4, TX4, 7) from rfl) pin_4 (by decide) pq_560 hg1 rfl ?_
      refine pd_iload (i := 5) dX4_claimsAhead_15 rfl ?_
      obtain ⟨hg2, hf⟩ := pd_ig hf
      refine pd_zald dX4_claimsAhead_17 hg2 ?_
      refine pd_iload_n (i := 2) dX4_claimsAhead_18 rfl rfl ?_
      refine pd_icmp_ne (tgt := 31) dX4_claimsAhead_19 (by decide) (fun hc => ?_) (fun hc => ?_)
      · have hf := pd_ip hf hc
        exact pd_weak (L' := [pd_R x0, pd_I x1, pd_I x2, pd_J x3, pd_N, pd_I x5]) ⟨Or.inr rfl, Or.inr rfl, Or.inr rfl, Or.inr rfl, Or.inr rfl, Or.inr rfl, trivial⟩ (pkX4_claimsAhead_b31 E l ih _ _ _ _ _ _ hf)
      · have hf := pd_iq hf hc
        refine pd_lload_n (i := 3) dX4_claimsAhead_22 rfl rfl ?_
        refine pd_aload_n (i := 0) dX4_claimsAhead_23 rfl rfl ?_
        refine pd_iload (i := 5) dX4_claimsAhead_24 rfl ?_
        obtain ⟨r4, F3, hr, hf⟩ := pd_ob2 hf
        refine pd_callV (pkX4_claim l hr) dX4_claimsAhead_26 pq_597 pq_600 pq_601 (show vwCl[4]? = some (yX4_claim.cls, TX4, 7) from rfl) hg1 (pd_okm (by omega) (by decide) pq_598 pq_599 (by decide) (show (parseMethodDescriptor yX4_claim.desc).map (fun d => d.parameters.length) = some 1 from by decide +kernel)) (Nat.le_of_ble_eq_true rfl) rfl ?_
        refine pd_ladd dX4_claimsAhead_29 ?_
        refine pd_topJ (fun x3_30 ex3_30 => ?_)
        have hf := pd_lt hf ex3_30
        clear ex3_30
        refine pd_lstore_n (L' := [pd_R x0, pd_I x1, pd_I x2, pd_J x3_30, pd_N, pd_I x5]) dX4_claimsAhead_30 rfl (by decide) rfl ?_
        exact pd_weak (L' := [pd_R x0, pd_I x1, pd_I x2, pd_J x3_30, pd_N, pd_I x5]) ⟨Or.inr rfl, Or.inr rfl, Or.inr rfl, Or.inr rfl, Or.inr rfl, Or.inr rfl, trivial⟩ (pkX4_claimsAhead_b31 E l ih _ _ _ _ _ _ hf)
set_option maxHeartbeats 4000000 in
set_option maxRecDepth 100000 in
theorem pkX4_claimsAhead (l : Launch) {al : Bool} {sh : pd_S} {n : Nat} {F : pd_F} {x0 : Int} {x1 : Int} {x2 : Int} {ρ : Int} {Fz : pd_F} (hf : pfX4_claimsAhead sh n F x0 x1 x2 = some (ρ, Fz)) : pd_C l yX4_claimsAhead (Cond.code yX4_claimsAhead cX4_claimsAhead 6 (some .long) :: pd_gt) (pd_rm 4 0 0) al 0 0 sh F [pd_R x0, pd_I x1, pd_I x2] (some (pd_J ρ)) sh Fz := by
  unfold pfX4_claimsAhead at hf
  refine pd_body (L := [pd_R x0, pd_I x1, pd_I x2, pd_N, pd_N, pd_N]) (by decide +kernel) (Nat.le_of_ble_eq_true rfl) rfl (fun E => ?_)
  refine pd_lconst (x := 0) dX4_claimsAhead_0 (by decide) ?_
  refine pd_lstore_n (L' := [pd_R x0, pd_I x1, pd_I x2, pd_J 0, pd_N, pd_N]) dX4_claimsAhead_1 rfl (by decide) rfl ?_
  refine pd_iconst dX4_claimsAhead_2 (by decide) ?_
  refine pd_istore (L' := [pd_R x0, pd_I x1, pd_I x2, pd_J 0, pd_N, pd_I 0]) dX4_claimsAhead_3 (by decide) rfl ?_
  exact pd_weak (L' := [pd_R x0, pd_I x1, pd_I x2, pd_J 0, pd_N, pd_I 0]) ⟨Or.inr rfl, Or.inr rfl, Or.inr rfl, Or.inr rfl, Or.inr rfl, Or.inr rfl, trivial⟩ (pkX4_claimsAhead_b5 E l n _ _ _ _ _ _ hf)
set_option maxHeartbeats 4000000 in
set_option maxRecDepth 100000 in
theorem pkX4_aheadOf_b54 (E : pd_E) (l : Launch) {al : Bool} {sh : pd_S} {n : Nat} {ρ : Int} {Fz : pd_F} {c11 : pd_F → Int → Int → Int → Int → Int → Option (Int × pd_F)} (hL11 : ∀ (F : pd_F) (x0 : Int) (x1 : Int) (x2 : Int) (x3 : Int) (x5 : Int), c11 F x0 x1 x2 x3 x5 = some (ρ, Fz) → pd_V E l (pd_rm 4 0 0) (RX4, cX4_aheadOf, 8, (some .int), "aheadOf") (pd_Qm E al (some (pd_I ρ)) sh Fz 0 0) al 0 0 sh F 11 [pd_R x0, pd_I x1, pd_I x2, pd_J x3, pd_N, pd_I x5, pd_N, pd_N] []) (F : pd_F) (x0 : Int) (x1 : Int) (x2 : Int) (x3 : Int) (x5 : Int) (hf : pfX4_aheadOf_b54 sh n c11 F x0 x1 x2 x3 x5 = some (ρ, Fz)) : pd_V E l (pd_rm 4 0 0) (RX4, cX4_aheadOf, 8, (some .int), "aheadOf") (pd_Qm E al (some (pd_I ρ)) sh Fz 0 0) al 0 0 sh F 54 [pd_R x0, pd_I x1, pd_I x2, pd_J x3, pd_N, pd_I x5, pd_N, pd_N] [] := by
  unfold pfX4_aheadOf_b54 at hf
  refine pd_iincN (L' := fun y => [pd_R x0, pd_I x1, pd_I x2, pd_J x3, pd_N, pd_I y, pd_N, pd_N]) dX4_aheadOf_54 rfl (by decide) (by decide) (fun _ => rfl) (fun x5_54 ex5_54 => ?_)
  have hf := pd_lt hf ex5_54
  clear ex5_54
  refine pd_goto (tgt := 11) dX4_aheadOf_57 (by decide) ?_
  exact pd_weak (L' := [pd_R x0, pd_I x1, pd_I x2, pd_J x3, pd_N, pd_I x5_54, pd_N, pd_N]) ⟨Or.inr rfl, Or.inr rfl, Or.inr rfl, Or.inr rfl, Or.inr rfl, Or.inr rfl, Or.inr rfl, Or.inr rfl, trivial⟩ (hL11 _ _ _ _ _ _ hf)
set_option maxHeartbeats 4000000 in
set_option maxRecDepth 100000 in
theorem pkX4_aheadOf_b51 (E : pd_E) (l : Launch) {al : Bool} {sh : pd_S} {n : Nat} {ρ : Int} {Fz : pd_F} {c11 : pd_F → Int → Int → Int → Int → Int → Option (Int × pd_F)} (hL11 : ∀ (F : pd_F) (x0 : Int) (x1 : Int) (x2 : Int) (x3 : Int) (x5 : Int), c11 F x0 x1 x2 x3 x5 = some (ρ, Fz) → pd_V E l (pd_rm 4 0 0) (RX4, cX4_aheadOf, 8, (some .int), "aheadOf") (pd_Qm E al (some (pd_I ρ)) sh Fz 0 0) al 0 0 sh F 11 [pd_R x0, pd_I x1, pd_I x2, pd_J x3, pd_N, pd_I x5, pd_N, pd_N] []) (F : pd_F) (x0 : Int) (x1 : Int) (x2 : Int) (x3 : Int) (x5 : Int) (hf : pfX4_aheadOf_b51 sh n c11 F x0 x1 x2 x3 x5 = some (ρ, Fz)) : pd_V E l (pd_rm 4 0 0) (RX4, cX4_aheadOf, 8, (some .int), "aheadOf") (pd_Qm E al (some (pd_I ρ)) sh Fz 0 0) al 0 0 sh F 51 [pd_R x0, pd_I x1, pd_I x2, pd_J x3, pd_N, pd_I x5, pd_N, pd_N] [] := by
  unfold pfX4_aheadOf_b51 at hf
  refine pd_iincN (L' := fun y => [pd_R x0, pd_I x1, pd_I y, pd_J x3, pd_N, pd_I x5, pd_N, pd_N]) dX4_aheadOf_51 rfl (by decide) (by decide) (fun _ => rfl) (fun x2_51 ex2_51 => ?_)
  have hf := pd_lt hf ex2_51
  clear ex2_51
  exact pd_weak (L' := [pd_R x0, pd_I x1, pd_I x2_51, pd_J x3, pd_N, pd_I x5, pd_N, pd_N]) ⟨Or.inr rfl, Or.inr rfl, Or.inr rfl, Or.inr rfl, Or.inr rfl, Or.inr rfl, Or.inr rfl, Or.inr rfl, trivial⟩ (pkX4_aheadOf_b54 E l hL11 _ _ _ _ _ _ hf)
set_option maxHeartbeats 4000000 in
set_option maxRecDepth 100000 in
theorem pkX4_aheadOf_b11 (E : pd_E) (l : Launch) {al : Bool} {sh : pd_S} {n : Nat} {ρ : Int} {Fz : pd_F}  : ∀ (k : Nat) (F : pd_F) (x0 : Int) (x1 : Int) (x2 : Int) (x3 : Int) (x5 : Int), pfX4_aheadOf_b11 sh n  k F x0 x1 x2 x3 x5 = some (ρ, Fz) → pd_V E l (pd_rm 4 0 0) (RX4, cX4_aheadOf, 8, (some .int), "aheadOf") (pd_Qm E al (some (pd_I ρ)) sh Fz 0 0) al 0 0 sh F 11 [pd_R x0, pd_I x1, pd_I x2, pd_J x3, pd_N, pd_I x5, pd_N, pd_N] [] := by
  intro k
  induction k with
  | zero => intro F x0 x1 x2 x3 x5 hf; exact absurd hf (by unfold pfX4_aheadOf_b11; exact fun h => nomatch h)
  | succ k ih =>
    intro F x0 x1 x2 x3 x5 hf
    unfold pfX4_aheadOf_b11 at hf
    refine pd_iload (i := 5) dX4_aheadOf_11 rfl ?_
    refine pd_aload_n (i := 0) dX4_aheadOf_13 rfl rfl ?_
    obtain ⟨hg1, hf⟩ := pd_ig hf
    refine pd_get (x := pd_R (F x0 0)) 0 dX4_aheadOf_14 (show vwCl[4]? = some (RX4, TX4, 7) from rfl) pin_4 (by decide) pq_544 hg1 rfl ?_
    obtain ⟨hg2, hf⟩ := pd_ig hf
    refine pd_getN (x := pd_I (F (F x0 0) 3)) 3 dX4_aheadOf_17 (show vwCl[10]? = some (RX10, TX10, 4) from rfl) pin_10 (by decide) pq_545 hg2 rfl ?_
    refine pd_icmp_ge (tgt := 60) dX4_aheadOf_20 (by decide) (fun hc => ?_) (fun hc => ?_)
    · have hf := pd_ip hf hc
      refine pd_iload_n (i := 2) dX4_aheadOf_60 rfl rfl ?_
      obtain ⟨h1, h2⟩ := pd_inj hf
      subst h1 h2
      exact pd_iret dX4_aheadOf_61 rfl (Nat.le_refl 0) (Nat.le_refl 0)
    · have hf := pd_in_ hf hc
      refine pd_aload_n (i := 0) dX4_aheadOf_23 rfl rfl ?_
      refine pd_iload (i := 5) dX4_aheadOf_24 rfl ?_
      obtain ⟨r4, F3, hr, hf⟩ := pd_ob2 hf
      refine pd_callV (pkX4_claim l hr) dX4_aheadOf_26 pq_597 pq_600 pq_601 (show vwCl[4]? = some (yX4_claim.cls, TX4, 7) from rfl) hg1 (pd_okm (by omega) (by decide) pq_598 pq_599 (by decide) (show (parseMethodDescriptor yX4_claim.desc).map (fun d => d.parameters.length) = some 1 from by decide +kernel)) (Nat.le_of_ble_eq_true rfl) rfl ?_
      refine pd_lstore (L' := [pd_R x0, pd_I x1, pd_I x2, pd_J x3, pd_N, pd_I x5, pd_J r4, pd_N]) dX4_aheadOf_29 (by decide) rfl ?_
      refine pd_lload (i := 6) dX4_aheadOf_31 rfl ?_
      refine pd_lload_n (i := 3) dX4_aheadOf_33 rfl rfl ?_
      refine pd_lcmp_gt (tgt := 51) dX4_aheadOf_34 dX4_aheadOf_35 (by decide) (fun hc => ?_) (fun hc => ?_)
      · have hf := pd_ip hf hc
        exact pd_weak (L' := [pd_R x0, pd_I x1, pd_I x2, pd_J x3, pd_N, pd_I x5, pd_N, pd_N]) ⟨Or.inr rfl, Or.inr rfl, Or.inr rfl, Or.inr rfl, Or.inr rfl, Or.inr rfl, Or.inl rfl, Or.inr rfl, trivial⟩ (pkX4_aheadOf_b51 E l ih _ _ _ _ _ _ hf)
      · have hf := pd_in_ hf hc
        refine pd_lload (i := 6) dX4_aheadOf_38 rfl ?_
        refine pd_lload_n (i := 3) dX4_aheadOf_40 rfl rfl ?_
        refine pd_lcmp_ne (tgt := 54) dX4_aheadOf_41 dX4_aheadOf_42 (by decide) (fun hc => ?_) (fun hc => ?_)
        · have hf := pd_ip hf hc
          exact pd_weak (L' := [pd_R x0, pd_I x1, pd_I x2, pd_J x3, pd_N, pd_I x5, pd_N, pd_N]) ⟨Or.inr rfl, Or.inr rfl, Or.inr rfl, Or.inr rfl, Or.inr rfl, Or.inr rfl, Or.inl rfl, Or.inr rfl, trivial⟩ (pkX4_aheadOf_b54 E l ih _ _ _ _ _ _ hf)
        · have hf := pd_iq hf hc
          refine pd_iload (i := 5) dX4_aheadOf_45 rfl ?_
          refine pd_iload_n (i := 1) dX4_aheadOf_47 rfl rfl ?_
          refine pd_icmp_ge (tgt := 54) dX4_aheadOf_48 (by decide) (fun hc => ?_) (fun hc => ?_)
          · have hf := pd_ip hf hc
            exact pd_weak (L' := [pd_R x0, pd_I x1, pd_I x2, pd_J x3, pd_N, pd_I x5, pd_N, pd_N]) ⟨Or.inr rfl, Or.inr rfl, Or.inr rfl, Or.inr rfl, Or.inr rfl, Or.inr rfl, Or.inl rfl, Or.inr rfl, trivial⟩ (pkX4_aheadOf_b54 E l ih _ _ _ _ _ _ hf)
          · have hf := pd_in_ hf hc
            exact pd_weak (L' := [pd_R x0, pd_I x1, pd_I x2, pd_J x3, pd_N, pd_I x5, pd_N, pd_N]) ⟨Or.inr rfl, Or.inr rfl, Or.inr rfl, Or.inr rfl, Or.inr rfl, Or.inr rfl, Or.inl rfl, Or.inr rfl, trivial⟩ (pkX4_aheadOf_b51 E l ih _ _ _ _ _ _ hf)
set_option maxHeartbeats 4000000 in
set_option maxRecDepth 100000 in
theorem pkX4_aheadOf (l : Launch) {al : Bool} {sh : pd_S} {n : Nat} {F : pd_F} {x0 : Int} {x1 : Int} {ρ : Int} {Fz : pd_F} (hf : pfX4_aheadOf sh n F x0 x1 = some (ρ, Fz)) : pd_C l yX4_aheadOf (Cond.code yX4_aheadOf cX4_aheadOf 8 (some .int) :: pd_gt) (pd_rm 4 0 0) al 0 0 sh F [pd_R x0, pd_I x1] (some (pd_I ρ)) sh Fz := by
  unfold pfX4_aheadOf at hf
  refine pd_body (L := [pd_R x0, pd_I x1, pd_N, pd_N, pd_N, pd_N, pd_N, pd_N]) (by decide +kernel) (Nat.le_of_ble_eq_true rfl) rfl (fun E => ?_)
  refine pd_iconst dX4_aheadOf_0 (by decide) ?_
  refine pd_istore_n (L' := [pd_R x0, pd_I x1, pd_I 0, pd_N, pd_N, pd_N, pd_N, pd_N]) dX4_aheadOf_1 rfl (by decide) rfl ?_
  refine pd_aload_n (i := 0) dX4_aheadOf_2 rfl rfl ?_
  refine pd_iload_n (i := 1) dX4_aheadOf_3 rfl rfl ?_
  obtain ⟨hg6, hf⟩ := pd_ig hf
  obtain ⟨r7, F5, hr, hf⟩ := pd_ob2 hf
  refine pd_callV (pkX4_claim l hr) dX4_aheadOf_4 pq_597 pq_600 pq_601 (show vwCl[4]? = some (yX4_claim.cls, TX4, 7) from rfl) hg6 (pd_okm (by omega) (by decide) pq_598 pq_599 (by decide) (show (parseMethodDescriptor yX4_claim.desc).map (fun d => d.parameters.length) = some 1 from by decide +kernel)) (Nat.le_of_ble_eq_true rfl) rfl ?_
  refine pd_lstore_n (L' := [pd_R x0, pd_I x1, pd_I 0, pd_J r7, pd_N, pd_N, pd_N, pd_N]) dX4_aheadOf_7 rfl (by decide) rfl ?_
  refine pd_iconst dX4_aheadOf_8 (by decide) ?_
  refine pd_istore (L' := [pd_R x0, pd_I x1, pd_I 0, pd_J r7, pd_N, pd_I 0, pd_N, pd_N]) dX4_aheadOf_9 (by decide) rfl ?_
  exact pd_weak (L' := [pd_R x0, pd_I x1, pd_I 0, pd_J r7, pd_N, pd_I 0, pd_N, pd_N]) ⟨Or.inr rfl, Or.inr rfl, Or.inr rfl, Or.inr rfl, Or.inr rfl, Or.inr rfl, Or.inr rfl, Or.inr rfl, trivial⟩ (pkX4_aheadOf_b11 E l n _ _ _ _ _ _ hf)
set_option maxHeartbeats 4000000 in
set_option maxRecDepth 100000 in
theorem pkX4_claimsOf (l : Launch) {al : Bool} {sh : pd_S} {n : Nat} {F : pd_F} {x0 : Int} {x1 : Int} {ρ : Int} {Fz : pd_F} (hf : pfX4_claimsOf sh n F x0 x1 = some (ρ, Fz)) : pd_C l yX4_claimsOf (Cond.code yX4_claimsOf cX4_claimsOf 2 (some .long) :: pd_gt) (pd_rm 5 0 0) al 0 0 sh F [pd_R x0, pd_I x1] (some (pd_J ρ)) sh Fz := by
  unfold pfX4_claimsOf at hf
  refine pd_body (L := [pd_R x0, pd_I x1]) (by decide +kernel) (Nat.le_of_ble_eq_true rfl) rfl (fun E => ?_)
  refine pd_aload_n (i := 0) dX4_claimsOf_0 rfl rfl ?_
  refine pd_aload_n (i := 0) dX4_claimsOf_1 rfl rfl ?_
  obtain ⟨hg1, hf⟩ := pd_ig hf
  refine pd_get (x := pd_R (F x0 0)) 0 dX4_claimsOf_2 (show vwCl[4]? = some (RX4, TX4, 7) from rfl) pin_4 (by decide) pq_544 hg1 rfl ?_
  obtain ⟨hg2, hf⟩ := pd_ig hf
  refine pd_getN (x := pd_I (F (F x0 0) 3)) 3 dX4_claimsOf_5 (show vwCl[10]? = some (RX10, TX10, 4) from rfl) pin_10 (by decide) pq_545 hg2 rfl ?_
  refine pd_iload_n (i := 1) dX4_claimsOf_8 rfl rfl ?_
  obtain ⟨r4, F3, hr, hf⟩ := pd_ob2 hf
  refine pd_callV (pkX4_claimsAhead l hr) dX4_claimsOf_9 pq_602 pq_605 pq_606 (show vwCl[4]? = some (yX4_claimsAhead.cls, TX4, 7) from rfl) hg1 (pd_okm (by omega) (by decide) pq_603 pq_604 (by decide) (show (parseMethodDescriptor yX4_claimsAhead.desc).map (fun d => d.parameters.length) = some 2 from by decide +kernel)) (Nat.le_of_ble_eq_true rfl) rfl ?_
  obtain ⟨h1, h2⟩ := pd_inj hf
  subst h1 h2
  exact pd_lret dX4_claimsOf_12 rfl (Nat.le_refl 0) (Nat.le_refl 0)
set_option maxHeartbeats 4000000 in
set_option maxRecDepth 100000 in
theorem pkX4_fromEstate_b31 (E : pd_E) (l : Launch) {al : Bool} {sh : pd_S} {n : Nat} {ρ : Int} {Fz : pd_F}  (F : pd_F) (x0 : Int) (x3 : Int) (x4 : Int) (x5 : Int) (hf : pfX4_fromEstate_b31 sh n  F x0 x3 x4 x5 = some (ρ, Fz)) : pd_V E l (pd_rm 6 0 0) (RX4, cX4_fromEstate, 13, (some .long), "fromEstate") (pd_Qm E al (some (pd_J ρ)) sh Fz 0 0) al 0 0 sh F 31 [pd_R x0, pd_N, pd_N, pd_I x3, pd_I x4, pd_J x5, pd_N, pd_N, pd_N, pd_N, pd_N, pd_N, pd_N] [] := by
  unfold pfX4_fromEstate_b31 at hf
  refine pd_lload (i := 5) dX4_fromEstate_31 rfl ?_
  refine pd_lconst (x := 0) dX4_fromEstate_33 (by decide) ?_
  refine pd_mmaxJ dX4_fromEstate_34 pq_539 pq_540 pq_40 pq_541 pd_rmR (Nat.le_of_ble_eq_true rfl) ?_
  refine pd_topJ (fun x5_37 ex5_37 => ?_)
  have hf := pd_lt hf ex5_37
  clear ex5_37
  refine pd_lstore (L' := [pd_R x0, pd_N, pd_N, pd_I x3, pd_I x4, pd_J x5_37, pd_N, pd_N, pd_N, pd_N, pd_N, pd_N, pd_N]) dX4_fromEstate_37 (by decide) rfl ?_
  refine pd_aload_n (i := 0) dX4_fromEstate_39 rfl rfl ?_
  refine pd_iload (i := 4) dX4_fromEstate_40 rfl ?_
  obtain ⟨hg2, hf⟩ := pd_ig hf
  obtain ⟨r3, F1, hr, hf⟩ := pd_ob2 hf
  refine pd_callV (pkX4_claimsOf l hr) dX4_fromEstate_42 pq_607 pq_610 pq_611 (show vwCl[4]? = some (yX4_claimsOf.cls, TX4, 7) from rfl) hg2 (pd_okm (by omega) (by decide) pq_608 pq_609 (by decide) (show (parseMethodDescriptor yX4_claimsOf.desc).map (fun d => d.parameters.length) = some 1 from by decide +kernel)) (Nat.le_of_ble_eq_true rfl) rfl ?_
  refine pd_lstore (L' := [pd_R x0, pd_N, pd_N, pd_I x3, pd_I x4, pd_J x5_37, pd_N, pd_J r3, pd_N, pd_N, pd_N, pd_N, pd_N]) dX4_fromEstate_45 (by decide) rfl ?_
  refine pd_aload_n (i := 0) dX4_fromEstate_47 rfl rfl ?_
  refine pd_iload_n (i := 3) dX4_fromEstate_48 rfl rfl ?_
  obtain ⟨r5, F4, hr, hf⟩ := pd_ob2 hf
  refine pd_callV (pkX4_claim l hr) dX4_fromEstate_49 pq_597 pq_600 pq_601 (show vwCl[4]? = some (yX4_claim.cls, TX4, 7) from rfl) hg2 (pd_okm (by omega) (by decide) pq_598 pq_599 (by decide) (show (parseMethodDescriptor yX4_claim.desc).map (fun d => d.parameters.length) = some 1 from by decide +kernel)) (Nat.le_of_ble_eq_true rfl) rfl ?_
  refine pd_lstore (L' := [pd_R x0, pd_N, pd_N, pd_I x3, pd_I x4, pd_J x5_37, pd_N, pd_J r3, pd_N, pd_J r5, pd_N, pd_N, pd_N]) dX4_fromEstate_52 (by decide) rfl ?_
  refine pd_lload (i := 7) dX4_fromEstate_54 rfl ?_
  refine pd_lconst (x := 0) dX4_fromEstate_56 (by decide) ?_
  refine pd_lcmp_le (tgt := 69) dX4_fromEstate_57 dX4_fromEstate_58 (by decide) (fun hc => ?_) (fun hc => ?_)
  · have hf := pd_ip hf hc
    refine pd_lload (i := 9) dX4_fromEstate_69 rfl ?_
    obtain ⟨h1, h2⟩ := pd_inj hf
    subst h1 h2
    exact pd_lret dX4_fromEstate_71 rfl (Nat.le_refl 0) (Nat.le_refl 0)
  · have hf := pd_in_ hf hc
    refine pd_lload (i := 7) dX4_fromEstate_61 rfl ?_
    refine pd_lload (i := 5) dX4_fromEstate_63 rfl ?_
    refine pd_lcmp_gt (tgt := 72) dX4_fromEstate_65 dX4_fromEstate_66 (by decide) (fun hc => ?_) (fun hc => ?_)
    · have hf := pd_ip hf hc
      refine pd_aload_n (i := 0) dX4_fromEstate_72 rfl rfl ?_
      refine pd_iload_n (i := 3) dX4_fromEstate_73 rfl rfl ?_
      refine pd_iload (i := 4) dX4_fromEstate_74 rfl ?_
      obtain ⟨r7, F6, hr, hf⟩ := pd_ob2 hf
      refine pd_callV (pkX4_claimsAhead l hr) dX4_fromEstate_76 pq_602 pq_605 pq_606 (show vwCl[4]? = some (yX4_claimsAhead.cls, TX4, 7) from rfl) hg2 (pd_okm (by omega) (by decide) pq_603 pq_604 (by decide) (show (parseMethodDescriptor yX4_claimsAhead.desc).map (fun d => d.parameters.length) = some 2 from by decide +kernel)) (Nat.le_of_ble_eq_true rfl) rfl ?_
      refine pd_lstore (L' := [pd_R x0, pd_N, pd_N, pd_I x3, pd_I x4, pd_J x5_37, pd_N, pd_J r3, pd_N, pd_J r5, pd_N, pd_J r7, pd_N]) dX4_fromEstate_79 (by decide) rfl ?_
      refine pd_lload (i := 5) dX4_fromEstate_81 rfl ?_
      refine pd_lload (i := 11) dX4_fromEstate_83 rfl ?_
      refine pd_lload (i := 9) dX4_fromEstate_85 rfl ?_
      refine pd_ladd dX4_fromEstate_87 ?_
      refine pd_lmul dX4_fromEstate_88 ?_
      refine pd_lload (i := 7) dX4_fromEstate_89 rfl ?_
      obtain ⟨hg8, hf⟩ := pd_ig hf
      refine pd_ldiv dX4_fromEstate_91 hg8 ?_
      refine pd_lload (i := 5) dX4_fromEstate_92 rfl ?_
      refine pd_lload (i := 11) dX4_fromEstate_94 rfl ?_
      refine pd_lmul dX4_fromEstate_96 ?_
      refine pd_lload (i := 7) dX4_fromEstate_97 rfl ?_
      refine pd_ldiv dX4_fromEstate_99 hg8 ?_
      refine pd_lsub dX4_fromEstate_100 ?_
      obtain ⟨h1, h2⟩ := pd_inj hf
      subst h1 h2
      exact pd_lret dX4_fromEstate_101 rfl (Nat.le_refl 0) (Nat.le_refl 0)
    · have hf := pd_in_ hf hc
      refine pd_lload (i := 9) dX4_fromEstate_69 rfl ?_
      obtain ⟨h1, h2⟩ := pd_inj hf
      subst h1 h2
      exact pd_lret dX4_fromEstate_71 rfl (Nat.le_refl 0) (Nat.le_refl 0)
set_option maxHeartbeats 4000000 in
set_option maxRecDepth 100000 in
theorem pkX4_fromEstate (l : Launch) {al : Bool} {sh : pd_S} {n : Nat} {F : pd_F} {x0 : Int} {x1 : Int} {x3 : Int} {ρ : Int} {Fz : pd_F} (hf : pfX4_fromEstate sh n F x0 x1 x3 = some (ρ, Fz)) : pd_C l yX4_fromEstate (Cond.code yX4_fromEstate cX4_fromEstate 13 (some .long) :: pd_gt) (pd_rm 6 0 0) al 0 0 sh F [pd_R x0, pd_J x1, pd_I x3] (some (pd_J ρ)) sh Fz := by
  unfold pfX4_fromEstate at hf
  refine pd_body (L := [pd_R x0, pd_J x1, pd_N, pd_I x3, pd_N, pd_N, pd_N, pd_N, pd_N, pd_N, pd_N, pd_N, pd_N]) (by decide +kernel) (Nat.le_of_ble_eq_true rfl) rfl (fun E => ?_)
  refine pd_aload_n (i := 0) dX4_fromEstate_0 rfl rfl ?_
  obtain ⟨hg9, hf⟩ := pd_ig hf
  refine pd_get (x := pd_R (F x0 4)) 4 dX4_fromEstate_1 (show vwCl[4]? = some (RX4, TX4, 7) from rfl) pin_4 (by decide) pq_560 hg9 rfl ?_
  refine pd_iload_n (i := 3) dX4_fromEstate_4 rfl rfl ?_
  obtain ⟨hg10, hf⟩ := pd_ig hf
  refine pd_zald dX4_fromEstate_5 hg10 ?_
  refine pd_topI (fun x4_6 ex4_6 => ?_)
  have hf := pd_lt hf ex4_6
  clear ex4_6
  refine pd_istore (L' := [pd_R x0, pd_J x1, pd_N, pd_I x3, pd_I x4_6, pd_N, pd_N, pd_N, pd_N, pd_N, pd_N, pd_N, pd_N]) dX4_fromEstate_6 (by decide) rfl ?_
  refine pd_lload_n (i := 1) dX4_fromEstate_8 rfl rfl ?_
  refine pd_aload_n (i := 0) dX4_fromEstate_9 rfl rfl ?_
  obtain ⟨r12, F11, hr, hf⟩ := pd_ob2 hf
  refine pd_callV (pkX4_paidTogether l hr) dX4_fromEstate_10 pq_612 pq_615 pq_616 (show vwCl[4]? = some (yX4_paidTogether.cls, TX4, 7) from rfl) hg9 (pd_okm (by omega) (by decide) pq_613 pq_614 (by decide) (show (parseMethodDescriptor yX4_paidTogether.desc).map (fun d => d.parameters.length) = some 0 from by decide +kernel)) (Nat.le_of_ble_eq_true rfl) rfl ?_
  refine pd_lsub dX4_fromEstate_13 ?_
  refine pd_topJ (fun x5_14 ex5_14 => ?_)
  have hf := pd_lt hf ex5_14
  clear ex5_14
  refine pd_lstore (L' := [pd_R x0, pd_J x1, pd_N, pd_I x3, pd_I x4_6, pd_J x5_14, pd_N, pd_N, pd_N, pd_N, pd_N, pd_N, pd_N]) dX4_fromEstate_14 (by decide) rfl ?_
  refine pd_iload (i := 4) dX4_fromEstate_16 rfl ?_
  refine pd_if_eq (tgt := 31) dX4_fromEstate_18 (by decide) (fun hc => ?_) (fun hc => ?_)
  · have hf := pd_ip hf hc
    exact pd_weak (L' := [pd_R x0, pd_N, pd_N, pd_I x3, pd_I x4_6, pd_J x5_14, pd_N, pd_N, pd_N, pd_N, pd_N, pd_N, pd_N]) ⟨Or.inr rfl, Or.inl rfl, Or.inr rfl, Or.inr rfl, Or.inr rfl, Or.inr rfl, Or.inr rfl, Or.inr rfl, Or.inr rfl, Or.inr rfl, Or.inr rfl, Or.inr rfl, Or.inr rfl, trivial⟩ (pkX4_fromEstate_b31 E l _ _ _ _ _ hf)
  · have hf := pd_in_ hf hc
    refine pd_lload (i := 5) dX4_fromEstate_21 rfl ?_
    refine pd_aload_n (i := 0) dX4_fromEstate_23 rfl rfl ?_
    refine pd_iconst dX4_fromEstate_24 (by decide) ?_
    obtain ⟨r14, F13, hr, hf⟩ := pd_ob2 hf
    refine pd_callV (pkX4_claimsOf l hr) dX4_fromEstate_25 pq_607 pq_610 pq_611 (show vwCl[4]? = some (yX4_claimsOf.cls, TX4, 7) from rfl) hg9 (pd_okm (by omega) (by decide) pq_608 pq_609 (by decide) (show (parseMethodDescriptor yX4_claimsOf.desc).map (fun d => d.parameters.length) = some 1 from by decide +kernel)) (Nat.le_of_ble_eq_true rfl) rfl ?_
    refine pd_lsub dX4_fromEstate_28 ?_
    refine pd_topJ (fun x5_29 ex5_29 => ?_)
    have hf := pd_lt hf ex5_29
    clear ex5_29
    refine pd_lstore (L' := [pd_R x0, pd_J x1, pd_N, pd_I x3, pd_I x4_6, pd_J x5_29, pd_N, pd_N, pd_N, pd_N, pd_N, pd_N, pd_N]) dX4_fromEstate_29 (by decide) rfl ?_
    exact pd_weak (L' := [pd_R x0, pd_N, pd_N, pd_I x3, pd_I x4_6, pd_J x5_29, pd_N, pd_N, pd_N, pd_N, pd_N, pd_N, pd_N]) ⟨Or.inr rfl, Or.inl rfl, Or.inr rfl, Or.inr rfl, Or.inr rfl, Or.inr rfl, Or.inr rfl, Or.inr rfl, Or.inr rfl, Or.inr rfl, Or.inr rfl, Or.inr rfl, Or.inr rfl, trivial⟩ (pkX4_fromEstate_b31 E l _ _ _ _ _ hf)
