theorem dX9_init_0 : decode cX9_init 0 = .ok (.aload_n 0, 1) := by decide +kernel
theorem dX9_init_1 : decode cX9_init 1 = .ok (.invokespecial 3, 3) := by decide +kernel
theorem dX9_init_4 : decode cX9_init 4 = .ok (.aload_n 0, 1) := by decide +kernel
theorem dX9_init_5 : decode cX9_init 5 = .ok (.sipush 1000, 3) := by decide +kernel
theorem dX9_init_8 : decode cX9_init 8 = .ok (.newarray .byte, 2) := by decide +kernel
theorem dX9_init_10 : decode cX9_init 10 = .ok (.putfield 9, 3) := by decide +kernel
theorem dX9_init_13 : decode cX9_init 13 = .ok (.return_, 1) := by decide +kernel
theorem dX1_init_0 : decode cX1_init 0 = .ok (.aload_n 0, 1) := by decide +kernel
theorem dX1_init_1 : decode cX1_init 1 = .ok (.invokespecial 1, 3) := by decide +kernel
theorem dX1_init_4 : decode cX1_init 4 = .ok (.return_, 1) := by decide +kernel
theorem dX5_init_0 : decode cX5_init 0 = .ok (.aload_n 0, 1) := by decide +kernel
theorem dX5_init_1 : decode cX5_init 1 = .ok (.invokespecial 3, 3) := by decide +kernel
theorem dX5_init_4 : decode cX5_init 4 = .ok (.aload_n 0, 1) := by decide +kernel
theorem dX5_init_5 : decode cX5_init 5 = .ok (.iconst 3, 1) := by decide +kernel
theorem dX5_init_6 : decode cX5_init 6 = .ok (.newarray .int, 2) := by decide +kernel
theorem dX5_init_8 : decode cX5_init 8 = .ok (.putfield 9, 3) := by decide +kernel
theorem dX5_init_11 : decode cX5_init 11 = .ok (.return_, 1) := by decide +kernel
theorem dX2_init_0 : decode cX2_init 0 = .ok (.aload_n 0, 1) := by decide +kernel
theorem dX2_init_1 : decode cX2_init 1 = .ok (.invokespecial 3, 3) := by decide +kernel
theorem dX2_init_4 : decode cX2_init 4 = .ok (.aload_n 0, 1) := by decide +kernel
theorem dX2_init_5 : decode cX2_init 5 = .ok (.iconst 5, 1) := by decide +kernel
theorem dX2_init_6 : decode cX2_init 6 = .ok (.newarray .int, 2) := by decide +kernel
theorem dX2_init_8 : decode cX2_init 8 = .ok (.putfield 9, 3) := by decide +kernel
theorem dX2_init_11 : decode cX2_init 11 = .ok (.aload_n 0, 1) := by decide +kernel
theorem dX2_init_12 : decode cX2_init 12 = .ok (.iconst 5, 1) := by decide +kernel
theorem dX2_init_13 : decode cX2_init 13 = .ok (.newarray .int, 2) := by decide +kernel
theorem dX2_init_15 : decode cX2_init 15 = .ok (.putfield 15, 3) := by decide +kernel
theorem dX2_init_18 : decode cX2_init 18 = .ok (.aload_n 0, 1) := by decide +kernel
theorem dX2_init_19 : decode cX2_init 19 = .ok (.bipush 12, 2) := by decide +kernel
theorem dX2_init_21 : decode cX2_init 21 = .ok (.newarray .int, 2) := by decide +kernel
theorem dX2_init_23 : decode cX2_init 23 = .ok (.putfield 18, 3) := by decide +kernel
theorem dX2_init_26 : decode cX2_init 26 = .ok (.return_, 1) := by decide +kernel
theorem dX8_init_0 : decode cX8_init 0 = .ok (.aload_n 0, 1) := by decide +kernel
theorem dX8_init_1 : decode cX8_init 1 = .ok (.invokespecial 3, 3) := by decide +kernel
theorem dX8_init_4 : decode cX8_init 4 = .ok (.aload_n 0, 1) := by decide +kernel
theorem dX8_init_5 : decode cX8_init 5 = .ok (.bipush 10, 2) := by decide +kernel
theorem dX8_init_7 : decode cX8_init 7 = .ok (.newarray .int, 2) := by decide +kernel
theorem dX8_init_9 : decode cX8_init 9 = .ok (.putfield 9, 3) := by decide +kernel
theorem dX8_init_12 : decode cX8_init 12 = .ok (.aload_n 0, 1) := by decide +kernel
theorem dX8_init_13 : decode cX8_init 13 = .ok (.iconst 3, 1) := by decide +kernel
theorem dX8_init_14 : decode cX8_init 14 = .ok (.newarray .int, 2) := by decide +kernel
theorem dX8_init_16 : decode cX8_init 16 = .ok (.putfield 15, 3) := by decide +kernel
theorem dX8_init_19 : decode cX8_init 19 = .ok (.aload_n 0, 1) := by decide +kernel
theorem dX8_init_20 : decode cX8_init 20 = .ok (.bipush 31, 2) := by decide +kernel
theorem dX8_init_22 : decode cX8_init 22 = .ok (.newarray .int, 2) := by decide +kernel
theorem dX8_init_24 : decode cX8_init 24 = .ok (.putfield 18, 3) := by decide +kernel
theorem dX8_init_27 : decode cX8_init 27 = .ok (.aload_n 0, 1) := by decide +kernel
theorem dX8_init_28 : decode cX8_init 28 = .ok (.bipush 31, 2) := by decide +kernel
theorem dX8_init_30 : decode cX8_init 30 = .ok (.newarray .int, 2) := by decide +kernel
theorem dX8_init_32 : decode cX8_init 32 = .ok (.putfield 21, 3) := by decide +kernel
theorem dX8_init_35 : decode cX8_init 35 = .ok (.aload_n 0, 1) := by decide +kernel
theorem dX8_init_36 : decode cX8_init 36 = .ok (.getfield 15, 3) := by decide +kernel
theorem dX8_init_39 : decode cX8_init 39 = .ok (.iconst 1, 1) := by decide +kernel
theorem dX8_init_40 : decode cX8_init 40 = .ok (.ldc 24, 2) := by decide +kernel
theorem dX8_init_42 : decode cX8_init 42 = .ok (.iastore, 1) := by decide +kernel
theorem dX8_init_43 : decode cX8_init 43 = .ok (.aload_n 0, 1) := by decide +kernel
theorem dX8_init_44 : decode cX8_init 44 = .ok (.getfield 15, 3) := by decide +kernel
theorem dX8_init_47 : decode cX8_init 47 = .ok (.iconst 2, 1) := by decide +kernel
theorem dX8_init_48 : decode cX8_init 48 = .ok (.ldc 25, 2) := by decide +kernel
theorem dX8_init_50 : decode cX8_init 50 = .ok (.iastore, 1) := by decide +kernel
theorem dX8_init_51 : decode cX8_init 51 = .ok (.return_, 1) := by decide +kernel
theorem dX0_init_0 : decode cX0_init 0 = .ok (.aload_n 0, 1) := by decide +kernel
theorem dX0_init_1 : decode cX0_init 1 = .ok (.invokespecial 3, 3) := by decide +kernel
theorem dX0_init_4 : decode cX0_init 4 = .ok (.aload_n 0, 1) := by decide +kernel
theorem dX0_init_5 : decode cX0_init 5 = .ok (.bipush 12, 2) := by decide +kernel
theorem dX0_init_7 : decode cX0_init 7 = .ok (.anewarray 9, 3) := by decide +kernel
theorem dX0_init_10 : decode cX0_init 10 = .ok (.putfield 11, 3) := by decide +kernel
theorem dX0_init_13 : decode cX0_init 13 = .ok (.aload_n 0, 1) := by decide +kernel
theorem dX0_init_14 : decode cX0_init 14 = .ok (.iconst 5, 1) := by decide +kernel
theorem dX0_init_15 : decode cX0_init 15 = .ok (.anewarray 17, 3) := by decide +kernel
theorem dX0_init_18 : decode cX0_init 18 = .ok (.putfield 19, 3) := by decide +kernel
theorem dX0_init_21 : decode cX0_init 21 = .ok (.aload_n 0, 1) := by decide +kernel
theorem dX0_init_22 : decode cX0_init 22 = .ok (.bipush 10, 2) := by decide +kernel
theorem dX0_init_24 : decode cX0_init 24 = .ok (.anewarray 17, 3) := by decide +kernel
theorem dX0_init_27 : decode cX0_init 27 = .ok (.putfield 23, 3) := by decide +kernel
theorem dX0_init_30 : decode cX0_init 30 = .ok (.aload_n 0, 1) := by decide +kernel
theorem dX0_init_31 : decode cX0_init 31 = .ok (.bipush 10, 2) := by decide +kernel
theorem dX0_init_33 : decode cX0_init 33 = .ok (.newarray .int, 2) := by decide +kernel
theorem dX0_init_35 : decode cX0_init 35 = .ok (.putfield 26, 3) := by decide +kernel
theorem dX0_init_38 : decode cX0_init 38 = .ok (.aload_n 0, 1) := by decide +kernel
theorem dX0_init_39 : decode cX0_init 39 = .ok (.bipush 6, 2) := by decide +kernel
theorem dX0_init_41 : decode cX0_init 41 = .ok (.anewarray 30, 3) := by decide +kernel
theorem dX0_init_44 : decode cX0_init 44 = .ok (.putfield 32, 3) := by decide +kernel
theorem dX0_init_47 : decode cX0_init 47 = .ok (.aload_n 0, 1) := by decide +kernel
theorem dX0_init_48 : decode cX0_init 48 = .ok (.bipush 8, 2) := by decide +kernel
theorem dX0_init_50 : decode cX0_init 50 = .ok (.anewarray 30, 3) := by decide +kernel
theorem dX0_init_53 : decode cX0_init 53 = .ok (.putfield 36, 3) := by decide +kernel
theorem dX0_init_56 : decode cX0_init 56 = .ok (.aload_n 0, 1) := by decide +kernel
theorem dX0_init_57 : decode cX0_init 57 = .ok (.iconst 3, 1) := by decide +kernel
theorem dX0_init_58 : decode cX0_init 58 = .ok (.newarray .int, 2) := by decide +kernel
theorem dX0_init_60 : decode cX0_init 60 = .ok (.putfield 39, 3) := by decide +kernel
theorem dX0_init_63 : decode cX0_init 63 = .ok (.aload_n 0, 1) := by decide +kernel
theorem dX0_init_64 : decode cX0_init 64 = .ok (.bipush 36, 2) := by decide +kernel
theorem dX0_init_66 : decode cX0_init 66 = .ok (.newarray .int, 2) := by decide +kernel
theorem dX0_init_68 : decode cX0_init 68 = .ok (.putfield 42, 3) := by decide +kernel
theorem dX0_init_71 : decode cX0_init 71 = .ok (.aload_n 0, 1) := by decide +kernel
theorem dX0_init_72 : decode cX0_init 72 = .ok (.bipush 36, 2) := by decide +kernel
theorem dX0_init_74 : decode cX0_init 74 = .ok (.newarray .int, 2) := by decide +kernel
theorem dX0_init_76 : decode cX0_init 76 = .ok (.putfield 45, 3) := by decide +kernel
theorem dX0_init_79 : decode cX0_init 79 = .ok (.iconst 0, 1) := by decide +kernel
theorem dX0_init_80 : decode cX0_init 80 = .ok (.istore_n 1, 1) := by decide +kernel
theorem dX0_init_81 : decode cX0_init 81 = .ok (.iload_n 1, 1) := by decide +kernel
theorem dX0_init_82 : decode cX0_init 82 = .ok (.aload_n 0, 1) := by decide +kernel
theorem dX0_init_83 : decode cX0_init 83 = .ok (.getfield 11, 3) := by decide +kernel
theorem dX0_init_86 : decode cX0_init 86 = .ok (.arraylength, 1) := by decide +kernel
theorem dX0_init_87 : decode cX0_init 87 = .ok (.if_icmp .ge 22, 3) := by decide +kernel
theorem dX0_init_90 : decode cX0_init 90 = .ok (.aload_n 0, 1) := by decide +kernel
theorem dX0_init_91 : decode cX0_init 91 = .ok (.getfield 11, 3) := by decide +kernel
theorem dX0_init_94 : decode cX0_init 94 = .ok (.iload_n 1, 1) := by decide +kernel
theorem dX0_init_95 : decode cX0_init 95 = .ok (.new 9, 3) := by decide +kernel
theorem dX0_init_98 : decode cX0_init 98 = .ok (.dup, 1) := by decide +kernel
theorem dX0_init_99 : decode cX0_init 99 = .ok (.invokespecial 48, 3) := by decide +kernel
theorem dX0_init_102 : decode cX0_init 102 = .ok (.aastore, 1) := by decide +kernel
theorem dX0_init_103 : decode cX0_init 103 = .ok (.iinc 1 1, 3) := by decide +kernel
theorem dX0_init_106 : decode cX0_init 106 = .ok (.goto (-25), 3) := by decide +kernel
theorem dX0_init_109 : decode cX0_init 109 = .ok (.iconst 0, 1) := by decide +kernel
theorem dX0_init_110 : decode cX0_init 110 = .ok (.istore_n 1, 1) := by decide +kernel
theorem dX0_init_111 : decode cX0_init 111 = .ok (.iload_n 1, 1) := by decide +kernel
theorem dX0_init_112 : decode cX0_init 112 = .ok (.aload_n 0, 1) := by decide +kernel
theorem dX0_init_113 : decode cX0_init 113 = .ok (.getfield 19, 3) := by decide +kernel
theorem dX0_init_116 : decode cX0_init 116 = .ok (.arraylength, 1) := by decide +kernel
theorem dX0_init_117 : decode cX0_init 117 = .ok (.if_icmp .ge 22, 3) := by decide +kernel
theorem dX0_init_120 : decode cX0_init 120 = .ok (.aload_n 0, 1) := by decide +kernel
theorem dX0_init_121 : decode cX0_init 121 = .ok (.getfield 19, 3) := by decide +kernel
theorem dX0_init_124 : decode cX0_init 124 = .ok (.iload_n 1, 1) := by decide +kernel
theorem dX0_init_125 : decode cX0_init 125 = .ok (.new 17, 3) := by decide +kernel
theorem dX0_init_128 : decode cX0_init 128 = .ok (.dup, 1) := by decide +kernel
theorem dX0_init_129 : decode cX0_init 129 = .ok (.invokespecial 49, 3) := by decide +kernel
theorem dX0_init_132 : decode cX0_init 132 = .ok (.aastore, 1) := by decide +kernel
theorem dX0_init_133 : decode cX0_init 133 = .ok (.iinc 1 1, 3) := by decide +kernel
theorem dX0_init_136 : decode cX0_init 136 = .ok (.goto (-25), 3) := by decide +kernel
theorem dX0_init_139 : decode cX0_init 139 = .ok (.iconst 0, 1) := by decide +kernel
theorem dX0_init_140 : decode cX0_init 140 = .ok (.istore_n 1, 1) := by decide +kernel
theorem dX0_init_141 : decode cX0_init 141 = .ok (.iload_n 1, 1) := by decide +kernel
theorem dX0_init_142 : decode cX0_init 142 = .ok (.aload_n 0, 1) := by decide +kernel
theorem dX0_init_143 : decode cX0_init 143 = .ok (.getfield 23, 3) := by decide +kernel
theorem dX0_init_146 : decode cX0_init 146 = .ok (.arraylength, 1) := by decide +kernel
theorem dX0_init_147 : decode cX0_init 147 = .ok (.if_icmp .ge 22, 3) := by decide +kernel
theorem dX0_init_150 : decode cX0_init 150 = .ok (.aload_n 0, 1) := by decide +kernel
theorem dX0_init_151 : decode cX0_init 151 = .ok (.getfield 23, 3) := by decide +kernel
theorem dX0_init_154 : decode cX0_init 154 = .ok (.iload_n 1, 1) := by decide +kernel
theorem dX0_init_155 : decode cX0_init 155 = .ok (.new 17, 3) := by decide +kernel
theorem dX0_init_158 : decode cX0_init 158 = .ok (.dup, 1) := by decide +kernel
theorem dX0_init_159 : decode cX0_init 159 = .ok (.invokespecial 49, 3) := by decide +kernel
theorem dX0_init_162 : decode cX0_init 162 = .ok (.aastore, 1) := by decide +kernel
theorem dX0_init_163 : decode cX0_init 163 = .ok (.iinc 1 1, 3) := by decide +kernel
theorem dX0_init_166 : decode cX0_init 166 = .ok (.goto (-25), 3) := by decide +kernel
theorem dX0_init_169 : decode cX0_init 169 = .ok (.iconst 0, 1) := by decide +kernel
theorem dX0_init_170 : decode cX0_init 170 = .ok (.istore_n 1, 1) := by decide +kernel
theorem dX0_init_171 : decode cX0_init 171 = .ok (.iload_n 1, 1) := by decide +kernel
theorem dX0_init_172 : decode cX0_init 172 = .ok (.aload_n 0, 1) := by decide +kernel
theorem dX0_init_173 : decode cX0_init 173 = .ok (.getfield 32, 3) := by decide +kernel
theorem dX0_init_176 : decode cX0_init 176 = .ok (.arraylength, 1) := by decide +kernel
theorem dX0_init_177 : decode cX0_init 177 = .ok (.if_icmp .ge 22, 3) := by decide +kernel
theorem dX0_init_180 : decode cX0_init 180 = .ok (.aload_n 0, 1) := by decide +kernel
theorem dX0_init_181 : decode cX0_init 181 = .ok (.getfield 32, 3) := by decide +kernel
theorem dX0_init_184 : decode cX0_init 184 = .ok (.iload_n 1, 1) := by decide +kernel
theorem dX0_init_185 : decode cX0_init 185 = .ok (.new 30, 3) := by decide +kernel
theorem dX0_init_188 : decode cX0_init 188 = .ok (.dup, 1) := by decide +kernel
theorem dX0_init_189 : decode cX0_init 189 = .ok (.invokespecial 50, 3) := by decide +kernel
theorem dX0_init_192 : decode cX0_init 192 = .ok (.aastore, 1) := by decide +kernel
theorem dX0_init_193 : decode cX0_init 193 = .ok (.iinc 1 1, 3) := by decide +kernel
theorem dX0_init_196 : decode cX0_init 196 = .ok (.goto (-25), 3) := by decide +kernel
theorem dX0_init_199 : decode cX0_init 199 = .ok (.iconst 0, 1) := by decide +kernel
theorem dX0_init_200 : decode cX0_init 200 = .ok (.istore_n 1, 1) := by decide +kernel
theorem dX0_init_201 : decode cX0_init 201 = .ok (.iload_n 1, 1) := by decide +kernel
theorem dX0_init_202 : decode cX0_init 202 = .ok (.aload_n 0, 1) := by decide +kernel
theorem dX0_init_203 : decode cX0_init 203 = .ok (.getfield 36, 3) := by decide +kernel
theorem dX0_init_206 : decode cX0_init 206 = .ok (.arraylength, 1) := by decide +kernel
theorem dX0_init_207 : decode cX0_init 207 = .ok (.if_icmp .ge 22, 3) := by decide +kernel
theorem dX0_init_210 : decode cX0_init 210 = .ok (.aload_n 0, 1) := by decide +kernel
theorem dX0_init_211 : decode cX0_init 211 = .ok (.getfield 36, 3) := by decide +kernel
theorem dX0_init_214 : decode cX0_init 214 = .ok (.iload_n 1, 1) := by decide +kernel
theorem dX0_init_215 : decode cX0_init 215 = .ok (.new 30, 3) := by decide +kernel
theorem dX0_init_218 : decode cX0_init 218 = .ok (.dup, 1) := by decide +kernel
theorem dX0_init_219 : decode cX0_init 219 = .ok (.invokespecial 50, 3) := by decide +kernel
theorem dX0_init_222 : decode cX0_init 222 = .ok (.aastore, 1) := by decide +kernel
theorem dX0_init_223 : decode cX0_init 223 = .ok (.iinc 1 1, 3) := by decide +kernel
theorem dX0_init_226 : decode cX0_init 226 = .ok (.goto (-25), 3) := by decide +kernel
theorem dX0_init_229 : decode cX0_init 229 = .ok (.return_, 1) := by decide +kernel
theorem dX3_init_0 : decode cX3_init 0 = .ok (.aload_n 0, 1) := by decide +kernel
theorem dX3_init_1 : decode cX3_init 1 = .ok (.invokespecial 3, 3) := by decide +kernel
theorem dX3_init_4 : decode cX3_init 4 = .ok (.aload_n 0, 1) := by decide +kernel
theorem dX3_init_5 : decode cX3_init 5 = .ok (.bipush 16, 2) := by decide +kernel
theorem dX3_init_7 : decode cX3_init 7 = .ok (.anewarray 9, 3) := by decide +kernel
theorem dX3_init_10 : decode cX3_init 10 = .ok (.putfield 11, 3) := by decide +kernel
theorem dX3_init_13 : decode cX3_init 13 = .ok (.aload_n 0, 1) := by decide +kernel
theorem dX3_init_14 : decode cX3_init 14 = .ok (.iconst 3, 1) := by decide +kernel
theorem dX3_init_15 : decode cX3_init 15 = .ok (.anewarray 9, 3) := by decide +kernel
theorem dX3_init_18 : decode cX3_init 18 = .ok (.putfield 17, 3) := by decide +kernel
theorem dX3_init_21 : decode cX3_init 21 = .ok (.aload_n 0, 1) := by decide +kernel
theorem dX3_init_22 : decode cX3_init 22 = .ok (.iconst 3, 1) := by decide +kernel
theorem dX3_init_23 : decode cX3_init 23 = .ok (.newarray .boolean, 2) := by decide +kernel
theorem dX3_init_25 : decode cX3_init 25 = .ok (.putfield 20, 3) := by decide +kernel
theorem dX3_init_28 : decode cX3_init 28 = .ok (.iconst 0, 1) := by decide +kernel
theorem dX3_init_29 : decode cX3_init 29 = .ok (.istore_n 1, 1) := by decide +kernel
theorem dX3_init_30 : decode cX3_init 30 = .ok (.iload_n 1, 1) := by decide +kernel
theorem dX3_init_31 : decode cX3_init 31 = .ok (.aload_n 0, 1) := by decide +kernel
theorem dX3_init_32 : decode cX3_init 32 = .ok (.getfield 11, 3) := by decide +kernel
theorem dX3_init_35 : decode cX3_init 35 = .ok (.arraylength, 1) := by decide +kernel
theorem dX3_init_36 : decode cX3_init 36 = .ok (.if_icmp .ge 22, 3) := by decide +kernel
theorem dX3_init_39 : decode cX3_init 39 = .ok (.aload_n 0, 1) := by decide +kernel
theorem dX3_init_40 : decode cX3_init 40 = .ok (.getfield 11, 3) := by decide +kernel
theorem dX3_init_43 : decode cX3_init 43 = .ok (.iload_n 1, 1) := by decide +kernel
theorem dX3_init_44 : decode cX3_init 44 = .ok (.new 9, 3) := by decide +kernel
theorem dX3_init_47 : decode cX3_init 47 = .ok (.dup, 1) := by decide +kernel
theorem dX3_init_48 : decode cX3_init 48 = .ok (.invokespecial 24, 3) := by decide +kernel
theorem dX3_init_51 : decode cX3_init 51 = .ok (.aastore, 1) := by decide +kernel
theorem dX3_init_52 : decode cX3_init 52 = .ok (.iinc 1 1, 3) := by decide +kernel
theorem dX3_init_55 : decode cX3_init 55 = .ok (.goto (-25), 3) := by decide +kernel
theorem dX3_init_58 : decode cX3_init 58 = .ok (.iconst 0, 1) := by decide +kernel
theorem dX3_init_59 : decode cX3_init 59 = .ok (.istore_n 1, 1) := by decide +kernel
theorem dX3_init_60 : decode cX3_init 60 = .ok (.iload_n 1, 1) := by decide +kernel
theorem dX3_init_61 : decode cX3_init 61 = .ok (.aload_n 0, 1) := by decide +kernel
theorem dX3_init_62 : decode cX3_init 62 = .ok (.getfield 17, 3) := by decide +kernel
theorem dX3_init_65 : decode cX3_init 65 = .ok (.arraylength, 1) := by decide +kernel
theorem dX3_init_66 : decode cX3_init 66 = .ok (.if_icmp .ge 22, 3) := by decide +kernel
theorem dX3_init_69 : decode cX3_init 69 = .ok (.aload_n 0, 1) := by decide +kernel
theorem dX3_init_70 : decode cX3_init 70 = .ok (.getfield 17, 3) := by decide +kernel
theorem dX3_init_73 : decode cX3_init 73 = .ok (.iload_n 1, 1) := by decide +kernel
theorem dX3_init_74 : decode cX3_init 74 = .ok (.new 9, 3) := by decide +kernel
theorem dX3_init_77 : decode cX3_init 77 = .ok (.dup, 1) := by decide +kernel
theorem dX3_init_78 : decode cX3_init 78 = .ok (.invokespecial 24, 3) := by decide +kernel
theorem dX3_init_81 : decode cX3_init 81 = .ok (.aastore, 1) := by decide +kernel
theorem dX3_init_82 : decode cX3_init 82 = .ok (.iinc 1 1, 3) := by decide +kernel
theorem dX3_init_85 : decode cX3_init 85 = .ok (.goto (-25), 3) := by decide +kernel
theorem dX3_init_88 : decode cX3_init 88 = .ok (.return_, 1) := by decide +kernel
theorem dX6_init_0 : decode cX6_init 0 = .ok (.aload_n 0, 1) := by decide +kernel
theorem dX6_init_1 : decode cX6_init 1 = .ok (.invokespecial 3, 3) := by decide +kernel
theorem dX6_init_4 : decode cX6_init 4 = .ok (.aload_n 0, 1) := by decide +kernel
theorem dX6_init_5 : decode cX6_init 5 = .ok (.new 9, 3) := by decide +kernel
theorem dX6_init_8 : decode cX6_init 8 = .ok (.dup, 1) := by decide +kernel
theorem dX6_init_9 : decode cX6_init 9 = .ok (.invokespecial 11, 3) := by decide +kernel
theorem dX6_init_12 : decode cX6_init 12 = .ok (.putfield 12, 3) := by decide +kernel
theorem dX6_init_15 : decode cX6_init 15 = .ok (.aload_n 0, 1) := by decide +kernel
theorem dX6_init_16 : decode cX6_init 16 = .ok (.new 18, 3) := by decide +kernel
theorem dX6_init_19 : decode cX6_init 19 = .ok (.dup, 1) := by decide +kernel
theorem dX6_init_20 : decode cX6_init 20 = .ok (.invokespecial 20, 3) := by decide +kernel
theorem dX6_init_23 : decode cX6_init 23 = .ok (.putfield 21, 3) := by decide +kernel
theorem dX6_init_26 : decode cX6_init 26 = .ok (.return_, 1) := by decide +kernel
theorem dX7_init_0 : decode cX7_init 0 = .ok (.aload_n 0, 1) := by decide +kernel
theorem dX7_init_1 : decode cX7_init 1 = .ok (.invokespecial 3, 3) := by decide +kernel
theorem dX7_init_4 : decode cX7_init 4 = .ok (.aload_n 0, 1) := by decide +kernel
theorem dX7_init_5 : decode cX7_init 5 = .ok (.bipush 10, 2) := by decide +kernel
theorem dX7_init_7 : decode cX7_init 7 = .ok (.bipush 12, 2) := by decide +kernel
theorem dX7_init_9 : decode cX7_init 9 = .ok (.multianewarray 9 2, 4) := by decide +kernel
theorem dX7_init_13 : decode cX7_init 13 = .ok (.putfield 11, 3) := by decide +kernel
theorem dX7_init_16 : decode cX7_init 16 = .ok (.aload_n 0, 1) := by decide +kernel
theorem dX7_init_17 : decode cX7_init 17 = .ok (.bipush 6, 2) := by decide +kernel
theorem dX7_init_19 : decode cX7_init 19 = .ok (.bipush 12, 2) := by decide +kernel
theorem dX7_init_21 : decode cX7_init 21 = .ok (.multianewarray 9 2, 4) := by decide +kernel
theorem dX7_init_25 : decode cX7_init 25 = .ok (.putfield 16, 3) := by decide +kernel
theorem dX7_init_28 : decode cX7_init 28 = .ok (.return_, 1) := by decide +kernel
theorem dX10_init_0 : decode cX10_init 0 = .ok (.aload_n 0, 1) := by decide +kernel
theorem dX10_init_1 : decode cX10_init 1 = .ok (.invokespecial 3, 3) := by decide +kernel
theorem dX10_init_4 : decode cX10_init 4 = .ok (.aload_n 0, 1) := by decide +kernel
theorem dX10_init_5 : decode cX10_init 5 = .ok (.bipush 12, 2) := by decide +kernel
theorem dX10_init_7 : decode cX10_init 7 = .ok (.newarray .int, 2) := by decide +kernel
theorem dX10_init_9 : decode cX10_init 9 = .ok (.putfield 9, 3) := by decide +kernel
theorem dX10_init_12 : decode cX10_init 12 = .ok (.aload_n 0, 1) := by decide +kernel
theorem dX10_init_13 : decode cX10_init 13 = .ok (.bipush 12, 2) := by decide +kernel
theorem dX10_init_15 : decode cX10_init 15 = .ok (.newarray .int, 2) := by decide +kernel
theorem dX10_init_17 : decode cX10_init 17 = .ok (.putfield 15, 3) := by decide +kernel
theorem dX10_init_20 : decode cX10_init 20 = .ok (.aload_n 0, 1) := by decide +kernel
theorem dX10_init_21 : decode cX10_init 21 = .ok (.bipush 12, 2) := by decide +kernel
theorem dX10_init_23 : decode cX10_init 23 = .ok (.newarray .int, 2) := by decide +kernel
theorem dX10_init_25 : decode cX10_init 25 = .ok (.putfield 18, 3) := by decide +kernel
theorem dX10_init_28 : decode cX10_init 28 = .ok (.return_, 1) := by decide +kernel
theorem dX4_init_0 : decode cX4_init 0 = .ok (.aload_n 0, 1) := by decide +kernel
theorem dX4_init_1 : decode cX4_init 1 = .ok (.invokespecial 3, 3) := by decide +kernel
theorem dX4_init_4 : decode cX4_init 4 = .ok (.aload_n 0, 1) := by decide +kernel
theorem dX4_init_5 : decode cX4_init 5 = .ok (.new 9, 3) := by decide +kernel
theorem dX4_init_8 : decode cX4_init 8 = .ok (.dup, 1) := by decide +kernel
theorem dX4_init_9 : decode cX4_init 9 = .ok (.invokespecial 11, 3) := by decide +kernel
theorem dX4_init_12 : decode cX4_init 12 = .ok (.putfield 12, 3) := by decide +kernel
theorem dX4_init_15 : decode cX4_init 15 = .ok (.aload_n 0, 1) := by decide +kernel
theorem dX4_init_16 : decode cX4_init 16 = .ok (.bipush 12, 2) := by decide +kernel
theorem dX4_init_18 : decode cX4_init 18 = .ok (.newarray .long, 2) := by decide +kernel
theorem dX4_init_20 : decode cX4_init 20 = .ok (.putfield 18, 3) := by decide +kernel
theorem dX4_init_23 : decode cX4_init 23 = .ok (.aload_n 0, 1) := by decide +kernel
theorem dX4_init_24 : decode cX4_init 24 = .ok (.bipush 12, 2) := by decide +kernel
theorem dX4_init_26 : decode cX4_init 26 = .ok (.newarray .long, 2) := by decide +kernel
theorem dX4_init_28 : decode cX4_init 28 = .ok (.putfield 22, 3) := by decide +kernel
theorem dX4_init_31 : decode cX4_init 31 = .ok (.aload_n 0, 1) := by decide +kernel
theorem dX4_init_32 : decode cX4_init 32 = .ok (.bipush 12, 2) := by decide +kernel
theorem dX4_init_34 : decode cX4_init 34 = .ok (.newarray .long, 2) := by decide +kernel
theorem dX4_init_36 : decode cX4_init 36 = .ok (.putfield 25, 3) := by decide +kernel
theorem dX4_init_39 : decode cX4_init 39 = .ok (.aload_n 0, 1) := by decide +kernel
theorem dX4_init_40 : decode cX4_init 40 = .ok (.bipush 12, 2) := by decide +kernel
theorem dX4_init_42 : decode cX4_init 42 = .ok (.newarray .boolean, 2) := by decide +kernel
theorem dX4_init_44 : decode cX4_init 44 = .ok (.putfield 28, 3) := by decide +kernel
theorem dX4_init_47 : decode cX4_init 47 = .ok (.return_, 1) := by decide +kernel
theorem dX11_init_0 : decode cX11_init 0 = .ok (.aload_n 0, 1) := by decide +kernel
theorem dX11_init_1 : decode cX11_init 1 = .ok (.invokespecial 3, 3) := by decide +kernel
theorem dX11_init_4 : decode cX11_init 4 = .ok (.aload_n 0, 1) := by decide +kernel
theorem dX11_init_5 : decode cX11_init 5 = .ok (.new 9, 3) := by decide +kernel
theorem dX11_init_8 : decode cX11_init 8 = .ok (.dup, 1) := by decide +kernel
theorem dX11_init_9 : decode cX11_init 9 = .ok (.invokespecial 11, 3) := by decide +kernel
theorem dX11_init_12 : decode cX11_init 12 = .ok (.putfield 12, 3) := by decide +kernel
theorem dX11_init_15 : decode cX11_init 15 = .ok (.aload_n 0, 1) := by decide +kernel
theorem dX11_init_16 : decode cX11_init 16 = .ok (.aload_n 0, 1) := by decide +kernel
theorem dX11_init_17 : decode cX11_init 17 = .ok (.getfield 12, 3) := by decide +kernel
theorem dX11_init_20 : decode cX11_init 20 = .ok (.getfield 16, 3) := by decide +kernel
theorem dX11_init_23 : decode cX11_init 23 = .ok (.putfield 20, 3) := by decide +kernel
theorem dX11_init_26 : decode cX11_init 26 = .ok (.aload_n 0, 1) := by decide +kernel
theorem dX11_init_27 : decode cX11_init 27 = .ok (.new 21, 3) := by decide +kernel
theorem dX11_init_30 : decode cX11_init 30 = .ok (.dup, 1) := by decide +kernel
theorem dX11_init_31 : decode cX11_init 31 = .ok (.invokespecial 23, 3) := by decide +kernel
theorem dX11_init_34 : decode cX11_init 34 = .ok (.putfield 24, 3) := by decide +kernel
theorem dX11_init_37 : decode cX11_init 37 = .ok (.aload_n 0, 1) := by decide +kernel
theorem dX11_init_38 : decode cX11_init 38 = .ok (.new 28, 3) := by decide +kernel
theorem dX11_init_41 : decode cX11_init 41 = .ok (.dup, 1) := by decide +kernel
theorem dX11_init_42 : decode cX11_init 42 = .ok (.invokespecial 30, 3) := by decide +kernel
theorem dX11_init_45 : decode cX11_init 45 = .ok (.putfield 31, 3) := by decide +kernel
theorem dX11_init_48 : decode cX11_init 48 = .ok (.aload_n 0, 1) := by decide +kernel
theorem dX11_init_49 : decode cX11_init 49 = .ok (.new 35, 3) := by decide +kernel
theorem dX11_init_52 : decode cX11_init 52 = .ok (.dup, 1) := by decide +kernel
theorem dX11_init_53 : decode cX11_init 53 = .ok (.invokespecial 37, 3) := by decide +kernel
theorem dX11_init_56 : decode cX11_init 56 = .ok (.putfield 38, 3) := by decide +kernel
theorem dX11_init_59 : decode cX11_init 59 = .ok (.aload_n 0, 1) := by decide +kernel
theorem dX11_init_60 : decode cX11_init 60 = .ok (.new 42, 3) := by decide +kernel
theorem dX11_init_63 : decode cX11_init 63 = .ok (.dup, 1) := by decide +kernel
theorem dX11_init_64 : decode cX11_init 64 = .ok (.invokespecial 44, 3) := by decide +kernel
theorem dX11_init_67 : decode cX11_init 67 = .ok (.putfield 45, 3) := by decide +kernel
theorem dX11_init_70 : decode cX11_init 70 = .ok (.aload_n 0, 1) := by decide +kernel
theorem dX11_init_71 : decode cX11_init 71 = .ok (.new 35, 3) := by decide +kernel
theorem dX11_init_74 : decode cX11_init 74 = .ok (.dup, 1) := by decide +kernel
theorem dX11_init_75 : decode cX11_init 75 = .ok (.invokespecial 37, 3) := by decide +kernel
theorem dX11_init_78 : decode cX11_init 78 = .ok (.putfield 49, 3) := by decide +kernel
theorem dX11_init_81 : decode cX11_init 81 = .ok (.aload_n 0, 1) := by decide +kernel
theorem dX11_init_82 : decode cX11_init 82 = .ok (.new 42, 3) := by decide +kernel
theorem dX11_init_85 : decode cX11_init 85 = .ok (.dup, 1) := by decide +kernel
theorem dX11_init_86 : decode cX11_init 86 = .ok (.invokespecial 44, 3) := by decide +kernel
theorem dX11_init_89 : decode cX11_init 89 = .ok (.putfield 52, 3) := by decide +kernel
theorem dX11_init_92 : decode cX11_init 92 = .ok (.aload_n 0, 1) := by decide +kernel
theorem dX11_init_93 : decode cX11_init 93 = .ok (.new 55, 3) := by decide +kernel
theorem dX11_init_96 : decode cX11_init 96 = .ok (.dup, 1) := by decide +kernel
theorem dX11_init_97 : decode cX11_init 97 = .ok (.invokespecial 57, 3) := by decide +kernel
theorem dX11_init_100 : decode cX11_init 100 = .ok (.putfield 58, 3) := by decide +kernel
theorem dX11_init_103 : decode cX11_init 103 = .ok (.aload_n 0, 1) := by decide +kernel
theorem dX11_init_104 : decode cX11_init 104 = .ok (.iconst 0, 1) := by decide +kernel
theorem dX11_init_105 : decode cX11_init 105 = .ok (.putfield 62, 3) := by decide +kernel
theorem dX11_init_108 : decode cX11_init 108 = .ok (.return_, 1) := by decide +kernel
theorem pq_787 : Cond.methodLink RX9 3 Lib.objectInit ∈ pd_gt := pd_in 85 (by decide +kernel) (by decide +kernel)
theorem pq_788 : Cond.methodLink RX1 1 Lib.objectInit ∈ pd_gt := pd_in 208 (by decide +kernel) (by decide +kernel)
theorem pq_789 : Cond.methodLink RX5 3 Lib.objectInit ∈ pd_gt := pd_in 137 (by decide +kernel) (by decide +kernel)
theorem pq_790 : Cond.arrayClass .int ∈ pd_gt := pd_in 163 (by decide +kernel) (by decide +kernel)
theorem pq_791 : Cond.methodLink RX2 3 Lib.objectInit ∈ pd_gt := pd_in 168 (by decide +kernel) (by decide +kernel)
theorem pq_792 : Cond.methodLink RX8 3 Lib.objectInit ∈ pd_gt := pd_in 331 (by decide +kernel) (by decide +kernel)
theorem pq_793 : Cond.constant RX8 24 (100000 : Int32) ∈ pd_gt := pd_in 332 (by decide +kernel) (by decide +kernel)
theorem pq_794 : Cond.constant RX8 25 (50000 : Int32) ∈ pd_gt := pd_in 333 (by decide +kernel) (by decide +kernel)
theorem pq_795 : Cond.fieldLink RX0 36 "PayoutDesk$Book" "loans" "[LPayoutDesk$Dated;" ∈ pd_gt := pd_in 244 (by decide +kernel) (by decide +kernel)
theorem pq_796 : Cond.classLink RX0 30 "PayoutDesk$Dated" ∈ pd_gt := pd_in 131 (by decide +kernel) (by decide +kernel)
theorem pq_797 : Cond.instantiable "PayoutDesk$Dated" 4 ∈ pd_gt := pd_in 204 (by decide +kernel) (by decide +kernel)
theorem pq_798 : Cond.initialized "PayoutDesk$Dated" ∈ pd_gt := pd_in 43 (by decide +kernel) (by decide +kernel)
theorem pq_799 : Cond.methodLinkNest RX0 50 yX1_init "PayoutDesk" ∈ pd_gt := pd_in 205 (by decide +kernel) (by decide +kernel)
theorem pq_800 : Cond.code yX1_init cX1_init 1 none ∈ pd_gt := pd_in 207 (by decide +kernel) (by decide +kernel)
theorem pq_801 : Cond.initialized yX1_init.cls ∈ pd_gt := pd_in 43 (by decide +kernel) (by decide +kernel)
theorem pq_802 : Cond.instanceMethod yX1_init ∈ pd_gt := pd_in 206 (by decide +kernel) (by decide +kernel)
theorem pq_803 : Cond.fieldLink RX0 32 "PayoutDesk$Book" "highs" "[LPayoutDesk$Dated;" ∈ pd_gt := pd_in 240 (by decide +kernel) (by decide +kernel)
theorem pq_804 : Cond.classLink RX0 17 "PayoutDesk$Group" ∈ pd_gt := pd_in 129 (by decide +kernel) (by decide +kernel)
theorem pq_805 : Cond.instantiable "PayoutDesk$Group" 8 ∈ pd_gt := pd_in 164 (by decide +kernel) (by decide +kernel)
theorem pq_806 : Cond.initialized "PayoutDesk$Group" ∈ pd_gt := pd_in 42 (by decide +kernel) (by decide +kernel)
theorem pq_807 : Cond.methodLinkNest RX0 49 yX2_init "PayoutDesk" ∈ pd_gt := pd_in 165 (by decide +kernel) (by decide +kernel)
theorem pq_808 : Cond.code yX2_init cX2_init 1 none ∈ pd_gt := pd_in 167 (by decide +kernel) (by decide +kernel)
theorem pq_809 : Cond.initialized yX2_init.cls ∈ pd_gt := pd_in 42 (by decide +kernel) (by decide +kernel)
theorem pq_810 : Cond.instanceMethod yX2_init ∈ pd_gt := pd_in 166 (by decide +kernel) (by decide +kernel)
theorem pq_811 : Cond.classLink RX0 9 "PayoutDesk$Person" ∈ pd_gt := pd_in 127 (by decide +kernel) (by decide +kernel)
theorem pq_812 : Cond.instantiable "PayoutDesk$Person" 5 ∈ pd_gt := pd_in 133 (by decide +kernel) (by decide +kernel)
theorem pq_813 : Cond.initialized "PayoutDesk$Person" ∈ pd_gt := pd_in 41 (by decide +kernel) (by decide +kernel)
theorem pq_814 : Cond.methodLinkNest RX0 48 yX5_init "PayoutDesk" ∈ pd_gt := pd_in 134 (by decide +kernel) (by decide +kernel)
theorem pq_815 : Cond.code yX5_init cX5_init 1 none ∈ pd_gt := pd_in 136 (by decide +kernel) (by decide +kernel)
theorem pq_816 : Cond.initialized yX5_init.cls ∈ pd_gt := pd_in 41 (by decide +kernel) (by decide +kernel)
theorem pq_817 : Cond.instanceMethod yX5_init ∈ pd_gt := pd_in 135 (by decide +kernel) (by decide +kernel)
theorem pq_818 : Cond.methodLink RX0 3 Lib.objectInit ∈ pd_gt := pd_in 126 (by decide +kernel) (by decide +kernel)
theorem pq_819 : Cond.arrayOver (.object "PayoutDesk$Person") ∈ pd_gt := pd_in 128 (by decide +kernel) (by decide +kernel)
theorem pq_820 : Cond.arrayOver (.object "PayoutDesk$Group") ∈ pd_gt := pd_in 130 (by decide +kernel) (by decide +kernel)
theorem pq_821 : Cond.fieldLink RX0 26 "PayoutDesk$Book" "balances" "[I" ∈ pd_gt := pd_in 237 (by decide +kernel) (by decide +kernel)
theorem pq_822 : Cond.arrayOver (.object "PayoutDesk$Dated") ∈ pd_gt := pd_in 132 (by decide +kernel) (by decide +kernel)
theorem pq_823 : Cond.fieldLink RX3 17 "PayoutDesk$History" "kept" "[LPayoutDesk$State;" ∈ pd_gt := pd_in 364 (by decide +kernel) (by decide +kernel)
theorem pq_824 : Cond.classLink RX3 9 "PayoutDesk$State" ∈ pd_gt := pd_in 325 (by decide +kernel) (by decide +kernel)
theorem pq_825 : Cond.instantiable "PayoutDesk$State" 6 ∈ pd_gt := pd_in 327 (by decide +kernel) (by decide +kernel)
theorem pq_826 : Cond.initialized "PayoutDesk$State" ∈ pd_gt := pd_in 45 (by decide +kernel) (by decide +kernel)
theorem pq_827 : Cond.methodLink RX3 24 yX8_init ∈ pd_gt := pd_in 328 (by decide +kernel) (by decide +kernel)
theorem pq_828 : Cond.code yX8_init cX8_init 1 none ∈ pd_gt := pd_in 330 (by decide +kernel) (by decide +kernel)
theorem pq_829 : Cond.initialized yX8_init.cls ∈ pd_gt := pd_in 45 (by decide +kernel) (by decide +kernel)
theorem pq_830 : Cond.instanceMethod yX8_init ∈ pd_gt := pd_in 329 (by decide +kernel) (by decide +kernel)
theorem pq_831 : Cond.methodLink RX3 3 Lib.objectInit ∈ pd_gt := pd_in 324 (by decide +kernel) (by decide +kernel)
theorem pq_832 : Cond.arrayOver (.object "PayoutDesk$State") ∈ pd_gt := pd_in 326 (by decide +kernel) (by decide +kernel)
theorem pq_833 : Cond.arrayClass .boolean ∈ pd_gt := pd_in 362 (by decide +kernel) (by decide +kernel)
theorem pq_834 : Cond.methodLink RX6 3 Lib.objectInit ∈ pd_gt := pd_in 79 (by decide +kernel) (by decide +kernel)
theorem pq_835 : Cond.classLink RX6 9 "PayoutDesk$Tape" ∈ pd_gt := pd_in 80 (by decide +kernel) (by decide +kernel)
theorem pq_836 : Cond.instantiable "PayoutDesk$Tape" 9 ∈ pd_gt := pd_in 81 (by decide +kernel) (by decide +kernel)
theorem pq_837 : Cond.initialized "PayoutDesk$Tape" ∈ pd_gt := pd_in 39 (by decide +kernel) (by decide +kernel)
theorem pq_838 : Cond.methodLinkNest RX6 11 yX9_init "PayoutDesk" ∈ pd_gt := pd_in 82 (by decide +kernel) (by decide +kernel)
theorem pq_839 : Cond.code yX9_init cX9_init 1 none ∈ pd_gt := pd_in 84 (by decide +kernel) (by decide +kernel)
theorem pq_840 : Cond.initialized yX9_init.cls ∈ pd_gt := pd_in 39 (by decide +kernel) (by decide +kernel)
theorem pq_841 : Cond.instanceMethod yX9_init ∈ pd_gt := pd_in 83 (by decide +kernel) (by decide +kernel)
theorem pq_842 : Cond.classLink RX6 18 "PayoutDesk$Book" ∈ pd_gt := pd_in 121 (by decide +kernel) (by decide +kernel)
theorem pq_843 : Cond.instantiable "PayoutDesk$Book" 15 ∈ pd_gt := pd_in 122 (by decide +kernel) (by decide +kernel)
theorem pq_844 : Cond.initialized "PayoutDesk$Book" ∈ pd_gt := pd_in 40 (by decide +kernel) (by decide +kernel)
theorem pq_845 : Cond.methodLink RX6 20 yX0_init ∈ pd_gt := pd_in 123 (by decide +kernel) (by decide +kernel)
theorem pq_846 : Cond.code yX0_init cX0_init 2 none ∈ pd_gt := pd_in 125 (by decide +kernel) (by decide +kernel)
theorem pq_847 : Cond.initialized yX0_init.cls ∈ pd_gt := pd_in 40 (by decide +kernel) (by decide +kernel)
theorem pq_848 : Cond.instanceMethod yX0_init ∈ pd_gt := pd_in 124 (by decide +kernel) (by decide +kernel)
theorem pq_849 : Cond.methodLink RX7 3 Lib.objectInit ∈ pd_gt := pd_in 385 (by decide +kernel) (by decide +kernel)
theorem pq_850 : Cond.classLink RX7 9 "[[I" ∈ pd_gt := pd_in 386 (by decide +kernel) (by decide +kernel)
theorem pq_851 : Cond.arrayOver (.array .int) ∈ pd_gt := pd_in 387 (by decide +kernel) (by decide +kernel)
theorem pq_852 : Cond.methodLink RX10 3 Lib.objectInit ∈ pd_gt := pd_in 411 (by decide +kernel) (by decide +kernel)
theorem pq_853 : Cond.methodLink RX4 3 Lib.objectInit ∈ pd_gt := pd_in 405 (by decide +kernel) (by decide +kernel)
theorem pq_854 : Cond.classLink RX4 9 "PayoutDesk$Ties" ∈ pd_gt := pd_in 406 (by decide +kernel) (by decide +kernel)
theorem pq_855 : Cond.instantiable "PayoutDesk$Ties" 4 ∈ pd_gt := pd_in 407 (by decide +kernel) (by decide +kernel)
theorem pq_856 : Cond.initialized "PayoutDesk$Ties" ∈ pd_gt := pd_in 48 (by decide +kernel) (by decide +kernel)
theorem pq_857 : Cond.methodLinkNest RX4 11 yX10_init "PayoutDesk" ∈ pd_gt := pd_in 408 (by decide +kernel) (by decide +kernel)
theorem pq_858 : Cond.code yX10_init cX10_init 1 none ∈ pd_gt := pd_in 410 (by decide +kernel) (by decide +kernel)
theorem pq_859 : Cond.initialized yX10_init.cls ∈ pd_gt := pd_in 48 (by decide +kernel) (by decide +kernel)
theorem pq_860 : Cond.instanceMethod yX10_init ∈ pd_gt := pd_in 409 (by decide +kernel) (by decide +kernel)
theorem pq_861 : Cond.arrayClass .long ∈ pd_gt := pd_in 458 (by decide +kernel) (by decide +kernel)
theorem pq_862 : Cond.methodLink RX11 3 Lib.objectInit ∈ pd_gt := pd_in 71 (by decide +kernel) (by decide +kernel)
theorem pq_863 : Cond.classLink RX11 9 "PayoutDesk$Reader" ∈ pd_gt := pd_in 74 (by decide +kernel) (by decide +kernel)
theorem pq_864 : Cond.instantiable "PayoutDesk$Reader" 3 ∈ pd_gt := pd_in 75 (by decide +kernel) (by decide +kernel)
theorem pq_865 : Cond.initialized "PayoutDesk$Reader" ∈ pd_gt := pd_in 38 (by decide +kernel) (by decide +kernel)
theorem pq_866 : Cond.methodLinkNest RX11 11 yX6_init "PayoutDesk" ∈ pd_gt := pd_in 76 (by decide +kernel) (by decide +kernel)
theorem pq_867 : Cond.code yX6_init cX6_init 1 none ∈ pd_gt := pd_in 78 (by decide +kernel) (by decide +kernel)
theorem pq_868 : Cond.initialized yX6_init.cls ∈ pd_gt := pd_in 38 (by decide +kernel) (by decide +kernel)
theorem pq_869 : Cond.instanceMethod yX6_init ∈ pd_gt := pd_in 77 (by decide +kernel) (by decide +kernel)
theorem pq_870 : Cond.fieldLinkNest RX11 16 "PayoutDesk$Reader" "tape" "LPayoutDesk$Tape;" "PayoutDesk" ∈ pd_gt := pd_in 309 (by decide +kernel) (by decide +kernel)
theorem pq_871 : Cond.classLink RX11 21 "PayoutDesk$History" ∈ pd_gt := pd_in 319 (by decide +kernel) (by decide +kernel)
theorem pq_872 : Cond.instantiable "PayoutDesk$History" 5 ∈ pd_gt := pd_in 320 (by decide +kernel) (by decide +kernel)
theorem pq_873 : Cond.initialized "PayoutDesk$History" ∈ pd_gt := pd_in 44 (by decide +kernel) (by decide +kernel)
theorem pq_874 : Cond.methodLink RX11 23 yX3_init ∈ pd_gt := pd_in 321 (by decide +kernel) (by decide +kernel)
theorem pq_875 : Cond.code yX3_init cX3_init 2 none ∈ pd_gt := pd_in 323 (by decide +kernel) (by decide +kernel)
theorem pq_876 : Cond.initialized yX3_init.cls ∈ pd_gt := pd_in 44 (by decide +kernel) (by decide +kernel)
theorem pq_877 : Cond.instanceMethod yX3_init ∈ pd_gt := pd_in 322 (by decide +kernel) (by decide +kernel)
theorem pq_878 : Cond.classLink RX11 28 "PayoutDesk$Shares" ∈ pd_gt := pd_in 380 (by decide +kernel) (by decide +kernel)
theorem pq_879 : Cond.instantiable "PayoutDesk$Shares" 2 ∈ pd_gt := pd_in 381 (by decide +kernel) (by decide +kernel)
theorem pq_880 : Cond.initialized "PayoutDesk$Shares" ∈ pd_gt := pd_in 46 (by decide +kernel) (by decide +kernel)
theorem pq_881 : Cond.methodLinkNest RX11 30 yX7_init "PayoutDesk" ∈ pd_gt := pd_in 382 (by decide +kernel) (by decide +kernel)
theorem pq_882 : Cond.code yX7_init cX7_init 1 none ∈ pd_gt := pd_in 384 (by decide +kernel) (by decide +kernel)
theorem pq_883 : Cond.initialized yX7_init.cls ∈ pd_gt := pd_in 46 (by decide +kernel) (by decide +kernel)
theorem pq_884 : Cond.instanceMethod yX7_init ∈ pd_gt := pd_in 383 (by decide +kernel) (by decide +kernel)
theorem pq_885 : Cond.classLink RX11 35 "PayoutDesk$State" ∈ pd_gt := pd_in 398 (by decide +kernel) (by decide +kernel)
theorem pq_886 : Cond.methodLink RX11 37 yX8_init ∈ pd_gt := pd_in 399 (by decide +kernel) (by decide +kernel)
theorem pq_887 : Cond.classLink RX11 42 "PayoutDesk$Ledger" ∈ pd_gt := pd_in 400 (by decide +kernel) (by decide +kernel)
theorem pq_888 : Cond.instantiable "PayoutDesk$Ledger" 7 ∈ pd_gt := pd_in 401 (by decide +kernel) (by decide +kernel)
theorem pq_889 : Cond.initialized "PayoutDesk$Ledger" ∈ pd_gt := pd_in 47 (by decide +kernel) (by decide +kernel)
theorem pq_890 : Cond.methodLinkNest RX11 44 yX4_init "PayoutDesk" ∈ pd_gt := pd_in 402 (by decide +kernel) (by decide +kernel)
theorem pq_891 : Cond.code yX4_init cX4_init 1 none ∈ pd_gt := pd_in 404 (by decide +kernel) (by decide +kernel)
theorem pq_892 : Cond.initialized yX4_init.cls ∈ pd_gt := pd_in 47 (by decide +kernel) (by decide +kernel)
theorem pq_893 : Cond.instanceMethod yX4_init ∈ pd_gt := pd_in 403 (by decide +kernel) (by decide +kernel)
theorem pq_894 : Cond.fieldLink RX11 49 "PayoutDesk" "trial" "LPayoutDesk$State;" ∈ pd_gt := pd_in 467 (by decide +kernel) (by decide +kernel)
theorem pq_895 : Cond.fieldLink RX11 52 "PayoutDesk" "trialLedger" "LPayoutDesk$Ledger;" ∈ pd_gt := pd_in 468 (by decide +kernel) (by decide +kernel)
theorem pq_896 : Cond.classLink RX11 55 "PayoutDesk$Book" ∈ pd_gt := pd_in 459 (by decide +kernel) (by decide +kernel)
theorem pq_897 : Cond.methodLink RX11 57 yX0_init ∈ pd_gt := pd_in 460 (by decide +kernel) (by decide +kernel)
def pfX9_init (sh : pd_S) (F : pd_F) (x0 : Int) : Option (pd_S × pd_F) :=
  pd_i (x0 ≠ 0) <|
  pd_l ((sh.length : Int) + 1) fun o4 => pd_l (pd_z F (sh.length + 1)) fun F3 => pd_l (sh ++ [(0, 1, 1000)]) fun sh2 =>
  pd_i (pd_ob sh2 9 x0 = true) <|
  pd_l (pd_up F3 x0 0 o4) fun F6 =>
  some (sh2, F6)
def pfX1_init (sh : pd_S) (F : pd_F) (x0 : Int) : Option (pd_S × pd_F) :=
  pd_i (x0 ≠ 0) <|
  some (sh, F)
def pfX5_init (sh : pd_S) (F : pd_F) (x0 : Int) : Option (pd_S × pd_F) :=
  pd_i (x0 ≠ 0) <|
  pd_l ((sh.length : Int) + 1) fun o4 => pd_l (pd_z F (sh.length + 1)) fun F3 => pd_l (sh ++ [(0, 0, 3)]) fun sh2 =>
  pd_i (pd_ob sh2 5 x0 = true) <|
  pd_l (pd_up F3 x0 0 o4) fun F6 =>
  some (sh2, F6)
def pfX2_init (sh : pd_S) (F : pd_F) (x0 : Int) : Option (pd_S × pd_F) :=
  pd_i (x0 ≠ 0) <|
  pd_l ((sh.length : Int) + 1) fun o4 => pd_l (pd_z F (sh.length + 1)) fun F3 => pd_l (sh ++ [(0, 0, 5)]) fun sh2 =>
  pd_i (pd_ob sh2 2 x0 = true) <|
  pd_l (pd_up F3 x0 0 o4) fun F6 =>
  pd_l ((sh2.length : Int) + 1) fun o9 => pd_l (pd_z F6 (sh2.length + 1)) fun F8 => pd_l (sh2 ++ [(0, 0, 5)]) fun sh7 =>
  pd_i (pd_ob sh7 2 x0 = true) <|
  pd_l (pd_up F8 x0 1 o9) fun F11 =>
  pd_l ((sh7.length : Int) + 1) fun o14 => pd_l (pd_z F11 (sh7.length + 1)) fun F13 => pd_l (sh7 ++ [(0, 0, 12)]) fun sh12 =>
  pd_i (pd_ob sh12 2 x0 = true) <|
  pd_l (pd_up F13 x0 2 o14) fun F16 =>
  some (sh12, F16)
def pfX8_init (sh : pd_S) (F : pd_F) (x0 : Int) : Option (pd_S × pd_F) :=
  pd_i (x0 ≠ 0) <|
  pd_l ((sh.length : Int) + 1) fun o4 => pd_l (pd_z F (sh.length + 1)) fun F3 => pd_l (sh ++ [(0, 0, 10)]) fun sh2 =>
  pd_i (pd_ob sh2 8 x0 = true) <|
  pd_l (pd_up F3 x0 0 o4) fun F6 =>
  pd_l ((sh2.length : Int) + 1) fun o9 => pd_l (pd_z F6 (sh2.length + 1)) fun F8 => pd_l (sh2 ++ [(0, 0, 3)]) fun sh7 =>
  pd_i (pd_ob sh7 8 x0 = true) <|
  pd_l (pd_up F8 x0 1 o9) fun F11 =>
  pd_l ((sh7.length : Int) + 1) fun o14 => pd_l (pd_z F11 (sh7.length + 1)) fun F13 => pd_l (sh7 ++ [(0, 0, 31)]) fun sh12 =>
  pd_i (pd_ob sh12 8 x0 = true) <|
  pd_l (pd_up F13 x0 2 o14) fun F16 =>
  pd_l ((sh12.length : Int) + 1) fun o19 => pd_l (pd_z F16 (sh12.length + 1)) fun F18 => pd_l (sh12 ++ [(0, 0, 31)]) fun sh17 =>
  pd_i (pd_ob sh17 8 x0 = true) <|
  pd_l (pd_up F18 x0 3 o19) fun F21 =>
  pd_i (pd_ib sh17 0 0 (F21 x0 1) 1 = true) <|
  pd_l (pd_up F21 (F21 x0 1) 1 100000) fun F23 =>
  pd_i (pd_ib sh17 0 0 (F23 x0 1) 2 = true) <|
  pd_l (pd_up F23 (F23 x0 1) 2 50000) fun F25 =>
  some (sh17, F25)
def pfX0_init_b201 : Nat → pd_S → pd_F → Int → Int → Option (pd_S × pd_F)
  | 0, _, _, _, _ => none
  | k + 1, sh, F, x0, x1 =>
    pd_i (pd_ob sh 0 x0 = true) <|
    pd_i (0 ≤ pd_ln sh 2 1 (F x0 5)) <|
    if x1 ≥ (pd_ln sh 2 1 (F x0 5)) then
      some (sh, F)
    else
      pd_l ((sh.length : Int) + 1) fun o5 => pd_l (pd_z F (sh.length + 1)) fun F4 => pd_l (sh ++ [(4, 1, 4)]) fun sh3 =>
      pd_i (1 ≤ o5) <|
      Option.bind (pfX1_init sh3 F4 o5) fun qsh7 => pd_l qsh7.1 fun sh7 => pd_l qsh7.2 fun F6 =>
      pd_i (pd_ib sh7 2 1 (F x0 5) x1 = true) <|
      pd_i (pd_ob sh7 1 o5 = true) <|
      pd_l (pd_up F6 (F x0 5) x1 o5) fun F11 =>
      pd_l (pd_w (x1 + 1)) fun x1_223 =>
      pfX0_init_b201 k sh7 F11 x0 x1_223
def pfX0_init_b199 (sh : pd_S) (F : pd_F) (x0 : Int) : Option (pd_S × pd_F) :=
  pfX0_init_b201 20 sh F x0 0
def pfX0_init_b171 : Nat → pd_S → pd_F → Int → Int → Option (pd_S × pd_F)
  | 0, _, _, _, _ => none
  | k + 1, sh, F, x0, x1 =>
    pd_i (pd_ob sh 0 x0 = true) <|
    pd_i (0 ≤ pd_ln sh 2 1 (F x0 4)) <|
    if x1 ≥ (pd_ln sh 2 1 (F x0 4)) then
      pfX0_init_b199 sh F x0
    else
      pd_l ((sh.length : Int) + 1) fun o16 => pd_l (pd_z F (sh.length + 1)) fun F15 => pd_l (sh ++ [(4, 1, 4)]) fun sh14 =>
      pd_i (1 ≤ o16) <|
      Option.bind (pfX1_init sh14 F15 o16) fun qsh18 => pd_l qsh18.1 fun sh18 => pd_l qsh18.2 fun F17 =>
      pd_i (pd_ib sh18 2 1 (F x0 4) x1 = true) <|
      pd_i (pd_ob sh18 1 o16 = true) <|
      pd_l (pd_up F17 (F x0 4) x1 o16) fun F22 =>
      pd_l (pd_w (x1 + 1)) fun x1_193 =>
      pfX0_init_b171 k sh18 F22 x0 x1_193
def pfX0_init_b169 (sh : pd_S) (F : pd_F) (x0 : Int) : Option (pd_S × pd_F) :=
  pfX0_init_b171 20 sh F x0 0
def pfX0_init_b141 : Nat → pd_S → pd_F → Int → Int → Option (pd_S × pd_F)
  | 0, _, _, _, _ => none
  | k + 1, sh, F, x0, x1 =>
    pd_i (pd_ob sh 0 x0 = true) <|
    pd_i (0 ≤ pd_ln sh 2 2 (F x0 2)) <|
    if x1 ≥ (pd_ln sh 2 2 (F x0 2)) then
      pfX0_init_b169 sh F x0
    else
      pd_l ((sh.length : Int) + 1) fun o27 => pd_l (pd_z F (sh.length + 1)) fun F26 => pd_l (sh ++ [(4, 2, 8)]) fun sh25 =>
      pd_i (1 ≤ o27) <|
      Option.bind (pfX2_init sh25 F26 o27) fun qsh29 => pd_l qsh29.1 fun sh29 => pd_l qsh29.2 fun F28 =>
      pd_i (pd_ib sh29 2 2 (F x0 2) x1 = true) <|
      pd_i (pd_ob sh29 2 o27 = true) <|
      pd_l (pd_up F28 (F x0 2) x1 o27) fun F33 =>
      pd_l (pd_w (x1 + 1)) fun x1_163 =>
      pfX0_init_b141 k sh29 F33 x0 x1_163
def pfX0_init_b139 (sh : pd_S) (F : pd_F) (x0 : Int) : Option (pd_S × pd_F) :=
  pfX0_init_b141 20 sh F x0 0
def pfX0_init_b111 : Nat → pd_S → pd_F → Int → Int → Option (pd_S × pd_F)
  | 0, _, _, _, _ => none
  | k + 1, sh, F, x0, x1 =>
    pd_i (pd_ob sh 0 x0 = true) <|
    pd_i (0 ≤ pd_ln sh 2 2 (F x0 1)) <|
    if x1 ≥ (pd_ln sh 2 2 (F x0 1)) then
      pfX0_init_b139 sh F x0
    else
      pd_l ((sh.length : Int) + 1) fun o38 => pd_l (pd_z F (sh.length + 1)) fun F37 => pd_l (sh ++ [(4, 2, 8)]) fun sh36 =>
      pd_i (1 ≤ o38) <|
      Option.bind (pfX2_init sh36 F37 o38) fun qsh40 => pd_l qsh40.1 fun sh40 => pd_l qsh40.2 fun F39 =>
      pd_i (pd_ib sh40 2 2 (F x0 1) x1 = true) <|
      pd_i (pd_ob sh40 2 o38 = true) <|
      pd_l (pd_up F39 (F x0 1) x1 o38) fun F44 =>
      pd_l (pd_w (x1 + 1)) fun x1_133 =>
      pfX0_init_b111 k sh40 F44 x0 x1_133
def pfX0_init_b109 (sh : pd_S) (F : pd_F) (x0 : Int) : Option (pd_S × pd_F) :=
  pfX0_init_b111 20 sh F x0 0
def pfX0_init_b81 : Nat → pd_S → pd_F → Int → Int → Option (pd_S × pd_F)
  | 0, _, _, _, _ => none
  | k + 1, sh, F, x0, x1 =>
    pd_i (pd_ob sh 0 x0 = true) <|
    pd_i (0 ≤ pd_ln sh 2 5 (F x0 0)) <|
    if x1 ≥ (pd_ln sh 2 5 (F x0 0)) then
      pfX0_init_b109 sh F x0
    else
      pd_l ((sh.length : Int) + 1) fun o49 => pd_l (pd_z F (sh.length + 1)) fun F48 => pd_l (sh ++ [(4, 5, 5)]) fun sh47 =>
      pd_i (1 ≤ o49) <|
      Option.bind (pfX5_init sh47 F48 o49) fun qsh51 => pd_l qsh51.1 fun sh51 => pd_l qsh51.2 fun F50 =>
      pd_i (pd_ib sh51 2 5 (F x0 0) x1 = true) <|
      pd_i (pd_ob sh51 5 o49 = true) <|
      pd_l (pd_up F50 (F x0 0) x1 o49) fun F55 =>
      pd_l (pd_w (x1 + 1)) fun x1_103 =>
      pfX0_init_b81 k sh51 F55 x0 x1_103
def pfX0_init (sh : pd_S) (F : pd_F) (x0 : Int) : Option (pd_S × pd_F) :=
  pd_i (x0 ≠ 0) <|
  pd_l ((sh.length : Int) + 1) fun o59 => pd_l (pd_z F (sh.length + 1)) fun F58 => pd_l (sh ++ [(2, 5, 12)]) fun sh57 =>
  pd_i (pd_ob sh57 0 x0 = true) <|
  pd_l (pd_up F58 x0 0 o59) fun F61 =>
  pd_l ((sh57.length : Int) + 1) fun o64 => pd_l (pd_z F61 (sh57.length + 1)) fun F63 => pd_l (sh57 ++ [(2, 2, 5)]) fun sh62 =>
  pd_i (pd_ob sh62 0 x0 = true) <|
  pd_l (pd_up F63 x0 1 o64) fun F66 =>
  pd_l ((sh62.length : Int) + 1) fun o69 => pd_l (pd_z F66 (sh62.length + 1)) fun F68 => pd_l (sh62 ++ [(2, 2, 10)]) fun sh67 =>
  pd_i (pd_ob sh67 0 x0 = true) <|
  pd_l (pd_up F68 x0 2 o69) fun F71 =>
  pd_l ((sh67.length : Int) + 1) fun o74 => pd_l (pd_z F71 (sh67.length + 1)) fun F73 => pd_l (sh67 ++ [(0, 0, 10)]) fun sh72 =>
  pd_i (pd_ob sh72 0 x0 = true) <|
  pd_l (pd_up F73 x0 3 o74) fun F76 =>
  pd_l ((sh72.length : Int) + 1) fun o79 => pd_l (pd_z F76 (sh72.length + 1)) fun F78 => pd_l (sh72 ++ [(2, 1, 6)]) fun sh77 =>
  pd_i (pd_ob sh77 0 x0 = true) <|
  pd_l (pd_up F78 x0 4 o79) fun F81 =>
  pd_l ((sh77.length : Int) + 1) fun o84 => pd_l (pd_z F81 (sh77.length + 1)) fun F83 => pd_l (sh77 ++ [(2, 1, 8)]) fun sh82 =>
  pd_i (pd_ob sh82 0 x0 = true) <|
  pd_l (pd_up F83 x0 5 o84) fun F86 =>
  pd_l ((sh82.length : Int) + 1) fun o89 => pd_l (pd_z F86 (sh82.length + 1)) fun F88 => pd_l (sh82 ++ [(0, 0, 3)]) fun sh87 =>
  pd_i (pd_ob sh87 0 x0 = true) <|
  pd_l (pd_up F88 x0 6 o89) fun F91 =>
  pd_l ((sh87.length : Int) + 1) fun o94 => pd_l (pd_z F91 (sh87.length + 1)) fun F93 => pd_l (sh87 ++ [(0, 0, 36)]) fun sh92 =>
  pd_i (pd_ob sh92 0 x0 = true) <|
  pd_l (pd_up F93 x0 7 o94) fun F96 =>
  pd_l ((sh92.length : Int) + 1) fun o99 => pd_l (pd_z F96 (sh92.length + 1)) fun F98 => pd_l (sh92 ++ [(0, 0, 36)]) fun sh97 =>
  pd_i (pd_ob sh97 0 x0 = true) <|
  pd_l (pd_up F98 x0 8 o99) fun F101 =>
  pfX0_init_b81 20 sh97 F101 x0 0
def pfX3_init_b60 : Nat → pd_S → pd_F → Int → Int → Option (pd_S × pd_F)
  | 0, _, _, _, _ => none
  | k + 1, sh, F, x0, x1 =>
    pd_i (pd_ob sh 3 x0 = true) <|
    pd_i (0 ≤ pd_ln sh 2 8 (F x0 1)) <|
    if x1 ≥ (pd_ln sh 2 8 (F x0 1)) then
      some (sh, F)
    else
      pd_l ((sh.length : Int) + 1) fun o5 => pd_l (pd_z F (sh.length + 1)) fun F4 => pd_l (sh ++ [(4, 8, 6)]) fun sh3 =>
      pd_i (1 ≤ o5) <|
      Option.bind (pfX8_init sh3 F4 o5) fun qsh7 => pd_l qsh7.1 fun sh7 => pd_l qsh7.2 fun F6 =>
      pd_i (pd_ib sh7 2 8 (F x0 1) x1 = true) <|
      pd_i (pd_ob sh7 8 o5 = true) <|
      pd_l (pd_up F6 (F x0 1) x1 o5) fun F11 =>
      pd_l (pd_w (x1 + 1)) fun x1_82 =>
      pfX3_init_b60 k sh7 F11 x0 x1_82
def pfX3_init_b58 (sh : pd_S) (F : pd_F) (x0 : Int) : Option (pd_S × pd_F) :=
  pfX3_init_b60 20 sh F x0 0
def pfX3_init_b30 : Nat → pd_S → pd_F → Int → Int → Option (pd_S × pd_F)
  | 0, _, _, _, _ => none
  | k + 1, sh, F, x0, x1 =>
    pd_i (pd_ob sh 3 x0 = true) <|
    pd_i (0 ≤ pd_ln sh 2 8 (F x0 0)) <|
    if x1 ≥ (pd_ln sh 2 8 (F x0 0)) then
      pfX3_init_b58 sh F x0
    else
      pd_l ((sh.length : Int) + 1) fun o16 => pd_l (pd_z F (sh.length + 1)) fun F15 => pd_l (sh ++ [(4, 8, 6)]) fun sh14 =>
      pd_i (1 ≤ o16) <|
      Option.bind (pfX8_init sh14 F15 o16) fun qsh18 => pd_l qsh18.1 fun sh18 => pd_l qsh18.2 fun F17 =>
      pd_i (pd_ib sh18 2 8 (F x0 0) x1 = true) <|
      pd_i (pd_ob sh18 8 o16 = true) <|
      pd_l (pd_up F17 (F x0 0) x1 o16) fun F22 =>
      pd_l (pd_w (x1 + 1)) fun x1_52 =>
      pfX3_init_b30 k sh18 F22 x0 x1_52
def pfX3_init (sh : pd_S) (F : pd_F) (x0 : Int) : Option (pd_S × pd_F) :=
  pd_i (x0 ≠ 0) <|
  pd_l ((sh.length : Int) + 1) fun o26 => pd_l (pd_z F (sh.length + 1)) fun F25 => pd_l (sh ++ [(2, 8, 16)]) fun sh24 =>
  pd_i (pd_ob sh24 3 x0 = true) <|
  pd_l (pd_up F25 x0 0 o26) fun F28 =>
  pd_l ((sh24.length : Int) + 1) fun o31 => pd_l (pd_z F28 (sh24.length + 1)) fun F30 => pd_l (sh24 ++ [(2, 8, 3)]) fun sh29 =>
  pd_i (pd_ob sh29 3 x0 = true) <|
  pd_l (pd_up F30 x0 1 o31) fun F33 =>
  pd_l ((sh29.length : Int) + 1) fun o36 => pd_l (pd_z F33 (sh29.length + 1)) fun F35 => pd_l (sh29 ++ [(0, 2, 3)]) fun sh34 =>
  pd_i (pd_ob sh34 3 x0 = true) <|
  pd_l (pd_up F35 x0 2 o36) fun F38 =>
  pfX3_init_b30 20 sh34 F38 x0 0
def pfX6_init (sh : pd_S) (F : pd_F) (x0 : Int) : Option (pd_S × pd_F) :=
  pd_i (x0 ≠ 0) <|
  pd_l ((sh.length : Int) + 1) fun o4 => pd_l (pd_z F (sh.length + 1)) fun F3 => pd_l (sh ++ [(4, 9, 9)]) fun sh2 =>
  pd_i (1 ≤ o4) <|
  Option.bind (pfX9_init sh2 F3 o4) fun qsh6 => pd_l qsh6.1 fun sh6 => pd_l qsh6.2 fun F5 =>
  pd_i (pd_ob sh6 6 x0 = true) <|
  pd_l (pd_up F5 x0 0 o4) fun F9 =>
  pd_l ((sh6.length : Int) + 1) fun o12 => pd_l (pd_z F9 (sh6.length + 1)) fun F11 => pd_l (sh6 ++ [(4, 0, 15)]) fun sh10 =>
  pd_i (1 ≤ o12) <|
  Option.bind (pfX0_init sh10 F11 o12) fun qsh14 => pd_l qsh14.1 fun sh14 => pd_l qsh14.2 fun F13 =>
  pd_i (pd_ob sh14 6 x0 = true) <|
  pd_l (pd_up F13 x0 1 o12) fun F17 =>
  some (sh14, F17)
def pfX7_init (sh : pd_S) (F : pd_F) (x0 : Int) : Option (pd_S × pd_F) :=
  pd_i (x0 ≠ 0) <|
  pd_l ((sh.length : Int) + 1) fun o4 => pd_l (pd_mz F (sh.length + 1) 10) fun F3 => pd_l (sh ++ (3, 0, 10) :: List.replicate 10 (0, 0, 12)) fun sh2 =>
  pd_i (pd_ob sh2 7 x0 = true) <|
  pd_l (pd_up F3 x0 0 o4) fun F6 =>
  pd_l ((sh2.length : Int) + 1) fun o9 => pd_l (pd_mz F6 (sh2.length + 1) 6) fun F8 => pd_l (sh2 ++ (3, 0, 6) :: List.replicate 6 (0, 0, 12)) fun sh7 =>
  pd_i (pd_ob sh7 7 x0 = true) <|
  pd_l (pd_up F8 x0 1 o9) fun F11 =>
  some (sh7, F11)
def pfX10_init (sh : pd_S) (F : pd_F) (x0 : Int) : Option (pd_S × pd_F) :=
  pd_i (x0 ≠ 0) <|
  pd_l ((sh.length : Int) + 1) fun o4 => pd_l (pd_z F (sh.length + 1)) fun F3 => pd_l (sh ++ [(0, 0, 12)]) fun sh2 =>
  pd_i (pd_ob sh2 10 x0 = true) <|
  pd_l (pd_up F3 x0 0 o4) fun F6 =>
  pd_l ((sh2.length : Int) + 1) fun o9 => pd_l (pd_z F6 (sh2.length + 1)) fun F8 => pd_l (sh2 ++ [(0, 0, 12)]) fun sh7 =>
  pd_i (pd_ob sh7 10 x0 = true) <|
  pd_l (pd_up F8 x0 1 o9) fun F11 =>
  pd_l ((sh7.length : Int) + 1) fun o14 => pd_l (pd_z F11 (sh7.length + 1)) fun F13 => pd_l (sh7 ++ [(0, 0, 12)]) fun sh12 =>
  pd_i (pd_ob sh12 10 x0 = true) <|
  pd_l (pd_up F13 x0 2 o14) fun F16 =>
  some (sh12, F16)
def pfX4_init (sh : pd_S) (F : pd_F) (x0 : Int) : Option (pd_S × pd_F) :=
  pd_i (x0 ≠ 0) <|
  pd_l ((sh.length : Int) + 1) fun o4 => pd_l (pd_z F (sh.length + 1)) fun F3 => pd_l (sh ++ [(4, 10, 4)]) fun sh2 =>
  pd_i (1 ≤ o4) <|
  Option.bind (pfX10_init sh2 F3 o4) fun qsh6 => pd_l qsh6.1 fun sh6 => pd_l qsh6.2 fun F5 =>
  pd_i (pd_ob sh6 4 x0 = true) <|
  pd_l (pd_up F5 x0 0 o4) fun F9 =>
  pd_l ((sh6.length : Int) + 1) fun o12 => pd_l (pd_z F9 (sh6.length + 1)) fun F11 => pd_l (sh6 ++ [(1, 0, 12)]) fun sh10 =>
  pd_i (pd_ob sh10 4 x0 = true) <|
  pd_l (pd_up F11 x0 1 o12) fun F14 =>
  pd_l ((sh10.length : Int) + 1) fun o17 => pd_l (pd_z F14 (sh10.length + 1)) fun F16 => pd_l (sh10 ++ [(1, 0, 12)]) fun sh15 =>
  pd_i (pd_ob sh15 4 x0 = true) <|
  pd_l (pd_up F16 x0 2 o17) fun F19 =>
  pd_l ((sh15.length : Int) + 1) fun o22 => pd_l (pd_z F19 (sh15.length + 1)) fun F21 => pd_l (sh15 ++ [(1, 0, 12)]) fun sh20 =>
  pd_i (pd_ob sh20 4 x0 = true) <|
  pd_l (pd_up F21 x0 3 o22) fun F24 =>
  pd_l ((sh20.length : Int) + 1) fun o27 => pd_l (pd_z F24 (sh20.length + 1)) fun F26 => pd_l (sh20 ++ [(0, 2, 12)]) fun sh25 =>
  pd_i (pd_ob sh25 4 x0 = true) <|
  pd_l (pd_up F26 x0 4 o27) fun F29 =>
  some (sh25, F29)
def pfX11_init (sh : pd_S) (F : pd_F) (x0 : Int) : Option (pd_S × pd_F) :=
  pd_i (x0 ≠ 0) <|
  pd_l ((sh.length : Int) + 1) fun o4 => pd_l (pd_z F (sh.length + 1)) fun F3 => pd_l (sh ++ [(4, 6, 3)]) fun sh2 =>
  pd_i (1 ≤ o4) <|
  Option.bind (pfX6_init sh2 F3 o4) fun qsh6 => pd_l qsh6.1 fun sh6 => pd_l qsh6.2 fun F5 =>
  pd_i (pd_ob sh6 11 x0 = true) <|
  pd_l (pd_up F5 x0 0 o4) fun F9 =>
  pd_i (pd_ob sh6 6 (F9 x0 0) = true) <|
  pd_l (pd_up F9 x0 1 (F9 (F9 x0 0) 0)) fun F11 =>
  pd_l ((sh6.length : Int) + 1) fun o14 => pd_l (pd_z F11 (sh6.length + 1)) fun F13 => pd_l (sh6 ++ [(4, 3, 5)]) fun sh12 =>
  pd_i (1 ≤ o14) <|
  Option.bind (pfX3_init sh12 F13 o14) fun qsh16 => pd_l qsh16.1 fun sh16 => pd_l qsh16.2 fun F15 =>
  pd_i (pd_ob sh16 11 x0 = true) <|
  pd_l (pd_up F15 x0 2 o14) fun F19 =>
  pd_l ((sh16.length : Int) + 1) fun o22 => pd_l (pd_z F19 (sh16.length + 1)) fun F21 => pd_l (sh16 ++ [(4, 7, 2)]) fun sh20 =>
  pd_i (1 ≤ o22) <|
  Option.bind (pfX7_init sh20 F21 o22) fun qsh24 => pd_l qsh24.1 fun sh24 => pd_l qsh24.2 fun F23 =>
  pd_i (pd_ob sh24 11 x0 = true) <|
  pd_l (pd_up F23 x0 3 o22) fun F27 =>
  pd_l ((sh24.length : Int) + 1) fun o30 => pd_l (pd_z F27 (sh24.length + 1)) fun F29 => pd_l (sh24 ++ [(4, 8, 6)]) fun sh28 =>
  pd_i (1 ≤ o30) <|
  Option.bind (pfX8_init sh28 F29 o30) fun qsh32 => pd_l qsh32.1 fun sh32 => pd_l qsh32.2 fun F31 =>
  pd_i (pd_ob sh32 11 x0 = true) <|
  pd_l (pd_up F31 x0 4 o30) fun F35 =>
  pd_l ((sh32.length : Int) + 1) fun o38 => pd_l (pd_z F35 (sh32.length + 1)) fun F37 => pd_l (sh32 ++ [(4, 4, 7)]) fun sh36 =>
  pd_i (1 ≤ o38) <|
  Option.bind (pfX4_init sh36 F37 o38) fun qsh40 => pd_l qsh40.1 fun sh40 => pd_l qsh40.2 fun F39 =>
  pd_i (pd_ob sh40 11 x0 = true) <|
  pd_l (pd_up F39 x0 5 o38) fun F43 =>
  pd_l ((sh40.length : Int) + 1) fun o46 => pd_l (pd_z F43 (sh40.length + 1)) fun F45 => pd_l (sh40 ++ [(4, 8, 6)]) fun sh44 =>
  pd_i (1 ≤ o46) <|
  Option.bind (pfX8_init sh44 F45 o46) fun qsh48 => pd_l qsh48.1 fun sh48 => pd_l qsh48.2 fun F47 =>
  pd_i (pd_ob sh48 11 x0 = true) <|
  pd_l (pd_up F47 x0 6 o46) fun F51 =>
  pd_l ((sh48.length : Int) + 1) fun o54 => pd_l (pd_z F51 (sh48.length + 1)) fun F53 => pd_l (sh48 ++ [(4, 4, 7)]) fun sh52 =>
  pd_i (1 ≤ o54) <|
  Option.bind (pfX4_init sh52 F53 o54) fun qsh56 => pd_l qsh56.1 fun sh56 => pd_l qsh56.2 fun F55 =>
  pd_i (pd_ob sh56 11 x0 = true) <|
  pd_l (pd_up F55 x0 7 o54) fun F59 =>
  pd_l ((sh56.length : Int) + 1) fun o62 => pd_l (pd_z F59 (sh56.length + 1)) fun F61 => pd_l (sh56 ++ [(4, 0, 15)]) fun sh60 =>
  pd_i (1 ≤ o62) <|
  Option.bind (pfX0_init sh60 F61 o62) fun qsh64 => pd_l qsh64.1 fun sh64 => pd_l qsh64.2 fun F63 =>
  pd_i (pd_ob sh64 11 x0 = true) <|
  pd_l (pd_up F63 x0 8 o62) fun F67 =>
  pd_l (pd_up F67 x0 9 0) fun F68 =>
  some (sh64, F68)
set_option maxHeartbeats 4000000 in
set_option maxRecDepth 100000 in
theorem pkX9_init (l : Launch) {sh : pd_S} {F : pd_F} {x0 : Int} {shz : pd_S} {Fz : pd_F} (hf : pfX9_init sh F x0 = some (shz, Fz)) : pd_C l yX9_init (Cond.code yX9_init cX9_init 1 none :: pd_gt) (pd_rm 1 1 1000) true 1 1000 sh F [pd_R x0] none shz Fz := by
  unfold pfX9_init at hf
  refine pd_body (L := [pd_R x0]) (by decide +kernel) (Nat.le_of_ble_eq_true rfl) rfl (fun E => ?_)
  refine pd_aload_n (i := 0) dX9_init_0 rfl rfl ?_
  obtain ⟨hg1, hf⟩ := pd_ig hf
  refine pd_oinit dX9_init_1 pq_787 pq_76 pq_77 hg1 pd_rmR2 (Nat.le_of_ble_eq_true rfl) ?_
  refine pd_aload_n (i := 0) dX9_init_4 rfl rfl ?_
  refine pd_sipush dX9_init_5 (by decide) ?_
  refine pd_newB (N := 1000) dX9_init_8 pq_61 (by decide) (by decide) ⟨by show _ ≤ 1; omega, by show _ ≤ 1000; omega⟩ ?_
  refine pd_topR (fun o4 eo4 => ?_)
  have hf := pd_lt hf eo4
  refine pd_topF (fun F3 eF3 => ?_)
  have hf := pd_lt hf eF3
  refine pd_topS (fun sh2 esh2 => ?_)
  have hf := pd_lt hf esh2
  clear esh2 eF3 eo4
  obtain ⟨hg5, hf⟩ := pd_ig hf
  refine pd_putF (n := o4) (x := pd_R o4) 0 dX9_init_10 (show vwCl[9]? = some (RX9, TX9, 9) from rfl) pin_9 tyX9_ok nmX9 (by decide) pq_170 rfl rfl rfl hg5 rfl (pd_nrR (Or.inr ⟨_, rfl⟩)) (pd_ftR (Or.inr ⟨_, rfl⟩)) ?_
  refine pd_topF (fun F6 eF6 => ?_)
  have hf := pd_lt hf eF6
  clear eF6
  obtain ⟨h1, h2⟩ := pd_inj hf
  subst h1 h2
  exact pd_vret dX9_init_13 rfl (by omega) (by omega)
set_option maxHeartbeats 4000000 in
set_option maxRecDepth 100000 in
theorem pkX1_init (l : Launch) {sh : pd_S} {F : pd_F} {x0 : Int} {shz : pd_S} {Fz : pd_F} (hf : pfX1_init sh F x0 = some (shz, Fz)) : pd_C l yX1_init (Cond.code yX1_init cX1_init 1 none :: pd_gt) (pd_rm 1 0 0) true 0 0 sh F [pd_R x0] none shz Fz := by
  unfold pfX1_init at hf
  refine pd_body (L := [pd_R x0]) (by decide +kernel) (Nat.le_of_ble_eq_true rfl) rfl (fun E => ?_)
  refine pd_aload_n (i := 0) dX1_init_0 rfl rfl ?_
  obtain ⟨hg1, hf⟩ := pd_ig hf
  refine pd_oinit dX1_init_1 pq_788 pq_76 pq_77 hg1 pd_rmR2 (Nat.le_of_ble_eq_true rfl) ?_
  obtain ⟨h1, h2⟩ := pd_inj hf
  subst h1 h2
  exact pd_vret dX1_init_4 rfl (by omega) (by omega)
set_option maxHeartbeats 4000000 in
set_option maxRecDepth 100000 in
theorem pkX5_init (l : Launch) {sh : pd_S} {F : pd_F} {x0 : Int} {shz : pd_S} {Fz : pd_F} (hf : pfX5_init sh F x0 = some (shz, Fz)) : pd_C l yX5_init (Cond.code yX5_init cX5_init 1 none :: pd_gt) (pd_rm 1 1 3) true 1 3 sh F [pd_R x0] none shz Fz := by
  unfold pfX5_init at hf
  refine pd_body (L := [pd_R x0]) (by decide +kernel) (Nat.le_of_ble_eq_true rfl) rfl (fun E => ?_)
  refine pd_aload_n (i := 0) dX5_init_0 rfl rfl ?_
  obtain ⟨hg1, hf⟩ := pd_ig hf
  refine pd_oinit dX5_init_1 pq_789 pq_76 pq_77 hg1 pd_rmR2 (Nat.le_of_ble_eq_true rfl) ?_
  refine pd_aload_n (i := 0) dX5_init_4 rfl rfl ?_
  refine pd_iconst dX5_init_5 (by decide) ?_
  refine pd_newI (N := 3) dX5_init_6 pq_790 (by decide) (by decide) ⟨by show _ ≤ 1; omega, by show _ ≤ 3; omega⟩ ?_
  refine pd_topR (fun o4 eo4 => ?_)
  have hf := pd_lt hf eo4
  refine pd_topF (fun F3 eF3 => ?_)
  have hf := pd_lt hf eF3
  refine pd_topS (fun sh2 esh2 => ?_)
  have hf := pd_lt hf esh2
  clear esh2 eF3 eo4
  obtain ⟨hg5, hf⟩ := pd_ig hf
  refine pd_putF (n := o4) (x := pd_R o4) 0 dX5_init_8 (show vwCl[5]? = some (RX5, TX5, 5) from rfl) pin_5 tyX5_ok nmX5 (by decide) pq_201 rfl rfl rfl hg5 rfl (pd_nrR (Or.inr ⟨_, rfl⟩)) (pd_ftR (Or.inr ⟨_, rfl⟩)) ?_
  refine pd_topF (fun F6 eF6 => ?_)
  have hf := pd_lt hf eF6
  clear eF6
  obtain ⟨h1, h2⟩ := pd_inj hf
  subst h1 h2
  exact pd_vret dX5_init_11 rfl (by omega) (by omega)
set_option maxHeartbeats 4000000 in
set_option maxRecDepth 100000 in
theorem pkX2_init (l : Launch) {sh : pd_S} {F : pd_F} {x0 : Int} {shz : pd_S} {Fz : pd_F} (hf : pfX2_init sh F x0 = some (shz, Fz)) : pd_C l yX2_init (Cond.code yX2_init cX2_init 1 none :: pd_gt) (pd_rm 1 3 22) true 3 22 sh F [pd_R x0] none shz Fz := by
  unfold pfX2_init at hf
  refine pd_body (L := [pd_R x0]) (by decide +kernel) (Nat.le_of_ble_eq_true rfl) rfl (fun E => ?_)
  refine pd_aload_n (i := 0) dX2_init_0 rfl rfl ?_
  obtain ⟨hg1, hf⟩ := pd_ig hf
  refine pd_oinit dX2_init_1 pq_791 pq_76 pq_77 hg1 pd_rmR2 (Nat.le_of_ble_eq_true rfl) ?_
  refine pd_aload_n (i := 0) dX2_init_4 rfl rfl ?_
  refine pd_iconst dX2_init_5 (by decide) ?_
  refine pd_newI (N := 5) dX2_init_6 pq_790 (by decide) (by decide) ⟨by show _ ≤ 3; omega, by show _ ≤ 22; omega⟩ ?_
  refine pd_topR (fun o4 eo4 => ?_)
  have hf := pd_lt hf eo4
  refine pd_topF (fun F3 eF3 => ?_)
  have hf := pd_lt hf eF3
  refine pd_topS (fun sh2 esh2 => ?_)
  have hf := pd_lt hf esh2
  clear esh2 eF3 eo4
  obtain ⟨hg5, hf⟩ := pd_ig hf
  refine pd_putF (n := o4) (x := pd_R o4) 0 dX2_init_8 (show vwCl[2]? = some (RX2, TX2, 8) from rfl) pin_2 tyX2_ok nmX2 (by decide) pq_204 rfl rfl rfl hg5 rfl (pd_nrR (Or.inr ⟨_, rfl⟩)) (pd_ftR (Or.inr ⟨_, rfl⟩)) ?_
  refine pd_topF (fun F6 eF6 => ?_)
  have hf := pd_lt hf eF6
  clear eF6
  refine pd_aload_n (i := 0) dX2_init_11 rfl rfl ?_
  refine pd_iconst dX2_init_12 (by decide) ?_
  refine pd_newI (N := 5) dX2_init_13 pq_790 (by decide) (by decide) ⟨by show _ ≤ 3; omega, by show _ ≤ 22; omega⟩ ?_
  refine pd_topR (fun o9 eo9 => ?_)
  have hf := pd_lt hf eo9
  refine pd_topF (fun F8 eF8 => ?_)
  have hf := pd_lt hf eF8
  refine pd_topS (fun sh7 esh7 => ?_)
  have hf := pd_lt hf esh7
  clear esh7 eF8 eo9
  obtain ⟨hg10, hf⟩ := pd_ig hf
  refine pd_putF (n := o9) (x := pd_R o9) 1 dX2_init_15 (show vwCl[2]? = some (RX2, TX2, 8) from rfl) pin_2 tyX2_ok nmX2 (by decide) pq_205 rfl rfl rfl hg10 rfl (pd_nrR (Or.inr ⟨_, rfl⟩)) (pd_ftR (Or.inr ⟨_, rfl⟩)) ?_
  refine pd_topF (fun F11 eF11 => ?_)
  have hf := pd_lt hf eF11
  clear eF11
  refine pd_aload_n (i := 0) dX2_init_18 rfl rfl ?_
  refine pd_bipush dX2_init_19 (by decide) ?_
  refine pd_newI (N := 12) dX2_init_21 pq_790 (by decide) (by decide) ⟨by show _ ≤ 3; omega, by show _ ≤ 22; omega⟩ ?_
  refine pd_topR (fun o14 eo14 => ?_)
  have hf := pd_lt hf eo14
  refine pd_topF (fun F13 eF13 => ?_)
  have hf := pd_lt hf eF13
  refine pd_topS (fun sh12 esh12 => ?_)
  have hf := pd_lt hf esh12
  clear esh12 eF13 eo14
  obtain ⟨hg15, hf⟩ := pd_ig hf
  refine pd_putF (n := o14) (x := pd_R o14) 2 dX2_init_23 (show vwCl[2]? = some (RX2, TX2, 8) from rfl) pin_2 tyX2_ok nmX2 (by decide) pq_206 rfl rfl rfl hg15 rfl (pd_nrR (Or.inr ⟨_, rfl⟩)) (pd_ftR (Or.inr ⟨_, rfl⟩)) ?_
  refine pd_topF (fun F16 eF16 => ?_)
  have hf := pd_lt hf eF16
  clear eF16
  obtain ⟨h1, h2⟩ := pd_inj hf
  subst h1 h2
  exact pd_vret dX2_init_26 rfl (by omega) (by omega)
set_option maxHeartbeats 4000000 in
set_option maxRecDepth 100000 in
theorem pkX8_init (l : Launch) {sh : pd_S} {F : pd_F} {x0 : Int} {shz : pd_S} {Fz : pd_F} (hf : pfX8_init sh F x0 = some (shz, Fz)) : pd_C l yX8_init (Cond.code yX8_init cX8_init 1 none :: pd_gt) (pd_rm 1 4 75) true 4 75 sh F [pd_R x0] none shz Fz := by
  unfold pfX8_init at hf
  refine pd_body (L := [pd_R x0]) (by decide +kernel) (Nat.le_of_ble_eq_true rfl) rfl (fun E => ?_)
  refine pd_aload_n (i := 0) dX8_init_0 rfl rfl ?_
  obtain ⟨hg1, hf⟩ := pd_ig hf
  refine pd_oinit dX8_init_1 pq_792 pq_76 pq_77 hg1 pd_rmR2 (Nat.le_of_ble_eq_true rfl) ?_
  refine pd_aload_n (i := 0) dX8_init_4 rfl rfl ?_
  refine pd_bipush dX8_init_5 (by decide) ?_
  refine pd_newI (N := 10) dX8_init_7 pq_790 (by decide) (by decide) ⟨by show _ ≤ 4; omega, by show _ ≤ 75; omega⟩ ?_
  refine pd_topR (fun o4 eo4 => ?_)
  have hf := pd_lt hf eo4
  refine pd_topF (fun F3 eF3 => ?_)
  have hf := pd_lt hf eF3
  refine pd_topS (fun sh2 esh2 => ?_)
  have hf := pd_lt hf esh2
  clear esh2 eF3 eo4
  obtain ⟨hg5, hf⟩ := pd_ig hf
  refine pd_putF (n := o4) (x := pd_R o4) 0 dX8_init_9 (show vwCl[8]? = some (RX8, TX8, 6) from rfl) pin_8 tyX8_ok nmX8 (by decide) pq_246 rfl rfl rfl hg5 rfl (pd_nrR (Or.inr ⟨_, rfl⟩)) (pd_ftR (Or.inr ⟨_, rfl⟩)) ?_
  refine pd_topF (fun F6 eF6 => ?_)
  have hf := pd_lt hf eF6
  clear eF6
  refine pd_aload_n (i := 0) dX8_init_12 rfl rfl ?_
  refine pd_iconst dX8_init_13 (by decide) ?_
  refine pd_newI (N := 3) dX8_init_14 pq_790 (by decide) (by decide) ⟨by show _ ≤ 4; omega, by show _ ≤ 75; omega⟩ ?_
  refine pd_topR (fun o9 eo9 => ?_)
  have hf := pd_lt hf eo9
  refine pd_topF (fun F8 eF8 => ?_)
  have hf := pd_lt hf eF8
  refine pd_topS (fun sh7 esh7 => ?_)
  have hf := pd_lt hf esh7
  clear esh7 eF8 eo9
  obtain ⟨hg10, hf⟩ := pd_ig hf
  refine pd_putF (n := o9) (x := pd_R o9) 1 dX8_init_16 (show vwCl[8]? = some (RX8, TX8, 6) from rfl) pin_8 tyX8_ok nmX8 (by decide) pq_249 rfl rfl rfl hg10 rfl (pd_nrR (Or.inr ⟨_, rfl⟩)) (pd_ftR (Or.inr ⟨_, rfl⟩)) ?_
  refine pd_topF (fun F11 eF11 => ?_)
  have hf := pd_lt hf eF11
  clear eF11
  refine pd_aload_n (i := 0) dX8_init_19 rfl rfl ?_
  refine pd_bipush dX8_init_20 (by decide) ?_
  refine pd_newI (N := 31) dX8_init_22 pq_790 (by decide) (by decide) ⟨by show _ ≤ 4; omega, by show _ ≤ 75; omega⟩ ?_
  refine pd_topR (fun o14 eo14 => ?_)
  have hf := pd_lt hf eo14
  refine pd_topF (fun F13 eF13 => ?_)
  have hf := pd_lt hf eF13
  refine pd_topS (fun sh12 esh12 => ?_)
  have hf := pd_lt hf esh12
  clear esh12 eF13 eo14
  obtain ⟨hg15, hf⟩ := pd_ig hf
  refine pd_putF (n := o14) (x := pd_R o14) 2 dX8_init_24 (show vwCl[8]? = some (RX8, TX8, 6) from rfl) pin_8 tyX8_ok nmX8 (by decide) pq_252 rfl rfl rfl hg15 rfl (pd_nrR (Or.inr ⟨_, rfl⟩)) (pd_ftR (Or.inr ⟨_, rfl⟩)) ?_
  refine pd_topF (fun F16 eF16 => ?_)
  have hf := pd_lt hf eF16
  clear eF16
  refine pd_aload_n (i := 0) dX8_init_27 rfl rfl ?_
  refine pd_bipush dX8_init_28 (by decide) ?_
  refine pd_newI (N := 31) dX8_init_30 pq_790 (by decide) (by decide) ⟨by show _ ≤ 4; omega, by show _ ≤ 75; omega⟩ ?_
  refine pd_topR (fun o19 eo19 => ?_)
  have hf := pd_lt hf eo19
  refine pd_topF (fun F18 eF18 => ?_)
  have hf := pd_lt hf eF18
  refine pd_topS (fun sh17 esh17 => ?_)
  have hf := pd_lt hf esh17
  clear esh17 eF18 eo19
  obtain ⟨hg20, hf⟩ := pd_ig hf
  refine pd_putF (n := o19) (x := pd_R o19) 3 dX8_init_32 (show vwCl[8]? = some (RX8, TX8, 6) from rfl) pin_8 tyX8_ok nmX8 (by decide) pq_253 rfl rfl rfl hg20 rfl (pd_nrR (Or.inr ⟨_, rfl⟩)) (pd_ftR (Or.inr ⟨_, rfl⟩)) ?_
  refine pd_topF (fun F21 eF21 => ?_)
  have hf := pd_lt hf eF21
  clear eF21
  refine pd_aload_n (i := 0) dX8_init_35 rfl rfl ?_
  refine pd_get (x := pd_R (F21 x0 1)) 1 dX8_init_36 (show vwCl[8]? = some (RX8, TX8, 6) from rfl) pin_8 (by decide) pq_249 hg20 rfl ?_
  refine pd_iconst dX8_init_39 (by decide) ?_
  refine pd_ldc (x := 100000) dX8_init_40 pq_793 (by decide +kernel) ?_
  obtain ⟨hg22, hf⟩ := pd_ig hf
  refine pd_iast dX8_init_42 hg22 ?_
  refine pd_topF (fun F23 eF23 => ?_)
  have hf := pd_lt hf eF23
  clear eF23
  refine pd_aload_n (i := 0) dX8_init_43 rfl rfl ?_
  refine pd_get (x := pd_R (F23 x0 1)) 1 dX8_init_44 (show vwCl[8]? = some (RX8, TX8, 6) from rfl) pin_8 (by decide) pq_249 hg20 rfl ?_
  refine pd_iconst dX8_init_47 (by decide) ?_
  refine pd_ldc (x := 50000) dX8_init_48 pq_794 (by decide +kernel) ?_
  obtain ⟨hg24, hf⟩ := pd_ig hf
  refine pd_iast dX8_init_50 hg24 ?_
  refine pd_topF (fun F25 eF25 => ?_)
  have hf := pd_lt hf eF25
  clear eF25
  obtain ⟨h1, h2⟩ := pd_inj hf
  subst h1 h2
  exact pd_vret dX8_init_51 rfl (by omega) (by omega)
set_option maxHeartbeats 4000000 in
set_option maxRecDepth 100000 in
theorem pkX0_init_b201 (E : pd_E) (l : Launch) {shz : pd_S} {Fz : pd_F} : ∀ (k : Nat) (cells slots : Nat) (hc0 : cells + (k * 1 + 0) ≤ 249) (hs0 : slots + (k * 4 + 0) ≤ 1646) (sh : pd_S) (F : pd_F) (x0 : Int) (x1 : Int), pfX0_init_b201 k sh F x0 x1 = some (shz, Fz) → pd_V E l (pd_rm 2 249 1646) (RX0, cX0_init, 2, none, "<init>") (pd_Qm E true none shz Fz 249 1646) true cells slots sh F 201 [pd_R x0, pd_I x1] [] := by
  intro k
  induction k with
  | zero => intro cells slots _ _ sh F x0 x1 hf; exact absurd hf (by unfold pfX0_init_b201; exact fun h => nomatch h)
  | succ k ih =>
    intro cells slots hc0 hs0 sh F x0 x1 hf
    unfold pfX0_init_b201 at hf
    refine pd_iload_n (i := 1) dX0_init_201 rfl rfl ?_
    refine pd_aload_n (i := 0) dX0_init_202 rfl rfl ?_
    obtain ⟨hg1, hf⟩ := pd_ig hf
    refine pd_get (x := pd_R (F x0 5)) 5 dX0_init_203 (show vwCl[0]? = some (RX0, TX0, 15) from rfl) pin_0 (by decide) pq_795 hg1 rfl ?_
    obtain ⟨hg2, hf⟩ := pd_ig hf
    refine pd_alen dX0_init_206 (by decide) hg2 ?_
    refine pd_icmp_ge (tgt := 229) dX0_init_207 (by decide) (fun hc => ?_) (fun hc => ?_)
    · have hf := pd_ip hf hc
      obtain ⟨h1, h2⟩ := pd_inj hf
      subst h1 h2
      exact pd_vret dX0_init_229 rfl (by omega) (by omega)
    · have hf := pd_in_ hf hc
      refine pd_aload_n (i := 0) dX0_init_210 rfl rfl ?_
      refine pd_get (x := pd_R (F x0 5)) 5 dX0_init_211 (show vwCl[0]? = some (RX0, TX0, 15) from rfl) pin_0 (by decide) pq_795 hg1 rfl ?_
      refine pd_iload_n (i := 1) dX0_init_214 rfl rfl ?_
      refine pd_new dX0_init_215 (show vwCl[1]? = some (RX1, TX1, 4) from rfl) pin_1 tyX1_ok pq_796 pq_797 pq_798 (by decide) ⟨by show _ ≤ 249; omega, by show _ ≤ 1646; omega⟩ ?_
      refine pd_topR (fun o5 eo5 => ?_)
      have hf := pd_lt hf eo5
      refine pd_topF (fun F4 eF4 => ?_)
      have hf := pd_lt hf eF4
      refine pd_topS (fun sh3 esh3 => ?_)
      have hf := pd_lt hf esh3
      clear esh3 eF4 eo5
      refine pd_dup dX0_init_218 rfl ?_
      obtain ⟨hg8, hf⟩ := pd_ig hf
      obtain ⟨sh7, F6, hr, hf⟩ := pd_ob2 hf
      refine pd_callIN (pkX1_init l hr) dX0_init_219 pq_799 pq_802 rfl hg8 (pd_okA (by omega) (by decide) (by omega) (by omega) pq_800 pq_801 (by decide) (show (parseMethodDescriptor yX1_init.desc).map (fun d => d.parameters.length) = some 0 from by decide +kernel)) (Nat.le_of_ble_eq_true rfl) rfl ?_
      obtain ⟨hg9, hf⟩ := pd_ig hf
      obtain ⟨hg10, hf⟩ := pd_ig hf
      refine pd_aast dX0_init_222 hg9 hg10 ?_
      refine pd_topF (fun F11 eF11 => ?_)
      have hf := pd_lt hf eF11
      clear eF11
      refine pd_iincN (L' := fun y => [pd_R x0, pd_I y]) dX0_init_223 rfl (by decide) (by decide) (fun _ => rfl) (fun x1_223 ex1_223 => ?_)
      have hf := pd_lt hf ex1_223
      clear ex1_223
      refine pd_goto (tgt := 201) dX0_init_226 (by decide) ?_
      exact pd_weak (L' := [pd_R x0, pd_I x1_223]) ⟨Or.inr rfl, Or.inr rfl, trivial⟩ (ih _ _ (by omega) (by omega) _ _ _ _ hf)
set_option maxHeartbeats 4000000 in
set_option maxRecDepth 100000 in
theorem pkX0_init_b199 (E : pd_E) (l : Launch) {shz : pd_S} {Fz : pd_F} (cells slots : Nat) (hc0 : cells + 20 ≤ 249) (hs0 : slots + 80 ≤ 1646) (sh : pd_S) (F : pd_F) (x0 : Int) (hf : pfX0_init_b199 sh F x0 = some (shz, Fz)) : pd_V E l (pd_rm 2 249 1646) (RX0, cX0_init, 2, none, "<init>") (pd_Qm E true none shz Fz 249 1646) true cells slots sh F 199 [pd_R x0, pd_N] [] := by
  unfold pfX0_init_b199 at hf
  refine pd_iconst dX0_init_199 (by decide) ?_
  refine pd_istore_n (L' := [pd_R x0, pd_I 0]) dX0_init_200 rfl (by decide) rfl ?_
  exact pd_weak (L' := [pd_R x0, pd_I 0]) ⟨Or.inr rfl, Or.inr rfl, trivial⟩ (pkX0_init_b201 E l 20 _ _ (by omega) (by omega) _ _ _ _ hf)
set_option maxHeartbeats 4000000 in
set_option maxRecDepth 100000 in
theorem pkX0_init_b171 (E : pd_E) (l : Launch) {shz : pd_S} {Fz : pd_F} : ∀ (k : Nat) (cells slots : Nat) (hc0 : cells + (k * 1 + 20) ≤ 249) (hs0 : slots + (k * 4 + 80) ≤ 1646) (sh : pd_S) (F : pd_F) (x0 : Int) (x1 : Int), pfX0_init_b171 k sh F x0 x1 = some (shz, Fz) → pd_V E l (pd_rm 2 249 1646) (RX0, cX0_init, 2, none, "<init>") (pd_Qm E true none shz Fz 249 1646) true cells slots sh F 171 [pd_R x0, pd_I x1] [] := by
  intro k
  induction k with
  | zero => intro cells slots _ _ sh F x0 x1 hf; exact absurd hf (by unfold pfX0_init_b171; exact fun h => nomatch h)
  | succ k ih =>
    intro cells slots hc0 hs0 sh F x0 x1 hf
    unfold pfX0_init_b171 at hf
    refine pd_iload_n (i := 1) dX0_init_171 rfl rfl ?_
    refine pd_aload_n (i := 0) dX0_init_172 rfl rfl ?_
    obtain ⟨hg12, hf⟩ := pd_ig hf
    refine pd_get (x := pd_R (F x0 4)) 4 dX0_init_173 (show vwCl[0]? = some (RX0, TX0, 15) from rfl) pin_0 (by decide) pq_803 hg12 rfl ?_
    obtain ⟨hg13, hf⟩ := pd_ig hf
    refine pd_alen dX0_init_176 (by decide) hg13 ?_
    refine pd_icmp_ge (tgt := 199) dX0_init_177 (by decide) (fun hc => ?_) (fun hc => ?_)
    · have hf := pd_ip hf hc
      exact pd_weak (L' := [pd_R x0, pd_N]) ⟨Or.inr rfl, Or.inl rfl, trivial⟩ (pkX0_init_b199 E l _ _ (by omega) (by omega) _ _ _ hf)
    · have hf := pd_in_ hf hc
      refine pd_aload_n (i := 0) dX0_init_180 rfl rfl ?_
      refine pd_get (x := pd_R (F x0 4)) 4 dX0_init_181 (show vwCl[0]? = some (RX0, TX0, 15) from rfl) pin_0 (by decide) pq_803 hg12 rfl ?_
      refine pd_iload_n (i := 1) dX0_init_184 rfl rfl ?_
      refine pd_new dX0_init_185 (show vwCl[1]? = some (RX1, TX1, 4) from rfl) pin_1 tyX1_ok pq_796 pq_797 pq_798 (by decide) ⟨by show _ ≤ 249; omega, by show _ ≤ 1646; omega⟩ ?_
      refine pd_topR (fun o16 eo16 => ?_)
      have hf := pd_lt hf eo16
      refine pd_topF (fun F15 eF15 => ?_)
      have hf := pd_lt hf eF15
      refine pd_topS (fun sh14 esh14 => ?_)
      have hf := pd_lt hf esh14
      clear esh14 eF15 eo16
      refine pd_dup dX0_init_188 rfl ?_
      obtain ⟨hg19, hf⟩ := pd_ig hf
      obtain ⟨sh18, F17, hr, hf⟩ := pd_ob2 hf
      refine pd_callIN (pkX1_init l hr) dX0_init_189 pq_799 pq_802 rfl hg19 (pd_okA (by omega) (by decide) (by omega) (by omega) pq_800 pq_801 (by decide) (show (parseMethodDescriptor yX1_init.desc).map (fun d => d.parameters.length) = some 0 from by decide +kernel)) (Nat.le_of_ble_eq_true rfl) rfl ?_
      obtain ⟨hg20, hf⟩ := pd_ig hf
      obtain ⟨hg21, hf⟩ := pd_ig hf
      refine pd_aast dX0_init_192 hg20 hg21 ?_
      refine pd_topF (fun F22 eF22 => ?_)
      have hf := pd_lt hf eF22
      clear eF22
      refine pd_iincN (L' := fun y => [pd_R x0, pd_I y]) dX0_init_193 rfl (by decide) (by decide) (fun _ => rfl) (fun x1_193 ex1_193 => ?_)
      have hf := pd_lt hf ex1_193
      clear ex1_193
      refine pd_goto (tgt := 171) dX0_init_196 (by decide) ?_
      exact pd_weak (L' := [pd_R x0, pd_I x1_193]) ⟨Or.inr rfl, Or.inr rfl, trivial⟩ (ih _ _ (by omega) (by omega) _ _ _ _ hf)
set_option maxHeartbeats 4000000 in
set_option maxRecDepth 100000 in
theorem pkX0_init_b169 (E : pd_E) (l : Launch) {shz : pd_S} {Fz : pd_F} (cells slots : Nat) (hc0 : cells + 40 ≤ 249) (hs0 : slots + 160 ≤ 1646) (sh : pd_S) (F : pd_F) (x0 : Int) (hf : pfX0_init_b169 sh F x0 = some (shz, Fz)) : pd_V E l (pd_rm 2 249 1646) (RX0, cX0_init, 2, none, "<init>") (pd_Qm E true none shz Fz 249 1646) true cells slots sh F 169 [pd_R x0, pd_N] [] := by
  unfold pfX0_init_b169 at hf
  refine pd_iconst dX0_init_169 (by decide) ?_
  refine pd_istore_n (L' := [pd_R x0, pd_I 0]) dX0_init_170 rfl (by decide) rfl ?_
  exact pd_weak (L' := [pd_R x0, pd_I 0]) ⟨Or.inr rfl, Or.inr rfl, trivial⟩ (pkX0_init_b171 E l 20 _ _ (by omega) (by omega) _ _ _ _ hf)
set_option maxHeartbeats 4000000 in
set_option maxRecDepth 100000 in
theorem pkX0_init_b141 (E : pd_E) (l : Launch) {shz : pd_S} {Fz : pd_F} : ∀ (k : Nat) (cells slots : Nat) (hc0 : cells + (k * 4 + 40) ≤ 249) (hs0 : slots + (k * 30 + 160) ≤ 1646) (sh : pd_S) (F : pd_F) (x0 : Int) (x1 : Int), pfX0_init_b141 k sh F x0 x1 = some (shz, Fz) → pd_V E l (pd_rm 2 249 1646) (RX0, cX0_init, 2, none, "<init>") (pd_Qm E true none shz Fz 249 1646) true cells slots sh F 141 [pd_R x0, pd_I x1] [] := by
  intro k
  induction k with
  | zero => intro cells slots _ _ sh F x0 x1 hf; exact absurd hf (by unfold pfX0_init_b141; exact fun h => nomatch h)
  | succ k ih =>
    intro cells slots hc0 hs0 sh F x0 x1 hf
    unfold pfX0_init_b141 at hf
    refine pd_iload_n (i := 1) dX0_init_141 rfl rfl ?_
    refine pd_aload_n (i := 0) dX0_init_142 rfl rfl ?_
    obtain ⟨hg23, hf⟩ := pd_ig hf
    refine pd_get (x := pd_R (F x0 2)) 2 dX0_init_143 (show vwCl[0]? = some (RX0, TX0, 15) from rfl) pin_0 (by decide) pq_226 hg23 rfl ?_
    obtain ⟨hg24, hf⟩ := pd_ig hf
    refine pd_alen dX0_init_146 (by decide) hg24 ?_
    refine pd_icmp_ge (tgt := 169) dX0_init_147 (by decide) (fun hc => ?_) (fun hc => ?_)
    · have hf := pd_ip hf hc
      exact pd_weak (L' := [pd_R x0, pd_N]) ⟨Or.inr rfl, Or.inl rfl, trivial⟩ (pkX0_init_b169 E l _ _ (by omega) (by omega) _ _ _ hf)
    · have hf := pd_in_ hf hc
      refine pd_aload_n (i := 0) dX0_init_150 rfl rfl ?_
      refine pd_get (x := pd_R (F x0 2)) 2 dX0_init_151 (show vwCl[0]? = some (RX0, TX0, 15) from rfl) pin_0 (by decide) pq_226 hg23 rfl ?_
      refine pd_iload_n (i := 1) dX0_init_154 rfl rfl ?_
      refine pd_new dX0_init_155 (show vwCl[2]? = some (RX2, TX2, 8) from rfl) pin_2 tyX2_ok pq_804 pq_805 pq_806 (by decide) ⟨by show _ ≤ 249; omega, by show _ ≤ 1646; omega⟩ ?_
      refine pd_topR (fun o27 eo27 => ?_)
      have hf := pd_lt hf eo27
      refine pd_topF (fun F26 eF26 => ?_)
      have hf := pd_lt hf eF26
      refine pd_topS (fun sh25 esh25 => ?_)
      have hf := pd_lt hf esh25
      clear esh25 eF26 eo27
      refine pd_dup dX0_init_158 rfl ?_
      obtain ⟨hg30, hf⟩ := pd_ig hf
      obtain ⟨sh29, F28, hr, hf⟩ := pd_ob2 hf
      refine pd_callIN (pkX2_init l hr) dX0_init_159 pq_807 pq_810 rfl hg30 (pd_okA (by omega) (by decide) (by omega) (by omega) pq_808 pq_809 (by decide) (show (parseMethodDescriptor yX2_init.desc).map (fun d => d.parameters.length) = some 0 from by decide +kernel)) (Nat.le_of_ble_eq_true rfl) rfl ?_
      obtain ⟨hg31, hf⟩ := pd_ig hf
      obtain ⟨hg32, hf⟩ := pd_ig hf
      refine pd_aast dX0_init_162 hg31 hg32 ?_
      refine pd_topF (fun F33 eF33 => ?_)
      have hf := pd_lt hf eF33
      clear eF33
      refine pd_iincN (L' := fun y => [pd_R x0, pd_I y]) dX0_init_163 rfl (by decide) (by decide) (fun _ => rfl) (fun x1_163 ex1_163 => ?_)
      have hf := pd_lt hf ex1_163
      clear ex1_163
      refine pd_goto (tgt := 141) dX0_init_166 (by decide) ?_
      exact pd_weak (L' := [pd_R x0, pd_I x1_163]) ⟨Or.inr rfl, Or.inr rfl, trivial⟩ (ih _ _ (by omega) (by omega) _ _ _ _ hf)
set_option maxHeartbeats 4000000 in
set_option maxRecDepth 100000 in
theorem pkX0_init_b139 (E : pd_E) (l : Launch) {shz : pd_S} {Fz : pd_F} (cells slots : Nat) (hc0 : cells + 120 ≤ 249) (hs0 : slots + 760 ≤ 1646) (sh : pd_S) (F : pd_F) (x0 : Int) (hf : pfX0_init_b139 sh F x0 = some (shz, Fz)) : pd_V E l (pd_rm 2 249 1646) (RX0, cX0_init, 2, none, "<init>") (pd_Qm E true none shz Fz 249 1646) true cells slots sh F 139 [pd_R x0, pd_N] [] := by
  unfold pfX0_init_b139 at hf
  refine pd_iconst dX0_init_139 (by decide) ?_
  refine pd_istore_n (L' := [pd_R x0, pd_I 0]) dX0_init_140 rfl (by decide) rfl ?_
  exact pd_weak (L' := [pd_R x0, pd_I 0]) ⟨Or.inr rfl, Or.inr rfl, trivial⟩ (pkX0_init_b141 E l 20 _ _ (by omega) (by omega) _ _ _ _ hf)
set_option maxHeartbeats 4000000 in
set_option maxRecDepth 100000 in
theorem pkX0_init_b111 (E : pd_E) (l : Launch) {shz : pd_S} {Fz : pd_F} : ∀ (k : Nat) (cells slots : Nat) (hc0 : cells + (k * 4 + 120) ≤ 249) (hs0 : slots + (k * 30 + 760) ≤ 1646) (sh : pd_S) (F : pd_F) (x0 : Int) (x1 : Int), pfX0_init_b111 k sh F x0 x1 = some (shz, Fz) → pd_V E l (pd_rm 2 249 1646) (RX0, cX0_init, 2, none, "<init>") (pd_Qm E true none shz Fz 249 1646) true cells slots sh F 111 [pd_R x0, pd_I x1] [] := by
  intro k
  induction k with
  | zero => intro cells slots _ _ sh F x0 x1 hf; exact absurd hf (by unfold pfX0_init_b111; exact fun h => nomatch h)
  | succ k ih =>
    intro cells slots hc0 hs0 sh F x0 x1 hf
    unfold pfX0_init_b111 at hf
    refine pd_iload_n (i := 1) dX0_init_111 rfl rfl ?_
    refine pd_aload_n (i := 0) dX0_init_112 rfl rfl ?_
    obtain ⟨hg34, hf⟩ := pd_ig hf
    refine pd_get (x := pd_R (F x0 1)) 1 dX0_init_113 (show vwCl[0]? = some (RX0, TX0, 15) from rfl) pin_0 (by decide) pq_228 hg34 rfl ?_
    obtain ⟨hg35, hf⟩ := pd_ig hf
    refine pd_alen dX0_init_116 (by decide) hg35 ?_
    refine pd_icmp_ge (tgt := 139) dX0_init_117 (by decide) (fun hc => ?_) (fun hc => ?_)
    · have hf := pd_ip hf hc
      exact pd_weak (L' := [pd_R x0, pd_N]) ⟨Or.inr rfl, Or.inl rfl, trivial⟩ (pkX0_init_b139 E l _ _ (by omega) (by omega) _ _ _ hf)
    · have hf := pd_in_ hf hc
      refine pd_aload_n (i := 0) dX0_init_120 rfl rfl ?_
      refine pd_get (x := pd_R (F x0 1)) 1 dX0_init_121 (show vwCl[0]? = some (RX0, TX0, 15) from rfl) pin_0 (by decide) pq_228 hg34 rfl ?_
      refine pd_iload_n (i := 1) dX0_init_124 rfl rfl ?_
      refine pd_new dX0_init_125 (show vwCl[2]? = some (RX2, TX2, 8) from rfl) pin_2 tyX2_ok pq_804 pq_805 pq_806 (by decide) ⟨by show _ ≤ 249; omega, by show _ ≤ 1646; omega⟩ ?_
      refine pd_topR (fun o38 eo38 => ?_)
      have hf := pd_lt hf eo38
      refine pd_topF (fun F37 eF37 => ?_)
      have hf := pd_lt hf eF37
      refine pd_topS (fun sh36 esh36 => ?_)
      have hf := pd_lt hf esh36
      clear esh36 eF37 eo38
      refine pd_dup dX0_init_128 rfl ?_
      obtain ⟨hg41, hf⟩ := pd_ig hf
      obtain ⟨sh40, F39, hr, hf⟩ := pd_ob2 hf
      refine pd_callIN (pkX2_init l hr) dX0_init_129 pq_807 pq_810 rfl hg41 (pd_okA (by omega) (by decide) (by omega) (by omega) pq_808 pq_809 (by decide) (show (parseMethodDescriptor yX2_init.desc).map (fun d => d.parameters.length) = some 0 from by decide +kernel)) (Nat.le_of_ble_eq_true rfl) rfl ?_
      obtain ⟨hg42, hf⟩ := pd_ig hf
      obtain ⟨hg43, hf⟩ := pd_ig hf
      refine pd_aast dX0_init_132 hg42 hg43 ?_
      refine pd_topF (fun F44 eF44 => ?_)
      have hf := pd_lt hf eF44
      clear eF44
      refine pd_iincN (L' := fun y => [pd_R x0, pd_I y]) dX0_init_133 rfl (by decide) (by decide) (fun _ => rfl) (fun x1_133 ex1_133 => ?_)
      have hf := pd_lt hf ex1_133
      clear ex1_133
      refine pd_goto (tgt := 111) dX0_init_136 (by decide) ?_
      exact pd_weak (L' := [pd_R x0, pd_I x1_133]) ⟨Or.inr rfl, Or.inr rfl, trivial⟩ (ih _ _ (by omega) (by omega) _ _ _ _ hf)
set_option maxHeartbeats 4000000 in
set_option maxRecDepth 100000 in
theorem pkX0_init_b109 (E : pd_E) (l : Launch) {shz : pd_S} {Fz : pd_F} (cells slots : Nat) (hc0 : cells + 200 ≤ 249) (hs0 : slots + 1360 ≤ 1646) (sh : pd_S) (F : pd_F) (x0 : Int) (hf : pfX0_init_b109 sh F x0 = some (shz, Fz)) : pd_V E l (pd_rm 2 249 1646) (RX0, cX0_init, 2, none, "<init>") (pd_Qm E true none shz Fz 249 1646) true cells slots sh F 109 [pd_R x0, pd_N] [] := by
  unfold pfX0_init_b109 at hf
  refine pd_iconst dX0_init_109 (by decide) ?_
  refine pd_istore_n (L' := [pd_R x0, pd_I 0]) dX0_init_110 rfl (by decide) rfl ?_
  exact pd_weak (L' := [pd_R x0, pd_I 0]) ⟨Or.inr rfl, Or.inr rfl, trivial⟩ (pkX0_init_b111 E l 20 _ _ (by omega) (by omega) _ _ _ _ hf)
set_option maxHeartbeats 4000000 in
set_option maxRecDepth 100000 in
theorem pkX0_init_b81 (E : pd_E) (l : Launch) {shz : pd_S} {Fz : pd_F} : ∀ (k : Nat) (cells slots : Nat) (hc0 : cells + (k * 2 + 200) ≤ 249) (hs0 : slots + (k * 8 + 1360) ≤ 1646) (sh : pd_S) (F : pd_F) (x0 : Int) (x1 : Int), pfX0_init_b81 k sh F x0 x1 = some (shz, Fz) → pd_V E l (pd_rm 2 249 1646) (RX0, cX0_init, 2, none, "<init>") (pd_Qm E true none shz Fz 249 1646) true cells slots sh F 81 [pd_R x0, pd_I x1] [] := by
  intro k
  induction k with
  | zero => intro cells slots _ _ sh F x0 x1 hf; exact absurd hf (by unfold pfX0_init_b81; exact fun h => nomatch h)
  | succ k ih =>
    intro cells slots hc0 hs0 sh F x0 x1 hf
    unfold pfX0_init_b81 at hf
    refine pd_iload_n (i := 1) dX0_init_81 rfl rfl ?_
    refine pd_aload_n (i := 0) dX0_init_82 rfl rfl ?_
    obtain ⟨hg45, hf⟩ := pd_ig hf
    refine pd_get (x := pd_R (F x0 0)) 0 dX0_init_83 (show vwCl[0]? = some (RX0, TX0, 15) from rfl) pin_0 (by decide) pq_229 hg45 rfl ?_
    obtain ⟨hg46, hf⟩ := pd_ig hf
    refine pd_alen dX0_init_86 (by decide) hg46 ?_
    refine pd_icmp_ge (tgt := 109) dX0_init_87 (by decide) (fun hc => ?_) (fun hc => ?_)
    · have hf := pd_ip hf hc
      exact pd_weak (L' := [pd_R x0, pd_N]) ⟨Or.inr rfl, Or.inl rfl, trivial⟩ (pkX0_init_b109 E l _ _ (by omega) (by omega) _ _ _ hf)
    · have hf := pd_in_ hf hc
      refine pd_aload_n (i := 0) dX0_init_90 rfl rfl ?_
      refine pd_get (x := pd_R (F x0 0)) 0 dX0_init_91 (show vwCl[0]? = some (RX0, TX0, 15) from rfl) pin_0 (by decide) pq_229 hg45 rfl ?_
      refine pd_iload_n (i := 1) dX0_init_94 rfl rfl ?_
      refine pd_new dX0_init_95 (show vwCl[5]? = some (RX5, TX5, 5) from rfl) pin_5 tyX5_ok pq_811 pq_812 pq_813 (by decide) ⟨by show _ ≤ 249; omega, by show _ ≤ 1646; omega⟩ ?_
      refine pd_topR (fun o49 eo49 => ?_)
      have hf := pd_lt hf eo49
      refine pd_topF (fun F48 eF48 => ?_)
      have hf := pd_lt hf eF48
      refine pd_topS (fun sh47 esh47 => ?_)
      have hf := pd_lt hf esh47
      clear esh47 eF48 eo49
      refine pd_dup dX0_init_98 rfl ?_
      obtain ⟨hg52, hf⟩ := pd_ig hf
      obtain ⟨sh51, F50, hr, hf⟩ := pd_ob2 hf
      refine pd_callIN (pkX5_init l hr) dX0_init_99 pq_814 pq_817 rfl hg52 (pd_okA (by omega) (by decide) (by omega) (by omega) pq_815 pq_816 (by decide) (show (parseMethodDescriptor yX5_init.desc).map (fun d => d.parameters.length) = some 0 from by decide +kernel)) (Nat.le_of_ble_eq_true rfl) rfl ?_
      obtain ⟨hg53, hf⟩ := pd_ig hf
      obtain ⟨hg54, hf⟩ := pd_ig hf
      refine pd_aast dX0_init_102 hg53 hg54 ?_
      refine pd_topF (fun F55 eF55 => ?_)
      have hf := pd_lt hf eF55
      clear eF55
      refine pd_iincN (L' := fun y => [pd_R x0, pd_I y]) dX0_init_103 rfl (by decide) (by decide) (fun _ => rfl) (fun x1_103 ex1_103 => ?_)
      have hf := pd_lt hf ex1_103
      clear ex1_103
      refine pd_goto (tgt := 81) dX0_init_106 (by decide) ?_
      exact pd_weak (L' := [pd_R x0, pd_I x1_103]) ⟨Or.inr rfl, Or.inr rfl, trivial⟩ (ih _ _ (by omega) (by omega) _ _ _ _ hf)
set_option maxHeartbeats 4000000 in
set_option maxRecDepth 100000 in
theorem pkX0_init (l : Launch) {sh : pd_S} {F : pd_F} {x0 : Int} {shz : pd_S} {Fz : pd_F} (hf : pfX0_init sh F x0 = some (shz, Fz)) : pd_C l yX0_init (Cond.code yX0_init cX0_init 2 none :: pd_gt) (pd_rm 2 249 1646) true 249 1646 sh F [pd_R x0] none shz Fz := by
  unfold pfX0_init at hf
  refine pd_body (L := [pd_R x0, pd_N]) (by decide +kernel) (Nat.le_of_ble_eq_true rfl) rfl (fun E => ?_)
  refine pd_aload_n (i := 0) dX0_init_0 rfl rfl ?_
  obtain ⟨hg56, hf⟩ := pd_ig hf
  refine pd_oinit dX0_init_1 pq_818 pq_76 pq_77 hg56 pd_rmR2 (Nat.le_of_ble_eq_true rfl) ?_
  refine pd_aload_n (i := 0) dX0_init_4 rfl rfl ?_
  refine pd_bipush dX0_init_5 (by decide) ?_
  refine pd_newq (N := 12) dX0_init_7 (show vwCl[5]? = some ("PayoutDesk$Person", TX5, 5) from rfl) pq_811 pq_819 (by decide) (by decide) ⟨by show _ ≤ 249; omega, by show _ ≤ 1646; omega⟩ ?_
  refine pd_topR (fun o59 eo59 => ?_)
  have hf := pd_lt hf eo59
  refine pd_topF (fun F58 eF58 => ?_)
  have hf := pd_lt hf eF58
  refine pd_topS (fun sh57 esh57 => ?_)
  have hf := pd_lt hf esh57
  clear esh57 eF58 eo59
  obtain ⟨hg60, hf⟩ := pd_ig hf
  refine pd_putF (n := o59) (x := pd_R o59) 0 dX0_init_10 (show vwCl[0]? = some (RX0, TX0, 15) from rfl) pin_0 tyX0_ok nmX0 (by decide) pq_229 rfl rfl rfl hg60 rfl (pd_nrR (Or.inr ⟨_, rfl⟩)) (pd_ftR (Or.inr ⟨_, rfl⟩)) ?_
  refine pd_topF (fun F61 eF61 => ?_)
  have hf := pd_lt hf eF61
  clear eF61
  refine pd_aload_n (i := 0) dX0_init_13 rfl rfl ?_
  refine pd_iconst dX0_init_14 (by decide) ?_
  refine pd_newq (N := 5) dX0_init_15 (show vwCl[2]? = some ("PayoutDesk$Group", TX2, 8) from rfl) pq_804 pq_820 (by decide) (by decide) ⟨by show _ ≤ 249; omega, by show _ ≤ 1646; omega⟩ ?_
  refine pd_topR (fun o64 eo64 => ?_)
  have hf := pd_lt hf eo64
  refine pd_topF (fun F63 eF63 => ?_)
  have hf := pd_lt hf eF63
  refine pd_topS (fun sh62 esh62 => ?_)
  have hf := pd_lt hf esh62
  clear esh62 eF63 eo64
  obtain ⟨hg65, hf⟩ := pd_ig hf
  refine pd_putF (n := o64) (x := pd_R o64) 1 dX0_init_18 (show vwCl[0]? = some (RX0, TX0, 15) from rfl) pin_0 tyX0_ok nmX0 (by decide) pq_228 rfl rfl rfl hg65 rfl (pd_nrR (Or.inr ⟨_, rfl⟩)) (pd_ftR (Or.inr ⟨_, rfl⟩)) ?_
  refine pd_topF (fun F66 eF66 => ?_)
  have hf := pd_lt hf eF66
  clear eF66
  refine pd_aload_n (i := 0) dX0_init_21 rfl rfl ?_
  refine pd_bipush dX0_init_22 (by decide) ?_
  refine pd_newq (N := 10) dX0_init_24 (show vwCl[2]? = some ("PayoutDesk$Group", TX2, 8) from rfl) pq_804 pq_820 (by decide) (by decide) ⟨by show _ ≤ 249; omega, by show _ ≤ 1646; omega⟩ ?_
  refine pd_topR (fun o69 eo69 => ?_)
  have hf := pd_lt hf eo69
  refine pd_topF (fun F68 eF68 => ?_)
  have hf := pd_lt hf eF68
  refine pd_topS (fun sh67 esh67 => ?_)
  have hf := pd_lt hf esh67
  clear esh67 eF68 eo69
  obtain ⟨hg70, hf⟩ := pd_ig hf
  refine pd_putF (n := o69) (x := pd_R o69) 2 dX0_init_27 (show vwCl[0]? = some (RX0, TX0, 15) from rfl) pin_0 tyX0_ok nmX0 (by decide) pq_226 rfl rfl rfl hg70 rfl (pd_nrR (Or.inr ⟨_, rfl⟩)) (pd_ftR (Or.inr ⟨_, rfl⟩)) ?_
  refine pd_topF (fun F71 eF71 => ?_)
  have hf := pd_lt hf eF71
  clear eF71
  refine pd_aload_n (i := 0) dX0_init_30 rfl rfl ?_
  refine pd_bipush dX0_init_31 (by decide) ?_
  refine pd_newI (N := 10) dX0_init_33 pq_790 (by decide) (by decide) ⟨by show _ ≤ 249; omega, by show _ ≤ 1646; omega⟩ ?_
  refine pd_topR (fun o74 eo74 => ?_)
  have hf := pd_lt hf eo74
  refine pd_topF (fun F73 eF73 => ?_)
  have hf := pd_lt hf eF73
  refine pd_topS (fun sh72 esh72 => ?_)
  have hf := pd_lt hf esh72
  clear esh72 eF73 eo74
  obtain ⟨hg75, hf⟩ := pd_ig hf
  refine pd_putF (n := o74) (x := pd_R o74) 3 dX0_init_35 (show vwCl[0]? = some (RX0, TX0, 15) from rfl) pin_0 tyX0_ok nmX0 (by decide) pq_821 rfl rfl rfl hg75 rfl (pd_nrR (Or.inr ⟨_, rfl⟩)) (pd_ftR (Or.inr ⟨_, rfl⟩)) ?_
  refine pd_topF (fun F76 eF76 => ?_)
  have hf := pd_lt hf eF76
  clear eF76
  refine pd_aload_n (i := 0) dX0_init_38 rfl rfl ?_
  refine pd_bipush dX0_init_39 (by decide) ?_
  refine pd_newq (N := 6) dX0_init_41 (show vwCl[1]? = some ("PayoutDesk$Dated", TX1, 4) from rfl) pq_796 pq_822 (by decide) (by decide) ⟨by show _ ≤ 249; omega, by show _ ≤ 1646; omega⟩ ?_
  refine pd_topR (fun o79 eo79 => ?_)
  have hf := pd_lt hf eo79
  refine pd_topF (fun F78 eF78 => ?_)
  have hf := pd_lt hf eF78
  refine pd_topS (fun sh77 esh77 => ?_)
  have hf := pd_lt hf esh77
  clear esh77 eF78 eo79
  obtain ⟨hg80, hf⟩ := pd_ig hf
  refine pd_putF (n := o79) (x := pd_R o79) 4 dX0_init_44 (show vwCl[0]? = some (RX0, TX0, 15) from rfl) pin_0 tyX0_ok nmX0 (by decide) pq_803 rfl rfl rfl hg80 rfl (pd_nrR (Or.inr ⟨_, rfl⟩)) (pd_ftR (Or.inr ⟨_, rfl⟩)) ?_
  refine pd_topF (fun F81 eF81 => ?_)
  have hf := pd_lt hf eF81
  clear eF81
  refine pd_aload_n (i := 0) dX0_init_47 rfl rfl ?_
  refine pd_bipush dX0_init_48 (by decide) ?_
  refine pd_newq (N := 8) dX0_init_50 (show vwCl[1]? = some ("PayoutDesk$Dated", TX1, 4) from rfl) pq_796 pq_822 (by decide) (by decide) ⟨by show _ ≤ 249; omega, by show _ ≤ 1646; omega⟩ ?_
  refine pd_topR (fun o84 eo84 => ?_)
  have hf := pd_lt hf eo84
  refine pd_topF (fun F83 eF83 => ?_)
  have hf := pd_lt hf eF83
  refine pd_topS (fun sh82 esh82 => ?_)
  have hf := pd_lt hf esh82
  clear esh82 eF83 eo84
  obtain ⟨hg85, hf⟩ := pd_ig hf
  refine pd_putF (n := o84) (x := pd_R o84) 5 dX0_init_53 (show vwCl[0]? = some (RX0, TX0, 15) from rfl) pin_0 tyX0_ok nmX0 (by decide) pq_795 rfl rfl rfl hg85 rfl (pd_nrR (Or.inr ⟨_, rfl⟩)) (pd_ftR (Or.inr ⟨_, rfl⟩)) ?_
  refine pd_topF (fun F86 eF86 => ?_)
  have hf := pd_lt hf eF86
  clear eF86
  refine pd_aload_n (i := 0) dX0_init_56 rfl rfl ?_
  refine pd_iconst dX0_init_57 (by decide) ?_
  refine pd_newI (N := 3) dX0_init_58 pq_790 (by decide) (by decide) ⟨by show _ ≤ 249; omega, by show _ ≤ 1646; omega⟩ ?_
  refine pd_topR (fun o89 eo89 => ?_)
  have hf := pd_lt hf eo89
  refine pd_topF (fun F88 eF88 => ?_)
  have hf := pd_lt hf eF88
  refine pd_topS (fun sh87 esh87 => ?_)
  have hf := pd_lt hf esh87
  clear esh87 eF88 eo89
  obtain ⟨hg90, hf⟩ := pd_ig hf
  refine pd_putF (n := o89) (x := pd_R o89) 6 dX0_init_60 (show vwCl[0]? = some (RX0, TX0, 15) from rfl) pin_0 tyX0_ok nmX0 (by decide) pq_222 rfl rfl rfl hg90 rfl (pd_nrR (Or.inr ⟨_, rfl⟩)) (pd_ftR (Or.inr ⟨_, rfl⟩)) ?_
  refine pd_topF (fun F91 eF91 => ?_)
  have hf := pd_lt hf eF91
  clear eF91
  refine pd_aload_n (i := 0) dX0_init_63 rfl rfl ?_
  refine pd_bipush dX0_init_64 (by decide) ?_
  refine pd_newI (N := 36) dX0_init_66 pq_790 (by decide) (by decide) ⟨by show _ ≤ 249; omega, by show _ ≤ 1646; omega⟩ ?_
  refine pd_topR (fun o94 eo94 => ?_)
  have hf := pd_lt hf eo94
  refine pd_topF (fun F93 eF93 => ?_)
  have hf := pd_lt hf eF93
  refine pd_topS (fun sh92 esh92 => ?_)
  have hf := pd_lt hf esh92
  clear esh92 eF93 eo94
  obtain ⟨hg95, hf⟩ := pd_ig hf
  refine pd_putF (n := o94) (x := pd_R o94) 7 dX0_init_68 (show vwCl[0]? = some (RX0, TX0, 15) from rfl) pin_0 tyX0_ok nmX0 (by decide) pq_225 rfl rfl rfl hg95 rfl (pd_nrR (Or.inr ⟨_, rfl⟩)) (pd_ftR (Or.inr ⟨_, rfl⟩)) ?_
  refine pd_topF (fun F96 eF96 => ?_)
  have hf := pd_lt hf eF96
  clear eF96
  refine pd_aload_n (i := 0) dX0_init_71 rfl rfl ?_
  refine pd_bipush dX0_init_72 (by decide) ?_
  refine pd_newI (N := 36) dX0_init_74 pq_790 (by decide) (by decide) ⟨by show _ ≤ 249; omega, by show _ ≤ 1646; omega⟩ ?_
  refine pd_topR (fun o99 eo99 => ?_)
  have hf := pd_lt hf eo99
  refine pd_topF (fun F98 eF98 => ?_)
  have hf := pd_lt hf eF98
  refine pd_topS (fun sh97 esh97 => ?_)
  have hf := pd_lt hf esh97
  clear esh97 eF98 eo99
  obtain ⟨hg100, hf⟩ := pd_ig hf
  refine pd_putF (n := o99) (x := pd_R o99) 8 dX0_init_76 (show vwCl[0]? = some (RX0, TX0, 15) from rfl) pin_0 tyX0_ok nmX0 (by decide) pq_231 rfl rfl rfl hg100 rfl (pd_nrR (Or.inr ⟨_, rfl⟩)) (pd_ftR (Or.inr ⟨_, rfl⟩)) ?_
  refine pd_topF (fun F101 eF101 => ?_)
  have hf := pd_lt hf eF101
  clear eF101
  refine pd_iconst dX0_init_79 (by decide) ?_
  refine pd_istore_n (L' := [pd_R x0, pd_I 0]) dX0_init_80 rfl (by decide) rfl ?_
  exact pd_weak (L' := [pd_R x0, pd_I 0]) ⟨Or.inr rfl, Or.inr rfl, trivial⟩ (pkX0_init_b81 E l 20 _ _ (by omega) (by omega) _ _ _ _ hf)
set_option maxHeartbeats 4000000 in
set_option maxRecDepth 100000 in
theorem pkX3_init_b60 (E : pd_E) (l : Launch) {shz : pd_S} {Fz : pd_F} : ∀ (k : Nat) (cells slots : Nat) (hc0 : cells + (k * 5 + 0) ≤ 203) (hs0 : slots + (k * 81 + 0) ≤ 3262) (sh : pd_S) (F : pd_F) (x0 : Int) (x1 : Int), pfX3_init_b60 k sh F x0 x1 = some (shz, Fz) → pd_V E l (pd_rm 2 203 3262) (RX3, cX3_init, 2, none, "<init>") (pd_Qm E true none shz Fz 203 3262) true cells slots sh F 60 [pd_R x0, pd_I x1] [] := by
  intro k
  induction k with
  | zero => intro cells slots _ _ sh F x0 x1 hf; exact absurd hf (by unfold pfX3_init_b60; exact fun h => nomatch h)
  | succ k ih =>
    intro cells slots hc0 hs0 sh F x0 x1 hf
    unfold pfX3_init_b60 at hf
    refine pd_iload_n (i := 1) dX3_init_60 rfl rfl ?_
    refine pd_aload_n (i := 0) dX3_init_61 rfl rfl ?_
    obtain ⟨hg1, hf⟩ := pd_ig hf
    refine pd_get (x := pd_R (F x0 1)) 1 dX3_init_62 (show vwCl[3]? = some (RX3, TX3, 5) from rfl) pin_3 (by decide) pq_823 hg1 rfl ?_
    obtain ⟨hg2, hf⟩ := pd_ig hf
    refine pd_alen dX3_init_65 (by decide) hg2 ?_
    refine pd_icmp_ge (tgt := 88) dX3_init_66 (by decide) (fun hc => ?_) (fun hc => ?_)
    · have hf := pd_ip hf hc
      obtain ⟨h1, h2⟩ := pd_inj hf
      subst h1 h2
      exact pd_vret dX3_init_88 rfl (by omega) (by omega)
    · have hf := pd_in_ hf hc
      refine pd_aload_n (i := 0) dX3_init_69 rfl rfl ?_
      refine pd_get (x := pd_R (F x0 1)) 1 dX3_init_70 (show vwCl[3]? = some (RX3, TX3, 5) from rfl) pin_3 (by decide) pq_823 hg1 rfl ?_
      refine pd_iload_n (i := 1) dX3_init_73 rfl rfl ?_
      refine pd_new dX3_init_74 (show vwCl[8]? = some (RX8, TX8, 6) from rfl) pin_8 tyX8_ok pq_824 pq_825 pq_826 (by decide) ⟨by show _ ≤ 203; omega, by show _ ≤ 3262; omega⟩ ?_
      refine pd_topR (fun o5 eo5 => ?_)
      have hf := pd_lt hf eo5
      refine pd_topF (fun F4 eF4 => ?_)
      have hf := pd_lt hf eF4
      refine pd_topS (fun sh3 esh3 => ?_)
      have hf := pd_lt hf esh3
      clear esh3 eF4 eo5
      refine pd_dup dX3_init_77 rfl ?_
      obtain ⟨hg8, hf⟩ := pd_ig hf
      obtain ⟨sh7, F6, hr, hf⟩ := pd_ob2 hf
      refine pd_callI (pkX8_init l hr) dX3_init_78 pq_827 pq_830 rfl hg8 (pd_okA (by omega) (by decide) (by omega) (by omega) pq_828 pq_829 (by decide) (show (parseMethodDescriptor yX8_init.desc).map (fun d => d.parameters.length) = some 0 from by decide +kernel)) (Nat.le_of_ble_eq_true rfl) rfl ?_
      obtain ⟨hg9, hf⟩ := pd_ig hf
      obtain ⟨hg10, hf⟩ := pd_ig hf
      refine pd_aast dX3_init_81 hg9 hg10 ?_
      refine pd_topF (fun F11 eF11 => ?_)
      have hf := pd_lt hf eF11
      clear eF11
      refine pd_iincN (L' := fun y => [pd_R x0, pd_I y]) dX3_init_82 rfl (by decide) (by decide) (fun _ => rfl) (fun x1_82 ex1_82 => ?_)
      have hf := pd_lt hf ex1_82
      clear ex1_82
      refine pd_goto (tgt := 60) dX3_init_85 (by decide) ?_
      exact pd_weak (L' := [pd_R x0, pd_I x1_82]) ⟨Or.inr rfl, Or.inr rfl, trivial⟩ (ih _ _ (by omega) (by omega) _ _ _ _ hf)
set_option maxHeartbeats 4000000 in
set_option maxRecDepth 100000 in
theorem pkX3_init_b58 (E : pd_E) (l : Launch) {shz : pd_S} {Fz : pd_F} (cells slots : Nat) (hc0 : cells + 100 ≤ 203) (hs0 : slots + 1620 ≤ 3262) (sh : pd_S) (F : pd_F) (x0 : Int) (hf : pfX3_init_b58 sh F x0 = some (shz, Fz)) : pd_V E l (pd_rm 2 203 3262) (RX3, cX3_init, 2, none, "<init>") (pd_Qm E true none shz Fz 203 3262) true cells slots sh F 58 [pd_R x0, pd_N] [] := by
  unfold pfX3_init_b58 at hf
  refine pd_iconst dX3_init_58 (by decide) ?_
  refine pd_istore_n (L' := [pd_R x0, pd_I 0]) dX3_init_59 rfl (by decide) rfl ?_
  exact pd_weak (L' := [pd_R x0, pd_I 0]) ⟨Or.inr rfl, Or.inr rfl, trivial⟩ (pkX3_init_b60 E l 20 _ _ (by omega) (by omega) _ _ _ _ hf)
set_option maxHeartbeats 4000000 in
set_option maxRecDepth 100000 in
theorem pkX3_init_b30 (E : pd_E) (l : Launch) {shz : pd_S} {Fz : pd_F} : ∀ (k : Nat) (cells slots : Nat) (hc0 : cells + (k * 5 + 100) ≤ 203) (hs0 : slots + (k * 81 + 1620) ≤ 3262) (sh : pd_S) (F : pd_F) (x0 : Int) (x1 : Int), pfX3_init_b30 k sh F x0 x1 = some (shz, Fz) → pd_V E l (pd_rm 2 203 3262) (RX3, cX3_init, 2, none, "<init>") (pd_Qm E true none shz Fz 203 3262) true cells slots sh F 30 [pd_R x0, pd_I x1] [] := by
  intro k
  induction k with
  | zero => intro cells slots _ _ sh F x0 x1 hf; exact absurd hf (by unfold pfX3_init_b30; exact fun h => nomatch h)
  | succ k ih =>
    intro cells slots hc0 hs0 sh F x0 x1 hf
    unfold pfX3_init_b30 at hf
    refine pd_iload_n (i := 1) dX3_init_30 rfl rfl ?_
    refine pd_aload_n (i := 0) dX3_init_31 rfl rfl ?_
    obtain ⟨hg12, hf⟩ := pd_ig hf
    refine pd_get (x := pd_R (F x0 0)) 0 dX3_init_32 (show vwCl[3]? = some (RX3, TX3, 5) from rfl) pin_3 (by decide) pq_257 hg12 rfl ?_
    obtain ⟨hg13, hf⟩ := pd_ig hf
    refine pd_alen dX3_init_35 (by decide) hg13 ?_
    refine pd_icmp_ge (tgt := 58) dX3_init_36 (by decide) (fun hc => ?_) (fun hc => ?_)
    · have hf := pd_ip hf hc
      exact pd_weak (L' := [pd_R x0, pd_N]) ⟨Or.inr rfl, Or.inl rfl, trivial⟩ (pkX3_init_b58 E l _ _ (by omega) (by omega) _ _ _ hf)
    · have hf := pd_in_ hf hc
      refine pd_aload_n (i := 0) dX3_init_39 rfl rfl ?_
      refine pd_get (x := pd_R (F x0 0)) 0 dX3_init_40 (show vwCl[3]? = some (RX3, TX3, 5) from rfl) pin_3 (by decide) pq_257 hg12 rfl ?_
      refine pd_iload_n (i := 1) dX3_init_43 rfl rfl ?_
      refine pd_new dX3_init_44 (show vwCl[8]? = some (RX8, TX8, 6) from rfl) pin_8 tyX8_ok pq_824 pq_825 pq_826 (by decide) ⟨by show _ ≤ 203; omega, by show _ ≤ 3262; omega⟩ ?_
      refine pd_topR (fun o16 eo16 => ?_)
      have hf := pd_lt hf eo16
      refine pd_topF (fun F15 eF15 => ?_)
      have hf := pd_lt hf eF15
      refine pd_topS (fun sh14 esh14 => ?_)
      have hf := pd_lt hf esh14
      clear esh14 eF15 eo16
      refine pd_dup dX3_init_47 rfl ?_
      obtain ⟨hg19, hf⟩ := pd_ig hf
      obtain ⟨sh18, F17, hr, hf⟩ := pd_ob2 hf
      refine pd_callI (pkX8_init l hr) dX3_init_48 pq_827 pq_830 rfl hg19 (pd_okA (by omega) (by decide) (by omega) (by omega) pq_828 pq_829 (by decide) (show (parseMethodDescriptor yX8_init.desc).map (fun d => d.parameters.length) = some 0 from by decide +kernel)) (Nat.le_of_ble_eq_true rfl) rfl ?_
      obtain ⟨hg20, hf⟩ := pd_ig hf
      obtain ⟨hg21, hf⟩ := pd_ig hf
      refine pd_aast dX3_init_51 hg20 hg21 ?_
      refine pd_topF (fun F22 eF22 => ?_)
      have hf := pd_lt hf eF22
      clear eF22
      refine pd_iincN (L' := fun y => [pd_R x0, pd_I y]) dX3_init_52 rfl (by decide) (by decide) (fun _ => rfl) (fun x1_52 ex1_52 => ?_)
      have hf := pd_lt hf ex1_52
      clear ex1_52
      refine pd_goto (tgt := 30) dX3_init_55 (by decide) ?_
      exact pd_weak (L' := [pd_R x0, pd_I x1_52]) ⟨Or.inr rfl, Or.inr rfl, trivial⟩ (ih _ _ (by omega) (by omega) _ _ _ _ hf)
set_option maxHeartbeats 4000000 in
set_option maxRecDepth 100000 in
theorem pkX3_init (l : Launch) {sh : pd_S} {F : pd_F} {x0 : Int} {shz : pd_S} {Fz : pd_F} (hf : pfX3_init sh F x0 = some (shz, Fz)) : pd_C l yX3_init (Cond.code yX3_init cX3_init 2 none :: pd_gt) (pd_rm 2 203 3262) true 203 3262 sh F [pd_R x0] none shz Fz := by
  unfold pfX3_init at hf
  refine pd_body (L := [pd_R x0, pd_N]) (by decide +kernel) (Nat.le_of_ble_eq_true rfl) rfl (fun E => ?_)
  refine pd_aload_n (i := 0) dX3_init_0 rfl rfl ?_
  obtain ⟨hg23, hf⟩ := pd_ig hf
  refine pd_oinit dX3_init_1 pq_831 pq_76 pq_77 hg23 pd_rmR2 (Nat.le_of_ble_eq_true rfl) ?_
  refine pd_aload_n (i := 0) dX3_init_4 rfl rfl ?_
  refine pd_bipush dX3_init_5 (by decide) ?_
  refine pd_newq (N := 16) dX3_init_7 (show vwCl[8]? = some ("PayoutDesk$State", TX8, 6) from rfl) pq_824 pq_832 (by decide) (by decide) ⟨by show _ ≤ 203; omega, by show _ ≤ 3262; omega⟩ ?_
  refine pd_topR (fun o26 eo26 => ?_)
  have hf := pd_lt hf eo26
  refine pd_topF (fun F25 eF25 => ?_)
  have hf := pd_lt hf eF25
  refine pd_topS (fun sh24 esh24 => ?_)
  have hf := pd_lt hf esh24
  clear esh24 eF25 eo26
  obtain ⟨hg27, hf⟩ := pd_ig hf
  refine pd_putF (n := o26) (x := pd_R o26) 0 dX3_init_10 (show vwCl[3]? = some (RX3, TX3, 5) from rfl) pin_3 tyX3_ok nmX3 (by decide) pq_257 rfl rfl rfl hg27 rfl (pd_nrR (Or.inr ⟨_, rfl⟩)) (pd_ftR (Or.inr ⟨_, rfl⟩)) ?_
  refine pd_topF (fun F28 eF28 => ?_)
  have hf := pd_lt hf eF28
  clear eF28
  refine pd_aload_n (i := 0) dX3_init_13 rfl rfl ?_
  refine pd_iconst dX3_init_14 (by decide) ?_
  refine pd_newq (N := 3) dX3_init_15 (show vwCl[8]? = some ("PayoutDesk$State", TX8, 6) from rfl) pq_824 pq_832 (by decide) (by decide) ⟨by show _ ≤ 203; omega, by show _ ≤ 3262; omega⟩ ?_
  refine pd_topR (fun o31 eo31 => ?_)
  have hf := pd_lt hf eo31
  refine pd_topF (fun F30 eF30 => ?_)
  have hf := pd_lt hf eF30
  refine pd_topS (fun sh29 esh29 => ?_)
  have hf := pd_lt hf esh29
  clear esh29 eF30 eo31
  obtain ⟨hg32, hf⟩ := pd_ig hf
  refine pd_putF (n := o31) (x := pd_R o31) 1 dX3_init_18 (show vwCl[3]? = some (RX3, TX3, 5) from rfl) pin_3 tyX3_ok nmX3 (by decide) pq_823 rfl rfl rfl hg32 rfl (pd_nrR (Or.inr ⟨_, rfl⟩)) (pd_ftR (Or.inr ⟨_, rfl⟩)) ?_
  refine pd_topF (fun F33 eF33 => ?_)
  have hf := pd_lt hf eF33
  clear eF33
  refine pd_aload_n (i := 0) dX3_init_21 rfl rfl ?_
  refine pd_iconst dX3_init_22 (by decide) ?_
  refine pd_newZ (N := 3) dX3_init_23 pq_833 (by decide) (by decide) ⟨by show _ ≤ 203; omega, by show _ ≤ 3262; omega⟩ ?_
  refine pd_topR (fun o36 eo36 => ?_)
  have hf := pd_lt hf eo36
  refine pd_topF (fun F35 eF35 => ?_)
  have hf := pd_lt hf eF35
  refine pd_topS (fun sh34 esh34 => ?_)
  have hf := pd_lt hf esh34
  clear esh34 eF35 eo36
  obtain ⟨hg37, hf⟩ := pd_ig hf
  refine pd_putF (n := o36) (x := pd_R o36) 2 dX3_init_25 (show vwCl[3]? = some (RX3, TX3, 5) from rfl) pin_3 tyX3_ok nmX3 (by decide) pq_255 rfl rfl rfl hg37 rfl (pd_nrR (Or.inr ⟨_, rfl⟩)) (pd_ftR (Or.inr ⟨_, rfl⟩)) ?_
  refine pd_topF (fun F38 eF38 => ?_)
  have hf := pd_lt hf eF38
  clear eF38
  refine pd_iconst dX3_init_28 (by decide) ?_
  refine pd_istore_n (L' := [pd_R x0, pd_I 0]) dX3_init_29 rfl (by decide) rfl ?_
  exact pd_weak (L' := [pd_R x0, pd_I 0]) ⟨Or.inr rfl, Or.inr rfl, trivial⟩ (pkX3_init_b30 E l 20 _ _ (by omega) (by omega) _ _ _ _ hf)
set_option maxHeartbeats 4000000 in
set_option maxRecDepth 100000 in
theorem pkX6_init (l : Launch) {sh : pd_S} {F : pd_F} {x0 : Int} {shz : pd_S} {Fz : pd_F} (hf : pfX6_init sh F x0 = some (shz, Fz)) : pd_C l yX6_init (Cond.code yX6_init cX6_init 1 none :: pd_gt) (pd_rm 3 252 2670) true 252 2670 sh F [pd_R x0] none shz Fz := by
  unfold pfX6_init at hf
  refine pd_body (L := [pd_R x0]) (by decide +kernel) (Nat.le_of_ble_eq_true rfl) rfl (fun E => ?_)
  refine pd_aload_n (i := 0) dX6_init_0 rfl rfl ?_
  obtain ⟨hg1, hf⟩ := pd_ig hf
  refine pd_oinit dX6_init_1 pq_834 pq_76 pq_77 hg1 pd_rmR2 (Nat.le_of_ble_eq_true rfl) ?_
  refine pd_aload_n (i := 0) dX6_init_4 rfl rfl ?_
  refine pd_new dX6_init_5 (show vwCl[9]? = some (RX9, TX9, 9) from rfl) pin_9 tyX9_ok pq_835 pq_836 pq_837 (by decide) ⟨by show _ ≤ 252; omega, by show _ ≤ 2670; omega⟩ ?_
  refine pd_topR (fun o4 eo4 => ?_)
  have hf := pd_lt hf eo4
  refine pd_topF (fun F3 eF3 => ?_)
  have hf := pd_lt hf eF3
  refine pd_topS (fun sh2 esh2 => ?_)
  have hf := pd_lt hf esh2
  clear esh2 eF3 eo4
  refine pd_dup dX6_init_8 rfl ?_
  obtain ⟨hg7, hf⟩ := pd_ig hf
  obtain ⟨sh6, F5, hr, hf⟩ := pd_ob2 hf
  refine pd_callIN (pkX9_init l hr) dX6_init_9 pq_838 pq_841 rfl hg7 (pd_okA (by omega) (by decide) (by omega) (by omega) pq_839 pq_840 (by decide) (show (parseMethodDescriptor yX9_init.desc).map (fun d => d.parameters.length) = some 0 from by decide +kernel)) (Nat.le_of_ble_eq_true rfl) rfl ?_
  obtain ⟨hg8, hf⟩ := pd_ig hf
  refine pd_putF (n := o4) (x := pd_R o4) 0 dX6_init_12 (show vwCl[6]? = some (RX6, TX6, 3) from rfl) pin_6 tyX6_ok nmX6 (by decide) pq_266 rfl rfl rfl hg8 rfl (pd_nrR (Or.inl ⟨_, rfl⟩)) (pd_ftR (Or.inl ⟨_, rfl⟩)) ?_
  refine pd_topF (fun F9 eF9 => ?_)
  have hf := pd_lt hf eF9
  clear eF9
  refine pd_aload_n (i := 0) dX6_init_15 rfl rfl ?_
  refine pd_new dX6_init_16 (show vwCl[0]? = some (RX0, TX0, 15) from rfl) pin_0 tyX0_ok pq_842 pq_843 pq_844 (by decide) ⟨by show _ ≤ 252; omega, by show _ ≤ 2670; omega⟩ ?_
  refine pd_topR (fun o12 eo12 => ?_)
  have hf := pd_lt hf eo12
  refine pd_topF (fun F11 eF11 => ?_)
  have hf := pd_lt hf eF11
  refine pd_topS (fun sh10 esh10 => ?_)
  have hf := pd_lt hf esh10
  clear esh10 eF11 eo12
  refine pd_dup dX6_init_19 rfl ?_
  obtain ⟨hg15, hf⟩ := pd_ig hf
  obtain ⟨sh14, F13, hr, hf⟩ := pd_ob2 hf
  refine pd_callI (pkX0_init l hr) dX6_init_20 pq_845 pq_848 rfl hg15 (pd_okA (by omega) (by decide) (by omega) (by omega) pq_846 pq_847 (by decide) (show (parseMethodDescriptor yX0_init.desc).map (fun d => d.parameters.length) = some 0 from by decide +kernel)) (Nat.le_of_ble_eq_true rfl) rfl ?_
  obtain ⟨hg16, hf⟩ := pd_ig hf
  refine pd_put (n := o12) (x := pd_R o12) 1 dX6_init_23 (show vwCl[6]? = some (RX6, TX6, 3) from rfl) pin_6 tyX6_ok nmX6 (by decide) pq_265 rfl hg16 rfl (pd_nrR (Or.inl ⟨_, rfl⟩)) (pd_ftR (Or.inl ⟨_, rfl⟩)) ?_
  refine pd_topF (fun F17 eF17 => ?_)
  have hf := pd_lt hf eF17
  clear eF17
  obtain ⟨h1, h2⟩ := pd_inj hf
  subst h1 h2
  exact pd_vret dX6_init_26 rfl (by omega) (by omega)
set_option maxHeartbeats 4000000 in
set_option maxRecDepth 100000 in
theorem pkX7_init (l : Launch) {sh : pd_S} {F : pd_F} {x0 : Int} {shz : pd_S} {Fz : pd_F} (hf : pfX7_init sh F x0 = some (shz, Fz)) : pd_C l yX7_init (Cond.code yX7_init cX7_init 1 none :: pd_gt) (pd_rm 1 18 208) true 18 208 sh F [pd_R x0] none shz Fz := by
  unfold pfX7_init at hf
  refine pd_body (L := [pd_R x0]) (by decide +kernel) (Nat.le_of_ble_eq_true rfl) rfl (fun E => ?_)
  refine pd_aload_n (i := 0) dX7_init_0 rfl rfl ?_
  obtain ⟨hg1, hf⟩ := pd_ig hf
  refine pd_oinit dX7_init_1 pq_849 pq_76 pq_77 hg1 pd_rmR2 (Nat.le_of_ble_eq_true rfl) ?_
  refine pd_aload_n (i := 0) dX7_init_4 rfl rfl ?_
  refine pd_bipush dX7_init_5 (by decide) ?_
  refine pd_bipush dX7_init_7 (by decide) ?_
  refine pd_mna (N := 10) (K := 12) dX7_init_9 pq_850 pq_851 pq_790 (by decide) (by decide) (by decide) (by decide) ⟨by show _ ≤ 18; omega, by show _ ≤ 208; omega⟩ ?_
  refine pd_topR (fun o4 eo4 => ?_)
  have hf := pd_lt hf eo4
  refine pd_topF (fun F3 eF3 => ?_)
  have hf := pd_lt hf eF3
  refine pd_topS (fun sh2 esh2 => ?_)
  have hf := pd_lt hf esh2
  clear esh2 eF3 eo4
  obtain ⟨hg5, hf⟩ := pd_ig hf
  refine pd_putF (n := o4) (x := pd_R o4) 0 dX7_init_13 (show vwCl[7]? = some (RX7, TX7, 2) from rfl) pin_7 tyX7_ok nmX7 (by decide) pq_489 rfl rfl rfl hg5 rfl (pd_nrR (Or.inr ⟨_, rfl⟩)) (pd_ftR (Or.inr ⟨_, rfl⟩)) ?_
  refine pd_topF (fun F6 eF6 => ?_)
  have hf := pd_lt hf eF6
  clear eF6
  refine pd_aload_n (i := 0) dX7_init_16 rfl rfl ?_
  refine pd_bipush dX7_init_17 (by decide) ?_
  refine pd_bipush dX7_init_19 (by decide) ?_
  refine pd_mna (N := 6) (K := 12) dX7_init_21 pq_850 pq_851 pq_790 (by decide) (by decide) (by decide) (by decide) ⟨by show _ ≤ 18; omega, by show _ ≤ 208; omega⟩ ?_
  refine pd_topR (fun o9 eo9 => ?_)
  have hf := pd_lt hf eo9
  refine pd_topF (fun F8 eF8 => ?_)
  have hf := pd_lt hf eF8
  refine pd_topS (fun sh7 esh7 => ?_)
  have hf := pd_lt hf esh7
  clear esh7 eF8 eo9
  obtain ⟨hg10, hf⟩ := pd_ig hf
  refine pd_putF (n := o9) (x := pd_R o9) 1 dX7_init_25 (show vwCl[7]? = some (RX7, TX7, 2) from rfl) pin_7 tyX7_ok nmX7 (by decide) pq_483 rfl rfl rfl hg10 rfl (pd_nrR (Or.inr ⟨_, rfl⟩)) (pd_ftR (Or.inr ⟨_, rfl⟩)) ?_
  refine pd_topF (fun F11 eF11 => ?_)
  have hf := pd_lt hf eF11
  clear eF11
  obtain ⟨h1, h2⟩ := pd_inj hf
  subst h1 h2
  exact pd_vret dX7_init_28 rfl (by omega) (by omega)
set_option maxHeartbeats 4000000 in
set_option maxRecDepth 100000 in
theorem pkX10_init (l : Launch) {sh : pd_S} {F : pd_F} {x0 : Int} {shz : pd_S} {Fz : pd_F} (hf : pfX10_init sh F x0 = some (shz, Fz)) : pd_C l yX10_init (Cond.code yX10_init cX10_init 1 none :: pd_gt) (pd_rm 1 3 36) true 3 36 sh F [pd_R x0] none shz Fz := by
  unfold pfX10_init at hf
  refine pd_body (L := [pd_R x0]) (by decide +kernel) (Nat.le_of_ble_eq_true rfl) rfl (fun E => ?_)
  refine pd_aload_n (i := 0) dX10_init_0 rfl rfl ?_
  obtain ⟨hg1, hf⟩ := pd_ig hf
  refine pd_oinit dX10_init_1 pq_852 pq_76 pq_77 hg1 pd_rmR2 (Nat.le_of_ble_eq_true rfl) ?_
  refine pd_aload_n (i := 0) dX10_init_4 rfl rfl ?_
  refine pd_bipush dX10_init_5 (by decide) ?_
  refine pd_newI (N := 12) dX10_init_7 pq_790 (by decide) (by decide) ⟨by show _ ≤ 3; omega, by show _ ≤ 36; omega⟩ ?_
  refine pd_topR (fun o4 eo4 => ?_)
  have hf := pd_lt hf eo4
  refine pd_topF (fun F3 eF3 => ?_)
  have hf := pd_lt hf eF3
  refine pd_topS (fun sh2 esh2 => ?_)
  have hf := pd_lt hf esh2
  clear esh2 eF3 eo4
  obtain ⟨hg5, hf⟩ := pd_ig hf
  refine pd_putF (n := o4) (x := pd_R o4) 0 dX10_init_9 (show vwCl[10]? = some (RX10, TX10, 4) from rfl) pin_10 tyX10_ok nmX10 (by decide) pq_490 rfl rfl rfl hg5 rfl (pd_nrR (Or.inr ⟨_, rfl⟩)) (pd_ftR (Or.inr ⟨_, rfl⟩)) ?_
  refine pd_topF (fun F6 eF6 => ?_)
  have hf := pd_lt hf eF6
  clear eF6
  refine pd_aload_n (i := 0) dX10_init_12 rfl rfl ?_
  refine pd_bipush dX10_init_13 (by decide) ?_
  refine pd_newI (N := 12) dX10_init_15 pq_790 (by decide) (by decide) ⟨by show _ ≤ 3; omega, by show _ ≤ 36; omega⟩ ?_
  refine pd_topR (fun o9 eo9 => ?_)
  have hf := pd_lt hf eo9
  refine pd_topF (fun F8 eF8 => ?_)
  have hf := pd_lt hf eF8
  refine pd_topS (fun sh7 esh7 => ?_)
  have hf := pd_lt hf esh7
  clear esh7 eF8 eo9
  obtain ⟨hg10, hf⟩ := pd_ig hf
  refine pd_putF (n := o9) (x := pd_R o9) 1 dX10_init_17 (show vwCl[10]? = some (RX10, TX10, 4) from rfl) pin_10 tyX10_ok nmX10 (by decide) pq_495 rfl rfl rfl hg10 rfl (pd_nrR (Or.inr ⟨_, rfl⟩)) (pd_ftR (Or.inr ⟨_, rfl⟩)) ?_
  refine pd_topF (fun F11 eF11 => ?_)
  have hf := pd_lt hf eF11
  clear eF11
  refine pd_aload_n (i := 0) dX10_init_20 rfl rfl ?_
  refine pd_bipush dX10_init_21 (by decide) ?_
  refine pd_newI (N := 12) dX10_init_23 pq_790 (by decide) (by decide) ⟨by show _ ≤ 3; omega, by show _ ≤ 36; omega⟩ ?_
  refine pd_topR (fun o14 eo14 => ?_)
  have hf := pd_lt hf eo14
  refine pd_topF (fun F13 eF13 => ?_)
  have hf := pd_lt hf eF13
  refine pd_topS (fun sh12 esh12 => ?_)
  have hf := pd_lt hf esh12
  clear esh12 eF13 eo14
  obtain ⟨hg15, hf⟩ := pd_ig hf
  refine pd_putF (n := o14) (x := pd_R o14) 2 dX10_init_25 (show vwCl[10]? = some (RX10, TX10, 4) from rfl) pin_10 tyX10_ok nmX10 (by decide) pq_502 rfl rfl rfl hg15 rfl (pd_nrR (Or.inr ⟨_, rfl⟩)) (pd_ftR (Or.inr ⟨_, rfl⟩)) ?_
  refine pd_topF (fun F16 eF16 => ?_)
  have hf := pd_lt hf eF16
  clear eF16
  obtain ⟨h1, h2⟩ := pd_inj hf
  subst h1 h2
  exact pd_vret dX10_init_28 rfl (by omega) (by omega)
set_option maxHeartbeats 4000000 in
set_option maxRecDepth 100000 in
theorem pkX4_init (l : Launch) {sh : pd_S} {F : pd_F} {x0 : Int} {shz : pd_S} {Fz : pd_F} (hf : pfX4_init sh F x0 = some (shz, Fz)) : pd_C l yX4_init (Cond.code yX4_init cX4_init 1 none :: pd_gt) (pd_rm 2 8 88) true 8 88 sh F [pd_R x0] none shz Fz := by
  unfold pfX4_init at hf
  refine pd_body (L := [pd_R x0]) (by decide +kernel) (Nat.le_of_ble_eq_true rfl) rfl (fun E => ?_)
  refine pd_aload_n (i := 0) dX4_init_0 rfl rfl ?_
  obtain ⟨hg1, hf⟩ := pd_ig hf
  refine pd_oinit dX4_init_1 pq_853 pq_76 pq_77 hg1 pd_rmR2 (Nat.le_of_ble_eq_true rfl) ?_
  refine pd_aload_n (i := 0) dX4_init_4 rfl rfl ?_
  refine pd_new dX4_init_5 (show vwCl[10]? = some (RX10, TX10, 4) from rfl) pin_10 tyX10_ok pq_854 pq_855 pq_856 (by decide) ⟨by show _ ≤ 8; omega, by show _ ≤ 88; omega⟩ ?_
  refine pd_topR (fun o4 eo4 => ?_)
  have hf := pd_lt hf eo4
  refine pd_topF (fun F3 eF3 => ?_)
  have hf := pd_lt hf eF3
  refine pd_topS (fun sh2 esh2 => ?_)
  have hf := pd_lt hf esh2
  clear esh2 eF3 eo4
  refine pd_dup dX4_init_8 rfl ?_
  obtain ⟨hg7, hf⟩ := pd_ig hf
  obtain ⟨sh6, F5, hr, hf⟩ := pd_ob2 hf
  refine pd_callIN (pkX10_init l hr) dX4_init_9 pq_857 pq_860 rfl hg7 (pd_okA (by omega) (by decide) (by omega) (by omega) pq_858 pq_859 (by decide) (show (parseMethodDescriptor yX10_init.desc).map (fun d => d.parameters.length) = some 0 from by decide +kernel)) (Nat.le_of_ble_eq_true rfl) rfl ?_
  obtain ⟨hg8, hf⟩ := pd_ig hf
  refine pd_putF (n := o4) (x := pd_R o4) 0 dX4_init_12 (show vwCl[4]? = some (RX4, TX4, 7) from rfl) pin_4 tyX4_ok nmX4 (by decide) pq_544 rfl rfl rfl hg8 rfl (pd_nrR (Or.inl ⟨_, rfl⟩)) (pd_ftR (Or.inl ⟨_, rfl⟩)) ?_
  refine pd_topF (fun F9 eF9 => ?_)
  have hf := pd_lt hf eF9
  clear eF9
  refine pd_aload_n (i := 0) dX4_init_15 rfl rfl ?_
  refine pd_bipush dX4_init_16 (by decide) ?_
  refine pd_newJ (N := 12) dX4_init_18 pq_861 (by decide) (by decide) ⟨by show _ ≤ 8; omega, by show _ ≤ 88; omega⟩ ?_
  refine pd_topR (fun o12 eo12 => ?_)
  have hf := pd_lt hf eo12
  refine pd_topF (fun F11 eF11 => ?_)
  have hf := pd_lt hf eF11
  refine pd_topS (fun sh10 esh10 => ?_)
  have hf := pd_lt hf esh10
  clear esh10 eF11 eo12
  obtain ⟨hg13, hf⟩ := pd_ig hf
  refine pd_putF (n := o12) (x := pd_R o12) 1 dX4_init_20 (show vwCl[4]? = some (RX4, TX4, 7) from rfl) pin_4 tyX4_ok nmX4 (by decide) pq_535 rfl rfl rfl hg13 rfl (pd_nrR (Or.inr ⟨_, rfl⟩)) (pd_ftR (Or.inr ⟨_, rfl⟩)) ?_
  refine pd_topF (fun F14 eF14 => ?_)
  have hf := pd_lt hf eF14
  clear eF14
  refine pd_aload_n (i := 0) dX4_init_23 rfl rfl ?_
  refine pd_bipush dX4_init_24 (by decide) ?_
  refine pd_newJ (N := 12) dX4_init_26 pq_861 (by decide) (by decide) ⟨by show _ ≤ 8; omega, by show _ ≤ 88; omega⟩ ?_
  refine pd_topR (fun o17 eo17 => ?_)
  have hf := pd_lt hf eo17
  refine pd_topF (fun F16 eF16 => ?_)
  have hf := pd_lt hf eF16
  refine pd_topS (fun sh15 esh15 => ?_)
  have hf := pd_lt hf esh15
  clear esh15 eF16 eo17
  obtain ⟨hg18, hf⟩ := pd_ig hf
  refine pd_putF (n := o17) (x := pd_R o17) 2 dX4_init_28 (show vwCl[4]? = some (RX4, TX4, 7) from rfl) pin_4 tyX4_ok nmX4 (by decide) pq_534 rfl rfl rfl hg18 rfl (pd_nrR (Or.inr ⟨_, rfl⟩)) (pd_ftR (Or.inr ⟨_, rfl⟩)) ?_
  refine pd_topF (fun F19 eF19 => ?_)
  have hf := pd_lt hf eF19
  clear eF19
  refine pd_aload_n (i := 0) dX4_init_31 rfl rfl ?_
  refine pd_bipush dX4_init_32 (by decide) ?_
  refine pd_newJ (N := 12) dX4_init_34 pq_861 (by decide) (by decide) ⟨by show _ ≤ 8; omega, by show _ ≤ 88; omega⟩ ?_
  refine pd_topR (fun o22 eo22 => ?_)
  have hf := pd_lt hf eo22
  refine pd_topF (fun F21 eF21 => ?_)
  have hf := pd_lt hf eF21
  refine pd_topS (fun sh20 esh20 => ?_)
  have hf := pd_lt hf esh20
  clear esh20 eF21 eo22
  obtain ⟨hg23, hf⟩ := pd_ig hf
  refine pd_putF (n := o22) (x := pd_R o22) 3 dX4_init_36 (show vwCl[4]? = some (RX4, TX4, 7) from rfl) pin_4 tyX4_ok nmX4 (by decide) pq_542 rfl rfl rfl hg23 rfl (pd_nrR (Or.inr ⟨_, rfl⟩)) (pd_ftR (Or.inr ⟨_, rfl⟩)) ?_
  refine pd_topF (fun F24 eF24 => ?_)
  have hf := pd_lt hf eF24
  clear eF24
  refine pd_aload_n (i := 0) dX4_init_39 rfl rfl ?_
  refine pd_bipush dX4_init_40 (by decide) ?_
  refine pd_newZ (N := 12) dX4_init_42 pq_833 (by decide) (by decide) ⟨by show _ ≤ 8; omega, by show _ ≤ 88; omega⟩ ?_
  refine pd_topR (fun o27 eo27 => ?_)
  have hf := pd_lt hf eo27
  refine pd_topF (fun F26 eF26 => ?_)
  have hf := pd_lt hf eF26
  refine pd_topS (fun sh25 esh25 => ?_)
  have hf := pd_lt hf esh25
  clear esh25 eF26 eo27
  obtain ⟨hg28, hf⟩ := pd_ig hf
  refine pd_putF (n := o27) (x := pd_R o27) 4 dX4_init_44 (show vwCl[4]? = some (RX4, TX4, 7) from rfl) pin_4 tyX4_ok nmX4 (by decide) pq_560 rfl rfl rfl hg28 rfl (pd_nrR (Or.inr ⟨_, rfl⟩)) (pd_ftR (Or.inr ⟨_, rfl⟩)) ?_
  refine pd_topF (fun F29 eF29 => ?_)
  have hf := pd_lt hf eF29
  clear eF29
  obtain ⟨h1, h2⟩ := pd_inj hf
  subst h1 h2
  exact pd_vret dX4_init_47 rfl (by omega) (by omega)
set_option maxHeartbeats 4000000 in
set_option maxRecDepth 100000 in
theorem pkX11_init (l : Launch) {sh : pd_S} {F : pd_F} {x0 : Int} {shz : pd_S} {Fz : pd_F} (hf : pfX11_init sh F x0 = some (shz, Fz)) : pd_C l yX11_init (Cond.code yX11_init cX11_init 1 none :: pd_gt) (pd_rm 4 754 8163) true 754 8163 sh F [pd_R x0] none shz Fz := by
  unfold pfX11_init at hf
  refine pd_body (L := [pd_R x0]) (by decide +kernel) (Nat.le_of_ble_eq_true rfl) rfl (fun E => ?_)
  refine pd_aload_n (i := 0) dX11_init_0 rfl rfl ?_
  obtain ⟨hg1, hf⟩ := pd_ig hf
  refine pd_oinit dX11_init_1 pq_862 pq_76 pq_77 hg1 pd_rmR2 (Nat.le_of_ble_eq_true rfl) ?_
  refine pd_aload_n (i := 0) dX11_init_4 rfl rfl ?_
  refine pd_new dX11_init_5 (show vwCl[6]? = some (RX6, TX6, 3) from rfl) pin_6 tyX6_ok pq_863 pq_864 pq_865 (by decide) ⟨by show _ ≤ 754; omega, by show _ ≤ 8163; omega⟩ ?_
  refine pd_topR (fun o4 eo4 => ?_)
  have hf := pd_lt hf eo4
  refine pd_topF (fun F3 eF3 => ?_)
  have hf := pd_lt hf eF3
  refine pd_topS (fun sh2 esh2 => ?_)
  have hf := pd_lt hf esh2
  clear esh2 eF3 eo4
  refine pd_dup dX11_init_8 rfl ?_
  obtain ⟨hg7, hf⟩ := pd_ig hf
  obtain ⟨sh6, F5, hr, hf⟩ := pd_ob2 hf
  refine pd_callIN (pkX6_init l hr) dX11_init_9 pq_866 pq_869 rfl hg7 (pd_okA (by omega) (by decide) (by omega) (by omega) pq_867 pq_868 (by decide) (show (parseMethodDescriptor yX6_init.desc).map (fun d => d.parameters.length) = some 0 from by decide +kernel)) (Nat.le_of_ble_eq_true rfl) rfl ?_
  obtain ⟨hg8, hf⟩ := pd_ig hf
  refine pd_putF (n := o4) (x := pd_R o4) 0 dX11_init_12 (show vwCl[11]? = some (RX11, TX11, 10) from rfl) pin_11 tyX11_ok nmX11 (by decide) pq_737 rfl rfl rfl hg8 rfl (pd_nrR (Or.inl ⟨_, rfl⟩)) (pd_ftR (Or.inl ⟨_, rfl⟩)) ?_
  refine pd_topF (fun F9 eF9 => ?_)
  have hf := pd_lt hf eF9
  clear eF9
  refine pd_aload_n (i := 0) dX11_init_15 rfl rfl ?_
  refine pd_aload_n (i := 0) dX11_init_16 rfl rfl ?_
  refine pd_get (x := pd_R (F9 x0 0)) 0 dX11_init_17 (show vwCl[11]? = some (RX11, TX11, 10) from rfl) pin_11 (by decide) pq_737 hg8 rfl ?_
  obtain ⟨hg10, hf⟩ := pd_ig hf
  refine pd_getN (x := pd_R (F9 (F9 x0 0) 0)) 0 dX11_init_20 (show vwCl[6]? = some (RX6, TX6, 3) from rfl) pin_6 (by decide) pq_870 hg10 rfl ?_
  refine pd_putF (n := (F9 (F9 x0 0) 0)) (x := pd_R (F9 (F9 x0 0) 0)) 1 dX11_init_23 (show vwCl[11]? = some (RX11, TX11, 10) from rfl) pin_11 tyX11_ok nmX11 (by decide) pq_633 rfl rfl rfl hg8 rfl (pd_nrR (Or.inl ⟨_, rfl⟩)) (pd_ftR (Or.inl ⟨_, rfl⟩)) ?_
  refine pd_topF (fun F11 eF11 => ?_)
  have hf := pd_lt hf eF11
  clear eF11
  refine pd_aload_n (i := 0) dX11_init_26 rfl rfl ?_
  refine pd_new dX11_init_27 (show vwCl[3]? = some (RX3, TX3, 5) from rfl) pin_3 tyX3_ok pq_871 pq_872 pq_873 (by decide) ⟨by show _ ≤ 754; omega, by show _ ≤ 8163; omega⟩ ?_
  refine pd_topR (fun o14 eo14 => ?_)
  have hf := pd_lt hf eo14
  refine pd_topF (fun F13 eF13 => ?_)
  have hf := pd_lt hf eF13
  refine pd_topS (fun sh12 esh12 => ?_)
  have hf := pd_lt hf esh12
  clear esh12 eF13 eo14
  refine pd_dup dX11_init_30 rfl ?_
  obtain ⟨hg17, hf⟩ := pd_ig hf
  obtain ⟨sh16, F15, hr, hf⟩ := pd_ob2 hf
  refine pd_callI (pkX3_init l hr) dX11_init_31 pq_874 pq_877 rfl hg17 (pd_okA (by omega) (by decide) (by omega) (by omega) pq_875 pq_876 (by decide) (show (parseMethodDescriptor yX3_init.desc).map (fun d => d.parameters.length) = some 0 from by decide +kernel)) (Nat.le_of_ble_eq_true rfl) rfl ?_
  obtain ⟨hg18, hf⟩ := pd_ig hf
  refine pd_putF (n := o14) (x := pd_R o14) 2 dX11_init_34 (show vwCl[11]? = some (RX11, TX11, 10) from rfl) pin_11 tyX11_ok nmX11 (by decide) pq_631 rfl rfl rfl hg18 rfl (pd_nrR (Or.inl ⟨_, rfl⟩)) (pd_ftR (Or.inl ⟨_, rfl⟩)) ?_
  refine pd_topF (fun F19 eF19 => ?_)
  have hf := pd_lt hf eF19
  clear eF19
  refine pd_aload_n (i := 0) dX11_init_37 rfl rfl ?_
  refine pd_new dX11_init_38 (show vwCl[7]? = some (RX7, TX7, 2) from rfl) pin_7 tyX7_ok pq_878 pq_879 pq_880 (by decide) ⟨by show _ ≤ 754; omega, by show _ ≤ 8163; omega⟩ ?_
  refine pd_topR (fun o22 eo22 => ?_)
  have hf := pd_lt hf eo22
  refine pd_topF (fun F21 eF21 => ?_)
  have hf := pd_lt hf eF21
  refine pd_topS (fun sh20 esh20 => ?_)
  have hf := pd_lt hf esh20
  clear esh20 eF21 eo22
  refine pd_dup dX11_init_41 rfl ?_
  obtain ⟨hg25, hf⟩ := pd_ig hf
  obtain ⟨sh24, F23, hr, hf⟩ := pd_ob2 hf
  refine pd_callIN (pkX7_init l hr) dX11_init_42 pq_881 pq_884 rfl hg25 (pd_okA (by omega) (by decide) (by omega) (by omega) pq_882 pq_883 (by decide) (show (parseMethodDescriptor yX7_init.desc).map (fun d => d.parameters.length) = some 0 from by decide +kernel)) (Nat.le_of_ble_eq_true rfl) rfl ?_
  obtain ⟨hg26, hf⟩ := pd_ig hf
  refine pd_putF (n := o22) (x := pd_R o22) 3 dX11_init_45 (show vwCl[11]? = some (RX11, TX11, 10) from rfl) pin_11 tyX11_ok nmX11 (by decide) pq_721 rfl rfl rfl hg26 rfl (pd_nrR (Or.inl ⟨_, rfl⟩)) (pd_ftR (Or.inl ⟨_, rfl⟩)) ?_
  refine pd_topF (fun F27 eF27 => ?_)
  have hf := pd_lt hf eF27
  clear eF27
  refine pd_aload_n (i := 0) dX11_init_48 rfl rfl ?_
  refine pd_new dX11_init_49 (show vwCl[8]? = some (RX8, TX8, 6) from rfl) pin_8 tyX8_ok pq_885 pq_825 pq_826 (by decide) ⟨by show _ ≤ 754; omega, by show _ ≤ 8163; omega⟩ ?_
  refine pd_topR (fun o30 eo30 => ?_)
  have hf := pd_lt hf eo30
  refine pd_topF (fun F29 eF29 => ?_)
  have hf := pd_lt hf eF29
  refine pd_topS (fun sh28 esh28 => ?_)
  have hf := pd_lt hf esh28
  clear esh28 eF29 eo30
  refine pd_dup dX11_init_52 rfl ?_
  obtain ⟨hg33, hf⟩ := pd_ig hf
  obtain ⟨sh32, F31, hr, hf⟩ := pd_ob2 hf
  refine pd_callI (pkX8_init l hr) dX11_init_53 pq_886 pq_830 rfl hg33 (pd_okA (by omega) (by decide) (by omega) (by omega) pq_828 pq_829 (by decide) (show (parseMethodDescriptor yX8_init.desc).map (fun d => d.parameters.length) = some 0 from by decide +kernel)) (Nat.le_of_ble_eq_true rfl) rfl ?_
  obtain ⟨hg34, hf⟩ := pd_ig hf
  refine pd_putF (n := o30) (x := pd_R o30) 4 dX11_init_56 (show vwCl[11]? = some (RX11, TX11, 10) from rfl) pin_11 tyX11_ok nmX11 (by decide) pq_623 rfl rfl rfl hg34 rfl (pd_nrR (Or.inl ⟨_, rfl⟩)) (pd_ftR (Or.inl ⟨_, rfl⟩)) ?_
  refine pd_topF (fun F35 eF35 => ?_)
  have hf := pd_lt hf eF35
  clear eF35
  refine pd_aload_n (i := 0) dX11_init_59 rfl rfl ?_
  refine pd_new dX11_init_60 (show vwCl[4]? = some (RX4, TX4, 7) from rfl) pin_4 tyX4_ok pq_887 pq_888 pq_889 (by decide) ⟨by show _ ≤ 754; omega, by show _ ≤ 8163; omega⟩ ?_
  refine pd_topR (fun o38 eo38 => ?_)
  have hf := pd_lt hf eo38
  refine pd_topF (fun F37 eF37 => ?_)
  have hf := pd_lt hf eF37
  refine pd_topS (fun sh36 esh36 => ?_)
  have hf := pd_lt hf esh36
  clear esh36 eF37 eo38
  refine pd_dup dX11_init_63 rfl ?_
  obtain ⟨hg41, hf⟩ := pd_ig hf
  obtain ⟨sh40, F39, hr, hf⟩ := pd_ob2 hf
  refine pd_callIN (pkX4_init l hr) dX11_init_64 pq_890 pq_893 rfl hg41 (pd_okA (by omega) (by decide) (by omega) (by omega) pq_891 pq_892 (by decide) (show (parseMethodDescriptor yX4_init.desc).map (fun d => d.parameters.length) = some 0 from by decide +kernel)) (Nat.le_of_ble_eq_true rfl) rfl ?_
  obtain ⟨hg42, hf⟩ := pd_ig hf
  refine pd_putF (n := o38) (x := pd_R o38) 5 dX11_init_67 (show vwCl[11]? = some (RX11, TX11, 10) from rfl) pin_11 tyX11_ok nmX11 (by decide) pq_635 rfl rfl rfl hg42 rfl (pd_nrR (Or.inl ⟨_, rfl⟩)) (pd_ftR (Or.inl ⟨_, rfl⟩)) ?_
  refine pd_topF (fun F43 eF43 => ?_)
  have hf := pd_lt hf eF43
  clear eF43
  refine pd_aload_n (i := 0) dX11_init_70 rfl rfl ?_
  refine pd_new dX11_init_71 (show vwCl[8]? = some (RX8, TX8, 6) from rfl) pin_8 tyX8_ok pq_885 pq_825 pq_826 (by decide) ⟨by show _ ≤ 754; omega, by show _ ≤ 8163; omega⟩ ?_
  refine pd_topR (fun o46 eo46 => ?_)
  have hf := pd_lt hf eo46
  refine pd_topF (fun F45 eF45 => ?_)
  have hf := pd_lt hf eF45
  refine pd_topS (fun sh44 esh44 => ?_)
  have hf := pd_lt hf esh44
  clear esh44 eF45 eo46
  refine pd_dup dX11_init_74 rfl ?_
  obtain ⟨hg49, hf⟩ := pd_ig hf
  obtain ⟨sh48, F47, hr, hf⟩ := pd_ob2 hf
  refine pd_callI (pkX8_init l hr) dX11_init_75 pq_886 pq_830 rfl hg49 (pd_okA (by omega) (by decide) (by omega) (by omega) pq_828 pq_829 (by decide) (show (parseMethodDescriptor yX8_init.desc).map (fun d => d.parameters.length) = some 0 from by decide +kernel)) (Nat.le_of_ble_eq_true rfl) rfl ?_
  obtain ⟨hg50, hf⟩ := pd_ig hf
  refine pd_putF (n := o46) (x := pd_R o46) 6 dX11_init_78 (show vwCl[11]? = some (RX11, TX11, 10) from rfl) pin_11 tyX11_ok nmX11 (by decide) pq_894 rfl rfl rfl hg50 rfl (pd_nrR (Or.inl ⟨_, rfl⟩)) (pd_ftR (Or.inl ⟨_, rfl⟩)) ?_
  refine pd_topF (fun F51 eF51 => ?_)
  have hf := pd_lt hf eF51
  clear eF51
  refine pd_aload_n (i := 0) dX11_init_81 rfl rfl ?_
  refine pd_new dX11_init_82 (show vwCl[4]? = some (RX4, TX4, 7) from rfl) pin_4 tyX4_ok pq_887 pq_888 pq_889 (by decide) ⟨by show _ ≤ 754; omega, by show _ ≤ 8163; omega⟩ ?_
  refine pd_topR (fun o54 eo54 => ?_)
  have hf := pd_lt hf eo54
  refine pd_topF (fun F53 eF53 => ?_)
  have hf := pd_lt hf eF53
  refine pd_topS (fun sh52 esh52 => ?_)
  have hf := pd_lt hf esh52
  clear esh52 eF53 eo54
  refine pd_dup dX11_init_85 rfl ?_
  obtain ⟨hg57, hf⟩ := pd_ig hf
  obtain ⟨sh56, F55, hr, hf⟩ := pd_ob2 hf
  refine pd_callIN (pkX4_init l hr) dX11_init_86 pq_890 pq_893 rfl hg57 (pd_okA (by omega) (by decide) (by omega) (by omega) pq_891 pq_892 (by decide) (show (parseMethodDescriptor yX4_init.desc).map (fun d => d.parameters.length) = some 0 from by decide +kernel)) (Nat.le_of_ble_eq_true rfl) rfl ?_
  obtain ⟨hg58, hf⟩ := pd_ig hf
  refine pd_putF (n := o54) (x := pd_R o54) 7 dX11_init_89 (show vwCl[11]? = some (RX11, TX11, 10) from rfl) pin_11 tyX11_ok nmX11 (by decide) pq_895 rfl rfl rfl hg58 rfl (pd_nrR (Or.inl ⟨_, rfl⟩)) (pd_ftR (Or.inl ⟨_, rfl⟩)) ?_
  refine pd_topF (fun F59 eF59 => ?_)
  have hf := pd_lt hf eF59
  clear eF59
  refine pd_aload_n (i := 0) dX11_init_92 rfl rfl ?_
  refine pd_new dX11_init_93 (show vwCl[0]? = some (RX0, TX0, 15) from rfl) pin_0 tyX0_ok pq_896 pq_843 pq_844 (by decide) ⟨by show _ ≤ 754; omega, by show _ ≤ 8163; omega⟩ ?_
  refine pd_topR (fun o62 eo62 => ?_)
  have hf := pd_lt hf eo62
  refine pd_topF (fun F61 eF61 => ?_)
  have hf := pd_lt hf eF61
  refine pd_topS (fun sh60 esh60 => ?_)
  have hf := pd_lt hf esh60
  clear esh60 eF61 eo62
  refine pd_dup dX11_init_96 rfl ?_
  obtain ⟨hg65, hf⟩ := pd_ig hf
  obtain ⟨sh64, F63, hr, hf⟩ := pd_ob2 hf
  refine pd_callI (pkX0_init l hr) dX11_init_97 pq_897 pq_848 rfl hg65 (pd_okA (by omega) (by decide) (by omega) (by omega) pq_846 pq_847 (by decide) (show (parseMethodDescriptor yX0_init.desc).map (fun d => d.parameters.length) = some 0 from by decide +kernel)) (Nat.le_of_ble_eq_true rfl) rfl ?_
  obtain ⟨hg66, hf⟩ := pd_ig hf
  refine pd_put (n := o62) (x := pd_R o62) 8 dX11_init_100 (show vwCl[11]? = some (RX11, TX11, 10) from rfl) pin_11 tyX11_ok nmX11 (by decide) pq_617 rfl hg66 rfl (pd_nrR (Or.inl ⟨_, rfl⟩)) (pd_ftR (Or.inl ⟨_, rfl⟩)) ?_
  refine pd_topF (fun F67 eF67 => ?_)
  have hf := pd_lt hf eF67
  clear eF67
  refine pd_aload_n (i := 0) dX11_init_103 rfl rfl ?_
  refine pd_iconst dX11_init_104 (by decide) ?_
  refine pd_put (n := 0) (x := pd_I 0) 9 dX11_init_105 (show vwCl[11]? = some (RX11, TX11, 10) from rfl) pin_11 tyX11_ok nmX11 (by decide) pq_748 rfl hg66 rfl (pd_nrZ (by decide)) (pd_ftZ (by decide)) ?_
  refine pd_topF (fun F68 eF68 => ?_)
  have hf := pd_lt hf eF68
  clear eF68
  obtain ⟨h1, h2⟩ := pd_inj hf
  subst h1 h2
  exact pd_vret dX11_init_108 rfl (by omega) (by omega)
