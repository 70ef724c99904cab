theorem dL_isRanked_44 : decode cL_isRanked 44 = .ok (.goto 61, 3) := by decide +kernel
theorem dL_isRanked_47 : decode cL_isRanked 47 = .ok (.aload_n 0, 1) := by decide +kernel
theorem dL_isRanked_48 : decode cL_isRanked 48 = .ok (.iload_n 3, 1) := by decide +kernel
theorem dL_isRanked_49 : decode cL_isRanked 49 = .ok (.iconst 1, 1) := by decide +kernel
theorem dL_isRanked_50 : decode cL_isRanked 50 = .ok (.isub, 1) := by decide +kernel
theorem dL_isRanked_51 : decode cL_isRanked 51 = .ok (.invokevirtual 180, 3) := by decide +kernel
theorem dL_isRanked_54 : decode cL_isRanked 54 = .ok (.istore 5, 2) := by decide +kernel
theorem dL_isRanked_56 : decode cL_isRanked 56 = .ok (.aload_n 0, 1) := by decide +kernel
theorem dL_isRanked_57 : decode cL_isRanked 57 = .ok (.iload 5, 2) := by decide +kernel
theorem dL_isRanked_59 : decode cL_isRanked 59 = .ok (.bipush 7, 2) := by decide +kernel
theorem dL_isRanked_61 : decode cL_isRanked 61 = .ok (.invokevirtual 146, 3) := by decide +kernel
theorem dL_isRanked_64 : decode cL_isRanked 64 = .ok (.aload_n 0, 1) := by decide +kernel
theorem dL_isRanked_65 : decode cL_isRanked 65 = .ok (.iload 4, 2) := by decide +kernel
theorem dL_isRanked_67 : decode cL_isRanked 67 = .ok (.bipush 7, 2) := by decide +kernel
theorem dL_isRanked_69 : decode cL_isRanked 69 = .ok (.invokevirtual 146, 3) := by decide +kernel
theorem dL_isRanked_72 : decode cL_isRanked 72 = .ok (.lcmp, 1) := by decide +kernel
theorem dL_isRanked_73 : decode cL_isRanked 73 = .ok (.ifCond .lt 30, 3) := by decide +kernel
theorem dL_isRanked_76 : decode cL_isRanked 76 = .ok (.aload_n 0, 1) := by decide +kernel
theorem dL_isRanked_77 : decode cL_isRanked 77 = .ok (.iload 5, 2) := by decide +kernel
theorem dL_isRanked_79 : decode cL_isRanked 79 = .ok (.bipush 7, 2) := by decide +kernel
theorem dL_isRanked_81 : decode cL_isRanked 81 = .ok (.invokevirtual 146, 3) := by decide +kernel
theorem dL_isRanked_84 : decode cL_isRanked 84 = .ok (.aload_n 0, 1) := by decide +kernel
theorem dL_isRanked_85 : decode cL_isRanked 85 = .ok (.iload 4, 2) := by decide +kernel
theorem dL_isRanked_87 : decode cL_isRanked 87 = .ok (.bipush 7, 2) := by decide +kernel
theorem dL_isRanked_89 : decode cL_isRanked 89 = .ok (.invokevirtual 146, 3) := by decide +kernel
theorem dL_isRanked_92 : decode cL_isRanked 92 = .ok (.lcmp, 1) := by decide +kernel
theorem dL_isRanked_93 : decode cL_isRanked 93 = .ok (.ifCond .ne 12, 3) := by decide +kernel
theorem dL_isRanked_96 : decode cL_isRanked 96 = .ok (.iload 5, 2) := by decide +kernel
theorem dL_isRanked_98 : decode cL_isRanked 98 = .ok (.iload 4, 2) := by decide +kernel
theorem dL_isRanked_100 : decode cL_isRanked 100 = .ok (.if_icmp .le 5, 3) := by decide +kernel
theorem dL_isRanked_103 : decode cL_isRanked 103 = .ok (.iconst 0, 1) := by decide +kernel
theorem dL_isRanked_104 : decode cL_isRanked 104 = .ok (.ireturn, 1) := by decide +kernel
theorem dL_isRanked_105 : decode cL_isRanked 105 = .ok (.iinc 3 1, 3) := by decide +kernel
theorem dL_isRanked_108 : decode cL_isRanked 108 = .ok (.goto (-104), 3) := by decide +kernel
theorem dL_isRanked_111 : decode cL_isRanked 111 = .ok (.aload_n 0, 1) := by decide +kernel
theorem dL_isRanked_112 : decode cL_isRanked 112 = .ok (.iload_n 1, 1) := by decide +kernel
theorem dL_isRanked_113 : decode cL_isRanked 113 = .ok (.invokevirtual 180, 3) := by decide +kernel
theorem dL_isRanked_116 : decode cL_isRanked 116 = .ok (.iconst (-1), 1) := by decide +kernel
theorem dL_isRanked_117 : decode cL_isRanked 117 = .ok (.if_icmp .ne 7, 3) := by decide +kernel
theorem dL_isRanked_120 : decode cL_isRanked 120 = .ok (.iconst 1, 1) := by decide +kernel
theorem dL_isRanked_121 : decode cL_isRanked 121 = .ok (.goto 4, 3) := by decide +kernel
theorem dL_isRanked_124 : decode cL_isRanked 124 = .ok (.iconst 0, 1) := by decide +kernel
theorem dL_isRanked_125 : decode cL_isRanked 125 = .ok (.ireturn, 1) := by decide +kernel
