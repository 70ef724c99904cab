theorem dX9_append_0 : decode cX9_append 0 = .ok (.bipush 24, 2) := by decide +kernel
theorem dX9_append_2 : decode cX9_append 2 = .ok (.istore_n 2, 1) := by decide +kernel
theorem dX9_append_3 : decode cX9_append 3 = .ok (.iload_n 2, 1) := by decide +kernel
theorem dX9_append_4 : decode cX9_append 4 = .ok (.ifCond .lt 44, 3) := by decide +kernel
theorem dX9_append_7 : decode cX9_append 7 = .ok (.aload_n 0, 1) := by decide +kernel
theorem dX9_append_8 : decode cX9_append 8 = .ok (.getfield 15, 3) := by decide +kernel
theorem dX9_append_11 : decode cX9_append 11 = .ok (.aload_n 0, 1) := by decide +kernel
theorem dX9_append_12 : decode cX9_append 12 = .ok (.getfield 9, 3) := by decide +kernel
theorem dX9_append_15 : decode cX9_append 15 = .ok (.arraylength, 1) := by decide +kernel
theorem dX9_append_16 : decode cX9_append 16 = .ok (.if_icmp .ge 26, 3) := by decide +kernel
theorem dX9_append_19 : decode cX9_append 19 = .ok (.aload_n 0, 1) := by decide +kernel
theorem dX9_append_20 : decode cX9_append 20 = .ok (.getfield 9, 3) := by decide +kernel
theorem dX9_append_23 : decode cX9_append 23 = .ok (.aload_n 0, 1) := by decide +kernel
theorem dX9_append_24 : decode cX9_append 24 = .ok (.getfield 15, 3) := by decide +kernel
theorem dX9_append_27 : decode cX9_append 27 = .ok (.iload_n 1, 1) := by decide +kernel
theorem dX9_append_28 : decode cX9_append 28 = .ok (.iload_n 2, 1) := by decide +kernel
theorem dX9_append_29 : decode cX9_append 29 = .ok (.iushr, 1) := by decide +kernel
theorem dX9_append_30 : decode cX9_append 30 = .ok (.i2b, 1) := by decide +kernel
theorem dX9_append_31 : decode cX9_append 31 = .ok (.bastore, 1) := by decide +kernel
theorem dX9_append_32 : decode cX9_append 32 = .ok (.aload_n 0, 1) := by decide +kernel
theorem dX9_append_33 : decode cX9_append 33 = .ok (.dup, 1) := by decide +kernel
theorem dX9_append_34 : decode cX9_append 34 = .ok (.getfield 15, 3) := by decide +kernel
theorem dX9_append_37 : decode cX9_append 37 = .ok (.iconst 1, 1) := by decide +kernel
theorem dX9_append_38 : decode cX9_append 38 = .ok (.iadd, 1) := by decide +kernel
theorem dX9_append_39 : decode cX9_append 39 = .ok (.putfield 15, 3) := by decide +kernel
theorem dX9_append_42 : decode cX9_append 42 = .ok (.iinc 2 (-8), 3) := by decide +kernel
theorem dX9_append_45 : decode cX9_append 45 = .ok (.goto (-42), 3) := by decide +kernel
theorem dX9_append_48 : decode cX9_append 48 = .ok (.return_, 1) := by decide +kernel
theorem dX9_takeWord_0 : decode cX9_takeWord 0 = .ok (.aload_n 0, 1) := by decide +kernel
theorem dX9_takeWord_1 : decode cX9_takeWord 1 = .ok (.lconst 0, 1) := by decide +kernel
theorem dX9_takeWord_2 : decode cX9_takeWord 2 = .ok (.putfield 49, 3) := by decide +kernel
theorem dX9_takeWord_5 : decode cX9_takeWord 5 = .ok (.aload_n 0, 1) := by decide +kernel
theorem dX9_takeWord_6 : decode cX9_takeWord 6 = .ok (.getfield 28, 3) := by decide +kernel
theorem dX9_takeWord_9 : decode cX9_takeWord 9 = .ok (.aload_n 0, 1) := by decide +kernel
theorem dX9_takeWord_10 : decode cX9_takeWord 10 = .ok (.getfield 25, 3) := by decide +kernel
theorem dX9_takeWord_13 : decode cX9_takeWord 13 = .ok (.if_icmp .ge 66, 3) := by decide +kernel
theorem dX9_takeWord_16 : decode cX9_takeWord 16 = .ok (.aload_n 0, 1) := by decide +kernel
theorem dX9_takeWord_17 : decode cX9_takeWord 17 = .ok (.getfield 9, 3) := by decide +kernel
theorem dX9_takeWord_20 : decode cX9_takeWord 20 = .ok (.aload_n 0, 1) := by decide +kernel
theorem dX9_takeWord_21 : decode cX9_takeWord 21 = .ok (.getfield 28, 3) := by decide +kernel
theorem dX9_takeWord_24 : decode cX9_takeWord 24 = .ok (.baload, 1) := by decide +kernel
theorem dX9_takeWord_25 : decode cX9_takeWord 25 = .ok (.bipush 97, 2) := by decide +kernel
theorem dX9_takeWord_27 : decode cX9_takeWord 27 = .ok (.if_icmp .lt 52, 3) := by decide +kernel
theorem dX9_takeWord_30 : decode cX9_takeWord 30 = .ok (.aload_n 0, 1) := by decide +kernel
theorem dX9_takeWord_31 : decode cX9_takeWord 31 = .ok (.getfield 9, 3) := by decide +kernel
theorem dX9_takeWord_34 : decode cX9_takeWord 34 = .ok (.aload_n 0, 1) := by decide +kernel
theorem dX9_takeWord_35 : decode cX9_takeWord 35 = .ok (.getfield 28, 3) := by decide +kernel
theorem dX9_takeWord_38 : decode cX9_takeWord 38 = .ok (.baload, 1) := by decide +kernel
theorem dX9_takeWord_39 : decode cX9_takeWord 39 = .ok (.bipush 122, 2) := by decide +kernel
theorem dX9_takeWord_41 : decode cX9_takeWord 41 = .ok (.if_icmp .gt 38, 3) := by decide +kernel
theorem dX9_takeWord_44 : decode cX9_takeWord 44 = .ok (.aload_n 0, 1) := by decide +kernel
theorem dX9_takeWord_45 : decode cX9_takeWord 45 = .ok (.aload_n 0, 1) := by decide +kernel
theorem dX9_takeWord_46 : decode cX9_takeWord 46 = .ok (.getfield 49, 3) := by decide +kernel
theorem dX9_takeWord_49 : decode cX9_takeWord 49 = .ok (.bipush 8, 2) := by decide +kernel
theorem dX9_takeWord_51 : decode cX9_takeWord 51 = .ok (.lshl, 1) := by decide +kernel
theorem dX9_takeWord_52 : decode cX9_takeWord 52 = .ok (.aload_n 0, 1) := by decide +kernel
theorem dX9_takeWord_53 : decode cX9_takeWord 53 = .ok (.getfield 9, 3) := by decide +kernel
theorem dX9_takeWord_56 : decode cX9_takeWord 56 = .ok (.aload_n 0, 1) := by decide +kernel
theorem dX9_takeWord_57 : decode cX9_takeWord 57 = .ok (.getfield 28, 3) := by decide +kernel
theorem dX9_takeWord_60 : decode cX9_takeWord 60 = .ok (.baload, 1) := by decide +kernel
theorem dX9_takeWord_61 : decode cX9_takeWord 61 = .ok (.i2l, 1) := by decide +kernel
theorem dX9_takeWord_62 : decode cX9_takeWord 62 = .ok (.lor, 1) := by decide +kernel
theorem dX9_takeWord_63 : decode cX9_takeWord 63 = .ok (.putfield 49, 3) := by decide +kernel
theorem dX9_takeWord_66 : decode cX9_takeWord 66 = .ok (.aload_n 0, 1) := by decide +kernel
theorem dX9_takeWord_67 : decode cX9_takeWord 67 = .ok (.dup, 1) := by decide +kernel
theorem dX9_takeWord_68 : decode cX9_takeWord 68 = .ok (.getfield 28, 3) := by decide +kernel
theorem dX9_takeWord_71 : decode cX9_takeWord 71 = .ok (.iconst 1, 1) := by decide +kernel
theorem dX9_takeWord_72 : decode cX9_takeWord 72 = .ok (.iadd, 1) := by decide +kernel
theorem dX9_takeWord_73 : decode cX9_takeWord 73 = .ok (.putfield 28, 3) := by decide +kernel
theorem dX9_takeWord_76 : decode cX9_takeWord 76 = .ok (.goto (-71), 3) := by decide +kernel
theorem dX9_takeWord_79 : decode cX9_takeWord 79 = .ok (.aload_n 0, 1) := by decide +kernel
theorem dX9_takeWord_80 : decode cX9_takeWord 80 = .ok (.aload_n 0, 1) := by decide +kernel
theorem dX9_takeWord_81 : decode cX9_takeWord 81 = .ok (.getfield 28, 3) := by decide +kernel
theorem dX9_takeWord_84 : decode cX9_takeWord 84 = .ok (.aload_n 0, 1) := by decide +kernel
theorem dX9_takeWord_85 : decode cX9_takeWord 85 = .ok (.getfield 34, 3) := by decide +kernel
theorem dX9_takeWord_88 : decode cX9_takeWord 88 = .ok (.isub, 1) := by decide +kernel
theorem dX9_takeWord_89 : decode cX9_takeWord 89 = .ok (.bipush 8, 2) := by decide +kernel
theorem dX9_takeWord_91 : decode cX9_takeWord 91 = .ok (.if_icmp .gt 7, 3) := by decide +kernel
theorem dX9_takeWord_94 : decode cX9_takeWord 94 = .ok (.iconst 1, 1) := by decide +kernel
theorem dX9_takeWord_95 : decode cX9_takeWord 95 = .ok (.goto 4, 3) := by decide +kernel
theorem dX9_takeWord_98 : decode cX9_takeWord 98 = .ok (.iconst 4, 1) := by decide +kernel
theorem dX9_takeWord_99 : decode cX9_takeWord 99 = .ok (.putfield 37, 3) := by decide +kernel
theorem dX9_takeWord_102 : decode cX9_takeWord 102 = .ok (.return_, 1) := by decide +kernel
theorem dX9_takeNumber_0 : decode cX9_takeNumber 0 = .ok (.aload_n 0, 1) := by decide +kernel
theorem dX9_takeNumber_1 : decode cX9_takeNumber 1 = .ok (.iconst 0, 1) := by decide +kernel
theorem dX9_takeNumber_2 : decode cX9_takeNumber 2 = .ok (.putfield 53, 3) := by decide +kernel
theorem dX9_takeNumber_5 : decode cX9_takeNumber 5 = .ok (.aload_n 0, 1) := by decide +kernel
theorem dX9_takeNumber_6 : decode cX9_takeNumber 6 = .ok (.getfield 28, 3) := by decide +kernel
theorem dX9_takeNumber_9 : decode cX9_takeNumber 9 = .ok (.aload_n 0, 1) := by decide +kernel
theorem dX9_takeNumber_10 : decode cX9_takeNumber 10 = .ok (.getfield 25, 3) := by decide +kernel
theorem dX9_takeNumber_13 : decode cX9_takeNumber 13 = .ok (.if_icmp .ge 68, 3) := by decide +kernel
theorem dX9_takeNumber_16 : decode cX9_takeNumber 16 = .ok (.aload_n 0, 1) := by decide +kernel
theorem dX9_takeNumber_17 : decode cX9_takeNumber 17 = .ok (.getfield 9, 3) := by decide +kernel
theorem dX9_takeNumber_20 : decode cX9_takeNumber 20 = .ok (.aload_n 0, 1) := by decide +kernel
theorem dX9_takeNumber_21 : decode cX9_takeNumber 21 = .ok (.getfield 28, 3) := by decide +kernel
theorem dX9_takeNumber_24 : decode cX9_takeNumber 24 = .ok (.baload, 1) := by decide +kernel
theorem dX9_takeNumber_25 : decode cX9_takeNumber 25 = .ok (.bipush 48, 2) := by decide +kernel
theorem dX9_takeNumber_27 : decode cX9_takeNumber 27 = .ok (.if_icmp .lt 54, 3) := by decide +kernel
theorem dX9_takeNumber_30 : decode cX9_takeNumber 30 = .ok (.aload_n 0, 1) := by decide +kernel
theorem dX9_takeNumber_31 : decode cX9_takeNumber 31 = .ok (.getfield 9, 3) := by decide +kernel
theorem dX9_takeNumber_34 : decode cX9_takeNumber 34 = .ok (.aload_n 0, 1) := by decide +kernel
theorem dX9_takeNumber_35 : decode cX9_takeNumber 35 = .ok (.getfield 28, 3) := by decide +kernel
theorem dX9_takeNumber_38 : decode cX9_takeNumber 38 = .ok (.baload, 1) := by decide +kernel
theorem dX9_takeNumber_39 : decode cX9_takeNumber 39 = .ok (.bipush 57, 2) := by decide +kernel
theorem dX9_takeNumber_41 : decode cX9_takeNumber 41 = .ok (.if_icmp .gt 40, 3) := by decide +kernel
theorem dX9_takeNumber_44 : decode cX9_takeNumber 44 = .ok (.aload_n 0, 1) := by decide +kernel
theorem dX9_takeNumber_45 : decode cX9_takeNumber 45 = .ok (.aload_n 0, 1) := by decide +kernel
theorem dX9_takeNumber_46 : decode cX9_takeNumber 46 = .ok (.getfield 53, 3) := by decide +kernel
theorem dX9_takeNumber_49 : decode cX9_takeNumber 49 = .ok (.bipush 10, 2) := by decide +kernel
theorem dX9_takeNumber_51 : decode cX9_takeNumber 51 = .ok (.imul, 1) := by decide +kernel
theorem dX9_takeNumber_52 : decode cX9_takeNumber 52 = .ok (.aload_n 0, 1) := by decide +kernel
theorem dX9_takeNumber_53 : decode cX9_takeNumber 53 = .ok (.getfield 9, 3) := by decide +kernel
theorem dX9_takeNumber_56 : decode cX9_takeNumber 56 = .ok (.aload_n 0, 1) := by decide +kernel
theorem dX9_takeNumber_57 : decode cX9_takeNumber 57 = .ok (.getfield 28, 3) := by decide +kernel
theorem dX9_takeNumber_60 : decode cX9_takeNumber 60 = .ok (.baload, 1) := by decide +kernel
theorem dX9_takeNumber_61 : decode cX9_takeNumber 61 = .ok (.bipush 48, 2) := by decide +kernel
theorem dX9_takeNumber_63 : decode cX9_takeNumber 63 = .ok (.isub, 1) := by decide +kernel
theorem dX9_takeNumber_64 : decode cX9_takeNumber 64 = .ok (.iadd, 1) := by decide +kernel
theorem dX9_takeNumber_65 : decode cX9_takeNumber 65 = .ok (.putfield 53, 3) := by decide +kernel
theorem dX9_takeNumber_68 : decode cX9_takeNumber 68 = .ok (.aload_n 0, 1) := by decide +kernel
theorem dX9_takeNumber_69 : decode cX9_takeNumber 69 = .ok (.dup, 1) := by decide +kernel
theorem dX9_takeNumber_70 : decode cX9_takeNumber 70 = .ok (.getfield 28, 3) := by decide +kernel
theorem dX9_takeNumber_73 : decode cX9_takeNumber 73 = .ok (.iconst 1, 1) := by decide +kernel
theorem dX9_takeNumber_74 : decode cX9_takeNumber 74 = .ok (.iadd, 1) := by decide +kernel
theorem dX9_takeNumber_75 : decode cX9_takeNumber 75 = .ok (.putfield 28, 3) := by decide +kernel
theorem dX9_takeNumber_78 : decode cX9_takeNumber 78 = .ok (.goto (-73), 3) := by decide +kernel
theorem dX9_takeNumber_81 : decode cX9_takeNumber 81 = .ok (.aload_n 0, 1) := by decide +kernel
theorem dX9_takeNumber_82 : decode cX9_takeNumber 82 = .ok (.aload_n 0, 1) := by decide +kernel
theorem dX9_takeNumber_83 : decode cX9_takeNumber 83 = .ok (.getfield 28, 3) := by decide +kernel
theorem dX9_takeNumber_86 : decode cX9_takeNumber 86 = .ok (.aload_n 0, 1) := by decide +kernel
theorem dX9_takeNumber_87 : decode cX9_takeNumber 87 = .ok (.getfield 34, 3) := by decide +kernel
theorem dX9_takeNumber_90 : decode cX9_takeNumber 90 = .ok (.isub, 1) := by decide +kernel
theorem dX9_takeNumber_91 : decode cX9_takeNumber 91 = .ok (.bipush 7, 2) := by decide +kernel
theorem dX9_takeNumber_93 : decode cX9_takeNumber 93 = .ok (.if_icmp .gt 7, 3) := by decide +kernel
theorem dX9_takeNumber_96 : decode cX9_takeNumber 96 = .ok (.iconst 2, 1) := by decide +kernel
theorem dX9_takeNumber_97 : decode cX9_takeNumber 97 = .ok (.goto 4, 3) := by decide +kernel
theorem dX9_takeNumber_100 : decode cX9_takeNumber 100 = .ok (.iconst 4, 1) := by decide +kernel
theorem dX9_takeNumber_101 : decode cX9_takeNumber 101 = .ok (.putfield 37, 3) := by decide +kernel
theorem dX9_takeNumber_104 : decode cX9_takeNumber 104 = .ok (.return_, 1) := by decide +kernel
theorem dX9_advance_0 : decode cX9_advance 0 = .ok (.aload_n 0, 1) := by decide +kernel
theorem dX9_advance_1 : decode cX9_advance 1 = .ok (.getfield 28, 3) := by decide +kernel
theorem dX9_advance_4 : decode cX9_advance 4 = .ok (.aload_n 0, 1) := by decide +kernel
theorem dX9_advance_5 : decode cX9_advance 5 = .ok (.getfield 25, 3) := by decide +kernel
theorem dX9_advance_8 : decode cX9_advance 8 = .ok (.if_icmp .ge 44, 3) := by decide +kernel
theorem dX9_advance_11 : decode cX9_advance 11 = .ok (.aload_n 0, 1) := by decide +kernel
theorem dX9_advance_12 : decode cX9_advance 12 = .ok (.getfield 9, 3) := by decide +kernel
theorem dX9_advance_15 : decode cX9_advance 15 = .ok (.aload_n 0, 1) := by decide +kernel
theorem dX9_advance_16 : decode cX9_advance 16 = .ok (.getfield 28, 3) := by decide +kernel
theorem dX9_advance_19 : decode cX9_advance 19 = .ok (.baload, 1) := by decide +kernel
theorem dX9_advance_20 : decode cX9_advance 20 = .ok (.bipush 32, 2) := by decide +kernel
theorem dX9_advance_22 : decode cX9_advance 22 = .ok (.if_icmp .eq 17, 3) := by decide +kernel
theorem dX9_advance_25 : decode cX9_advance 25 = .ok (.aload_n 0, 1) := by decide +kernel
theorem dX9_advance_26 : decode cX9_advance 26 = .ok (.getfield 9, 3) := by decide +kernel
theorem dX9_advance_29 : decode cX9_advance 29 = .ok (.aload_n 0, 1) := by decide +kernel
theorem dX9_advance_30 : decode cX9_advance 30 = .ok (.getfield 28, 3) := by decide +kernel
theorem dX9_advance_33 : decode cX9_advance 33 = .ok (.baload, 1) := by decide +kernel
theorem dX9_advance_34 : decode cX9_advance 34 = .ok (.bipush 10, 2) := by decide +kernel
theorem dX9_advance_36 : decode cX9_advance 36 = .ok (.if_icmp .ne 16, 3) := by decide +kernel
theorem dX9_advance_39 : decode cX9_advance 39 = .ok (.aload_n 0, 1) := by decide +kernel
theorem dX9_advance_40 : decode cX9_advance 40 = .ok (.dup, 1) := by decide +kernel
theorem dX9_advance_41 : decode cX9_advance 41 = .ok (.getfield 28, 3) := by decide +kernel
theorem dX9_advance_44 : decode cX9_advance 44 = .ok (.iconst 1, 1) := by decide +kernel
theorem dX9_advance_45 : decode cX9_advance 45 = .ok (.iadd, 1) := by decide +kernel
theorem dX9_advance_46 : decode cX9_advance 46 = .ok (.putfield 28, 3) := by decide +kernel
theorem dX9_advance_49 : decode cX9_advance 49 = .ok (.goto (-49), 3) := by decide +kernel
theorem dX9_advance_52 : decode cX9_advance 52 = .ok (.aload_n 0, 1) := by decide +kernel
theorem dX9_advance_53 : decode cX9_advance 53 = .ok (.aload_n 0, 1) := by decide +kernel
theorem dX9_advance_54 : decode cX9_advance 54 = .ok (.getfield 28, 3) := by decide +kernel
theorem dX9_advance_57 : decode cX9_advance 57 = .ok (.putfield 34, 3) := by decide +kernel
theorem dX9_advance_60 : decode cX9_advance 60 = .ok (.aload_n 0, 1) := by decide +kernel
theorem dX9_advance_61 : decode cX9_advance 61 = .ok (.getfield 34, 3) := by decide +kernel
theorem dX9_advance_64 : decode cX9_advance 64 = .ok (.aload_n 0, 1) := by decide +kernel
theorem dX9_advance_65 : decode cX9_advance 65 = .ok (.getfield 25, 3) := by decide +kernel
theorem dX9_advance_68 : decode cX9_advance 68 = .ok (.if_icmp .lt 9, 3) := by decide +kernel
theorem dX9_advance_71 : decode cX9_advance 71 = .ok (.aload_n 0, 1) := by decide +kernel
theorem dX9_advance_72 : decode cX9_advance 72 = .ok (.iconst 0, 1) := by decide +kernel
theorem dX9_advance_73 : decode cX9_advance 73 = .ok (.putfield 37, 3) := by decide +kernel
theorem dX9_advance_76 : decode cX9_advance 76 = .ok (.return_, 1) := by decide +kernel
theorem dX9_advance_77 : decode cX9_advance 77 = .ok (.aload_n 0, 1) := by decide +kernel
theorem dX9_advance_78 : decode cX9_advance 78 = .ok (.aload_n 0, 1) := by decide +kernel
theorem dX9_advance_79 : decode cX9_advance 79 = .ok (.getfield 9, 3) := by decide +kernel
theorem dX9_advance_82 : decode cX9_advance 82 = .ok (.aload_n 0, 1) := by decide +kernel
theorem dX9_advance_83 : decode cX9_advance 83 = .ok (.getfield 34, 3) := by decide +kernel
theorem dX9_advance_86 : decode cX9_advance 86 = .ok (.baload, 1) := by decide +kernel
theorem dX9_advance_87 : decode cX9_advance 87 = .ok (.putfield 40, 3) := by decide +kernel
theorem dX9_advance_90 : decode cX9_advance 90 = .ok (.aload_n 0, 1) := by decide +kernel
theorem dX9_advance_91 : decode cX9_advance 91 = .ok (.getfield 40, 3) := by decide +kernel
theorem dX9_advance_94 : decode cX9_advance 94 = .ok (.bipush 97, 2) := by decide +kernel
theorem dX9_advance_96 : decode cX9_advance 96 = .ok (.if_icmp .lt 19, 3) := by decide +kernel
theorem dX9_advance_99 : decode cX9_advance 99 = .ok (.aload_n 0, 1) := by decide +kernel
theorem dX9_advance_100 : decode cX9_advance 100 = .ok (.getfield 40, 3) := by decide +kernel
theorem dX9_advance_103 : decode cX9_advance 103 = .ok (.bipush 122, 2) := by decide +kernel
theorem dX9_advance_105 : decode cX9_advance 105 = .ok (.if_icmp .gt 10, 3) := by decide +kernel
theorem dX9_advance_108 : decode cX9_advance 108 = .ok (.aload_n 0, 1) := by decide +kernel
theorem dX9_advance_109 : decode cX9_advance 109 = .ok (.invokevirtual 43, 3) := by decide +kernel
theorem dX9_advance_112 : decode cX9_advance 112 = .ok (.goto 60, 3) := by decide +kernel
theorem dX9_advance_115 : decode cX9_advance 115 = .ok (.aload_n 0, 1) := by decide +kernel
theorem dX9_advance_116 : decode cX9_advance 116 = .ok (.getfield 40, 3) := by decide +kernel
theorem dX9_advance_119 : decode cX9_advance 119 = .ok (.bipush 48, 2) := by decide +kernel
theorem dX9_advance_121 : decode cX9_advance 121 = .ok (.if_icmp .lt 19, 3) := by decide +kernel
theorem dX9_advance_124 : decode cX9_advance 124 = .ok (.aload_n 0, 1) := by decide +kernel
theorem dX9_advance_125 : decode cX9_advance 125 = .ok (.getfield 40, 3) := by decide +kernel
theorem dX9_advance_128 : decode cX9_advance 128 = .ok (.bipush 57, 2) := by decide +kernel
theorem dX9_advance_130 : decode cX9_advance 130 = .ok (.if_icmp .gt 10, 3) := by decide +kernel
theorem dX9_advance_133 : decode cX9_advance 133 = .ok (.aload_n 0, 1) := by decide +kernel
theorem dX9_advance_134 : decode cX9_advance 134 = .ok (.invokevirtual 46, 3) := by decide +kernel
theorem dX9_advance_137 : decode cX9_advance 137 = .ok (.goto 35, 3) := by decide +kernel
theorem dX9_advance_140 : decode cX9_advance 140 = .ok (.aload_n 0, 1) := by decide +kernel
theorem dX9_advance_141 : decode cX9_advance 141 = .ok (.getfield 40, 3) := by decide +kernel
theorem dX9_advance_144 : decode cX9_advance 144 = .ok (.bipush 59, 2) := by decide +kernel
theorem dX9_advance_146 : decode cX9_advance 146 = .ok (.if_icmp .ne 21, 3) := by decide +kernel
theorem dX9_advance_149 : decode cX9_advance 149 = .ok (.aload_n 0, 1) := by decide +kernel
theorem dX9_advance_150 : decode cX9_advance 150 = .ok (.iconst 3, 1) := by decide +kernel
theorem dX9_advance_151 : decode cX9_advance 151 = .ok (.putfield 37, 3) := by decide +kernel
theorem dX9_advance_154 : decode cX9_advance 154 = .ok (.aload_n 0, 1) := by decide +kernel
theorem dX9_advance_155 : decode cX9_advance 155 = .ok (.dup, 1) := by decide +kernel
theorem dX9_advance_156 : decode cX9_advance 156 = .ok (.getfield 28, 3) := by decide +kernel
theorem dX9_advance_159 : decode cX9_advance 159 = .ok (.iconst 1, 1) := by decide +kernel
theorem dX9_advance_160 : decode cX9_advance 160 = .ok (.iadd, 1) := by decide +kernel
theorem dX9_advance_161 : decode cX9_advance 161 = .ok (.putfield 28, 3) := by decide +kernel
theorem dX9_advance_164 : decode cX9_advance 164 = .ok (.goto 8, 3) := by decide +kernel
theorem dX9_advance_167 : decode cX9_advance 167 = .ok (.aload_n 0, 1) := by decide +kernel
theorem dX9_advance_168 : decode cX9_advance 168 = .ok (.iconst 4, 1) := by decide +kernel
theorem dX9_advance_169 : decode cX9_advance 169 = .ok (.putfield 37, 3) := by decide +kernel
theorem dX9_advance_172 : decode cX9_advance 172 = .ok (.return_, 1) := by decide +kernel
theorem dX9_open_0 : decode cX9_open 0 = .ok (.aload_n 0, 1) := by decide +kernel
theorem dX9_open_1 : decode cX9_open 1 = .ok (.iload_n 1, 1) := by decide +kernel
theorem dX9_open_2 : decode cX9_open 2 = .ok (.aload_n 0, 1) := by decide +kernel
theorem dX9_open_3 : decode cX9_open 3 = .ok (.getfield 9, 3) := by decide +kernel
theorem dX9_open_6 : decode cX9_open 6 = .ok (.arraylength, 1) := by decide +kernel
theorem dX9_open_7 : decode cX9_open 7 = .ok (.invokestatic 19, 3) := by decide +kernel
theorem dX9_open_10 : decode cX9_open 10 = .ok (.putfield 25, 3) := by decide +kernel
theorem dX9_open_13 : decode cX9_open 13 = .ok (.aload_n 0, 1) := by decide +kernel
theorem dX9_open_14 : decode cX9_open 14 = .ok (.iconst 0, 1) := by decide +kernel
theorem dX9_open_15 : decode cX9_open 15 = .ok (.putfield 28, 3) := by decide +kernel
theorem dX9_open_18 : decode cX9_open 18 = .ok (.aload_n 0, 1) := by decide +kernel
theorem dX9_open_19 : decode cX9_open 19 = .ok (.invokevirtual 31, 3) := by decide +kernel
theorem dX9_open_22 : decode cX9_open 22 = .ok (.return_, 1) := by decide +kernel
theorem pq_169 : Cond.fieldLink RX9 15 "PayoutDesk$Tape" "length" "I" ∈ pd_gt := pd_in 88 (by decide +kernel) (by decide +kernel)
theorem pq_170 : Cond.fieldLink RX9 9 "PayoutDesk$Tape" "bytes" "[B" ∈ pd_gt := pd_in 86 (by decide +kernel) (by decide +kernel)
theorem pq_171 : Cond.fieldLink RX9 28 "PayoutDesk$Tape" "next" "I" ∈ pd_gt := pd_in 90 (by decide +kernel) (by decide +kernel)
theorem pq_172 : Cond.fieldLink RX9 34 "PayoutDesk$Tape" "place" "I" ∈ pd_gt := pd_in 94 (by decide +kernel) (by decide +kernel)
theorem pq_173 : Cond.fieldLink RX9 37 "PayoutDesk$Tape" "kind" "I" ∈ pd_gt := pd_in 92 (by decide +kernel) (by decide +kernel)
theorem pq_174 : Cond.fieldLink RX9 25 "PayoutDesk$Tape" "end" "I" ∈ pd_gt := pd_in 89 (by decide +kernel) (by decide +kernel)
theorem pq_175 : Cond.fieldLink RX9 49 "PayoutDesk$Tape" "word" "J" ∈ pd_gt := pd_in 99 (by decide +kernel) (by decide +kernel)
theorem pq_176 : Cond.fieldLink RX9 53 "PayoutDesk$Tape" "number" "I" ∈ pd_gt := pd_in 97 (by decide +kernel) (by decide +kernel)
theorem pq_177 : Cond.fieldLink RX9 40 "PayoutDesk$Tape" "first" "I" ∈ pd_gt := pd_in 95 (by decide +kernel) (by decide +kernel)
theorem pq_178 : Cond.methodLink RX9 46 yX9_takeNumber ∈ pd_gt := pd_in 1102 (by decide +kernel) (by decide +kernel)
theorem pq_179 : Cond.code yX9_takeNumber cX9_takeNumber 1 none ∈ pd_gt := pd_in 1105 (by decide +kernel) (by decide +kernel)
theorem pq_180 : Cond.initialized yX9_takeNumber.cls ∈ pd_gt := pd_in 39 (by decide +kernel) (by decide +kernel)
theorem pq_181 : Cond.instanceMethod yX9_takeNumber ∈ pd_gt := pd_in 1104 (by decide +kernel) (by decide +kernel)
theorem pq_182 : Cond.selects yX9_takeNumber.cls yX9_takeNumber yX9_takeNumber ∈ pd_gt := pd_in 15 (by decide +kernel) (by decide +kernel)
theorem pq_183 : Cond.methodLink RX9 43 yX9_takeWord ∈ pd_gt := pd_in 1098 (by decide +kernel) (by decide +kernel)
theorem pq_184 : Cond.code yX9_takeWord cX9_takeWord 1 none ∈ pd_gt := pd_in 1101 (by decide +kernel) (by decide +kernel)
theorem pq_185 : Cond.initialized yX9_takeWord.cls ∈ pd_gt := pd_in 39 (by decide +kernel) (by decide +kernel)
theorem pq_186 : Cond.instanceMethod yX9_takeWord ∈ pd_gt := pd_in 1100 (by decide +kernel) (by decide +kernel)
theorem pq_187 : Cond.selects yX9_takeWord.cls yX9_takeWord yX9_takeWord ∈ pd_gt := pd_in 14 (by decide +kernel) (by decide +kernel)
theorem pq_188 : Cond.methodLink RX9 19 Lib.Math.min.name ∈ pd_gt := pd_in 1093 (by decide +kernel) (by decide +kernel)
theorem pq_189 : Cond.methodLink RX9 31 yX9_advance ∈ pd_gt := pd_in 1094 (by decide +kernel) (by decide +kernel)
theorem pq_190 : Cond.code yX9_advance cX9_advance 1 none ∈ pd_gt := pd_in 1097 (by decide +kernel) (by decide +kernel)
theorem pq_191 : Cond.initialized yX9_advance.cls ∈ pd_gt := pd_in 39 (by decide +kernel) (by decide +kernel)
theorem pq_192 : Cond.instanceMethod yX9_advance ∈ pd_gt := pd_in 1095 (by decide +kernel) (by decide +kernel)
theorem pq_193 : Cond.selects yX9_advance.cls yX9_advance yX9_advance ∈ pd_gt := pd_in 1096 (by decide +kernel) (by decide +kernel)
def pfX9_append_b42 (sh : pd_S) (n : Nat) (c3 : pd_F → Int → Int → Int → Option pd_F) (F : pd_F) (x0 : Int) (x1 : Int) (x2 : Int) : Option pd_F :=
  pd_l (pd_w (x2 + (-8))) fun x2_42 =>
  c3 F x0 x1 x2_42
def pfX9_append_b3 (sh : pd_S) (n : Nat)  : Nat → pd_F → Int → Int → Int → Option pd_F
  | 0, _, _, _, _ => none
  | k + 1, F, x0, x1, x2 =>
    if x2 < 0 then
      some F
    else
      pd_i (pd_ob sh 9 x0 = true) <|
      pd_i (0 ≤ pd_ln sh 0 1 (F x0 0)) <|
      if (F x0 1) ≥ (pd_ln sh 0 1 (F x0 0)) then
        pfX9_append_b42 sh n (pfX9_append_b3 sh n k) F x0 x1 x2
      else
        pd_i (pd_ib sh 0 1 (F x0 0) (F x0 1) = true) <|
        pd_l (pd_up F (F x0 0) (F x0 1) (pd_b (pd_b (pd_ushr x1 x2)))) fun F4 =>
        pd_l (pd_up F4 x0 1 (pd_w ((F4 x0 1) + 1))) fun F5 =>
        pfX9_append_b42 sh n (pfX9_append_b3 sh n k) F5 x0 x1 x2
def pfX9_append (sh : pd_S) (n : Nat) (F : pd_F) (x0 : Int) (x1 : Int) : Option pd_F :=
  pfX9_append_b3 sh n n F x0 x1 24
def pfX9_takeWord_b79 (sh : pd_S) (n : Nat)  (F : pd_F) (x0 : Int) : Option pd_F :=
  pd_i (pd_ob sh 9 x0 = true) <|
  if (pd_w ((F x0 3) - (F x0 5))) > 8 then
    pd_l (pd_up F x0 4 4) fun F2 =>
    some F2
  else
    pd_l (pd_up F x0 4 1) fun F3 =>
    some F3
def pfX9_takeWord_b5 (sh : pd_S) (n : Nat)  : Nat → pd_F → Int → Option pd_F
  | 0, _, _ => none
  | k + 1, F, x0 =>
    pd_i (pd_ob sh 9 x0 = true) <|
    if (F x0 3) ≥ (F x0 2) then
      pfX9_takeWord_b79 sh n F x0
    else
      pd_i (pd_ib sh 0 1 (F x0 0) (F x0 3) = true) <|
      if (F (F x0 0) (F x0 3)) < 97 then
        pfX9_takeWord_b79 sh n F x0
      else
        if (F (F x0 0) (F x0 3)) > 122 then
          pfX9_takeWord_b79 sh n F x0
        else
          pd_l (pd_up F x0 8 (pd_Or (pd_Shl (F x0 8) 8) (F (F x0 0) (F x0 3)))) fun F6 =>
          pd_l (pd_up F6 x0 3 (pd_w ((F6 x0 3) + 1))) fun F7 =>
          pfX9_takeWord_b5 sh n k F7 x0
def pfX9_takeWord (sh : pd_S) (n : Nat) (F : pd_F) (x0 : Int) : Option pd_F :=
  pd_i (pd_ob sh 9 x0 = true) <|
  pd_l (pd_up F x0 8 0) fun F9 =>
  pfX9_takeWord_b5 sh n n F9 x0
def pfX9_takeNumber_b81 (sh : pd_S) (n : Nat)  (F : pd_F) (x0 : Int) : Option pd_F :=
  pd_i (pd_ob sh 9 x0 = true) <|
  if (pd_w ((F x0 3) - (F x0 5))) > 7 then
    pd_l (pd_up F x0 4 4) fun F2 =>
    some F2
  else
    pd_l (pd_up F x0 4 2) fun F3 =>
    some F3
def pfX9_takeNumber_b5 (sh : pd_S) (n : Nat)  : Nat → pd_F → Int → Option pd_F
  | 0, _, _ => none
  | k + 1, F, x0 =>
    pd_i (pd_ob sh 9 x0 = true) <|
    if (F x0 3) ≥ (F x0 2) then
      pfX9_takeNumber_b81 sh n F x0
    else
      pd_i (pd_ib sh 0 1 (F x0 0) (F x0 3) = true) <|
      if (F (F x0 0) (F x0 3)) < 48 then
        pfX9_takeNumber_b81 sh n F x0
      else
        if (F (F x0 0) (F x0 3)) > 57 then
          pfX9_takeNumber_b81 sh n F x0
        else
          pd_l (pd_up F x0 7 (pd_w ((pd_w ((F x0 7) * 10)) + (pd_w ((F (F x0 0) (F x0 3)) - 48))))) fun F6 =>
          pd_l (pd_up F6 x0 3 (pd_w ((F6 x0 3) + 1))) fun F7 =>
          pfX9_takeNumber_b5 sh n k F7 x0
def pfX9_takeNumber (sh : pd_S) (n : Nat) (F : pd_F) (x0 : Int) : Option pd_F :=
  pd_i (pd_ob sh 9 x0 = true) <|
  pd_l (pd_up F x0 7 0) fun F9 =>
  pfX9_takeNumber_b5 sh n n F9 x0
def pfX9_advance_b39 (sh : pd_S) (n : Nat) (c0 : pd_F → Int → Option pd_F) (F : pd_F) (x0 : Int) : Option pd_F :=
  pd_i (pd_ob sh 9 x0 = true) <|
  pd_l (pd_up F x0 3 (pd_w ((F x0 3) + 1))) fun F2 =>
  c0 F2 x0
def pfX9_advance_b140 (sh : pd_S) (n : Nat)  (F : pd_F) (x0 : Int) : Option pd_F :=
  pd_i (pd_ob sh 9 x0 = true) <|
  if (F x0 6) ≠ 59 then
    pd_l (pd_up F x0 4 4) fun F4 =>
    some F4
  else
    pd_l (pd_up F x0 4 3) fun F5 =>
    pd_l (pd_up F5 x0 3 (pd_w ((F5 x0 3) + 1))) fun F6 =>
    some F6
def pfX9_advance_b115 (sh : pd_S) (n : Nat)  (F : pd_F) (x0 : Int) : Option pd_F :=
  pd_i (pd_ob sh 9 x0 = true) <|
  if (F x0 6) < 48 then
    pfX9_advance_b140 sh n F x0
  else
    if (F x0 6) > 57 then
      pfX9_advance_b140 sh n F x0
    else
      Option.bind (pfX9_takeNumber sh n F x0) fun F8 =>
      some F8
def pfX9_advance_b52 (sh : pd_S) (n : Nat)  (F : pd_F) (x0 : Int) : Option pd_F :=
  pd_i (pd_ob sh 9 x0 = true) <|
  pd_l (pd_up F x0 5 (F x0 3)) fun F10 =>
  if (F10 x0 5) < (F10 x0 2) then
    pd_i (pd_ib sh 0 1 (F10 x0 0) (F10 x0 5) = true) <|
    pd_l (pd_up F10 x0 6 (F10 (F10 x0 0) (F10 x0 5))) fun F12 =>
    if (F12 x0 6) < 97 then
      pfX9_advance_b115 sh n F12 x0
    else
      if (F12 x0 6) > 122 then
        pfX9_advance_b115 sh n F12 x0
      else
        Option.bind (pfX9_takeWord sh n F12 x0) fun F13 =>
        some F13
  else
    pd_l (pd_up F10 x0 4 0) fun F14 =>
    some F14
def pfX9_advance_b0 (sh : pd_S) (n : Nat)  : Nat → pd_F → Int → Option pd_F
  | 0, _, _ => none
  | k + 1, F, x0 =>
    pd_i (pd_ob sh 9 x0 = true) <|
    if (F x0 3) ≥ (F x0 2) then
      pfX9_advance_b52 sh n F x0
    else
      pd_i (pd_ib sh 0 1 (F x0 0) (F x0 3) = true) <|
      if (F (F x0 0) (F x0 3)) = 32 then
        pfX9_advance_b39 sh n (pfX9_advance_b0 sh n k) F x0
      else
        if (F (F x0 0) (F x0 3)) ≠ 10 then
          pfX9_advance_b52 sh n F x0
        else
          pfX9_advance_b39 sh n (pfX9_advance_b0 sh n k) F x0
def pfX9_advance (sh : pd_S) (n : Nat) (F : pd_F) (x0 : Int) : Option pd_F :=
  pfX9_advance_b0 sh n n F x0
def pfX9_open (sh : pd_S) (n : Nat) (F : pd_F) (x0 : Int) (x1 : Int) : Option pd_F :=
  pd_i (pd_ob sh 9 x0 = true) <|
  pd_i (0 ≤ pd_ln sh 0 1 (F x0 0)) <|
  pd_l (pd_up F x0 2 (min x1 (pd_ln sh 0 1 (F x0 0)))) fun F3 =>
  pd_l (pd_up F3 x0 3 0) fun F4 =>
  Option.bind (pfX9_advance sh n F4 x0) fun F5 =>
  some F5
set_option maxHeartbeats 4000000 in
set_option maxRecDepth 100000 in
theorem pkX9_append_b42 (E : pd_E) (l : Launch) {al : Bool} {sh : pd_S} {n : Nat} {Fz : pd_F} {c3 : pd_F → Int → Int → Int → Option pd_F} (hL3 : ∀ (F : pd_F) (x0 : Int) (x1 : Int) (x2 : Int), c3 F x0 x1 x2 = some Fz → pd_V E l (pd_rm 1 0 0) (RX9, cX9_append, 3, none, "append") (pd_Qm E al none sh Fz 0 0) al 0 0 sh F 3 [pd_R x0, pd_I x1, pd_I x2] []) (F : pd_F) (x0 : Int) (x1 : Int) (x2 : Int) (hf : pfX9_append_b42 sh n c3 F x0 x1 x2 = some Fz) : pd_V E l (pd_rm 1 0 0) (RX9, cX9_append, 3, none, "append") (pd_Qm E al none sh Fz 0 0) al 0 0 sh F 42 [pd_R x0, pd_I x1, pd_I x2] [] := by
  unfold pfX9_append_b42 at hf
  refine pd_iincN (L' := fun y => [pd_R x0, pd_I x1, pd_I y]) dX9_append_42 rfl (by decide) (by decide) (fun _ => rfl) (fun x2_42 ex2_42 => ?_)
  have hf := pd_lt hf ex2_42
  clear ex2_42
  refine pd_goto (tgt := 3) dX9_append_45 (by decide) ?_
  exact pd_weak (L' := [pd_R x0, pd_I x1, pd_I x2_42]) ⟨Or.inr rfl, Or.inr rfl, Or.inr rfl, trivial⟩ (hL3 _ _ _ _ hf)
set_option maxHeartbeats 4000000 in
set_option maxRecDepth 100000 in
theorem pkX9_append_b3 (E : pd_E) (l : Launch) {al : Bool} {sh : pd_S} {n : Nat} {Fz : pd_F}  : ∀ (k : Nat) (F : pd_F) (x0 : Int) (x1 : Int) (x2 : Int), pfX9_append_b3 sh n  k F x0 x1 x2 = some Fz → pd_V E l (pd_rm 1 0 0) (RX9, cX9_append, 3, none, "append") (pd_Qm E al none sh Fz 0 0) al 0 0 sh F 3 [pd_R x0, pd_I x1, pd_I x2] [] := by
  intro k
  induction k with
  | zero => intro F x0 x1 x2 hf; exact absurd hf (by unfold pfX9_append_b3; exact fun h => nomatch h)
  | succ k ih =>
    intro F x0 x1 x2 hf
    unfold pfX9_append_b3 at hf
    refine pd_iload_n (i := 2) dX9_append_3 rfl rfl ?_
    refine pd_if_lt (tgt := 48) dX9_append_4 (by decide) (fun hc => ?_) (fun hc => ?_)
    · have hf := pd_ip hf hc
      obtain h2 := pd_inj1 hf
      subst h2
      exact pd_vret dX9_append_48 rfl (Nat.le_refl 0) (Nat.le_refl 0)
    · have hf := pd_in_ hf hc
      refine pd_aload_n (i := 0) dX9_append_7 rfl rfl ?_
      obtain ⟨hg1, hf⟩ := pd_ig hf
      refine pd_get (x := pd_I (F x0 1)) 1 dX9_append_8 (show vwCl[9]? = some (RX9, TX9, 9) from rfl) pin_9 (by decide) pq_169 hg1 rfl ?_
      refine pd_aload_n (i := 0) dX9_append_11 rfl rfl ?_
      refine pd_get (x := pd_R (F x0 0)) 0 dX9_append_12 (show vwCl[9]? = some (RX9, TX9, 9) from rfl) pin_9 (by decide) pq_170 hg1 rfl ?_
      obtain ⟨hg2, hf⟩ := pd_ig hf
      refine pd_alen dX9_append_15 (by decide) hg2 ?_
      refine pd_icmp_ge (tgt := 42) dX9_append_16 (by decide) (fun hc => ?_) (fun hc => ?_)
      · have hf := pd_ip hf hc
        exact pd_weak (L' := [pd_R x0, pd_I x1, pd_I x2]) ⟨Or.inr rfl, Or.inr rfl, Or.inr rfl, trivial⟩ (pkX9_append_b42 E l ih _ _ _ _ hf)
      · have hf := pd_in_ hf hc
        refine pd_aload_n (i := 0) dX9_append_19 rfl rfl ?_
        refine pd_get (x := pd_R (F x0 0)) 0 dX9_append_20 (show vwCl[9]? = some (RX9, TX9, 9) from rfl) pin_9 (by decide) pq_170 hg1 rfl ?_
        refine pd_aload_n (i := 0) dX9_append_23 rfl rfl ?_
        refine pd_get (x := pd_I (F x0 1)) 1 dX9_append_24 (show vwCl[9]? = some (RX9, TX9, 9) from rfl) pin_9 (by decide) pq_169 hg1 rfl ?_
        refine pd_iload_n (i := 1) dX9_append_27 rfl rfl ?_
        refine pd_iload_n (i := 2) dX9_append_28 rfl rfl ?_
        refine pd_iushr dX9_append_29 ?_
        refine pd_i2b dX9_append_30 ?_
        obtain ⟨hg3, hf⟩ := pd_ig hf
        refine pd_bast dX9_append_31 hg3 ?_
        refine pd_topF (fun F4 eF4 => ?_)
        have hf := pd_lt hf eF4
        clear eF4
        refine pd_aload_n (i := 0) dX9_append_32 rfl rfl ?_
        refine pd_dup dX9_append_33 rfl ?_
        refine pd_get (x := pd_I (F4 x0 1)) 1 dX9_append_34 (show vwCl[9]? = some (RX9, TX9, 9) from rfl) pin_9 (by decide) pq_169 hg1 rfl ?_
        refine pd_iconst dX9_append_37 (by decide) ?_
        refine pd_iadd dX9_append_38 ?_
        refine pd_put (n := (pd_w ((F4 x0 1) + 1))) (x := pd_I (pd_w ((F4 x0 1) + 1))) 1 dX9_append_39 (show vwCl[9]? = some (RX9, TX9, 9) from rfl) pin_9 tyX9_ok nmX9 (by decide) pq_169 rfl hg1 rfl pd_nrI pd_ftI ?_
        refine pd_topF (fun F5 eF5 => ?_)
        have hf := pd_lt hf eF5
        clear eF5
        exact pd_weak (L' := [pd_R x0, pd_I x1, pd_I x2]) ⟨Or.inr rfl, Or.inr rfl, Or.inr rfl, trivial⟩ (pkX9_append_b42 E l ih _ _ _ _ hf)
set_option maxHeartbeats 4000000 in
set_option maxRecDepth 100000 in
theorem pkX9_append (l : Launch) {al : Bool} {sh : pd_S} {n : Nat} {F : pd_F} {x0 : Int} {x1 : Int} {Fz : pd_F} (hf : pfX9_append sh n F x0 x1 = some Fz) : pd_C l yX9_append (Cond.code yX9_append cX9_append 3 none :: pd_gt) (pd_rm 1 0 0) al 0 0 sh F [pd_R x0, pd_I x1] none sh Fz := by
  unfold pfX9_append at hf
  refine pd_body (L := [pd_R x0, pd_I x1, pd_N]) (by decide +kernel) (Nat.le_of_ble_eq_true rfl) rfl (fun E => ?_)
  refine pd_bipush dX9_append_0 (by decide) ?_
  refine pd_istore_n (L' := [pd_R x0, pd_I x1, pd_I 24]) dX9_append_2 rfl (by decide) rfl ?_
  exact pd_weak (L' := [pd_R x0, pd_I x1, pd_I 24]) ⟨Or.inr rfl, Or.inr rfl, Or.inr rfl, trivial⟩ (pkX9_append_b3 E l n _ _ _ _ hf)
set_option maxHeartbeats 4000000 in
set_option maxRecDepth 100000 in
theorem pkX9_takeWord_b79 (E : pd_E) (l : Launch) {al : Bool} {sh : pd_S} {n : Nat} {Fz : pd_F}  (F : pd_F) (x0 : Int) (hf : pfX9_takeWord_b79 sh n  F x0 = some Fz) : pd_V E l (pd_rm 1 0 0) (RX9, cX9_takeWord, 1, none, "takeWord") (pd_Qm E al none sh Fz 0 0) al 0 0 sh F 79 [pd_R x0] [] := by
  unfold pfX9_takeWord_b79 at hf
  refine pd_aload_n (i := 0) dX9_takeWord_79 rfl rfl ?_
  refine pd_aload_n (i := 0) dX9_takeWord_80 rfl rfl ?_
  obtain ⟨hg1, hf⟩ := pd_ig hf
  refine pd_get (x := pd_I (F x0 3)) 3 dX9_takeWord_81 (show vwCl[9]? = some (RX9, TX9, 9) from rfl) pin_9 (by decide) pq_171 hg1 rfl ?_
  refine pd_aload_n (i := 0) dX9_takeWord_84 rfl rfl ?_
  refine pd_get (x := pd_I (F x0 5)) 5 dX9_takeWord_85 (show vwCl[9]? = some (RX9, TX9, 9) from rfl) pin_9 (by decide) pq_172 hg1 rfl ?_
  refine pd_isub dX9_takeWord_88 ?_
  refine pd_bipush dX9_takeWord_89 (by decide) ?_
  refine pd_icmp_gt (tgt := 98) dX9_takeWord_91 (by decide) (fun hc => ?_) (fun hc => ?_)
  · have hf := pd_ip hf hc
    refine pd_iconst dX9_takeWord_98 (by decide) ?_
    refine pd_put (n := 4) (x := pd_I 4) 4 dX9_takeWord_99 (show vwCl[9]? = some (RX9, TX9, 9) from rfl) pin_9 tyX9_ok nmX9 (by decide) pq_173 rfl hg1 rfl pd_nrI pd_ftI ?_
    refine pd_topF (fun F2 eF2 => ?_)
    have hf := pd_lt hf eF2
    clear eF2
    obtain h2 := pd_inj1 hf
    subst h2
    exact pd_vret dX9_takeWord_102 rfl (Nat.le_refl 0) (Nat.le_refl 0)
  · have hf := pd_in_ hf hc
    refine pd_iconst dX9_takeWord_94 (by decide) ?_
    refine pd_goto (tgt := 99) dX9_takeWord_95 (by decide) ?_
    refine pd_put (n := 1) (x := pd_I 1) 4 dX9_takeWord_99 (show vwCl[9]? = some (RX9, TX9, 9) from rfl) pin_9 tyX9_ok nmX9 (by decide) pq_173 rfl hg1 rfl pd_nrI pd_ftI ?_
    refine pd_topF (fun F3 eF3 => ?_)
    have hf := pd_lt hf eF3
    clear eF3
    obtain h2 := pd_inj1 hf
    subst h2
    exact pd_vret dX9_takeWord_102 rfl (Nat.le_refl 0) (Nat.le_refl 0)
set_option maxHeartbeats 4000000 in
set_option maxRecDepth 100000 in
theorem pkX9_takeWord_b5 (E : pd_E) (l : Launch) {al : Bool} {sh : pd_S} {n : Nat} {Fz : pd_F}  : ∀ (k : Nat) (F : pd_F) (x0 : Int), pfX9_takeWord_b5 sh n  k F x0 = some Fz → pd_V E l (pd_rm 1 0 0) (RX9, cX9_takeWord, 1, none, "takeWord") (pd_Qm E al none sh Fz 0 0) al 0 0 sh F 5 [pd_R x0] [] := by
  intro k
  induction k with
  | zero => intro F x0 hf; exact absurd hf (by unfold pfX9_takeWord_b5; exact fun h => nomatch h)
  | succ k ih =>
    intro F x0 hf
    unfold pfX9_takeWord_b5 at hf
    refine pd_aload_n (i := 0) dX9_takeWord_5 rfl rfl ?_
    obtain ⟨hg4, hf⟩ := pd_ig hf
    refine pd_get (x := pd_I (F x0 3)) 3 dX9_takeWord_6 (show vwCl[9]? = some (RX9, TX9, 9) from rfl) pin_9 (by decide) pq_171 hg4 rfl ?_
    refine pd_aload_n (i := 0) dX9_takeWord_9 rfl rfl ?_
    refine pd_get (x := pd_I (F x0 2)) 2 dX9_takeWord_10 (show vwCl[9]? = some (RX9, TX9, 9) from rfl) pin_9 (by decide) pq_174 hg4 rfl ?_
    refine pd_icmp_ge (tgt := 79) dX9_takeWord_13 (by decide) (fun hc => ?_) (fun hc => ?_)
    · have hf := pd_ip hf hc
      exact pd_weak (L' := [pd_R x0]) ⟨Or.inr rfl, trivial⟩ (pkX9_takeWord_b79 E l _ _ hf)
    · have hf := pd_in_ hf hc
      refine pd_aload_n (i := 0) dX9_takeWord_16 rfl rfl ?_
      refine pd_get (x := pd_R (F x0 0)) 0 dX9_takeWord_17 (show vwCl[9]? = some (RX9, TX9, 9) from rfl) pin_9 (by decide) pq_170 hg4 rfl ?_
      refine pd_aload_n (i := 0) dX9_takeWord_20 rfl rfl ?_
      refine pd_get (x := pd_I (F x0 3)) 3 dX9_takeWord_21 (show vwCl[9]? = some (RX9, TX9, 9) from rfl) pin_9 (by decide) pq_171 hg4 rfl ?_
      obtain ⟨hg5, hf⟩ := pd_ig hf
      refine pd_bald dX9_takeWord_24 hg5 ?_
      refine pd_bipush dX9_takeWord_25 (by decide) ?_
      refine pd_icmp_lt (tgt := 79) dX9_takeWord_27 (by decide) (fun hc => ?_) (fun hc => ?_)
      · have hf := pd_ip hf hc
        exact pd_weak (L' := [pd_R x0]) ⟨Or.inr rfl, trivial⟩ (pkX9_takeWord_b79 E l _ _ hf)
      · have hf := pd_in_ hf hc
        refine pd_aload_n (i := 0) dX9_takeWord_30 rfl rfl ?_
        refine pd_get (x := pd_R (F x0 0)) 0 dX9_takeWord_31 (show vwCl[9]? = some (RX9, TX9, 9) from rfl) pin_9 (by decide) pq_170 hg4 rfl ?_
        refine pd_aload_n (i := 0) dX9_takeWord_34 rfl rfl ?_
        refine pd_get (x := pd_I (F x0 3)) 3 dX9_takeWord_35 (show vwCl[9]? = some (RX9, TX9, 9) from rfl) pin_9 (by decide) pq_171 hg4 rfl ?_
        refine pd_bald dX9_takeWord_38 hg5 ?_
        refine pd_bipush dX9_takeWord_39 (by decide) ?_
        refine pd_icmp_gt (tgt := 79) dX9_takeWord_41 (by decide) (fun hc => ?_) (fun hc => ?_)
        · have hf := pd_ip hf hc
          exact pd_weak (L' := [pd_R x0]) ⟨Or.inr rfl, trivial⟩ (pkX9_takeWord_b79 E l _ _ hf)
        · have hf := pd_in_ hf hc
          refine pd_aload_n (i := 0) dX9_takeWord_44 rfl rfl ?_
          refine pd_aload_n (i := 0) dX9_takeWord_45 rfl rfl ?_
          refine pd_get (x := pd_J (F x0 8)) 8 dX9_takeWord_46 (show vwCl[9]? = some (RX9, TX9, 9) from rfl) pin_9 (by decide) pq_175 hg4 rfl ?_
          refine pd_bipush dX9_takeWord_49 (by decide) ?_
          refine pd_lshl dX9_takeWord_51 ?_
          refine pd_aload_n (i := 0) dX9_takeWord_52 rfl rfl ?_
          refine pd_get (x := pd_R (F x0 0)) 0 dX9_takeWord_53 (show vwCl[9]? = some (RX9, TX9, 9) from rfl) pin_9 (by decide) pq_170 hg4 rfl ?_
          refine pd_aload_n (i := 0) dX9_takeWord_56 rfl rfl ?_
          refine pd_get (x := pd_I (F x0 3)) 3 dX9_takeWord_57 (show vwCl[9]? = some (RX9, TX9, 9) from rfl) pin_9 (by decide) pq_171 hg4 rfl ?_
          refine pd_bald dX9_takeWord_60 hg5 ?_
          refine pd_i2l dX9_takeWord_61 ?_
          refine pd_lor dX9_takeWord_62 ?_
          refine pd_put (n := (pd_Or (pd_Shl (F x0 8) 8) (F (F x0 0) (F x0 3)))) (x := pd_J (pd_Or (pd_Shl (F x0 8) 8) (F (F x0 0) (F x0 3)))) 8 dX9_takeWord_63 (show vwCl[9]? = some (RX9, TX9, 9) from rfl) pin_9 tyX9_ok nmX9 (by decide) pq_175 rfl hg4 rfl pd_nrJ pd_ftJ ?_
          refine pd_topF (fun F6 eF6 => ?_)
          have hf := pd_lt hf eF6
          clear eF6
          refine pd_aload_n (i := 0) dX9_takeWord_66 rfl rfl ?_
          refine pd_dup dX9_takeWord_67 rfl ?_
          refine pd_get (x := pd_I (F6 x0 3)) 3 dX9_takeWord_68 (show vwCl[9]? = some (RX9, TX9, 9) from rfl) pin_9 (by decide) pq_171 hg4 rfl ?_
          refine pd_iconst dX9_takeWord_71 (by decide) ?_
          refine pd_iadd dX9_takeWord_72 ?_
          refine pd_put (n := (pd_w ((F6 x0 3) + 1))) (x := pd_I (pd_w ((F6 x0 3) + 1))) 3 dX9_takeWord_73 (show vwCl[9]? = some (RX9, TX9, 9) from rfl) pin_9 tyX9_ok nmX9 (by decide) pq_171 rfl hg4 rfl pd_nrI pd_ftI ?_
          refine pd_topF (fun F7 eF7 => ?_)
          have hf := pd_lt hf eF7
          clear eF7
          refine pd_goto (tgt := 5) dX9_takeWord_76 (by decide) ?_
          exact pd_weak (L' := [pd_R x0]) ⟨Or.inr rfl, trivial⟩ (ih _ _ hf)
set_option maxHeartbeats 4000000 in
set_option maxRecDepth 100000 in
theorem pkX9_takeWord (l : Launch) {al : Bool} {sh : pd_S} {n : Nat} {F : pd_F} {x0 : Int} {Fz : pd_F} (hf : pfX9_takeWord sh n F x0 = some Fz) : pd_C l yX9_takeWord (Cond.code yX9_takeWord cX9_takeWord 1 none :: pd_gt) (pd_rm 1 0 0) al 0 0 sh F [pd_R x0] none sh Fz := by
  unfold pfX9_takeWord at hf
  refine pd_body (L := [pd_R x0]) (by decide +kernel) (Nat.le_of_ble_eq_true rfl) rfl (fun E => ?_)
  refine pd_aload_n (i := 0) dX9_takeWord_0 rfl rfl ?_
  refine pd_lconst (x := 0) dX9_takeWord_1 (by decide) ?_
  obtain ⟨hg8, hf⟩ := pd_ig hf
  refine pd_put (n := 0) (x := pd_J 0) 8 dX9_takeWord_2 (show vwCl[9]? = some (RX9, TX9, 9) from rfl) pin_9 tyX9_ok nmX9 (by decide) pq_175 rfl hg8 rfl pd_nrJ pd_ftJ ?_
  refine pd_topF (fun F9 eF9 => ?_)
  have hf := pd_lt hf eF9
  clear eF9
  exact pd_weak (L' := [pd_R x0]) ⟨Or.inr rfl, trivial⟩ (pkX9_takeWord_b5 E l n _ _ hf)
set_option maxHeartbeats 4000000 in
set_option maxRecDepth 100000 in
theorem pkX9_takeNumber_b81 (E : pd_E) (l : Launch) {al : Bool} {sh : pd_S} {n : Nat} {Fz : pd_F}  (F : pd_F) (x0 : Int) (hf : pfX9_takeNumber_b81 sh n  F x0 = some Fz) : pd_V E l (pd_rm 1 0 0) (RX9, cX9_takeNumber, 1, none, "takeNumber") (pd_Qm E al none sh Fz 0 0) al 0 0 sh F 81 [pd_R x0] [] := by
  unfold pfX9_takeNumber_b81 at hf
  refine pd_aload_n (i := 0) dX9_takeNumber_81 rfl rfl ?_
  refine pd_aload_n (i := 0) dX9_takeNumber_82 rfl rfl ?_
  obtain ⟨hg1, hf⟩ := pd_ig hf
  refine pd_get (x := pd_I (F x0 3)) 3 dX9_takeNumber_83 (show vwCl[9]? = some (RX9, TX9, 9) from rfl) pin_9 (by decide) pq_171 hg1 rfl ?_
  refine pd_aload_n (i := 0) dX9_takeNumber_86 rfl rfl ?_
  refine pd_get (x := pd_I (F x0 5)) 5 dX9_takeNumber_87 (show vwCl[9]? = some (RX9, TX9, 9) from rfl) pin_9 (by decide) pq_172 hg1 rfl ?_
  refine pd_isub dX9_takeNumber_90 ?_
  refine pd_bipush dX9_takeNumber_91 (by decide) ?_
  refine pd_icmp_gt (tgt := 100) dX9_takeNumber_93 (by decide) (fun hc => ?_) (fun hc => ?_)
  · have hf := pd_ip hf hc
    refine pd_iconst dX9_takeNumber_100 (by decide) ?_
    refine pd_put (n := 4) (x := pd_I 4) 4 dX9_takeNumber_101 (show vwCl[9]? = some (RX9, TX9, 9) from rfl) pin_9 tyX9_ok nmX9 (by decide) pq_173 rfl hg1 rfl pd_nrI pd_ftI ?_
    refine pd_topF (fun F2 eF2 => ?_)
    have hf := pd_lt hf eF2
    clear eF2
    obtain h2 := pd_inj1 hf
    subst h2
    exact pd_vret dX9_takeNumber_104 rfl (Nat.le_refl 0) (Nat.le_refl 0)
  · have hf := pd_in_ hf hc
    refine pd_iconst dX9_takeNumber_96 (by decide) ?_
    refine pd_goto (tgt := 101) dX9_takeNumber_97 (by decide) ?_
    refine pd_put (n := 2) (x := pd_I 2) 4 dX9_takeNumber_101 (show vwCl[9]? = some (RX9, TX9, 9) from rfl) pin_9 tyX9_ok nmX9 (by decide) pq_173 rfl hg1 rfl pd_nrI pd_ftI ?_
    refine pd_topF (fun F3 eF3 => ?_)
    have hf := pd_lt hf eF3
    clear eF3
    obtain h2 := pd_inj1 hf
    subst h2
    exact pd_vret dX9_takeNumber_104 rfl (Nat.le_refl 0) (Nat.le_refl 0)
set_option maxHeartbeats 4000000 in
set_option maxRecDepth 100000 in
theorem pkX9_takeNumber_b5 (E : pd_E) (l : Launch) {al : Bool} {sh : pd_S} {n : Nat} {Fz : pd_F}  : ∀ (k : Nat) (F : pd_F) (x0 : Int), pfX9_takeNumber_b5 sh n  k F x0 = some Fz → pd_V E l (pd_rm 1 0 0) (RX9, cX9_takeNumber, 1, none, "takeNumber") (pd_Qm E al none sh Fz 0 0) al 0 0 sh F 5 [pd_R x0] [] := by
  intro k
  induction k with
  | zero => intro F x0 hf; exact absurd hf (by unfold pfX9_takeNumber_b5; exact fun h => nomatch h)
  | succ k ih =>
    intro F x0 hf
    unfold pfX9_takeNumber_b5 at hf
    refine pd_aload_n (i := 0) dX9_takeNumber_5 rfl rfl ?_
    obtain ⟨hg4, hf⟩ := pd_ig hf
    refine pd_get (x := pd_I (F x0 3)) 3 dX9_takeNumber_6 (show vwCl[9]? = some (RX9, TX9, 9) from rfl) pin_9 (by decide) pq_171 hg4 rfl ?_
    refine pd_aload_n (i := 0) dX9_takeNumber_9 rfl rfl ?_
    refine pd_get (x := pd_I (F x0 2)) 2 dX9_takeNumber_10 (show vwCl[9]? = some (RX9, TX9, 9) from rfl) pin_9 (by decide) pq_174 hg4 rfl ?_
    refine pd_icmp_ge (tgt := 81) dX9_takeNumber_13 (by decide) (fun hc => ?_) (fun hc => ?_)
    · have hf := pd_ip hf hc
      exact pd_weak (L' := [pd_R x0]) ⟨Or.inr rfl, trivial⟩ (pkX9_takeNumber_b81 E l _ _ hf)
    · have hf := pd_in_ hf hc
      refine pd_aload_n (i := 0) dX9_takeNumber_16 rfl rfl ?_
      refine pd_get (x := pd_R (F x0 0)) 0 dX9_takeNumber_17 (show vwCl[9]? = some (RX9, TX9, 9) from rfl) pin_9 (by decide) pq_170 hg4 rfl ?_
      refine pd_aload_n (i := 0) dX9_takeNumber_20 rfl rfl ?_
      refine pd_get (x := pd_I (F x0 3)) 3 dX9_takeNumber_21 (show vwCl[9]? = some (RX9, TX9, 9) from rfl) pin_9 (by decide) pq_171 hg4 rfl ?_
      obtain ⟨hg5, hf⟩ := pd_ig hf
      refine pd_bald dX9_takeNumber_24 hg5 ?_
      refine pd_bipush dX9_takeNumber_25 (by decide) ?_
      refine pd_icmp_lt (tgt := 81) dX9_takeNumber_27 (by decide) (fun hc => ?_) (fun hc => ?_)
      · have hf := pd_ip hf hc
        exact pd_weak (L' := [pd_R x0]) ⟨Or.inr rfl, trivial⟩ (pkX9_takeNumber_b81 E l _ _ hf)
      · have hf := pd_in_ hf hc
        refine pd_aload_n (i := 0) dX9_takeNumber_30 rfl rfl ?_
        refine pd_get (x := pd_R (F x0 0)) 0 dX9_takeNumber_31 (show vwCl[9]? = some (RX9, TX9, 9) from rfl) pin_9 (by decide) pq_170 hg4 rfl ?_
        refine pd_aload_n (i := 0) dX9_takeNumber_34 rfl rfl ?_
        refine pd_get (x := pd_I (F x0 3)) 3 dX9_takeNumber_35 (show vwCl[9]? = some (RX9, TX9, 9) from rfl) pin_9 (by decide) pq_171 hg4 rfl ?_
        refine pd_bald dX9_takeNumber_38 hg5 ?_
        refine pd_bipush dX9_takeNumber_39 (by decide) ?_
        refine pd_icmp_gt (tgt := 81) dX9_takeNumber_41 (by decide) (fun hc => ?_) (fun hc => ?_)
        · have hf := pd_ip hf hc
          exact pd_weak (L' := [pd_R x0]) ⟨Or.inr rfl, trivial⟩ (pkX9_takeNumber_b81 E l _ _ hf)
        · have hf := pd_in_ hf hc
          refine pd_aload_n (i := 0) dX9_takeNumber_44 rfl rfl ?_
          refine pd_aload_n (i := 0) dX9_takeNumber_45 rfl rfl ?_
          refine pd_get (x := pd_I (F x0 7)) 7 dX9_takeNumber_46 (show vwCl[9]? = some (RX9, TX9, 9) from rfl) pin_9 (by decide) pq_176 hg4 rfl ?_
          refine pd_bipush dX9_takeNumber_49 (by decide) ?_
          refine pd_imul dX9_takeNumber_51 ?_
          refine pd_aload_n (i := 0) dX9_takeNumber_52 rfl rfl ?_
          refine pd_get (x := pd_R (F x0 0)) 0 dX9_takeNumber_53 (show vwCl[9]? = some (RX9, TX9, 9) from rfl) pin_9 (by decide) pq_170 hg4 rfl ?_
          refine pd_aload_n (i := 0) dX9_takeNumber_56 rfl rfl ?_
          refine pd_get (x := pd_I (F x0 3)) 3 dX9_takeNumber_57 (show vwCl[9]? = some (RX9, TX9, 9) from rfl) pin_9 (by decide) pq_171 hg4 rfl ?_
          refine pd_bald dX9_takeNumber_60 hg5 ?_
          refine pd_bipush dX9_takeNumber_61 (by decide) ?_
          refine pd_isub dX9_takeNumber_63 ?_
          refine pd_iadd dX9_takeNumber_64 ?_
          refine pd_put (n := (pd_w ((pd_w ((F x0 7) * 10)) + (pd_w ((F (F x0 0) (F x0 3)) - 48))))) (x := pd_I (pd_w ((pd_w ((F x0 7) * 10)) + (pd_w ((F (F x0 0) (F x0 3)) - 48))))) 7 dX9_takeNumber_65 (show vwCl[9]? = some (RX9, TX9, 9) from rfl) pin_9 tyX9_ok nmX9 (by decide) pq_176 rfl hg4 rfl pd_nrI pd_ftI ?_
          refine pd_topF (fun F6 eF6 => ?_)
          have hf := pd_lt hf eF6
          clear eF6
          refine pd_aload_n (i := 0) dX9_takeNumber_68 rfl rfl ?_
          refine pd_dup dX9_takeNumber_69 rfl ?_
          refine pd_get (x := pd_I (F6 x0 3)) 3 dX9_takeNumber_70 (show vwCl[9]? = some (RX9, TX9, 9) from rfl) pin_9 (by decide) pq_171 hg4 rfl ?_
          refine pd_iconst dX9_takeNumber_73 (by decide) ?_
          refine pd_iadd dX9_takeNumber_74 ?_
          refine pd_put (n := (pd_w ((F6 x0 3) + 1))) (x := pd_I (pd_w ((F6 x0 3) + 1))) 3 dX9_takeNumber_75 (show vwCl[9]? = some (RX9, TX9, 9) from rfl) pin_9 tyX9_ok nmX9 (by decide) pq_171 rfl hg4 rfl pd_nrI pd_ftI ?_
          refine pd_topF (fun F7 eF7 => ?_)
          have hf := pd_lt hf eF7
          clear eF7
          refine pd_goto (tgt := 5) dX9_takeNumber_78 (by decide) ?_
          exact pd_weak (L' := [pd_R x0]) ⟨Or.inr rfl, trivial⟩ (ih _ _ hf)
set_option maxHeartbeats 4000000 in
set_option maxRecDepth 100000 in
theorem pkX9_takeNumber (l : Launch) {al : Bool} {sh : pd_S} {n : Nat} {F : pd_F} {x0 : Int} {Fz : pd_F} (hf : pfX9_takeNumber sh n F x0 = some Fz) : pd_C l yX9_takeNumber (Cond.code yX9_takeNumber cX9_takeNumber 1 none :: pd_gt) (pd_rm 1 0 0) al 0 0 sh F [pd_R x0] none sh Fz := by
  unfold pfX9_takeNumber at hf
  refine pd_body (L := [pd_R x0]) (by decide +kernel) (Nat.le_of_ble_eq_true rfl) rfl (fun E => ?_)
  refine pd_aload_n (i := 0) dX9_takeNumber_0 rfl rfl ?_
  refine pd_iconst dX9_takeNumber_1 (by decide) ?_
  obtain ⟨hg8, hf⟩ := pd_ig hf
  refine pd_put (n := 0) (x := pd_I 0) 7 dX9_takeNumber_2 (show vwCl[9]? = some (RX9, TX9, 9) from rfl) pin_9 tyX9_ok nmX9 (by decide) pq_176 rfl hg8 rfl pd_nrI pd_ftI ?_
  refine pd_topF (fun F9 eF9 => ?_)
  have hf := pd_lt hf eF9
  clear eF9
  exact pd_weak (L' := [pd_R x0]) ⟨Or.inr rfl, trivial⟩ (pkX9_takeNumber_b5 E l n _ _ hf)
set_option maxHeartbeats 4000000 in
set_option maxRecDepth 100000 in
theorem pkX9_advance_b39 (E : pd_E) (l : Launch) {al : Bool} {sh : pd_S} {n : Nat} {Fz : pd_F} {c0 : pd_F → Int → Option pd_F} (hL0 : ∀ (F : pd_F) (x0 : Int), c0 F x0 = some Fz → pd_V E l (pd_rm 2 0 0) (RX9, cX9_advance, 1, none, "advance") (pd_Qm E al none sh Fz 0 0) al 0 0 sh F 0 [pd_R x0] []) (F : pd_F) (x0 : Int) (hf : pfX9_advance_b39 sh n c0 F x0 = some Fz) : pd_V E l (pd_rm 2 0 0) (RX9, cX9_advance, 1, none, "advance") (pd_Qm E al none sh Fz 0 0) al 0 0 sh F 39 [pd_R x0] [] := by
  unfold pfX9_advance_b39 at hf
  refine pd_aload_n (i := 0) dX9_advance_39 rfl rfl ?_
  refine pd_dup dX9_advance_40 rfl ?_
  obtain ⟨hg1, hf⟩ := pd_ig hf
  refine pd_get (x := pd_I (F x0 3)) 3 dX9_advance_41 (show vwCl[9]? = some (RX9, TX9, 9) from rfl) pin_9 (by decide) pq_171 hg1 rfl ?_
  refine pd_iconst dX9_advance_44 (by decide) ?_
  refine pd_iadd dX9_advance_45 ?_
  refine pd_put (n := (pd_w ((F x0 3) + 1))) (x := pd_I (pd_w ((F x0 3) + 1))) 3 dX9_advance_46 (show vwCl[9]? = some (RX9, TX9, 9) from rfl) pin_9 tyX9_ok nmX9 (by decide) pq_171 rfl hg1 rfl pd_nrI pd_ftI ?_
  refine pd_topF (fun F2 eF2 => ?_)
  have hf := pd_lt hf eF2
  clear eF2
  refine pd_goto (tgt := 0) dX9_advance_49 (by decide) ?_
  exact pd_weak (L' := [pd_R x0]) ⟨Or.inr rfl, trivial⟩ (hL0 _ _ hf)
set_option maxHeartbeats 4000000 in
set_option maxRecDepth 100000 in
theorem pkX9_advance_b140 (E : pd_E) (l : Launch) {al : Bool} {sh : pd_S} {n : Nat} {Fz : pd_F}  (F : pd_F) (x0 : Int) (hf : pfX9_advance_b140 sh n  F x0 = some Fz) : pd_V E l (pd_rm 2 0 0) (RX9, cX9_advance, 1, none, "advance") (pd_Qm E al none sh Fz 0 0) al 0 0 sh F 140 [pd_R x0] [] := by
  unfold pfX9_advance_b140 at hf
  refine pd_aload_n (i := 0) dX9_advance_140 rfl rfl ?_
  obtain ⟨hg3, hf⟩ := pd_ig hf
  refine pd_get (x := pd_I (F x0 6)) 6 dX9_advance_141 (show vwCl[9]? = some (RX9, TX9, 9) from rfl) pin_9 (by decide) pq_177 hg3 rfl ?_
  refine pd_bipush dX9_advance_144 (by decide) ?_
  refine pd_icmp_ne (tgt := 167) dX9_advance_146 (by decide) (fun hc => ?_) (fun hc => ?_)
  · have hf := pd_ip hf hc
    refine pd_aload_n (i := 0) dX9_advance_167 rfl rfl ?_
    refine pd_iconst dX9_advance_168 (by decide) ?_
    refine pd_put (n := 4) (x := pd_I 4) 4 dX9_advance_169 (show vwCl[9]? = some (RX9, TX9, 9) from rfl) pin_9 tyX9_ok nmX9 (by decide) pq_173 rfl hg3 rfl pd_nrI pd_ftI ?_
    refine pd_topF (fun F4 eF4 => ?_)
    have hf := pd_lt hf eF4
    clear eF4
    obtain h2 := pd_inj1 hf
    subst h2
    exact pd_vret dX9_advance_172 rfl (Nat.le_refl 0) (Nat.le_refl 0)
  · have hf := pd_iq hf hc
    refine pd_aload_n (i := 0) dX9_advance_149 rfl rfl ?_
    refine pd_iconst dX9_advance_150 (by decide) ?_
    refine pd_put (n := 3) (x := pd_I 3) 4 dX9_advance_151 (show vwCl[9]? = some (RX9, TX9, 9) from rfl) pin_9 tyX9_ok nmX9 (by decide) pq_173 rfl hg3 rfl pd_nrI pd_ftI ?_
    refine pd_topF (fun F5 eF5 => ?_)
    have hf := pd_lt hf eF5
    clear eF5
    refine pd_aload_n (i := 0) dX9_advance_154 rfl rfl ?_
    refine pd_dup dX9_advance_155 rfl ?_
    refine pd_get (x := pd_I (F5 x0 3)) 3 dX9_advance_156 (show vwCl[9]? = some (RX9, TX9, 9) from rfl) pin_9 (by decide) pq_171 hg3 rfl ?_
    refine pd_iconst dX9_advance_159 (by decide) ?_
    refine pd_iadd dX9_advance_160 ?_
    refine pd_put (n := (pd_w ((F5 x0 3) + 1))) (x := pd_I (pd_w ((F5 x0 3) + 1))) 3 dX9_advance_161 (show vwCl[9]? = some (RX9, TX9, 9) from rfl) pin_9 tyX9_ok nmX9 (by decide) pq_171 rfl hg3 rfl pd_nrI pd_ftI ?_
    refine pd_topF (fun F6 eF6 => ?_)
    have hf := pd_lt hf eF6
    clear eF6
    refine pd_goto (tgt := 172) dX9_advance_164 (by decide) ?_
    obtain h2 := pd_inj1 hf
    subst h2
    exact pd_vret dX9_advance_172 rfl (Nat.le_refl 0) (Nat.le_refl 0)
set_option maxHeartbeats 4000000 in
set_option maxRecDepth 100000 in
theorem pkX9_advance_b115 (E : pd_E) (l : Launch) {al : Bool} {sh : pd_S} {n : Nat} {Fz : pd_F}  (F : pd_F) (x0 : Int) (hf : pfX9_advance_b115 sh n  F x0 = some Fz) : pd_V E l (pd_rm 2 0 0) (RX9, cX9_advance, 1, none, "advance") (pd_Qm E al none sh Fz 0 0) al 0 0 sh F 115 [pd_R x0] [] := by
  unfold pfX9_advance_b115 at hf
  refine pd_aload_n (i := 0) dX9_advance_115 rfl rfl ?_
  obtain ⟨hg7, hf⟩ := pd_ig hf
  refine pd_get (x := pd_I (F x0 6)) 6 dX9_advance_116 (show vwCl[9]? = some (RX9, TX9, 9) from rfl) pin_9 (by decide) pq_177 hg7 rfl ?_
  refine pd_bipush dX9_advance_119 (by decide) ?_
  refine pd_icmp_lt (tgt := 140) dX9_advance_121 (by decide) (fun hc => ?_) (fun hc => ?_)
  · have hf := pd_ip hf hc
    exact pd_weak (L' := [pd_R x0]) ⟨Or.inr rfl, trivial⟩ (pkX9_advance_b140 E l _ _ hf)
  · have hf := pd_in_ hf hc
    refine pd_aload_n (i := 0) dX9_advance_124 rfl rfl ?_
    refine pd_get (x := pd_I (F x0 6)) 6 dX9_advance_125 (show vwCl[9]? = some (RX9, TX9, 9) from rfl) pin_9 (by decide) pq_177 hg7 rfl ?_
    refine pd_bipush dX9_advance_128 (by decide) ?_
    refine pd_icmp_gt (tgt := 140) dX9_advance_130 (by decide) (fun hc => ?_) (fun hc => ?_)
    · have hf := pd_ip hf hc
      exact pd_weak (L' := [pd_R x0]) ⟨Or.inr rfl, trivial⟩ (pkX9_advance_b140 E l _ _ hf)
    · have hf := pd_in_ hf hc
      refine pd_aload_n (i := 0) dX9_advance_133 rfl rfl ?_
      obtain ⟨F8, hr, hf⟩ := pd_ob1 hf
      refine pd_callV (pkX9_takeNumber l hr) dX9_advance_134 pq_178 pq_181 pq_182 (show vwCl[9]? = some (yX9_takeNumber.cls, TX9, 9) from rfl) hg7 (pd_okm (by omega) (by decide) pq_179 pq_180 (by decide) (show (parseMethodDescriptor yX9_takeNumber.desc).map (fun d => d.parameters.length) = some 0 from by decide +kernel)) (Nat.le_of_ble_eq_true rfl) rfl ?_
      refine pd_goto (tgt := 172) dX9_advance_137 (by decide) ?_
      obtain h2 := pd_inj1 hf
      subst h2
      exact pd_vret dX9_advance_172 rfl (Nat.le_refl 0) (Nat.le_refl 0)
set_option maxHeartbeats 4000000 in
set_option maxRecDepth 100000 in
theorem pkX9_advance_b52 (E : pd_E) (l : Launch) {al : Bool} {sh : pd_S} {n : Nat} {Fz : pd_F}  (F : pd_F) (x0 : Int) (hf : pfX9_advance_b52 sh n  F x0 = some Fz) : pd_V E l (pd_rm 2 0 0) (RX9, cX9_advance, 1, none, "advance") (pd_Qm E al none sh Fz 0 0) al 0 0 sh F 52 [pd_R x0] [] := by
  unfold pfX9_advance_b52 at hf
  refine pd_aload_n (i := 0) dX9_advance_52 rfl rfl ?_
  refine pd_aload_n (i := 0) dX9_advance_53 rfl rfl ?_
  obtain ⟨hg9, hf⟩ := pd_ig hf
  refine pd_get (x := pd_I (F x0 3)) 3 dX9_advance_54 (show vwCl[9]? = some (RX9, TX9, 9) from rfl) pin_9 (by decide) pq_171 hg9 rfl ?_
  refine pd_put (n := (F x0 3)) (x := pd_I (F x0 3)) 5 dX9_advance_57 (show vwCl[9]? = some (RX9, TX9, 9) from rfl) pin_9 tyX9_ok nmX9 (by decide) pq_172 rfl hg9 rfl pd_nrI pd_ftI ?_
  refine pd_topF (fun F10 eF10 => ?_)
  have hf := pd_lt hf eF10
  clear eF10
  refine pd_aload_n (i := 0) dX9_advance_60 rfl rfl ?_
  refine pd_get (x := pd_I (F10 x0 5)) 5 dX9_advance_61 (show vwCl[9]? = some (RX9, TX9, 9) from rfl) pin_9 (by decide) pq_172 hg9 rfl ?_
  refine pd_aload_n (i := 0) dX9_advance_64 rfl rfl ?_
  refine pd_get (x := pd_I (F10 x0 2)) 2 dX9_advance_65 (show vwCl[9]? = some (RX9, TX9, 9) from rfl) pin_9 (by decide) pq_174 hg9 rfl ?_
  refine pd_icmp_lt (tgt := 77) dX9_advance_68 (by decide) (fun hc => ?_) (fun hc => ?_)
  · have hf := pd_ip hf hc
    refine pd_aload_n (i := 0) dX9_advance_77 rfl rfl ?_
    refine pd_aload_n (i := 0) dX9_advance_78 rfl rfl ?_
    refine pd_get (x := pd_R (F10 x0 0)) 0 dX9_advance_79 (show vwCl[9]? = some (RX9, TX9, 9) from rfl) pin_9 (by decide) pq_170 hg9 rfl ?_
    refine pd_aload_n (i := 0) dX9_advance_82 rfl rfl ?_
    refine pd_get (x := pd_I (F10 x0 5)) 5 dX9_advance_83 (show vwCl[9]? = some (RX9, TX9, 9) from rfl) pin_9 (by decide) pq_172 hg9 rfl ?_
    obtain ⟨hg11, hf⟩ := pd_ig hf
    refine pd_bald dX9_advance_86 hg11 ?_
    refine pd_put (n := (F10 (F10 x0 0) (F10 x0 5))) (x := pd_I (F10 (F10 x0 0) (F10 x0 5))) 6 dX9_advance_87 (show vwCl[9]? = some (RX9, TX9, 9) from rfl) pin_9 tyX9_ok nmX9 (by decide) pq_177 rfl hg9 rfl pd_nrI pd_ftI ?_
    refine pd_topF (fun F12 eF12 => ?_)
    have hf := pd_lt hf eF12
    clear eF12
    refine pd_aload_n (i := 0) dX9_advance_90 rfl rfl ?_
    refine pd_get (x := pd_I (F12 x0 6)) 6 dX9_advance_91 (show vwCl[9]? = some (RX9, TX9, 9) from rfl) pin_9 (by decide) pq_177 hg9 rfl ?_
    refine pd_bipush dX9_advance_94 (by decide) ?_
    refine pd_icmp_lt (tgt := 115) dX9_advance_96 (by decide) (fun hc => ?_) (fun hc => ?_)
    · have hf := pd_ip hf hc
      exact pd_weak (L' := [pd_R x0]) ⟨Or.inr rfl, trivial⟩ (pkX9_advance_b115 E l _ _ hf)
    · have hf := pd_in_ hf hc
      refine pd_aload_n (i := 0) dX9_advance_99 rfl rfl ?_
      refine pd_get (x := pd_I (F12 x0 6)) 6 dX9_advance_100 (show vwCl[9]? = some (RX9, TX9, 9) from rfl) pin_9 (by decide) pq_177 hg9 rfl ?_
      refine pd_bipush dX9_advance_103 (by decide) ?_
      refine pd_icmp_gt (tgt := 115) dX9_advance_105 (by decide) (fun hc => ?_) (fun hc => ?_)
      · have hf := pd_ip hf hc
        exact pd_weak (L' := [pd_R x0]) ⟨Or.inr rfl, trivial⟩ (pkX9_advance_b115 E l _ _ hf)
      · have hf := pd_in_ hf hc
        refine pd_aload_n (i := 0) dX9_advance_108 rfl rfl ?_
        obtain ⟨F13, hr, hf⟩ := pd_ob1 hf
        refine pd_callV (pkX9_takeWord l hr) dX9_advance_109 pq_183 pq_186 pq_187 (show vwCl[9]? = some (yX9_takeWord.cls, TX9, 9) from rfl) hg9 (pd_okm (by omega) (by decide) pq_184 pq_185 (by decide) (show (parseMethodDescriptor yX9_takeWord.desc).map (fun d => d.parameters.length) = some 0 from by decide +kernel)) (Nat.le_of_ble_eq_true rfl) rfl ?_
        refine pd_goto (tgt := 172) dX9_advance_112 (by decide) ?_
        obtain h2 := pd_inj1 hf
        subst h2
        exact pd_vret dX9_advance_172 rfl (Nat.le_refl 0) (Nat.le_refl 0)
  · have hf := pd_in_ hf hc
    refine pd_aload_n (i := 0) dX9_advance_71 rfl rfl ?_
    refine pd_iconst dX9_advance_72 (by decide) ?_
    refine pd_put (n := 0) (x := pd_I 0) 4 dX9_advance_73 (show vwCl[9]? = some (RX9, TX9, 9) from rfl) pin_9 tyX9_ok nmX9 (by decide) pq_173 rfl hg9 rfl pd_nrI pd_ftI ?_
    refine pd_topF (fun F14 eF14 => ?_)
    have hf := pd_lt hf eF14
    clear eF14
    obtain h2 := pd_inj1 hf
    subst h2
    exact pd_vret dX9_advance_76 rfl (Nat.le_refl 0) (Nat.le_refl 0)
set_option maxHeartbeats 4000000 in
set_option maxRecDepth 100000 in
theorem pkX9_advance_b0 (E : pd_E) (l : Launch) {al : Bool} {sh : pd_S} {n : Nat} {Fz : pd_F}  : ∀ (k : Nat) (F : pd_F) (x0 : Int), pfX9_advance_b0 sh n  k F x0 = some Fz → pd_V E l (pd_rm 2 0 0) (RX9, cX9_advance, 1, none, "advance") (pd_Qm E al none sh Fz 0 0) al 0 0 sh F 0 [pd_R x0] [] := by
  intro k
  induction k with
  | zero => intro F x0 hf; exact absurd hf (by unfold pfX9_advance_b0; exact fun h => nomatch h)
  | succ k ih =>
    intro F x0 hf
    unfold pfX9_advance_b0 at hf
    refine pd_aload_n (i := 0) dX9_advance_0 rfl rfl ?_
    obtain ⟨hg15, hf⟩ := pd_ig hf
    refine pd_get (x := pd_I (F x0 3)) 3 dX9_advance_1 (show vwCl[9]? = some (RX9, TX9, 9) from rfl) pin_9 (by decide) pq_171 hg15 rfl ?_
    refine pd_aload_n (i := 0) dX9_advance_4 rfl rfl ?_
    refine pd_get (x := pd_I (F x0 2)) 2 dX9_advance_5 (show vwCl[9]? = some (RX9, TX9, 9) from rfl) pin_9 (by decide) pq_174 hg15 rfl ?_
    refine pd_icmp_ge (tgt := 52) dX9_advance_8 (by decide) (fun hc => ?_) (fun hc => ?_)
    · have hf := pd_ip hf hc
      exact pd_weak (L' := [pd_R x0]) ⟨Or.inr rfl, trivial⟩ (pkX9_advance_b52 E l _ _ hf)
    · have hf := pd_in_ hf hc
      refine pd_aload_n (i := 0) dX9_advance_11 rfl rfl ?_
      refine pd_get (x := pd_R (F x0 0)) 0 dX9_advance_12 (show vwCl[9]? = some (RX9, TX9, 9) from rfl) pin_9 (by decide) pq_170 hg15 rfl ?_
      refine pd_aload_n (i := 0) dX9_advance_15 rfl rfl ?_
      refine pd_get (x := pd_I (F x0 3)) 3 dX9_advance_16 (show vwCl[9]? = some (RX9, TX9, 9) from rfl) pin_9 (by decide) pq_171 hg15 rfl ?_
      obtain ⟨hg16, hf⟩ := pd_ig hf
      refine pd_bald dX9_advance_19 hg16 ?_
      refine pd_bipush dX9_advance_20 (by decide) ?_
      refine pd_icmp_eq (tgt := 39) dX9_advance_22 (by decide) (fun hc => ?_) (fun hc => ?_)
      · have hf := pd_ip hf hc
        exact pd_weak (L' := [pd_R x0]) ⟨Or.inr rfl, trivial⟩ (pkX9_advance_b39 E l ih _ _ hf)
      · have hf := pd_in_ hf hc
        refine pd_aload_n (i := 0) dX9_advance_25 rfl rfl ?_
        refine pd_get (x := pd_R (F x0 0)) 0 dX9_advance_26 (show vwCl[9]? = some (RX9, TX9, 9) from rfl) pin_9 (by decide) pq_170 hg15 rfl ?_
        refine pd_aload_n (i := 0) dX9_advance_29 rfl rfl ?_
        refine pd_get (x := pd_I (F x0 3)) 3 dX9_advance_30 (show vwCl[9]? = some (RX9, TX9, 9) from rfl) pin_9 (by decide) pq_171 hg15 rfl ?_
        refine pd_bald dX9_advance_33 hg16 ?_
        refine pd_bipush dX9_advance_34 (by decide) ?_
        refine pd_icmp_ne (tgt := 52) dX9_advance_36 (by decide) (fun hc => ?_) (fun hc => ?_)
        · have hf := pd_ip hf hc
          exact pd_weak (L' := [pd_R x0]) ⟨Or.inr rfl, trivial⟩ (pkX9_advance_b52 E l _ _ hf)
        · have hf := pd_iq hf hc
          exact pd_weak (L' := [pd_R x0]) ⟨Or.inr rfl, trivial⟩ (pkX9_advance_b39 E l ih _ _ hf)
set_option maxHeartbeats 4000000 in
set_option maxRecDepth 100000 in
theorem pkX9_advance (l : Launch) {al : Bool} {sh : pd_S} {n : Nat} {F : pd_F} {x0 : Int} {Fz : pd_F} (hf : pfX9_advance sh n F x0 = some Fz) : pd_C l yX9_advance (Cond.code yX9_advance cX9_advance 1 none :: pd_gt) (pd_rm 2 0 0) al 0 0 sh F [pd_R x0] none sh Fz := by
  unfold pfX9_advance at hf
  refine pd_body (L := [pd_R x0]) (by decide +kernel) (Nat.le_of_ble_eq_true rfl) rfl (fun E => ?_)
  exact pd_weak (L' := [pd_R x0]) ⟨Or.inr rfl, trivial⟩ (pkX9_advance_b0 E l n _ _ hf)
set_option maxHeartbeats 4000000 in
set_option maxRecDepth 100000 in
theorem pkX9_open (l : Launch) {al : Bool} {sh : pd_S} {n : Nat} {F : pd_F} {x0 : Int} {x1 : Int} {Fz : pd_F} (hf : pfX9_open sh n F x0 x1 = some Fz) : pd_C l yX9_open (Cond.code yX9_open cX9_open 2 none :: pd_gt) (pd_rm 3 0 0) al 0 0 sh F [pd_R x0, pd_I x1] none sh Fz := by
  unfold pfX9_open at hf
  refine pd_body (L := [pd_R x0, pd_I x1]) (by decide +kernel) (Nat.le_of_ble_eq_true rfl) rfl (fun E => ?_)
  refine pd_aload_n (i := 0) dX9_open_0 rfl rfl ?_
  refine pd_iload_n (i := 1) dX9_open_1 rfl rfl ?_
  refine pd_aload_n (i := 0) dX9_open_2 rfl rfl ?_
  obtain ⟨hg1, hf⟩ := pd_ig hf
  refine pd_get (x := pd_R (F x0 0)) 0 dX9_open_3 (show vwCl[9]? = some (RX9, TX9, 9) from rfl) pin_9 (by decide) pq_170 hg1 rfl ?_
  obtain ⟨hg2, hf⟩ := pd_ig hf
  refine pd_alen dX9_open_6 (by decide) hg2 ?_
  refine pd_mmin dX9_open_7 pq_188 pq_63 pq_40 pq_64 pd_rmR (Nat.le_of_ble_eq_true rfl) ?_
  refine pd_put (n := (min x1 (pd_ln sh 0 1 (F x0 0)))) (x := pd_I (min x1 (pd_ln sh 0 1 (F x0 0)))) 2 dX9_open_10 (show vwCl[9]? = some (RX9, TX9, 9) from rfl) pin_9 tyX9_ok nmX9 (by decide) pq_174 rfl hg1 rfl pd_nrI pd_ftI ?_
  refine pd_topF (fun F3 eF3 => ?_)
  have hf := pd_lt hf eF3
  clear eF3
  refine pd_aload_n (i := 0) dX9_open_13 rfl rfl ?_
  refine pd_iconst dX9_open_14 (by decide) ?_
  refine pd_put (n := 0) (x := pd_I 0) 3 dX9_open_15 (show vwCl[9]? = some (RX9, TX9, 9) from rfl) pin_9 tyX9_ok nmX9 (by decide) pq_171 rfl hg1 rfl pd_nrI pd_ftI ?_
  refine pd_topF (fun F4 eF4 => ?_)
  have hf := pd_lt hf eF4
  clear eF4
  refine pd_aload_n (i := 0) dX9_open_18 rfl rfl ?_
  obtain ⟨F5, hr, hf⟩ := pd_ob1 hf
  refine pd_callV (pkX9_advance l hr) dX9_open_19 pq_189 pq_192 pq_193 (show vwCl[9]? = some (yX9_advance.cls, TX9, 9) from rfl) hg1 (pd_okm (by omega) (by decide) pq_190 pq_191 (by decide) (show (parseMethodDescriptor yX9_advance.desc).map (fun d => d.parameters.length) = some 0 from by decide +kernel)) (Nat.le_of_ble_eq_true rfl) rfl ?_
  obtain h2 := pd_inj1 hf
  subst h2
  exact pd_vret dX9_open_22 rfl (Nat.le_refl 0) (Nat.le_refl 0)
