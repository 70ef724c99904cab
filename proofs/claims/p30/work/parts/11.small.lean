theorem dX1_setTo_0 : decode cX1_setTo 0 = .ok (.aload_n 0, 1) := by decide +kernel
theorem dX1_setTo_1 : decode cX1_setTo 1 = .ok (.iload_n 1, 1) := by decide +kernel
theorem dX1_setTo_2 : decode cX1_setTo 2 = .ok (.putfield 7, 3) := by decide +kernel
theorem dX1_setTo_5 : decode cX1_setTo 5 = .ok (.aload_n 0, 1) := by decide +kernel
theorem dX1_setTo_6 : decode cX1_setTo 6 = .ok (.iload_n 2, 1) := by decide +kernel
theorem dX1_setTo_7 : decode cX1_setTo 7 = .ok (.putfield 13, 3) := by decide +kernel
theorem dX1_setTo_10 : decode cX1_setTo 10 = .ok (.aload_n 0, 1) := by decide +kernel
theorem dX1_setTo_11 : decode cX1_setTo 11 = .ok (.iload_n 3, 1) := by decide +kernel
theorem dX1_setTo_12 : decode cX1_setTo 12 = .ok (.putfield 16, 3) := by decide +kernel
theorem dX1_setTo_15 : decode cX1_setTo 15 = .ok (.aload_n 0, 1) := by decide +kernel
theorem dX1_setTo_16 : decode cX1_setTo 16 = .ok (.iload 4, 2) := by decide +kernel
theorem dX1_setTo_18 : decode cX1_setTo 18 = .ok (.putfield 19, 3) := by decide +kernel
theorem dX1_setTo_21 : decode cX1_setTo 21 = .ok (.return_, 1) := by decide +kernel
theorem dX1_countsOn_0 : decode cX1_countsOn 0 = .ok (.aload_n 0, 1) := by decide +kernel
theorem dX1_countsOn_1 : decode cX1_countsOn 1 = .ok (.getfield 16, 3) := by decide +kernel
theorem dX1_countsOn_4 : decode cX1_countsOn 4 = .ok (.iload_n 1, 1) := by decide +kernel
theorem dX1_countsOn_5 : decode cX1_countsOn 5 = .ok (.if_icmp .gt 15, 3) := by decide +kernel
theorem dX1_countsOn_8 : decode cX1_countsOn 8 = .ok (.iload_n 1, 1) := by decide +kernel
theorem dX1_countsOn_9 : decode cX1_countsOn 9 = .ok (.aload_n 0, 1) := by decide +kernel
theorem dX1_countsOn_10 : decode cX1_countsOn 10 = .ok (.getfield 19, 3) := by decide +kernel
theorem dX1_countsOn_13 : decode cX1_countsOn 13 = .ok (.if_icmp .gt 7, 3) := by decide +kernel
theorem dX1_countsOn_16 : decode cX1_countsOn 16 = .ok (.iconst 1, 1) := by decide +kernel
theorem dX1_countsOn_17 : decode cX1_countsOn 17 = .ok (.goto 4, 3) := by decide +kernel
theorem dX1_countsOn_20 : decode cX1_countsOn 20 = .ok (.iconst 0, 1) := by decide +kernel
theorem dX1_countsOn_21 : decode cX1_countsOn 21 = .ok (.ireturn, 1) := by decide +kernel
theorem dX5_begin_0 : decode cX5_begin 0 = .ok (.aload_n 0, 1) := by decide +kernel
theorem dX5_begin_1 : decode cX5_begin 1 = .ok (.lload_n 1, 1) := by decide +kernel
theorem dX5_begin_2 : decode cX5_begin 2 = .ok (.putfield 15, 3) := by decide +kernel
theorem dX5_begin_5 : decode cX5_begin 5 = .ok (.aload_n 0, 1) := by decide +kernel
theorem dX5_begin_6 : decode cX5_begin 6 = .ok (.iload_n 3, 1) := by decide +kernel
theorem dX5_begin_7 : decode cX5_begin 7 = .ok (.putfield 19, 3) := by decide +kernel
theorem dX5_begin_10 : decode cX5_begin 10 = .ok (.aload_n 0, 1) := by decide +kernel
theorem dX5_begin_11 : decode cX5_begin 11 = .ok (.iconst 0, 1) := by decide +kernel
theorem dX5_begin_12 : decode cX5_begin 12 = .ok (.putfield 23, 3) := by decide +kernel
theorem dX5_begin_15 : decode cX5_begin 15 = .ok (.return_, 1) := by decide +kernel
theorem dX5_hasMark_0 : decode cX5_hasMark 0 = .ok (.iconst 0, 1) := by decide +kernel
theorem dX5_hasMark_1 : decode cX5_hasMark 1 = .ok (.istore_n 2, 1) := by decide +kernel
theorem dX5_hasMark_2 : decode cX5_hasMark 2 = .ok (.iload_n 2, 1) := by decide +kernel
theorem dX5_hasMark_3 : decode cX5_hasMark 3 = .ok (.aload_n 0, 1) := by decide +kernel
theorem dX5_hasMark_4 : decode cX5_hasMark 4 = .ok (.getfield 23, 3) := by decide +kernel
theorem dX5_hasMark_7 : decode cX5_hasMark 7 = .ok (.if_icmp .ge 21, 3) := by decide +kernel
theorem dX5_hasMark_10 : decode cX5_hasMark 10 = .ok (.aload_n 0, 1) := by decide +kernel
theorem dX5_hasMark_11 : decode cX5_hasMark 11 = .ok (.getfield 9, 3) := by decide +kernel
theorem dX5_hasMark_14 : decode cX5_hasMark 14 = .ok (.iload_n 2, 1) := by decide +kernel
theorem dX5_hasMark_15 : decode cX5_hasMark 15 = .ok (.iaload, 1) := by decide +kernel
theorem dX5_hasMark_16 : decode cX5_hasMark 16 = .ok (.iload_n 1, 1) := by decide +kernel
theorem dX5_hasMark_17 : decode cX5_hasMark 17 = .ok (.if_icmp .ne 5, 3) := by decide +kernel
theorem dX5_hasMark_20 : decode cX5_hasMark 20 = .ok (.iconst 1, 1) := by decide +kernel
theorem dX5_hasMark_21 : decode cX5_hasMark 21 = .ok (.ireturn, 1) := by decide +kernel
theorem dX5_hasMark_22 : decode cX5_hasMark 22 = .ok (.iinc 2 1, 3) := by decide +kernel
theorem dX5_hasMark_25 : decode cX5_hasMark 25 = .ok (.goto (-23), 3) := by decide +kernel
theorem dX5_hasMark_28 : decode cX5_hasMark 28 = .ok (.iconst 0, 1) := by decide +kernel
theorem dX5_hasMark_29 : decode cX5_hasMark 29 = .ok (.ireturn, 1) := by decide +kernel
theorem dX5_addMark_0 : decode cX5_addMark 0 = .ok (.aload_n 0, 1) := by decide +kernel
theorem dX5_addMark_1 : decode cX5_addMark 1 = .ok (.getfield 23, 3) := by decide +kernel
theorem dX5_addMark_4 : decode cX5_addMark 4 = .ok (.aload_n 0, 1) := by decide +kernel
theorem dX5_addMark_5 : decode cX5_addMark 5 = .ok (.getfield 9, 3) := by decide +kernel
theorem dX5_addMark_8 : decode cX5_addMark 8 = .ok (.arraylength, 1) := by decide +kernel
theorem dX5_addMark_9 : decode cX5_addMark 9 = .ok (.if_icmp .ge 23, 3) := by decide +kernel
theorem dX5_addMark_12 : decode cX5_addMark 12 = .ok (.aload_n 0, 1) := by decide +kernel
theorem dX5_addMark_13 : decode cX5_addMark 13 = .ok (.getfield 9, 3) := by decide +kernel
theorem dX5_addMark_16 : decode cX5_addMark 16 = .ok (.aload_n 0, 1) := by decide +kernel
theorem dX5_addMark_17 : decode cX5_addMark 17 = .ok (.getfield 23, 3) := by decide +kernel
theorem dX5_addMark_20 : decode cX5_addMark 20 = .ok (.iload_n 1, 1) := by decide +kernel
theorem dX5_addMark_21 : decode cX5_addMark 21 = .ok (.iastore, 1) := by decide +kernel
theorem dX5_addMark_22 : decode cX5_addMark 22 = .ok (.aload_n 0, 1) := by decide +kernel
theorem dX5_addMark_23 : decode cX5_addMark 23 = .ok (.dup, 1) := by decide +kernel
theorem dX5_addMark_24 : decode cX5_addMark 24 = .ok (.getfield 23, 3) := by decide +kernel
theorem dX5_addMark_27 : decode cX5_addMark 27 = .ok (.iconst 1, 1) := by decide +kernel
theorem dX5_addMark_28 : decode cX5_addMark 28 = .ok (.iadd, 1) := by decide +kernel
theorem dX5_addMark_29 : decode cX5_addMark 29 = .ok (.putfield 23, 3) := by decide +kernel
theorem dX5_addMark_32 : decode cX5_addMark 32 = .ok (.return_, 1) := by decide +kernel
theorem dX2_begin_0 : decode cX2_begin 0 = .ok (.aload_n 0, 1) := by decide +kernel
theorem dX2_begin_1 : decode cX2_begin 1 = .ok (.lload_n 1, 1) := by decide +kernel
theorem dX2_begin_2 : decode cX2_begin 2 = .ok (.putfield 21, 3) := by decide +kernel
theorem dX2_begin_5 : decode cX2_begin 5 = .ok (.aload_n 0, 1) := by decide +kernel
theorem dX2_begin_6 : decode cX2_begin 6 = .ok (.iconst 0, 1) := by decide +kernel
theorem dX2_begin_7 : decode cX2_begin 7 = .ok (.putfield 25, 3) := by decide +kernel
theorem dX2_begin_10 : decode cX2_begin 10 = .ok (.return_, 1) := by decide +kernel
theorem dX2_hasPart_0 : decode cX2_hasPart 0 = .ok (.iconst 0, 1) := by decide +kernel
theorem dX2_hasPart_1 : decode cX2_hasPart 1 = .ok (.istore_n 2, 1) := by decide +kernel
theorem dX2_hasPart_2 : decode cX2_hasPart 2 = .ok (.iload_n 2, 1) := by decide +kernel
theorem dX2_hasPart_3 : decode cX2_hasPart 3 = .ok (.aload_n 0, 1) := by decide +kernel
theorem dX2_hasPart_4 : decode cX2_hasPart 4 = .ok (.getfield 25, 3) := by decide +kernel
theorem dX2_hasPart_7 : decode cX2_hasPart 7 = .ok (.if_icmp .ge 21, 3) := by decide +kernel
theorem dX2_hasPart_10 : decode cX2_hasPart 10 = .ok (.aload_n 0, 1) := by decide +kernel
theorem dX2_hasPart_11 : decode cX2_hasPart 11 = .ok (.getfield 9, 3) := by decide +kernel
theorem dX2_hasPart_14 : decode cX2_hasPart 14 = .ok (.iload_n 2, 1) := by decide +kernel
theorem dX2_hasPart_15 : decode cX2_hasPart 15 = .ok (.iaload, 1) := by decide +kernel
theorem dX2_hasPart_16 : decode cX2_hasPart 16 = .ok (.iload_n 1, 1) := by decide +kernel
theorem dX2_hasPart_17 : decode cX2_hasPart 17 = .ok (.if_icmp .ne 5, 3) := by decide +kernel
theorem dX2_hasPart_20 : decode cX2_hasPart 20 = .ok (.iconst 1, 1) := by decide +kernel
theorem dX2_hasPart_21 : decode cX2_hasPart 21 = .ok (.ireturn, 1) := by decide +kernel
theorem dX2_hasPart_22 : decode cX2_hasPart 22 = .ok (.iinc 2 1, 3) := by decide +kernel
theorem dX2_hasPart_25 : decode cX2_hasPart 25 = .ok (.goto (-23), 3) := by decide +kernel
theorem dX2_hasPart_28 : decode cX2_hasPart 28 = .ok (.iconst 0, 1) := by decide +kernel
theorem dX2_hasPart_29 : decode cX2_hasPart 29 = .ok (.ireturn, 1) := by decide +kernel
theorem dX2_addPart_0 : decode cX2_addPart 0 = .ok (.aload_n 0, 1) := by decide +kernel
theorem dX2_addPart_1 : decode cX2_addPart 1 = .ok (.getfield 25, 3) := by decide +kernel
theorem dX2_addPart_4 : decode cX2_addPart 4 = .ok (.aload_n 0, 1) := by decide +kernel
theorem dX2_addPart_5 : decode cX2_addPart 5 = .ok (.getfield 9, 3) := by decide +kernel
theorem dX2_addPart_8 : decode cX2_addPart 8 = .ok (.arraylength, 1) := by decide +kernel
theorem dX2_addPart_9 : decode cX2_addPart 9 = .ok (.if_icmp .ge 33, 3) := by decide +kernel
theorem dX2_addPart_12 : decode cX2_addPart 12 = .ok (.aload_n 0, 1) := by decide +kernel
theorem dX2_addPart_13 : decode cX2_addPart 13 = .ok (.getfield 9, 3) := by decide +kernel
theorem dX2_addPart_16 : decode cX2_addPart 16 = .ok (.aload_n 0, 1) := by decide +kernel
theorem dX2_addPart_17 : decode cX2_addPart 17 = .ok (.getfield 25, 3) := by decide +kernel
theorem dX2_addPart_20 : decode cX2_addPart 20 = .ok (.iload_n 1, 1) := by decide +kernel
theorem dX2_addPart_21 : decode cX2_addPart 21 = .ok (.iastore, 1) := by decide +kernel
theorem dX2_addPart_22 : decode cX2_addPart 22 = .ok (.aload_n 0, 1) := by decide +kernel
theorem dX2_addPart_23 : decode cX2_addPart 23 = .ok (.getfield 15, 3) := by decide +kernel
theorem dX2_addPart_26 : decode cX2_addPart 26 = .ok (.aload_n 0, 1) := by decide +kernel
theorem dX2_addPart_27 : decode cX2_addPart 27 = .ok (.getfield 25, 3) := by decide +kernel
theorem dX2_addPart_30 : decode cX2_addPart 30 = .ok (.iload_n 2, 1) := by decide +kernel
theorem dX2_addPart_31 : decode cX2_addPart 31 = .ok (.iastore, 1) := by decide +kernel
theorem dX2_addPart_32 : decode cX2_addPart 32 = .ok (.aload_n 0, 1) := by decide +kernel
theorem dX2_addPart_33 : decode cX2_addPart 33 = .ok (.dup, 1) := by decide +kernel
theorem dX2_addPart_34 : decode cX2_addPart 34 = .ok (.getfield 25, 3) := by decide +kernel
theorem dX2_addPart_37 : decode cX2_addPart 37 = .ok (.iconst 1, 1) := by decide +kernel
theorem dX2_addPart_38 : decode cX2_addPart 38 = .ok (.iadd, 1) := by decide +kernel
theorem dX2_addPart_39 : decode cX2_addPart 39 = .ok (.putfield 25, 3) := by decide +kernel
theorem dX2_addPart_42 : decode cX2_addPart 42 = .ok (.return_, 1) := by decide +kernel
theorem dX2_goThrough_0 : decode cX2_goThrough 0 = .ok (.aload_n 0, 1) := by decide +kernel
theorem dX2_goThrough_1 : decode cX2_goThrough 1 = .ok (.aload_n 0, 1) := by decide +kernel
theorem dX2_goThrough_2 : decode cX2_goThrough 2 = .ok (.getfield 32, 3) := by decide +kernel
theorem dX2_goThrough_5 : decode cX2_goThrough 5 = .ok (.aload_n 1, 1) := by decide +kernel
theorem dX2_goThrough_6 : decode cX2_goThrough 6 = .ok (.getfield 32, 3) := by decide +kernel
theorem dX2_goThrough_9 : decode cX2_goThrough 9 = .ok (.iconst 1, 1) := by decide +kernel
theorem dX2_goThrough_10 : decode cX2_goThrough 10 = .ok (.iadd, 1) := by decide +kernel
theorem dX2_goThrough_11 : decode cX2_goThrough 11 = .ok (.invokestatic 43, 3) := by decide +kernel
theorem dX2_goThrough_14 : decode cX2_goThrough 14 = .ok (.putfield 32, 3) := by decide +kernel
theorem dX2_goThrough_17 : decode cX2_goThrough 17 = .ok (.aload_n 0, 1) := by decide +kernel
theorem dX2_goThrough_18 : decode cX2_goThrough 18 = .ok (.aload_n 0, 1) := by decide +kernel
theorem dX2_goThrough_19 : decode cX2_goThrough 19 = .ok (.getfield 35, 3) := by decide +kernel
theorem dX2_goThrough_22 : decode cX2_goThrough 22 = .ok (.ifCond .ne 10, 3) := by decide +kernel
theorem dX2_goThrough_25 : decode cX2_goThrough 25 = .ok (.aload_n 1, 1) := by decide +kernel
theorem dX2_goThrough_26 : decode cX2_goThrough 26 = .ok (.getfield 35, 3) := by decide +kernel
theorem dX2_goThrough_29 : decode cX2_goThrough 29 = .ok (.ifCond .eq 7, 3) := by decide +kernel
theorem dX2_goThrough_32 : decode cX2_goThrough 32 = .ok (.iconst 1, 1) := by decide +kernel
theorem dX2_goThrough_33 : decode cX2_goThrough 33 = .ok (.goto 4, 3) := by decide +kernel
theorem dX2_goThrough_36 : decode cX2_goThrough 36 = .ok (.iconst 0, 1) := by decide +kernel
theorem dX2_goThrough_37 : decode cX2_goThrough 37 = .ok (.putfield 35, 3) := by decide +kernel
theorem dX2_goThrough_40 : decode cX2_goThrough 40 = .ok (.iconst 0, 1) := by decide +kernel
theorem dX2_goThrough_41 : decode cX2_goThrough 41 = .ok (.istore_n 2, 1) := by decide +kernel
theorem dX2_goThrough_42 : decode cX2_goThrough 42 = .ok (.iload_n 2, 1) := by decide +kernel
theorem dX2_goThrough_43 : decode cX2_goThrough 43 = .ok (.aload_n 0, 1) := by decide +kernel
theorem dX2_goThrough_44 : decode cX2_goThrough 44 = .ok (.getfield 18, 3) := by decide +kernel
theorem dX2_goThrough_47 : decode cX2_goThrough 47 = .ok (.arraylength, 1) := by decide +kernel
theorem dX2_goThrough_48 : decode cX2_goThrough 48 = .ok (.if_icmp .ge 24, 3) := by decide +kernel
theorem dX2_goThrough_51 : decode cX2_goThrough 51 = .ok (.aload_n 0, 1) := by decide +kernel
theorem dX2_goThrough_52 : decode cX2_goThrough 52 = .ok (.getfield 18, 3) := by decide +kernel
theorem dX2_goThrough_55 : decode cX2_goThrough 55 = .ok (.iload_n 2, 1) := by decide +kernel
theorem dX2_goThrough_56 : decode cX2_goThrough 56 = .ok (.dup2, 1) := by decide +kernel
theorem dX2_goThrough_57 : decode cX2_goThrough 57 = .ok (.iaload, 1) := by decide +kernel
theorem dX2_goThrough_58 : decode cX2_goThrough 58 = .ok (.aload_n 1, 1) := by decide +kernel
theorem dX2_goThrough_59 : decode cX2_goThrough 59 = .ok (.getfield 18, 3) := by decide +kernel
theorem dX2_goThrough_62 : decode cX2_goThrough 62 = .ok (.iload_n 2, 1) := by decide +kernel
theorem dX2_goThrough_63 : decode cX2_goThrough 63 = .ok (.iaload, 1) := by decide +kernel
theorem dX2_goThrough_64 : decode cX2_goThrough 64 = .ok (.iadd, 1) := by decide +kernel
theorem dX2_goThrough_65 : decode cX2_goThrough 65 = .ok (.iastore, 1) := by decide +kernel
theorem dX2_goThrough_66 : decode cX2_goThrough 66 = .ok (.iinc 2 1, 3) := by decide +kernel
theorem dX2_goThrough_69 : decode cX2_goThrough 69 = .ok (.goto (-27), 3) := by decide +kernel
theorem dX2_goThrough_72 : decode cX2_goThrough 72 = .ok (.return_, 1) := by decide +kernel
theorem dX2_personsReached_0 : decode cX2_personsReached 0 = .ok (.iconst 0, 1) := by decide +kernel
theorem dX2_personsReached_1 : decode cX2_personsReached 1 = .ok (.istore_n 1, 1) := by decide +kernel
theorem dX2_personsReached_2 : decode cX2_personsReached 2 = .ok (.iconst 0, 1) := by decide +kernel
theorem dX2_personsReached_3 : decode cX2_personsReached 3 = .ok (.istore_n 2, 1) := by decide +kernel
theorem dX2_personsReached_4 : decode cX2_personsReached 4 = .ok (.iload_n 2, 1) := by decide +kernel
theorem dX2_personsReached_5 : decode cX2_personsReached 5 = .ok (.aload_n 0, 1) := by decide +kernel
theorem dX2_personsReached_6 : decode cX2_personsReached 6 = .ok (.getfield 18, 3) := by decide +kernel
theorem dX2_personsReached_9 : decode cX2_personsReached 9 = .ok (.arraylength, 1) := by decide +kernel
theorem dX2_personsReached_10 : decode cX2_personsReached 10 = .ok (.if_icmp .ge 21, 3) := by decide +kernel
theorem dX2_personsReached_13 : decode cX2_personsReached 13 = .ok (.aload_n 0, 1) := by decide +kernel
theorem dX2_personsReached_14 : decode cX2_personsReached 14 = .ok (.getfield 18, 3) := by decide +kernel
theorem dX2_personsReached_17 : decode cX2_personsReached 17 = .ok (.iload_n 2, 1) := by decide +kernel
theorem dX2_personsReached_18 : decode cX2_personsReached 18 = .ok (.iaload, 1) := by decide +kernel
theorem dX2_personsReached_19 : decode cX2_personsReached 19 = .ok (.ifCond .le 6, 3) := by decide +kernel
theorem dX2_personsReached_22 : decode cX2_personsReached 22 = .ok (.iinc 1 1, 3) := by decide +kernel
theorem dX2_personsReached_25 : decode cX2_personsReached 25 = .ok (.iinc 2 1, 3) := by decide +kernel
theorem dX2_personsReached_28 : decode cX2_personsReached 28 = .ok (.goto (-24), 3) := by decide +kernel
theorem dX2_personsReached_31 : decode cX2_personsReached 31 = .ok (.iload_n 1, 1) := by decide +kernel
theorem dX2_personsReached_32 : decode cX2_personsReached 32 = .ok (.ireturn, 1) := by decide +kernel
theorem dX2_settle_0 : decode cX2_settle 0 = .ok (.aload_n 0, 1) := by decide +kernel
theorem dX2_settle_1 : decode cX2_settle 1 = .ok (.iconst 0, 1) := by decide +kernel
theorem dX2_settle_2 : decode cX2_settle 2 = .ok (.putfield 29, 3) := by decide +kernel
theorem dX2_settle_5 : decode cX2_settle 5 = .ok (.aload_n 0, 1) := by decide +kernel
theorem dX2_settle_6 : decode cX2_settle 6 = .ok (.iconst 1, 1) := by decide +kernel
theorem dX2_settle_7 : decode cX2_settle 7 = .ok (.putfield 32, 3) := by decide +kernel
theorem dX2_settle_10 : decode cX2_settle 10 = .ok (.aload_n 0, 1) := by decide +kernel
theorem dX2_settle_11 : decode cX2_settle 11 = .ok (.iconst 0, 1) := by decide +kernel
theorem dX2_settle_12 : decode cX2_settle 12 = .ok (.putfield 35, 3) := by decide +kernel
theorem dX2_settle_15 : decode cX2_settle 15 = .ok (.iconst 0, 1) := by decide +kernel
theorem dX2_settle_16 : decode cX2_settle 16 = .ok (.istore_n 2, 1) := by decide +kernel
theorem dX2_settle_17 : decode cX2_settle 17 = .ok (.iload_n 2, 1) := by decide +kernel
theorem dX2_settle_18 : decode cX2_settle 18 = .ok (.aload_n 0, 1) := by decide +kernel
theorem dX2_settle_19 : decode cX2_settle 19 = .ok (.getfield 18, 3) := by decide +kernel
theorem dX2_settle_22 : decode cX2_settle 22 = .ok (.arraylength, 1) := by decide +kernel
theorem dX2_settle_23 : decode cX2_settle 23 = .ok (.if_icmp .ge 16, 3) := by decide +kernel
theorem dX2_settle_26 : decode cX2_settle 26 = .ok (.aload_n 0, 1) := by decide +kernel
theorem dX2_settle_27 : decode cX2_settle 27 = .ok (.getfield 18, 3) := by decide +kernel
theorem dX2_settle_30 : decode cX2_settle 30 = .ok (.iload_n 2, 1) := by decide +kernel
theorem dX2_settle_31 : decode cX2_settle 31 = .ok (.iconst 0, 1) := by decide +kernel
theorem dX2_settle_32 : decode cX2_settle 32 = .ok (.iastore, 1) := by decide +kernel
theorem dX2_settle_33 : decode cX2_settle 33 = .ok (.iinc 2 1, 3) := by decide +kernel
theorem dX2_settle_36 : decode cX2_settle 36 = .ok (.goto (-19), 3) := by decide +kernel
theorem dX2_settle_39 : decode cX2_settle 39 = .ok (.iconst 0, 1) := by decide +kernel
theorem dX2_settle_40 : decode cX2_settle 40 = .ok (.istore_n 2, 1) := by decide +kernel
theorem dX2_settle_41 : decode cX2_settle 41 = .ok (.iload_n 2, 1) := by decide +kernel
theorem dX2_settle_42 : decode cX2_settle 42 = .ok (.aload_n 0, 1) := by decide +kernel
theorem dX2_settle_43 : decode cX2_settle 43 = .ok (.getfield 25, 3) := by decide +kernel
theorem dX2_settle_46 : decode cX2_settle 46 = .ok (.if_icmp .ge 82, 3) := by decide +kernel
theorem dX2_settle_49 : decode cX2_settle 49 = .ok (.aload_n 0, 1) := by decide +kernel
theorem dX2_settle_50 : decode cX2_settle 50 = .ok (.dup, 1) := by decide +kernel
theorem dX2_settle_51 : decode cX2_settle 51 = .ok (.getfield 29, 3) := by decide +kernel
theorem dX2_settle_54 : decode cX2_settle 54 = .ok (.aload_n 0, 1) := by decide +kernel
theorem dX2_settle_55 : decode cX2_settle 55 = .ok (.getfield 15, 3) := by decide +kernel
theorem dX2_settle_58 : decode cX2_settle 58 = .ok (.iload_n 2, 1) := by decide +kernel
theorem dX2_settle_59 : decode cX2_settle 59 = .ok (.iaload, 1) := by decide +kernel
theorem dX2_settle_60 : decode cX2_settle 60 = .ok (.iadd, 1) := by decide +kernel
theorem dX2_settle_61 : decode cX2_settle 61 = .ok (.putfield 29, 3) := by decide +kernel
theorem dX2_settle_64 : decode cX2_settle 64 = .ok (.aload_n 0, 1) := by decide +kernel
theorem dX2_settle_65 : decode cX2_settle 65 = .ok (.getfield 9, 3) := by decide +kernel
theorem dX2_settle_68 : decode cX2_settle 68 = .ok (.iload_n 2, 1) := by decide +kernel
theorem dX2_settle_69 : decode cX2_settle 69 = .ok (.iaload, 1) := by decide +kernel
theorem dX2_settle_70 : decode cX2_settle 70 = .ok (.istore_n 3, 1) := by decide +kernel
theorem dX2_settle_71 : decode cX2_settle 71 = .ok (.iload_n 3, 1) := by decide +kernel
theorem dX2_settle_72 : decode cX2_settle 72 = .ok (.ifCond .lt 25, 3) := by decide +kernel
theorem dX2_settle_75 : decode cX2_settle 75 = .ok (.iload_n 3, 1) := by decide +kernel
theorem dX2_settle_76 : decode cX2_settle 76 = .ok (.aload_n 0, 1) := by decide +kernel
theorem dX2_settle_77 : decode cX2_settle 77 = .ok (.getfield 18, 3) := by decide +kernel
theorem dX2_settle_80 : decode cX2_settle 80 = .ok (.arraylength, 1) := by decide +kernel
theorem dX2_settle_81 : decode cX2_settle 81 = .ok (.if_icmp .ge 16, 3) := by decide +kernel
theorem dX2_settle_84 : decode cX2_settle 84 = .ok (.aload_n 0, 1) := by decide +kernel
theorem dX2_settle_85 : decode cX2_settle 85 = .ok (.getfield 18, 3) := by decide +kernel
theorem dX2_settle_88 : decode cX2_settle 88 = .ok (.iload_n 3, 1) := by decide +kernel
theorem dX2_settle_89 : decode cX2_settle 89 = .ok (.dup2, 1) := by decide +kernel
theorem dX2_settle_90 : decode cX2_settle 90 = .ok (.iaload, 1) := by decide +kernel
theorem dX2_settle_91 : decode cX2_settle 91 = .ok (.iconst 1, 1) := by decide +kernel
theorem dX2_settle_92 : decode cX2_settle 92 = .ok (.iadd, 1) := by decide +kernel
theorem dX2_settle_93 : decode cX2_settle 93 = .ok (.iastore, 1) := by decide +kernel
theorem dX2_settle_94 : decode cX2_settle 94 = .ok (.goto 28, 3) := by decide +kernel
theorem dX2_settle_97 : decode cX2_settle 97 = .ok (.iload_n 3, 1) := by decide +kernel
theorem dX2_settle_98 : decode cX2_settle 98 = .ok (.bipush 12, 2) := by decide +kernel
theorem dX2_settle_100 : decode cX2_settle 100 = .ok (.if_icmp .lt 22, 3) := by decide +kernel
theorem dX2_settle_103 : decode cX2_settle 103 = .ok (.iload_n 3, 1) := by decide +kernel
theorem dX2_settle_104 : decode cX2_settle 104 = .ok (.bipush 12, 2) := by decide +kernel
theorem dX2_settle_106 : decode cX2_settle 106 = .ok (.isub, 1) := by decide +kernel
theorem dX2_settle_107 : decode cX2_settle 107 = .ok (.aload_n 1, 1) := by decide +kernel
theorem dX2_settle_108 : decode cX2_settle 108 = .ok (.arraylength, 1) := by decide +kernel
theorem dX2_settle_109 : decode cX2_settle 109 = .ok (.if_icmp .ge 13, 3) := by decide +kernel
theorem dX2_settle_112 : decode cX2_settle 112 = .ok (.aload_n 0, 1) := by decide +kernel
theorem dX2_settle_113 : decode cX2_settle 113 = .ok (.aload_n 1, 1) := by decide +kernel
theorem dX2_settle_114 : decode cX2_settle 114 = .ok (.iload_n 3, 1) := by decide +kernel
theorem dX2_settle_115 : decode cX2_settle 115 = .ok (.bipush 12, 2) := by decide +kernel
theorem dX2_settle_117 : decode cX2_settle 117 = .ok (.isub, 1) := by decide +kernel
theorem dX2_settle_118 : decode cX2_settle 118 = .ok (.aaload, 1) := by decide +kernel
theorem dX2_settle_119 : decode cX2_settle 119 = .ok (.invokevirtual 39, 3) := by decide +kernel
theorem dX2_settle_122 : decode cX2_settle 122 = .ok (.iinc 2 1, 3) := by decide +kernel
theorem dX2_settle_125 : decode cX2_settle 125 = .ok (.goto (-84), 3) := by decide +kernel
theorem dX2_settle_128 : decode cX2_settle 128 = .ok (.aload_n 0, 1) := by decide +kernel
theorem dX2_settle_129 : decode cX2_settle 129 = .ok (.getfield 29, 3) := by decide +kernel
theorem dX2_settle_132 : decode cX2_settle 132 = .ok (.ifCond .ne 8, 3) := by decide +kernel
theorem dX2_settle_135 : decode cX2_settle 135 = .ok (.aload_n 0, 1) := by decide +kernel
theorem dX2_settle_136 : decode cX2_settle 136 = .ok (.iconst 1, 1) := by decide +kernel
theorem dX2_settle_137 : decode cX2_settle 137 = .ok (.putfield 35, 3) := by decide +kernel
theorem dX2_settle_140 : decode cX2_settle 140 = .ok (.return_, 1) := by decide +kernel
theorem dX0_clear_0 : decode cX0_clear 0 = .ok (.aload_n 0, 1) := by decide +kernel
theorem dX0_clear_1 : decode cX0_clear 1 = .ok (.iconst 0, 1) := by decide +kernel
theorem dX0_clear_2 : decode cX0_clear 2 = .ok (.putfield 51, 3) := by decide +kernel
theorem dX0_clear_5 : decode cX0_clear 5 = .ok (.aload_n 0, 1) := by decide +kernel
theorem dX0_clear_6 : decode cX0_clear 6 = .ok (.iconst 0, 1) := by decide +kernel
theorem dX0_clear_7 : decode cX0_clear 7 = .ok (.putfield 55, 3) := by decide +kernel
theorem dX0_clear_10 : decode cX0_clear 10 = .ok (.aload_n 0, 1) := by decide +kernel
theorem dX0_clear_11 : decode cX0_clear 11 = .ok (.iconst 0, 1) := by decide +kernel
theorem dX0_clear_12 : decode cX0_clear 12 = .ok (.putfield 58, 3) := by decide +kernel
theorem dX0_clear_15 : decode cX0_clear 15 = .ok (.aload_n 0, 1) := by decide +kernel
theorem dX0_clear_16 : decode cX0_clear 16 = .ok (.iconst 0, 1) := by decide +kernel
theorem dX0_clear_17 : decode cX0_clear 17 = .ok (.putfield 61, 3) := by decide +kernel
theorem dX0_clear_20 : decode cX0_clear 20 = .ok (.aload_n 0, 1) := by decide +kernel
theorem dX0_clear_21 : decode cX0_clear 21 = .ok (.iconst 0, 1) := by decide +kernel
theorem dX0_clear_22 : decode cX0_clear 22 = .ok (.putfield 64, 3) := by decide +kernel
theorem dX0_clear_25 : decode cX0_clear 25 = .ok (.aload_n 0, 1) := by decide +kernel
theorem dX0_clear_26 : decode cX0_clear 26 = .ok (.iconst 0, 1) := by decide +kernel
theorem dX0_clear_27 : decode cX0_clear 27 = .ok (.putfield 67, 3) := by decide +kernel
theorem dX0_clear_30 : decode cX0_clear 30 = .ok (.aload_n 0, 1) := by decide +kernel
theorem dX0_clear_31 : decode cX0_clear 31 = .ok (.getfield 39, 3) := by decide +kernel
theorem dX0_clear_34 : decode cX0_clear 34 = .ok (.iconst 0, 1) := by decide +kernel
theorem dX0_clear_35 : decode cX0_clear 35 = .ok (.iconst (-1), 1) := by decide +kernel
theorem dX0_clear_36 : decode cX0_clear 36 = .ok (.iastore, 1) := by decide +kernel
theorem dX0_clear_37 : decode cX0_clear 37 = .ok (.aload_n 0, 1) := by decide +kernel
theorem dX0_clear_38 : decode cX0_clear 38 = .ok (.getfield 39, 3) := by decide +kernel
theorem dX0_clear_41 : decode cX0_clear 41 = .ok (.iconst 1, 1) := by decide +kernel
theorem dX0_clear_42 : decode cX0_clear 42 = .ok (.iconst (-1), 1) := by decide +kernel
theorem dX0_clear_43 : decode cX0_clear 43 = .ok (.iastore, 1) := by decide +kernel
theorem dX0_clear_44 : decode cX0_clear 44 = .ok (.aload_n 0, 1) := by decide +kernel
theorem dX0_clear_45 : decode cX0_clear 45 = .ok (.getfield 39, 3) := by decide +kernel
theorem dX0_clear_48 : decode cX0_clear 48 = .ok (.iconst 2, 1) := by decide +kernel
theorem dX0_clear_49 : decode cX0_clear 49 = .ok (.iconst (-1), 1) := by decide +kernel
theorem dX0_clear_50 : decode cX0_clear 50 = .ok (.iastore, 1) := by decide +kernel
theorem dX0_clear_51 : decode cX0_clear 51 = .ok (.return_, 1) := by decide +kernel
theorem dX0_settleUntold_0 : decode cX0_settleUntold 0 = .ok (.aload_n 0, 1) := by decide +kernel
theorem dX0_settleUntold_1 : decode cX0_settleUntold 1 = .ok (.getfield 39, 3) := by decide +kernel
theorem dX0_settleUntold_4 : decode cX0_settleUntold 4 = .ok (.iconst 0, 1) := by decide +kernel
theorem dX0_settleUntold_5 : decode cX0_settleUntold 5 = .ok (.iaload, 1) := by decide +kernel
theorem dX0_settleUntold_6 : decode cX0_settleUntold 6 = .ok (.iconst (-1), 1) := by decide +kernel
theorem dX0_settleUntold_7 : decode cX0_settleUntold 7 = .ok (.if_icmp .ne 10, 3) := by decide +kernel
theorem dX0_settleUntold_10 : decode cX0_settleUntold 10 = .ok (.aload_n 0, 1) := by decide +kernel
theorem dX0_settleUntold_11 : decode cX0_settleUntold 11 = .ok (.getfield 39, 3) := by decide +kernel
theorem dX0_settleUntold_14 : decode cX0_settleUntold 14 = .ok (.iconst 0, 1) := by decide +kernel
theorem dX0_settleUntold_15 : decode cX0_settleUntold 15 = .ok (.iconst 0, 1) := by decide +kernel
theorem dX0_settleUntold_16 : decode cX0_settleUntold 16 = .ok (.iastore, 1) := by decide +kernel
theorem dX0_settleUntold_17 : decode cX0_settleUntold 17 = .ok (.aload_n 0, 1) := by decide +kernel
theorem dX0_settleUntold_18 : decode cX0_settleUntold 18 = .ok (.getfield 39, 3) := by decide +kernel
theorem dX0_settleUntold_21 : decode cX0_settleUntold 21 = .ok (.iconst 1, 1) := by decide +kernel
theorem dX0_settleUntold_22 : decode cX0_settleUntold 22 = .ok (.iaload, 1) := by decide +kernel
theorem dX0_settleUntold_23 : decode cX0_settleUntold 23 = .ok (.iconst (-1), 1) := by decide +kernel
theorem dX0_settleUntold_24 : decode cX0_settleUntold 24 = .ok (.if_icmp .ne 11, 3) := by decide +kernel
theorem dX0_settleUntold_27 : decode cX0_settleUntold 27 = .ok (.aload_n 0, 1) := by decide +kernel
theorem dX0_settleUntold_28 : decode cX0_settleUntold 28 = .ok (.getfield 39, 3) := by decide +kernel
theorem dX0_settleUntold_31 : decode cX0_settleUntold 31 = .ok (.iconst 1, 1) := by decide +kernel
theorem dX0_settleUntold_32 : decode cX0_settleUntold 32 = .ok (.ldc 70, 2) := by decide +kernel
theorem dX0_settleUntold_34 : decode cX0_settleUntold 34 = .ok (.iastore, 1) := by decide +kernel
theorem dX0_settleUntold_35 : decode cX0_settleUntold 35 = .ok (.aload_n 0, 1) := by decide +kernel
theorem dX0_settleUntold_36 : decode cX0_settleUntold 36 = .ok (.getfield 39, 3) := by decide +kernel
theorem dX0_settleUntold_39 : decode cX0_settleUntold 39 = .ok (.iconst 2, 1) := by decide +kernel
theorem dX0_settleUntold_40 : decode cX0_settleUntold 40 = .ok (.iaload, 1) := by decide +kernel
theorem dX0_settleUntold_41 : decode cX0_settleUntold 41 = .ok (.iconst (-1), 1) := by decide +kernel
theorem dX0_settleUntold_42 : decode cX0_settleUntold 42 = .ok (.if_icmp .ne 11, 3) := by decide +kernel
theorem dX0_settleUntold_45 : decode cX0_settleUntold 45 = .ok (.aload_n 0, 1) := by decide +kernel
theorem dX0_settleUntold_46 : decode cX0_settleUntold 46 = .ok (.getfield 39, 3) := by decide +kernel
theorem dX0_settleUntold_49 : decode cX0_settleUntold 49 = .ok (.iconst 2, 1) := by decide +kernel
theorem dX0_settleUntold_50 : decode cX0_settleUntold 50 = .ok (.ldc 71, 2) := by decide +kernel
theorem dX0_settleUntold_52 : decode cX0_settleUntold 52 = .ok (.iastore, 1) := by decide +kernel
theorem dX0_settleUntold_53 : decode cX0_settleUntold 53 = .ok (.return_, 1) := by decide +kernel
theorem dX0_indexOfMark_0 : decode cX0_indexOfMark 0 = .ok (.iconst 0, 1) := by decide +kernel
theorem dX0_indexOfMark_1 : decode cX0_indexOfMark 1 = .ok (.istore_n 2, 1) := by decide +kernel
theorem dX0_indexOfMark_2 : decode cX0_indexOfMark 2 = .ok (.iload_n 2, 1) := by decide +kernel
theorem dX0_indexOfMark_3 : decode cX0_indexOfMark 3 = .ok (.aload_n 0, 1) := by decide +kernel
theorem dX0_indexOfMark_4 : decode cX0_indexOfMark 4 = .ok (.getfield 67, 3) := by decide +kernel
theorem dX0_indexOfMark_7 : decode cX0_indexOfMark 7 = .ok (.if_icmp .ge 21, 3) := by decide +kernel
theorem dX0_indexOfMark_10 : decode cX0_indexOfMark 10 = .ok (.aload_n 0, 1) := by decide +kernel
theorem dX0_indexOfMark_11 : decode cX0_indexOfMark 11 = .ok (.getfield 42, 3) := by decide +kernel
theorem dX0_indexOfMark_14 : decode cX0_indexOfMark 14 = .ok (.iload_n 2, 1) := by decide +kernel
theorem dX0_indexOfMark_15 : decode cX0_indexOfMark 15 = .ok (.iaload, 1) := by decide +kernel
theorem dX0_indexOfMark_16 : decode cX0_indexOfMark 16 = .ok (.iload_n 1, 1) := by decide +kernel
theorem dX0_indexOfMark_17 : decode cX0_indexOfMark 17 = .ok (.if_icmp .ne 5, 3) := by decide +kernel
theorem dX0_indexOfMark_20 : decode cX0_indexOfMark 20 = .ok (.iload_n 2, 1) := by decide +kernel
theorem dX0_indexOfMark_21 : decode cX0_indexOfMark 21 = .ok (.ireturn, 1) := by decide +kernel
theorem dX0_indexOfMark_22 : decode cX0_indexOfMark 22 = .ok (.iinc 2 1, 3) := by decide +kernel
theorem dX0_indexOfMark_25 : decode cX0_indexOfMark 25 = .ok (.goto (-23), 3) := by decide +kernel
theorem dX0_indexOfMark_28 : decode cX0_indexOfMark 28 = .ok (.iconst (-1), 1) := by decide +kernel
theorem dX0_indexOfMark_29 : decode cX0_indexOfMark 29 = .ok (.ireturn, 1) := by decide +kernel
theorem dX0_find_0 : decode cX0_find 0 = .ok (.iconst 0, 1) := by decide +kernel
theorem dX0_find_1 : decode cX0_find 1 = .ok (.istore_n 3, 1) := by decide +kernel
theorem dX0_find_2 : decode cX0_find 2 = .ok (.iload_n 3, 1) := by decide +kernel
theorem dX0_find_3 : decode cX0_find 3 = .ok (.aload_n 0, 1) := by decide +kernel
theorem dX0_find_4 : decode cX0_find 4 = .ok (.getfield 51, 3) := by decide +kernel
theorem dX0_find_7 : decode cX0_find 7 = .ok (.if_icmp .ge 25, 3) := by decide +kernel
theorem dX0_find_10 : decode cX0_find 10 = .ok (.aload_n 0, 1) := by decide +kernel
theorem dX0_find_11 : decode cX0_find 11 = .ok (.getfield 11, 3) := by decide +kernel
theorem dX0_find_14 : decode cX0_find 14 = .ok (.iload_n 3, 1) := by decide +kernel
theorem dX0_find_15 : decode cX0_find 15 = .ok (.aaload, 1) := by decide +kernel
theorem dX0_find_16 : decode cX0_find 16 = .ok (.getfield 82, 3) := by decide +kernel
theorem dX0_find_19 : decode cX0_find 19 = .ok (.lload_n 1, 1) := by decide +kernel
theorem dX0_find_20 : decode cX0_find 20 = .ok (.lcmp, 1) := by decide +kernel
theorem dX0_find_21 : decode cX0_find 21 = .ok (.ifCond .ne 5, 3) := by decide +kernel
theorem dX0_find_24 : decode cX0_find 24 = .ok (.iload_n 3, 1) := by decide +kernel
theorem dX0_find_25 : decode cX0_find 25 = .ok (.ireturn, 1) := by decide +kernel
theorem dX0_find_26 : decode cX0_find 26 = .ok (.iinc 3 1, 3) := by decide +kernel
theorem dX0_find_29 : decode cX0_find 29 = .ok (.goto (-27), 3) := by decide +kernel
theorem dX0_find_32 : decode cX0_find 32 = .ok (.iconst 0, 1) := by decide +kernel
theorem dX0_find_33 : decode cX0_find 33 = .ok (.istore_n 3, 1) := by decide +kernel
theorem dX0_find_34 : decode cX0_find 34 = .ok (.iload_n 3, 1) := by decide +kernel
theorem dX0_find_35 : decode cX0_find 35 = .ok (.aload_n 0, 1) := by decide +kernel
theorem dX0_find_36 : decode cX0_find 36 = .ok (.getfield 55, 3) := by decide +kernel
theorem dX0_find_39 : decode cX0_find 39 = .ok (.if_icmp .ge 28, 3) := by decide +kernel
theorem dX0_find_42 : decode cX0_find 42 = .ok (.aload_n 0, 1) := by decide +kernel
theorem dX0_find_43 : decode cX0_find 43 = .ok (.getfield 19, 3) := by decide +kernel
theorem dX0_find_46 : decode cX0_find 46 = .ok (.iload_n 3, 1) := by decide +kernel
theorem dX0_find_47 : decode cX0_find 47 = .ok (.aaload, 1) := by decide +kernel
theorem dX0_find_48 : decode cX0_find 48 = .ok (.getfield 86, 3) := by decide +kernel
theorem dX0_find_51 : decode cX0_find 51 = .ok (.lload_n 1, 1) := by decide +kernel
theorem dX0_find_52 : decode cX0_find 52 = .ok (.lcmp, 1) := by decide +kernel
theorem dX0_find_53 : decode cX0_find 53 = .ok (.ifCond .ne 8, 3) := by decide +kernel
theorem dX0_find_56 : decode cX0_find 56 = .ok (.bipush 12, 2) := by decide +kernel
theorem dX0_find_58 : decode cX0_find 58 = .ok (.iload_n 3, 1) := by decide +kernel
theorem dX0_find_59 : decode cX0_find 59 = .ok (.iadd, 1) := by decide +kernel
theorem dX0_find_60 : decode cX0_find 60 = .ok (.ireturn, 1) := by decide +kernel
theorem dX0_find_61 : decode cX0_find 61 = .ok (.iinc 3 1, 3) := by decide +kernel
theorem dX0_find_64 : decode cX0_find 64 = .ok (.goto (-30), 3) := by decide +kernel
theorem dX0_find_67 : decode cX0_find 67 = .ok (.iconst 0, 1) := by decide +kernel
theorem dX0_find_68 : decode cX0_find 68 = .ok (.istore_n 3, 1) := by decide +kernel
theorem dX0_find_69 : decode cX0_find 69 = .ok (.iload_n 3, 1) := by decide +kernel
theorem dX0_find_70 : decode cX0_find 70 = .ok (.aload_n 0, 1) := by decide +kernel
theorem dX0_find_71 : decode cX0_find 71 = .ok (.getfield 58, 3) := by decide +kernel
theorem dX0_find_74 : decode cX0_find 74 = .ok (.if_icmp .ge 28, 3) := by decide +kernel
theorem dX0_find_77 : decode cX0_find 77 = .ok (.aload_n 0, 1) := by decide +kernel
theorem dX0_find_78 : decode cX0_find 78 = .ok (.getfield 23, 3) := by decide +kernel
theorem dX0_find_81 : decode cX0_find 81 = .ok (.iload_n 3, 1) := by decide +kernel
theorem dX0_find_82 : decode cX0_find 82 = .ok (.aaload, 1) := by decide +kernel
theorem dX0_find_83 : decode cX0_find 83 = .ok (.getfield 86, 3) := by decide +kernel
theorem dX0_find_86 : decode cX0_find 86 = .ok (.lload_n 1, 1) := by decide +kernel
theorem dX0_find_87 : decode cX0_find 87 = .ok (.lcmp, 1) := by decide +kernel
theorem dX0_find_88 : decode cX0_find 88 = .ok (.ifCond .ne 8, 3) := by decide +kernel
theorem dX0_find_91 : decode cX0_find 91 = .ok (.bipush 17, 2) := by decide +kernel
theorem dX0_find_93 : decode cX0_find 93 = .ok (.iload_n 3, 1) := by decide +kernel
theorem dX0_find_94 : decode cX0_find 94 = .ok (.iadd, 1) := by decide +kernel
theorem dX0_find_95 : decode cX0_find 95 = .ok (.ireturn, 1) := by decide +kernel
theorem dX0_find_96 : decode cX0_find 96 = .ok (.iinc 3 1, 3) := by decide +kernel
theorem dX0_find_99 : decode cX0_find 99 = .ok (.goto (-30), 3) := by decide +kernel
theorem dX0_find_102 : decode cX0_find 102 = .ok (.iconst (-1), 1) := by decide +kernel
theorem dX0_find_103 : decode cX0_find 103 = .ok (.ireturn, 1) := by decide +kernel
theorem dX0_addHolder_0 : decode cX0_addHolder 0 = .ok (.aload_n 0, 1) := by decide +kernel
theorem dX0_addHolder_1 : decode cX0_addHolder 1 = .ok (.iload_n 1, 1) := by decide +kernel
theorem dX0_addHolder_2 : decode cX0_addHolder 2 = .ok (.invokevirtual 78, 3) := by decide +kernel
theorem dX0_addHolder_5 : decode cX0_addHolder 5 = .ok (.istore_n 3, 1) := by decide +kernel
theorem dX0_addHolder_6 : decode cX0_addHolder 6 = .ok (.iload_n 3, 1) := by decide +kernel
theorem dX0_addHolder_7 : decode cX0_addHolder 7 = .ok (.iconst (-1), 1) := by decide +kernel
theorem dX0_addHolder_8 : decode cX0_addHolder 8 = .ok (.if_icmp .ne 44, 3) := by decide +kernel
theorem dX0_addHolder_11 : decode cX0_addHolder 11 = .ok (.aload_n 0, 1) := by decide +kernel
theorem dX0_addHolder_12 : decode cX0_addHolder 12 = .ok (.getfield 67, 3) := by decide +kernel
theorem dX0_addHolder_15 : decode cX0_addHolder 15 = .ok (.aload_n 0, 1) := by decide +kernel
theorem dX0_addHolder_16 : decode cX0_addHolder 16 = .ok (.getfield 42, 3) := by decide +kernel
theorem dX0_addHolder_19 : decode cX0_addHolder 19 = .ok (.arraylength, 1) := by decide +kernel
theorem dX0_addHolder_20 : decode cX0_addHolder 20 = .ok (.if_icmp .ge 32, 3) := by decide +kernel
theorem dX0_addHolder_23 : decode cX0_addHolder 23 = .ok (.aload_n 0, 1) := by decide +kernel
theorem dX0_addHolder_24 : decode cX0_addHolder 24 = .ok (.getfield 67, 3) := by decide +kernel
theorem dX0_addHolder_27 : decode cX0_addHolder 27 = .ok (.istore_n 3, 1) := by decide +kernel
theorem dX0_addHolder_28 : decode cX0_addHolder 28 = .ok (.aload_n 0, 1) := by decide +kernel
theorem dX0_addHolder_29 : decode cX0_addHolder 29 = .ok (.getfield 42, 3) := by decide +kernel
theorem dX0_addHolder_32 : decode cX0_addHolder 32 = .ok (.iload_n 3, 1) := by decide +kernel
theorem dX0_addHolder_33 : decode cX0_addHolder 33 = .ok (.iload_n 1, 1) := by decide +kernel
theorem dX0_addHolder_34 : decode cX0_addHolder 34 = .ok (.iastore, 1) := by decide +kernel
theorem dX0_addHolder_35 : decode cX0_addHolder 35 = .ok (.aload_n 0, 1) := by decide +kernel
theorem dX0_addHolder_36 : decode cX0_addHolder 36 = .ok (.getfield 45, 3) := by decide +kernel
theorem dX0_addHolder_39 : decode cX0_addHolder 39 = .ok (.iload_n 3, 1) := by decide +kernel
theorem dX0_addHolder_40 : decode cX0_addHolder 40 = .ok (.iconst 0, 1) := by decide +kernel
theorem dX0_addHolder_41 : decode cX0_addHolder 41 = .ok (.iastore, 1) := by decide +kernel
theorem dX0_addHolder_42 : decode cX0_addHolder 42 = .ok (.aload_n 0, 1) := by decide +kernel
theorem dX0_addHolder_43 : decode cX0_addHolder 43 = .ok (.dup, 1) := by decide +kernel
theorem dX0_addHolder_44 : decode cX0_addHolder 44 = .ok (.getfield 67, 3) := by decide +kernel
theorem dX0_addHolder_47 : decode cX0_addHolder 47 = .ok (.iconst 1, 1) := by decide +kernel
theorem dX0_addHolder_48 : decode cX0_addHolder 48 = .ok (.iadd, 1) := by decide +kernel
theorem dX0_addHolder_49 : decode cX0_addHolder 49 = .ok (.putfield 67, 3) := by decide +kernel
theorem dX0_addHolder_52 : decode cX0_addHolder 52 = .ok (.iload_n 3, 1) := by decide +kernel
theorem dX0_addHolder_53 : decode cX0_addHolder 53 = .ok (.iconst (-1), 1) := by decide +kernel
theorem dX0_addHolder_54 : decode cX0_addHolder 54 = .ok (.if_icmp .eq 15, 3) := by decide +kernel
theorem dX0_addHolder_57 : decode cX0_addHolder 57 = .ok (.aload_n 0, 1) := by decide +kernel
theorem dX0_addHolder_58 : decode cX0_addHolder 58 = .ok (.getfield 45, 3) := by decide +kernel
theorem dX0_addHolder_61 : decode cX0_addHolder 61 = .ok (.iload_n 3, 1) := by decide +kernel
theorem dX0_addHolder_62 : decode cX0_addHolder 62 = .ok (.dup2, 1) := by decide +kernel
theorem dX0_addHolder_63 : decode cX0_addHolder 63 = .ok (.iaload, 1) := by decide +kernel
theorem dX0_addHolder_64 : decode cX0_addHolder 64 = .ok (.iconst 1, 1) := by decide +kernel
theorem dX0_addHolder_65 : decode cX0_addHolder 65 = .ok (.iload_n 2, 1) := by decide +kernel
theorem dX0_addHolder_66 : decode cX0_addHolder 66 = .ok (.ishl, 1) := by decide +kernel
theorem dX0_addHolder_67 : decode cX0_addHolder 67 = .ok (.ior, 1) := by decide +kernel
theorem dX0_addHolder_68 : decode cX0_addHolder 68 = .ok (.iastore, 1) := by decide +kernel
theorem dX0_addHolder_69 : decode cX0_addHolder 69 = .ok (.return_, 1) := by decide +kernel
theorem dX0_addPerson_0 : decode cX0_addPerson 0 = .ok (.aload_n 0, 1) := by decide +kernel
theorem dX0_addPerson_1 : decode cX0_addPerson 1 = .ok (.getfield 51, 3) := by decide +kernel
theorem dX0_addPerson_4 : decode cX0_addPerson 4 = .ok (.aload_n 0, 1) := by decide +kernel
theorem dX0_addPerson_5 : decode cX0_addPerson 5 = .ok (.getfield 11, 3) := by decide +kernel
theorem dX0_addPerson_8 : decode cX0_addPerson 8 = .ok (.arraylength, 1) := by decide +kernel
theorem dX0_addPerson_9 : decode cX0_addPerson 9 = .ok (.if_icmp .lt 4, 3) := by decide +kernel
theorem dX0_addPerson_12 : decode cX0_addPerson 12 = .ok (.return_, 1) := by decide +kernel
theorem dX0_addPerson_13 : decode cX0_addPerson 13 = .ok (.aload_n 0, 1) := by decide +kernel
theorem dX0_addPerson_14 : decode cX0_addPerson 14 = .ok (.getfield 11, 3) := by decide +kernel
theorem dX0_addPerson_17 : decode cX0_addPerson 17 = .ok (.aload_n 0, 1) := by decide +kernel
theorem dX0_addPerson_18 : decode cX0_addPerson 18 = .ok (.getfield 51, 3) := by decide +kernel
theorem dX0_addPerson_21 : decode cX0_addPerson 21 = .ok (.aaload, 1) := by decide +kernel
theorem dX0_addPerson_22 : decode cX0_addPerson 22 = .ok (.astore_n 1, 1) := by decide +kernel
theorem dX0_addPerson_23 : decode cX0_addPerson 23 = .ok (.iconst 0, 1) := by decide +kernel
theorem dX0_addPerson_24 : decode cX0_addPerson 24 = .ok (.istore_n 2, 1) := by decide +kernel
theorem dX0_addPerson_25 : decode cX0_addPerson 25 = .ok (.iload_n 2, 1) := by decide +kernel
theorem dX0_addPerson_26 : decode cX0_addPerson 26 = .ok (.aload_n 1, 1) := by decide +kernel
theorem dX0_addPerson_27 : decode cX0_addPerson 27 = .ok (.getfield 72, 3) := by decide +kernel
theorem dX0_addPerson_30 : decode cX0_addPerson 30 = .ok (.if_icmp .ge 23, 3) := by decide +kernel
theorem dX0_addPerson_33 : decode cX0_addPerson 33 = .ok (.aload_n 0, 1) := by decide +kernel
theorem dX0_addPerson_34 : decode cX0_addPerson 34 = .ok (.aload_n 1, 1) := by decide +kernel
theorem dX0_addPerson_35 : decode cX0_addPerson 35 = .ok (.getfield 73, 3) := by decide +kernel
theorem dX0_addPerson_38 : decode cX0_addPerson 38 = .ok (.iload_n 2, 1) := by decide +kernel
theorem dX0_addPerson_39 : decode cX0_addPerson 39 = .ok (.iaload, 1) := by decide +kernel
theorem dX0_addPerson_40 : decode cX0_addPerson 40 = .ok (.aload_n 0, 1) := by decide +kernel
theorem dX0_addPerson_41 : decode cX0_addPerson 41 = .ok (.getfield 51, 3) := by decide +kernel
theorem dX0_addPerson_44 : decode cX0_addPerson 44 = .ok (.invokevirtual 74, 3) := by decide +kernel
theorem dX0_addPerson_47 : decode cX0_addPerson 47 = .ok (.iinc 2 1, 3) := by decide +kernel
theorem dX0_addPerson_50 : decode cX0_addPerson 50 = .ok (.goto (-25), 3) := by decide +kernel
theorem dX0_addPerson_53 : decode cX0_addPerson 53 = .ok (.aload_n 0, 1) := by decide +kernel
theorem dX0_addPerson_54 : decode cX0_addPerson 54 = .ok (.dup, 1) := by decide +kernel
theorem dX0_addPerson_55 : decode cX0_addPerson 55 = .ok (.getfield 51, 3) := by decide +kernel
theorem dX0_addPerson_58 : decode cX0_addPerson 58 = .ok (.iconst 1, 1) := by decide +kernel
theorem dX0_addPerson_59 : decode cX0_addPerson 59 = .ok (.iadd, 1) := by decide +kernel
theorem dX0_addPerson_60 : decode cX0_addPerson 60 = .ok (.putfield 51, 3) := by decide +kernel
theorem dX0_addPerson_63 : decode cX0_addPerson 63 = .ok (.return_, 1) := by decide +kernel
theorem dX11_greatestOf_0 : decode cX11_greatestOf 0 = .ok (.iload_n 0, 1) := by decide +kernel
theorem dX11_greatestOf_1 : decode cX11_greatestOf 1 = .ok (.ifCond .ne 9, 3) := by decide +kernel
theorem dX11_greatestOf_4 : decode cX11_greatestOf 4 = .ok (.sipush 999, 3) := by decide +kernel
theorem dX11_greatestOf_7 : decode cX11_greatestOf 7 = .ok (.goto 6, 3) := by decide +kernel
theorem dX11_greatestOf_10 : decode cX11_greatestOf 10 = .ok (.ldc_w 334, 3) := by decide +kernel
theorem dX11_greatestOf_13 : decode cX11_greatestOf 13 = .ok (.ireturn, 1) := by decide +kernel
theorem pq_194 : Cond.fieldLink RX1 7 "PayoutDesk$Dated" "of" "I" ∈ pd_gt := pd_in 209 (by decide +kernel) (by decide +kernel)
theorem pq_195 : Cond.fieldLink RX1 13 "PayoutDesk$Dated" "amount" "I" ∈ pd_gt := pd_in 212 (by decide +kernel) (by decide +kernel)
theorem pq_196 : Cond.fieldLink RX1 16 "PayoutDesk$Dated" "first" "I" ∈ pd_gt := pd_in 215 (by decide +kernel) (by decide +kernel)
theorem pq_197 : Cond.fieldLink RX1 19 "PayoutDesk$Dated" "last" "I" ∈ pd_gt := pd_in 216 (by decide +kernel) (by decide +kernel)
theorem pq_198 : Cond.fieldLink RX5 15 "PayoutDesk$Person" "name" "J" ∈ pd_gt := pd_in 145 (by decide +kernel) (by decide +kernel)
theorem pq_199 : Cond.fieldLink RX5 19 "PayoutDesk$Person" "firstLetter" "I" ∈ pd_gt := pd_in 147 (by decide +kernel) (by decide +kernel)
theorem pq_200 : Cond.fieldLink RX5 23 "PayoutDesk$Person" "markCount" "I" ∈ pd_gt := pd_in 141 (by decide +kernel) (by decide +kernel)
theorem pq_201 : Cond.fieldLink RX5 9 "PayoutDesk$Person" "marks" "[I" ∈ pd_gt := pd_in 138 (by decide +kernel) (by decide +kernel)
theorem pq_202 : Cond.fieldLink RX2 21 "PayoutDesk$Group" "name" "J" ∈ pd_gt := pd_in 179 (by decide +kernel) (by decide +kernel)
theorem pq_203 : Cond.fieldLink RX2 25 "PayoutDesk$Group" "partCount" "I" ∈ pd_gt := pd_in 175 (by decide +kernel) (by decide +kernel)
theorem pq_204 : Cond.fieldLink RX2 9 "PayoutDesk$Group" "parts" "[I" ∈ pd_gt := pd_in 169 (by decide +kernel) (by decide +kernel)
theorem pq_205 : Cond.fieldLink RX2 15 "PayoutDesk$Group" "weights" "[I" ∈ pd_gt := pd_in 171 (by decide +kernel) (by decide +kernel)
theorem pq_206 : Cond.fieldLink RX2 18 "PayoutDesk$Group" "ways" "[I" ∈ pd_gt := pd_in 173 (by decide +kernel) (by decide +kernel)
theorem pq_207 : Cond.fieldLink RX2 35 "PayoutDesk$Group" "fails" "Z" ∈ pd_gt := pd_in 185 (by decide +kernel) (by decide +kernel)
theorem pq_208 : Cond.fieldLink RX2 32 "PayoutDesk$Group" "depth" "I" ∈ pd_gt := pd_in 183 (by decide +kernel) (by decide +kernel)
theorem pq_209 : Cond.methodLink RX2 43 Lib.Math.max.name ∈ pd_gt := pd_in 1215 (by decide +kernel) (by decide +kernel)
theorem pq_210 : Cond.methodLink RX2 39 yX2_goThrough ∈ pd_gt := pd_in 1211 (by decide +kernel) (by decide +kernel)
theorem pq_211 : Cond.code yX2_goThrough cX2_goThrough 3 none ∈ pd_gt := pd_in 1214 (by decide +kernel) (by decide +kernel)
theorem pq_212 : Cond.initialized yX2_goThrough.cls ∈ pd_gt := pd_in 42 (by decide +kernel) (by decide +kernel)
theorem pq_213 : Cond.instanceMethod yX2_goThrough ∈ pd_gt := pd_in 1213 (by decide +kernel) (by decide +kernel)
theorem pq_214 : Cond.selects yX2_goThrough.cls yX2_goThrough yX2_goThrough ∈ pd_gt := pd_in 28 (by decide +kernel) (by decide +kernel)
theorem pq_215 : Cond.fieldLink RX2 29 "PayoutDesk$Group" "weightsTogether" "I" ∈ pd_gt := pd_in 182 (by decide +kernel) (by decide +kernel)
theorem pq_216 : Cond.fieldLink RX0 51 "PayoutDesk$Book" "personCount" "I" ∈ pd_gt := pd_in 253 (by decide +kernel) (by decide +kernel)
theorem pq_217 : Cond.fieldLink RX0 55 "PayoutDesk$Book" "trustCount" "I" ∈ pd_gt := pd_in 258 (by decide +kernel) (by decide +kernel)
theorem pq_218 : Cond.fieldLink RX0 58 "PayoutDesk$Book" "accountCount" "I" ∈ pd_gt := pd_in 262 (by decide +kernel) (by decide +kernel)
theorem pq_219 : Cond.fieldLink RX0 61 "PayoutDesk$Book" "highCount" "I" ∈ pd_gt := pd_in 266 (by decide +kernel) (by decide +kernel)
theorem pq_220 : Cond.fieldLink RX0 64 "PayoutDesk$Book" "loanCount" "I" ∈ pd_gt := pd_in 271 (by decide +kernel) (by decide +kernel)
theorem pq_221 : Cond.fieldLink RX0 67 "PayoutDesk$Book" "markCount" "I" ∈ pd_gt := pd_in 275 (by decide +kernel) (by decide +kernel)
theorem pq_222 : Cond.fieldLink RX0 39 "PayoutDesk$Book" "settings" "[I" ∈ pd_gt := pd_in 247 (by decide +kernel) (by decide +kernel)
theorem pq_223 : Cond.constant RX0 71 (50000 : Int32) ∈ pd_gt := pd_in 1251 (by decide +kernel) (by decide +kernel)
theorem pq_224 : Cond.constant RX0 70 (100000 : Int32) ∈ pd_gt := pd_in 1250 (by decide +kernel) (by decide +kernel)
theorem pq_225 : Cond.fieldLink RX0 42 "PayoutDesk$Book" "marks" "[I" ∈ pd_gt := pd_in 250 (by decide +kernel) (by decide +kernel)
theorem pq_226 : Cond.fieldLink RX0 23 "PayoutDesk$Book" "accounts" "[LPayoutDesk$Group;" ∈ pd_gt := pd_in 233 (by decide +kernel) (by decide +kernel)
theorem pq_227 : Cond.fieldLinkNest RX0 86 "PayoutDesk$Group" "name" "J" "PayoutDesk" ∈ pd_gt := pd_in 180 (by decide +kernel) (by decide +kernel)
theorem pq_228 : Cond.fieldLink RX0 19 "PayoutDesk$Book" "trusts" "[LPayoutDesk$Group;" ∈ pd_gt := pd_in 230 (by decide +kernel) (by decide +kernel)
theorem pq_229 : Cond.fieldLink RX0 11 "PayoutDesk$Book" "persons" "[LPayoutDesk$Person;" ∈ pd_gt := pd_in 226 (by decide +kernel) (by decide +kernel)
theorem pq_230 : Cond.fieldLinkNest RX0 82 "PayoutDesk$Person" "name" "J" "PayoutDesk" ∈ pd_gt := pd_in 146 (by decide +kernel) (by decide +kernel)
theorem pq_231 : Cond.fieldLink RX0 45 "PayoutDesk$Book" "holders" "[I" ∈ pd_gt := pd_in 251 (by decide +kernel) (by decide +kernel)
theorem pq_232 : Cond.methodLink RX0 78 yX0_indexOfMark ∈ pd_gt := pd_in 1183 (by decide +kernel) (by decide +kernel)
theorem pq_233 : Cond.code yX0_indexOfMark cX0_indexOfMark 3 (some .int) ∈ pd_gt := pd_in 1186 (by decide +kernel) (by decide +kernel)
theorem pq_234 : Cond.initialized yX0_indexOfMark.cls ∈ pd_gt := pd_in 40 (by decide +kernel) (by decide +kernel)
theorem pq_235 : Cond.instanceMethod yX0_indexOfMark ∈ pd_gt := pd_in 1184 (by decide +kernel) (by decide +kernel)
theorem pq_236 : Cond.selects yX0_indexOfMark.cls yX0_indexOfMark yX0_indexOfMark ∈ pd_gt := pd_in 1185 (by decide +kernel) (by decide +kernel)
theorem pq_237 : Cond.fieldLinkNest RX0 72 "PayoutDesk$Person" "markCount" "I" "PayoutDesk" ∈ pd_gt := pd_in 142 (by decide +kernel) (by decide +kernel)
theorem pq_238 : Cond.fieldLinkNest RX0 73 "PayoutDesk$Person" "marks" "[I" "PayoutDesk" ∈ pd_gt := pd_in 139 (by decide +kernel) (by decide +kernel)
theorem pq_239 : Cond.methodLink RX0 74 yX0_addHolder ∈ pd_gt := pd_in 1179 (by decide +kernel) (by decide +kernel)
theorem pq_240 : Cond.code yX0_addHolder cX0_addHolder 4 none ∈ pd_gt := pd_in 1182 (by decide +kernel) (by decide +kernel)
theorem pq_241 : Cond.initialized yX0_addHolder.cls ∈ pd_gt := pd_in 40 (by decide +kernel) (by decide +kernel)
theorem pq_242 : Cond.instanceMethod yX0_addHolder ∈ pd_gt := pd_in 1181 (by decide +kernel) (by decide +kernel)
theorem pq_243 : Cond.selects yX0_addHolder.cls yX0_addHolder yX0_addHolder ∈ pd_gt := pd_in 25 (by decide +kernel) (by decide +kernel)
theorem pq_244 : Cond.constant RX11 334 (9999999 : Int32) ∈ pd_gt := pd_in 672 (by decide +kernel) (by decide +kernel)
def pfX1_setTo (sh : pd_S) (n : Nat) (F : pd_F) (x0 : Int) (x1 : Int) (x2 : Int) (x3 : Int) (x4 : Int) : Option pd_F :=
  pd_i (pd_ob sh 1 x0 = true) <|
  pd_l (pd_up F x0 0 x1) fun F2 =>
  pd_l (pd_up F2 x0 1 x2) fun F3 =>
  pd_l (pd_up F3 x0 2 x3) fun F4 =>
  pd_l (pd_up F4 x0 3 x4) fun F5 =>
  some F5
def pfX1_countsOn (sh : pd_S) (n : Nat) (F : pd_F) (x0 : Int) (x1 : Int) : Option (Int × pd_F) :=
  pd_i (pd_ob sh 1 x0 = true) <|
  if (F x0 2) > x1 then
    some (0, F)
  else
    if x1 > (F x0 3) then
      some (0, F)
    else
      some (1, F)
def pfX5_begin (sh : pd_S) (n : Nat) (F : pd_F) (x0 : Int) (x1 : Int) (x3 : Int) : Option pd_F :=
  pd_i (pd_ob sh 5 x0 = true) <|
  pd_l (pd_up F x0 2 x1) fun F2 =>
  pd_l (pd_up F2 x0 3 x3) fun F3 =>
  pd_l (pd_up F3 x0 1 0) fun F4 =>
  some F4
def pfX5_hasMark_b2 (sh : pd_S) (n : Nat)  : Nat → pd_F → Int → Int → Int → Option (Int × pd_F)
  | 0, _, _, _, _ => none
  | k + 1, F, x0, x1, x2 =>
    pd_i (pd_ob sh 5 x0 = true) <|
    if x2 ≥ (F x0 1) then
      some (0, F)
    else
      pd_i (pd_ib sh 0 0 (F x0 0) x2 = true) <|
      if (F (F x0 0) x2) ≠ x1 then
        pd_l (pd_w (x2 + 1)) fun x2_22 =>
        pfX5_hasMark_b2 sh n k F x0 x1 x2_22
      else
        some (1, F)
def pfX5_hasMark (sh : pd_S) (n : Nat) (F : pd_F) (x0 : Int) (x1 : Int) : Option (Int × pd_F) :=
  pfX5_hasMark_b2 sh n n F x0 x1 0
def pfX5_addMark (sh : pd_S) (n : Nat) (F : pd_F) (x0 : Int) (x1 : Int) : Option pd_F :=
  pd_i (pd_ob sh 5 x0 = true) <|
  pd_i (0 ≤ pd_ln sh 0 0 (F x0 0)) <|
  if (F x0 1) ≥ (pd_ln sh 0 0 (F x0 0)) then
    some F
  else
    pd_i (pd_ib sh 0 0 (F x0 0) (F x0 1) = true) <|
    pd_l (pd_up F (F x0 0) (F x0 1) x1) fun F4 =>
    pd_l (pd_up F4 x0 1 (pd_w ((F4 x0 1) + 1))) fun F5 =>
    some F5
def pfX2_begin (sh : pd_S) (n : Nat) (F : pd_F) (x0 : Int) (x1 : Int) : Option pd_F :=
  pd_i (pd_ob sh 2 x0 = true) <|
  pd_l (pd_up F x0 4 x1) fun F2 =>
  pd_l (pd_up F2 x0 3 0) fun F3 =>
  some F3
def pfX2_hasPart_b2 (sh : pd_S) (n : Nat)  : Nat → pd_F → Int → Int → Int → Option (Int × pd_F)
  | 0, _, _, _, _ => none
  | k + 1, F, x0, x1, x2 =>
    pd_i (pd_ob sh 2 x0 = true) <|
    if x2 ≥ (F x0 3) then
      some (0, F)
    else
      pd_i (pd_ib sh 0 0 (F x0 0) x2 = true) <|
      if (F (F x0 0) x2) ≠ x1 then
        pd_l (pd_w (x2 + 1)) fun x2_22 =>
        pfX2_hasPart_b2 sh n k F x0 x1 x2_22
      else
        some (1, F)
def pfX2_hasPart (sh : pd_S) (n : Nat) (F : pd_F) (x0 : Int) (x1 : Int) : Option (Int × pd_F) :=
  pfX2_hasPart_b2 sh n n F x0 x1 0
def pfX2_addPart (sh : pd_S) (n : Nat) (F : pd_F) (x0 : Int) (x1 : Int) (x2 : Int) : Option pd_F :=
  pd_i (pd_ob sh 2 x0 = true) <|
  pd_i (0 ≤ pd_ln sh 0 0 (F x0 0)) <|
  if (F x0 3) ≥ (pd_ln sh 0 0 (F x0 0)) then
    some F
  else
    pd_i (pd_ib sh 0 0 (F x0 0) (F x0 3) = true) <|
    pd_l (pd_up F (F x0 0) (F x0 3) x1) fun F4 =>
    pd_i (pd_ib sh 0 0 (F4 x0 1) (F4 x0 3) = true) <|
    pd_l (pd_up F4 (F4 x0 1) (F4 x0 3) x2) fun F6 =>
    pd_l (pd_up F6 x0 3 (pd_w ((F6 x0 3) + 1))) fun F7 =>
    some F7
def pfX2_goThrough_b42 (sh : pd_S) (n : Nat)  : Nat → pd_F → Int → Int → Int → Option pd_F
  | 0, _, _, _, _ => none
  | k + 1, F, x0, x1, x2 =>
    pd_i (pd_ob sh 2 x0 = true) <|
    pd_i (0 ≤ pd_ln sh 0 0 (F x0 2)) <|
    if x2 ≥ (pd_ln sh 0 0 (F x0 2)) then
      some F
    else
      pd_i (pd_ib sh 0 0 (F x0 2) x2 = true) <|
      pd_i (pd_ob sh 2 x1 = true) <|
      pd_i (pd_ib sh 0 0 (F x1 2) x2 = true) <|
      pd_l (pd_up F (F x0 2) x2 (pd_w ((F (F x0 2) x2) + (F (F x1 2) x2)))) fun F6 =>
      pd_l (pd_w (x2 + 1)) fun x2_66 =>
      pfX2_goThrough_b42 sh n k F6 x0 x1 x2_66
def pfX2_goThrough_b37 (sh : pd_S) (n : Nat)  (F : pd_F) (x0 : Int) (x1 : Int) (t0 : Int) (t1 : Int) : Option pd_F :=
  pd_i (pd_ob sh 2 t1 = true) <|
  pd_i (t0 = 0 ∨ t0 = 1) <|
  pd_l (pd_up F t1 7 t0) fun F9 =>
  pfX2_goThrough_b42 sh n n F9 x0 x1 0
def pfX2_goThrough_b32 (sh : pd_S) (n : Nat)  (F : pd_F) (x0 : Int) (x1 : Int) (t0 : Int) : Option pd_F :=
  pfX2_goThrough_b37 sh n F x0 x1 1 t0
def pfX2_goThrough (sh : pd_S) (n : Nat) (F : pd_F) (x0 : Int) (x1 : Int) : Option pd_F :=
  pd_i (pd_ob sh 2 x0 = true) <|
  pd_i (pd_ob sh 2 x1 = true) <|
  pd_l (pd_up F x0 6 (max (F x0 6) (pd_w ((F x1 6) + 1)))) fun F12 =>
  if (F12 x0 7) ≠ 0 then
    pfX2_goThrough_b32 sh n F12 x0 x1 x0
  else
    if (F12 x1 7) = 0 then
      pfX2_goThrough_b37 sh n F12 x0 x1 0 x0
    else
      pfX2_goThrough_b32 sh n F12 x0 x1 x0
def pfX2_personsReached_b25 (sh : pd_S) (n : Nat) (c4 : pd_F → Int → Int → Int → Option (Int × pd_F)) (F : pd_F) (x0 : Int) (x1 : Int) (x2 : Int) : Option (Int × pd_F) :=
  pd_l (pd_w (x2 + 1)) fun x2_25 =>
  c4 F x0 x1 x2_25
def pfX2_personsReached_b4 (sh : pd_S) (n : Nat)  : Nat → pd_F → Int → Int → Int → Option (Int × pd_F)
  | 0, _, _, _, _ => none
  | k + 1, F, x0, x1, x2 =>
    pd_i (pd_ob sh 2 x0 = true) <|
    pd_i (0 ≤ pd_ln sh 0 0 (F x0 2)) <|
    if x2 ≥ (pd_ln sh 0 0 (F x0 2)) then
      some (x1, F)
    else
      pd_i (pd_ib sh 0 0 (F x0 2) x2 = true) <|
      if (F (F x0 2) x2) ≤ 0 then
        pfX2_personsReached_b25 sh n (pfX2_personsReached_b4 sh n k) F x0 x1 x2
      else
        pd_l (pd_w (x1 + 1)) fun x1_22 =>
        pfX2_personsReached_b25 sh n (pfX2_personsReached_b4 sh n k) F x0 x1_22 x2
def pfX2_personsReached (sh : pd_S) (n : Nat) (F : pd_F) (x0 : Int) : Option (Int × pd_F) :=
  pfX2_personsReached_b4 sh n n F x0 0 0
def pfX2_settle_b122 (sh : pd_S) (n : Nat) (c41 : pd_F → Int → Int → Int → Option pd_F) (F : pd_F) (x0 : Int) (x1 : Int) (x2 : Int) : Option pd_F :=
  pd_l (pd_w (x2 + 1)) fun x2_122 =>
  c41 F x0 x1 x2_122
def pfX2_settle_b97 (sh : pd_S) (n : Nat) (c41 : pd_F → Int → Int → Int → Option pd_F) (F : pd_F) (x0 : Int) (x1 : Int) (x2 : Int) (x3 : Int) : Option pd_F :=
  if x3 < 12 then
    pfX2_settle_b122 sh n c41 F x0 x1 x2
  else
    pd_i (0 ≤ pd_ln sh 2 2 x1) <|
    if (pd_w (x3 - 12)) ≥ (pd_ln sh 2 2 x1) then
      pfX2_settle_b122 sh n c41 F x0 x1 x2
    else
      pd_i (pd_ib sh 2 2 x1 (pd_w (x3 - 12)) = true) <|
      pd_i (pd_ob sh 2 x0 = true) <|
      Option.bind (pfX2_goThrough sh n F x0 (F x1 (pd_w (x3 - 12)))) fun F3 =>
      pfX2_settle_b122 sh n c41 F3 x0 x1 x2
def pfX2_settle_b128 (sh : pd_S) (n : Nat)  (F : pd_F) (x0 : Int) : Option pd_F :=
  pd_i (pd_ob sh 2 x0 = true) <|
  if (F x0 5) ≠ 0 then
    some F
  else
    pd_l (pd_up F x0 7 1) fun F6 =>
    some F6
def pfX2_settle_b41 (sh : pd_S) (n : Nat)  : Nat → pd_F → Int → Int → Int → Option pd_F
  | 0, _, _, _, _ => none
  | k + 1, F, x0, x1, x2 =>
    pd_i (pd_ob sh 2 x0 = true) <|
    if x2 ≥ (F x0 3) then
      pfX2_settle_b128 sh n F x0
    else
      pd_i (pd_ib sh 0 0 (F x0 1) x2 = true) <|
      pd_l (pd_up F x0 5 (pd_w ((F x0 5) + (F (F x0 1) x2)))) fun F9 =>
      pd_i (pd_ib sh 0 0 (F9 x0 0) x2 = true) <|
      pd_l (F9 (F9 x0 0) x2) fun x3_70 =>
      if x3_70 < 0 then
        pfX2_settle_b97 sh n (pfX2_settle_b41 sh n k) F9 x0 x1 x2 x3_70
      else
        pd_i (0 ≤ pd_ln sh 0 0 (F9 x0 2)) <|
        if x3_70 ≥ (pd_ln sh 0 0 (F9 x0 2)) then
          pfX2_settle_b97 sh n (pfX2_settle_b41 sh n k) F9 x0 x1 x2 x3_70
        else
          pd_i (pd_ib sh 0 0 (F9 x0 2) x3_70 = true) <|
          pd_l (pd_up F9 (F9 x0 2) x3_70 (pd_w ((F9 (F9 x0 2) x3_70) + 1))) fun F13 =>
          pfX2_settle_b122 sh n (pfX2_settle_b41 sh n k) F13 x0 x1 x2
def pfX2_settle_b39 (sh : pd_S) (n : Nat)  (F : pd_F) (x0 : Int) (x1 : Int) : Option pd_F :=
  pfX2_settle_b41 sh n n F x0 x1 0
def pfX2_settle_b17 (sh : pd_S) (n : Nat)  : Nat → pd_F → Int → Int → Int → Option pd_F
  | 0, _, _, _, _ => none
  | k + 1, F, x0, x1, x2 =>
    pd_i (pd_ob sh 2 x0 = true) <|
    pd_i (0 ≤ pd_ln sh 0 0 (F x0 2)) <|
    if x2 ≥ (pd_ln sh 0 0 (F x0 2)) then
      pfX2_settle_b39 sh n F x0 x1
    else
      pd_i (pd_ib sh 0 0 (F x0 2) x2 = true) <|
      pd_l (pd_up F (F x0 2) x2 0) fun F17 =>
      pd_l (pd_w (x2 + 1)) fun x2_33 =>
      pfX2_settle_b17 sh n k F17 x0 x1 x2_33
def pfX2_settle (sh : pd_S) (n : Nat) (F : pd_F) (x0 : Int) (x1 : Int) : Option pd_F :=
  pd_i (pd_ob sh 2 x0 = true) <|
  pd_l (pd_up F x0 5 0) fun F19 =>
  pd_l (pd_up F19 x0 6 1) fun F20 =>
  pd_l (pd_up F20 x0 7 0) fun F21 =>
  pfX2_settle_b17 sh n n F21 x0 x1 0
def pfX0_clear (sh : pd_S) (n : Nat) (F : pd_F) (x0 : Int) : Option pd_F :=
  pd_i (pd_ob sh 0 x0 = true) <|
  pd_l (pd_up F x0 9 0) fun F2 =>
  pd_l (pd_up F2 x0 10 0) fun F3 =>
  pd_l (pd_up F3 x0 11 0) fun F4 =>
  pd_l (pd_up F4 x0 12 0) fun F5 =>
  pd_l (pd_up F5 x0 13 0) fun F6 =>
  pd_l (pd_up F6 x0 14 0) fun F7 =>
  pd_i (pd_ib sh 0 0 (F7 x0 6) 0 = true) <|
  pd_l (pd_up F7 (F7 x0 6) 0 (-1)) fun F9 =>
  pd_i (pd_ib sh 0 0 (F9 x0 6) 1 = true) <|
  pd_l (pd_up F9 (F9 x0 6) 1 (-1)) fun F11 =>
  pd_i (pd_ib sh 0 0 (F11 x0 6) 2 = true) <|
  pd_l (pd_up F11 (F11 x0 6) 2 (-1)) fun F13 =>
  some F13
def pfX0_settleUntold_b35 (sh : pd_S) (n : Nat)  (F : pd_F) (x0 : Int) : Option pd_F :=
  pd_i (pd_ob sh 0 x0 = true) <|
  pd_i (pd_ib sh 0 0 (F x0 6) 2 = true) <|
  if (F (F x0 6) 2) ≠ (-1) then
    some F
  else
    pd_l (pd_up F (F x0 6) 2 50000) fun F3 =>
    some F3
def pfX0_settleUntold_b17 (sh : pd_S) (n : Nat)  (F : pd_F) (x0 : Int) : Option pd_F :=
  pd_i (pd_ob sh 0 x0 = true) <|
  pd_i (pd_ib sh 0 0 (F x0 6) 1 = true) <|
  if (F (F x0 6) 1) ≠ (-1) then
    pfX0_settleUntold_b35 sh n F x0
  else
    pd_l (pd_up F (F x0 6) 1 100000) fun F6 =>
    pfX0_settleUntold_b35 sh n F6 x0
def pfX0_settleUntold (sh : pd_S) (n : Nat) (F : pd_F) (x0 : Int) : Option pd_F :=
  pd_i (pd_ob sh 0 x0 = true) <|
  pd_i (pd_ib sh 0 0 (F x0 6) 0 = true) <|
  if (F (F x0 6) 0) ≠ (-1) then
    pfX0_settleUntold_b17 sh n F x0
  else
    pd_l (pd_up F (F x0 6) 0 0) fun F9 =>
    pfX0_settleUntold_b17 sh n F9 x0
def pfX0_indexOfMark_b2 (sh : pd_S) (n : Nat)  : Nat → pd_F → Int → Int → Int → Option (Int × pd_F)
  | 0, _, _, _, _ => none
  | k + 1, F, x0, x1, x2 =>
    pd_i (pd_ob sh 0 x0 = true) <|
    if x2 ≥ (F x0 14) then
      some ((-1), F)
    else
      pd_i (pd_ib sh 0 0 (F x0 7) x2 = true) <|
      if (F (F x0 7) x2) ≠ x1 then
        pd_l (pd_w (x2 + 1)) fun x2_22 =>
        pfX0_indexOfMark_b2 sh n k F x0 x1 x2_22
      else
        some (x2, F)
def pfX0_indexOfMark (sh : pd_S) (n : Nat) (F : pd_F) (x0 : Int) (x1 : Int) : Option (Int × pd_F) :=
  pfX0_indexOfMark_b2 sh n n F x0 x1 0
def pfX0_find_b69 (sh : pd_S) (n : Nat)  : Nat → pd_F → Int → Int → Int → Option (Int × pd_F)
  | 0, _, _, _, _ => none
  | k + 1, F, x0, x1, x3 =>
    pd_i (pd_ob sh 0 x0 = true) <|
    if x3 ≥ (F x0 11) then
      some ((-1), F)
    else
      pd_i (pd_ib sh 2 2 (F x0 2) x3 = true) <|
      pd_i (pd_ob sh 2 (F (F x0 2) x3) = true) <|
      if (F (F (F x0 2) x3) 4) ≠ x1 then
        pd_l (pd_w (x3 + 1)) fun x3_96 =>
        pfX0_find_b69 sh n k F x0 x1 x3_96
      else
        some (pd_w (17 + x3), F)
def pfX0_find_b67 (sh : pd_S) (n : Nat)  (F : pd_F) (x0 : Int) (x1 : Int) : Option (Int × pd_F) :=
  pfX0_find_b69 sh n n F x0 x1 0
def pfX0_find_b34 (sh : pd_S) (n : Nat)  : Nat → pd_F → Int → Int → Int → Option (Int × pd_F)
  | 0, _, _, _, _ => none
  | k + 1, F, x0, x1, x3 =>
    pd_i (pd_ob sh 0 x0 = true) <|
    if x3 ≥ (F x0 10) then
      pfX0_find_b67 sh n F x0 x1
    else
      pd_i (pd_ib sh 2 2 (F x0 1) x3 = true) <|
      pd_i (pd_ob sh 2 (F (F x0 1) x3) = true) <|
      if (F (F (F x0 1) x3) 4) ≠ x1 then
        pd_l (pd_w (x3 + 1)) fun x3_61 =>
        pfX0_find_b34 sh n k F x0 x1 x3_61
      else
        some (pd_w (12 + x3), F)
def pfX0_find_b32 (sh : pd_S) (n : Nat)  (F : pd_F) (x0 : Int) (x1 : Int) : Option (Int × pd_F) :=
  pfX0_find_b34 sh n n F x0 x1 0
def pfX0_find_b2 (sh : pd_S) (n : Nat)  : Nat → pd_F → Int → Int → Int → Option (Int × pd_F)
  | 0, _, _, _, _ => none
  | k + 1, F, x0, x1, x3 =>
    pd_i (pd_ob sh 0 x0 = true) <|
    if x3 ≥ (F x0 9) then
      pfX0_find_b32 sh n F x0 x1
    else
      pd_i (pd_ib sh 2 5 (F x0 0) x3 = true) <|
      pd_i (pd_ob sh 5 (F (F x0 0) x3) = true) <|
      if (F (F (F x0 0) x3) 2) ≠ x1 then
        pd_l (pd_w (x3 + 1)) fun x3_26 =>
        pfX0_find_b2 sh n k F x0 x1 x3_26
      else
        some (x3, F)
def pfX0_find (sh : pd_S) (n : Nat) (F : pd_F) (x0 : Int) (x1 : Int) : Option (Int × pd_F) :=
  pfX0_find_b2 sh n n F x0 x1 0
def pfX0_addHolder_b52 (sh : pd_S) (n : Nat)  (F : pd_F) (x0 : Int) (x2 : Int) (x3 : Int) : Option pd_F :=
  if x3 = (-1) then
    some F
  else
    pd_i (pd_ob sh 0 x0 = true) <|
    pd_i (pd_ib sh 0 0 (F x0 8) x3 = true) <|
    pd_l (pd_up F (F x0 8) x3 (pd_or (F (F x0 8) x3) (pd_shl 1 x2))) fun F3 =>
    some F3
def pfX0_addHolder (sh : pd_S) (n : Nat) (F : pd_F) (x0 : Int) (x1 : Int) (x2 : Int) : Option pd_F :=
  pd_i (pd_ob sh 0 x0 = true) <|
  Option.bind (pfX0_indexOfMark sh n F x0 x1) fun qr6 => pd_l qr6.1 fun r6 => pd_l qr6.2 fun F4 =>
  if r6 ≠ (-1) then
    pfX0_addHolder_b52 sh n F4 x0 x2 r6
  else
    pd_i (0 ≤ pd_ln sh 0 0 (F4 x0 7)) <|
    if (F4 x0 14) ≥ (pd_ln sh 0 0 (F4 x0 7)) then
      pfX0_addHolder_b52 sh n F4 x0 x2 r6
    else
      pd_l (F4 x0 14) fun x3_27 =>
      pd_i (pd_ib sh 0 0 (F4 x0 7) x3_27 = true) <|
      pd_l (pd_up F4 (F4 x0 7) x3_27 x1) fun F9 =>
      pd_i (pd_ib sh 0 0 (F9 x0 8) x3_27 = true) <|
      pd_l (pd_up F9 (F9 x0 8) x3_27 0) fun F11 =>
      pd_l (pd_up F11 x0 14 (pd_w ((F11 x0 14) + 1))) fun F12 =>
      pfX0_addHolder_b52 sh n F12 x0 x2 x3_27
def pfX0_addPerson_b53 (sh : pd_S) (n : Nat)  (F : pd_F) (x0 : Int) : Option pd_F :=
  pd_i (pd_ob sh 0 x0 = true) <|
  pd_l (pd_up F x0 9 (pd_w ((F x0 9) + 1))) fun F2 =>
  some F2
def pfX0_addPerson_b25 (sh : pd_S) (n : Nat)  : Nat → pd_F → Int → Int → Int → Option pd_F
  | 0, _, _, _, _ => none
  | k + 1, F, x0, x1, x2 =>
    pd_i (pd_ob sh 5 x1 = true) <|
    if x2 ≥ (F x1 1) then
      pfX0_addPerson_b53 sh n F x0
    else
      pd_i (pd_ib sh 0 0 (F x1 0) x2 = true) <|
      pd_i (pd_ob sh 0 x0 = true) <|
      Option.bind (pfX0_addHolder sh n F x0 (F (F x1 0) x2) (F x0 9)) fun F6 =>
      pd_l (pd_w (x2 + 1)) fun x2_47 =>
      pfX0_addPerson_b25 sh n k F6 x0 x1 x2_47
def pfX0_addPerson (sh : pd_S) (n : Nat) (F : pd_F) (x0 : Int) : Option pd_F :=
  pd_i (pd_ob sh 0 x0 = true) <|
  pd_i (0 ≤ pd_ln sh 2 5 (F x0 0)) <|
  if (F x0 9) < (pd_ln sh 2 5 (F x0 0)) then
    pd_i (pd_ib sh 2 5 (F x0 0) (F x0 9) = true) <|
    pd_l (F (F x0 0) (F x0 9)) fun x1_22 =>
    pd_i (x1_22 ≠ 0) <|
    pfX0_addPerson_b25 sh n n F x0 x1_22 0
  else
    some F
def pfX11_greatestOf (sh : pd_S) (n : Nat) (F : pd_F) (x0 : Int) : Option (Int × pd_F) :=
  if x0 ≠ 0 then
    some (9999999, F)
  else
    some (999, F)
set_option maxHeartbeats 4000000 in
set_option maxRecDepth 100000 in
theorem pkX1_setTo (l : Launch) {al : Bool} {sh : pd_S} {n : Nat} {F : pd_F} {x0 : Int} {x1 : Int} {x2 : Int} {x3 : Int} {x4 : Int} {Fz : pd_F} (hf : pfX1_setTo sh n F x0 x1 x2 x3 x4 = some Fz) : pd_C l yX1_setTo (Cond.code yX1_setTo cX1_setTo 5 none :: pd_gt) (pd_rm 1 0 0) al 0 0 sh F [pd_R x0, pd_I x1, pd_I x2, pd_I x3, pd_I x4] none sh Fz := by
  unfold pfX1_setTo at hf
  refine pd_body (L := [pd_R x0, pd_I x1, pd_I x2, pd_I x3, pd_I x4]) (by decide +kernel) (Nat.le_of_ble_eq_true rfl) rfl (fun E => ?_)
  refine pd_aload_n (i := 0) dX1_setTo_0 rfl rfl ?_
  refine pd_iload_n (i := 1) dX1_setTo_1 rfl rfl ?_
  obtain ⟨hg1, hf⟩ := pd_ig hf
  refine pd_put (n := x1) (x := pd_I x1) 0 dX1_setTo_2 (show vwCl[1]? = some (RX1, TX1, 4) from rfl) pin_1 tyX1_ok nmX1 (by decide) pq_194 rfl hg1 rfl pd_nrI pd_ftI ?_
  refine pd_topF (fun F2 eF2 => ?_)
  have hf := pd_lt hf eF2
  clear eF2
  refine pd_aload_n (i := 0) dX1_setTo_5 rfl rfl ?_
  refine pd_iload_n (i := 2) dX1_setTo_6 rfl rfl ?_
  refine pd_put (n := x2) (x := pd_I x2) 1 dX1_setTo_7 (show vwCl[1]? = some (RX1, TX1, 4) from rfl) pin_1 tyX1_ok nmX1 (by decide) pq_195 rfl hg1 rfl pd_nrI pd_ftI ?_
  refine pd_topF (fun F3 eF3 => ?_)
  have hf := pd_lt hf eF3
  clear eF3
  refine pd_aload_n (i := 0) dX1_setTo_10 rfl rfl ?_
  refine pd_iload_n (i := 3) dX1_setTo_11 rfl rfl ?_
  refine pd_put (n := x3) (x := pd_I x3) 2 dX1_setTo_12 (show vwCl[1]? = some (RX1, TX1, 4) from rfl) pin_1 tyX1_ok nmX1 (by decide) pq_196 rfl hg1 rfl pd_nrI pd_ftI ?_
  refine pd_topF (fun F4 eF4 => ?_)
  have hf := pd_lt hf eF4
  clear eF4
  refine pd_aload_n (i := 0) dX1_setTo_15 rfl rfl ?_
  refine pd_iload (i := 4) dX1_setTo_16 rfl ?_
  refine pd_put (n := x4) (x := pd_I x4) 3 dX1_setTo_18 (show vwCl[1]? = some (RX1, TX1, 4) from rfl) pin_1 tyX1_ok nmX1 (by decide) pq_197 rfl hg1 rfl pd_nrI pd_ftI ?_
  refine pd_topF (fun F5 eF5 => ?_)
  have hf := pd_lt hf eF5
  clear eF5
  obtain h2 := pd_inj1 hf
  subst h2
  exact pd_vret dX1_setTo_21 rfl (Nat.le_refl 0) (Nat.le_refl 0)
set_option maxHeartbeats 4000000 in
set_option maxRecDepth 100000 in
theorem pkX1_countsOn (l : Launch) {al : Bool} {sh : pd_S} {n : Nat} {F : pd_F} {x0 : Int} {x1 : Int} {ρ : Int} {Fz : pd_F} (hf : pfX1_countsOn sh n F x0 x1 = some (ρ, Fz)) : pd_C l yX1_countsOn (Cond.code yX1_countsOn cX1_countsOn 2 (some .boolean) :: pd_gt) (pd_rm 1 0 0) al 0 0 sh F [pd_R x0, pd_I x1] (some (pd_I ρ)) sh Fz := by
  unfold pfX1_countsOn at hf
  refine pd_body (L := [pd_R x0, pd_I x1]) (by decide +kernel) (Nat.le_of_ble_eq_true rfl) rfl (fun E => ?_)
  refine pd_aload_n (i := 0) dX1_countsOn_0 rfl rfl ?_
  obtain ⟨hg1, hf⟩ := pd_ig hf
  refine pd_get (x := pd_I (F x0 2)) 2 dX1_countsOn_1 (show vwCl[1]? = some (RX1, TX1, 4) from rfl) pin_1 (by decide) pq_196 hg1 rfl ?_
  refine pd_iload_n (i := 1) dX1_countsOn_4 rfl rfl ?_
  refine pd_icmp_gt (tgt := 20) dX1_countsOn_5 (by decide) (fun hc => ?_) (fun hc => ?_)
  · have hf := pd_ip hf hc
    refine pd_iconst dX1_countsOn_20 (by decide) ?_
    obtain ⟨h1, h2⟩ := pd_inj hf
    subst h1 h2
    exact pd_zret dX1_countsOn_21 rfl (by decide) (Nat.le_refl 0) (Nat.le_refl 0)
  · have hf := pd_in_ hf hc
    refine pd_iload_n (i := 1) dX1_countsOn_8 rfl rfl ?_
    refine pd_aload_n (i := 0) dX1_countsOn_9 rfl rfl ?_
    refine pd_get (x := pd_I (F x0 3)) 3 dX1_countsOn_10 (show vwCl[1]? = some (RX1, TX1, 4) from rfl) pin_1 (by decide) pq_197 hg1 rfl ?_
    refine pd_icmp_gt (tgt := 20) dX1_countsOn_13 (by decide) (fun hc => ?_) (fun hc => ?_)
    · have hf := pd_ip hf hc
      refine pd_iconst dX1_countsOn_20 (by decide) ?_
      obtain ⟨h1, h2⟩ := pd_inj hf
      subst h1 h2
      exact pd_zret dX1_countsOn_21 rfl (by decide) (Nat.le_refl 0) (Nat.le_refl 0)
    · have hf := pd_in_ hf hc
      refine pd_iconst dX1_countsOn_16 (by decide) ?_
      refine pd_goto (tgt := 21) dX1_countsOn_17 (by decide) ?_
      obtain ⟨h1, h2⟩ := pd_inj hf
      subst h1 h2
      exact pd_zret dX1_countsOn_21 rfl (by decide) (Nat.le_refl 0) (Nat.le_refl 0)
set_option maxHeartbeats 4000000 in
set_option maxRecDepth 100000 in
theorem pkX5_begin (l : Launch) {al : Bool} {sh : pd_S} {n : Nat} {F : pd_F} {x0 : Int} {x1 : Int} {x3 : Int} {Fz : pd_F} (hf : pfX5_begin sh n F x0 x1 x3 = some Fz) : pd_C l yX5_begin (Cond.code yX5_begin cX5_begin 4 none :: pd_gt) (pd_rm 1 0 0) al 0 0 sh F [pd_R x0, pd_J x1, pd_I x3] none sh Fz := by
  unfold pfX5_begin at hf
  refine pd_body (L := [pd_R x0, pd_J x1, pd_N, pd_I x3]) (by decide +kernel) (Nat.le_of_ble_eq_true rfl) rfl (fun E => ?_)
  refine pd_aload_n (i := 0) dX5_begin_0 rfl rfl ?_
  refine pd_lload_n (i := 1) dX5_begin_1 rfl rfl ?_
  obtain ⟨hg1, hf⟩ := pd_ig hf
  refine pd_put (n := x1) (x := pd_J x1) 2 dX5_begin_2 (show vwCl[5]? = some (RX5, TX5, 5) from rfl) pin_5 tyX5_ok nmX5 (by decide) pq_198 rfl hg1 rfl pd_nrJ pd_ftJ ?_
  refine pd_topF (fun F2 eF2 => ?_)
  have hf := pd_lt hf eF2
  clear eF2
  refine pd_aload_n (i := 0) dX5_begin_5 rfl rfl ?_
  refine pd_iload_n (i := 3) dX5_begin_6 rfl rfl ?_
  refine pd_put (n := x3) (x := pd_I x3) 3 dX5_begin_7 (show vwCl[5]? = some (RX5, TX5, 5) from rfl) pin_5 tyX5_ok nmX5 (by decide) pq_199 rfl hg1 rfl pd_nrI pd_ftI ?_
  refine pd_topF (fun F3 eF3 => ?_)
  have hf := pd_lt hf eF3
  clear eF3
  refine pd_aload_n (i := 0) dX5_begin_10 rfl rfl ?_
  refine pd_iconst dX5_begin_11 (by decide) ?_
  refine pd_put (n := 0) (x := pd_I 0) 1 dX5_begin_12 (show vwCl[5]? = some (RX5, TX5, 5) from rfl) pin_5 tyX5_ok nmX5 (by decide) pq_200 rfl hg1 rfl pd_nrI pd_ftI ?_
  refine pd_topF (fun F4 eF4 => ?_)
  have hf := pd_lt hf eF4
  clear eF4
  obtain h2 := pd_inj1 hf
  subst h2
  exact pd_vret dX5_begin_15 rfl (Nat.le_refl 0) (Nat.le_refl 0)
set_option maxHeartbeats 4000000 in
set_option maxRecDepth 100000 in
theorem pkX5_hasMark_b2 (E : pd_E) (l : Launch) {al : Bool} {sh : pd_S} {n : Nat} {ρ : Int} {Fz : pd_F}  : ∀ (k : Nat) (F : pd_F) (x0 : Int) (x1 : Int) (x2 : Int), pfX5_hasMark_b2 sh n  k F x0 x1 x2 = some (ρ, Fz) → pd_V E l (pd_rm 1 0 0) (RX5, cX5_hasMark, 3, (some .boolean), "hasMark") (pd_Qm E al (some (pd_I ρ)) sh Fz 0 0) al 0 0 sh F 2 [pd_R x0, pd_I x1, pd_I x2] [] := by
  intro k
  induction k with
  | zero => intro F x0 x1 x2 hf; exact absurd hf (by unfold pfX5_hasMark_b2; exact fun h => nomatch h)
  | succ k ih =>
    intro F x0 x1 x2 hf
    unfold pfX5_hasMark_b2 at hf
    refine pd_iload_n (i := 2) dX5_hasMark_2 rfl rfl ?_
    refine pd_aload_n (i := 0) dX5_hasMark_3 rfl rfl ?_
    obtain ⟨hg1, hf⟩ := pd_ig hf
    refine pd_get (x := pd_I (F x0 1)) 1 dX5_hasMark_4 (show vwCl[5]? = some (RX5, TX5, 5) from rfl) pin_5 (by decide) pq_200 hg1 rfl ?_
    refine pd_icmp_ge (tgt := 28) dX5_hasMark_7 (by decide) (fun hc => ?_) (fun hc => ?_)
    · have hf := pd_ip hf hc
      refine pd_iconst dX5_hasMark_28 (by decide) ?_
      obtain ⟨h1, h2⟩ := pd_inj hf
      subst h1 h2
      exact pd_zret dX5_hasMark_29 rfl (by decide) (Nat.le_refl 0) (Nat.le_refl 0)
    · have hf := pd_in_ hf hc
      refine pd_aload_n (i := 0) dX5_hasMark_10 rfl rfl ?_
      refine pd_get (x := pd_R (F x0 0)) 0 dX5_hasMark_11 (show vwCl[5]? = some (RX5, TX5, 5) from rfl) pin_5 (by decide) pq_201 hg1 rfl ?_
      refine pd_iload_n (i := 2) dX5_hasMark_14 rfl rfl ?_
      obtain ⟨hg2, hf⟩ := pd_ig hf
      refine pd_iald dX5_hasMark_15 hg2 ?_
      refine pd_iload_n (i := 1) dX5_hasMark_16 rfl rfl ?_
      refine pd_icmp_ne (tgt := 22) dX5_hasMark_17 (by decide) (fun hc => ?_) (fun hc => ?_)
      · have hf := pd_ip hf hc
        refine pd_iincN (L' := fun y => [pd_R x0, pd_I x1, pd_I y]) dX5_hasMark_22 rfl (by decide) (by decide) (fun _ => rfl) (fun x2_22 ex2_22 => ?_)
        have hf := pd_lt hf ex2_22
        clear ex2_22
        refine pd_goto (tgt := 2) dX5_hasMark_25 (by decide) ?_
        exact pd_weak (L' := [pd_R x0, pd_I x1, pd_I x2_22]) ⟨Or.inr rfl, Or.inr rfl, Or.inr rfl, trivial⟩ (ih _ _ _ _ hf)
      · have hf := pd_iq hf hc
        refine pd_iconst dX5_hasMark_20 (by decide) ?_
        obtain ⟨h1, h2⟩ := pd_inj hf
        subst h1 h2
        exact pd_zret dX5_hasMark_21 rfl (by decide) (Nat.le_refl 0) (Nat.le_refl 0)
set_option maxHeartbeats 4000000 in
set_option maxRecDepth 100000 in
theorem pkX5_hasMark (l : Launch) {al : Bool} {sh : pd_S} {n : Nat} {F : pd_F} {x0 : Int} {x1 : Int} {ρ : Int} {Fz : pd_F} (hf : pfX5_hasMark sh n F x0 x1 = some (ρ, Fz)) : pd_C l yX5_hasMark (Cond.code yX5_hasMark cX5_hasMark 3 (some .boolean) :: pd_gt) (pd_rm 1 0 0) al 0 0 sh F [pd_R x0, pd_I x1] (some (pd_I ρ)) sh Fz := by
  unfold pfX5_hasMark at hf
  refine pd_body (L := [pd_R x0, pd_I x1, pd_N]) (by decide +kernel) (Nat.le_of_ble_eq_true rfl) rfl (fun E => ?_)
  refine pd_iconst dX5_hasMark_0 (by decide) ?_
  refine pd_istore_n (L' := [pd_R x0, pd_I x1, pd_I 0]) dX5_hasMark_1 rfl (by decide) rfl ?_
  exact pd_weak (L' := [pd_R x0, pd_I x1, pd_I 0]) ⟨Or.inr rfl, Or.inr rfl, Or.inr rfl, trivial⟩ (pkX5_hasMark_b2 E l n _ _ _ _ hf)
set_option maxHeartbeats 4000000 in
set_option maxRecDepth 100000 in
theorem pkX5_addMark (l : Launch) {al : Bool} {sh : pd_S} {n : Nat} {F : pd_F} {x0 : Int} {x1 : Int} {Fz : pd_F} (hf : pfX5_addMark sh n F x0 x1 = some Fz) : pd_C l yX5_addMark (Cond.code yX5_addMark cX5_addMark 2 none :: pd_gt) (pd_rm 1 0 0) al 0 0 sh F [pd_R x0, pd_I x1] none sh Fz := by
  unfold pfX5_addMark at hf
  refine pd_body (L := [pd_R x0, pd_I x1]) (by decide +kernel) (Nat.le_of_ble_eq_true rfl) rfl (fun E => ?_)
  refine pd_aload_n (i := 0) dX5_addMark_0 rfl rfl ?_
  obtain ⟨hg1, hf⟩ := pd_ig hf
  refine pd_get (x := pd_I (F x0 1)) 1 dX5_addMark_1 (show vwCl[5]? = some (RX5, TX5, 5) from rfl) pin_5 (by decide) pq_200 hg1 rfl ?_
  refine pd_aload_n (i := 0) dX5_addMark_4 rfl rfl ?_
  refine pd_get (x := pd_R (F x0 0)) 0 dX5_addMark_5 (show vwCl[5]? = some (RX5, TX5, 5) from rfl) pin_5 (by decide) pq_201 hg1 rfl ?_
  obtain ⟨hg2, hf⟩ := pd_ig hf
  refine pd_alen dX5_addMark_8 (by decide) hg2 ?_
  refine pd_icmp_ge (tgt := 32) dX5_addMark_9 (by decide) (fun hc => ?_) (fun hc => ?_)
  · have hf := pd_ip hf hc
    obtain h2 := pd_inj1 hf
    subst h2
    exact pd_vret dX5_addMark_32 rfl (Nat.le_refl 0) (Nat.le_refl 0)
  · have hf := pd_in_ hf hc
    refine pd_aload_n (i := 0) dX5_addMark_12 rfl rfl ?_
    refine pd_get (x := pd_R (F x0 0)) 0 dX5_addMark_13 (show vwCl[5]? = some (RX5, TX5, 5) from rfl) pin_5 (by decide) pq_201 hg1 rfl ?_
    refine pd_aload_n (i := 0) dX5_addMark_16 rfl rfl ?_
    refine pd_get (x := pd_I (F x0 1)) 1 dX5_addMark_17 (show vwCl[5]? = some (RX5, TX5, 5) from rfl) pin_5 (by decide) pq_200 hg1 rfl ?_
    refine pd_iload_n (i := 1) dX5_addMark_20 rfl rfl ?_
    obtain ⟨hg3, hf⟩ := pd_ig hf
    refine pd_iast dX5_addMark_21 hg3 ?_
    refine pd_topF (fun F4 eF4 => ?_)
    have hf := pd_lt hf eF4
    clear eF4
    refine pd_aload_n (i := 0) dX5_addMark_22 rfl rfl ?_
    refine pd_dup dX5_addMark_23 rfl ?_
    refine pd_get (x := pd_I (F4 x0 1)) 1 dX5_addMark_24 (show vwCl[5]? = some (RX5, TX5, 5) from rfl) pin_5 (by decide) pq_200 hg1 rfl ?_
    refine pd_iconst dX5_addMark_27 (by decide) ?_
    refine pd_iadd dX5_addMark_28 ?_
    refine pd_put (n := (pd_w ((F4 x0 1) + 1))) (x := pd_I (pd_w ((F4 x0 1) + 1))) 1 dX5_addMark_29 (show vwCl[5]? = some (RX5, TX5, 5) from rfl) pin_5 tyX5_ok nmX5 (by decide) pq_200 rfl hg1 rfl pd_nrI pd_ftI ?_
    refine pd_topF (fun F5 eF5 => ?_)
    have hf := pd_lt hf eF5
    clear eF5
    obtain h2 := pd_inj1 hf
    subst h2
    exact pd_vret dX5_addMark_32 rfl (Nat.le_refl 0) (Nat.le_refl 0)
set_option maxHeartbeats 4000000 in
set_option maxRecDepth 100000 in
theorem pkX2_begin (l : Launch) {al : Bool} {sh : pd_S} {n : Nat} {F : pd_F} {x0 : Int} {x1 : Int} {Fz : pd_F} (hf : pfX2_begin sh n F x0 x1 = some Fz) : pd_C l yX2_begin (Cond.code yX2_begin cX2_begin 3 none :: pd_gt) (pd_rm 1 0 0) al 0 0 sh F [pd_R x0, pd_J x1] none sh Fz := by
  unfold pfX2_begin at hf
  refine pd_body (L := [pd_R x0, pd_J x1, pd_N]) (by decide +kernel) (Nat.le_of_ble_eq_true rfl) rfl (fun E => ?_)
  refine pd_aload_n (i := 0) dX2_begin_0 rfl rfl ?_
  refine pd_lload_n (i := 1) dX2_begin_1 rfl rfl ?_
  obtain ⟨hg1, hf⟩ := pd_ig hf
  refine pd_put (n := x1) (x := pd_J x1) 4 dX2_begin_2 (show vwCl[2]? = some (RX2, TX2, 8) from rfl) pin_2 tyX2_ok nmX2 (by decide) pq_202 rfl hg1 rfl pd_nrJ pd_ftJ ?_
  refine pd_topF (fun F2 eF2 => ?_)
  have hf := pd_lt hf eF2
  clear eF2
  refine pd_aload_n (i := 0) dX2_begin_5 rfl rfl ?_
  refine pd_iconst dX2_begin_6 (by decide) ?_
  refine pd_put (n := 0) (x := pd_I 0) 3 dX2_begin_7 (show vwCl[2]? = some (RX2, TX2, 8) from rfl) pin_2 tyX2_ok nmX2 (by decide) pq_203 rfl hg1 rfl pd_nrI pd_ftI ?_
  refine pd_topF (fun F3 eF3 => ?_)
  have hf := pd_lt hf eF3
  clear eF3
  obtain h2 := pd_inj1 hf
  subst h2
  exact pd_vret dX2_begin_10 rfl (Nat.le_refl 0) (Nat.le_refl 0)
set_option maxHeartbeats 4000000 in
set_option maxRecDepth 100000 in
theorem pkX2_hasPart_b2 (E : pd_E) (l : Launch) {al : Bool} {sh : pd_S} {n : Nat} {ρ : Int} {Fz : pd_F}  : ∀ (k : Nat) (F : pd_F) (x0 : Int) (x1 : Int) (x2 : Int), pfX2_hasPart_b2 sh n  k F x0 x1 x2 = some (ρ, Fz) → pd_V E l (pd_rm 1 0 0) (RX2, cX2_hasPart, 3, (some .boolean), "hasPart") (pd_Qm E al (some (pd_I ρ)) sh Fz 0 0) al 0 0 sh F 2 [pd_R x0, pd_I x1, pd_I x2] [] := by
  intro k
  induction k with
  | zero => intro F x0 x1 x2 hf; exact absurd hf (by unfold pfX2_hasPart_b2; exact fun h => nomatch h)
  | succ k ih =>
    intro F x0 x1 x2 hf
    unfold pfX2_hasPart_b2 at hf
    refine pd_iload_n (i := 2) dX2_hasPart_2 rfl rfl ?_
    refine pd_aload_n (i := 0) dX2_hasPart_3 rfl rfl ?_
    obtain ⟨hg1, hf⟩ := pd_ig hf
    refine pd_get (x := pd_I (F x0 3)) 3 dX2_hasPart_4 (show vwCl[2]? = some (RX2, TX2, 8) from rfl) pin_2 (by decide) pq_203 hg1 rfl ?_
    refine pd_icmp_ge (tgt := 28) dX2_hasPart_7 (by decide) (fun hc => ?_) (fun hc => ?_)
    · have hf := pd_ip hf hc
      refine pd_iconst dX2_hasPart_28 (by decide) ?_
      obtain ⟨h1, h2⟩ := pd_inj hf
      subst h1 h2
      exact pd_zret dX2_hasPart_29 rfl (by decide) (Nat.le_refl 0) (Nat.le_refl 0)
    · have hf := pd_in_ hf hc
      refine pd_aload_n (i := 0) dX2_hasPart_10 rfl rfl ?_
      refine pd_get (x := pd_R (F x0 0)) 0 dX2_hasPart_11 (show vwCl[2]? = some (RX2, TX2, 8) from rfl) pin_2 (by decide) pq_204 hg1 rfl ?_
      refine pd_iload_n (i := 2) dX2_hasPart_14 rfl rfl ?_
      obtain ⟨hg2, hf⟩ := pd_ig hf
      refine pd_iald dX2_hasPart_15 hg2 ?_
      refine pd_iload_n (i := 1) dX2_hasPart_16 rfl rfl ?_
      refine pd_icmp_ne (tgt := 22) dX2_hasPart_17 (by decide) (fun hc => ?_) (fun hc => ?_)
      · have hf := pd_ip hf hc
        refine pd_iincN (L' := fun y => [pd_R x0, pd_I x1, pd_I y]) dX2_hasPart_22 rfl (by decide) (by decide) (fun _ => rfl) (fun x2_22 ex2_22 => ?_)
        have hf := pd_lt hf ex2_22
        clear ex2_22
        refine pd_goto (tgt := 2) dX2_hasPart_25 (by decide) ?_
        exact pd_weak (L' := [pd_R x0, pd_I x1, pd_I x2_22]) ⟨Or.inr rfl, Or.inr rfl, Or.inr rfl, trivial⟩ (ih _ _ _ _ hf)
      · have hf := pd_iq hf hc
        refine pd_iconst dX2_hasPart_20 (by decide) ?_
        obtain ⟨h1, h2⟩ := pd_inj hf
        subst h1 h2
        exact pd_zret dX2_hasPart_21 rfl (by decide) (Nat.le_refl 0) (Nat.le_refl 0)
set_option maxHeartbeats 4000000 in
set_option maxRecDepth 100000 in
theorem pkX2_hasPart (l : Launch) {al : Bool} {sh : pd_S} {n : Nat} {F : pd_F} {x0 : Int} {x1 : Int} {ρ : Int} {Fz : pd_F} (hf : pfX2_hasPart sh n F x0 x1 = some (ρ, Fz)) : pd_C l yX2_hasPart (Cond.code yX2_hasPart cX2_hasPart 3 (some .boolean) :: pd_gt) (pd_rm 1 0 0) al 0 0 sh F [pd_R x0, pd_I x1] (some (pd_I ρ)) sh Fz := by
  unfold pfX2_hasPart at hf
  refine pd_body (L := [pd_R x0, pd_I x1, pd_N]) (by decide +kernel) (Nat.le_of_ble_eq_true rfl) rfl (fun E => ?_)
  refine pd_iconst dX2_hasPart_0 (by decide) ?_
  refine pd_istore_n (L' := [pd_R x0, pd_I x1, pd_I 0]) dX2_hasPart_1 rfl (by decide) rfl ?_
  exact pd_weak (L' := [pd_R x0, pd_I x1, pd_I 0]) ⟨Or.inr rfl, Or.inr rfl, Or.inr rfl, trivial⟩ (pkX2_hasPart_b2 E l n _ _ _ _ hf)
set_option maxHeartbeats 4000000 in
set_option maxRecDepth 100000 in
theorem pkX2_addPart (l : Launch) {al : Bool} {sh : pd_S} {n : Nat} {F : pd_F} {x0 : Int} {x1 : Int} {x2 : Int} {Fz : pd_F} (hf : pfX2_addPart sh n F x0 x1 x2 = some Fz) : pd_C l yX2_addPart (Cond.code yX2_addPart cX2_addPart 3 none :: pd_gt) (pd_rm 1 0 0) al 0 0 sh F [pd_R x0, pd_I x1, pd_I x2] none sh Fz := by
  unfold pfX2_addPart at hf
  refine pd_body (L := [pd_R x0, pd_I x1, pd_I x2]) (by decide +kernel) (Nat.le_of_ble_eq_true rfl) rfl (fun E => ?_)
  refine pd_aload_n (i := 0) dX2_addPart_0 rfl rfl ?_
  obtain ⟨hg1, hf⟩ := pd_ig hf
  refine pd_get (x := pd_I (F x0 3)) 3 dX2_addPart_1 (show vwCl[2]? = some (RX2, TX2, 8) from rfl) pin_2 (by decide) pq_203 hg1 rfl ?_
  refine pd_aload_n (i := 0) dX2_addPart_4 rfl rfl ?_
  refine pd_get (x := pd_R (F x0 0)) 0 dX2_addPart_5 (show vwCl[2]? = some (RX2, TX2, 8) from rfl) pin_2 (by decide) pq_204 hg1 rfl ?_
  obtain ⟨hg2, hf⟩ := pd_ig hf
  refine pd_alen dX2_addPart_8 (by decide) hg2 ?_
  refine pd_icmp_ge (tgt := 42) dX2_addPart_9 (by decide) (fun hc => ?_) (fun hc => ?_)
  · have hf := pd_ip hf hc
    obtain h2 := pd_inj1 hf
    subst h2
    exact pd_vret dX2_addPart_42 rfl (Nat.le_refl 0) (Nat.le_refl 0)
  · have hf := pd_in_ hf hc
    refine pd_aload_n (i := 0) dX2_addPart_12 rfl rfl ?_
    refine pd_get (x := pd_R (F x0 0)) 0 dX2_addPart_13 (show vwCl[2]? = some (RX2, TX2, 8) from rfl) pin_2 (by decide) pq_204 hg1 rfl ?_
    refine pd_aload_n (i := 0) dX2_addPart_16 rfl rfl ?_
    refine pd_get (x := pd_I (F x0 3)) 3 dX2_addPart_17 (show vwCl[2]? = some (RX2, TX2, 8) from rfl) pin_2 (by decide) pq_203 hg1 rfl ?_
    refine pd_iload_n (i := 1) dX2_addPart_20 rfl rfl ?_
    obtain ⟨hg3, hf⟩ := pd_ig hf
    refine pd_iast dX2_addPart_21 hg3 ?_
    refine pd_topF (fun F4 eF4 => ?_)
    have hf := pd_lt hf eF4
    clear eF4
    refine pd_aload_n (i := 0) dX2_addPart_22 rfl rfl ?_
    refine pd_get (x := pd_R (F4 x0 1)) 1 dX2_addPart_23 (show vwCl[2]? = some (RX2, TX2, 8) from rfl) pin_2 (by decide) pq_205 hg1 rfl ?_
    refine pd_aload_n (i := 0) dX2_addPart_26 rfl rfl ?_
    refine pd_get (x := pd_I (F4 x0 3)) 3 dX2_addPart_27 (show vwCl[2]? = some (RX2, TX2, 8) from rfl) pin_2 (by decide) pq_203 hg1 rfl ?_
    refine pd_iload_n (i := 2) dX2_addPart_30 rfl rfl ?_
    obtain ⟨hg5, hf⟩ := pd_ig hf
    refine pd_iast dX2_addPart_31 hg5 ?_
    refine pd_topF (fun F6 eF6 => ?_)
    have hf := pd_lt hf eF6
    clear eF6
    refine pd_aload_n (i := 0) dX2_addPart_32 rfl rfl ?_
    refine pd_dup dX2_addPart_33 rfl ?_
    refine pd_get (x := pd_I (F6 x0 3)) 3 dX2_addPart_34 (show vwCl[2]? = some (RX2, TX2, 8) from rfl) pin_2 (by decide) pq_203 hg1 rfl ?_
    refine pd_iconst dX2_addPart_37 (by decide) ?_
    refine pd_iadd dX2_addPart_38 ?_
    refine pd_put (n := (pd_w ((F6 x0 3) + 1))) (x := pd_I (pd_w ((F6 x0 3) + 1))) 3 dX2_addPart_39 (show vwCl[2]? = some (RX2, TX2, 8) from rfl) pin_2 tyX2_ok nmX2 (by decide) pq_203 rfl hg1 rfl pd_nrI pd_ftI ?_
    refine pd_topF (fun F7 eF7 => ?_)
    have hf := pd_lt hf eF7
    clear eF7
    obtain h2 := pd_inj1 hf
    subst h2
    exact pd_vret dX2_addPart_42 rfl (Nat.le_refl 0) (Nat.le_refl 0)
set_option maxHeartbeats 4000000 in
set_option maxRecDepth 100000 in
theorem pkX2_goThrough_b42 (E : pd_E) (l : Launch) {al : Bool} {sh : pd_S} {n : Nat} {Fz : pd_F}  : ∀ (k : Nat) (F : pd_F) (x0 : Int) (x1 : Int) (x2 : Int), pfX2_goThrough_b42 sh n  k F x0 x1 x2 = some Fz → pd_V E l (pd_rm 1 0 0) (RX2, cX2_goThrough, 3, none, "goThrough") (pd_Qm E al none sh Fz 0 0) al 0 0 sh F 42 [pd_R x0, pd_R x1, pd_I x2] [] := by
  intro k
  induction k with
  | zero => intro F x0 x1 x2 hf; exact absurd hf (by unfold pfX2_goThrough_b42; exact fun h => nomatch h)
  | succ k ih =>
    intro F x0 x1 x2 hf
    unfold pfX2_goThrough_b42 at hf
    refine pd_iload_n (i := 2) dX2_goThrough_42 rfl rfl ?_
    refine pd_aload_n (i := 0) dX2_goThrough_43 rfl rfl ?_
    obtain ⟨hg1, hf⟩ := pd_ig hf
    refine pd_get (x := pd_R (F x0 2)) 2 dX2_goThrough_44 (show vwCl[2]? = some (RX2, TX2, 8) from rfl) pin_2 (by decide) pq_206 hg1 rfl ?_
    obtain ⟨hg2, hf⟩ := pd_ig hf
    refine pd_alen dX2_goThrough_47 (by decide) hg2 ?_
    refine pd_icmp_ge (tgt := 72) dX2_goThrough_48 (by decide) (fun hc => ?_) (fun hc => ?_)
    · have hf := pd_ip hf hc
      obtain h2 := pd_inj1 hf
      subst h2
      exact pd_vret dX2_goThrough_72 rfl (Nat.le_refl 0) (Nat.le_refl 0)
    · have hf := pd_in_ hf hc
      refine pd_aload_n (i := 0) dX2_goThrough_51 rfl rfl ?_
      refine pd_get (x := pd_R (F x0 2)) 2 dX2_goThrough_52 (show vwCl[2]? = some (RX2, TX2, 8) from rfl) pin_2 (by decide) pq_206 hg1 rfl ?_
      refine pd_iload_n (i := 2) dX2_goThrough_55 rfl rfl ?_
      refine pd_dup2 dX2_goThrough_56 rfl rfl ?_
      obtain ⟨hg3, hf⟩ := pd_ig hf
      refine pd_iald dX2_goThrough_57 hg3 ?_
      refine pd_aload_n (i := 1) dX2_goThrough_58 rfl rfl ?_
      obtain ⟨hg4, hf⟩ := pd_ig hf
      refine pd_get (x := pd_R (F x1 2)) 2 dX2_goThrough_59 (show vwCl[2]? = some (RX2, TX2, 8) from rfl) pin_2 (by decide) pq_206 hg4 rfl ?_
      refine pd_iload_n (i := 2) dX2_goThrough_62 rfl rfl ?_
      obtain ⟨hg5, hf⟩ := pd_ig hf
      refine pd_iald dX2_goThrough_63 hg5 ?_
      refine pd_iadd dX2_goThrough_64 ?_
      refine pd_iast dX2_goThrough_65 hg3 ?_
      refine pd_topF (fun F6 eF6 => ?_)
      have hf := pd_lt hf eF6
      clear eF6
      refine pd_iincN (L' := fun y => [pd_R x0, pd_R x1, pd_I y]) dX2_goThrough_66 rfl (by decide) (by decide) (fun _ => rfl) (fun x2_66 ex2_66 => ?_)
      have hf := pd_lt hf ex2_66
      clear ex2_66
      refine pd_goto (tgt := 42) dX2_goThrough_69 (by decide) ?_
      exact pd_weak (L' := [pd_R x0, pd_R x1, pd_I x2_66]) ⟨Or.inr rfl, Or.inr rfl, Or.inr rfl, trivial⟩ (ih _ _ _ _ hf)
set_option maxHeartbeats 4000000 in
set_option maxRecDepth 100000 in
theorem pkX2_goThrough_b37 (E : pd_E) (l : Launch) {al : Bool} {sh : pd_S} {n : Nat} {Fz : pd_F}  (F : pd_F) (x0 : Int) (x1 : Int) (t0 : Int) (t1 : Int) (hf : pfX2_goThrough_b37 sh n  F x0 x1 t0 t1 = some Fz) : pd_V E l (pd_rm 1 0 0) (RX2, cX2_goThrough, 3, none, "goThrough") (pd_Qm E al none sh Fz 0 0) al 0 0 sh F 37 [pd_R x0, pd_R x1, pd_N] [pd_I t0, pd_R t1] := by
  unfold pfX2_goThrough_b37 at hf
  obtain ⟨hg7, hf⟩ := pd_ig hf
  obtain ⟨hg8, hf⟩ := pd_ig hf
  refine pd_put (n := t0) (x := pd_I t0) 7 dX2_goThrough_37 (show vwCl[2]? = some (RX2, TX2, 8) from rfl) pin_2 tyX2_ok nmX2 (by decide) pq_207 rfl hg7 rfl (pd_nrZ hg8) (pd_ftZ hg8) ?_
  refine pd_topF (fun F9 eF9 => ?_)
  have hf := pd_lt hf eF9
  clear eF9
  refine pd_iconst dX2_goThrough_40 (by decide) ?_
  refine pd_istore_n (L' := [pd_R x0, pd_R x1, pd_I 0]) dX2_goThrough_41 rfl (by decide) rfl ?_
  exact pd_weak (L' := [pd_R x0, pd_R x1, pd_I 0]) ⟨Or.inr rfl, Or.inr rfl, Or.inr rfl, trivial⟩ (pkX2_goThrough_b42 E l n _ _ _ _ hf)
set_option maxHeartbeats 4000000 in
set_option maxRecDepth 100000 in
theorem pkX2_goThrough_b32 (E : pd_E) (l : Launch) {al : Bool} {sh : pd_S} {n : Nat} {Fz : pd_F}  (F : pd_F) (x0 : Int) (x1 : Int) (t0 : Int) (hf : pfX2_goThrough_b32 sh n  F x0 x1 t0 = some Fz) : pd_V E l (pd_rm 1 0 0) (RX2, cX2_goThrough, 3, none, "goThrough") (pd_Qm E al none sh Fz 0 0) al 0 0 sh F 32 [pd_R x0, pd_R x1, pd_N] [pd_R t0] := by
  unfold pfX2_goThrough_b32 at hf
  refine pd_iconst dX2_goThrough_32 (by decide) ?_
  refine pd_goto (tgt := 37) dX2_goThrough_33 (by decide) ?_
  exact pd_weak (L' := [pd_R x0, pd_R x1, pd_N]) ⟨Or.inr rfl, Or.inr rfl, Or.inr rfl, trivial⟩ (pkX2_goThrough_b37 E l _ _ _ _ _ hf)
set_option maxHeartbeats 4000000 in
set_option maxRecDepth 100000 in
theorem pkX2_goThrough (l : Launch) {al : Bool} {sh : pd_S} {n : Nat} {F : pd_F} {x0 : Int} {x1 : Int} {Fz : pd_F} (hf : pfX2_goThrough sh n F x0 x1 = some Fz) : pd_C l yX2_goThrough (Cond.code yX2_goThrough cX2_goThrough 3 none :: pd_gt) (pd_rm 1 0 0) al 0 0 sh F [pd_R x0, pd_R x1] none sh Fz := by
  unfold pfX2_goThrough at hf
  refine pd_body (L := [pd_R x0, pd_R x1, pd_N]) (by decide +kernel) (Nat.le_of_ble_eq_true rfl) rfl (fun E => ?_)
  refine pd_aload_n (i := 0) dX2_goThrough_0 rfl rfl ?_
  refine pd_aload_n (i := 0) dX2_goThrough_1 rfl rfl ?_
  obtain ⟨hg10, hf⟩ := pd_ig hf
  refine pd_get (x := pd_I (F x0 6)) 6 dX2_goThrough_2 (show vwCl[2]? = some (RX2, TX2, 8) from rfl) pin_2 (by decide) pq_208 hg10 rfl ?_
  refine pd_aload_n (i := 1) dX2_goThrough_5 rfl rfl ?_
  obtain ⟨hg11, hf⟩ := pd_ig hf
  refine pd_get (x := pd_I (F x1 6)) 6 dX2_goThrough_6 (show vwCl[2]? = some (RX2, TX2, 8) from rfl) pin_2 (by decide) pq_208 hg11 rfl ?_
  refine pd_iconst dX2_goThrough_9 (by decide) ?_
  refine pd_iadd dX2_goThrough_10 ?_
  refine pd_mmax dX2_goThrough_11 pq_209 pq_39 pq_40 pq_41 pd_rmR (Nat.le_of_ble_eq_true rfl) ?_
  refine pd_put (n := (max (F x0 6) (pd_w ((F x1 6) + 1)))) (x := pd_I (max (F x0 6) (pd_w ((F x1 6) + 1)))) 6 dX2_goThrough_14 (show vwCl[2]? = some (RX2, TX2, 8) from rfl) pin_2 tyX2_ok nmX2 (by decide) pq_208 rfl hg10 rfl pd_nrI pd_ftI ?_
  refine pd_topF (fun F12 eF12 => ?_)
  have hf := pd_lt hf eF12
  clear eF12
  refine pd_aload_n (i := 0) dX2_goThrough_17 rfl rfl ?_
  refine pd_aload_n (i := 0) dX2_goThrough_18 rfl rfl ?_
  refine pd_get (x := pd_I (F12 x0 7)) 7 dX2_goThrough_19 (show vwCl[2]? = some (RX2, TX2, 8) from rfl) pin_2 (by decide) pq_207 hg10 rfl ?_
  refine pd_if_ne (tgt := 32) dX2_goThrough_22 (by decide) (fun hc => ?_) (fun hc => ?_)
  · have hf := pd_ip hf hc
    exact pd_weak (L' := [pd_R x0, pd_R x1, pd_N]) ⟨Or.inr rfl, Or.inr rfl, Or.inr rfl, trivial⟩ (pkX2_goThrough_b32 E l _ _ _ _ hf)
  · have hf := pd_iq hf hc
    refine pd_aload_n (i := 1) dX2_goThrough_25 rfl rfl ?_
    refine pd_get (x := pd_I (F12 x1 7)) 7 dX2_goThrough_26 (show vwCl[2]? = some (RX2, TX2, 8) from rfl) pin_2 (by decide) pq_207 hg11 rfl ?_
    refine pd_if_eq (tgt := 36) dX2_goThrough_29 (by decide) (fun hc => ?_) (fun hc => ?_)
    · have hf := pd_ip hf hc
      refine pd_iconst dX2_goThrough_36 (by decide) ?_
      exact pd_weak (L' := [pd_R x0, pd_R x1, pd_N]) ⟨Or.inr rfl, Or.inr rfl, Or.inr rfl, trivial⟩ (pkX2_goThrough_b37 E l _ _ _ _ _ hf)
    · have hf := pd_in_ hf hc
      exact pd_weak (L' := [pd_R x0, pd_R x1, pd_N]) ⟨Or.inr rfl, Or.inr rfl, Or.inr rfl, trivial⟩ (pkX2_goThrough_b32 E l _ _ _ _ hf)
set_option maxHeartbeats 4000000 in
set_option maxRecDepth 100000 in
theorem pkX2_personsReached_b25 (E : pd_E) (l : Launch) {al : Bool} {sh : pd_S} {n : Nat} {ρ : Int} {Fz : pd_F} {c4 : pd_F → Int → Int → Int → Option (Int × pd_F)} (hL4 : ∀ (F : pd_F) (x0 : Int) (x1 : Int) (x2 : Int), c4 F x0 x1 x2 = some (ρ, Fz) → pd_V E l (pd_rm 1 0 0) (RX2, cX2_personsReached, 3, (some .int), "personsReached") (pd_Qm E al (some (pd_I ρ)) sh Fz 0 0) al 0 0 sh F 4 [pd_R x0, pd_I x1, pd_I x2] []) (F : pd_F) (x0 : Int) (x1 : Int) (x2 : Int) (hf : pfX2_personsReached_b25 sh n c4 F x0 x1 x2 = some (ρ, Fz)) : pd_V E l (pd_rm 1 0 0) (RX2, cX2_personsReached, 3, (some .int), "personsReached") (pd_Qm E al (some (pd_I ρ)) sh Fz 0 0) al 0 0 sh F 25 [pd_R x0, pd_I x1, pd_I x2] [] := by
  unfold pfX2_personsReached_b25 at hf
  refine pd_iincN (L' := fun y => [pd_R x0, pd_I x1, pd_I y]) dX2_personsReached_25 rfl (by decide) (by decide) (fun _ => rfl) (fun x2_25 ex2_25 => ?_)
  have hf := pd_lt hf ex2_25
  clear ex2_25
  refine pd_goto (tgt := 4) dX2_personsReached_28 (by decide) ?_
  exact pd_weak (L' := [pd_R x0, pd_I x1, pd_I x2_25]) ⟨Or.inr rfl, Or.inr rfl, Or.inr rfl, trivial⟩ (hL4 _ _ _ _ hf)
set_option maxHeartbeats 4000000 in
set_option maxRecDepth 100000 in
theorem pkX2_personsReached_b4 (E : pd_E) (l : Launch) {al : Bool} {sh : pd_S} {n : Nat} {ρ : Int} {Fz : pd_F}  : ∀ (k : Nat) (F : pd_F) (x0 : Int) (x1 : Int) (x2 : Int), pfX2_personsReached_b4 sh n  k F x0 x1 x2 = some (ρ, Fz) → pd_V E l (pd_rm 1 0 0) (RX2, cX2_personsReached, 3, (some .int), "personsReached") (pd_Qm E al (some (pd_I ρ)) sh Fz 0 0) al 0 0 sh F 4 [pd_R x0, pd_I x1, pd_I x2] [] := by
  intro k
  induction k with
  | zero => intro F x0 x1 x2 hf; exact absurd hf (by unfold pfX2_personsReached_b4; exact fun h => nomatch h)
  | succ k ih =>
    intro F x0 x1 x2 hf
    unfold pfX2_personsReached_b4 at hf
    refine pd_iload_n (i := 2) dX2_personsReached_4 rfl rfl ?_
    refine pd_aload_n (i := 0) dX2_personsReached_5 rfl rfl ?_
    obtain ⟨hg1, hf⟩ := pd_ig hf
    refine pd_get (x := pd_R (F x0 2)) 2 dX2_personsReached_6 (show vwCl[2]? = some (RX2, TX2, 8) from rfl) pin_2 (by decide) pq_206 hg1 rfl ?_
    obtain ⟨hg2, hf⟩ := pd_ig hf
    refine pd_alen dX2_personsReached_9 (by decide) hg2 ?_
    refine pd_icmp_ge (tgt := 31) dX2_personsReached_10 (by decide) (fun hc => ?_) (fun hc => ?_)
    · have hf := pd_ip hf hc
      refine pd_iload_n (i := 1) dX2_personsReached_31 rfl rfl ?_
      obtain ⟨h1, h2⟩ := pd_inj hf
      subst h1 h2
      exact pd_iret dX2_personsReached_32 rfl (Nat.le_refl 0) (Nat.le_refl 0)
    · have hf := pd_in_ hf hc
      refine pd_aload_n (i := 0) dX2_personsReached_13 rfl rfl ?_
      refine pd_get (x := pd_R (F x0 2)) 2 dX2_personsReached_14 (show vwCl[2]? = some (RX2, TX2, 8) from rfl) pin_2 (by decide) pq_206 hg1 rfl ?_
      refine pd_iload_n (i := 2) dX2_personsReached_17 rfl rfl ?_
      obtain ⟨hg3, hf⟩ := pd_ig hf
      refine pd_iald dX2_personsReached_18 hg3 ?_
      refine pd_if_le (tgt := 25) dX2_personsReached_19 (by decide) (fun hc => ?_) (fun hc => ?_)
      · have hf := pd_ip hf hc
        exact pd_weak (L' := [pd_R x0, pd_I x1, pd_I x2]) ⟨Or.inr rfl, Or.inr rfl, Or.inr rfl, trivial⟩ (pkX2_personsReached_b25 E l ih _ _ _ _ hf)
      · have hf := pd_in_ hf hc
        refine pd_iincN (L' := fun y => [pd_R x0, pd_I y, pd_I x2]) dX2_personsReached_22 rfl (by decide) (by decide) (fun _ => rfl) (fun x1_22 ex1_22 => ?_)
        have hf := pd_lt hf ex1_22
        clear ex1_22
        exact pd_weak (L' := [pd_R x0, pd_I x1_22, pd_I x2]) ⟨Or.inr rfl, Or.inr rfl, Or.inr rfl, trivial⟩ (pkX2_personsReached_b25 E l ih _ _ _ _ hf)
set_option maxHeartbeats 4000000 in
set_option maxRecDepth 100000 in
theorem pkX2_personsReached (l : Launch) {al : Bool} {sh : pd_S} {n : Nat} {F : pd_F} {x0 : Int} {ρ : Int} {Fz : pd_F} (hf : pfX2_personsReached sh n F x0 = some (ρ, Fz)) : pd_C l yX2_personsReached (Cond.code yX2_personsReached cX2_personsReached 3 (some .int) :: pd_gt) (pd_rm 1 0 0) al 0 0 sh F [pd_R x0] (some (pd_I ρ)) sh Fz := by
  unfold pfX2_personsReached at hf
  refine pd_body (L := [pd_R x0, pd_N, pd_N]) (by decide +kernel) (Nat.le_of_ble_eq_true rfl) rfl (fun E => ?_)
  refine pd_iconst dX2_personsReached_0 (by decide) ?_
  refine pd_istore_n (L' := [pd_R x0, pd_I 0, pd_N]) dX2_personsReached_1 rfl (by decide) rfl ?_
  refine pd_iconst dX2_personsReached_2 (by decide) ?_
  refine pd_istore_n (L' := [pd_R x0, pd_I 0, pd_I 0]) dX2_personsReached_3 rfl (by decide) rfl ?_
  exact pd_weak (L' := [pd_R x0, pd_I 0, pd_I 0]) ⟨Or.inr rfl, Or.inr rfl, Or.inr rfl, trivial⟩ (pkX2_personsReached_b4 E l n _ _ _ _ hf)
set_option maxHeartbeats 4000000 in
set_option maxRecDepth 100000 in
theorem pkX2_settle_b122 (E : pd_E) (l : Launch) {al : Bool} {sh : pd_S} {n : Nat} {Fz : pd_F} {c41 : pd_F → Int → Int → Int → Option pd_F} (hL41 : ∀ (F : pd_F) (x0 : Int) (x1 : Int) (x2 : Int), c41 F x0 x1 x2 = some Fz → pd_V E l (pd_rm 2 0 0) (RX2, cX2_settle, 4, none, "settle") (pd_Qm E al none sh Fz 0 0) al 0 0 sh F 41 [pd_R x0, pd_R x1, pd_I x2, pd_N] []) (F : pd_F) (x0 : Int) (x1 : Int) (x2 : Int) (hf : pfX2_settle_b122 sh n c41 F x0 x1 x2 = some Fz) : pd_V E l (pd_rm 2 0 0) (RX2, cX2_settle, 4, none, "settle") (pd_Qm E al none sh Fz 0 0) al 0 0 sh F 122 [pd_R x0, pd_R x1, pd_I x2, pd_N] [] := by
  unfold pfX2_settle_b122 at hf
  refine pd_iincN (L' := fun y => [pd_R x0, pd_R x1, pd_I y, pd_N]) dX2_settle_122 rfl (by decide) (by decide) (fun _ => rfl) (fun x2_122 ex2_122 => ?_)
  have hf := pd_lt hf ex2_122
  clear ex2_122
  refine pd_goto (tgt := 41) dX2_settle_125 (by decide) ?_
  exact pd_weak (L' := [pd_R x0, pd_R x1, pd_I x2_122, pd_N]) ⟨Or.inr rfl, Or.inr rfl, Or.inr rfl, Or.inr rfl, trivial⟩ (hL41 _ _ _ _ hf)
set_option maxHeartbeats 4000000 in
set_option maxRecDepth 100000 in
theorem pkX2_settle_b97 (E : pd_E) (l : Launch) {al : Bool} {sh : pd_S} {n : Nat} {Fz : pd_F} {c41 : pd_F → Int → Int → Int → Option pd_F} (hL41 : ∀ (F : pd_F) (x0 : Int) (x1 : Int) (x2 : Int), c41 F x0 x1 x2 = some Fz → pd_V E l (pd_rm 2 0 0) (RX2, cX2_settle, 4, none, "settle") (pd_Qm E al none sh Fz 0 0) al 0 0 sh F 41 [pd_R x0, pd_R x1, pd_I x2, pd_N] []) (F : pd_F) (x0 : Int) (x1 : Int) (x2 : Int) (x3 : Int) (hf : pfX2_settle_b97 sh n c41 F x0 x1 x2 x3 = some Fz) : pd_V E l (pd_rm 2 0 0) (RX2, cX2_settle, 4, none, "settle") (pd_Qm E al none sh Fz 0 0) al 0 0 sh F 97 [pd_R x0, pd_R x1, pd_I x2, pd_I x3] [] := by
  unfold pfX2_settle_b97 at hf
  refine pd_iload_n (i := 3) dX2_settle_97 rfl rfl ?_
  refine pd_bipush dX2_settle_98 (by decide) ?_
  refine pd_icmp_lt (tgt := 122) dX2_settle_100 (by decide) (fun hc => ?_) (fun hc => ?_)
  · have hf := pd_ip hf hc
    exact pd_weak (L' := [pd_R x0, pd_R x1, pd_I x2, pd_N]) ⟨Or.inr rfl, Or.inr rfl, Or.inr rfl, Or.inl rfl, trivial⟩ (pkX2_settle_b122 E l hL41 _ _ _ _ hf)
  · have hf := pd_in_ hf hc
    refine pd_iload_n (i := 3) dX2_settle_103 rfl rfl ?_
    refine pd_bipush dX2_settle_104 (by decide) ?_
    refine pd_isub dX2_settle_106 ?_
    refine pd_aload_n (i := 1) dX2_settle_107 rfl rfl ?_
    obtain ⟨hg1, hf⟩ := pd_ig hf
    refine pd_alen dX2_settle_108 (by decide) hg1 ?_
    refine pd_icmp_ge (tgt := 122) dX2_settle_109 (by decide) (fun hc => ?_) (fun hc => ?_)
    · have hf := pd_ip hf hc
      exact pd_weak (L' := [pd_R x0, pd_R x1, pd_I x2, pd_N]) ⟨Or.inr rfl, Or.inr rfl, Or.inr rfl, Or.inl rfl, trivial⟩ (pkX2_settle_b122 E l hL41 _ _ _ _ hf)
    · have hf := pd_in_ hf hc
      refine pd_aload_n (i := 0) dX2_settle_112 rfl rfl ?_
      refine pd_aload_n (i := 1) dX2_settle_113 rfl rfl ?_
      refine pd_iload_n (i := 3) dX2_settle_114 rfl rfl ?_
      refine pd_bipush dX2_settle_115 (by decide) ?_
      refine pd_isub dX2_settle_117 ?_
      obtain ⟨hg2, hf⟩ := pd_ig hf
      refine pd_aald dX2_settle_118 hg2 ?_
      obtain ⟨hg4, hf⟩ := pd_ig hf
      obtain ⟨F3, hr, hf⟩ := pd_ob1 hf
      refine pd_callV (pkX2_goThrough l hr) dX2_settle_119 pq_210 pq_213 pq_214 (show vwCl[2]? = some (yX2_goThrough.cls, TX2, 8) from rfl) hg4 (pd_okm (by omega) (by decide) pq_211 pq_212 (by decide) (show (parseMethodDescriptor yX2_goThrough.desc).map (fun d => d.parameters.length) = some 1 from by decide +kernel)) (Nat.le_of_ble_eq_true rfl) rfl ?_
      exact pd_weak (L' := [pd_R x0, pd_R x1, pd_I x2, pd_N]) ⟨Or.inr rfl, Or.inr rfl, Or.inr rfl, Or.inl rfl, trivial⟩ (pkX2_settle_b122 E l hL41 _ _ _ _ hf)
set_option maxHeartbeats 4000000 in
set_option maxRecDepth 100000 in
theorem pkX2_settle_b128 (E : pd_E) (l : Launch) {al : Bool} {sh : pd_S} {n : Nat} {Fz : pd_F}  (F : pd_F) (x0 : Int) (hf : pfX2_settle_b128 sh n  F x0 = some Fz) : pd_V E l (pd_rm 2 0 0) (RX2, cX2_settle, 4, none, "settle") (pd_Qm E al none sh Fz 0 0) al 0 0 sh F 128 [pd_R x0, pd_N, pd_N, pd_N] [] := by
  unfold pfX2_settle_b128 at hf
  refine pd_aload_n (i := 0) dX2_settle_128 rfl rfl ?_
  obtain ⟨hg5, hf⟩ := pd_ig hf
  refine pd_get (x := pd_I (F x0 5)) 5 dX2_settle_129 (show vwCl[2]? = some (RX2, TX2, 8) from rfl) pin_2 (by decide) pq_215 hg5 rfl ?_
  refine pd_if_ne (tgt := 140) dX2_settle_132 (by decide) (fun hc => ?_) (fun hc => ?_)
  · have hf := pd_ip hf hc
    obtain h2 := pd_inj1 hf
    subst h2
    exact pd_vret dX2_settle_140 rfl (Nat.le_refl 0) (Nat.le_refl 0)
  · have hf := pd_iq hf hc
    refine pd_aload_n (i := 0) dX2_settle_135 rfl rfl ?_
    refine pd_iconst dX2_settle_136 (by decide) ?_
    refine pd_put (n := 1) (x := pd_I 1) 7 dX2_settle_137 (show vwCl[2]? = some (RX2, TX2, 8) from rfl) pin_2 tyX2_ok nmX2 (by decide) pq_207 rfl hg5 rfl (pd_nrZ (by decide)) (pd_ftZ (by decide)) ?_
    refine pd_topF (fun F6 eF6 => ?_)
    have hf := pd_lt hf eF6
    clear eF6
    obtain h2 := pd_inj1 hf
    subst h2
    exact pd_vret dX2_settle_140 rfl (Nat.le_refl 0) (Nat.le_refl 0)
set_option maxHeartbeats 4000000 in
set_option maxRecDepth 100000 in
theorem pkX2_settle_b41 (E : pd_E) (l : Launch) {al : Bool} {sh : pd_S} {n : Nat} {Fz : pd_F}  : ∀ (k : Nat) (F : pd_F) (x0 : Int) (x1 : Int) (x2 : Int), pfX2_settle_b41 sh n  k F x0 x1 x2 = some Fz → pd_V E l (pd_rm 2 0 0) (RX2, cX2_settle, 4, none, "settle") (pd_Qm E al none sh Fz 0 0) al 0 0 sh F 41 [pd_R x0, pd_R x1, pd_I x2, pd_N] [] := by
  intro k
  induction k with
  | zero => intro F x0 x1 x2 hf; exact absurd hf (by unfold pfX2_settle_b41; exact fun h => nomatch h)
  | succ k ih =>
    intro F x0 x1 x2 hf
    unfold pfX2_settle_b41 at hf
    refine pd_iload_n (i := 2) dX2_settle_41 rfl rfl ?_
    refine pd_aload_n (i := 0) dX2_settle_42 rfl rfl ?_
    obtain ⟨hg7, hf⟩ := pd_ig hf
    refine pd_get (x := pd_I (F x0 3)) 3 dX2_settle_43 (show vwCl[2]? = some (RX2, TX2, 8) from rfl) pin_2 (by decide) pq_203 hg7 rfl ?_
    refine pd_icmp_ge (tgt := 128) dX2_settle_46 (by decide) (fun hc => ?_) (fun hc => ?_)
    · have hf := pd_ip hf hc
      exact pd_weak (L' := [pd_R x0, pd_N, pd_N, pd_N]) ⟨Or.inr rfl, Or.inl rfl, Or.inl rfl, Or.inr rfl, trivial⟩ (pkX2_settle_b128 E l _ _ hf)
    · have hf := pd_in_ hf hc
      refine pd_aload_n (i := 0) dX2_settle_49 rfl rfl ?_
      refine pd_dup dX2_settle_50 rfl ?_
      refine pd_get (x := pd_I (F x0 5)) 5 dX2_settle_51 (show vwCl[2]? = some (RX2, TX2, 8) from rfl) pin_2 (by decide) pq_215 hg7 rfl ?_
      refine pd_aload_n (i := 0) dX2_settle_54 rfl rfl ?_
      refine pd_get (x := pd_R (F x0 1)) 1 dX2_settle_55 (show vwCl[2]? = some (RX2, TX2, 8) from rfl) pin_2 (by decide) pq_205 hg7 rfl ?_
      refine pd_iload_n (i := 2) dX2_settle_58 rfl rfl ?_
      obtain ⟨hg8, hf⟩ := pd_ig hf
      refine pd_iald dX2_settle_59 hg8 ?_
      refine pd_iadd dX2_settle_60 ?_
      refine pd_put (n := (pd_w ((F x0 5) + (F (F x0 1) x2)))) (x := pd_I (pd_w ((F x0 5) + (F (F x0 1) x2)))) 5 dX2_settle_61 (show vwCl[2]? = some (RX2, TX2, 8) from rfl) pin_2 tyX2_ok nmX2 (by decide) pq_215 rfl hg7 rfl pd_nrI pd_ftI ?_
      refine pd_topF (fun F9 eF9 => ?_)
      have hf := pd_lt hf eF9
      clear eF9
      refine pd_aload_n (i := 0) dX2_settle_64 rfl rfl ?_
      refine pd_get (x := pd_R (F9 x0 0)) 0 dX2_settle_65 (show vwCl[2]? = some (RX2, TX2, 8) from rfl) pin_2 (by decide) pq_204 hg7 rfl ?_
      refine pd_iload_n (i := 2) dX2_settle_68 rfl rfl ?_
      obtain ⟨hg10, hf⟩ := pd_ig hf
      refine pd_iald dX2_settle_69 hg10 ?_
      refine pd_topI (fun x3_70 ex3_70 => ?_)
      have hf := pd_lt hf ex3_70
      clear ex3_70
      refine pd_istore_n (L' := [pd_R x0, pd_R x1, pd_I x2, pd_I x3_70]) dX2_settle_70 rfl (by decide) rfl ?_
      refine pd_iload_n (i := 3) dX2_settle_71 rfl rfl ?_
      refine pd_if_lt (tgt := 97) dX2_settle_72 (by decide) (fun hc => ?_) (fun hc => ?_)
      · have hf := pd_ip hf hc
        exact pd_weak (L' := [pd_R x0, pd_R x1, pd_I x2, pd_I x3_70]) ⟨Or.inr rfl, Or.inr rfl, Or.inr rfl, Or.inr rfl, trivial⟩ (pkX2_settle_b97 E l ih _ _ _ _ _ hf)
      · have hf := pd_in_ hf hc
        refine pd_iload_n (i := 3) dX2_settle_75 rfl rfl ?_
        refine pd_aload_n (i := 0) dX2_settle_76 rfl rfl ?_
        refine pd_get (x := pd_R (F9 x0 2)) 2 dX2_settle_77 (show vwCl[2]? = some (RX2, TX2, 8) from rfl) pin_2 (by decide) pq_206 hg7 rfl ?_
        obtain ⟨hg11, hf⟩ := pd_ig hf
        refine pd_alen dX2_settle_80 (by decide) hg11 ?_
        refine pd_icmp_ge (tgt := 97) dX2_settle_81 (by decide) (fun hc => ?_) (fun hc => ?_)
        · have hf := pd_ip hf hc
          exact pd_weak (L' := [pd_R x0, pd_R x1, pd_I x2, pd_I x3_70]) ⟨Or.inr rfl, Or.inr rfl, Or.inr rfl, Or.inr rfl, trivial⟩ (pkX2_settle_b97 E l ih _ _ _ _ _ hf)
        · have hf := pd_in_ hf hc
          refine pd_aload_n (i := 0) dX2_settle_84 rfl rfl ?_
          refine pd_get (x := pd_R (F9 x0 2)) 2 dX2_settle_85 (show vwCl[2]? = some (RX2, TX2, 8) from rfl) pin_2 (by decide) pq_206 hg7 rfl ?_
          refine pd_iload_n (i := 3) dX2_settle_88 rfl rfl ?_
          refine pd_dup2 dX2_settle_89 rfl rfl ?_
          obtain ⟨hg12, hf⟩ := pd_ig hf
          refine pd_iald dX2_settle_90 hg12 ?_
          refine pd_iconst dX2_settle_91 (by decide) ?_
          refine pd_iadd dX2_settle_92 ?_
          refine pd_iast dX2_settle_93 hg12 ?_
          refine pd_topF (fun F13 eF13 => ?_)
          have hf := pd_lt hf eF13
          clear eF13
          refine pd_goto (tgt := 122) dX2_settle_94 (by decide) ?_
          exact pd_weak (L' := [pd_R x0, pd_R x1, pd_I x2, pd_N]) ⟨Or.inr rfl, Or.inr rfl, Or.inr rfl, Or.inl rfl, trivial⟩ (pkX2_settle_b122 E l ih _ _ _ _ hf)
set_option maxHeartbeats 4000000 in
set_option maxRecDepth 100000 in
theorem pkX2_settle_b39 (E : pd_E) (l : Launch) {al : Bool} {sh : pd_S} {n : Nat} {Fz : pd_F}  (F : pd_F) (x0 : Int) (x1 : Int) (hf : pfX2_settle_b39 sh n  F x0 x1 = some Fz) : pd_V E l (pd_rm 2 0 0) (RX2, cX2_settle, 4, none, "settle") (pd_Qm E al none sh Fz 0 0) al 0 0 sh F 39 [pd_R x0, pd_R x1, pd_N, pd_N] [] := by
  unfold pfX2_settle_b39 at hf
  refine pd_iconst dX2_settle_39 (by decide) ?_
  refine pd_istore_n (L' := [pd_R x0, pd_R x1, pd_I 0, pd_N]) dX2_settle_40 rfl (by decide) rfl ?_
  exact pd_weak (L' := [pd_R x0, pd_R x1, pd_I 0, pd_N]) ⟨Or.inr rfl, Or.inr rfl, Or.inr rfl, Or.inr rfl, trivial⟩ (pkX2_settle_b41 E l n _ _ _ _ hf)
set_option maxHeartbeats 4000000 in
set_option maxRecDepth 100000 in
theorem pkX2_settle_b17 (E : pd_E) (l : Launch) {al : Bool} {sh : pd_S} {n : Nat} {Fz : pd_F}  : ∀ (k : Nat) (F : pd_F) (x0 : Int) (x1 : Int) (x2 : Int), pfX2_settle_b17 sh n  k F x0 x1 x2 = some Fz → pd_V E l (pd_rm 2 0 0) (RX2, cX2_settle, 4, none, "settle") (pd_Qm E al none sh Fz 0 0) al 0 0 sh F 17 [pd_R x0, pd_R x1, pd_I x2, pd_N] [] := by
  intro k
  induction k with
  | zero => intro F x0 x1 x2 hf; exact absurd hf (by unfold pfX2_settle_b17; exact fun h => nomatch h)
  | succ k ih =>
    intro F x0 x1 x2 hf
    unfold pfX2_settle_b17 at hf
    refine pd_iload_n (i := 2) dX2_settle_17 rfl rfl ?_
    refine pd_aload_n (i := 0) dX2_settle_18 rfl rfl ?_
    obtain ⟨hg14, hf⟩ := pd_ig hf
    refine pd_get (x := pd_R (F x0 2)) 2 dX2_settle_19 (show vwCl[2]? = some (RX2, TX2, 8) from rfl) pin_2 (by decide) pq_206 hg14 rfl ?_
    obtain ⟨hg15, hf⟩ := pd_ig hf
    refine pd_alen dX2_settle_22 (by decide) hg15 ?_
    refine pd_icmp_ge (tgt := 39) dX2_settle_23 (by decide) (fun hc => ?_) (fun hc => ?_)
    · have hf := pd_ip hf hc
      exact pd_weak (L' := [pd_R x0, pd_R x1, pd_N, pd_N]) ⟨Or.inr rfl, Or.inr rfl, Or.inl rfl, Or.inr rfl, trivial⟩ (pkX2_settle_b39 E l _ _ _ hf)
    · have hf := pd_in_ hf hc
      refine pd_aload_n (i := 0) dX2_settle_26 rfl rfl ?_
      refine pd_get (x := pd_R (F x0 2)) 2 dX2_settle_27 (show vwCl[2]? = some (RX2, TX2, 8) from rfl) pin_2 (by decide) pq_206 hg14 rfl ?_
      refine pd_iload_n (i := 2) dX2_settle_30 rfl rfl ?_
      refine pd_iconst dX2_settle_31 (by decide) ?_
      obtain ⟨hg16, hf⟩ := pd_ig hf
      refine pd_iast dX2_settle_32 hg16 ?_
      refine pd_topF (fun F17 eF17 => ?_)
      have hf := pd_lt hf eF17
      clear eF17
      refine pd_iincN (L' := fun y => [pd_R x0, pd_R x1, pd_I y, pd_N]) dX2_settle_33 rfl (by decide) (by decide) (fun _ => rfl) (fun x2_33 ex2_33 => ?_)
      have hf := pd_lt hf ex2_33
      clear ex2_33
      refine pd_goto (tgt := 17) dX2_settle_36 (by decide) ?_
      exact pd_weak (L' := [pd_R x0, pd_R x1, pd_I x2_33, pd_N]) ⟨Or.inr rfl, Or.inr rfl, Or.inr rfl, Or.inr rfl, trivial⟩ (ih _ _ _ _ hf)
set_option maxHeartbeats 4000000 in
set_option maxRecDepth 100000 in
theorem pkX2_settle (l : Launch) {al : Bool} {sh : pd_S} {n : Nat} {F : pd_F} {x0 : Int} {x1 : Int} {Fz : pd_F} (hf : pfX2_settle sh n F x0 x1 = some Fz) : pd_C l yX2_settle (Cond.code yX2_settle cX2_settle 4 none :: pd_gt) (pd_rm 2 0 0) al 0 0 sh F [pd_R x0, pd_R x1] none sh Fz := by
  unfold pfX2_settle at hf
  refine pd_body (L := [pd_R x0, pd_R x1, pd_N, pd_N]) (by decide +kernel) (Nat.le_of_ble_eq_true rfl) rfl (fun E => ?_)
  refine pd_aload_n (i := 0) dX2_settle_0 rfl rfl ?_
  refine pd_iconst dX2_settle_1 (by decide) ?_
  obtain ⟨hg18, hf⟩ := pd_ig hf
  refine pd_put (n := 0) (x := pd_I 0) 5 dX2_settle_2 (show vwCl[2]? = some (RX2, TX2, 8) from rfl) pin_2 tyX2_ok nmX2 (by decide) pq_215 rfl hg18 rfl pd_nrI pd_ftI ?_
  refine pd_topF (fun F19 eF19 => ?_)
  have hf := pd_lt hf eF19
  clear eF19
  refine pd_aload_n (i := 0) dX2_settle_5 rfl rfl ?_
  refine pd_iconst dX2_settle_6 (by decide) ?_
  refine pd_put (n := 1) (x := pd_I 1) 6 dX2_settle_7 (show vwCl[2]? = some (RX2, TX2, 8) from rfl) pin_2 tyX2_ok nmX2 (by decide) pq_208 rfl hg18 rfl pd_nrI pd_ftI ?_
  refine pd_topF (fun F20 eF20 => ?_)
  have hf := pd_lt hf eF20
  clear eF20
  refine pd_aload_n (i := 0) dX2_settle_10 rfl rfl ?_
  refine pd_iconst dX2_settle_11 (by decide) ?_
  refine pd_put (n := 0) (x := pd_I 0) 7 dX2_settle_12 (show vwCl[2]? = some (RX2, TX2, 8) from rfl) pin_2 tyX2_ok nmX2 (by decide) pq_207 rfl hg18 rfl (pd_nrZ (by decide)) (pd_ftZ (by decide)) ?_
  refine pd_topF (fun F21 eF21 => ?_)
  have hf := pd_lt hf eF21
  clear eF21
  refine pd_iconst dX2_settle_15 (by decide) ?_
  refine pd_istore_n (L' := [pd_R x0, pd_R x1, pd_I 0, pd_N]) dX2_settle_16 rfl (by decide) rfl ?_
  exact pd_weak (L' := [pd_R x0, pd_R x1, pd_I 0, pd_N]) ⟨Or.inr rfl, Or.inr rfl, Or.inr rfl, Or.inr rfl, trivial⟩ (pkX2_settle_b17 E l n _ _ _ _ hf)
set_option maxHeartbeats 4000000 in
set_option maxRecDepth 100000 in
theorem pkX0_clear (l : Launch) {al : Bool} {sh : pd_S} {n : Nat} {F : pd_F} {x0 : Int} {Fz : pd_F} (hf : pfX0_clear sh n F x0 = some Fz) : pd_C l yX0_clear (Cond.code yX0_clear cX0_clear 1 none :: pd_gt) (pd_rm 1 0 0) al 0 0 sh F [pd_R x0] none sh Fz := by
  unfold pfX0_clear at hf
  refine pd_body (L := [pd_R x0]) (by decide +kernel) (Nat.le_of_ble_eq_true rfl) rfl (fun E => ?_)
  refine pd_aload_n (i := 0) dX0_clear_0 rfl rfl ?_
  refine pd_iconst dX0_clear_1 (by decide) ?_
  obtain ⟨hg1, hf⟩ := pd_ig hf
  refine pd_put (n := 0) (x := pd_I 0) 9 dX0_clear_2 (show vwCl[0]? = some (RX0, TX0, 15) from rfl) pin_0 tyX0_ok nmX0 (by decide) pq_216 rfl hg1 rfl pd_nrI pd_ftI ?_
  refine pd_topF (fun F2 eF2 => ?_)
  have hf := pd_lt hf eF2
  clear eF2
  refine pd_aload_n (i := 0) dX0_clear_5 rfl rfl ?_
  refine pd_iconst dX0_clear_6 (by decide) ?_
  refine pd_put (n := 0) (x := pd_I 0) 10 dX0_clear_7 (show vwCl[0]? = some (RX0, TX0, 15) from rfl) pin_0 tyX0_ok nmX0 (by decide) pq_217 rfl hg1 rfl pd_nrI pd_ftI ?_
  refine pd_topF (fun F3 eF3 => ?_)
  have hf := pd_lt hf eF3
  clear eF3
  refine pd_aload_n (i := 0) dX0_clear_10 rfl rfl ?_
  refine pd_iconst dX0_clear_11 (by decide) ?_
  refine pd_put (n := 0) (x := pd_I 0) 11 dX0_clear_12 (show vwCl[0]? = some (RX0, TX0, 15) from rfl) pin_0 tyX0_ok nmX0 (by decide) pq_218 rfl hg1 rfl pd_nrI pd_ftI ?_
  refine pd_topF (fun F4 eF4 => ?_)
  have hf := pd_lt hf eF4
  clear eF4
  refine pd_aload_n (i := 0) dX0_clear_15 rfl rfl ?_
  refine pd_iconst dX0_clear_16 (by decide) ?_
  refine pd_put (n := 0) (x := pd_I 0) 12 dX0_clear_17 (show vwCl[0]? = some (RX0, TX0, 15) from rfl) pin_0 tyX0_ok nmX0 (by decide) pq_219 rfl hg1 rfl pd_nrI pd_ftI ?_
  refine pd_topF (fun F5 eF5 => ?_)
  have hf := pd_lt hf eF5
  clear eF5
  refine pd_aload_n (i := 0) dX0_clear_20 rfl rfl ?_
  refine pd_iconst dX0_clear_21 (by decide) ?_
  refine pd_put (n := 0) (x := pd_I 0) 13 dX0_clear_22 (show vwCl[0]? = some (RX0, TX0, 15) from rfl) pin_0 tyX0_ok nmX0 (by decide) pq_220 rfl hg1 rfl pd_nrI pd_ftI ?_
  refine pd_topF (fun F6 eF6 => ?_)
  have hf := pd_lt hf eF6
  clear eF6
  refine pd_aload_n (i := 0) dX0_clear_25 rfl rfl ?_
  refine pd_iconst dX0_clear_26 (by decide) ?_
  refine pd_put (n := 0) (x := pd_I 0) 14 dX0_clear_27 (show vwCl[0]? = some (RX0, TX0, 15) from rfl) pin_0 tyX0_ok nmX0 (by decide) pq_221 rfl hg1 rfl pd_nrI pd_ftI ?_
  refine pd_topF (fun F7 eF7 => ?_)
  have hf := pd_lt hf eF7
  clear eF7
  refine pd_aload_n (i := 0) dX0_clear_30 rfl rfl ?_
  refine pd_get (x := pd_R (F7 x0 6)) 6 dX0_clear_31 (show vwCl[0]? = some (RX0, TX0, 15) from rfl) pin_0 (by decide) pq_222 hg1 rfl ?_
  refine pd_iconst dX0_clear_34 (by decide) ?_
  refine pd_iconst dX0_clear_35 (by decide) ?_
  obtain ⟨hg8, hf⟩ := pd_ig hf
  refine pd_iast dX0_clear_36 hg8 ?_
  refine pd_topF (fun F9 eF9 => ?_)
  have hf := pd_lt hf eF9
  clear eF9
  refine pd_aload_n (i := 0) dX0_clear_37 rfl rfl ?_
  refine pd_get (x := pd_R (F9 x0 6)) 6 dX0_clear_38 (show vwCl[0]? = some (RX0, TX0, 15) from rfl) pin_0 (by decide) pq_222 hg1 rfl ?_
  refine pd_iconst dX0_clear_41 (by decide) ?_
  refine pd_iconst dX0_clear_42 (by decide) ?_
  obtain ⟨hg10, hf⟩ := pd_ig hf
  refine pd_iast dX0_clear_43 hg10 ?_
  refine pd_topF (fun F11 eF11 => ?_)
  have hf := pd_lt hf eF11
  clear eF11
  refine pd_aload_n (i := 0) dX0_clear_44 rfl rfl ?_
  refine pd_get (x := pd_R (F11 x0 6)) 6 dX0_clear_45 (show vwCl[0]? = some (RX0, TX0, 15) from rfl) pin_0 (by decide) pq_222 hg1 rfl ?_
  refine pd_iconst dX0_clear_48 (by decide) ?_
  refine pd_iconst dX0_clear_49 (by decide) ?_
  obtain ⟨hg12, hf⟩ := pd_ig hf
  refine pd_iast dX0_clear_50 hg12 ?_
  refine pd_topF (fun F13 eF13 => ?_)
  have hf := pd_lt hf eF13
  clear eF13
  obtain h2 := pd_inj1 hf
  subst h2
  exact pd_vret dX0_clear_51 rfl (Nat.le_refl 0) (Nat.le_refl 0)
set_option maxHeartbeats 4000000 in
set_option maxRecDepth 100000 in
theorem pkX0_settleUntold_b35 (E : pd_E) (l : Launch) {al : Bool} {sh : pd_S} {n : Nat} {Fz : pd_F}  (F : pd_F) (x0 : Int) (hf : pfX0_settleUntold_b35 sh n  F x0 = some Fz) : pd_V E l (pd_rm 1 0 0) (RX0, cX0_settleUntold, 1, none, "settleUntold") (pd_Qm E al none sh Fz 0 0) al 0 0 sh F 35 [pd_R x0] [] := by
  unfold pfX0_settleUntold_b35 at hf
  refine pd_aload_n (i := 0) dX0_settleUntold_35 rfl rfl ?_
  obtain ⟨hg1, hf⟩ := pd_ig hf
  refine pd_get (x := pd_R (F x0 6)) 6 dX0_settleUntold_36 (show vwCl[0]? = some (RX0, TX0, 15) from rfl) pin_0 (by decide) pq_222 hg1 rfl ?_
  refine pd_iconst dX0_settleUntold_39 (by decide) ?_
  obtain ⟨hg2, hf⟩ := pd_ig hf
  refine pd_iald dX0_settleUntold_40 hg2 ?_
  refine pd_iconst dX0_settleUntold_41 (by decide) ?_
  refine pd_icmp_ne (tgt := 53) dX0_settleUntold_42 (by decide) (fun hc => ?_) (fun hc => ?_)
  · have hf := pd_ip hf hc
    obtain h2 := pd_inj1 hf
    subst h2
    exact pd_vret dX0_settleUntold_53 rfl (Nat.le_refl 0) (Nat.le_refl 0)
  · have hf := pd_iq hf hc
    refine pd_aload_n (i := 0) dX0_settleUntold_45 rfl rfl ?_
    refine pd_get (x := pd_R (F x0 6)) 6 dX0_settleUntold_46 (show vwCl[0]? = some (RX0, TX0, 15) from rfl) pin_0 (by decide) pq_222 hg1 rfl ?_
    refine pd_iconst dX0_settleUntold_49 (by decide) ?_
    refine pd_ldc (x := 50000) dX0_settleUntold_50 pq_223 (by decide +kernel) ?_
    refine pd_iast dX0_settleUntold_52 hg2 ?_
    refine pd_topF (fun F3 eF3 => ?_)
    have hf := pd_lt hf eF3
    clear eF3
    obtain h2 := pd_inj1 hf
    subst h2
    exact pd_vret dX0_settleUntold_53 rfl (Nat.le_refl 0) (Nat.le_refl 0)
set_option maxHeartbeats 4000000 in
set_option maxRecDepth 100000 in
theorem pkX0_settleUntold_b17 (E : pd_E) (l : Launch) {al : Bool} {sh : pd_S} {n : Nat} {Fz : pd_F}  (F : pd_F) (x0 : Int) (hf : pfX0_settleUntold_b17 sh n  F x0 = some Fz) : pd_V E l (pd_rm 1 0 0) (RX0, cX0_settleUntold, 1, none, "settleUntold") (pd_Qm E al none sh Fz 0 0) al 0 0 sh F 17 [pd_R x0] [] := by
  unfold pfX0_settleUntold_b17 at hf
  refine pd_aload_n (i := 0) dX0_settleUntold_17 rfl rfl ?_
  obtain ⟨hg4, hf⟩ := pd_ig hf
  refine pd_get (x := pd_R (F x0 6)) 6 dX0_settleUntold_18 (show vwCl[0]? = some (RX0, TX0, 15) from rfl) pin_0 (by decide) pq_222 hg4 rfl ?_
  refine pd_iconst dX0_settleUntold_21 (by decide) ?_
  obtain ⟨hg5, hf⟩ := pd_ig hf
  refine pd_iald dX0_settleUntold_22 hg5 ?_
  refine pd_iconst dX0_settleUntold_23 (by decide) ?_
  refine pd_icmp_ne (tgt := 35) dX0_settleUntold_24 (by decide) (fun hc => ?_) (fun hc => ?_)
  · have hf := pd_ip hf hc
    exact pd_weak (L' := [pd_R x0]) ⟨Or.inr rfl, trivial⟩ (pkX0_settleUntold_b35 E l _ _ hf)
  · have hf := pd_iq hf hc
    refine pd_aload_n (i := 0) dX0_settleUntold_27 rfl rfl ?_
    refine pd_get (x := pd_R (F x0 6)) 6 dX0_settleUntold_28 (show vwCl[0]? = some (RX0, TX0, 15) from rfl) pin_0 (by decide) pq_222 hg4 rfl ?_
    refine pd_iconst dX0_settleUntold_31 (by decide) ?_
    refine pd_ldc (x := 100000) dX0_settleUntold_32 pq_224 (by decide +kernel) ?_
    refine pd_iast dX0_settleUntold_34 hg5 ?_
    refine pd_topF (fun F6 eF6 => ?_)
    have hf := pd_lt hf eF6
    clear eF6
    exact pd_weak (L' := [pd_R x0]) ⟨Or.inr rfl, trivial⟩ (pkX0_settleUntold_b35 E l _ _ hf)
set_option maxHeartbeats 4000000 in
set_option maxRecDepth 100000 in
theorem pkX0_settleUntold (l : Launch) {al : Bool} {sh : pd_S} {n : Nat} {F : pd_F} {x0 : Int} {Fz : pd_F} (hf : pfX0_settleUntold sh n F x0 = some Fz) : pd_C l yX0_settleUntold (Cond.code yX0_settleUntold cX0_settleUntold 1 none :: pd_gt) (pd_rm 1 0 0) al 0 0 sh F [pd_R x0] none sh Fz := by
  unfold pfX0_settleUntold at hf
  refine pd_body (L := [pd_R x0]) (by decide +kernel) (Nat.le_of_ble_eq_true rfl) rfl (fun E => ?_)
  refine pd_aload_n (i := 0) dX0_settleUntold_0 rfl rfl ?_
  obtain ⟨hg7, hf⟩ := pd_ig hf
  refine pd_get (x := pd_R (F x0 6)) 6 dX0_settleUntold_1 (show vwCl[0]? = some (RX0, TX0, 15) from rfl) pin_0 (by decide) pq_222 hg7 rfl ?_
  refine pd_iconst dX0_settleUntold_4 (by decide) ?_
  obtain ⟨hg8, hf⟩ := pd_ig hf
  refine pd_iald dX0_settleUntold_5 hg8 ?_
  refine pd_iconst dX0_settleUntold_6 (by decide) ?_
  refine pd_icmp_ne (tgt := 17) dX0_settleUntold_7 (by decide) (fun hc => ?_) (fun hc => ?_)
  · have hf := pd_ip hf hc
    exact pd_weak (L' := [pd_R x0]) ⟨Or.inr rfl, trivial⟩ (pkX0_settleUntold_b17 E l _ _ hf)
  · have hf := pd_iq hf hc
    refine pd_aload_n (i := 0) dX0_settleUntold_10 rfl rfl ?_
    refine pd_get (x := pd_R (F x0 6)) 6 dX0_settleUntold_11 (show vwCl[0]? = some (RX0, TX0, 15) from rfl) pin_0 (by decide) pq_222 hg7 rfl ?_
    refine pd_iconst dX0_settleUntold_14 (by decide) ?_
    refine pd_iconst dX0_settleUntold_15 (by decide) ?_
    refine pd_iast dX0_settleUntold_16 hg8 ?_
    refine pd_topF (fun F9 eF9 => ?_)
    have hf := pd_lt hf eF9
    clear eF9
    exact pd_weak (L' := [pd_R x0]) ⟨Or.inr rfl, trivial⟩ (pkX0_settleUntold_b17 E l _ _ hf)
set_option maxHeartbeats 4000000 in
set_option maxRecDepth 100000 in
theorem pkX0_indexOfMark_b2 (E : pd_E) (l : Launch) {al : Bool} {sh : pd_S} {n : Nat} {ρ : Int} {Fz : pd_F}  : ∀ (k : Nat) (F : pd_F) (x0 : Int) (x1 : Int) (x2 : Int), pfX0_indexOfMark_b2 sh n  k F x0 x1 x2 = some (ρ, Fz) → pd_V E l (pd_rm 1 0 0) (RX0, cX0_indexOfMark, 3, (some .int), "indexOfMark") (pd_Qm E al (some (pd_I ρ)) sh Fz 0 0) al 0 0 sh F 2 [pd_R x0, pd_I x1, pd_I x2] [] := by
  intro k
  induction k with
  | zero => intro F x0 x1 x2 hf; exact absurd hf (by unfold pfX0_indexOfMark_b2; exact fun h => nomatch h)
  | succ k ih =>
    intro F x0 x1 x2 hf
    unfold pfX0_indexOfMark_b2 at hf
    refine pd_iload_n (i := 2) dX0_indexOfMark_2 rfl rfl ?_
    refine pd_aload_n (i := 0) dX0_indexOfMark_3 rfl rfl ?_
    obtain ⟨hg1, hf⟩ := pd_ig hf
    refine pd_get (x := pd_I (F x0 14)) 14 dX0_indexOfMark_4 (show vwCl[0]? = some (RX0, TX0, 15) from rfl) pin_0 (by decide) pq_221 hg1 rfl ?_
    refine pd_icmp_ge (tgt := 28) dX0_indexOfMark_7 (by decide) (fun hc => ?_) (fun hc => ?_)
    · have hf := pd_ip hf hc
      refine pd_iconst dX0_indexOfMark_28 (by decide) ?_
      obtain ⟨h1, h2⟩ := pd_inj hf
      subst h1 h2
      exact pd_iret dX0_indexOfMark_29 rfl (Nat.le_refl 0) (Nat.le_refl 0)
    · have hf := pd_in_ hf hc
      refine pd_aload_n (i := 0) dX0_indexOfMark_10 rfl rfl ?_
      refine pd_get (x := pd_R (F x0 7)) 7 dX0_indexOfMark_11 (show vwCl[0]? = some (RX0, TX0, 15) from rfl) pin_0 (by decide) pq_225 hg1 rfl ?_
      refine pd_iload_n (i := 2) dX0_indexOfMark_14 rfl rfl ?_
      obtain ⟨hg2, hf⟩ := pd_ig hf
      refine pd_iald dX0_indexOfMark_15 hg2 ?_
      refine pd_iload_n (i := 1) dX0_indexOfMark_16 rfl rfl ?_
      refine pd_icmp_ne (tgt := 22) dX0_indexOfMark_17 (by decide) (fun hc => ?_) (fun hc => ?_)
      · have hf := pd_ip hf hc
        refine pd_iincN (L' := fun y => [pd_R x0, pd_I x1, pd_I y]) dX0_indexOfMark_22 rfl (by decide) (by decide) (fun _ => rfl) (fun x2_22 ex2_22 => ?_)
        have hf := pd_lt hf ex2_22
        clear ex2_22
        refine pd_goto (tgt := 2) dX0_indexOfMark_25 (by decide) ?_
        exact pd_weak (L' := [pd_R x0, pd_I x1, pd_I x2_22]) ⟨Or.inr rfl, Or.inr rfl, Or.inr rfl, trivial⟩ (ih _ _ _ _ hf)
      · have hf := pd_iq hf hc
        refine pd_iload_n (i := 2) dX0_indexOfMark_20 rfl rfl ?_
        obtain ⟨h1, h2⟩ := pd_inj hf
        subst h1 h2
        exact pd_iret dX0_indexOfMark_21 rfl (Nat.le_refl 0) (Nat.le_refl 0)
set_option maxHeartbeats 4000000 in
set_option maxRecDepth 100000 in
theorem pkX0_indexOfMark (l : Launch) {al : Bool} {sh : pd_S} {n : Nat} {F : pd_F} {x0 : Int} {x1 : Int} {ρ : Int} {Fz : pd_F} (hf : pfX0_indexOfMark sh n F x0 x1 = some (ρ, Fz)) : pd_C l yX0_indexOfMark (Cond.code yX0_indexOfMark cX0_indexOfMark 3 (some .int) :: pd_gt) (pd_rm 1 0 0) al 0 0 sh F [pd_R x0, pd_I x1] (some (pd_I ρ)) sh Fz := by
  unfold pfX0_indexOfMark at hf
  refine pd_body (L := [pd_R x0, pd_I x1, pd_N]) (by decide +kernel) (Nat.le_of_ble_eq_true rfl) rfl (fun E => ?_)
  refine pd_iconst dX0_indexOfMark_0 (by decide) ?_
  refine pd_istore_n (L' := [pd_R x0, pd_I x1, pd_I 0]) dX0_indexOfMark_1 rfl (by decide) rfl ?_
  exact pd_weak (L' := [pd_R x0, pd_I x1, pd_I 0]) ⟨Or.inr rfl, Or.inr rfl, Or.inr rfl, trivial⟩ (pkX0_indexOfMark_b2 E l n _ _ _ _ hf)
set_option maxHeartbeats 4000000 in
set_option maxRecDepth 100000 in
theorem pkX0_find_b69 (E : pd_E) (l : Launch) {al : Bool} {sh : pd_S} {n : Nat} {ρ : Int} {Fz : pd_F}  : ∀ (k : Nat) (F : pd_F) (x0 : Int) (x1 : Int) (x3 : Int), pfX0_find_b69 sh n  k F x0 x1 x3 = some (ρ, Fz) → pd_V E l (pd_rm 1 0 0) (RX0, cX0_find, 4, (some .int), "find") (pd_Qm E al (some (pd_I ρ)) sh Fz 0 0) al 0 0 sh F 69 [pd_R x0, pd_J x1, pd_N, pd_I x3] [] := by
  intro k
  induction k with
  | zero => intro F x0 x1 x3 hf; exact absurd hf (by unfold pfX0_find_b69; exact fun h => nomatch h)
  | succ k ih =>
    intro F x0 x1 x3 hf
    unfold pfX0_find_b69 at hf
    refine pd_iload_n (i := 3) dX0_find_69 rfl rfl ?_
    refine pd_aload_n (i := 0) dX0_find_70 rfl rfl ?_
    obtain ⟨hg1, hf⟩ := pd_ig hf
    refine pd_get (x := pd_I (F x0 11)) 11 dX0_find_71 (show vwCl[0]? = some (RX0, TX0, 15) from rfl) pin_0 (by decide) pq_218 hg1 rfl ?_
    refine pd_icmp_ge (tgt := 102) dX0_find_74 (by decide) (fun hc => ?_) (fun hc => ?_)
    · have hf := pd_ip hf hc
      refine pd_iconst dX0_find_102 (by decide) ?_
      obtain ⟨h1, h2⟩ := pd_inj hf
      subst h1 h2
      exact pd_iret dX0_find_103 rfl (Nat.le_refl 0) (Nat.le_refl 0)
    · have hf := pd_in_ hf hc
      refine pd_aload_n (i := 0) dX0_find_77 rfl rfl ?_
      refine pd_get (x := pd_R (F x0 2)) 2 dX0_find_78 (show vwCl[0]? = some (RX0, TX0, 15) from rfl) pin_0 (by decide) pq_226 hg1 rfl ?_
      refine pd_iload_n (i := 3) dX0_find_81 rfl rfl ?_
      obtain ⟨hg2, hf⟩ := pd_ig hf
      refine pd_aald dX0_find_82 hg2 ?_
      obtain ⟨hg3, hf⟩ := pd_ig hf
      refine pd_getN (x := pd_J (F (F (F x0 2) x3) 4)) 4 dX0_find_83 (show vwCl[2]? = some (RX2, TX2, 8) from rfl) pin_2 (by decide) pq_227 hg3 rfl ?_
      refine pd_lload_n (i := 1) dX0_find_86 rfl rfl ?_
      refine pd_lcmp_ne (tgt := 96) dX0_find_87 dX0_find_88 (by decide) (fun hc => ?_) (fun hc => ?_)
      · have hf := pd_ip hf hc
        refine pd_iincN (L' := fun y => [pd_R x0, pd_J x1, pd_N, pd_I y]) dX0_find_96 rfl (by decide) (by decide) (fun _ => rfl) (fun x3_96 ex3_96 => ?_)
        have hf := pd_lt hf ex3_96
        clear ex3_96
        refine pd_goto (tgt := 69) dX0_find_99 (by decide) ?_
        exact pd_weak (L' := [pd_R x0, pd_J x1, pd_N, pd_I x3_96]) ⟨Or.inr rfl, Or.inr rfl, Or.inr rfl, Or.inr rfl, trivial⟩ (ih _ _ _ _ hf)
      · have hf := pd_iq hf hc
        refine pd_bipush dX0_find_91 (by decide) ?_
        refine pd_iload_n (i := 3) dX0_find_93 rfl rfl ?_
        refine pd_iadd dX0_find_94 ?_
        obtain ⟨h1, h2⟩ := pd_inj hf
        subst h1 h2
        exact pd_iret dX0_find_95 rfl (Nat.le_refl 0) (Nat.le_refl 0)
set_option maxHeartbeats 4000000 in
set_option maxRecDepth 100000 in
theorem pkX0_find_b67 (E : pd_E) (l : Launch) {al : Bool} {sh : pd_S} {n : Nat} {ρ : Int} {Fz : pd_F}  (F : pd_F) (x0 : Int) (x1 : Int) (hf : pfX0_find_b67 sh n  F x0 x1 = some (ρ, Fz)) : pd_V E l (pd_rm 1 0 0) (RX0, cX0_find, 4, (some .int), "find") (pd_Qm E al (some (pd_I ρ)) sh Fz 0 0) al 0 0 sh F 67 [pd_R x0, pd_J x1, pd_N, pd_N] [] := by
  unfold pfX0_find_b67 at hf
  refine pd_iconst dX0_find_67 (by decide) ?_
  refine pd_istore_n (L' := [pd_R x0, pd_J x1, pd_N, pd_I 0]) dX0_find_68 rfl (by decide) rfl ?_
  exact pd_weak (L' := [pd_R x0, pd_J x1, pd_N, pd_I 0]) ⟨Or.inr rfl, Or.inr rfl, Or.inr rfl, Or.inr rfl, trivial⟩ (pkX0_find_b69 E l n _ _ _ _ hf)
set_option maxHeartbeats 4000000 in
set_option maxRecDepth 100000 in
theorem pkX0_find_b34 (E : pd_E) (l : Launch) {al : Bool} {sh : pd_S} {n : Nat} {ρ : Int} {Fz : pd_F}  : ∀ (k : Nat) (F : pd_F) (x0 : Int) (x1 : Int) (x3 : Int), pfX0_find_b34 sh n  k F x0 x1 x3 = some (ρ, Fz) → pd_V E l (pd_rm 1 0 0) (RX0, cX0_find, 4, (some .int), "find") (pd_Qm E al (some (pd_I ρ)) sh Fz 0 0) al 0 0 sh F 34 [pd_R x0, pd_J x1, pd_N, pd_I x3] [] := by
  intro k
  induction k with
  | zero => intro F x0 x1 x3 hf; exact absurd hf (by unfold pfX0_find_b34; exact fun h => nomatch h)
  | succ k ih =>
    intro F x0 x1 x3 hf
    unfold pfX0_find_b34 at hf
    refine pd_iload_n (i := 3) dX0_find_34 rfl rfl ?_
    refine pd_aload_n (i := 0) dX0_find_35 rfl rfl ?_
    obtain ⟨hg4, hf⟩ := pd_ig hf
    refine pd_get (x := pd_I (F x0 10)) 10 dX0_find_36 (show vwCl[0]? = some (RX0, TX0, 15) from rfl) pin_0 (by decide) pq_217 hg4 rfl ?_
    refine pd_icmp_ge (tgt := 67) dX0_find_39 (by decide) (fun hc => ?_) (fun hc => ?_)
    · have hf := pd_ip hf hc
      exact pd_weak (L' := [pd_R x0, pd_J x1, pd_N, pd_N]) ⟨Or.inr rfl, Or.inr rfl, Or.inr rfl, Or.inl rfl, trivial⟩ (pkX0_find_b67 E l _ _ _ hf)
    · have hf := pd_in_ hf hc
      refine pd_aload_n (i := 0) dX0_find_42 rfl rfl ?_
      refine pd_get (x := pd_R (F x0 1)) 1 dX0_find_43 (show vwCl[0]? = some (RX0, TX0, 15) from rfl) pin_0 (by decide) pq_228 hg4 rfl ?_
      refine pd_iload_n (i := 3) dX0_find_46 rfl rfl ?_
      obtain ⟨hg5, hf⟩ := pd_ig hf
      refine pd_aald dX0_find_47 hg5 ?_
      obtain ⟨hg6, hf⟩ := pd_ig hf
      refine pd_getN (x := pd_J (F (F (F x0 1) x3) 4)) 4 dX0_find_48 (show vwCl[2]? = some (RX2, TX2, 8) from rfl) pin_2 (by decide) pq_227 hg6 rfl ?_
      refine pd_lload_n (i := 1) dX0_find_51 rfl rfl ?_
      refine pd_lcmp_ne (tgt := 61) dX0_find_52 dX0_find_53 (by decide) (fun hc => ?_) (fun hc => ?_)
      · have hf := pd_ip hf hc
        refine pd_iincN (L' := fun y => [pd_R x0, pd_J x1, pd_N, pd_I y]) dX0_find_61 rfl (by decide) (by decide) (fun _ => rfl) (fun x3_61 ex3_61 => ?_)
        have hf := pd_lt hf ex3_61
        clear ex3_61
        refine pd_goto (tgt := 34) dX0_find_64 (by decide) ?_
        exact pd_weak (L' := [pd_R x0, pd_J x1, pd_N, pd_I x3_61]) ⟨Or.inr rfl, Or.inr rfl, Or.inr rfl, Or.inr rfl, trivial⟩ (ih _ _ _ _ hf)
      · have hf := pd_iq hf hc
        refine pd_bipush dX0_find_56 (by decide) ?_
        refine pd_iload_n (i := 3) dX0_find_58 rfl rfl ?_
        refine pd_iadd dX0_find_59 ?_
        obtain ⟨h1, h2⟩ := pd_inj hf
        subst h1 h2
        exact pd_iret dX0_find_60 rfl (Nat.le_refl 0) (Nat.le_refl 0)
set_option maxHeartbeats 4000000 in
set_option maxRecDepth 100000 in
theorem pkX0_find_b32 (E : pd_E) (l : Launch) {al : Bool} {sh : pd_S} {n : Nat} {ρ : Int} {Fz : pd_F}  (F : pd_F) (x0 : Int) (x1 : Int) (hf : pfX0_find_b32 sh n  F x0 x1 = some (ρ, Fz)) : pd_V E l (pd_rm 1 0 0) (RX0, cX0_find, 4, (some .int), "find") (pd_Qm E al (some (pd_I ρ)) sh Fz 0 0) al 0 0 sh F 32 [pd_R x0, pd_J x1, pd_N, pd_N] [] := by
  unfold pfX0_find_b32 at hf
  refine pd_iconst dX0_find_32 (by decide) ?_
  refine pd_istore_n (L' := [pd_R x0, pd_J x1, pd_N, pd_I 0]) dX0_find_33 rfl (by decide) rfl ?_
  exact pd_weak (L' := [pd_R x0, pd_J x1, pd_N, pd_I 0]) ⟨Or.inr rfl, Or.inr rfl, Or.inr rfl, Or.inr rfl, trivial⟩ (pkX0_find_b34 E l n _ _ _ _ hf)
set_option maxHeartbeats 4000000 in
set_option maxRecDepth 100000 in
theorem pkX0_find_b2 (E : pd_E) (l : Launch) {al : Bool} {sh : pd_S} {n : Nat} {ρ : Int} {Fz : pd_F}  : ∀ (k : Nat) (F : pd_F) (x0 : Int) (x1 : Int) (x3 : Int), pfX0_find_b2 sh n  k F x0 x1 x3 = some (ρ, Fz) → pd_V E l (pd_rm 1 0 0) (RX0, cX0_find, 4, (some .int), "find") (pd_Qm E al (some (pd_I ρ)) sh Fz 0 0) al 0 0 sh F 2 [pd_R x0, pd_J x1, pd_N, pd_I x3] [] := by
  intro k
  induction k with
  | zero => intro F x0 x1 x3 hf; exact absurd hf (by unfold pfX0_find_b2; exact fun h => nomatch h)
  | succ k ih =>
    intro F x0 x1 x3 hf
    unfold pfX0_find_b2 at hf
    refine pd_iload_n (i := 3) dX0_find_2 rfl rfl ?_
    refine pd_aload_n (i := 0) dX0_find_3 rfl rfl ?_
    obtain ⟨hg7, hf⟩ := pd_ig hf
    refine pd_get (x := pd_I (F x0 9)) 9 dX0_find_4 (show vwCl[0]? = some (RX0, TX0, 15) from rfl) pin_0 (by decide) pq_216 hg7 rfl ?_
    refine pd_icmp_ge (tgt := 32) dX0_find_7 (by decide) (fun hc => ?_) (fun hc => ?_)
    · have hf := pd_ip hf hc
      exact pd_weak (L' := [pd_R x0, pd_J x1, pd_N, pd_N]) ⟨Or.inr rfl, Or.inr rfl, Or.inr rfl, Or.inl rfl, trivial⟩ (pkX0_find_b32 E l _ _ _ hf)
    · have hf := pd_in_ hf hc
      refine pd_aload_n (i := 0) dX0_find_10 rfl rfl ?_
      refine pd_get (x := pd_R (F x0 0)) 0 dX0_find_11 (show vwCl[0]? = some (RX0, TX0, 15) from rfl) pin_0 (by decide) pq_229 hg7 rfl ?_
      refine pd_iload_n (i := 3) dX0_find_14 rfl rfl ?_
      obtain ⟨hg8, hf⟩ := pd_ig hf
      refine pd_aald dX0_find_15 hg8 ?_
      obtain ⟨hg9, hf⟩ := pd_ig hf
      refine pd_getN (x := pd_J (F (F (F x0 0) x3) 2)) 2 dX0_find_16 (show vwCl[5]? = some (RX5, TX5, 5) from rfl) pin_5 (by decide) pq_230 hg9 rfl ?_
      refine pd_lload_n (i := 1) dX0_find_19 rfl rfl ?_
      refine pd_lcmp_ne (tgt := 26) dX0_find_20 dX0_find_21 (by decide) (fun hc => ?_) (fun hc => ?_)
      · have hf := pd_ip hf hc
        refine pd_iincN (L' := fun y => [pd_R x0, pd_J x1, pd_N, pd_I y]) dX0_find_26 rfl (by decide) (by decide) (fun _ => rfl) (fun x3_26 ex3_26 => ?_)
        have hf := pd_lt hf ex3_26
        clear ex3_26
        refine pd_goto (tgt := 2) dX0_find_29 (by decide) ?_
        exact pd_weak (L' := [pd_R x0, pd_J x1, pd_N, pd_I x3_26]) ⟨Or.inr rfl, Or.inr rfl, Or.inr rfl, Or.inr rfl, trivial⟩ (ih _ _ _ _ hf)
      · have hf := pd_iq hf hc
        refine pd_iload_n (i := 3) dX0_find_24 rfl rfl ?_
        obtain ⟨h1, h2⟩ := pd_inj hf
        subst h1 h2
        exact pd_iret dX0_find_25 rfl (Nat.le_refl 0) (Nat.le_refl 0)
set_option maxHeartbeats 4000000 in
set_option maxRecDepth 100000 in
theorem pkX0_find (l : Launch) {al : Bool} {sh : pd_S} {n : Nat} {F : pd_F} {x0 : Int} {x1 : Int} {ρ : Int} {Fz : pd_F} (hf : pfX0_find sh n F x0 x1 = some (ρ, Fz)) : pd_C l yX0_find (Cond.code yX0_find cX0_find 4 (some .int) :: pd_gt) (pd_rm 1 0 0) al 0 0 sh F [pd_R x0, pd_J x1] (some (pd_I ρ)) sh Fz := by
  unfold pfX0_find at hf
  refine pd_body (L := [pd_R x0, pd_J x1, pd_N, pd_N]) (by decide +kernel) (Nat.le_of_ble_eq_true rfl) rfl (fun E => ?_)
  refine pd_iconst dX0_find_0 (by decide) ?_
  refine pd_istore_n (L' := [pd_R x0, pd_J x1, pd_N, pd_I 0]) dX0_find_1 rfl (by decide) rfl ?_
  exact pd_weak (L' := [pd_R x0, pd_J x1, pd_N, pd_I 0]) ⟨Or.inr rfl, Or.inr rfl, Or.inr rfl, Or.inr rfl, trivial⟩ (pkX0_find_b2 E l n _ _ _ _ hf)
set_option maxHeartbeats 4000000 in
set_option maxRecDepth 100000 in
theorem pkX0_addHolder_b52 (E : pd_E) (l : Launch) {al : Bool} {sh : pd_S} {n : Nat} {Fz : pd_F}  (F : pd_F) (x0 : Int) (x2 : Int) (x3 : Int) (hf : pfX0_addHolder_b52 sh n  F x0 x2 x3 = some Fz) : pd_V E l (pd_rm 2 0 0) (RX0, cX0_addHolder, 4, none, "addHolder") (pd_Qm E al none sh Fz 0 0) al 0 0 sh F 52 [pd_R x0, pd_N, pd_I x2, pd_I x3] [] := by
  unfold pfX0_addHolder_b52 at hf
  refine pd_iload_n (i := 3) dX0_addHolder_52 rfl rfl ?_
  refine pd_iconst dX0_addHolder_53 (by decide) ?_
  refine pd_icmp_eq (tgt := 69) dX0_addHolder_54 (by decide) (fun hc => ?_) (fun hc => ?_)
  · have hf := pd_ip hf hc
    obtain h2 := pd_inj1 hf
    subst h2
    exact pd_vret dX0_addHolder_69 rfl (Nat.le_refl 0) (Nat.le_refl 0)
  · have hf := pd_in_ hf hc
    refine pd_aload_n (i := 0) dX0_addHolder_57 rfl rfl ?_
    obtain ⟨hg1, hf⟩ := pd_ig hf
    refine pd_get (x := pd_R (F x0 8)) 8 dX0_addHolder_58 (show vwCl[0]? = some (RX0, TX0, 15) from rfl) pin_0 (by decide) pq_231 hg1 rfl ?_
    refine pd_iload_n (i := 3) dX0_addHolder_61 rfl rfl ?_
    refine pd_dup2 dX0_addHolder_62 rfl rfl ?_
    obtain ⟨hg2, hf⟩ := pd_ig hf
    refine pd_iald dX0_addHolder_63 hg2 ?_
    refine pd_iconst dX0_addHolder_64 (by decide) ?_
    refine pd_iload_n (i := 2) dX0_addHolder_65 rfl rfl ?_
    refine pd_ishl dX0_addHolder_66 ?_
    refine pd_ior dX0_addHolder_67 ?_
    refine pd_iast dX0_addHolder_68 hg2 ?_
    refine pd_topF (fun F3 eF3 => ?_)
    have hf := pd_lt hf eF3
    clear eF3
    obtain h2 := pd_inj1 hf
    subst h2
    exact pd_vret dX0_addHolder_69 rfl (Nat.le_refl 0) (Nat.le_refl 0)
set_option maxHeartbeats 4000000 in
set_option maxRecDepth 100000 in
theorem pkX0_addHolder (l : Launch) {al : Bool} {sh : pd_S} {n : Nat} {F : pd_F} {x0 : Int} {x1 : Int} {x2 : Int} {Fz : pd_F} (hf : pfX0_addHolder sh n F x0 x1 x2 = some Fz) : pd_C l yX0_addHolder (Cond.code yX0_addHolder cX0_addHolder 4 none :: pd_gt) (pd_rm 2 0 0) al 0 0 sh F [pd_R x0, pd_I x1, pd_I x2] none sh Fz := by
  unfold pfX0_addHolder at hf
  refine pd_body (L := [pd_R x0, pd_I x1, pd_I x2, pd_N]) (by decide +kernel) (Nat.le_of_ble_eq_true rfl) rfl (fun E => ?_)
  refine pd_aload_n (i := 0) dX0_addHolder_0 rfl rfl ?_
  refine pd_iload_n (i := 1) dX0_addHolder_1 rfl rfl ?_
  obtain ⟨hg5, hf⟩ := pd_ig hf
  obtain ⟨r6, F4, hr, hf⟩ := pd_ob2 hf
  refine pd_callV (pkX0_indexOfMark l hr) dX0_addHolder_2 pq_232 pq_235 pq_236 (show vwCl[0]? = some (yX0_indexOfMark.cls, TX0, 15) from rfl) hg5 (pd_okm (by omega) (by decide) pq_233 pq_234 (by decide) (show (parseMethodDescriptor yX0_indexOfMark.desc).map (fun d => d.parameters.length) = some 1 from by decide +kernel)) (Nat.le_of_ble_eq_true rfl) rfl ?_
  refine pd_istore_n (L' := [pd_R x0, pd_I x1, pd_I x2, pd_I r6]) dX0_addHolder_5 rfl (by decide) rfl ?_
  refine pd_iload_n (i := 3) dX0_addHolder_6 rfl rfl ?_
  refine pd_iconst dX0_addHolder_7 (by decide) ?_
  refine pd_icmp_ne (tgt := 52) dX0_addHolder_8 (by decide) (fun hc => ?_) (fun hc => ?_)
  · have hf := pd_ip hf hc
    exact pd_weak (L' := [pd_R x0, pd_N, pd_I x2, pd_I r6]) ⟨Or.inr rfl, Or.inl rfl, Or.inr rfl, Or.inr rfl, trivial⟩ (pkX0_addHolder_b52 E l _ _ _ _ hf)
  · have hf := pd_iq hf hc
    refine pd_aload_n (i := 0) dX0_addHolder_11 rfl rfl ?_
    refine pd_get (x := pd_I (F4 x0 14)) 14 dX0_addHolder_12 (show vwCl[0]? = some (RX0, TX0, 15) from rfl) pin_0 (by decide) pq_221 hg5 rfl ?_
    refine pd_aload_n (i := 0) dX0_addHolder_15 rfl rfl ?_
    refine pd_get (x := pd_R (F4 x0 7)) 7 dX0_addHolder_16 (show vwCl[0]? = some (RX0, TX0, 15) from rfl) pin_0 (by decide) pq_225 hg5 rfl ?_
    obtain ⟨hg7, hf⟩ := pd_ig hf
    refine pd_alen dX0_addHolder_19 (by decide) hg7 ?_
    refine pd_icmp_ge (tgt := 52) dX0_addHolder_20 (by decide) (fun hc => ?_) (fun hc => ?_)
    · have hf := pd_ip hf hc
      exact pd_weak (L' := [pd_R x0, pd_N, pd_I x2, pd_I r6]) ⟨Or.inr rfl, Or.inl rfl, Or.inr rfl, Or.inr rfl, trivial⟩ (pkX0_addHolder_b52 E l _ _ _ _ hf)
    · have hf := pd_in_ hf hc
      refine pd_aload_n (i := 0) dX0_addHolder_23 rfl rfl ?_
      refine pd_get (x := pd_I (F4 x0 14)) 14 dX0_addHolder_24 (show vwCl[0]? = some (RX0, TX0, 15) from rfl) pin_0 (by decide) pq_221 hg5 rfl ?_
      refine pd_topI (fun x3_27 ex3_27 => ?_)
      have hf := pd_lt hf ex3_27
      clear ex3_27
      refine pd_istore_n (L' := [pd_R x0, pd_I x1, pd_I x2, pd_I x3_27]) dX0_addHolder_27 rfl (by decide) rfl ?_
      refine pd_aload_n (i := 0) dX0_addHolder_28 rfl rfl ?_
      refine pd_get (x := pd_R (F4 x0 7)) 7 dX0_addHolder_29 (show vwCl[0]? = some (RX0, TX0, 15) from rfl) pin_0 (by decide) pq_225 hg5 rfl ?_
      refine pd_iload_n (i := 3) dX0_addHolder_32 rfl rfl ?_
      refine pd_iload_n (i := 1) dX0_addHolder_33 rfl rfl ?_
      obtain ⟨hg8, hf⟩ := pd_ig hf
      refine pd_iast dX0_addHolder_34 hg8 ?_
      refine pd_topF (fun F9 eF9 => ?_)
      have hf := pd_lt hf eF9
      clear eF9
      refine pd_aload_n (i := 0) dX0_addHolder_35 rfl rfl ?_
      refine pd_get (x := pd_R (F9 x0 8)) 8 dX0_addHolder_36 (show vwCl[0]? = some (RX0, TX0, 15) from rfl) pin_0 (by decide) pq_231 hg5 rfl ?_
      refine pd_iload_n (i := 3) dX0_addHolder_39 rfl rfl ?_
      refine pd_iconst dX0_addHolder_40 (by decide) ?_
      obtain ⟨hg10, hf⟩ := pd_ig hf
      refine pd_iast dX0_addHolder_41 hg10 ?_
      refine pd_topF (fun F11 eF11 => ?_)
      have hf := pd_lt hf eF11
      clear eF11
      refine pd_aload_n (i := 0) dX0_addHolder_42 rfl rfl ?_
      refine pd_dup dX0_addHolder_43 rfl ?_
      refine pd_get (x := pd_I (F11 x0 14)) 14 dX0_addHolder_44 (show vwCl[0]? = some (RX0, TX0, 15) from rfl) pin_0 (by decide) pq_221 hg5 rfl ?_
      refine pd_iconst dX0_addHolder_47 (by decide) ?_
      refine pd_iadd dX0_addHolder_48 ?_
      refine pd_put (n := (pd_w ((F11 x0 14) + 1))) (x := pd_I (pd_w ((F11 x0 14) + 1))) 14 dX0_addHolder_49 (show vwCl[0]? = some (RX0, TX0, 15) from rfl) pin_0 tyX0_ok nmX0 (by decide) pq_221 rfl hg5 rfl pd_nrI pd_ftI ?_
      refine pd_topF (fun F12 eF12 => ?_)
      have hf := pd_lt hf eF12
      clear eF12
      exact pd_weak (L' := [pd_R x0, pd_N, pd_I x2, pd_I x3_27]) ⟨Or.inr rfl, Or.inl rfl, Or.inr rfl, Or.inr rfl, trivial⟩ (pkX0_addHolder_b52 E l _ _ _ _ hf)
set_option maxHeartbeats 4000000 in
set_option maxRecDepth 100000 in
theorem pkX0_addPerson_b53 (E : pd_E) (l : Launch) {al : Bool} {sh : pd_S} {n : Nat} {Fz : pd_F}  (F : pd_F) (x0 : Int) (hf : pfX0_addPerson_b53 sh n  F x0 = some Fz) : pd_V E l (pd_rm 3 0 0) (RX0, cX0_addPerson, 3, none, "addPerson") (pd_Qm E al none sh Fz 0 0) al 0 0 sh F 53 [pd_R x0, pd_N, pd_N] [] := by
  unfold pfX0_addPerson_b53 at hf
  refine pd_aload_n (i := 0) dX0_addPerson_53 rfl rfl ?_
  refine pd_dup dX0_addPerson_54 rfl ?_
  obtain ⟨hg1, hf⟩ := pd_ig hf
  refine pd_get (x := pd_I (F x0 9)) 9 dX0_addPerson_55 (show vwCl[0]? = some (RX0, TX0, 15) from rfl) pin_0 (by decide) pq_216 hg1 rfl ?_
  refine pd_iconst dX0_addPerson_58 (by decide) ?_
  refine pd_iadd dX0_addPerson_59 ?_
  refine pd_put (n := (pd_w ((F x0 9) + 1))) (x := pd_I (pd_w ((F x0 9) + 1))) 9 dX0_addPerson_60 (show vwCl[0]? = some (RX0, TX0, 15) from rfl) pin_0 tyX0_ok nmX0 (by decide) pq_216 rfl hg1 rfl pd_nrI pd_ftI ?_
  refine pd_topF (fun F2 eF2 => ?_)
  have hf := pd_lt hf eF2
  clear eF2
  obtain h2 := pd_inj1 hf
  subst h2
  exact pd_vret dX0_addPerson_63 rfl (Nat.le_refl 0) (Nat.le_refl 0)
set_option maxHeartbeats 4000000 in
set_option maxRecDepth 100000 in
theorem pkX0_addPerson_b25 (E : pd_E) (l : Launch) {al : Bool} {sh : pd_S} {n : Nat} {Fz : pd_F}  : ∀ (k : Nat) (F : pd_F) (x0 : Int) (x1 : Int) (x2 : Int), pfX0_addPerson_b25 sh n  k F x0 x1 x2 = some Fz → pd_V E l (pd_rm 3 0 0) (RX0, cX0_addPerson, 3, none, "addPerson") (pd_Qm E al none sh Fz 0 0) al 0 0 sh F 25 [pd_R x0, pd_R x1, pd_I x2] [] := by
  intro k
  induction k with
  | zero => intro F x0 x1 x2 hf; exact absurd hf (by unfold pfX0_addPerson_b25; exact fun h => nomatch h)
  | succ k ih =>
    intro F x0 x1 x2 hf
    unfold pfX0_addPerson_b25 at hf
    refine pd_iload_n (i := 2) dX0_addPerson_25 rfl rfl ?_
    refine pd_aload_n (i := 1) dX0_addPerson_26 rfl rfl ?_
    obtain ⟨hg3, hf⟩ := pd_ig hf
    refine pd_getN (x := pd_I (F x1 1)) 1 dX0_addPerson_27 (show vwCl[5]? = some (RX5, TX5, 5) from rfl) pin_5 (by decide) pq_237 hg3 rfl ?_
    refine pd_icmp_ge (tgt := 53) dX0_addPerson_30 (by decide) (fun hc => ?_) (fun hc => ?_)
    · have hf := pd_ip hf hc
      exact pd_weak (L' := [pd_R x0, pd_N, pd_N]) ⟨Or.inr rfl, Or.inl rfl, Or.inl rfl, trivial⟩ (pkX0_addPerson_b53 E l _ _ hf)
    · have hf := pd_in_ hf hc
      refine pd_aload_n (i := 0) dX0_addPerson_33 rfl rfl ?_
      refine pd_aload_n (i := 1) dX0_addPerson_34 rfl rfl ?_
      refine pd_getN (x := pd_R (F x1 0)) 0 dX0_addPerson_35 (show vwCl[5]? = some (RX5, TX5, 5) from rfl) pin_5 (by decide) pq_238 hg3 rfl ?_
      refine pd_iload_n (i := 2) dX0_addPerson_38 rfl rfl ?_
      obtain ⟨hg4, hf⟩ := pd_ig hf
      refine pd_iald dX0_addPerson_39 hg4 ?_
      refine pd_aload_n (i := 0) dX0_addPerson_40 rfl rfl ?_
      obtain ⟨hg5, hf⟩ := pd_ig hf
      refine pd_get (x := pd_I (F x0 9)) 9 dX0_addPerson_41 (show vwCl[0]? = some (RX0, TX0, 15) from rfl) pin_0 (by decide) pq_216 hg5 rfl ?_
      obtain ⟨F6, hr, hf⟩ := pd_ob1 hf
      refine pd_callV (pkX0_addHolder l hr) dX0_addPerson_44 pq_239 pq_242 pq_243 (show vwCl[0]? = some (yX0_addHolder.cls, TX0, 15) from rfl) hg5 (pd_okm (by omega) (by decide) pq_240 pq_241 (by decide) (show (parseMethodDescriptor yX0_addHolder.desc).map (fun d => d.parameters.length) = some 2 from by decide +kernel)) (Nat.le_of_ble_eq_true rfl) rfl ?_
      refine pd_iincN (L' := fun y => [pd_R x0, pd_R x1, pd_I y]) dX0_addPerson_47 rfl (by decide) (by decide) (fun _ => rfl) (fun x2_47 ex2_47 => ?_)
      have hf := pd_lt hf ex2_47
      clear ex2_47
      refine pd_goto (tgt := 25) dX0_addPerson_50 (by decide) ?_
      exact pd_weak (L' := [pd_R x0, pd_R x1, pd_I x2_47]) ⟨Or.inr rfl, Or.inr rfl, Or.inr rfl, trivial⟩ (ih _ _ _ _ hf)
set_option maxHeartbeats 4000000 in
set_option maxRecDepth 100000 in
theorem pkX0_addPerson (l : Launch) {al : Bool} {sh : pd_S} {n : Nat} {F : pd_F} {x0 : Int} {Fz : pd_F} (hf : pfX0_addPerson sh n F x0 = some Fz) : pd_C l yX0_addPerson (Cond.code yX0_addPerson cX0_addPerson 3 none :: pd_gt) (pd_rm 3 0 0) al 0 0 sh F [pd_R x0] none sh Fz := by
  unfold pfX0_addPerson at hf
  refine pd_body (L := [pd_R x0, pd_N, pd_N]) (by decide +kernel) (Nat.le_of_ble_eq_true rfl) rfl (fun E => ?_)
  refine pd_aload_n (i := 0) dX0_addPerson_0 rfl rfl ?_
  obtain ⟨hg7, hf⟩ := pd_ig hf
  refine pd_get (x := pd_I (F x0 9)) 9 dX0_addPerson_1 (show vwCl[0]? = some (RX0, TX0, 15) from rfl) pin_0 (by decide) pq_216 hg7 rfl ?_
  refine pd_aload_n (i := 0) dX0_addPerson_4 rfl rfl ?_
  refine pd_get (x := pd_R (F x0 0)) 0 dX0_addPerson_5 (show vwCl[0]? = some (RX0, TX0, 15) from rfl) pin_0 (by decide) pq_229 hg7 rfl ?_
  obtain ⟨hg8, hf⟩ := pd_ig hf
  refine pd_alen dX0_addPerson_8 (by decide) hg8 ?_
  refine pd_icmp_lt (tgt := 13) dX0_addPerson_9 (by decide) (fun hc => ?_) (fun hc => ?_)
  · have hf := pd_ip hf hc
    refine pd_aload_n (i := 0) dX0_addPerson_13 rfl rfl ?_
    refine pd_get (x := pd_R (F x0 0)) 0 dX0_addPerson_14 (show vwCl[0]? = some (RX0, TX0, 15) from rfl) pin_0 (by decide) pq_229 hg7 rfl ?_
    refine pd_aload_n (i := 0) dX0_addPerson_17 rfl rfl ?_
    refine pd_get (x := pd_I (F x0 9)) 9 dX0_addPerson_18 (show vwCl[0]? = some (RX0, TX0, 15) from rfl) pin_0 (by decide) pq_216 hg7 rfl ?_
    obtain ⟨hg9, hf⟩ := pd_ig hf
    refine pd_aald dX0_addPerson_21 hg9 ?_
    refine pd_topR (fun x1_22 ex1_22 => ?_)
    have hf := pd_lt hf ex1_22
    clear ex1_22
    obtain ⟨hg10, hf⟩ := pd_ig hf
    refine pd_astore_n (L' := [pd_R x0, pd_R x1_22, pd_N]) dX0_addPerson_22 rfl (by decide) hg10 rfl ?_
    refine pd_iconst dX0_addPerson_23 (by decide) ?_
    refine pd_istore_n (L' := [pd_R x0, pd_R x1_22, pd_I 0]) dX0_addPerson_24 rfl (by decide) rfl ?_
    exact pd_weak (L' := [pd_R x0, pd_R x1_22, pd_I 0]) ⟨Or.inr rfl, Or.inr rfl, Or.inr rfl, trivial⟩ (pkX0_addPerson_b25 E l n _ _ _ _ hf)
  · have hf := pd_in_ hf hc
    obtain h2 := pd_inj1 hf
    subst h2
    exact pd_vret dX0_addPerson_12 rfl (Nat.le_refl 0) (Nat.le_refl 0)
set_option maxHeartbeats 4000000 in
set_option maxRecDepth 100000 in
theorem pkX11_greatestOf (l : Launch) {al : Bool} {sh : pd_S} {n : Nat} {F : pd_F} {x0 : Int} {ρ : Int} {Fz : pd_F} (hf : pfX11_greatestOf sh n F x0 = some (ρ, Fz)) : pd_C l yX11_greatestOf (Cond.code yX11_greatestOf cX11_greatestOf 1 (some .int) :: pd_gt) (pd_rm 1 0 0) al 0 0 sh F [pd_I x0] (some (pd_I ρ)) sh Fz := by
  unfold pfX11_greatestOf at hf
  refine pd_body (L := [pd_I x0]) (by decide +kernel) (Nat.le_of_ble_eq_true rfl) rfl (fun E => ?_)
  refine pd_iload_n (i := 0) dX11_greatestOf_0 rfl rfl ?_
  refine pd_if_ne (tgt := 10) dX11_greatestOf_1 (by decide) (fun hc => ?_) (fun hc => ?_)
  · have hf := pd_ip hf hc
    refine pd_ldcw (x := 9999999) dX11_greatestOf_10 pq_244 (by decide +kernel) ?_
    obtain ⟨h1, h2⟩ := pd_inj hf
    subst h1 h2
    exact pd_iret dX11_greatestOf_13 rfl (Nat.le_refl 0) (Nat.le_refl 0)
  · have hf := pd_iq hf hc
    refine pd_sipush dX11_greatestOf_4 (by decide) ?_
    refine pd_goto (tgt := 13) dX11_greatestOf_7 (by decide) ?_
    obtain ⟨h1, h2⟩ := pd_inj hf
    subst h1 h2
    exact pd_iret dX11_greatestOf_13 rfl (Nat.le_refl 0) (Nat.le_refl 0)
