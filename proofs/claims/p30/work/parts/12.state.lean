theorem dX8_begin_0 : decode cX8_begin 0 = .ok (.aload_n 1, 1) := by decide +kernel
theorem dX8_begin_1 : decode cX8_begin 1 = .ok (.getfield 26, 3) := by decide +kernel
theorem dX8_begin_4 : decode cX8_begin 4 = .ok (.iconst 0, 1) := by decide +kernel
theorem dX8_begin_5 : decode cX8_begin 5 = .ok (.aload_n 0, 1) := by decide +kernel
theorem dX8_begin_6 : decode cX8_begin 6 = .ok (.getfield 9, 3) := by decide +kernel
theorem dX8_begin_9 : decode cX8_begin 9 = .ok (.iconst 0, 1) := by decide +kernel
theorem dX8_begin_10 : decode cX8_begin 10 = .ok (.bipush 10, 2) := by decide +kernel
theorem dX8_begin_12 : decode cX8_begin 12 = .ok (.invokestatic 29, 3) := by decide +kernel
theorem dX8_begin_15 : decode cX8_begin 15 = .ok (.aload_n 1, 1) := by decide +kernel
theorem dX8_begin_16 : decode cX8_begin 16 = .ok (.getfield 35, 3) := by decide +kernel
theorem dX8_begin_19 : decode cX8_begin 19 = .ok (.iconst 0, 1) := by decide +kernel
theorem dX8_begin_20 : decode cX8_begin 20 = .ok (.aload_n 0, 1) := by decide +kernel
theorem dX8_begin_21 : decode cX8_begin 21 = .ok (.getfield 15, 3) := by decide +kernel
theorem dX8_begin_24 : decode cX8_begin 24 = .ok (.iconst 0, 1) := by decide +kernel
theorem dX8_begin_25 : decode cX8_begin 25 = .ok (.iconst 3, 1) := by decide +kernel
theorem dX8_begin_26 : decode cX8_begin 26 = .ok (.invokestatic 29, 3) := by decide +kernel
theorem dX8_begin_29 : decode cX8_begin 29 = .ok (.aload_n 0, 1) := by decide +kernel
theorem dX8_begin_30 : decode cX8_begin 30 = .ok (.iconst 0, 1) := by decide +kernel
theorem dX8_begin_31 : decode cX8_begin 31 = .ok (.putfield 36, 3) := by decide +kernel
theorem dX8_begin_34 : decode cX8_begin 34 = .ok (.aload_n 0, 1) := by decide +kernel
theorem dX8_begin_35 : decode cX8_begin 35 = .ok (.lconst 0, 1) := by decide +kernel
theorem dX8_begin_36 : decode cX8_begin 36 = .ok (.putfield 40, 3) := by decide +kernel
theorem dX8_begin_39 : decode cX8_begin 39 = .ok (.return_, 1) := by decide +kernel
theorem dX8_copyFrom_0 : decode cX8_copyFrom 0 = .ok (.aload_n 1, 1) := by decide +kernel
theorem dX8_copyFrom_1 : decode cX8_copyFrom 1 = .ok (.getfield 9, 3) := by decide +kernel
theorem dX8_copyFrom_4 : decode cX8_copyFrom 4 = .ok (.iconst 0, 1) := by decide +kernel
theorem dX8_copyFrom_5 : decode cX8_copyFrom 5 = .ok (.aload_n 0, 1) := by decide +kernel
theorem dX8_copyFrom_6 : decode cX8_copyFrom 6 = .ok (.getfield 9, 3) := by decide +kernel
theorem dX8_copyFrom_9 : decode cX8_copyFrom 9 = .ok (.iconst 0, 1) := by decide +kernel
theorem dX8_copyFrom_10 : decode cX8_copyFrom 10 = .ok (.bipush 10, 2) := by decide +kernel
theorem dX8_copyFrom_12 : decode cX8_copyFrom 12 = .ok (.invokestatic 29, 3) := by decide +kernel
theorem dX8_copyFrom_15 : decode cX8_copyFrom 15 = .ok (.aload_n 1, 1) := by decide +kernel
theorem dX8_copyFrom_16 : decode cX8_copyFrom 16 = .ok (.getfield 15, 3) := by decide +kernel
theorem dX8_copyFrom_19 : decode cX8_copyFrom 19 = .ok (.iconst 0, 1) := by decide +kernel
theorem dX8_copyFrom_20 : decode cX8_copyFrom 20 = .ok (.aload_n 0, 1) := by decide +kernel
theorem dX8_copyFrom_21 : decode cX8_copyFrom 21 = .ok (.getfield 15, 3) := by decide +kernel
theorem dX8_copyFrom_24 : decode cX8_copyFrom 24 = .ok (.iconst 0, 1) := by decide +kernel
theorem dX8_copyFrom_25 : decode cX8_copyFrom 25 = .ok (.iconst 3, 1) := by decide +kernel
theorem dX8_copyFrom_26 : decode cX8_copyFrom 26 = .ok (.invokestatic 29, 3) := by decide +kernel
theorem dX8_copyFrom_29 : decode cX8_copyFrom 29 = .ok (.aload_n 1, 1) := by decide +kernel
theorem dX8_copyFrom_30 : decode cX8_copyFrom 30 = .ok (.getfield 18, 3) := by decide +kernel
theorem dX8_copyFrom_33 : decode cX8_copyFrom 33 = .ok (.iconst 0, 1) := by decide +kernel
theorem dX8_copyFrom_34 : decode cX8_copyFrom 34 = .ok (.aload_n 0, 1) := by decide +kernel
theorem dX8_copyFrom_35 : decode cX8_copyFrom 35 = .ok (.getfield 18, 3) := by decide +kernel
theorem dX8_copyFrom_38 : decode cX8_copyFrom 38 = .ok (.iconst 0, 1) := by decide +kernel
theorem dX8_copyFrom_39 : decode cX8_copyFrom 39 = .ok (.bipush 31, 2) := by decide +kernel
theorem dX8_copyFrom_41 : decode cX8_copyFrom 41 = .ok (.invokestatic 29, 3) := by decide +kernel
theorem dX8_copyFrom_44 : decode cX8_copyFrom 44 = .ok (.aload_n 1, 1) := by decide +kernel
theorem dX8_copyFrom_45 : decode cX8_copyFrom 45 = .ok (.getfield 21, 3) := by decide +kernel
theorem dX8_copyFrom_48 : decode cX8_copyFrom 48 = .ok (.iconst 0, 1) := by decide +kernel
theorem dX8_copyFrom_49 : decode cX8_copyFrom 49 = .ok (.aload_n 0, 1) := by decide +kernel
theorem dX8_copyFrom_50 : decode cX8_copyFrom 50 = .ok (.getfield 21, 3) := by decide +kernel
theorem dX8_copyFrom_53 : decode cX8_copyFrom 53 = .ok (.iconst 0, 1) := by decide +kernel
theorem dX8_copyFrom_54 : decode cX8_copyFrom 54 = .ok (.bipush 31, 2) := by decide +kernel
theorem dX8_copyFrom_56 : decode cX8_copyFrom 56 = .ok (.invokestatic 29, 3) := by decide +kernel
theorem dX8_copyFrom_59 : decode cX8_copyFrom 59 = .ok (.aload_n 0, 1) := by decide +kernel
theorem dX8_copyFrom_60 : decode cX8_copyFrom 60 = .ok (.aload_n 1, 1) := by decide +kernel
theorem dX8_copyFrom_61 : decode cX8_copyFrom 61 = .ok (.getfield 36, 3) := by decide +kernel
theorem dX8_copyFrom_64 : decode cX8_copyFrom 64 = .ok (.putfield 36, 3) := by decide +kernel
theorem dX8_copyFrom_67 : decode cX8_copyFrom 67 = .ok (.aload_n 0, 1) := by decide +kernel
theorem dX8_copyFrom_68 : decode cX8_copyFrom 68 = .ok (.aload_n 1, 1) := by decide +kernel
theorem dX8_copyFrom_69 : decode cX8_copyFrom 69 = .ok (.getfield 40, 3) := by decide +kernel
theorem dX8_copyFrom_72 : decode cX8_copyFrom 72 = .ok (.putfield 40, 3) := by decide +kernel
theorem dX8_copyFrom_75 : decode cX8_copyFrom 75 = .ok (.return_, 1) := by decide +kernel
theorem dX8_balanceOf_0 : decode cX8_balanceOf 0 = .ok (.iload_n 1, 1) := by decide +kernel
theorem dX8_balanceOf_1 : decode cX8_balanceOf 1 = .ok (.ifCond .lt 21, 3) := by decide +kernel
theorem dX8_balanceOf_4 : decode cX8_balanceOf 4 = .ok (.iload_n 1, 1) := by decide +kernel
theorem dX8_balanceOf_5 : decode cX8_balanceOf 5 = .ok (.aload_n 0, 1) := by decide +kernel
theorem dX8_balanceOf_6 : decode cX8_balanceOf 6 = .ok (.getfield 9, 3) := by decide +kernel
theorem dX8_balanceOf_9 : decode cX8_balanceOf 9 = .ok (.arraylength, 1) := by decide +kernel
theorem dX8_balanceOf_10 : decode cX8_balanceOf 10 = .ok (.if_icmp .ge 12, 3) := by decide +kernel
theorem dX8_balanceOf_13 : decode cX8_balanceOf 13 = .ok (.aload_n 0, 1) := by decide +kernel
theorem dX8_balanceOf_14 : decode cX8_balanceOf 14 = .ok (.getfield 9, 3) := by decide +kernel
theorem dX8_balanceOf_17 : decode cX8_balanceOf 17 = .ok (.iload_n 1, 1) := by decide +kernel
theorem dX8_balanceOf_18 : decode cX8_balanceOf 18 = .ok (.iaload, 1) := by decide +kernel
theorem dX8_balanceOf_19 : decode cX8_balanceOf 19 = .ok (.goto 4, 3) := by decide +kernel
theorem dX8_balanceOf_22 : decode cX8_balanceOf 22 = .ok (.iconst 0, 1) := by decide +kernel
theorem dX8_balanceOf_23 : decode cX8_balanceOf 23 = .ok (.ireturn, 1) := by decide +kernel
theorem dX8_isLeftOut_0 : decode cX8_isLeftOut 0 = .ok (.aload_n 0, 1) := by decide +kernel
theorem dX8_isLeftOut_1 : decode cX8_isLeftOut 1 = .ok (.getfield 40, 3) := by decide +kernel
theorem dX8_isLeftOut_4 : decode cX8_isLeftOut 4 = .ok (.iload_n 1, 1) := by decide +kernel
theorem dX8_isLeftOut_5 : decode cX8_isLeftOut 5 = .ok (.lushr, 1) := by decide +kernel
theorem dX8_isLeftOut_6 : decode cX8_isLeftOut 6 = .ok (.lconst 1, 1) := by decide +kernel
theorem dX8_isLeftOut_7 : decode cX8_isLeftOut 7 = .ok (.land, 1) := by decide +kernel
theorem dX8_isLeftOut_8 : decode cX8_isLeftOut 8 = .ok (.lconst 0, 1) := by decide +kernel
theorem dX8_isLeftOut_9 : decode cX8_isLeftOut 9 = .ok (.lcmp, 1) := by decide +kernel
theorem dX8_isLeftOut_10 : decode cX8_isLeftOut 10 = .ok (.ifCond .eq 7, 3) := by decide +kernel
theorem dX8_isLeftOut_13 : decode cX8_isLeftOut 13 = .ok (.iconst 1, 1) := by decide +kernel
theorem dX8_isLeftOut_14 : decode cX8_isLeftOut 14 = .ok (.goto 4, 3) := by decide +kernel
theorem dX8_isLeftOut_17 : decode cX8_isLeftOut 17 = .ok (.iconst 0, 1) := by decide +kernel
theorem dX8_isLeftOut_18 : decode cX8_isLeftOut 18 = .ok (.ireturn, 1) := by decide +kernel
theorem dX8_leaveOut_0 : decode cX8_leaveOut 0 = .ok (.lconst 1, 1) := by decide +kernel
theorem dX8_leaveOut_1 : decode cX8_leaveOut 1 = .ok (.iload_n 1, 1) := by decide +kernel
theorem dX8_leaveOut_2 : decode cX8_leaveOut 2 = .ok (.lshl, 1) := by decide +kernel
theorem dX8_leaveOut_3 : decode cX8_leaveOut 3 = .ok (.lstore_n 3, 1) := by decide +kernel
theorem dX8_leaveOut_4 : decode cX8_leaveOut 4 = .ok (.aload_n 0, 1) := by decide +kernel
theorem dX8_leaveOut_5 : decode cX8_leaveOut 5 = .ok (.iload_n 2, 1) := by decide +kernel
theorem dX8_leaveOut_6 : decode cX8_leaveOut 6 = .ok (.ifCond .eq 12, 3) := by decide +kernel
theorem dX8_leaveOut_9 : decode cX8_leaveOut 9 = .ok (.aload_n 0, 1) := by decide +kernel
theorem dX8_leaveOut_10 : decode cX8_leaveOut 10 = .ok (.getfield 40, 3) := by decide +kernel
theorem dX8_leaveOut_13 : decode cX8_leaveOut 13 = .ok (.lload_n 3, 1) := by decide +kernel
theorem dX8_leaveOut_14 : decode cX8_leaveOut 14 = .ok (.lor, 1) := by decide +kernel
theorem dX8_leaveOut_15 : decode cX8_leaveOut 15 = .ok (.goto 13, 3) := by decide +kernel
theorem dX8_leaveOut_18 : decode cX8_leaveOut 18 = .ok (.aload_n 0, 1) := by decide +kernel
theorem dX8_leaveOut_19 : decode cX8_leaveOut 19 = .ok (.getfield 40, 3) := by decide +kernel
theorem dX8_leaveOut_22 : decode cX8_leaveOut 22 = .ok (.lload_n 3, 1) := by decide +kernel
theorem dX8_leaveOut_23 : decode cX8_leaveOut 23 = .ok (.ldc2_w 44, 3) := by decide +kernel
theorem dX8_leaveOut_26 : decode cX8_leaveOut 26 = .ok (.lxor, 1) := by decide +kernel
theorem dX8_leaveOut_27 : decode cX8_leaveOut 27 = .ok (.land, 1) := by decide +kernel
theorem dX8_leaveOut_28 : decode cX8_leaveOut 28 = .ok (.putfield 40, 3) := by decide +kernel
theorem dX8_leaveOut_31 : decode cX8_leaveOut 31 = .ok (.return_, 1) := by decide +kernel
theorem dX8_addJoin_0 : decode cX8_addJoin 0 = .ok (.aload_n 0, 1) := by decide +kernel
theorem dX8_addJoin_1 : decode cX8_addJoin 1 = .ok (.getfield 36, 3) := by decide +kernel
theorem dX8_addJoin_4 : decode cX8_addJoin 4 = .ok (.aload_n 0, 1) := by decide +kernel
theorem dX8_addJoin_5 : decode cX8_addJoin 5 = .ok (.getfield 18, 3) := by decide +kernel
theorem dX8_addJoin_8 : decode cX8_addJoin 8 = .ok (.arraylength, 1) := by decide +kernel
theorem dX8_addJoin_9 : decode cX8_addJoin 9 = .ok (.if_icmp .ge 33, 3) := by decide +kernel
theorem dX8_addJoin_12 : decode cX8_addJoin 12 = .ok (.aload_n 0, 1) := by decide +kernel
theorem dX8_addJoin_13 : decode cX8_addJoin 13 = .ok (.getfield 18, 3) := by decide +kernel
theorem dX8_addJoin_16 : decode cX8_addJoin 16 = .ok (.aload_n 0, 1) := by decide +kernel
theorem dX8_addJoin_17 : decode cX8_addJoin 17 = .ok (.getfield 36, 3) := by decide +kernel
theorem dX8_addJoin_20 : decode cX8_addJoin 20 = .ok (.iload_n 1, 1) := by decide +kernel
theorem dX8_addJoin_21 : decode cX8_addJoin 21 = .ok (.iastore, 1) := by decide +kernel
theorem dX8_addJoin_22 : decode cX8_addJoin 22 = .ok (.aload_n 0, 1) := by decide +kernel
theorem dX8_addJoin_23 : decode cX8_addJoin 23 = .ok (.getfield 21, 3) := by decide +kernel
theorem dX8_addJoin_26 : decode cX8_addJoin 26 = .ok (.aload_n 0, 1) := by decide +kernel
theorem dX8_addJoin_27 : decode cX8_addJoin 27 = .ok (.getfield 36, 3) := by decide +kernel
theorem dX8_addJoin_30 : decode cX8_addJoin 30 = .ok (.iload_n 2, 1) := by decide +kernel
theorem dX8_addJoin_31 : decode cX8_addJoin 31 = .ok (.iastore, 1) := by decide +kernel
theorem dX8_addJoin_32 : decode cX8_addJoin 32 = .ok (.aload_n 0, 1) := by decide +kernel
theorem dX8_addJoin_33 : decode cX8_addJoin 33 = .ok (.dup, 1) := by decide +kernel
theorem dX8_addJoin_34 : decode cX8_addJoin 34 = .ok (.getfield 36, 3) := by decide +kernel
theorem dX8_addJoin_37 : decode cX8_addJoin 37 = .ok (.iconst 1, 1) := by decide +kernel
theorem dX8_addJoin_38 : decode cX8_addJoin 38 = .ok (.iadd, 1) := by decide +kernel
theorem dX8_addJoin_39 : decode cX8_addJoin 39 = .ok (.putfield 36, 3) := by decide +kernel
theorem dX8_addJoin_42 : decode cX8_addJoin 42 = .ok (.return_, 1) := by decide +kernel
theorem dX3_forget_0 : decode cX3_forget 0 = .ok (.aload_n 0, 1) := by decide +kernel
theorem dX3_forget_1 : decode cX3_forget 1 = .ok (.iconst 0, 1) := by decide +kernel
theorem dX3_forget_2 : decode cX3_forget 2 = .ok (.putfield 25, 3) := by decide +kernel
theorem dX3_forget_5 : decode cX3_forget 5 = .ok (.iconst 0, 1) := by decide +kernel
theorem dX3_forget_6 : decode cX3_forget 6 = .ok (.istore_n 1, 1) := by decide +kernel
theorem dX3_forget_7 : decode cX3_forget 7 = .ok (.iload_n 1, 1) := by decide +kernel
theorem dX3_forget_8 : decode cX3_forget 8 = .ok (.aload_n 0, 1) := by decide +kernel
theorem dX3_forget_9 : decode cX3_forget 9 = .ok (.getfield 20, 3) := by decide +kernel
theorem dX3_forget_12 : decode cX3_forget 12 = .ok (.arraylength, 1) := by decide +kernel
theorem dX3_forget_13 : decode cX3_forget 13 = .ok (.if_icmp .ge 16, 3) := by decide +kernel
theorem dX3_forget_16 : decode cX3_forget 16 = .ok (.aload_n 0, 1) := by decide +kernel
theorem dX3_forget_17 : decode cX3_forget 17 = .ok (.getfield 20, 3) := by decide +kernel
theorem dX3_forget_20 : decode cX3_forget 20 = .ok (.iload_n 1, 1) := by decide +kernel
theorem dX3_forget_21 : decode cX3_forget 21 = .ok (.iconst 0, 1) := by decide +kernel
theorem dX3_forget_22 : decode cX3_forget 22 = .ok (.bastore, 1) := by decide +kernel
theorem dX3_forget_23 : decode cX3_forget 23 = .ok (.iinc 1 1, 3) := by decide +kernel
theorem dX3_forget_26 : decode cX3_forget 26 = .ok (.goto (-19), 3) := by decide +kernel
theorem dX3_forget_29 : decode cX3_forget 29 = .ok (.return_, 1) := by decide +kernel
theorem dX3_remember_0 : decode cX3_remember 0 = .ok (.aload_n 0, 1) := by decide +kernel
theorem dX3_remember_1 : decode cX3_remember 1 = .ok (.getfield 29, 3) := by decide +kernel
theorem dX3_remember_4 : decode cX3_remember 4 = .ok (.ifCond .lt 15, 3) := by decide +kernel
theorem dX3_remember_7 : decode cX3_remember 7 = .ok (.aload_n 0, 1) := by decide +kernel
theorem dX3_remember_8 : decode cX3_remember 8 = .ok (.getfield 29, 3) := by decide +kernel
theorem dX3_remember_11 : decode cX3_remember 11 = .ok (.aload_n 0, 1) := by decide +kernel
theorem dX3_remember_12 : decode cX3_remember 12 = .ok (.getfield 11, 3) := by decide +kernel
theorem dX3_remember_15 : decode cX3_remember 15 = .ok (.arraylength, 1) := by decide +kernel
theorem dX3_remember_16 : decode cX3_remember 16 = .ok (.if_icmp .lt 8, 3) := by decide +kernel
theorem dX3_remember_19 : decode cX3_remember 19 = .ok (.aload_n 0, 1) := by decide +kernel
theorem dX3_remember_20 : decode cX3_remember 20 = .ok (.iconst 0, 1) := by decide +kernel
theorem dX3_remember_21 : decode cX3_remember 21 = .ok (.putfield 29, 3) := by decide +kernel
theorem dX3_remember_24 : decode cX3_remember 24 = .ok (.aload_n 0, 1) := by decide +kernel
theorem dX3_remember_25 : decode cX3_remember 25 = .ok (.getfield 11, 3) := by decide +kernel
theorem dX3_remember_28 : decode cX3_remember 28 = .ok (.aload_n 0, 1) := by decide +kernel
theorem dX3_remember_29 : decode cX3_remember 29 = .ok (.getfield 29, 3) := by decide +kernel
theorem dX3_remember_32 : decode cX3_remember 32 = .ok (.aaload, 1) := by decide +kernel
theorem dX3_remember_33 : decode cX3_remember 33 = .ok (.aload_n 1, 1) := by decide +kernel
theorem dX3_remember_34 : decode cX3_remember 34 = .ok (.invokevirtual 32, 3) := by decide +kernel
theorem dX3_remember_37 : decode cX3_remember 37 = .ok (.aload_n 0, 1) := by decide +kernel
theorem dX3_remember_38 : decode cX3_remember 38 = .ok (.dup, 1) := by decide +kernel
theorem dX3_remember_39 : decode cX3_remember 39 = .ok (.getfield 29, 3) := by decide +kernel
theorem dX3_remember_42 : decode cX3_remember 42 = .ok (.iconst 1, 1) := by decide +kernel
theorem dX3_remember_43 : decode cX3_remember 43 = .ok (.iadd, 1) := by decide +kernel
theorem dX3_remember_44 : decode cX3_remember 44 = .ok (.putfield 29, 3) := by decide +kernel
theorem dX3_remember_47 : decode cX3_remember 47 = .ok (.aload_n 0, 1) := by decide +kernel
theorem dX3_remember_48 : decode cX3_remember 48 = .ok (.aload_n 0, 1) := by decide +kernel
theorem dX3_remember_49 : decode cX3_remember 49 = .ok (.getfield 25, 3) := by decide +kernel
theorem dX3_remember_52 : decode cX3_remember 52 = .ok (.iconst 1, 1) := by decide +kernel
theorem dX3_remember_53 : decode cX3_remember 53 = .ok (.iadd, 1) := by decide +kernel
theorem dX3_remember_54 : decode cX3_remember 54 = .ok (.aload_n 0, 1) := by decide +kernel
theorem dX3_remember_55 : decode cX3_remember 55 = .ok (.getfield 11, 3) := by decide +kernel
theorem dX3_remember_58 : decode cX3_remember 58 = .ok (.arraylength, 1) := by decide +kernel
theorem dX3_remember_59 : decode cX3_remember 59 = .ok (.invokestatic 36, 3) := by decide +kernel
theorem dX3_remember_62 : decode cX3_remember 62 = .ok (.putfield 25, 3) := by decide +kernel
theorem dX3_remember_65 : decode cX3_remember 65 = .ok (.return_, 1) := by decide +kernel
theorem pq_245 : Cond.fieldLinkNest RX8 26 "PayoutDesk$Book" "balances" "[I" "PayoutDesk" ∈ pd_gt := pd_in 238 (by decide +kernel) (by decide +kernel)
theorem pq_246 : Cond.fieldLink RX8 9 "PayoutDesk$State" "balances" "[I" ∈ pd_gt := pd_in 334 (by decide +kernel) (by decide +kernel)
theorem pq_247 : Cond.methodLink RX8 29 arraycopyName ∈ pd_gt := pd_in 681 (by decide +kernel) (by decide +kernel)
theorem pq_248 : Cond.fieldLinkNest RX8 35 "PayoutDesk$Book" "settings" "[I" "PayoutDesk" ∈ pd_gt := pd_in 248 (by decide +kernel) (by decide +kernel)
theorem pq_249 : Cond.fieldLink RX8 15 "PayoutDesk$State" "settings" "[I" ∈ pd_gt := pd_in 337 (by decide +kernel) (by decide +kernel)
theorem pq_250 : Cond.fieldLink RX8 36 "PayoutDesk$State" "joinCount" "I" ∈ pd_gt := pd_in 344 (by decide +kernel) (by decide +kernel)
theorem pq_251 : Cond.fieldLink RX8 40 "PayoutDesk$State" "leftOut" "J" ∈ pd_gt := pd_in 347 (by decide +kernel) (by decide +kernel)
theorem pq_252 : Cond.fieldLink RX8 18 "PayoutDesk$State" "joined" "[I" ∈ pd_gt := pd_in 340 (by decide +kernel) (by decide +kernel)
theorem pq_253 : Cond.fieldLink RX8 21 "PayoutDesk$State" "joinedTo" "[I" ∈ pd_gt := pd_in 342 (by decide +kernel) (by decide +kernel)
theorem pq_254 : Cond.constantLong RX8 44 ((-1) : Int64) ∈ pd_gt := pd_in 1289 (by decide +kernel) (by decide +kernel)
theorem pq_255 : Cond.fieldLink RX3 20 "PayoutDesk$History" "isKept" "[Z" ∈ pd_gt := pd_in 365 (by decide +kernel) (by decide +kernel)
theorem pq_256 : Cond.fieldLink RX3 25 "PayoutDesk$History" "undoable" "I" ∈ pd_gt := pd_in 367 (by decide +kernel) (by decide +kernel)
theorem pq_257 : Cond.fieldLink RX3 11 "PayoutDesk$History" "past" "[LPayoutDesk$State;" ∈ pd_gt := pd_in 363 (by decide +kernel) (by decide +kernel)
theorem pq_258 : Cond.fieldLink RX3 29 "PayoutDesk$History" "next" "I" ∈ pd_gt := pd_in 366 (by decide +kernel) (by decide +kernel)
theorem pq_259 : Cond.methodLink RX3 32 yX8_copyFrom ∈ pd_gt := pd_in 677 (by decide +kernel) (by decide +kernel)
theorem pq_260 : Cond.code yX8_copyFrom cX8_copyFrom 2 none ∈ pd_gt := pd_in 680 (by decide +kernel) (by decide +kernel)
theorem pq_261 : Cond.initialized yX8_copyFrom.cls ∈ pd_gt := pd_in 45 (by decide +kernel) (by decide +kernel)
theorem pq_262 : Cond.instanceMethod yX8_copyFrom ∈ pd_gt := pd_in 678 (by decide +kernel) (by decide +kernel)
theorem pq_263 : Cond.selects yX8_copyFrom.cls yX8_copyFrom yX8_copyFrom ∈ pd_gt := pd_in 679 (by decide +kernel) (by decide +kernel)
theorem pq_264 : Cond.methodLink RX3 36 Lib.Math.min.name ∈ pd_gt := pd_in 684 (by decide +kernel) (by decide +kernel)
def pfX8_begin (sh : pd_S) (n : Nat) (F : pd_F) (x0 : Int) (x1 : Int) : Option pd_F :=
  pd_i (pd_ob sh 0 x1 = true) <|
  pd_i (pd_ob sh 8 x0 = true) <|
  pd_i (pd_cg sh (F x1 3) 0 (F x0 0) 0 10 = true) <|
  pd_l (pd_cp F (F x1 3) 0 (F x0 0) 0 10) fun F4 =>
  pd_i (pd_cg sh (F4 x1 6) 0 (F4 x0 1) 0 3 = true) <|
  pd_l (pd_cp F4 (F4 x1 6) 0 (F4 x0 1) 0 3) fun F6 =>
  pd_l (pd_up F6 x0 4 0) fun F7 =>
  pd_l (pd_up F7 x0 5 0) fun F8 =>
  some F8
def pfX8_copyFrom (sh : pd_S) (n : Nat) (F : pd_F) (x0 : Int) (x1 : Int) : Option pd_F :=
  pd_i (pd_ob sh 8 x1 = true) <|
  pd_i (pd_ob sh 8 x0 = true) <|
  pd_i (pd_cg sh (F x1 0) 0 (F x0 0) 0 10 = true) <|
  pd_l (pd_cp F (F x1 0) 0 (F x0 0) 0 10) fun F4 =>
  pd_i (pd_cg sh (F4 x1 1) 0 (F4 x0 1) 0 3 = true) <|
  pd_l (pd_cp F4 (F4 x1 1) 0 (F4 x0 1) 0 3) fun F6 =>
  pd_i (pd_cg sh (F6 x1 2) 0 (F6 x0 2) 0 31 = true) <|
  pd_l (pd_cp F6 (F6 x1 2) 0 (F6 x0 2) 0 31) fun F8 =>
  pd_i (pd_cg sh (F8 x1 3) 0 (F8 x0 3) 0 31 = true) <|
  pd_l (pd_cp F8 (F8 x1 3) 0 (F8 x0 3) 0 31) fun F10 =>
  pd_l (pd_up F10 x0 4 (F10 x1 4)) fun F11 =>
  pd_l (pd_up F11 x0 5 (F11 x1 5)) fun F12 =>
  some F12
def pfX8_balanceOf (sh : pd_S) (n : Nat) (F : pd_F) (x0 : Int) (x1 : Int) : Option (Int × pd_F) :=
  if x1 < 0 then
    some (0, F)
  else
    pd_i (pd_ob sh 8 x0 = true) <|
    pd_i (0 ≤ pd_ln sh 0 0 (F x0 0)) <|
    if x1 ≥ (pd_ln sh 0 0 (F x0 0)) then
      some (0, F)
    else
      pd_i (pd_ib sh 0 0 (F x0 0) x1 = true) <|
      some (F (F x0 0) x1, F)
def pfX8_isLeftOut (sh : pd_S) (n : Nat) (F : pd_F) (x0 : Int) (x1 : Int) : Option (Int × pd_F) :=
  pd_i (pd_ob sh 8 x0 = true) <|
  if (pd_And (pd_Ushr (F x0 5) x1) 1) = 0 then
    some (0, F)
  else
    some (1, F)
def pfX8_leaveOut (sh : pd_S) (n : Nat) (F : pd_F) (x0 : Int) (x1 : Int) (x2 : Int) : Option pd_F :=
  pd_l (pd_Shl 1 x1) fun x3_3 =>
  if x2 = 0 then
    pd_i (pd_ob sh 8 x0 = true) <|
    pd_l (pd_up F x0 5 (pd_And (F x0 5) (pd_Xor x3_3 (-1)))) fun F2 =>
    some F2
  else
    pd_i (pd_ob sh 8 x0 = true) <|
    pd_l (pd_up F x0 5 (pd_Or (F x0 5) x3_3)) fun F4 =>
    some F4
def pfX8_addJoin (sh : pd_S) (n : Nat) (F : pd_F) (x0 : Int) (x1 : Int) (x2 : Int) : Option pd_F :=
  pd_i (pd_ob sh 8 x0 = true) <|
  pd_i (0 ≤ pd_ln sh 0 0 (F x0 2)) <|
  if (F x0 4) ≥ (pd_ln sh 0 0 (F x0 2)) then
    some F
  else
    pd_i (pd_ib sh 0 0 (F x0 2) (F x0 4) = true) <|
    pd_l (pd_up F (F x0 2) (F x0 4) x1) fun F4 =>
    pd_i (pd_ib sh 0 0 (F4 x0 3) (F4 x0 4) = true) <|
    pd_l (pd_up F4 (F4 x0 3) (F4 x0 4) x2) fun F6 =>
    pd_l (pd_up F6 x0 4 (pd_w ((F6 x0 4) + 1))) fun F7 =>
    some F7
def pfX3_forget_b7 (sh : pd_S) (n : Nat)  : Nat → pd_F → Int → Int → Option pd_F
  | 0, _, _, _ => none
  | k + 1, F, x0, x1 =>
    pd_i (pd_ob sh 3 x0 = true) <|
    pd_i (0 ≤ pd_ln sh 0 2 (F x0 2)) <|
    if x1 ≥ (pd_ln sh 0 2 (F x0 2)) then
      some F
    else
      pd_i (pd_ib sh 0 2 (F x0 2) x1 = true) <|
      pd_l (pd_up F (F x0 2) x1 0) fun F4 =>
      pd_l (pd_w (x1 + 1)) fun x1_23 =>
      pfX3_forget_b7 sh n k F4 x0 x1_23
def pfX3_forget (sh : pd_S) (n : Nat) (F : pd_F) (x0 : Int) : Option pd_F :=
  pd_i (pd_ob sh 3 x0 = true) <|
  pd_l (pd_up F x0 4 0) fun F6 =>
  pfX3_forget_b7 sh n n F6 x0 0
def pfX3_remember_b24 (sh : pd_S) (n : Nat)  (F : pd_F) (x0 : Int) (x1 : Int) : Option pd_F :=
  pd_i (pd_ob sh 3 x0 = true) <|
  pd_i (pd_ib sh 2 8 (F x0 0) (F x0 3) = true) <|
  pd_i (pd_ob sh 8 (F (F x0 0) (F x0 3)) = true) <|
  Option.bind (pfX8_copyFrom sh n F (F (F x0 0) (F x0 3)) x1) fun F3 =>
  pd_l (pd_up F3 x0 3 (pd_w ((F3 x0 3) + 1))) fun F5 =>
  pd_i (0 ≤ pd_ln sh 2 8 (F5 x0 0)) <|
  pd_l (pd_up F5 x0 4 (min (pd_w ((F5 x0 4) + 1)) (pd_ln sh 2 8 (F5 x0 0)))) fun F7 =>
  some F7
def pfX3_remember_b19 (sh : pd_S) (n : Nat)  (F : pd_F) (x0 : Int) (x1 : Int) : Option pd_F :=
  pd_i (pd_ob sh 3 x0 = true) <|
  pd_l (pd_up F x0 3 0) fun F9 =>
  pfX3_remember_b24 sh n F9 x0 x1
def pfX3_remember (sh : pd_S) (n : Nat) (F : pd_F) (x0 : Int) (x1 : Int) : Option pd_F :=
  pd_i (pd_ob sh 3 x0 = true) <|
  if (F x0 3) < 0 then
    pfX3_remember_b19 sh n F x0 x1
  else
    pd_i (0 ≤ pd_ln sh 2 8 (F x0 0)) <|
    if (F x0 3) < (pd_ln sh 2 8 (F x0 0)) then
      pfX3_remember_b24 sh n F x0 x1
    else
      pfX3_remember_b19 sh n F x0 x1
set_option maxHeartbeats 4000000 in
set_option maxRecDepth 100000 in
theorem pkX8_begin (l : Launch) {al : Bool} {sh : pd_S} {n : Nat} {F : pd_F} {x0 : Int} {x1 : Int} {Fz : pd_F} (hf : pfX8_begin sh n F x0 x1 = some Fz) : pd_C l yX8_begin (Cond.code yX8_begin cX8_begin 2 none :: pd_gt) (pd_rm 1 0 0) al 0 0 sh F [pd_R x0, pd_R x1] none sh Fz := by
  unfold pfX8_begin at hf
  refine pd_body (L := [pd_R x0, pd_R x1]) (by decide +kernel) (Nat.le_of_ble_eq_true rfl) rfl (fun E => ?_)
  refine pd_aload_n (i := 1) dX8_begin_0 rfl rfl ?_
  obtain ⟨hg1, hf⟩ := pd_ig hf
  refine pd_getN (x := pd_R (F x1 3)) 3 dX8_begin_1 (show vwCl[0]? = some (RX0, TX0, 15) from rfl) pin_0 (by decide) pq_245 hg1 rfl ?_
  refine pd_iconst dX8_begin_4 (by decide) ?_
  refine pd_aload_n (i := 0) dX8_begin_5 rfl rfl ?_
  obtain ⟨hg2, hf⟩ := pd_ig hf
  refine pd_get (x := pd_R (F x0 0)) 0 dX8_begin_6 (show vwCl[8]? = some (RX8, TX8, 6) from rfl) pin_8 (by decide) pq_246 hg2 rfl ?_
  refine pd_iconst dX8_begin_9 (by decide) ?_
  refine pd_bipush dX8_begin_10 (by decide) ?_
  obtain ⟨hg3, hf⟩ := pd_ig hf
  refine pd_copy dX8_begin_12 pq_247 pq_25 pq_26 pq_27 pd_rmR2 (Nat.le_of_ble_eq_true rfl) hg3 ?_
  refine pd_topF (fun F4 eF4 => ?_)
  have hf := pd_lt hf eF4
  clear eF4
  refine pd_aload_n (i := 1) dX8_begin_15 rfl rfl ?_
  refine pd_getN (x := pd_R (F4 x1 6)) 6 dX8_begin_16 (show vwCl[0]? = some (RX0, TX0, 15) from rfl) pin_0 (by decide) pq_248 hg1 rfl ?_
  refine pd_iconst dX8_begin_19 (by decide) ?_
  refine pd_aload_n (i := 0) dX8_begin_20 rfl rfl ?_
  refine pd_get (x := pd_R (F4 x0 1)) 1 dX8_begin_21 (show vwCl[8]? = some (RX8, TX8, 6) from rfl) pin_8 (by decide) pq_249 hg2 rfl ?_
  refine pd_iconst dX8_begin_24 (by decide) ?_
  refine pd_iconst dX8_begin_25 (by decide) ?_
  obtain ⟨hg5, hf⟩ := pd_ig hf
  refine pd_copy dX8_begin_26 pq_247 pq_25 pq_26 pq_27 pd_rmR2 (Nat.le_of_ble_eq_true rfl) hg5 ?_
  refine pd_topF (fun F6 eF6 => ?_)
  have hf := pd_lt hf eF6
  clear eF6
  refine pd_aload_n (i := 0) dX8_begin_29 rfl rfl ?_
  refine pd_iconst dX8_begin_30 (by decide) ?_
  refine pd_put (n := 0) (x := pd_I 0) 4 dX8_begin_31 (show vwCl[8]? = some (RX8, TX8, 6) from rfl) pin_8 tyX8_ok nmX8 (by decide) pq_250 rfl hg2 rfl pd_nrI pd_ftI ?_
  refine pd_topF (fun F7 eF7 => ?_)
  have hf := pd_lt hf eF7
  clear eF7
  refine pd_aload_n (i := 0) dX8_begin_34 rfl rfl ?_
  refine pd_lconst (x := 0) dX8_begin_35 (by decide) ?_
  refine pd_put (n := 0) (x := pd_J 0) 5 dX8_begin_36 (show vwCl[8]? = some (RX8, TX8, 6) from rfl) pin_8 tyX8_ok nmX8 (by decide) pq_251 rfl hg2 rfl pd_nrJ pd_ftJ ?_
  refine pd_topF (fun F8 eF8 => ?_)
  have hf := pd_lt hf eF8
  clear eF8
  obtain h2 := pd_inj1 hf
  subst h2
  exact pd_vret dX8_begin_39 rfl (Nat.le_refl 0) (Nat.le_refl 0)
set_option maxHeartbeats 4000000 in
set_option maxRecDepth 100000 in
theorem pkX8_copyFrom (l : Launch) {al : Bool} {sh : pd_S} {n : Nat} {F : pd_F} {x0 : Int} {x1 : Int} {Fz : pd_F} (hf : pfX8_copyFrom sh n F x0 x1 = some Fz) : pd_C l yX8_copyFrom (Cond.code yX8_copyFrom cX8_copyFrom 2 none :: pd_gt) (pd_rm 1 0 0) al 0 0 sh F [pd_R x0, pd_R x1] none sh Fz := by
  unfold pfX8_copyFrom at hf
  refine pd_body (L := [pd_R x0, pd_R x1]) (by decide +kernel) (Nat.le_of_ble_eq_true rfl) rfl (fun E => ?_)
  refine pd_aload_n (i := 1) dX8_copyFrom_0 rfl rfl ?_
  obtain ⟨hg1, hf⟩ := pd_ig hf
  refine pd_get (x := pd_R (F x1 0)) 0 dX8_copyFrom_1 (show vwCl[8]? = some (RX8, TX8, 6) from rfl) pin_8 (by decide) pq_246 hg1 rfl ?_
  refine pd_iconst dX8_copyFrom_4 (by decide) ?_
  refine pd_aload_n (i := 0) dX8_copyFrom_5 rfl rfl ?_
  obtain ⟨hg2, hf⟩ := pd_ig hf
  refine pd_get (x := pd_R (F x0 0)) 0 dX8_copyFrom_6 (show vwCl[8]? = some (RX8, TX8, 6) from rfl) pin_8 (by decide) pq_246 hg2 rfl ?_
  refine pd_iconst dX8_copyFrom_9 (by decide) ?_
  refine pd_bipush dX8_copyFrom_10 (by decide) ?_
  obtain ⟨hg3, hf⟩ := pd_ig hf
  refine pd_copy dX8_copyFrom_12 pq_247 pq_25 pq_26 pq_27 pd_rmR2 (Nat.le_of_ble_eq_true rfl) hg3 ?_
  refine pd_topF (fun F4 eF4 => ?_)
  have hf := pd_lt hf eF4
  clear eF4
  refine pd_aload_n (i := 1) dX8_copyFrom_15 rfl rfl ?_
  refine pd_get (x := pd_R (F4 x1 1)) 1 dX8_copyFrom_16 (show vwCl[8]? = some (RX8, TX8, 6) from rfl) pin_8 (by decide) pq_249 hg1 rfl ?_
  refine pd_iconst dX8_copyFrom_19 (by decide) ?_
  refine pd_aload_n (i := 0) dX8_copyFrom_20 rfl rfl ?_
  refine pd_get (x := pd_R (F4 x0 1)) 1 dX8_copyFrom_21 (show vwCl[8]? = some (RX8, TX8, 6) from rfl) pin_8 (by decide) pq_249 hg2 rfl ?_
  refine pd_iconst dX8_copyFrom_24 (by decide) ?_
  refine pd_iconst dX8_copyFrom_25 (by decide) ?_
  obtain ⟨hg5, hf⟩ := pd_ig hf
  refine pd_copy dX8_copyFrom_26 pq_247 pq_25 pq_26 pq_27 pd_rmR2 (Nat.le_of_ble_eq_true rfl) hg5 ?_
  refine pd_topF (fun F6 eF6 => ?_)
  have hf := pd_lt hf eF6
  clear eF6
  refine pd_aload_n (i := 1) dX8_copyFrom_29 rfl rfl ?_
  refine pd_get (x := pd_R (F6 x1 2)) 2 dX8_copyFrom_30 (show vwCl[8]? = some (RX8, TX8, 6) from rfl) pin_8 (by decide) pq_252 hg1 rfl ?_
  refine pd_iconst dX8_copyFrom_33 (by decide) ?_
  refine pd_aload_n (i := 0) dX8_copyFrom_34 rfl rfl ?_
  refine pd_get (x := pd_R (F6 x0 2)) 2 dX8_copyFrom_35 (show vwCl[8]? = some (RX8, TX8, 6) from rfl) pin_8 (by decide) pq_252 hg2 rfl ?_
  refine pd_iconst dX8_copyFrom_38 (by decide) ?_
  refine pd_bipush dX8_copyFrom_39 (by decide) ?_
  obtain ⟨hg7, hf⟩ := pd_ig hf
  refine pd_copy dX8_copyFrom_41 pq_247 pq_25 pq_26 pq_27 pd_rmR2 (Nat.le_of_ble_eq_true rfl) hg7 ?_
  refine pd_topF (fun F8 eF8 => ?_)
  have hf := pd_lt hf eF8
  clear eF8
  refine pd_aload_n (i := 1) dX8_copyFrom_44 rfl rfl ?_
  refine pd_get (x := pd_R (F8 x1 3)) 3 dX8_copyFrom_45 (show vwCl[8]? = some (RX8, TX8, 6) from rfl) pin_8 (by decide) pq_253 hg1 rfl ?_
  refine pd_iconst dX8_copyFrom_48 (by decide) ?_
  refine pd_aload_n (i := 0) dX8_copyFrom_49 rfl rfl ?_
  refine pd_get (x := pd_R (F8 x0 3)) 3 dX8_copyFrom_50 (show vwCl[8]? = some (RX8, TX8, 6) from rfl) pin_8 (by decide) pq_253 hg2 rfl ?_
  refine pd_iconst dX8_copyFrom_53 (by decide) ?_
  refine pd_bipush dX8_copyFrom_54 (by decide) ?_
  obtain ⟨hg9, hf⟩ := pd_ig hf
  refine pd_copy dX8_copyFrom_56 pq_247 pq_25 pq_26 pq_27 pd_rmR2 (Nat.le_of_ble_eq_true rfl) hg9 ?_
  refine pd_topF (fun F10 eF10 => ?_)
  have hf := pd_lt hf eF10
  clear eF10
  refine pd_aload_n (i := 0) dX8_copyFrom_59 rfl rfl ?_
  refine pd_aload_n (i := 1) dX8_copyFrom_60 rfl rfl ?_
  refine pd_get (x := pd_I (F10 x1 4)) 4 dX8_copyFrom_61 (show vwCl[8]? = some (RX8, TX8, 6) from rfl) pin_8 (by decide) pq_250 hg1 rfl ?_
  refine pd_put (n := (F10 x1 4)) (x := pd_I (F10 x1 4)) 4 dX8_copyFrom_64 (show vwCl[8]? = some (RX8, TX8, 6) from rfl) pin_8 tyX8_ok nmX8 (by decide) pq_250 rfl hg2 rfl pd_nrI pd_ftI ?_
  refine pd_topF (fun F11 eF11 => ?_)
  have hf := pd_lt hf eF11
  clear eF11
  refine pd_aload_n (i := 0) dX8_copyFrom_67 rfl rfl ?_
  refine pd_aload_n (i := 1) dX8_copyFrom_68 rfl rfl ?_
  refine pd_get (x := pd_J (F11 x1 5)) 5 dX8_copyFrom_69 (show vwCl[8]? = some (RX8, TX8, 6) from rfl) pin_8 (by decide) pq_251 hg1 rfl ?_
  refine pd_put (n := (F11 x1 5)) (x := pd_J (F11 x1 5)) 5 dX8_copyFrom_72 (show vwCl[8]? = some (RX8, TX8, 6) from rfl) pin_8 tyX8_ok nmX8 (by decide) pq_251 rfl hg2 rfl pd_nrJ pd_ftJ ?_
  refine pd_topF (fun F12 eF12 => ?_)
  have hf := pd_lt hf eF12
  clear eF12
  obtain h2 := pd_inj1 hf
  subst h2
  exact pd_vret dX8_copyFrom_75 rfl (Nat.le_refl 0) (Nat.le_refl 0)
set_option maxHeartbeats 4000000 in
set_option maxRecDepth 100000 in
theorem pkX8_balanceOf (l : Launch) {al : Bool} {sh : pd_S} {n : Nat} {F : pd_F} {x0 : Int} {x1 : Int} {ρ : Int} {Fz : pd_F} (hf : pfX8_balanceOf sh n F x0 x1 = some (ρ, Fz)) : pd_C l yX8_balanceOf (Cond.code yX8_balanceOf cX8_balanceOf 2 (some .int) :: pd_gt) (pd_rm 1 0 0) al 0 0 sh F [pd_R x0, pd_I x1] (some (pd_I ρ)) sh Fz := by
  unfold pfX8_balanceOf at hf
  refine pd_body (L := [pd_R x0, pd_I x1]) (by decide +kernel) (Nat.le_of_ble_eq_true rfl) rfl (fun E => ?_)
  refine pd_iload_n (i := 1) dX8_balanceOf_0 rfl rfl ?_
  refine pd_if_lt (tgt := 22) dX8_balanceOf_1 (by decide) (fun hc => ?_) (fun hc => ?_)
  · have hf := pd_ip hf hc
    refine pd_iconst dX8_balanceOf_22 (by decide) ?_
    obtain ⟨h1, h2⟩ := pd_inj hf
    subst h1 h2
    exact pd_iret dX8_balanceOf_23 rfl (Nat.le_refl 0) (Nat.le_refl 0)
  · have hf := pd_in_ hf hc
    refine pd_iload_n (i := 1) dX8_balanceOf_4 rfl rfl ?_
    refine pd_aload_n (i := 0) dX8_balanceOf_5 rfl rfl ?_
    obtain ⟨hg1, hf⟩ := pd_ig hf
    refine pd_get (x := pd_R (F x0 0)) 0 dX8_balanceOf_6 (show vwCl[8]? = some (RX8, TX8, 6) from rfl) pin_8 (by decide) pq_246 hg1 rfl ?_
    obtain ⟨hg2, hf⟩ := pd_ig hf
    refine pd_alen dX8_balanceOf_9 (by decide) hg2 ?_
    refine pd_icmp_ge (tgt := 22) dX8_balanceOf_10 (by decide) (fun hc => ?_) (fun hc => ?_)
    · have hf := pd_ip hf hc
      refine pd_iconst dX8_balanceOf_22 (by decide) ?_
      obtain ⟨h1, h2⟩ := pd_inj hf
      subst h1 h2
      exact pd_iret dX8_balanceOf_23 rfl (Nat.le_refl 0) (Nat.le_refl 0)
    · have hf := pd_in_ hf hc
      refine pd_aload_n (i := 0) dX8_balanceOf_13 rfl rfl ?_
      refine pd_get (x := pd_R (F x0 0)) 0 dX8_balanceOf_14 (show vwCl[8]? = some (RX8, TX8, 6) from rfl) pin_8 (by decide) pq_246 hg1 rfl ?_
      refine pd_iload_n (i := 1) dX8_balanceOf_17 rfl rfl ?_
      obtain ⟨hg3, hf⟩ := pd_ig hf
      refine pd_iald dX8_balanceOf_18 hg3 ?_
      refine pd_goto (tgt := 23) dX8_balanceOf_19 (by decide) ?_
      obtain ⟨h1, h2⟩ := pd_inj hf
      subst h1 h2
      exact pd_iret dX8_balanceOf_23 rfl (Nat.le_refl 0) (Nat.le_refl 0)
set_option maxHeartbeats 4000000 in
set_option maxRecDepth 100000 in
theorem pkX8_isLeftOut (l : Launch) {al : Bool} {sh : pd_S} {n : Nat} {F : pd_F} {x0 : Int} {x1 : Int} {ρ : Int} {Fz : pd_F} (hf : pfX8_isLeftOut sh n F x0 x1 = some (ρ, Fz)) : pd_C l yX8_isLeftOut (Cond.code yX8_isLeftOut cX8_isLeftOut 2 (some .boolean) :: pd_gt) (pd_rm 1 0 0) al 0 0 sh F [pd_R x0, pd_I x1] (some (pd_I ρ)) sh Fz := by
  unfold pfX8_isLeftOut at hf
  refine pd_body (L := [pd_R x0, pd_I x1]) (by decide +kernel) (Nat.le_of_ble_eq_true rfl) rfl (fun E => ?_)
  refine pd_aload_n (i := 0) dX8_isLeftOut_0 rfl rfl ?_
  obtain ⟨hg1, hf⟩ := pd_ig hf
  refine pd_get (x := pd_J (F x0 5)) 5 dX8_isLeftOut_1 (show vwCl[8]? = some (RX8, TX8, 6) from rfl) pin_8 (by decide) pq_251 hg1 rfl ?_
  refine pd_iload_n (i := 1) dX8_isLeftOut_4 rfl rfl ?_
  refine pd_lushr dX8_isLeftOut_5 ?_
  refine pd_lconst (x := 1) dX8_isLeftOut_6 (by decide) ?_
  refine pd_land dX8_isLeftOut_7 ?_
  refine pd_lconst (x := 0) dX8_isLeftOut_8 (by decide) ?_
  refine pd_lcmp_eq (tgt := 17) dX8_isLeftOut_9 dX8_isLeftOut_10 (by decide) (fun hc => ?_) (fun hc => ?_)
  · have hf := pd_ip hf hc
    refine pd_iconst dX8_isLeftOut_17 (by decide) ?_
    obtain ⟨h1, h2⟩ := pd_inj hf
    subst h1 h2
    exact pd_zret dX8_isLeftOut_18 rfl (by decide) (Nat.le_refl 0) (Nat.le_refl 0)
  · have hf := pd_in_ hf hc
    refine pd_iconst dX8_isLeftOut_13 (by decide) ?_
    refine pd_goto (tgt := 18) dX8_isLeftOut_14 (by decide) ?_
    obtain ⟨h1, h2⟩ := pd_inj hf
    subst h1 h2
    exact pd_zret dX8_isLeftOut_18 rfl (by decide) (Nat.le_refl 0) (Nat.le_refl 0)
set_option maxHeartbeats 4000000 in
set_option maxRecDepth 100000 in
theorem pkX8_leaveOut (l : Launch) {al : Bool} {sh : pd_S} {n : Nat} {F : pd_F} {x0 : Int} {x1 : Int} {x2 : Int} {Fz : pd_F} (hf : pfX8_leaveOut sh n F x0 x1 x2 = some Fz) : pd_C l yX8_leaveOut (Cond.code yX8_leaveOut cX8_leaveOut 5 none :: pd_gt) (pd_rm 1 0 0) al 0 0 sh F [pd_R x0, pd_I x1, pd_I x2] none sh Fz := by
  unfold pfX8_leaveOut at hf
  refine pd_body (L := [pd_R x0, pd_I x1, pd_I x2, pd_N, pd_N]) (by decide +kernel) (Nat.le_of_ble_eq_true rfl) rfl (fun E => ?_)
  refine pd_lconst (x := 1) dX8_leaveOut_0 (by decide) ?_
  refine pd_iload_n (i := 1) dX8_leaveOut_1 rfl rfl ?_
  refine pd_lshl dX8_leaveOut_2 ?_
  refine pd_topJ (fun x3_3 ex3_3 => ?_)
  have hf := pd_lt hf ex3_3
  clear ex3_3
  refine pd_lstore_n (L' := [pd_R x0, pd_I x1, pd_I x2, pd_J x3_3, pd_N]) dX8_leaveOut_3 rfl (by decide) rfl ?_
  refine pd_aload_n (i := 0) dX8_leaveOut_4 rfl rfl ?_
  refine pd_iload_n (i := 2) dX8_leaveOut_5 rfl rfl ?_
  refine pd_if_eq (tgt := 18) dX8_leaveOut_6 (by decide) (fun hc => ?_) (fun hc => ?_)
  · have hf := pd_ip hf hc
    refine pd_aload_n (i := 0) dX8_leaveOut_18 rfl rfl ?_
    obtain ⟨hg1, hf⟩ := pd_ig hf
    refine pd_get (x := pd_J (F x0 5)) 5 dX8_leaveOut_19 (show vwCl[8]? = some (RX8, TX8, 6) from rfl) pin_8 (by decide) pq_251 hg1 rfl ?_
    refine pd_lload_n (i := 3) dX8_leaveOut_22 rfl rfl ?_
    refine pd_ldc2 (x := (-1)) dX8_leaveOut_23 pq_254 (by decide +kernel) ?_
    refine pd_lxor dX8_leaveOut_26 ?_
    refine pd_land dX8_leaveOut_27 ?_
    refine pd_put (n := (pd_And (F x0 5) (pd_Xor x3_3 (-1)))) (x := pd_J (pd_And (F x0 5) (pd_Xor x3_3 (-1)))) 5 dX8_leaveOut_28 (show vwCl[8]? = some (RX8, TX8, 6) from rfl) pin_8 tyX8_ok nmX8 (by decide) pq_251 rfl hg1 rfl pd_nrJ pd_ftJ ?_
    refine pd_topF (fun F2 eF2 => ?_)
    have hf := pd_lt hf eF2
    clear eF2
    obtain h2 := pd_inj1 hf
    subst h2
    exact pd_vret dX8_leaveOut_31 rfl (Nat.le_refl 0) (Nat.le_refl 0)
  · have hf := pd_in_ hf hc
    refine pd_aload_n (i := 0) dX8_leaveOut_9 rfl rfl ?_
    obtain ⟨hg3, hf⟩ := pd_ig hf
    refine pd_get (x := pd_J (F x0 5)) 5 dX8_leaveOut_10 (show vwCl[8]? = some (RX8, TX8, 6) from rfl) pin_8 (by decide) pq_251 hg3 rfl ?_
    refine pd_lload_n (i := 3) dX8_leaveOut_13 rfl rfl ?_
    refine pd_lor dX8_leaveOut_14 ?_
    refine pd_goto (tgt := 28) dX8_leaveOut_15 (by decide) ?_
    refine pd_put (n := (pd_Or (F x0 5) x3_3)) (x := pd_J (pd_Or (F x0 5) x3_3)) 5 dX8_leaveOut_28 (show vwCl[8]? = some (RX8, TX8, 6) from rfl) pin_8 tyX8_ok nmX8 (by decide) pq_251 rfl hg3 rfl pd_nrJ pd_ftJ ?_
    refine pd_topF (fun F4 eF4 => ?_)
    have hf := pd_lt hf eF4
    clear eF4
    obtain h2 := pd_inj1 hf
    subst h2
    exact pd_vret dX8_leaveOut_31 rfl (Nat.le_refl 0) (Nat.le_refl 0)
set_option maxHeartbeats 4000000 in
set_option maxRecDepth 100000 in
theorem pkX8_addJoin (l : Launch) {al : Bool} {sh : pd_S} {n : Nat} {F : pd_F} {x0 : Int} {x1 : Int} {x2 : Int} {Fz : pd_F} (hf : pfX8_addJoin sh n F x0 x1 x2 = some Fz) : pd_C l yX8_addJoin (Cond.code yX8_addJoin cX8_addJoin 3 none :: pd_gt) (pd_rm 1 0 0) al 0 0 sh F [pd_R x0, pd_I x1, pd_I x2] none sh Fz := by
  unfold pfX8_addJoin at hf
  refine pd_body (L := [pd_R x0, pd_I x1, pd_I x2]) (by decide +kernel) (Nat.le_of_ble_eq_true rfl) rfl (fun E => ?_)
  refine pd_aload_n (i := 0) dX8_addJoin_0 rfl rfl ?_
  obtain ⟨hg1, hf⟩ := pd_ig hf
  refine pd_get (x := pd_I (F x0 4)) 4 dX8_addJoin_1 (show vwCl[8]? = some (RX8, TX8, 6) from rfl) pin_8 (by decide) pq_250 hg1 rfl ?_
  refine pd_aload_n (i := 0) dX8_addJoin_4 rfl rfl ?_
  refine pd_get (x := pd_R (F x0 2)) 2 dX8_addJoin_5 (show vwCl[8]? = some (RX8, TX8, 6) from rfl) pin_8 (by decide) pq_252 hg1 rfl ?_
  obtain ⟨hg2, hf⟩ := pd_ig hf
  refine pd_alen dX8_addJoin_8 (by decide) hg2 ?_
  refine pd_icmp_ge (tgt := 42) dX8_addJoin_9 (by decide) (fun hc => ?_) (fun hc => ?_)
  · have hf := pd_ip hf hc
    obtain h2 := pd_inj1 hf
    subst h2
    exact pd_vret dX8_addJoin_42 rfl (Nat.le_refl 0) (Nat.le_refl 0)
  · have hf := pd_in_ hf hc
    refine pd_aload_n (i := 0) dX8_addJoin_12 rfl rfl ?_
    refine pd_get (x := pd_R (F x0 2)) 2 dX8_addJoin_13 (show vwCl[8]? = some (RX8, TX8, 6) from rfl) pin_8 (by decide) pq_252 hg1 rfl ?_
    refine pd_aload_n (i := 0) dX8_addJoin_16 rfl rfl ?_
    refine pd_get (x := pd_I (F x0 4)) 4 dX8_addJoin_17 (show vwCl[8]? = some (RX8, TX8, 6) from rfl) pin_8 (by decide) pq_250 hg1 rfl ?_
    refine pd_iload_n (i := 1) dX8_addJoin_20 rfl rfl ?_
    obtain ⟨hg3, hf⟩ := pd_ig hf
    refine pd_iast dX8_addJoin_21 hg3 ?_
    refine pd_topF (fun F4 eF4 => ?_)
    have hf := pd_lt hf eF4
    clear eF4
    refine pd_aload_n (i := 0) dX8_addJoin_22 rfl rfl ?_
    refine pd_get (x := pd_R (F4 x0 3)) 3 dX8_addJoin_23 (show vwCl[8]? = some (RX8, TX8, 6) from rfl) pin_8 (by decide) pq_253 hg1 rfl ?_
    refine pd_aload_n (i := 0) dX8_addJoin_26 rfl rfl ?_
    refine pd_get (x := pd_I (F4 x0 4)) 4 dX8_addJoin_27 (show vwCl[8]? = some (RX8, TX8, 6) from rfl) pin_8 (by decide) pq_250 hg1 rfl ?_
    refine pd_iload_n (i := 2) dX8_addJoin_30 rfl rfl ?_
    obtain ⟨hg5, hf⟩ := pd_ig hf
    refine pd_iast dX8_addJoin_31 hg5 ?_
    refine pd_topF (fun F6 eF6 => ?_)
    have hf := pd_lt hf eF6
    clear eF6
    refine pd_aload_n (i := 0) dX8_addJoin_32 rfl rfl ?_
    refine pd_dup dX8_addJoin_33 rfl ?_
    refine pd_get (x := pd_I (F6 x0 4)) 4 dX8_addJoin_34 (show vwCl[8]? = some (RX8, TX8, 6) from rfl) pin_8 (by decide) pq_250 hg1 rfl ?_
    refine pd_iconst dX8_addJoin_37 (by decide) ?_
    refine pd_iadd dX8_addJoin_38 ?_
    refine pd_put (n := (pd_w ((F6 x0 4) + 1))) (x := pd_I (pd_w ((F6 x0 4) + 1))) 4 dX8_addJoin_39 (show vwCl[8]? = some (RX8, TX8, 6) from rfl) pin_8 tyX8_ok nmX8 (by decide) pq_250 rfl hg1 rfl pd_nrI pd_ftI ?_
    refine pd_topF (fun F7 eF7 => ?_)
    have hf := pd_lt hf eF7
    clear eF7
    obtain h2 := pd_inj1 hf
    subst h2
    exact pd_vret dX8_addJoin_42 rfl (Nat.le_refl 0) (Nat.le_refl 0)
set_option maxHeartbeats 4000000 in
set_option maxRecDepth 100000 in
theorem pkX3_forget_b7 (E : pd_E) (l : Launch) {al : Bool} {sh : pd_S} {n : Nat} {Fz : pd_F}  : ∀ (k : Nat) (F : pd_F) (x0 : Int) (x1 : Int), pfX3_forget_b7 sh n  k F x0 x1 = some Fz → pd_V E l (pd_rm 1 0 0) (RX3, cX3_forget, 2, none, "forget") (pd_Qm E al none sh Fz 0 0) al 0 0 sh F 7 [pd_R x0, pd_I x1] [] := by
  intro k
  induction k with
  | zero => intro F x0 x1 hf; exact absurd hf (by unfold pfX3_forget_b7; exact fun h => nomatch h)
  | succ k ih =>
    intro F x0 x1 hf
    unfold pfX3_forget_b7 at hf
    refine pd_iload_n (i := 1) dX3_forget_7 rfl rfl ?_
    refine pd_aload_n (i := 0) dX3_forget_8 rfl rfl ?_
    obtain ⟨hg1, hf⟩ := pd_ig hf
    refine pd_get (x := pd_R (F x0 2)) 2 dX3_forget_9 (show vwCl[3]? = some (RX3, TX3, 5) from rfl) pin_3 (by decide) pq_255 hg1 rfl ?_
    obtain ⟨hg2, hf⟩ := pd_ig hf
    refine pd_alen dX3_forget_12 (by decide) hg2 ?_
    refine pd_icmp_ge (tgt := 29) dX3_forget_13 (by decide) (fun hc => ?_) (fun hc => ?_)
    · have hf := pd_ip hf hc
      obtain h2 := pd_inj1 hf
      subst h2
      exact pd_vret dX3_forget_29 rfl (Nat.le_refl 0) (Nat.le_refl 0)
    · have hf := pd_in_ hf hc
      refine pd_aload_n (i := 0) dX3_forget_16 rfl rfl ?_
      refine pd_get (x := pd_R (F x0 2)) 2 dX3_forget_17 (show vwCl[3]? = some (RX3, TX3, 5) from rfl) pin_3 (by decide) pq_255 hg1 rfl ?_
      refine pd_iload_n (i := 1) dX3_forget_20 rfl rfl ?_
      refine pd_iconst dX3_forget_21 (by decide) ?_
      obtain ⟨hg3, hf⟩ := pd_ig hf
      refine pd_zast (by decide) dX3_forget_22 hg3 ?_
      refine pd_topF (fun F4 eF4 => ?_)
      have hf := pd_lt hf eF4
      clear eF4
      refine pd_iincN (L' := fun y => [pd_R x0, pd_I y]) dX3_forget_23 rfl (by decide) (by decide) (fun _ => rfl) (fun x1_23 ex1_23 => ?_)
      have hf := pd_lt hf ex1_23
      clear ex1_23
      refine pd_goto (tgt := 7) dX3_forget_26 (by decide) ?_
      exact pd_weak (L' := [pd_R x0, pd_I x1_23]) ⟨Or.inr rfl, Or.inr rfl, trivial⟩ (ih _ _ _ hf)
set_option maxHeartbeats 4000000 in
set_option maxRecDepth 100000 in
theorem pkX3_forget (l : Launch) {al : Bool} {sh : pd_S} {n : Nat} {F : pd_F} {x0 : Int} {Fz : pd_F} (hf : pfX3_forget sh n F x0 = some Fz) : pd_C l yX3_forget (Cond.code yX3_forget cX3_forget 2 none :: pd_gt) (pd_rm 1 0 0) al 0 0 sh F [pd_R x0] none sh Fz := by
  unfold pfX3_forget at hf
  refine pd_body (L := [pd_R x0, pd_N]) (by decide +kernel) (Nat.le_of_ble_eq_true rfl) rfl (fun E => ?_)
  refine pd_aload_n (i := 0) dX3_forget_0 rfl rfl ?_
  refine pd_iconst dX3_forget_1 (by decide) ?_
  obtain ⟨hg5, hf⟩ := pd_ig hf
  refine pd_put (n := 0) (x := pd_I 0) 4 dX3_forget_2 (show vwCl[3]? = some (RX3, TX3, 5) from rfl) pin_3 tyX3_ok nmX3 (by decide) pq_256 rfl hg5 rfl pd_nrI pd_ftI ?_
  refine pd_topF (fun F6 eF6 => ?_)
  have hf := pd_lt hf eF6
  clear eF6
  refine pd_iconst dX3_forget_5 (by decide) ?_
  refine pd_istore_n (L' := [pd_R x0, pd_I 0]) dX3_forget_6 rfl (by decide) rfl ?_
  exact pd_weak (L' := [pd_R x0, pd_I 0]) ⟨Or.inr rfl, Or.inr rfl, trivial⟩ (pkX3_forget_b7 E l n _ _ _ hf)
set_option maxHeartbeats 4000000 in
set_option maxRecDepth 100000 in
theorem pkX3_remember_b24 (E : pd_E) (l : Launch) {al : Bool} {sh : pd_S} {n : Nat} {Fz : pd_F}  (F : pd_F) (x0 : Int) (x1 : Int) (hf : pfX3_remember_b24 sh n  F x0 x1 = some Fz) : pd_V E l (pd_rm 2 0 0) (RX3, cX3_remember, 2, none, "remember") (pd_Qm E al none sh Fz 0 0) al 0 0 sh F 24 [pd_R x0, pd_R x1] [] := by
  unfold pfX3_remember_b24 at hf
  refine pd_aload_n (i := 0) dX3_remember_24 rfl rfl ?_
  obtain ⟨hg1, hf⟩ := pd_ig hf
  refine pd_get (x := pd_R (F x0 0)) 0 dX3_remember_25 (show vwCl[3]? = some (RX3, TX3, 5) from rfl) pin_3 (by decide) pq_257 hg1 rfl ?_
  refine pd_aload_n (i := 0) dX3_remember_28 rfl rfl ?_
  refine pd_get (x := pd_I (F x0 3)) 3 dX3_remember_29 (show vwCl[3]? = some (RX3, TX3, 5) from rfl) pin_3 (by decide) pq_258 hg1 rfl ?_
  obtain ⟨hg2, hf⟩ := pd_ig hf
  refine pd_aald dX3_remember_32 hg2 ?_
  refine pd_aload_n (i := 1) dX3_remember_33 rfl rfl ?_
  obtain ⟨hg4, hf⟩ := pd_ig hf
  obtain ⟨F3, hr, hf⟩ := pd_ob1 hf
  refine pd_callV (pkX8_copyFrom l hr) dX3_remember_34 pq_259 pq_262 pq_263 (show vwCl[8]? = some (yX8_copyFrom.cls, TX8, 6) from rfl) hg4 (pd_okm (by omega) (by decide) pq_260 pq_261 (by decide) (show (parseMethodDescriptor yX8_copyFrom.desc).map (fun d => d.parameters.length) = some 1 from by decide +kernel)) (Nat.le_of_ble_eq_true rfl) rfl ?_
  refine pd_aload_n (i := 0) dX3_remember_37 rfl rfl ?_
  refine pd_dup dX3_remember_38 rfl ?_
  refine pd_get (x := pd_I (F3 x0 3)) 3 dX3_remember_39 (show vwCl[3]? = some (RX3, TX3, 5) from rfl) pin_3 (by decide) pq_258 hg1 rfl ?_
  refine pd_iconst dX3_remember_42 (by decide) ?_
  refine pd_iadd dX3_remember_43 ?_
  refine pd_put (n := (pd_w ((F3 x0 3) + 1))) (x := pd_I (pd_w ((F3 x0 3) + 1))) 3 dX3_remember_44 (show vwCl[3]? = some (RX3, TX3, 5) from rfl) pin_3 tyX3_ok nmX3 (by decide) pq_258 rfl hg1 rfl pd_nrI pd_ftI ?_
  refine pd_topF (fun F5 eF5 => ?_)
  have hf := pd_lt hf eF5
  clear eF5
  refine pd_aload_n (i := 0) dX3_remember_47 rfl rfl ?_
  refine pd_aload_n (i := 0) dX3_remember_48 rfl rfl ?_
  refine pd_get (x := pd_I (F5 x0 4)) 4 dX3_remember_49 (show vwCl[3]? = some (RX3, TX3, 5) from rfl) pin_3 (by decide) pq_256 hg1 rfl ?_
  refine pd_iconst dX3_remember_52 (by decide) ?_
  refine pd_iadd dX3_remember_53 ?_
  refine pd_aload_n (i := 0) dX3_remember_54 rfl rfl ?_
  refine pd_get (x := pd_R (F5 x0 0)) 0 dX3_remember_55 (show vwCl[3]? = some (RX3, TX3, 5) from rfl) pin_3 (by decide) pq_257 hg1 rfl ?_
  obtain ⟨hg6, hf⟩ := pd_ig hf
  refine pd_alen dX3_remember_58 (by decide) hg6 ?_
  refine pd_mmin dX3_remember_59 pq_264 pq_63 pq_40 pq_64 pd_rmR (Nat.le_of_ble_eq_true rfl) ?_
  refine pd_put (n := (min (pd_w ((F5 x0 4) + 1)) (pd_ln sh 2 8 (F5 x0 0)))) (x := pd_I (min (pd_w ((F5 x0 4) + 1)) (pd_ln sh 2 8 (F5 x0 0)))) 4 dX3_remember_62 (show vwCl[3]? = some (RX3, TX3, 5) from rfl) pin_3 tyX3_ok nmX3 (by decide) pq_256 rfl hg1 rfl pd_nrI pd_ftI ?_
  refine pd_topF (fun F7 eF7 => ?_)
  have hf := pd_lt hf eF7
  clear eF7
  obtain h2 := pd_inj1 hf
  subst h2
  exact pd_vret dX3_remember_65 rfl (Nat.le_refl 0) (Nat.le_refl 0)
set_option maxHeartbeats 4000000 in
set_option maxRecDepth 100000 in
theorem pkX3_remember_b19 (E : pd_E) (l : Launch) {al : Bool} {sh : pd_S} {n : Nat} {Fz : pd_F}  (F : pd_F) (x0 : Int) (x1 : Int) (hf : pfX3_remember_b19 sh n  F x0 x1 = some Fz) : pd_V E l (pd_rm 2 0 0) (RX3, cX3_remember, 2, none, "remember") (pd_Qm E al none sh Fz 0 0) al 0 0 sh F 19 [pd_R x0, pd_R x1] [] := by
  unfold pfX3_remember_b19 at hf
  refine pd_aload_n (i := 0) dX3_remember_19 rfl rfl ?_
  refine pd_iconst dX3_remember_20 (by decide) ?_
  obtain ⟨hg8, hf⟩ := pd_ig hf
  refine pd_put (n := 0) (x := pd_I 0) 3 dX3_remember_21 (show vwCl[3]? = some (RX3, TX3, 5) from rfl) pin_3 tyX3_ok nmX3 (by decide) pq_258 rfl hg8 rfl pd_nrI pd_ftI ?_
  refine pd_topF (fun F9 eF9 => ?_)
  have hf := pd_lt hf eF9
  clear eF9
  exact pd_weak (L' := [pd_R x0, pd_R x1]) ⟨Or.inr rfl, Or.inr rfl, trivial⟩ (pkX3_remember_b24 E l _ _ _ hf)
set_option maxHeartbeats 4000000 in
set_option maxRecDepth 100000 in
theorem pkX3_remember (l : Launch) {al : Bool} {sh : pd_S} {n : Nat} {F : pd_F} {x0 : Int} {x1 : Int} {Fz : pd_F} (hf : pfX3_remember sh n F x0 x1 = some Fz) : pd_C l yX3_remember (Cond.code yX3_remember cX3_remember 2 none :: pd_gt) (pd_rm 2 0 0) al 0 0 sh F [pd_R x0, pd_R x1] none sh Fz := by
  unfold pfX3_remember at hf
  refine pd_body (L := [pd_R x0, pd_R x1]) (by decide +kernel) (Nat.le_of_ble_eq_true rfl) rfl (fun E => ?_)
  refine pd_aload_n (i := 0) dX3_remember_0 rfl rfl ?_
  obtain ⟨hg10, hf⟩ := pd_ig hf
  refine pd_get (x := pd_I (F x0 3)) 3 dX3_remember_1 (show vwCl[3]? = some (RX3, TX3, 5) from rfl) pin_3 (by decide) pq_258 hg10 rfl ?_
  refine pd_if_lt (tgt := 19) dX3_remember_4 (by decide) (fun hc => ?_) (fun hc => ?_)
  · have hf := pd_ip hf hc
    exact pd_weak (L' := [pd_R x0, pd_R x1]) ⟨Or.inr rfl, Or.inr rfl, trivial⟩ (pkX3_remember_b19 E l _ _ _ hf)
  · have hf := pd_in_ hf hc
    refine pd_aload_n (i := 0) dX3_remember_7 rfl rfl ?_
    refine pd_get (x := pd_I (F x0 3)) 3 dX3_remember_8 (show vwCl[3]? = some (RX3, TX3, 5) from rfl) pin_3 (by decide) pq_258 hg10 rfl ?_
    refine pd_aload_n (i := 0) dX3_remember_11 rfl rfl ?_
    refine pd_get (x := pd_R (F x0 0)) 0 dX3_remember_12 (show vwCl[3]? = some (RX3, TX3, 5) from rfl) pin_3 (by decide) pq_257 hg10 rfl ?_
    obtain ⟨hg11, hf⟩ := pd_ig hf
    refine pd_alen dX3_remember_15 (by decide) hg11 ?_
    refine pd_icmp_lt (tgt := 24) dX3_remember_16 (by decide) (fun hc => ?_) (fun hc => ?_)
    · have hf := pd_ip hf hc
      exact pd_weak (L' := [pd_R x0, pd_R x1]) ⟨Or.inr rfl, Or.inr rfl, trivial⟩ (pkX3_remember_b24 E l _ _ _ hf)
    · have hf := pd_in_ hf hc
      exact pd_weak (L' := [pd_R x0, pd_R x1]) ⟨Or.inr rfl, Or.inr rfl, trivial⟩ (pkX3_remember_b19 E l _ _ _ hf)
