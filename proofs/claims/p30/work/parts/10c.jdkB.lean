theorem dJ5_inflateIfNeededFor_a7421_0 : decode cJ5_inflateIfNeededFor_a7421 0 = .ok (.getstatic 18, 3) := by decide +kernel
theorem dJ5_inflateIfNeededFor_a7421_3 : decode cJ5_inflateIfNeededFor_a7421 3 = .ok (.ifCond .eq 18, 3) := by decide +kernel
theorem dJ5_inflateIfNeededFor_a7421_6 : decode cJ5_inflateIfNeededFor_a7421 6 = .ok (.aload_n 0, 1) := by decide +kernel
theorem dJ5_inflateIfNeededFor_a7421_7 : decode cJ5_inflateIfNeededFor_a7421 7 = .ok (.getfield 22, 3) := by decide +kernel
theorem dJ5_inflateIfNeededFor_a7421_10 : decode cJ5_inflateIfNeededFor_a7421 10 = .ok (.aload_n 1, 1) := by decide +kernel
theorem dJ5_inflateIfNeededFor_a7421_11 : decode cJ5_inflateIfNeededFor_a7421 11 = .ok (.invokevirtual 40, 3) := by decide +kernel
theorem dJ5_inflateIfNeededFor_a7421_14 : decode cJ5_inflateIfNeededFor_a7421 14 = .ok (.if_icmp .eq 7, 3) := by decide +kernel
theorem dJ5_inflateIfNeededFor_a7421_17 : decode cJ5_inflateIfNeededFor_a7421 17 = .ok (.aload_n 0, 1) := by decide +kernel
theorem dJ5_inflateIfNeededFor_a7421_18 : decode cJ5_inflateIfNeededFor_a7421 18 = .ok (.invokevirtual 195, 3) := by decide +kernel
theorem dJ5_inflateIfNeededFor_a7421_21 : decode cJ5_inflateIfNeededFor_a7421 21 = .ok (.return_, 1) := by decide +kernel
theorem dJ5_putStringAt_47b60_0 : decode cJ5_putStringAt_47b60 0 = .ok (.aload_n 0, 1) := by decide +kernel
theorem dJ5_putStringAt_47b60_1 : decode cJ5_putStringAt_47b60 1 = .ok (.aload_n 2, 1) := by decide +kernel
theorem dJ5_putStringAt_47b60_2 : decode cJ5_putStringAt_47b60 2 = .ok (.invokevirtual 397, 3) := by decide +kernel
theorem dJ5_putStringAt_47b60_5 : decode cJ5_putStringAt_47b60 5 = .ok (.aload_n 2, 1) := by decide +kernel
theorem dJ5_putStringAt_47b60_6 : decode cJ5_putStringAt_47b60 6 = .ok (.aload_n 0, 1) := by decide +kernel
theorem dJ5_putStringAt_47b60_7 : decode cJ5_putStringAt_47b60 7 = .ok (.getfield 15, 3) := by decide +kernel
theorem dJ5_putStringAt_47b60_10 : decode cJ5_putStringAt_47b60 10 = .ok (.iload_n 1, 1) := by decide +kernel
theorem dJ5_putStringAt_47b60_11 : decode cJ5_putStringAt_47b60 11 = .ok (.aload_n 0, 1) := by decide +kernel
theorem dJ5_putStringAt_47b60_12 : decode cJ5_putStringAt_47b60 12 = .ok (.getfield 22, 3) := by decide +kernel
theorem dJ5_putStringAt_47b60_15 : decode cJ5_putStringAt_47b60 15 = .ok (.invokevirtual 399, 3) := by decide +kernel
theorem dJ5_putStringAt_47b60_18 : decode cJ5_putStringAt_47b60 18 = .ok (.return_, 1) := by decide +kernel
theorem dJ7_copyOf_9075b_0 : decode cJ7_copyOf_9075b 0 = .ok (.iload_n 1, 1) := by decide +kernel
theorem dJ7_copyOf_9075b_1 : decode cJ7_copyOf_9075b 1 = .ok (.aload_n 0, 1) := by decide +kernel
theorem dJ7_copyOf_9075b_2 : decode cJ7_copyOf_9075b 2 = .ok (.arraylength, 1) := by decide +kernel
theorem dJ7_copyOf_9075b_3 : decode cJ7_copyOf_9075b 3 = .ok (.if_icmp .ne 11, 3) := by decide +kernel
theorem dJ7_copyOf_9075b_6 : decode cJ7_copyOf_9075b 6 = .ok (.aload_n 0, 1) := by decide +kernel
theorem dJ7_copyOf_9075b_7 : decode cJ7_copyOf_9075b 7 = .ok (.invokevirtual 310, 3) := by decide +kernel
theorem dJ7_copyOf_9075b_10 : decode cJ7_copyOf_9075b 10 = .ok (.checkcast 311, 3) := by decide +kernel
theorem dJ7_copyOf_9075b_13 : decode cJ7_copyOf_9075b 13 = .ok (.areturn, 1) := by decide +kernel
theorem dJ7_copyOf_9075b_14 : decode cJ7_copyOf_9075b 14 = .ok (.iload_n 1, 1) := by decide +kernel
theorem dJ7_copyOf_9075b_15 : decode cJ7_copyOf_9075b 15 = .ok (.newarray .byte, 2) := by decide +kernel
theorem dJ7_copyOf_9075b_17 : decode cJ7_copyOf_9075b 17 = .ok (.astore_n 2, 1) := by decide +kernel
theorem dJ7_copyOf_9075b_18 : decode cJ7_copyOf_9075b 18 = .ok (.aload_n 0, 1) := by decide +kernel
theorem dJ7_copyOf_9075b_19 : decode cJ7_copyOf_9075b 19 = .ok (.iconst 0, 1) := by decide +kernel
theorem dJ7_copyOf_9075b_20 : decode cJ7_copyOf_9075b 20 = .ok (.aload_n 2, 1) := by decide +kernel
theorem dJ7_copyOf_9075b_21 : decode cJ7_copyOf_9075b 21 = .ok (.iconst 0, 1) := by decide +kernel
theorem dJ7_copyOf_9075b_22 : decode cJ7_copyOf_9075b 22 = .ok (.aload_n 0, 1) := by decide +kernel
theorem dJ7_copyOf_9075b_23 : decode cJ7_copyOf_9075b 23 = .ok (.arraylength, 1) := by decide +kernel
theorem dJ7_copyOf_9075b_24 : decode cJ7_copyOf_9075b 24 = .ok (.iload_n 1, 1) := by decide +kernel
theorem dJ7_copyOf_9075b_25 : decode cJ7_copyOf_9075b 25 = .ok (.invokestatic 304, 3) := by decide +kernel
theorem dJ7_copyOf_9075b_28 : decode cJ7_copyOf_9075b 28 = .ok (.invokestatic 150, 3) := by decide +kernel
theorem dJ7_copyOf_9075b_31 : decode cJ7_copyOf_9075b 31 = .ok (.aload_n 2, 1) := by decide +kernel
theorem dJ7_copyOf_9075b_32 : decode cJ7_copyOf_9075b 32 = .ok (.areturn, 1) := by decide +kernel
theorem dJ5_ensureCapacityInternal_d00df_0 : decode cJ5_ensureCapacityInternal_d00df 0 = .ok (.aload_n 0, 1) := by decide +kernel
theorem dJ5_ensureCapacityInternal_d00df_1 : decode cJ5_ensureCapacityInternal_d00df 1 = .ok (.getfield 15, 3) := by decide +kernel
theorem dJ5_ensureCapacityInternal_d00df_4 : decode cJ5_ensureCapacityInternal_d00df 4 = .ok (.arraylength, 1) := by decide +kernel
theorem dJ5_ensureCapacityInternal_d00df_5 : decode cJ5_ensureCapacityInternal_d00df 5 = .ok (.aload_n 0, 1) := by decide +kernel
theorem dJ5_ensureCapacityInternal_d00df_6 : decode cJ5_ensureCapacityInternal_d00df 6 = .ok (.getfield 22, 3) := by decide +kernel
theorem dJ5_ensureCapacityInternal_d00df_9 : decode cJ5_ensureCapacityInternal_d00df 9 = .ok (.ishr, 1) := by decide +kernel
theorem dJ5_ensureCapacityInternal_d00df_10 : decode cJ5_ensureCapacityInternal_d00df 10 = .ok (.istore_n 2, 1) := by decide +kernel
theorem dJ5_ensureCapacityInternal_d00df_11 : decode cJ5_ensureCapacityInternal_d00df 11 = .ok (.iload_n 1, 1) := by decide +kernel
theorem dJ5_ensureCapacityInternal_d00df_12 : decode cJ5_ensureCapacityInternal_d00df 12 = .ok (.iload_n 2, 1) := by decide +kernel
theorem dJ5_ensureCapacityInternal_d00df_13 : decode cJ5_ensureCapacityInternal_d00df 13 = .ok (.isub, 1) := by decide +kernel
theorem dJ5_ensureCapacityInternal_d00df_14 : decode cJ5_ensureCapacityInternal_d00df 14 = .ok (.ifCond .le 24, 3) := by decide +kernel
theorem dJ5_ensureCapacityInternal_d00df_17 : decode cJ5_ensureCapacityInternal_d00df 17 = .ok (.aload_n 0, 1) := by decide +kernel
theorem dJ5_ensureCapacityInternal_d00df_18 : decode cJ5_ensureCapacityInternal_d00df 18 = .ok (.aload_n 0, 1) := by decide +kernel
theorem dJ5_ensureCapacityInternal_d00df_19 : decode cJ5_ensureCapacityInternal_d00df 19 = .ok (.getfield 15, 3) := by decide +kernel
theorem dJ5_ensureCapacityInternal_d00df_22 : decode cJ5_ensureCapacityInternal_d00df 22 = .ok (.aload_n 0, 1) := by decide +kernel
theorem dJ5_ensureCapacityInternal_d00df_23 : decode cJ5_ensureCapacityInternal_d00df 23 = .ok (.iload_n 1, 1) := by decide +kernel
theorem dJ5_ensureCapacityInternal_d00df_24 : decode cJ5_ensureCapacityInternal_d00df 24 = .ok (.invokevirtual 104, 3) := by decide +kernel
theorem dJ5_ensureCapacityInternal_d00df_27 : decode cJ5_ensureCapacityInternal_d00df 27 = .ok (.aload_n 0, 1) := by decide +kernel
theorem dJ5_ensureCapacityInternal_d00df_28 : decode cJ5_ensureCapacityInternal_d00df 28 = .ok (.getfield 22, 3) := by decide +kernel
theorem dJ5_ensureCapacityInternal_d00df_31 : decode cJ5_ensureCapacityInternal_d00df 31 = .ok (.ishl, 1) := by decide +kernel
theorem dJ5_ensureCapacityInternal_d00df_32 : decode cJ5_ensureCapacityInternal_d00df 32 = .ok (.invokestatic 108, 3) := by decide +kernel
theorem dJ5_ensureCapacityInternal_d00df_35 : decode cJ5_ensureCapacityInternal_d00df 35 = .ok (.putfield 15, 3) := by decide +kernel
theorem dJ5_ensureCapacityInternal_d00df_38 : decode cJ5_ensureCapacityInternal_d00df 38 = .ok (.return_, 1) := by decide +kernel
theorem dJ5_init_d00df_0 : decode cJ5_init_d00df 0 = .ok (.aload_n 0, 1) := by decide +kernel
theorem dJ5_init_d00df_1 : decode cJ5_init_d00df 1 = .ok (.invokespecial 3, 3) := by decide +kernel
theorem dJ5_init_d00df_4 : decode cJ5_init_d00df 4 = .ok (.getstatic 18, 3) := by decide +kernel
theorem dJ5_init_d00df_7 : decode cJ5_init_d00df 7 = .ok (.ifCond .eq 18, 3) := by decide +kernel
theorem dJ5_init_d00df_10 : decode cJ5_init_d00df 10 = .ok (.aload_n 0, 1) := by decide +kernel
theorem dJ5_init_d00df_11 : decode cJ5_init_d00df 11 = .ok (.iload_n 1, 1) := by decide +kernel
theorem dJ5_init_d00df_12 : decode cJ5_init_d00df 12 = .ok (.newarray .byte, 2) := by decide +kernel
theorem dJ5_init_d00df_14 : decode cJ5_init_d00df 14 = .ok (.putfield 15, 3) := by decide +kernel
theorem dJ5_init_d00df_17 : decode cJ5_init_d00df 17 = .ok (.aload_n 0, 1) := by decide +kernel
theorem dJ5_init_d00df_18 : decode cJ5_init_d00df 18 = .ok (.iconst 0, 1) := by decide +kernel
theorem dJ5_init_d00df_19 : decode cJ5_init_d00df 19 = .ok (.putfield 22, 3) := by decide +kernel
theorem dJ5_init_d00df_22 : decode cJ5_init_d00df 22 = .ok (.goto 16, 3) := by decide +kernel
theorem dJ5_init_d00df_25 : decode cJ5_init_d00df 25 = .ok (.aload_n 0, 1) := by decide +kernel
theorem dJ5_init_d00df_26 : decode cJ5_init_d00df 26 = .ok (.iload_n 1, 1) := by decide +kernel
theorem dJ5_init_d00df_27 : decode cJ5_init_d00df 27 = .ok (.invokestatic 26, 3) := by decide +kernel
theorem dJ5_init_d00df_30 : decode cJ5_init_d00df 30 = .ok (.putfield 15, 3) := by decide +kernel
theorem dJ5_init_d00df_33 : decode cJ5_init_d00df 33 = .ok (.aload_n 0, 1) := by decide +kernel
theorem dJ5_init_d00df_34 : decode cJ5_init_d00df 34 = .ok (.iconst 1, 1) := by decide +kernel
theorem dJ5_init_d00df_35 : decode cJ5_init_d00df 35 = .ok (.putfield 22, 3) := by decide +kernel
theorem dJ5_init_d00df_38 : decode cJ5_init_d00df 38 = .ok (.return_, 1) := by decide +kernel
theorem dJ4_init_da8c8_0 : decode cJ4_init_da8c8 0 = .ok (.aload_n 0, 1) := by decide +kernel
theorem dJ4_init_da8c8_1 : decode cJ4_init_da8c8 1 = .ok (.bipush 16, 2) := by decide +kernel
theorem dJ4_init_da8c8_3 : decode cJ4_init_da8c8 3 = .ok (.invokespecial 1, 3) := by decide +kernel
theorem dJ4_init_da8c8_6 : decode cJ4_init_da8c8 6 = .ok (.return_, 1) := by decide +kernel
theorem dJ5_append_cf1ce_0 : decode cJ5_append_cf1ce 0 = .ok (.aload_n 1, 1) := by decide +kernel
theorem dJ5_append_cf1ce_1 : decode cJ5_append_cf1ce 1 = .ok (.ifnonnull 8, 3) := by decide +kernel
theorem dJ5_append_cf1ce_4 : decode cJ5_append_cf1ce 4 = .ok (.aload_n 0, 1) := by decide +kernel
theorem dJ5_append_cf1ce_5 : decode cJ5_append_cf1ce 5 = .ok (.invokevirtual 204, 3) := by decide +kernel
theorem dJ5_append_cf1ce_8 : decode cJ5_append_cf1ce 8 = .ok (.areturn, 1) := by decide +kernel
theorem dJ5_append_cf1ce_9 : decode cJ5_append_cf1ce 9 = .ok (.aload_n 1, 1) := by decide +kernel
theorem dJ5_append_cf1ce_10 : decode cJ5_append_cf1ce 10 = .ok (.invokevirtual 32, 3) := by decide +kernel
theorem dJ5_append_cf1ce_13 : decode cJ5_append_cf1ce 13 = .ok (.istore_n 2, 1) := by decide +kernel
theorem dJ5_append_cf1ce_14 : decode cJ5_append_cf1ce 14 = .ok (.aload_n 0, 1) := by decide +kernel
theorem dJ5_append_cf1ce_15 : decode cJ5_append_cf1ce 15 = .ok (.aload_n 0, 1) := by decide +kernel
theorem dJ5_append_cf1ce_16 : decode cJ5_append_cf1ce 16 = .ok (.getfield 79, 3) := by decide +kernel
theorem dJ5_append_cf1ce_19 : decode cJ5_append_cf1ce 19 = .ok (.iload_n 2, 1) := by decide +kernel
theorem dJ5_append_cf1ce_20 : decode cJ5_append_cf1ce 20 = .ok (.iadd, 1) := by decide +kernel
theorem dJ5_append_cf1ce_21 : decode cJ5_append_cf1ce 21 = .ok (.invokevirtual 100, 3) := by decide +kernel
theorem dJ5_append_cf1ce_24 : decode cJ5_append_cf1ce 24 = .ok (.aload_n 0, 1) := by decide +kernel
theorem dJ5_append_cf1ce_25 : decode cJ5_append_cf1ce 25 = .ok (.aload_n 0, 1) := by decide +kernel
theorem dJ5_append_cf1ce_26 : decode cJ5_append_cf1ce 26 = .ok (.getfield 79, 3) := by decide +kernel
theorem dJ5_append_cf1ce_29 : decode cJ5_append_cf1ce 29 = .ok (.aload_n 1, 1) := by decide +kernel
theorem dJ5_append_cf1ce_30 : decode cJ5_append_cf1ce 30 = .ok (.invokevirtual 208, 3) := by decide +kernel
theorem dJ5_append_cf1ce_33 : decode cJ5_append_cf1ce 33 = .ok (.aload_n 0, 1) := by decide +kernel
theorem dJ5_append_cf1ce_34 : decode cJ5_append_cf1ce 34 = .ok (.dup, 1) := by decide +kernel
theorem dJ5_append_cf1ce_35 : decode cJ5_append_cf1ce 35 = .ok (.getfield 79, 3) := by decide +kernel
theorem dJ5_append_cf1ce_38 : decode cJ5_append_cf1ce 38 = .ok (.iload_n 2, 1) := by decide +kernel
theorem dJ5_append_cf1ce_39 : decode cJ5_append_cf1ce 39 = .ok (.iadd, 1) := by decide +kernel
theorem dJ5_append_cf1ce_40 : decode cJ5_append_cf1ce 40 = .ok (.putfield 79, 3) := by decide +kernel
theorem dJ5_append_cf1ce_43 : decode cJ5_append_cf1ce 43 = .ok (.aload_n 0, 1) := by decide +kernel
theorem dJ5_append_cf1ce_44 : decode cJ5_append_cf1ce 44 = .ok (.areturn, 1) := by decide +kernel
theorem dJ5_append_3fe6f_0 : decode cJ5_append_3fe6f 0 = .ok (.aload_n 0, 1) := by decide +kernel
theorem dJ5_append_3fe6f_1 : decode cJ5_append_3fe6f 1 = .ok (.aload_n 0, 1) := by decide +kernel
theorem dJ5_append_3fe6f_2 : decode cJ5_append_3fe6f 2 = .ok (.getfield 79, 3) := by decide +kernel
theorem dJ5_append_3fe6f_5 : decode cJ5_append_3fe6f 5 = .ok (.iconst 1, 1) := by decide +kernel
theorem dJ5_append_3fe6f_6 : decode cJ5_append_3fe6f 6 = .ok (.iadd, 1) := by decide +kernel
theorem dJ5_append_3fe6f_7 : decode cJ5_append_3fe6f 7 = .ok (.invokevirtual 100, 3) := by decide +kernel
theorem dJ5_append_3fe6f_10 : decode cJ5_append_3fe6f 10 = .ok (.aload_n 0, 1) := by decide +kernel
theorem dJ5_append_3fe6f_11 : decode cJ5_append_3fe6f 11 = .ok (.invokevirtual 83, 3) := by decide +kernel
theorem dJ5_append_3fe6f_14 : decode cJ5_append_3fe6f 14 = .ok (.ifCond .eq 31, 3) := by decide +kernel
theorem dJ5_append_3fe6f_17 : decode cJ5_append_3fe6f 17 = .ok (.iload_n 1, 1) := by decide +kernel
theorem dJ5_append_3fe6f_18 : decode cJ5_append_3fe6f 18 = .ok (.invokestatic 191, 3) := by decide +kernel
theorem dJ5_append_3fe6f_21 : decode cJ5_append_3fe6f 21 = .ok (.ifCond .eq 24, 3) := by decide +kernel
theorem dJ5_append_3fe6f_24 : decode cJ5_append_3fe6f 24 = .ok (.aload_n 0, 1) := by decide +kernel
theorem dJ5_append_3fe6f_25 : decode cJ5_append_3fe6f 25 = .ok (.getfield 15, 3) := by decide +kernel
theorem dJ5_append_3fe6f_28 : decode cJ5_append_3fe6f 28 = .ok (.aload_n 0, 1) := by decide +kernel
theorem dJ5_append_3fe6f_29 : decode cJ5_append_3fe6f 29 = .ok (.dup, 1) := by decide +kernel
theorem dJ5_append_3fe6f_30 : decode cJ5_append_3fe6f 30 = .ok (.getfield 79, 3) := by decide +kernel
theorem dJ5_append_3fe6f_33 : decode cJ5_append_3fe6f 33 = .ok (.dup_x1, 1) := by decide +kernel
theorem dJ5_append_3fe6f_34 : decode cJ5_append_3fe6f 34 = .ok (.iconst 1, 1) := by decide +kernel
theorem dJ5_append_3fe6f_35 : decode cJ5_append_3fe6f 35 = .ok (.iadd, 1) := by decide +kernel
theorem dJ5_append_3fe6f_36 : decode cJ5_append_3fe6f 36 = .ok (.putfield 79, 3) := by decide +kernel
theorem dJ5_append_3fe6f_39 : decode cJ5_append_3fe6f 39 = .ok (.iload_n 1, 1) := by decide +kernel
theorem dJ5_append_3fe6f_40 : decode cJ5_append_3fe6f 40 = .ok (.i2b, 1) := by decide +kernel
theorem dJ5_append_3fe6f_41 : decode cJ5_append_3fe6f 41 = .ok (.bastore, 1) := by decide +kernel
theorem dJ5_append_3fe6f_42 : decode cJ5_append_3fe6f 42 = .ok (.goto 33, 3) := by decide +kernel
theorem dJ5_append_3fe6f_45 : decode cJ5_append_3fe6f 45 = .ok (.aload_n 0, 1) := by decide +kernel
theorem dJ5_append_3fe6f_46 : decode cJ5_append_3fe6f 46 = .ok (.invokevirtual 83, 3) := by decide +kernel
theorem dJ5_append_3fe6f_49 : decode cJ5_append_3fe6f 49 = .ok (.ifCond .eq 7, 3) := by decide +kernel
theorem dJ5_append_3fe6f_52 : decode cJ5_append_3fe6f 52 = .ok (.aload_n 0, 1) := by decide +kernel
theorem dJ5_append_3fe6f_53 : decode cJ5_append_3fe6f 53 = .ok (.invokevirtual 195, 3) := by decide +kernel
theorem dJ5_append_3fe6f_56 : decode cJ5_append_3fe6f 56 = .ok (.aload_n 0, 1) := by decide +kernel
theorem dJ5_append_3fe6f_57 : decode cJ5_append_3fe6f 57 = .ok (.getfield 15, 3) := by decide +kernel
theorem dJ5_append_3fe6f_60 : decode cJ5_append_3fe6f 60 = .ok (.aload_n 0, 1) := by decide +kernel
theorem dJ5_append_3fe6f_61 : decode cJ5_append_3fe6f 61 = .ok (.dup, 1) := by decide +kernel
theorem dJ5_append_3fe6f_62 : decode cJ5_append_3fe6f 62 = .ok (.getfield 79, 3) := by decide +kernel
theorem dJ5_append_3fe6f_65 : decode cJ5_append_3fe6f 65 = .ok (.dup_x1, 1) := by decide +kernel
theorem dJ5_append_3fe6f_66 : decode cJ5_append_3fe6f 66 = .ok (.iconst 1, 1) := by decide +kernel
theorem dJ5_append_3fe6f_67 : decode cJ5_append_3fe6f 67 = .ok (.iadd, 1) := by decide +kernel
theorem dJ5_append_3fe6f_68 : decode cJ5_append_3fe6f 68 = .ok (.putfield 79, 3) := by decide +kernel
theorem dJ5_append_3fe6f_71 : decode cJ5_append_3fe6f 71 = .ok (.iload_n 1, 1) := by decide +kernel
theorem dJ5_append_3fe6f_72 : decode cJ5_append_3fe6f 72 = .ok (.invokestatic 197, 3) := by decide +kernel
theorem dJ5_append_3fe6f_75 : decode cJ5_append_3fe6f 75 = .ok (.aload_n 0, 1) := by decide +kernel
theorem dJ5_append_3fe6f_76 : decode cJ5_append_3fe6f 76 = .ok (.areturn, 1) := by decide +kernel
theorem dJ5_append_c97b9_0 : decode cJ5_append_c97b9 0 = .ok (.aload_n 0, 1) := by decide +kernel
theorem dJ5_append_c97b9_1 : decode cJ5_append_c97b9 1 = .ok (.getfield 79, 3) := by decide +kernel
theorem dJ5_append_c97b9_4 : decode cJ5_append_c97b9 4 = .ok (.istore_n 2, 1) := by decide +kernel
theorem dJ5_append_c97b9_5 : decode cJ5_append_c97b9 5 = .ok (.iload_n 2, 1) := by decide +kernel
theorem dJ5_append_c97b9_6 : decode cJ5_append_c97b9 6 = .ok (.iload_n 1, 1) := by decide +kernel
theorem dJ5_append_c97b9_7 : decode cJ5_append_c97b9 7 = .ok (.invokestatic 245, 3) := by decide +kernel
theorem dJ5_append_c97b9_10 : decode cJ5_append_c97b9 10 = .ok (.iadd, 1) := by decide +kernel
theorem dJ5_append_c97b9_11 : decode cJ5_append_c97b9 11 = .ok (.istore_n 3, 1) := by decide +kernel
theorem dJ5_append_c97b9_12 : decode cJ5_append_c97b9 12 = .ok (.aload_n 0, 1) := by decide +kernel
theorem dJ5_append_c97b9_13 : decode cJ5_append_c97b9 13 = .ok (.iload_n 3, 1) := by decide +kernel
theorem dJ5_append_c97b9_14 : decode cJ5_append_c97b9 14 = .ok (.invokevirtual 100, 3) := by decide +kernel
theorem dJ5_append_c97b9_17 : decode cJ5_append_c97b9 17 = .ok (.aload_n 0, 1) := by decide +kernel
theorem dJ5_append_c97b9_18 : decode cJ5_append_c97b9 18 = .ok (.invokevirtual 83, 3) := by decide +kernel
theorem dJ5_append_c97b9_21 : decode cJ5_append_c97b9 21 = .ok (.ifCond .eq 16, 3) := by decide +kernel
theorem dJ5_append_c97b9_24 : decode cJ5_append_c97b9 24 = .ok (.iload_n 1, 1) := by decide +kernel
theorem dJ5_append_c97b9_25 : decode cJ5_append_c97b9 25 = .ok (.iload_n 3, 1) := by decide +kernel
theorem dJ5_append_c97b9_26 : decode cJ5_append_c97b9 26 = .ok (.aload_n 0, 1) := by decide +kernel
theorem dJ5_append_c97b9_27 : decode cJ5_append_c97b9 27 = .ok (.getfield 15, 3) := by decide +kernel
theorem dJ5_append_c97b9_30 : decode cJ5_append_c97b9 30 = .ok (.invokestatic 248, 3) := by decide +kernel
theorem dJ5_append_c97b9_33 : decode cJ5_append_c97b9 33 = .ok (.pop, 1) := by decide +kernel
theorem dJ5_append_c97b9_34 : decode cJ5_append_c97b9 34 = .ok (.goto 14, 3) := by decide +kernel
theorem dJ5_append_c97b9_37 : decode cJ5_append_c97b9 37 = .ok (.iload_n 1, 1) := by decide +kernel
theorem dJ5_append_c97b9_38 : decode cJ5_append_c97b9 38 = .ok (.iload_n 2, 1) := by decide +kernel
theorem dJ5_append_c97b9_39 : decode cJ5_append_c97b9 39 = .ok (.iload_n 3, 1) := by decide +kernel
theorem dJ5_append_c97b9_40 : decode cJ5_append_c97b9 40 = .ok (.aload_n 0, 1) := by decide +kernel
theorem dJ5_append_c97b9_41 : decode cJ5_append_c97b9 41 = .ok (.getfield 15, 3) := by decide +kernel
theorem dJ5_append_c97b9_44 : decode cJ5_append_c97b9 44 = .ok (.invokestatic 251, 3) := by decide +kernel
theorem dJ5_append_c97b9_47 : decode cJ5_append_c97b9 47 = .ok (.pop, 1) := by decide +kernel
theorem dJ5_append_c97b9_48 : decode cJ5_append_c97b9 48 = .ok (.aload_n 0, 1) := by decide +kernel
theorem dJ5_append_c97b9_49 : decode cJ5_append_c97b9 49 = .ok (.iload_n 3, 1) := by decide +kernel
theorem dJ5_append_c97b9_50 : decode cJ5_append_c97b9 50 = .ok (.putfield 79, 3) := by decide +kernel
theorem dJ5_append_c97b9_53 : decode cJ5_append_c97b9 53 = .ok (.aload_n 0, 1) := by decide +kernel
theorem dJ5_append_c97b9_54 : decode cJ5_append_c97b9 54 = .ok (.areturn, 1) := by decide +kernel
theorem dJ4_append_15ec4_0 : decode cJ4_append_15ec4 0 = .ok (.aload_n 0, 1) := by decide +kernel
theorem dJ4_append_15ec4_1 : decode cJ4_append_15ec4 1 = .ok (.aload_n 1, 1) := by decide +kernel
theorem dJ4_append_15ec4_2 : decode cJ4_append_15ec4 2 = .ok (.invokespecial 29, 3) := by decide +kernel
theorem dJ4_append_15ec4_5 : decode cJ4_append_15ec4 5 = .ok (.pop, 1) := by decide +kernel
theorem dJ4_append_15ec4_6 : decode cJ4_append_15ec4 6 = .ok (.aload_n 0, 1) := by decide +kernel
theorem dJ4_append_15ec4_7 : decode cJ4_append_15ec4 7 = .ok (.areturn, 1) := by decide +kernel
theorem dJ4_append_cf468_0 : decode cJ4_append_cf468 0 = .ok (.aload_n 0, 1) := by decide +kernel
theorem dJ4_append_cf468_1 : decode cJ4_append_cf468 1 = .ok (.iload_n 1, 1) := by decide +kernel
theorem dJ4_append_cf468_2 : decode cJ4_append_cf468 2 = .ok (.invokespecial 50, 3) := by decide +kernel
theorem dJ4_append_cf468_5 : decode cJ4_append_cf468 5 = .ok (.pop, 1) := by decide +kernel
theorem dJ4_append_cf468_6 : decode cJ4_append_cf468 6 = .ok (.aload_n 0, 1) := by decide +kernel
theorem dJ4_append_cf468_7 : decode cJ4_append_cf468 7 = .ok (.areturn, 1) := by decide +kernel
theorem dJ4_append_bf812_0 : decode cJ4_append_bf812 0 = .ok (.aload_n 0, 1) := by decide +kernel
theorem dJ4_append_bf812_1 : decode cJ4_append_bf812 1 = .ok (.iload_n 1, 1) := by decide +kernel
theorem dJ4_append_bf812_2 : decode cJ4_append_bf812 2 = .ok (.invokespecial 53, 3) := by decide +kernel
theorem dJ4_append_bf812_5 : decode cJ4_append_bf812 5 = .ok (.pop, 1) := by decide +kernel
theorem dJ4_append_bf812_6 : decode cJ4_append_bf812 6 = .ok (.aload_n 0, 1) := by decide +kernel
theorem dJ4_append_bf812_7 : decode cJ4_append_bf812 7 = .ok (.areturn, 1) := by decide +kernel
theorem dJ7_copyOfRangeByte_39247_0 : decode cJ7_copyOfRangeByte_39247 0 = .ok (.iload_n 1, 1) := by decide +kernel
theorem dJ7_copyOfRangeByte_39247_1 : decode cJ7_copyOfRangeByte_39247 1 = .ok (.iload_n 2, 1) := by decide +kernel
theorem dJ7_copyOfRangeByte_39247_2 : decode cJ7_copyOfRangeByte_39247 2 = .ok (.invokestatic 343, 3) := by decide +kernel
theorem dJ7_copyOfRangeByte_39247_5 : decode cJ7_copyOfRangeByte_39247 5 = .ok (.iload_n 2, 1) := by decide +kernel
theorem dJ7_copyOfRangeByte_39247_6 : decode cJ7_copyOfRangeByte_39247 6 = .ok (.iload_n 1, 1) := by decide +kernel
theorem dJ7_copyOfRangeByte_39247_7 : decode cJ7_copyOfRangeByte_39247 7 = .ok (.isub, 1) := by decide +kernel
theorem dJ7_copyOfRangeByte_39247_8 : decode cJ7_copyOfRangeByte_39247 8 = .ok (.istore_n 3, 1) := by decide +kernel
theorem dJ7_copyOfRangeByte_39247_9 : decode cJ7_copyOfRangeByte_39247 9 = .ok (.iload_n 3, 1) := by decide +kernel
theorem dJ7_copyOfRangeByte_39247_10 : decode cJ7_copyOfRangeByte_39247 10 = .ok (.newarray .byte, 2) := by decide +kernel
theorem dJ7_copyOfRangeByte_39247_12 : decode cJ7_copyOfRangeByte_39247 12 = .ok (.astore 4, 2) := by decide +kernel
theorem dJ7_copyOfRangeByte_39247_14 : decode cJ7_copyOfRangeByte_39247 14 = .ok (.aload_n 0, 1) := by decide +kernel
theorem dJ7_copyOfRangeByte_39247_15 : decode cJ7_copyOfRangeByte_39247 15 = .ok (.iload_n 1, 1) := by decide +kernel
theorem dJ7_copyOfRangeByte_39247_16 : decode cJ7_copyOfRangeByte_39247 16 = .ok (.aload 4, 2) := by decide +kernel
theorem dJ7_copyOfRangeByte_39247_18 : decode cJ7_copyOfRangeByte_39247 18 = .ok (.iconst 0, 1) := by decide +kernel
theorem dJ7_copyOfRangeByte_39247_19 : decode cJ7_copyOfRangeByte_39247 19 = .ok (.aload_n 0, 1) := by decide +kernel
theorem dJ7_copyOfRangeByte_39247_20 : decode cJ7_copyOfRangeByte_39247 20 = .ok (.arraylength, 1) := by decide +kernel
theorem dJ7_copyOfRangeByte_39247_21 : decode cJ7_copyOfRangeByte_39247 21 = .ok (.iload_n 1, 1) := by decide +kernel
theorem dJ7_copyOfRangeByte_39247_22 : decode cJ7_copyOfRangeByte_39247 22 = .ok (.isub, 1) := by decide +kernel
theorem dJ7_copyOfRangeByte_39247_23 : decode cJ7_copyOfRangeByte_39247 23 = .ok (.iload_n 3, 1) := by decide +kernel
theorem dJ7_copyOfRangeByte_39247_24 : decode cJ7_copyOfRangeByte_39247 24 = .ok (.invokestatic 304, 3) := by decide +kernel
theorem dJ7_copyOfRangeByte_39247_27 : decode cJ7_copyOfRangeByte_39247 27 = .ok (.invokestatic 150, 3) := by decide +kernel
theorem dJ7_copyOfRangeByte_39247_30 : decode cJ7_copyOfRangeByte_39247 30 = .ok (.aload 4, 2) := by decide +kernel
theorem dJ7_copyOfRangeByte_39247_32 : decode cJ7_copyOfRangeByte_39247 32 = .ok (.areturn, 1) := by decide +kernel
theorem dJ7_copyOfRange_39247_0 : decode cJ7_copyOfRange_39247 0 = .ok (.iload_n 1, 1) := by decide +kernel
theorem dJ7_copyOfRange_39247_1 : decode cJ7_copyOfRange_39247 1 = .ok (.ifCond .ne 9, 3) := by decide +kernel
theorem dJ7_copyOfRange_39247_4 : decode cJ7_copyOfRange_39247 4 = .ok (.iload_n 2, 1) := by decide +kernel
theorem dJ7_copyOfRange_39247_5 : decode cJ7_copyOfRange_39247 5 = .ok (.aload_n 0, 1) := by decide +kernel
theorem dJ7_copyOfRange_39247_6 : decode cJ7_copyOfRange_39247 6 = .ok (.arraylength, 1) := by decide +kernel
theorem dJ7_copyOfRange_39247_7 : decode cJ7_copyOfRange_39247 7 = .ok (.if_icmp .eq 10, 3) := by decide +kernel
theorem dJ7_copyOfRange_39247_10 : decode cJ7_copyOfRange_39247 10 = .ok (.aload_n 0, 1) := by decide +kernel
theorem dJ7_copyOfRange_39247_11 : decode cJ7_copyOfRange_39247 11 = .ok (.iload_n 1, 1) := by decide +kernel
theorem dJ7_copyOfRange_39247_12 : decode cJ7_copyOfRange_39247 12 = .ok (.iload_n 2, 1) := by decide +kernel
theorem dJ7_copyOfRange_39247_13 : decode cJ7_copyOfRange_39247 13 = .ok (.invokestatic 339, 3) := by decide +kernel
theorem dJ7_copyOfRange_39247_16 : decode cJ7_copyOfRange_39247 16 = .ok (.areturn, 1) := by decide +kernel
theorem dJ7_copyOfRange_39247_17 : decode cJ7_copyOfRange_39247 17 = .ok (.aload_n 0, 1) := by decide +kernel
theorem dJ7_copyOfRange_39247_18 : decode cJ7_copyOfRange_39247 18 = .ok (.invokevirtual 310, 3) := by decide +kernel
theorem dJ7_copyOfRange_39247_21 : decode cJ7_copyOfRange_39247 21 = .ok (.checkcast 311, 3) := by decide +kernel
theorem dJ7_copyOfRange_39247_24 : decode cJ7_copyOfRange_39247 24 = .ok (.areturn, 1) := by decide +kernel
theorem dJ0_init_db425_0 : decode cJ0_init_db425 0 = .ok (.aload_n 0, 1) := by decide +kernel
theorem dJ0_init_db425_1 : decode cJ0_init_db425 1 = .ok (.invokespecial 1, 3) := by decide +kernel
theorem dJ0_init_db425_4 : decode cJ0_init_db425 4 = .ok (.aload_n 1, 1) := by decide +kernel
theorem dJ0_init_db425_5 : decode cJ0_init_db425 5 = .ok (.invokevirtual 552, 3) := by decide +kernel
theorem dJ0_init_db425_8 : decode cJ0_init_db425 8 = .ok (.astore_n 3, 1) := by decide +kernel
theorem dJ0_init_db425_9 : decode cJ0_init_db425 9 = .ok (.aload_n 1, 1) := by decide +kernel
theorem dJ0_init_db425_10 : decode cJ0_init_db425 10 = .ok (.invokevirtual 549, 3) := by decide +kernel
theorem dJ0_init_db425_13 : decode cJ0_init_db425 13 = .ok (.istore 4, 2) := by decide +kernel
theorem dJ0_init_db425_15 : decode cJ0_init_db425 15 = .ok (.aload_n 1, 1) := by decide +kernel
theorem dJ0_init_db425_16 : decode cJ0_init_db425 16 = .ok (.invokevirtual 1047, 3) := by decide +kernel
theorem dJ0_init_db425_19 : decode cJ0_init_db425 19 = .ok (.ifCond .eq 22, 3) := by decide +kernel
theorem dJ0_init_db425_22 : decode cJ0_init_db425 22 = .ok (.aload_n 0, 1) := by decide +kernel
theorem dJ0_init_db425_23 : decode cJ0_init_db425 23 = .ok (.iconst 0, 1) := by decide +kernel
theorem dJ0_init_db425_24 : decode cJ0_init_db425 24 = .ok (.putfield 15, 3) := by decide +kernel
theorem dJ0_init_db425_27 : decode cJ0_init_db425 27 = .ok (.aload_n 0, 1) := by decide +kernel
theorem dJ0_init_db425_28 : decode cJ0_init_db425 28 = .ok (.aload_n 3, 1) := by decide +kernel
theorem dJ0_init_db425_29 : decode cJ0_init_db425 29 = .ok (.iconst 0, 1) := by decide +kernel
theorem dJ0_init_db425_30 : decode cJ0_init_db425 30 = .ok (.iload 4, 2) := by decide +kernel
theorem dJ0_init_db425_32 : decode cJ0_init_db425 32 = .ok (.invokestatic 54, 3) := by decide +kernel
theorem dJ0_init_db425_35 : decode cJ0_init_db425 35 = .ok (.putfield 9, 3) := by decide +kernel
theorem dJ0_init_db425_38 : decode cJ0_init_db425 38 = .ok (.goto 59, 3) := by decide +kernel
theorem dJ0_init_db425_41 : decode cJ0_init_db425 41 = .ok (.getstatic 38, 3) := by decide +kernel
theorem dJ0_init_db425_44 : decode cJ0_init_db425 44 = .ok (.ifCond .eq 35, 3) := by decide +kernel
theorem dJ0_init_db425_47 : decode cJ0_init_db425 47 = .ok (.aload_n 1, 1) := by decide +kernel
theorem dJ0_init_db425_48 : decode cJ0_init_db425 48 = .ok (.getfield 1048, 3) := by decide +kernel
theorem dJ0_init_db425_51 : decode cJ0_init_db425 51 = .ok (.ifCond .eq 28, 3) := by decide +kernel
theorem dJ0_init_db425_54 : decode cJ0_init_db425 54 = .ok (.aload_n 0, 1) := by decide +kernel
theorem dJ0_init_db425_55 : decode cJ0_init_db425 55 = .ok (.aload_n 3, 1) := by decide +kernel
theorem dJ0_init_db425_56 : decode cJ0_init_db425 56 = .ok (.iconst 0, 1) := by decide +kernel
theorem dJ0_init_db425_57 : decode cJ0_init_db425 57 = .ok (.iload 4, 2) := by decide +kernel
theorem dJ0_init_db425_59 : decode cJ0_init_db425 59 = .ok (.invokestatic 1051, 3) := by decide +kernel
theorem dJ0_init_db425_62 : decode cJ0_init_db425 62 = .ok (.putfield 9, 3) := by decide +kernel
theorem dJ0_init_db425_65 : decode cJ0_init_db425 65 = .ok (.aload_n 0, 1) := by decide +kernel
theorem dJ0_init_db425_66 : decode cJ0_init_db425 66 = .ok (.aload_n 0, 1) := by decide +kernel
theorem dJ0_init_db425_67 : decode cJ0_init_db425 67 = .ok (.getfield 9, 3) := by decide +kernel
theorem dJ0_init_db425_70 : decode cJ0_init_db425 70 = .ok (.iload 4, 2) := by decide +kernel
theorem dJ0_init_db425_72 : decode cJ0_init_db425 72 = .ok (.invokestatic 47, 3) := by decide +kernel
theorem dJ0_init_db425_75 : decode cJ0_init_db425 75 = .ok (.putfield 15, 3) := by decide +kernel
theorem dJ0_init_db425_78 : decode cJ0_init_db425 78 = .ok (.return_, 1) := by decide +kernel
theorem dJ0_init_db425_79 : decode cJ0_init_db425 79 = .ok (.aload_n 0, 1) := by decide +kernel
theorem dJ0_init_db425_80 : decode cJ0_init_db425 80 = .ok (.iconst 1, 1) := by decide +kernel
theorem dJ0_init_db425_81 : decode cJ0_init_db425 81 = .ok (.putfield 15, 3) := by decide +kernel
theorem dJ0_init_db425_84 : decode cJ0_init_db425 84 = .ok (.aload_n 0, 1) := by decide +kernel
theorem dJ0_init_db425_85 : decode cJ0_init_db425 85 = .ok (.aload_n 3, 1) := by decide +kernel
theorem dJ0_init_db425_86 : decode cJ0_init_db425 86 = .ok (.iconst 0, 1) := by decide +kernel
theorem dJ0_init_db425_87 : decode cJ0_init_db425 87 = .ok (.iload 4, 2) := by decide +kernel
theorem dJ0_init_db425_89 : decode cJ0_init_db425 89 = .ok (.iconst 1, 1) := by decide +kernel
theorem dJ0_init_db425_90 : decode cJ0_init_db425 90 = .ok (.ishl, 1) := by decide +kernel
theorem dJ0_init_db425_91 : decode cJ0_init_db425 91 = .ok (.invokestatic 54, 3) := by decide +kernel
theorem dJ0_init_db425_94 : decode cJ0_init_db425 94 = .ok (.putfield 9, 3) := by decide +kernel
theorem dJ0_init_db425_97 : decode cJ0_init_db425 97 = .ok (.return_, 1) := by decide +kernel
theorem dJ0_init_81219_0 : decode cJ0_init_81219 0 = .ok (.aload_n 0, 1) := by decide +kernel
theorem dJ0_init_81219_1 : decode cJ0_init_81219 1 = .ok (.aload_n 1, 1) := by decide +kernel
theorem dJ0_init_81219_2 : decode cJ0_init_81219 2 = .ok (.aconst_null, 1) := by decide +kernel
theorem dJ0_init_81219_3 : decode cJ0_init_81219 3 = .ok (.invokespecial 489, 3) := by decide +kernel
theorem dJ0_init_81219_6 : decode cJ0_init_81219 6 = .ok (.return_, 1) := by decide +kernel
theorem dJ4_toString_0e30d_0 : decode cJ4_toString_0e30d 0 = .ok (.new 18, 3) := by decide +kernel
theorem dJ4_toString_0e30d_3 : decode cJ4_toString_0e30d 3 = .ok (.dup, 1) := by decide +kernel
theorem dJ4_toString_0e30d_4 : decode cJ4_toString_0e30d 4 = .ok (.aload_n 0, 1) := by decide +kernel
theorem dJ4_toString_0e30d_5 : decode cJ4_toString_0e30d 5 = .ok (.invokespecial 137, 3) := by decide +kernel
theorem dJ4_toString_0e30d_8 : decode cJ4_toString_0e30d 8 = .ok (.areturn, 1) := by decide +kernel
theorem pq_50 : Cond.methodLink RJ5 40 yJ0_coder_7d493 ∈ pd_gt := pd_in 892 (by decide +kernel) (by decide +kernel)
theorem pq_51 : Cond.methodLink RJ5 397 yJ5_inflateIfNeededFor_a7421 ∈ pd_gt := pd_in 888 (by decide +kernel) (by decide +kernel)
theorem pq_52 : Cond.code yJ5_inflateIfNeededFor_a7421 cJ5_inflateIfNeededFor_a7421 2 none ∈ pd_gt := pd_in 891 (by decide +kernel) (by decide +kernel)
theorem pq_53 : Cond.initialized yJ5_inflateIfNeededFor_a7421.cls ∈ pd_gt := pd_in 51 (by decide +kernel) (by decide +kernel)
theorem pq_54 : Cond.instanceMethod yJ5_inflateIfNeededFor_a7421 ∈ pd_gt := pd_in 890 (by decide +kernel) (by decide +kernel)
theorem pq_55 : Cond.selects RX13 yJ5_inflateIfNeededFor_a7421 yJ5_inflateIfNeededFor_a7421 ∈ pd_gt := pd_in 1355 (by decide +kernel) (by decide +kernel)
theorem pq_56 : Cond.methodLink RJ5 399 yJ0_getBytes_840e7 ∈ pd_gt := pd_in 912 (by decide +kernel) (by decide +kernel)
theorem pq_57 : Cond.code yJ0_getBytes_840e7 cJ0_getBytes_840e7 4 none ∈ pd_gt := pd_in 915 (by decide +kernel) (by decide +kernel)
theorem pq_58 : Cond.initialized yJ0_getBytes_840e7.cls ∈ pd_gt := pd_in 53 (by decide +kernel) (by decide +kernel)
theorem pq_59 : Cond.instanceMethod yJ0_getBytes_840e7 ∈ pd_gt := pd_in 913 (by decide +kernel) (by decide +kernel)
theorem pq_60 : Cond.selects yJ0_getBytes_840e7.cls yJ0_getBytes_840e7 yJ0_getBytes_840e7 ∈ pd_gt := pd_in 914 (by decide +kernel) (by decide +kernel)
theorem pq_61 : Cond.arrayClass .byte ∈ pd_gt := pd_in 120 (by decide +kernel) (by decide +kernel)
theorem pq_62 : Cond.methodLink RJ7 304 Lib.Math.min.name ∈ pd_gt := pd_in 842 (by decide +kernel) (by decide +kernel)
theorem pq_63 : Cond.static Lib.Math.min.name ∈ pd_gt := pd_in 685 (by decide +kernel) (by decide +kernel)
theorem pq_64 : Cond.code Lib.Math.min.name Lib.Math.min.code 2 (some .int) ∈ pd_gt := pd_in 686 (by decide +kernel) (by decide +kernel)
theorem pq_65 : Cond.methodLink RJ7 150 arraycopyName ∈ pd_gt := pd_in 843 (by decide +kernel) (by decide +kernel)
theorem pq_66 : Cond.methodLink RJ5 104 yJ5_newCapacity_0f7a4 ∈ pd_gt := pd_in 817 (by decide +kernel) (by decide +kernel)
theorem pq_67 : Cond.code yJ5_newCapacity_0f7a4 cJ5_newCapacity_0f7a4 6 (some .int) ∈ pd_gt := pd_in 820 (by decide +kernel) (by decide +kernel)
theorem pq_68 : Cond.initialized yJ5_newCapacity_0f7a4.cls ∈ pd_gt := pd_in 51 (by decide +kernel) (by decide +kernel)
theorem pq_69 : Cond.instanceMethod yJ5_newCapacity_0f7a4 ∈ pd_gt := pd_in 819 (by decide +kernel) (by decide +kernel)
theorem pq_70 : Cond.selects RX13 yJ5_newCapacity_0f7a4 yJ5_newCapacity_0f7a4 ∈ pd_gt := pd_in 1353 (by decide +kernel) (by decide +kernel)
theorem pq_71 : Cond.methodLink RJ5 108 yJ7_copyOf_9075b ∈ pd_gt := pd_in 832 (by decide +kernel) (by decide +kernel)
theorem pq_72 : Cond.code yJ7_copyOf_9075b cJ7_copyOf_9075b 3 (some (.array .byte)) ∈ pd_gt := pd_in 834 (by decide +kernel) (by decide +kernel)
theorem pq_73 : Cond.initialized yJ7_copyOf_9075b.cls ∈ pd_gt := pd_in 56 (by decide +kernel) (by decide +kernel)
theorem pq_74 : Cond.static yJ7_copyOf_9075b ∈ pd_gt := pd_in 833 (by decide +kernel) (by decide +kernel)
theorem pq_75 : Cond.methodLink RJ5 3 Lib.objectInit ∈ pd_gt := pd_in 778 (by decide +kernel) (by decide +kernel)
theorem pq_76 : Cond.instanceMethod Lib.objectInit ∈ pd_gt := pd_in 72 (by decide +kernel) (by decide +kernel)
theorem pq_77 : Cond.code Lib.objectInit ⟨#[0xb1]⟩ 1 none ∈ pd_gt := pd_in 73 (by decide +kernel) (by decide +kernel)
theorem pq_78 : Cond.methodLink RJ4 1 yJ5_init_d00df ∈ pd_gt := pd_in 775 (by decide +kernel) (by decide +kernel)
theorem pq_79 : Cond.code yJ5_init_d00df cJ5_init_d00df 2 none ∈ pd_gt := pd_in 777 (by decide +kernel) (by decide +kernel)
theorem pq_80 : Cond.initialized yJ5_init_d00df.cls ∈ pd_gt := pd_in 51 (by decide +kernel) (by decide +kernel)
theorem pq_81 : Cond.instanceMethod yJ5_init_d00df ∈ pd_gt := pd_in 776 (by decide +kernel) (by decide +kernel)
theorem pq_82 : Cond.methodLink RJ5 32 yJ0_length_8abf5 ∈ pd_gt := pd_in 875 (by decide +kernel) (by decide +kernel)
theorem pq_83 : Cond.code yJ0_length_8abf5 cJ0_length_8abf5 1 (some .int) ∈ pd_gt := pd_in 878 (by decide +kernel) (by decide +kernel)
theorem pq_84 : Cond.initialized yJ0_length_8abf5.cls ∈ pd_gt := pd_in 53 (by decide +kernel) (by decide +kernel)
theorem pq_85 : Cond.instanceMethod yJ0_length_8abf5 ∈ pd_gt := pd_in 876 (by decide +kernel) (by decide +kernel)
theorem pq_86 : Cond.selects yJ0_length_8abf5.cls yJ0_length_8abf5 yJ0_length_8abf5 ∈ pd_gt := pd_in 877 (by decide +kernel) (by decide +kernel)
theorem pq_87 : Cond.methodLink RJ5 100 yJ5_ensureCapacityInternal_d00df ∈ pd_gt := pd_in 813 (by decide +kernel) (by decide +kernel)
theorem pq_88 : Cond.code yJ5_ensureCapacityInternal_d00df cJ5_ensureCapacityInternal_d00df 3 none ∈ pd_gt := pd_in 816 (by decide +kernel) (by decide +kernel)
theorem pq_89 : Cond.initialized yJ5_ensureCapacityInternal_d00df.cls ∈ pd_gt := pd_in 51 (by decide +kernel) (by decide +kernel)
theorem pq_90 : Cond.instanceMethod yJ5_ensureCapacityInternal_d00df ∈ pd_gt := pd_in 815 (by decide +kernel) (by decide +kernel)
theorem pq_91 : Cond.selects RX13 yJ5_ensureCapacityInternal_d00df yJ5_ensureCapacityInternal_d00df ∈ pd_gt := pd_in 1352 (by decide +kernel) (by decide +kernel)
theorem pq_92 : Cond.methodLink RJ5 208 yJ5_putStringAt_47b60 ∈ pd_gt := pd_in 884 (by decide +kernel) (by decide +kernel)
theorem pq_93 : Cond.code yJ5_putStringAt_47b60 cJ5_putStringAt_47b60 3 none ∈ pd_gt := pd_in 887 (by decide +kernel) (by decide +kernel)
theorem pq_94 : Cond.initialized yJ5_putStringAt_47b60.cls ∈ pd_gt := pd_in 51 (by decide +kernel) (by decide +kernel)
theorem pq_95 : Cond.instanceMethod yJ5_putStringAt_47b60 ∈ pd_gt := pd_in 886 (by decide +kernel) (by decide +kernel)
theorem pq_96 : Cond.selects RX13 yJ5_putStringAt_47b60 yJ5_putStringAt_47b60 ∈ pd_gt := pd_in 1354 (by decide +kernel) (by decide +kernel)
theorem pq_97 : Cond.methodLink RJ5 83 yJ5_isLatin1_aae02 ∈ pd_gt := pd_in 844 (by decide +kernel) (by decide +kernel)
theorem pq_98 : Cond.code yJ5_isLatin1_aae02 cJ5_isLatin1_aae02 1 (some .boolean) ∈ pd_gt := pd_in 848 (by decide +kernel) (by decide +kernel)
theorem pq_99 : Cond.initialized yJ5_isLatin1_aae02.cls ∈ pd_gt := pd_in 51 (by decide +kernel) (by decide +kernel)
theorem pq_100 : Cond.instanceMethod yJ5_isLatin1_aae02 ∈ pd_gt := pd_in 845 (by decide +kernel) (by decide +kernel)
theorem pq_101 : Cond.selects RX13 yJ5_isLatin1_aae02 yJ5_isLatin1_aae02 ∈ pd_gt := pd_in 847 (by decide +kernel) (by decide +kernel)
theorem pq_102 : Cond.methodLink RJ5 191 yJ1_canEncode_fc78d ∈ pd_gt := pd_in 1018 (by decide +kernel) (by decide +kernel)
theorem pq_103 : Cond.code yJ1_canEncode_fc78d cJ1_canEncode_fc78d 1 (some .boolean) ∈ pd_gt := pd_in 1020 (by decide +kernel) (by decide +kernel)
theorem pq_104 : Cond.initialized yJ1_canEncode_fc78d.cls ∈ pd_gt := pd_in 58 (by decide +kernel) (by decide +kernel)
theorem pq_105 : Cond.static yJ1_canEncode_fc78d ∈ pd_gt := pd_in 1019 (by decide +kernel) (by decide +kernel)
theorem pq_106 : Cond.methodLink RJ5 245 yJ6_stringSize_0f7a4 ∈ pd_gt := pd_in 925 (by decide +kernel) (by decide +kernel)
theorem pq_107 : Cond.code yJ6_stringSize_0f7a4 cJ6_stringSize_0f7a4 4 (some .int) ∈ pd_gt := pd_in 927 (by decide +kernel) (by decide +kernel)
theorem pq_108 : Cond.initialized yJ6_stringSize_0f7a4.cls ∈ pd_gt := pd_in 60 (by decide +kernel) (by decide +kernel)
theorem pq_109 : Cond.static yJ6_stringSize_0f7a4 ∈ pd_gt := pd_in 926 (by decide +kernel) (by decide +kernel)
theorem pq_110 : Cond.methodLink RJ5 248 yJ6_getChars_ba4f3 ∈ pd_gt := pd_in 928 (by decide +kernel) (by decide +kernel)
theorem pq_111 : Cond.code yJ6_getChars_ba4f3 cJ6_getChars_ba4f3 7 (some .int) ∈ pd_gt := pd_in 930 (by decide +kernel) (by decide +kernel)
theorem pq_112 : Cond.initialized yJ6_getChars_ba4f3.cls ∈ pd_gt := pd_in 60 (by decide +kernel) (by decide +kernel)
theorem pq_113 : Cond.static yJ6_getChars_ba4f3 ∈ pd_gt := pd_in 929 (by decide +kernel) (by decide +kernel)
theorem pq_114 : Cond.methodLink RJ4 29 yJ5_append_cf1ce ∈ pd_gt := pd_in 806 (by decide +kernel) (by decide +kernel)
theorem pq_115 : Cond.code yJ5_append_cf1ce cJ5_append_cf1ce 3 (some (.object "java/lang/AbstractStringBuilder")) ∈ pd_gt := pd_in 808 (by decide +kernel) (by decide +kernel)
theorem pq_116 : Cond.initialized yJ5_append_cf1ce.cls ∈ pd_gt := pd_in 51 (by decide +kernel) (by decide +kernel)
theorem pq_117 : Cond.instanceMethod yJ5_append_cf1ce ∈ pd_gt := pd_in 807 (by decide +kernel) (by decide +kernel)
theorem pq_118 : Cond.sameMethod yJ5_append_cf1ce.cls yJ5_append_cf1ce.cls yJ5_append_cf1ce.name yJ5_append_cf1ce.desc ∈ pd_gt := pd_in 1327 (by decide +kernel) (by decide +kernel)
theorem pq_119 : Cond.superclass RJ4 yJ5_append_cf1ce.cls ∈ pd_gt := pd_in 800 (by decide +kernel) (by decide +kernel)
theorem pq_120 : Cond.methodLink RJ4 50 yJ5_append_3fe6f ∈ pd_gt := pd_in 1015 (by decide +kernel) (by decide +kernel)
theorem pq_121 : Cond.code yJ5_append_3fe6f cJ5_append_3fe6f 2 (some (.object "java/lang/AbstractStringBuilder")) ∈ pd_gt := pd_in 1017 (by decide +kernel) (by decide +kernel)
theorem pq_122 : Cond.initialized yJ5_append_3fe6f.cls ∈ pd_gt := pd_in 51 (by decide +kernel) (by decide +kernel)
theorem pq_123 : Cond.instanceMethod yJ5_append_3fe6f ∈ pd_gt := pd_in 1016 (by decide +kernel) (by decide +kernel)
theorem pq_124 : Cond.sameMethod yJ5_append_3fe6f.cls yJ5_append_3fe6f.cls yJ5_append_3fe6f.name yJ5_append_3fe6f.desc ∈ pd_gt := pd_in 1335 (by decide +kernel) (by decide +kernel)
theorem pq_125 : Cond.superclass RJ4 yJ5_append_3fe6f.cls ∈ pd_gt := pd_in 800 (by decide +kernel) (by decide +kernel)
theorem pq_126 : Cond.methodLink RJ4 53 yJ5_append_c97b9 ∈ pd_gt := pd_in 922 (by decide +kernel) (by decide +kernel)
theorem pq_127 : Cond.code yJ5_append_c97b9 cJ5_append_c97b9 4 (some (.object "java/lang/AbstractStringBuilder")) ∈ pd_gt := pd_in 924 (by decide +kernel) (by decide +kernel)
theorem pq_128 : Cond.initialized yJ5_append_c97b9.cls ∈ pd_gt := pd_in 51 (by decide +kernel) (by decide +kernel)
theorem pq_129 : Cond.instanceMethod yJ5_append_c97b9 ∈ pd_gt := pd_in 923 (by decide +kernel) (by decide +kernel)
theorem pq_130 : Cond.sameMethod yJ5_append_c97b9.cls yJ5_append_c97b9.cls yJ5_append_c97b9.name yJ5_append_c97b9.desc ∈ pd_gt := pd_in 1334 (by decide +kernel) (by decide +kernel)
theorem pq_131 : Cond.superclass RJ4 yJ5_append_c97b9.cls ∈ pd_gt := pd_in 800 (by decide +kernel) (by decide +kernel)
theorem pq_132 : Cond.methodLink RJ7 343 yJ7_checkLength_df160 ∈ pd_gt := pd_in 979 (by decide +kernel) (by decide +kernel)
theorem pq_133 : Cond.code yJ7_checkLength_df160 cJ7_checkLength_df160 2 none ∈ pd_gt := pd_in 981 (by decide +kernel) (by decide +kernel)
theorem pq_134 : Cond.initialized yJ7_checkLength_df160.cls ∈ pd_gt := pd_in 56 (by decide +kernel) (by decide +kernel)
theorem pq_135 : Cond.static yJ7_checkLength_df160 ∈ pd_gt := pd_in 980 (by decide +kernel) (by decide +kernel)
theorem pq_136 : Cond.methodLink RJ7 339 yJ7_copyOfRangeByte_39247 ∈ pd_gt := pd_in 976 (by decide +kernel) (by decide +kernel)
theorem pq_137 : Cond.code yJ7_copyOfRangeByte_39247 cJ7_copyOfRangeByte_39247 5 (some (.array .byte)) ∈ pd_gt := pd_in 978 (by decide +kernel) (by decide +kernel)
theorem pq_138 : Cond.initialized yJ7_copyOfRangeByte_39247.cls ∈ pd_gt := pd_in 56 (by decide +kernel) (by decide +kernel)
theorem pq_139 : Cond.static yJ7_copyOfRangeByte_39247 ∈ pd_gt := pd_in 977 (by decide +kernel) (by decide +kernel)
theorem pq_140 : Cond.classLink RJ7 311 "[B" ∈ pd_gt := pd_in 841 (by decide +kernel) (by decide +kernel)
theorem pq_141 : Cond.methodLink RJ0 54 yJ7_copyOfRange_39247 ∈ pd_gt := pd_in 973 (by decide +kernel) (by decide +kernel)
theorem pq_142 : Cond.code yJ7_copyOfRange_39247 cJ7_copyOfRange_39247 3 (some (.array .byte)) ∈ pd_gt := pd_in 975 (by decide +kernel) (by decide +kernel)
theorem pq_143 : Cond.initialized yJ7_copyOfRange_39247.cls ∈ pd_gt := pd_in 56 (by decide +kernel) (by decide +kernel)
theorem pq_144 : Cond.static yJ7_copyOfRange_39247 ∈ pd_gt := pd_in 974 (by decide +kernel) (by decide +kernel)
theorem pq_145 : Cond.methodLink RJ0 1 Lib.objectInit ∈ pd_gt := pd_in 958 (by decide +kernel) (by decide +kernel)
theorem pq_146 : Cond.methodLink RJ0 552 yJ5_getValue_6d5f1 ∈ pd_gt := pd_in 959 (by decide +kernel) (by decide +kernel)
theorem pq_147 : Cond.code yJ5_getValue_6d5f1 cJ5_getValue_6d5f1 1 (some (.array .byte)) ∈ pd_gt := pd_in 963 (by decide +kernel) (by decide +kernel)
theorem pq_148 : Cond.initialized yJ5_getValue_6d5f1.cls ∈ pd_gt := pd_in 51 (by decide +kernel) (by decide +kernel)
theorem pq_149 : Cond.instanceMethod yJ5_getValue_6d5f1 ∈ pd_gt := pd_in 960 (by decide +kernel) (by decide +kernel)
theorem pq_150 : Cond.selects RX13 yJ5_getValue_6d5f1 yJ5_getValue_6d5f1 ∈ pd_gt := pd_in 962 (by decide +kernel) (by decide +kernel)
theorem pq_151 : Cond.methodLink RJ0 549 yJ5_length_8abf5 ∈ pd_gt := pd_in 964 (by decide +kernel) (by decide +kernel)
theorem pq_152 : Cond.code yJ4_length_8abf5 cJ4_length_8abf5 1 (some .int) ∈ pd_gt := pd_in 969 (by decide +kernel) (by decide +kernel)
theorem pq_153 : Cond.initialized yJ4_length_8abf5.cls ∈ pd_gt := pd_in 52 (by decide +kernel) (by decide +kernel)
theorem pq_154 : Cond.instanceMethod yJ4_length_8abf5 ∈ pd_gt := pd_in 968 (by decide +kernel) (by decide +kernel)
theorem pq_155 : Cond.selects RX13 yJ5_length_8abf5 yJ4_length_8abf5 ∈ pd_gt := pd_in 967 (by decide +kernel) (by decide +kernel)
theorem pq_156 : Cond.methodLink RJ0 1047 yJ5_isLatin1_aae02 ∈ pd_gt := pd_in 972 (by decide +kernel) (by decide +kernel)
theorem pq_157 : Cond.fieldLink RJ0 1048 "java/lang/AbstractStringBuilder" "maybeLatin1" "Z" ∈ pd_gt := pd_in 790 (by decide +kernel) (by decide +kernel)
theorem pq_158 : Cond.methodLink RJ0 489 yJ0_init_db425 ∈ pd_gt := pd_in 955 (by decide +kernel) (by decide +kernel)
theorem pq_159 : Cond.code yJ0_init_db425 cJ0_init_db425 5 none ∈ pd_gt := pd_in 957 (by decide +kernel) (by decide +kernel)
theorem pq_160 : Cond.initialized yJ0_init_db425.cls ∈ pd_gt := pd_in 53 (by decide +kernel) (by decide +kernel)
theorem pq_161 : Cond.instanceMethod yJ0_init_db425 ∈ pd_gt := pd_in 956 (by decide +kernel) (by decide +kernel)
theorem pq_162 : Cond.classLink RJ4 18 "java/lang/String" ∈ pd_gt := pd_in 950 (by decide +kernel) (by decide +kernel)
theorem pq_163 : Cond.instantiable "java/lang/String" 4 ∈ pd_gt := pd_in 951 (by decide +kernel) (by decide +kernel)
theorem pq_164 : Cond.initialized "java/lang/String" ∈ pd_gt := pd_in 53 (by decide +kernel) (by decide +kernel)
theorem pq_165 : Cond.methodLink RJ4 137 yJ0_init_81219 ∈ pd_gt := pd_in 952 (by decide +kernel) (by decide +kernel)
theorem pq_166 : Cond.code yJ0_init_81219 cJ0_init_81219 2 none ∈ pd_gt := pd_in 954 (by decide +kernel) (by decide +kernel)
theorem pq_167 : Cond.initialized yJ0_init_81219.cls ∈ pd_gt := pd_in 53 (by decide +kernel) (by decide +kernel)
theorem pq_168 : Cond.instanceMethod yJ0_init_81219 ∈ pd_gt := pd_in 953 (by decide +kernel) (by decide +kernel)
def pfJ5_inflateIfNeededFor_a7421 (sh : pd_S) (n : Nat) (F : pd_F) (x0 : Int) (x1 : Int) : Option pd_F :=
  if (1 : Int) = 0 then
    some F
  else
    pd_i (pd_ob sh 13 x0 = true) <|
    pd_i (pd_ob sh 12 x1 = true ∨ (-21 ≤ x1 ∧ x1 < 0)) <|
    Option.bind (pfJ0_coder_7d493_d sh n F x1) fun qr4 => pd_l qr4.1 fun r4 => pd_l qr4.2 fun F2 =>
    if (F x0 1) = r4 then
      some F2
    else
      none
def pfJ5_putStringAt_47b60 (sh : pd_S) (n : Nat) (F : pd_F) (x0 : Int) (x1 : Int) (x2 : Int) : Option pd_F :=
  pd_i (pd_ob sh 13 x0 = true) <|
  Option.bind (pfJ5_inflateIfNeededFor_a7421 sh n F x0 x2) fun F1 =>
  pd_i (pd_ob sh 12 x2 = true ∨ (-21 ≤ x2 ∧ x2 < 0)) <|
  Option.bind (pfJ0_getBytes_840e7_d sh n F1 x2 (F1 x0 0) x1 (F1 x0 1)) fun F3 =>
  some F3
def pfJ7_copyOf_9075b (sh : pd_S) (n : Nat) (F : pd_F) (x0 : Int) (x1 : Int) : Option (Int × pd_S × pd_F) :=
  pd_i (0 ≤ pd_ln sh 0 1 x0) <|
  if x1 ≠ (pd_ln sh 0 1 x0) then
    pd_i (0 ≤ x1 ∧ x1 ≤ 1200) <|
    pd_l ((sh.length : Int) + 1) fun o4 => pd_l (pd_z F (sh.length + 1)) fun F3 => pd_l (sh ++ [(0, 1, Int.toNat x1)]) fun sh2 =>
    pd_i (o4 ≠ 0) <|
    pd_i (0 ≤ pd_ln sh2 0 1 x0) <|
    pd_i (pd_cgk sh2 1 x0 0 o4 0 (min (pd_ln sh2 0 1 x0) x1) = true) <|
    pd_i (pd_by F3 x0 0 (min (pd_ln sh2 0 1 x0) x1) = true) <|
    pd_l (pd_cp F3 x0 0 o4 0 (min (pd_ln sh2 0 1 x0) x1)) fun F10 =>
    some (o4, sh2, F10)
  else
    none
def pfJ5_ensureCapacityInternal_d00df (sh : pd_S) (n : Nat) (F : pd_F) (x0 : Int) (x1 : Int) : Option (pd_S × pd_F) :=
  pd_i (pd_ob sh 13 x0 = true) <|
  pd_i (0 ≤ pd_ln sh 0 1 (F x0 0)) <|
  pd_l (pd_shr (pd_ln sh 0 1 (F x0 0)) (F x0 1)) fun x2_10 =>
  if (pd_w (x1 - x2_10)) ≤ 0 then
    some (sh, F)
  else
    Option.bind (pfJ5_newCapacity_0f7a4 sh n F x0 x1) fun qr4 => pd_l qr4.1 fun r4 => pd_l qr4.2 fun F3 =>
    Option.bind (pfJ7_copyOf_9075b sh n F3 (F x0 0) (pd_shl r4 (F3 x0 1))) fun qr7 => pd_l qr7.1 fun r7 => pd_l qr7.2.1 fun sh6 => pd_l qr7.2.2 fun F5 =>
    pd_i (pd_ob sh6 13 x0 = true) <|
    pd_l (pd_up F5 x0 0 r7) fun F9 =>
    some (sh6, F9)
def pfJ5_init_d00df (sh : pd_S) (n : Nat) (F : pd_F) (x0 : Int) (x1 : Int) : Option (pd_S × pd_F) :=
  pd_i (x0 ≠ 0) <|
  if (1 : Int) = 0 then
    none
  else
    pd_i (0 ≤ x1 ∧ x1 ≤ 1200) <|
    pd_l ((sh.length : Int) + 1) fun o4 => pd_l (pd_z F (sh.length + 1)) fun F3 => pd_l (sh ++ [(0, 1, Int.toNat x1)]) fun sh2 =>
    pd_i (pd_ob sh2 13 x0 = true) <|
    pd_l (pd_up F3 x0 0 o4) fun F7 =>
    pd_l (pd_up F7 x0 1 0) fun F8 =>
    some (sh2, F8)
def pfJ4_init_da8c8 (sh : pd_S) (n : Nat) (F : pd_F) (x0 : Int) : Option (pd_S × pd_F) :=
  pd_i (1 ≤ x0) <|
  Option.bind (pfJ5_init_d00df sh n F x0 16) fun qsh3 => pd_l qsh3.1 fun sh3 => pd_l qsh3.2 fun F1 =>
  some (sh3, F1)
def pfJ5_append_cf1ce (sh : pd_S) (n : Nat) (F : pd_F) (x0 : Int) (x1 : Int) : Option (Int × pd_S × pd_F) :=
  pd_i (x1 ≠ 0) <|
  pd_i (pd_ob sh 12 x1 = true ∨ (-21 ≤ x1 ∧ x1 < 0)) <|
  Option.bind (pfJ0_length_8abf5_d sh n F x1) fun qr4 => pd_l qr4.1 fun r4 => pd_l qr4.2 fun F2 =>
  pd_i (pd_ob sh 13 x0 = true) <|
  Option.bind (pfJ5_ensureCapacityInternal_d00df sh n F2 x0 (pd_w ((F2 x0 3) + r4))) fun qsh7 => pd_l qsh7.1 fun sh7 => pd_l qsh7.2 fun F6 =>
  pd_i (pd_ob sh7 13 x0 = true) <|
  Option.bind (pfJ5_putStringAt_47b60 sh7 n F6 x0 (F6 x0 3) x1) fun F9 =>
  pd_l (pd_up F9 x0 3 (pd_w ((F9 x0 3) + r4))) fun F10 =>
  some (x0, sh7, F10)
def pfJ5_append_3fe6f_b45 (n : Nat)  (sh : pd_S) (F : pd_F) (x0 : Int) (x1 : Int) : Option (Int × pd_S × pd_F) :=
  pd_i (pd_ob sh 13 x0 = true) <|
  Option.bind (pfJ5_isLatin1_aae02 sh n F x0) fun qr3 => pd_l qr3.1 fun r3 => pd_l qr3.2 fun F1 =>
  if r3 = 0 then
    pd_l (pd_up F1 x0 3 (pd_w ((F1 x0 3) + 1))) fun F4 =>
    none
  else
    none
def pfJ5_append_3fe6f (sh : pd_S) (n : Nat) (F : pd_F) (x0 : Int) (x1 : Int) : Option (Int × pd_S × pd_F) :=
  pd_i (pd_ob sh 13 x0 = true) <|
  Option.bind (pfJ5_ensureCapacityInternal_d00df sh n F x0 (pd_w ((F x0 3) + 1))) fun qsh7 => pd_l qsh7.1 fun sh7 => pd_l qsh7.2 fun F6 =>
  pd_i (pd_ob sh7 13 x0 = true) <|
  Option.bind (pfJ5_isLatin1_aae02 sh7 n F6 x0) fun qr10 => pd_l qr10.1 fun r10 => pd_l qr10.2 fun F8 =>
  if r10 = 0 then
    pfJ5_append_3fe6f_b45 n sh7 F8 x0 x1
  else
    Option.bind (pfJ1_canEncode_fc78d sh7 n F8 x1) fun qr12 => pd_l qr12.1 fun r12 => pd_l qr12.2 fun F11 =>
    if r12 = 0 then
      pfJ5_append_3fe6f_b45 n sh7 F11 x0 x1
    else
      pd_l (pd_up F11 x0 3 (pd_w ((F11 x0 3) + 1))) fun F13 =>
      pd_i (pd_ib sh7 0 1 (F11 x0 0) (F11 x0 3) = true) <|
      pd_l (pd_up F13 (F11 x0 0) (F11 x0 3) (pd_b (pd_b x1))) fun F15 =>
      some (x0, sh7, F15)
def pfJ5_append_c97b9 (sh : pd_S) (n : Nat) (F : pd_F) (x0 : Int) (x1 : Int) : Option (Int × pd_S × pd_F) :=
  pd_i (pd_ob sh 13 x0 = true) <|
  pd_l (F x0 3) fun x2_4 =>
  Option.bind (pfJ6_stringSize_0f7a4 sh n F x1) fun qr3 => pd_l qr3.1 fun r3 => pd_l qr3.2 fun F2 =>
  pd_l (pd_w (x2_4 + r3)) fun x3_11 =>
  Option.bind (pfJ5_ensureCapacityInternal_d00df sh n F2 x0 x3_11) fun qsh5 => pd_l qsh5.1 fun sh5 => pd_l qsh5.2 fun F4 =>
  pd_i (pd_ob sh5 13 x0 = true) <|
  Option.bind (pfJ5_isLatin1_aae02 sh5 n F4 x0) fun qr8 => pd_l qr8.1 fun r8 => pd_l qr8.2 fun F6 =>
  if r8 = 0 then
    none
  else
    Option.bind (pfJ6_getChars_ba4f3 sh5 n F6 x1 x3_11 (F6 x0 0)) fun qr10 => pd_l qr10.1 fun r10 => pd_l qr10.2 fun F9 =>
    pd_l (pd_up F9 x0 3 x3_11) fun F11 =>
    some (x0, sh5, F11)
def pfJ4_append_15ec4 (sh : pd_S) (n : Nat) (F : pd_F) (x0 : Int) (x1 : Int) : Option (Int × pd_S × pd_F) :=
  pd_i (pd_ob sh 13 x0 = true) <|
  Option.bind (pfJ5_append_cf1ce sh n F x0 x1) fun qr4 => pd_l qr4.1 fun r4 => pd_l qr4.2.1 fun sh3 => pd_l qr4.2.2 fun F1 =>
  some (x0, sh3, F1)
def pfJ4_append_cf468 (sh : pd_S) (n : Nat) (F : pd_F) (x0 : Int) (x1 : Int) : Option (Int × pd_S × pd_F) :=
  pd_i (pd_ob sh 13 x0 = true) <|
  Option.bind (pfJ5_append_3fe6f sh n F x0 x1) fun qr4 => pd_l qr4.1 fun r4 => pd_l qr4.2.1 fun sh3 => pd_l qr4.2.2 fun F1 =>
  some (x0, sh3, F1)
def pfJ4_append_bf812 (sh : pd_S) (n : Nat) (F : pd_F) (x0 : Int) (x1 : Int) : Option (Int × pd_S × pd_F) :=
  pd_i (pd_ob sh 13 x0 = true) <|
  Option.bind (pfJ5_append_c97b9 sh n F x0 x1) fun qr4 => pd_l qr4.1 fun r4 => pd_l qr4.2.1 fun sh3 => pd_l qr4.2.2 fun F1 =>
  some (x0, sh3, F1)
def pfJ7_copyOfRangeByte_39247 (sh : pd_S) (n : Nat) (F : pd_F) (x0 : Int) (x1 : Int) (x2 : Int) : Option (Int × pd_S × pd_F) :=
  Option.bind (pfJ7_checkLength_df160 sh n F x1 x2) fun F1 =>
  pd_l (pd_w (x2 - x1)) fun x3_8 =>
  pd_i (0 ≤ x3_8 ∧ x3_8 ≤ 1200) <|
  pd_l ((sh.length : Int) + 1) fun o4 => pd_l (pd_z F1 (sh.length + 1)) fun F3 => pd_l (sh ++ [(0, 1, Int.toNat x3_8)]) fun sh2 =>
  pd_i (o4 ≠ 0) <|
  pd_i (0 ≤ pd_ln sh2 0 1 x0) <|
  pd_i (pd_cgk sh2 1 x0 x1 o4 0 (min (pd_w ((pd_ln sh2 0 1 x0) - x1)) x3_8) = true) <|
  pd_i (pd_by F3 x0 x1 (min (pd_w ((pd_ln sh2 0 1 x0) - x1)) x3_8) = true) <|
  pd_l (pd_cp F3 x0 x1 o4 0 (min (pd_w ((pd_ln sh2 0 1 x0) - x1)) x3_8)) fun F10 =>
  some (o4, sh2, F10)
def pfJ7_copyOfRange_39247_b10 (n : Nat)  (sh : pd_S) (F : pd_F) (x0 : Int) (x1 : Int) (x2 : Int) : Option (Int × pd_S × pd_F) :=
  Option.bind (pfJ7_copyOfRangeByte_39247 sh n F x0 x1 x2) fun qr3 => pd_l qr3.1 fun r3 => pd_l qr3.2.1 fun sh2 => pd_l qr3.2.2 fun F1 =>
  some (r3, sh2, F1)
def pfJ7_copyOfRange_39247 (sh : pd_S) (n : Nat) (F : pd_F) (x0 : Int) (x1 : Int) (x2 : Int) : Option (Int × pd_S × pd_F) :=
  if x1 ≠ 0 then
    pfJ7_copyOfRange_39247_b10 n sh F x0 x1 x2
  else
    pd_i (0 ≤ pd_ln sh 0 1 x0) <|
    if x2 = (pd_ln sh 0 1 x0) then
      pd_i (0 ≤ pd_ln sh 0 1 x0 ∧ pd_ln sh 0 1 x0 ≤ 1200) <|
      pd_i (pd_by F x0 0 (pd_ln sh 0 1 x0) = true) <|
      pd_l ((sh.length : Int) + 1) fun o7 => pd_l (pd_cl F x0 (sh.length + 1)) fun F6 => pd_l (sh ++ [(0, 1, Int.toNat (pd_ln sh 0 1 x0))]) fun sh5 =>
      pd_i (0 ≤ pd_ln sh5 0 1 o7) <|
      some (o7, sh5, F6)
    else
      pfJ7_copyOfRange_39247_b10 n sh F x0 x1 x2
def pfJ0_init_db425_b79 (n : Nat)  (sh : pd_S) (F : pd_F) (x0 : Int) (x3 : Int) (x4 : Int) : Option (pd_S × pd_F) :=
  pd_i (pd_ob sh 12 x0 = true) <|
  pd_l (pd_up F x0 1 1) fun F2 =>
  Option.bind (pfJ7_copyOfRange_39247 sh n F2 x3 0 (pd_shl x4 1)) fun qr5 => pd_l qr5.1 fun r5 => pd_l qr5.2.1 fun sh4 => pd_l qr5.2.2 fun F3 =>
  pd_i (pd_ob sh4 12 x0 = true) <|
  pd_l (pd_up F3 x0 0 r5) fun F7 =>
  some (sh4, F7)
def pfJ0_init_db425 (sh : pd_S) (n : Nat) (F : pd_F) (x0 : Int) (x1 : Int) (x2 : Int) : Option (pd_S × pd_F) :=
  pd_i (x0 ≠ 0) <|
  pd_i (pd_ob sh 13 x1 = true) <|
  Option.bind (pfJ5_getValue_6d5f1 sh n F x1) fun qr11 => pd_l qr11.1 fun r11 => pd_l qr11.2 fun F9 =>
  pd_i (r11 ≠ 0) <|
  Option.bind (pfJ4_length_8abf5 sh n F9 x1) fun qr14 => pd_l qr14.1 fun r14 => pd_l qr14.2 fun F13 =>
  Option.bind (pfJ5_isLatin1_aae02 sh n F13 x1) fun qr16 => pd_l qr16.1 fun r16 => pd_l qr16.2 fun F15 =>
  if r16 = 0 then
    if (1 : Int) = 0 then
      pfJ0_init_db425_b79 n sh F15 x0 r11 r14
    else
      if (F15 x1 2) = 0 then
        pfJ0_init_db425_b79 n sh F15 x0 r11 r14
      else
        none
  else
    pd_i (pd_ob sh 12 x0 = true) <|
    pd_l (pd_up F15 x0 1 0) fun F18 =>
    Option.bind (pfJ7_copyOfRange_39247 sh n F18 r11 0 r14) fun qr21 => pd_l qr21.1 fun r21 => pd_l qr21.2.1 fun sh20 => pd_l qr21.2.2 fun F19 =>
    pd_i (pd_ob sh20 12 x0 = true) <|
    pd_l (pd_up F19 x0 0 r21) fun F23 =>
    some (sh20, F23)
def pfJ0_init_81219 (sh : pd_S) (n : Nat) (F : pd_F) (x0 : Int) (x1 : Int) : Option (pd_S × pd_F) :=
  pd_i (1 ≤ x0) <|
  Option.bind (pfJ0_init_db425 sh n F x0 x1 0) fun qsh3 => pd_l qsh3.1 fun sh3 => pd_l qsh3.2 fun F1 =>
  some (sh3, F1)
def pfJ4_toString_0e30d (sh : pd_S) (n : Nat) (F : pd_F) (x0 : Int) : Option (Int × pd_S × pd_F) :=
  pd_l ((sh.length : Int) + 1) fun o3 => pd_l (pd_z F (sh.length + 1)) fun F2 => pd_l (sh ++ [(4, 12, 4)]) fun sh1 =>
  pd_i (1 ≤ o3) <|
  Option.bind (pfJ0_init_81219 sh1 n F2 o3 x0) fun qsh6 => pd_l qsh6.1 fun sh6 => pd_l qsh6.2 fun F4 =>
  some (o3, sh6, F4)
set_option maxHeartbeats 4000000 in
set_option maxRecDepth 100000 in
theorem pkJ5_inflateIfNeededFor_a7421 (l : Launch) {al : Bool} {sh : pd_S} {n : Nat} {F : pd_F} {x0 : Int} {x1 : Int} {Fz : pd_F} (hf : pfJ5_inflateIfNeededFor_a7421 sh n F x0 x1 = some Fz) : pd_C l yJ5_inflateIfNeededFor_a7421 (Cond.code yJ5_inflateIfNeededFor_a7421 cJ5_inflateIfNeededFor_a7421 2 none :: pd_gt) (pd_rm 2 0 0) al 0 0 sh F [pd_R x0, pd_R x1] none sh Fz := by
  unfold pfJ5_inflateIfNeededFor_a7421 at hf
  refine pd_body (L := [pd_R x0, pd_R x1]) (by decide +kernel) (Nat.le_of_ble_eq_true rfl) rfl (fun E => ?_)
  refine pd_gsC dJ5_inflateIfNeededFor_a7421_0 pq_36 ?_
  refine pd_if_eq (tgt := 21) dJ5_inflateIfNeededFor_a7421_3 (by decide) (fun hc => ?_) (fun hc => ?_)
  · have hf := pd_ip hf hc
    obtain h2 := pd_inj1 hf
    subst h2
    exact pd_vret dJ5_inflateIfNeededFor_a7421_21 rfl (Nat.le_refl 0) (Nat.le_refl 0)
  · have hf := pd_in_ hf hc
    refine pd_aload_n (i := 0) dJ5_inflateIfNeededFor_a7421_6 rfl rfl ?_
    obtain ⟨hg1, hf⟩ := pd_ig hf
    refine pd_get (x := pd_I (F x0 1)) 1 dJ5_inflateIfNeededFor_a7421_7 (show vwCl[13]? = some (RX13, TX13, 4) from rfl) pin_13 (by decide) pq_37 hg1 rfl ?_
    refine pd_aload_n (i := 1) dJ5_inflateIfNeededFor_a7421_10 rfl rfl ?_
    obtain ⟨hg3, hf⟩ := pd_ig hf
    obtain ⟨r4, F2, hr, hf⟩ := pd_ob2 hf
    refine pd_callVD (pkJ0_coder_7d493_d l hr) dJ5_inflateIfNeededFor_a7421_11 pq_50 pq_9 pq_10 rfl hg3 (pd_okm (by omega) (by decide) pq_7 pq_8 (by decide) (show (parseMethodDescriptor yJ0_coder_7d493.desc).map (fun d => d.parameters.length) = some 0 from by decide +kernel)) (Nat.le_of_ble_eq_true rfl) rfl ?_
    refine pd_icmp_eq (tgt := 21) dJ5_inflateIfNeededFor_a7421_14 (by decide) (fun hc => ?_) (fun hc => ?_)
    · have hf := pd_ip hf hc
      obtain h2 := pd_inj1 hf
      subst h2
      exact pd_vret dJ5_inflateIfNeededFor_a7421_21 rfl (Nat.le_refl 0) (Nat.le_refl 0)
    · have hf := pd_in_ hf hc
      refine pd_aload_n (i := 0) dJ5_inflateIfNeededFor_a7421_17 rfl rfl ?_
      exact absurd hf (fun h => nomatch h)
set_option maxHeartbeats 4000000 in
set_option maxRecDepth 100000 in
theorem pkJ5_putStringAt_47b60 (l : Launch) {al : Bool} {sh : pd_S} {n : Nat} {F : pd_F} {x0 : Int} {x1 : Int} {x2 : Int} {Fz : pd_F} (hf : pfJ5_putStringAt_47b60 sh n F x0 x1 x2 = some Fz) : pd_C l yJ5_putStringAt_47b60 (Cond.code yJ5_putStringAt_47b60 cJ5_putStringAt_47b60 3 none :: pd_gt) (pd_rm 3 0 0) al 0 0 sh F [pd_R x0, pd_I x1, pd_R x2] none sh Fz := by
  unfold pfJ5_putStringAt_47b60 at hf
  refine pd_body (L := [pd_R x0, pd_I x1, pd_R x2]) (by decide +kernel) (Nat.le_of_ble_eq_true rfl) rfl (fun E => ?_)
  refine pd_aload_n (i := 0) dJ5_putStringAt_47b60_0 rfl rfl ?_
  refine pd_aload_n (i := 2) dJ5_putStringAt_47b60_1 rfl rfl ?_
  obtain ⟨hg2, hf⟩ := pd_ig hf
  obtain ⟨F1, hr, hf⟩ := pd_ob1 hf
  refine pd_callVC (Cn := RX13) (pkJ5_inflateIfNeededFor_a7421 l hr) dJ5_putStringAt_47b60_2 pq_51 pq_54 pq_55 (show vwCl[13]? = some (RX13, TX13, 4) from rfl) hg2 (pd_okm (by omega) (by decide) pq_52 pq_53 (by decide) (show (parseMethodDescriptor yJ5_inflateIfNeededFor_a7421.desc).map (fun d => d.parameters.length) = some 1 from by decide +kernel)) (Nat.le_of_ble_eq_true rfl) rfl ?_
  refine pd_aload_n (i := 2) dJ5_putStringAt_47b60_5 rfl rfl ?_
  refine pd_aload_n (i := 0) dJ5_putStringAt_47b60_6 rfl rfl ?_
  refine pd_get (x := pd_R (F1 x0 0)) 0 dJ5_putStringAt_47b60_7 (show vwCl[13]? = some (RX13, TX13, 4) from rfl) pin_13 (by decide) pq_35 hg2 rfl ?_
  refine pd_iload_n (i := 1) dJ5_putStringAt_47b60_10 rfl rfl ?_
  refine pd_aload_n (i := 0) dJ5_putStringAt_47b60_11 rfl rfl ?_
  refine pd_get (x := pd_I (F1 x0 1)) 1 dJ5_putStringAt_47b60_12 (show vwCl[13]? = some (RX13, TX13, 4) from rfl) pin_13 (by decide) pq_37 hg2 rfl ?_
  obtain ⟨hg4, hf⟩ := pd_ig hf
  obtain ⟨F3, hr, hf⟩ := pd_ob1 hf
  refine pd_callVD (pkJ0_getBytes_840e7_d l hr) dJ5_putStringAt_47b60_15 pq_56 pq_59 pq_60 rfl hg4 (pd_okm (by omega) (by decide) pq_57 pq_58 (by decide) (show (parseMethodDescriptor yJ0_getBytes_840e7.desc).map (fun d => d.parameters.length) = some 3 from by decide +kernel)) (Nat.le_of_ble_eq_true rfl) rfl ?_
  obtain h2 := pd_inj1 hf
  subst h2
  exact pd_vret dJ5_putStringAt_47b60_18 rfl (Nat.le_refl 0) (Nat.le_refl 0)
set_option maxHeartbeats 8000000 in
set_option maxRecDepth 100000 in
theorem pkJ7_copyOf_9075b (l : Launch) {sh : pd_S} {n : Nat} {F : pd_F} {x0 : Int} {x1 : Int} {ρ : Int} {shz : pd_S} {Fz : pd_F} (hf : pfJ7_copyOf_9075b sh n F x0 x1 = some (ρ, shz, Fz)) : pd_C l yJ7_copyOf_9075b (Cond.code yJ7_copyOf_9075b cJ7_copyOf_9075b 3 (some (.array .byte)) :: pd_gt) (pd_rm 1 1 (pd_U * 1)) true 1 (pd_U * 1) sh F [pd_R x0, pd_I x1] (some (pd_R ρ)) shz Fz := by
  unfold pfJ7_copyOf_9075b at hf
  have hU : 8 ≤ pd_U := by decide
  refine pd_body (L := [pd_R x0, pd_I x1, pd_N]) (by decide +kernel) (Nat.le_of_ble_eq_true rfl) rfl (fun E => ?_)
  refine pd_iload_n (i := 1) dJ7_copyOf_9075b_0 rfl rfl ?_
  refine pd_aload_n (i := 0) dJ7_copyOf_9075b_1 rfl rfl ?_
  obtain ⟨hg1, hf⟩ := pd_ig hf
  refine pd_alen dJ7_copyOf_9075b_2 (by decide) hg1 ?_
  refine pd_icmp_ne (tgt := 14) dJ7_copyOf_9075b_3 (by decide) (fun hc => ?_) (fun hc => ?_)
  · have hf := pd_ip hf hc
    refine pd_iload_n (i := 1) dJ7_copyOf_9075b_14 rfl rfl ?_
    obtain ⟨hg5, hf⟩ := pd_ig hf
    have hg5U : Int.toNat x1 ≤ pd_U := by unfold pd_U; omega
    refine pd_newB (N := Int.toNat x1) dJ7_copyOf_9075b_15 pq_61 (by omega) (by omega) ⟨by show _ ≤ 1; omega, by show _ ≤ pd_U * 1; omega⟩ ?_
    refine pd_topR (fun o4 eo4 => ?_)
    have hf := pd_lt hf eo4
    refine pd_topF (fun F3 eF3 => ?_)
    have hf := pd_lt hf eF3
    refine pd_topS (fun sh2 esh2 => ?_)
    have hf := pd_lt hf esh2
    clear esh2 eF3 eo4
    obtain ⟨hg6, hf⟩ := pd_ig hf
    refine pd_astore_n (L' := [pd_R x0, pd_I x1, pd_R o4]) dJ7_copyOf_9075b_17 rfl (by decide) hg6 rfl ?_
    refine pd_aload_n (i := 0) dJ7_copyOf_9075b_18 rfl rfl ?_
    refine pd_iconst dJ7_copyOf_9075b_19 (by decide) ?_
    refine pd_aload_n (i := 2) dJ7_copyOf_9075b_20 rfl rfl ?_
    refine pd_iconst dJ7_copyOf_9075b_21 (by decide) ?_
    refine pd_aload_n (i := 0) dJ7_copyOf_9075b_22 rfl rfl ?_
    obtain ⟨hg7, hf⟩ := pd_ig hf
    refine pd_alen dJ7_copyOf_9075b_23 (by decide) hg7 ?_
    refine pd_iload_n (i := 1) dJ7_copyOf_9075b_24 rfl rfl ?_
    refine pd_mmin dJ7_copyOf_9075b_25 pq_62 pq_63 pq_40 pq_64 ⟨by show 1 ≤ 1; omega, by show 64 ≤ 64 * 1; omega, by show _ ≤ 1; omega, by show _ ≤ pd_U * 1; omega⟩ (Nat.le_of_ble_eq_true rfl) ?_
    obtain ⟨hg8, hf⟩ := pd_ig hf
    obtain ⟨hg9, hf⟩ := pd_ig hf
    refine pd_copyk (kk := 1) dJ7_copyOf_9075b_28 pq_65 pq_25 pq_26 pq_27 pd_rmR2 (Nat.le_of_ble_eq_true rfl) hg8 (Or.inr ⟨rfl, hg9⟩) ?_
    refine pd_topF (fun F10 eF10 => ?_)
    have hf := pd_lt hf eF10
    clear eF10
    refine pd_aload_n (i := 2) dJ7_copyOf_9075b_31 rfl rfl ?_
    obtain ⟨h1, h2, h3⟩ := pd_inj3 hf
    subst h1 h2 h3
    exact pd_aret dJ7_copyOf_9075b_32 rfl (by first | exact Or.inl ⟨_, rfl⟩ | exact Or.inr ⟨_, rfl⟩) (by omega) (by omega)
  · have hf := pd_iq hf hc
    refine pd_aload_n (i := 0) dJ7_copyOf_9075b_6 rfl rfl ?_
    exact absurd hf (fun h => nomatch h)
set_option maxHeartbeats 8000000 in
set_option maxRecDepth 100000 in
theorem pkJ5_ensureCapacityInternal_d00df (l : Launch) {sh : pd_S} {n : Nat} {F : pd_F} {x0 : Int} {x1 : Int} {shz : pd_S} {Fz : pd_F} (hf : pfJ5_ensureCapacityInternal_d00df sh n F x0 x1 = some (shz, Fz)) : pd_C l yJ5_ensureCapacityInternal_d00df (Cond.code yJ5_ensureCapacityInternal_d00df cJ5_ensureCapacityInternal_d00df 3 none :: pd_gt) (pd_rm 3 1 (pd_U * 1)) true 1 (pd_U * 1) sh F [pd_R x0, pd_I x1] none shz Fz := by
  unfold pfJ5_ensureCapacityInternal_d00df at hf
  have hU : 8 ≤ pd_U := by decide
  refine pd_body (L := [pd_R x0, pd_I x1, pd_N]) (by decide +kernel) (Nat.le_of_ble_eq_true rfl) rfl (fun E => ?_)
  refine pd_aload_n (i := 0) dJ5_ensureCapacityInternal_d00df_0 rfl rfl ?_
  obtain ⟨hg1, hf⟩ := pd_ig hf
  refine pd_get (x := pd_R (F x0 0)) 0 dJ5_ensureCapacityInternal_d00df_1 (show vwCl[13]? = some (RX13, TX13, 4) from rfl) pin_13 (by decide) pq_35 hg1 rfl ?_
  obtain ⟨hg2, hf⟩ := pd_ig hf
  refine pd_alen dJ5_ensureCapacityInternal_d00df_4 (by decide) hg2 ?_
  refine pd_aload_n (i := 0) dJ5_ensureCapacityInternal_d00df_5 rfl rfl ?_
  refine pd_get (x := pd_I (F x0 1)) 1 dJ5_ensureCapacityInternal_d00df_6 (show vwCl[13]? = some (RX13, TX13, 4) from rfl) pin_13 (by decide) pq_37 hg1 rfl ?_
  refine pd_ishr dJ5_ensureCapacityInternal_d00df_9 ?_
  refine pd_topI (fun x2_10 ex2_10 => ?_)
  have hf := pd_lt hf ex2_10
  clear ex2_10
  refine pd_istore_n (L' := [pd_R x0, pd_I x1, pd_I x2_10]) dJ5_ensureCapacityInternal_d00df_10 rfl (by decide) rfl ?_
  refine pd_iload_n (i := 1) dJ5_ensureCapacityInternal_d00df_11 rfl rfl ?_
  refine pd_iload_n (i := 2) dJ5_ensureCapacityInternal_d00df_12 rfl rfl ?_
  refine pd_isub dJ5_ensureCapacityInternal_d00df_13 ?_
  refine pd_if_le (tgt := 38) dJ5_ensureCapacityInternal_d00df_14 (by decide) (fun hc => ?_) (fun hc => ?_)
  · have hf := pd_ip hf hc
    obtain ⟨h1, h2⟩ := pd_inj hf
    subst h1 h2
    exact pd_vret dJ5_ensureCapacityInternal_d00df_38 rfl (by omega) (by omega)
  · have hf := pd_in_ hf hc
    refine pd_aload_n (i := 0) dJ5_ensureCapacityInternal_d00df_17 rfl rfl ?_
    refine pd_aload_n (i := 0) dJ5_ensureCapacityInternal_d00df_18 rfl rfl ?_
    refine pd_get (x := pd_R (F x0 0)) 0 dJ5_ensureCapacityInternal_d00df_19 (show vwCl[13]? = some (RX13, TX13, 4) from rfl) pin_13 (by decide) pq_35 hg1 rfl ?_
    refine pd_aload_n (i := 0) dJ5_ensureCapacityInternal_d00df_22 rfl rfl ?_
    refine pd_iload_n (i := 1) dJ5_ensureCapacityInternal_d00df_23 rfl rfl ?_
    obtain ⟨r4, F3, hr, hf⟩ := pd_ob2 hf
    refine pd_callVC (Cn := RX13) (pkJ5_newCapacity_0f7a4 l hr) dJ5_ensureCapacityInternal_d00df_24 pq_66 pq_69 pq_70 (show vwCl[13]? = some (RX13, TX13, 4) from rfl) hg1 (pd_okA (by omega) (by decide) (by omega) (by omega) pq_67 pq_68 (by decide) (show (parseMethodDescriptor yJ5_newCapacity_0f7a4.desc).map (fun d => d.parameters.length) = some 1 from by decide +kernel)) (Nat.le_of_ble_eq_true rfl) rfl ?_
    refine pd_aload_n (i := 0) dJ5_ensureCapacityInternal_d00df_27 rfl rfl ?_
    refine pd_get (x := pd_I (F3 x0 1)) 1 dJ5_ensureCapacityInternal_d00df_28 (show vwCl[13]? = some (RX13, TX13, 4) from rfl) pin_13 (by decide) pq_37 hg1 rfl ?_
    refine pd_ishl dJ5_ensureCapacityInternal_d00df_31 ?_
    obtain ⟨r7, sh6, F5, hr, hf⟩ := pd_ob3 hf
    refine pd_callS (pkJ7_copyOf_9075b l hr) dJ5_ensureCapacityInternal_d00df_32 pq_71 pq_74 (pd_okA (by omega) (by decide) (by omega) (by omega) pq_72 pq_73 (by decide) (show (parseMethodDescriptor yJ7_copyOf_9075b.desc).map (fun d => d.parameters.length) = some 2 from by decide +kernel)) (Nat.le_of_ble_eq_true rfl) rfl ?_
    obtain ⟨hg8, hf⟩ := pd_ig hf
    refine pd_put (n := r7) (x := pd_R r7) 0 dJ5_ensureCapacityInternal_d00df_35 (show vwCl[13]? = some (RX13, TX13, 4) from rfl) pin_13 tyX13_ok nmX13 (by decide) pq_35 rfl hg8 rfl (pd_nrR (Or.inr ⟨_, rfl⟩)) (pd_ftR (Or.inr ⟨_, rfl⟩)) ?_
    refine pd_topF (fun F9 eF9 => ?_)
    have hf := pd_lt hf eF9
    clear eF9
    obtain ⟨h1, h2⟩ := pd_inj hf
    subst h1 h2
    exact pd_vret dJ5_ensureCapacityInternal_d00df_38 rfl (by omega) (by omega)
set_option maxHeartbeats 8000000 in
set_option maxRecDepth 100000 in
theorem pkJ5_init_d00df (l : Launch) {sh : pd_S} {n : Nat} {F : pd_F} {x0 : Int} {x1 : Int} {shz : pd_S} {Fz : pd_F} (hf : pfJ5_init_d00df sh n F x0 x1 = some (shz, Fz)) : pd_C l yJ5_init_d00df (Cond.code yJ5_init_d00df cJ5_init_d00df 2 none :: pd_gt) (pd_rm 1 1 (pd_U * 1)) true 1 (pd_U * 1) sh F [pd_R x0, pd_I x1] none shz Fz := by
  unfold pfJ5_init_d00df at hf
  have hU : 8 ≤ pd_U := by decide
  refine pd_body (L := [pd_R x0, pd_I x1]) (by decide +kernel) (Nat.le_of_ble_eq_true rfl) rfl (fun E => ?_)
  refine pd_aload_n (i := 0) dJ5_init_d00df_0 rfl rfl ?_
  obtain ⟨hg1, hf⟩ := pd_ig hf
  refine pd_oinit dJ5_init_d00df_1 pq_75 pq_76 pq_77 hg1 pd_rmR2 (Nat.le_of_ble_eq_true rfl) ?_
  refine pd_gsC dJ5_init_d00df_4 pq_36 ?_
  refine pd_if_eq (tgt := 25) dJ5_init_d00df_7 (by decide) (fun hc => ?_) (fun hc => ?_)
  · have hf := pd_ip hf hc
    refine pd_aload_n (i := 0) dJ5_init_d00df_25 rfl rfl ?_
    refine pd_iload_n (i := 1) dJ5_init_d00df_26 rfl rfl ?_
    exact absurd hf (fun h => nomatch h)
  · have hf := pd_in_ hf hc
    refine pd_aload_n (i := 0) dJ5_init_d00df_10 rfl rfl ?_
    refine pd_iload_n (i := 1) dJ5_init_d00df_11 rfl rfl ?_
    obtain ⟨hg5, hf⟩ := pd_ig hf
    have hg5U : Int.toNat x1 ≤ pd_U := by unfold pd_U; omega
    refine pd_newB (N := Int.toNat x1) dJ5_init_d00df_12 pq_61 (by omega) (by omega) ⟨by show _ ≤ 1; omega, by show _ ≤ pd_U * 1; omega⟩ ?_
    refine pd_topR (fun o4 eo4 => ?_)
    have hf := pd_lt hf eo4
    refine pd_topF (fun F3 eF3 => ?_)
    have hf := pd_lt hf eF3
    refine pd_topS (fun sh2 esh2 => ?_)
    have hf := pd_lt hf esh2
    clear esh2 eF3 eo4
    obtain ⟨hg6, hf⟩ := pd_ig hf
    refine pd_put (n := o4) (x := pd_R o4) 0 dJ5_init_d00df_14 (show vwCl[13]? = some (RX13, TX13, 4) from rfl) pin_13 tyX13_ok nmX13 (by decide) pq_35 rfl hg6 rfl (pd_nrR (Or.inr ⟨_, rfl⟩)) (pd_ftR (Or.inr ⟨_, rfl⟩)) ?_
    refine pd_topF (fun F7 eF7 => ?_)
    have hf := pd_lt hf eF7
    clear eF7
    refine pd_aload_n (i := 0) dJ5_init_d00df_17 rfl rfl ?_
    refine pd_iconst dJ5_init_d00df_18 (by decide) ?_
    refine pd_put (n := 0) (x := pd_I 0) 1 dJ5_init_d00df_19 (show vwCl[13]? = some (RX13, TX13, 4) from rfl) pin_13 tyX13_ok nmX13 (by decide) pq_37 rfl hg6 rfl (pd_nrB (by decide)) (pd_ftB (by decide)) ?_
    refine pd_topF (fun F8 eF8 => ?_)
    have hf := pd_lt hf eF8
    clear eF8
    refine pd_goto (tgt := 38) dJ5_init_d00df_22 (by decide) ?_
    obtain ⟨h1, h2⟩ := pd_inj hf
    subst h1 h2
    exact pd_vret dJ5_init_d00df_38 rfl (by omega) (by omega)
set_option maxHeartbeats 8000000 in
set_option maxRecDepth 100000 in
theorem pkJ4_init_da8c8 (l : Launch) {sh : pd_S} {n : Nat} {F : pd_F} {x0 : Int} {shz : pd_S} {Fz : pd_F} (hf : pfJ4_init_da8c8 sh n F x0 = some (shz, Fz)) : pd_C l yJ4_init_da8c8 (Cond.code yJ4_init_da8c8 cJ4_init_da8c8 1 none :: pd_gt) (pd_rm 2 1 (pd_U * 1)) true 1 (pd_U * 1) sh F [pd_R x0] none shz Fz := by
  unfold pfJ4_init_da8c8 at hf
  have hU : 8 ≤ pd_U := by decide
  refine pd_body (L := [pd_R x0]) (by decide +kernel) (Nat.le_of_ble_eq_true rfl) rfl (fun E => ?_)
  refine pd_aload_n (i := 0) dJ4_init_da8c8_0 rfl rfl ?_
  refine pd_bipush dJ4_init_da8c8_1 (by decide) ?_
  obtain ⟨hg2, hf⟩ := pd_ig hf
  obtain ⟨sh3, F1, hr, hf⟩ := pd_ob2 hf
  refine pd_callI (pkJ5_init_d00df l hr) dJ4_init_da8c8_3 pq_78 pq_81 rfl hg2 (pd_okA (by omega) (by decide) (by omega) (by omega) pq_79 pq_80 (by decide) (show (parseMethodDescriptor yJ5_init_d00df.desc).map (fun d => d.parameters.length) = some 1 from by decide +kernel)) (Nat.le_of_ble_eq_true rfl) rfl ?_
  obtain ⟨h1, h2⟩ := pd_inj hf
  subst h1 h2
  exact pd_vret dJ4_init_da8c8_6 rfl (by omega) (by omega)
set_option maxHeartbeats 8000000 in
set_option maxRecDepth 100000 in
theorem pkJ5_append_cf1ce (l : Launch) {sh : pd_S} {n : Nat} {F : pd_F} {x0 : Int} {x1 : Int} {ρ : Int} {shz : pd_S} {Fz : pd_F} (hf : pfJ5_append_cf1ce sh n F x0 x1 = some (ρ, shz, Fz)) : pd_C l yJ5_append_cf1ce (Cond.code yJ5_append_cf1ce cJ5_append_cf1ce 3 (some (.object "java/lang/AbstractStringBuilder")) :: pd_gt) (pd_rm 4 1 (pd_U * 1)) true 1 (pd_U * 1) sh F [pd_R x0, pd_R x1] (some (pd_R ρ)) shz Fz := by
  unfold pfJ5_append_cf1ce at hf
  have hU : 8 ≤ pd_U := by decide
  refine pd_body (L := [pd_R x0, pd_R x1, pd_N]) (by decide +kernel) (Nat.le_of_ble_eq_true rfl) rfl (fun E => ?_)
  refine pd_aload_n (i := 1) dJ5_append_cf1ce_0 rfl rfl ?_
  obtain ⟨hg1, hf⟩ := pd_ig hf
  refine pd_ifnn (tgt := 9) hg1 dJ5_append_cf1ce_1 (by decide) ?_
  refine pd_aload_n (i := 1) dJ5_append_cf1ce_9 rfl rfl ?_
  obtain ⟨hg3, hf⟩ := pd_ig hf
  obtain ⟨r4, F2, hr, hf⟩ := pd_ob2 hf
  refine pd_callVD (pkJ0_length_8abf5_d l hr) dJ5_append_cf1ce_10 pq_82 pq_85 pq_86 rfl hg3 (pd_okA (by omega) (by decide) (by omega) (by omega) pq_83 pq_84 (by decide) (show (parseMethodDescriptor yJ0_length_8abf5.desc).map (fun d => d.parameters.length) = some 0 from by decide +kernel)) (Nat.le_of_ble_eq_true rfl) rfl ?_
  refine pd_istore_n (L' := [pd_R x0, pd_R x1, pd_I r4]) dJ5_append_cf1ce_13 rfl (by decide) rfl ?_
  refine pd_aload_n (i := 0) dJ5_append_cf1ce_14 rfl rfl ?_
  refine pd_aload_n (i := 0) dJ5_append_cf1ce_15 rfl rfl ?_
  obtain ⟨hg5, hf⟩ := pd_ig hf
  refine pd_get (x := pd_I (F2 x0 3)) 3 dJ5_append_cf1ce_16 (show vwCl[13]? = some (RX13, TX13, 4) from rfl) pin_13 (by decide) pq_28 hg5 rfl ?_
  refine pd_iload_n (i := 2) dJ5_append_cf1ce_19 rfl rfl ?_
  refine pd_iadd dJ5_append_cf1ce_20 ?_
  obtain ⟨sh7, F6, hr, hf⟩ := pd_ob2 hf
  refine pd_callVC (Cn := RX13) (pkJ5_ensureCapacityInternal_d00df l hr) dJ5_append_cf1ce_21 pq_87 pq_90 pq_91 (show vwCl[13]? = some (RX13, TX13, 4) from rfl) hg5 (pd_okA (by omega) (by decide) (by omega) (by omega) pq_88 pq_89 (by decide) (show (parseMethodDescriptor yJ5_ensureCapacityInternal_d00df.desc).map (fun d => d.parameters.length) = some 1 from by decide +kernel)) (Nat.le_of_ble_eq_true rfl) rfl ?_
  refine pd_aload_n (i := 0) dJ5_append_cf1ce_24 rfl rfl ?_
  refine pd_aload_n (i := 0) dJ5_append_cf1ce_25 rfl rfl ?_
  obtain ⟨hg8, hf⟩ := pd_ig hf
  refine pd_get (x := pd_I (F6 x0 3)) 3 dJ5_append_cf1ce_26 (show vwCl[13]? = some (RX13, TX13, 4) from rfl) pin_13 (by decide) pq_28 hg8 rfl ?_
  refine pd_aload_n (i := 1) dJ5_append_cf1ce_29 rfl rfl ?_
  obtain ⟨F9, hr, hf⟩ := pd_ob1 hf
  refine pd_callVC (Cn := RX13) (pkJ5_putStringAt_47b60 l hr) dJ5_append_cf1ce_30 pq_92 pq_95 pq_96 (show vwCl[13]? = some (RX13, TX13, 4) from rfl) hg8 (pd_okA (by omega) (by decide) (by omega) (by omega) pq_93 pq_94 (by decide) (show (parseMethodDescriptor yJ5_putStringAt_47b60.desc).map (fun d => d.parameters.length) = some 2 from by decide +kernel)) (Nat.le_of_ble_eq_true rfl) rfl ?_
  refine pd_aload_n (i := 0) dJ5_append_cf1ce_33 rfl rfl ?_
  refine pd_dup dJ5_append_cf1ce_34 rfl ?_
  refine pd_get (x := pd_I (F9 x0 3)) 3 dJ5_append_cf1ce_35 (show vwCl[13]? = some (RX13, TX13, 4) from rfl) pin_13 (by decide) pq_28 hg8 rfl ?_
  refine pd_iload_n (i := 2) dJ5_append_cf1ce_38 rfl rfl ?_
  refine pd_iadd dJ5_append_cf1ce_39 ?_
  refine pd_put (n := (pd_w ((F9 x0 3) + r4))) (x := pd_I (pd_w ((F9 x0 3) + r4))) 3 dJ5_append_cf1ce_40 (show vwCl[13]? = some (RX13, TX13, 4) from rfl) pin_13 tyX13_ok nmX13 (by decide) pq_28 rfl hg8 rfl pd_nrI pd_ftI ?_
  refine pd_topF (fun F10 eF10 => ?_)
  have hf := pd_lt hf eF10
  clear eF10
  refine pd_aload_n (i := 0) dJ5_append_cf1ce_43 rfl rfl ?_
  obtain ⟨h1, h2, h3⟩ := pd_inj3 hf
  subst h1 h2 h3
  exact pd_aret dJ5_append_cf1ce_44 rfl (by first | exact Or.inl ⟨_, rfl⟩ | exact Or.inr ⟨_, rfl⟩) (by omega) (by omega)
set_option maxHeartbeats 8000000 in
set_option maxRecDepth 100000 in
theorem pkJ5_append_3fe6f_b45 (E : pd_E) (l : Launch) {n : Nat} {shz : pd_S} {ρ : Int} {Fz : pd_F}  (cells slots : Nat) (hc0 : cells + 0 ≤ 1) (hs0 : slots + pd_U * 0 ≤ pd_U * 1) (sh : pd_S) (F : pd_F) (x0 : Int) (x1 : Int) (hf : pfJ5_append_3fe6f_b45 n  sh F x0 x1 = some (ρ, shz, Fz)) : pd_V E l (pd_rm 4 1 (pd_U * 1)) (RJ5, cJ5_append_3fe6f, 2, (some (.object "java/lang/AbstractStringBuilder")), "append") (pd_Qm E true (some (pd_R ρ)) shz Fz 1 (pd_U * 1)) true cells slots sh F 45 [pd_R x0, pd_I x1] [] := by
  unfold pfJ5_append_3fe6f_b45 at hf
  have hU : 8 ≤ pd_U := by decide
  refine pd_aload_n (i := 0) dJ5_append_3fe6f_45 rfl rfl ?_
  obtain ⟨hg2, hf⟩ := pd_ig hf
  obtain ⟨r3, F1, hr, hf⟩ := pd_ob2 hf
  refine pd_callVC (Cn := RX13) (pkJ5_isLatin1_aae02 l hr) dJ5_append_3fe6f_46 pq_97 pq_100 pq_101 (show vwCl[13]? = some (RX13, TX13, 4) from rfl) hg2 (pd_okA (by omega) (by decide) (by omega) (by omega) pq_98 pq_99 (by decide) (show (parseMethodDescriptor yJ5_isLatin1_aae02.desc).map (fun d => d.parameters.length) = some 0 from by decide +kernel)) (Nat.le_of_ble_eq_true rfl) rfl ?_
  refine pd_if_eq (tgt := 56) dJ5_append_3fe6f_49 (by decide) (fun hc => ?_) (fun hc => ?_)
  · have hf := pd_ip hf hc
    refine pd_aload_n (i := 0) dJ5_append_3fe6f_56 rfl rfl ?_
    refine pd_get (x := pd_R (F1 x0 0)) 0 dJ5_append_3fe6f_57 (show vwCl[13]? = some (RX13, TX13, 4) from rfl) pin_13 (by decide) pq_35 hg2 rfl ?_
    refine pd_aload_n (i := 0) dJ5_append_3fe6f_60 rfl rfl ?_
    refine pd_dup dJ5_append_3fe6f_61 rfl ?_
    refine pd_get (x := pd_I (F1 x0 3)) 3 dJ5_append_3fe6f_62 (show vwCl[13]? = some (RX13, TX13, 4) from rfl) pin_13 (by decide) pq_28 hg2 rfl ?_
    refine pd_dupx1 dJ5_append_3fe6f_65 rfl rfl ?_
    refine pd_iconst dJ5_append_3fe6f_66 (by decide) ?_
    refine pd_iadd dJ5_append_3fe6f_67 ?_
    refine pd_put (n := (pd_w ((F1 x0 3) + 1))) (x := pd_I (pd_w ((F1 x0 3) + 1))) 3 dJ5_append_3fe6f_68 (show vwCl[13]? = some (RX13, TX13, 4) from rfl) pin_13 tyX13_ok nmX13 (by decide) pq_28 rfl hg2 rfl pd_nrI pd_ftI ?_
    refine pd_topF (fun F4 eF4 => ?_)
    have hf := pd_lt hf eF4
    clear eF4
    refine pd_iload_n (i := 1) dJ5_append_3fe6f_71 rfl rfl ?_
    exact absurd hf (fun h => nomatch h)
  · have hf := pd_in_ hf hc
    refine pd_aload_n (i := 0) dJ5_append_3fe6f_52 rfl rfl ?_
    exact absurd hf (fun h => nomatch h)
set_option maxHeartbeats 8000000 in
set_option maxRecDepth 100000 in
theorem pkJ5_append_3fe6f (l : Launch) {sh : pd_S} {n : Nat} {F : pd_F} {x0 : Int} {x1 : Int} {ρ : Int} {shz : pd_S} {Fz : pd_F} (hf : pfJ5_append_3fe6f sh n F x0 x1 = some (ρ, shz, Fz)) : pd_C l yJ5_append_3fe6f (Cond.code yJ5_append_3fe6f cJ5_append_3fe6f 2 (some (.object "java/lang/AbstractStringBuilder")) :: pd_gt) (pd_rm 4 1 (pd_U * 1)) true 1 (pd_U * 1) sh F [pd_R x0, pd_I x1] (some (pd_R ρ)) shz Fz := by
  unfold pfJ5_append_3fe6f at hf
  have hU : 8 ≤ pd_U := by decide
  refine pd_body (L := [pd_R x0, pd_I x1]) (by decide +kernel) (Nat.le_of_ble_eq_true rfl) rfl (fun E => ?_)
  refine pd_aload_n (i := 0) dJ5_append_3fe6f_0 rfl rfl ?_
  refine pd_aload_n (i := 0) dJ5_append_3fe6f_1 rfl rfl ?_
  obtain ⟨hg5, hf⟩ := pd_ig hf
  refine pd_get (x := pd_I (F x0 3)) 3 dJ5_append_3fe6f_2 (show vwCl[13]? = some (RX13, TX13, 4) from rfl) pin_13 (by decide) pq_28 hg5 rfl ?_
  refine pd_iconst dJ5_append_3fe6f_5 (by decide) ?_
  refine pd_iadd dJ5_append_3fe6f_6 ?_
  obtain ⟨sh7, F6, hr, hf⟩ := pd_ob2 hf
  refine pd_callVC (Cn := RX13) (pkJ5_ensureCapacityInternal_d00df l hr) dJ5_append_3fe6f_7 pq_87 pq_90 pq_91 (show vwCl[13]? = some (RX13, TX13, 4) from rfl) hg5 (pd_okA (by omega) (by decide) (by omega) (by omega) pq_88 pq_89 (by decide) (show (parseMethodDescriptor yJ5_ensureCapacityInternal_d00df.desc).map (fun d => d.parameters.length) = some 1 from by decide +kernel)) (Nat.le_of_ble_eq_true rfl) rfl ?_
  refine pd_aload_n (i := 0) dJ5_append_3fe6f_10 rfl rfl ?_
  obtain ⟨hg9, hf⟩ := pd_ig hf
  obtain ⟨r10, F8, hr, hf⟩ := pd_ob2 hf
  refine pd_callVC (Cn := RX13) (pkJ5_isLatin1_aae02 l hr) dJ5_append_3fe6f_11 pq_97 pq_100 pq_101 (show vwCl[13]? = some (RX13, TX13, 4) from rfl) hg9 (pd_okA (by omega) (by decide) (by omega) (by omega) pq_98 pq_99 (by decide) (show (parseMethodDescriptor yJ5_isLatin1_aae02.desc).map (fun d => d.parameters.length) = some 0 from by decide +kernel)) (Nat.le_of_ble_eq_true rfl) rfl ?_
  refine pd_if_eq (tgt := 45) dJ5_append_3fe6f_14 (by decide) (fun hc => ?_) (fun hc => ?_)
  · have hf := pd_ip hf hc
    exact pd_weak (L' := [pd_R x0, pd_I x1]) ⟨Or.inr rfl, Or.inr rfl, trivial⟩ (pkJ5_append_3fe6f_b45 E l _ _ (by omega) (by omega) _ _ _ _ hf)
  · have hf := pd_in_ hf hc
    refine pd_iload_n (i := 1) dJ5_append_3fe6f_17 rfl rfl ?_
    obtain ⟨r12, F11, hr, hf⟩ := pd_ob2 hf
    refine pd_callS (pkJ1_canEncode_fc78d l hr) dJ5_append_3fe6f_18 pq_102 pq_105 (pd_okA (by omega) (by decide) (by omega) (by omega) pq_103 pq_104 (by decide) (show (parseMethodDescriptor yJ1_canEncode_fc78d.desc).map (fun d => d.parameters.length) = some 1 from by decide +kernel)) (Nat.le_of_ble_eq_true rfl) rfl ?_
    refine pd_if_eq (tgt := 45) dJ5_append_3fe6f_21 (by decide) (fun hc => ?_) (fun hc => ?_)
    · have hf := pd_ip hf hc
      exact pd_weak (L' := [pd_R x0, pd_I x1]) ⟨Or.inr rfl, Or.inr rfl, trivial⟩ (pkJ5_append_3fe6f_b45 E l _ _ (by omega) (by omega) _ _ _ _ hf)
    · have hf := pd_in_ hf hc
      refine pd_aload_n (i := 0) dJ5_append_3fe6f_24 rfl rfl ?_
      refine pd_get (x := pd_R (F11 x0 0)) 0 dJ5_append_3fe6f_25 (show vwCl[13]? = some (RX13, TX13, 4) from rfl) pin_13 (by decide) pq_35 hg9 rfl ?_
      refine pd_aload_n (i := 0) dJ5_append_3fe6f_28 rfl rfl ?_
      refine pd_dup dJ5_append_3fe6f_29 rfl ?_
      refine pd_get (x := pd_I (F11 x0 3)) 3 dJ5_append_3fe6f_30 (show vwCl[13]? = some (RX13, TX13, 4) from rfl) pin_13 (by decide) pq_28 hg9 rfl ?_
      refine pd_dupx1 dJ5_append_3fe6f_33 rfl rfl ?_
      refine pd_iconst dJ5_append_3fe6f_34 (by decide) ?_
      refine pd_iadd dJ5_append_3fe6f_35 ?_
      refine pd_put (n := (pd_w ((F11 x0 3) + 1))) (x := pd_I (pd_w ((F11 x0 3) + 1))) 3 dJ5_append_3fe6f_36 (show vwCl[13]? = some (RX13, TX13, 4) from rfl) pin_13 tyX13_ok nmX13 (by decide) pq_28 rfl hg9 rfl pd_nrI pd_ftI ?_
      refine pd_topF (fun F13 eF13 => ?_)
      have hf := pd_lt hf eF13
      clear eF13
      refine pd_iload_n (i := 1) dJ5_append_3fe6f_39 rfl rfl ?_
      refine pd_i2b dJ5_append_3fe6f_40 ?_
      obtain ⟨hg14, hf⟩ := pd_ig hf
      refine pd_bast dJ5_append_3fe6f_41 hg14 ?_
      refine pd_topF (fun F15 eF15 => ?_)
      have hf := pd_lt hf eF15
      clear eF15
      refine pd_goto (tgt := 75) dJ5_append_3fe6f_42 (by decide) ?_
      refine pd_aload_n (i := 0) dJ5_append_3fe6f_75 rfl rfl ?_
      obtain ⟨h1, h2, h3⟩ := pd_inj3 hf
      subst h1 h2 h3
      exact pd_aret dJ5_append_3fe6f_76 rfl (by first | exact Or.inl ⟨_, rfl⟩ | exact Or.inr ⟨_, rfl⟩) (by omega) (by omega)
set_option maxHeartbeats 8000000 in
set_option maxRecDepth 100000 in
theorem pkJ5_append_c97b9 (l : Launch) {sh : pd_S} {n : Nat} {F : pd_F} {x0 : Int} {x1 : Int} {ρ : Int} {shz : pd_S} {Fz : pd_F} (hf : pfJ5_append_c97b9 sh n F x0 x1 = some (ρ, shz, Fz)) : pd_C l yJ5_append_c97b9 (Cond.code yJ5_append_c97b9 cJ5_append_c97b9 4 (some (.object "java/lang/AbstractStringBuilder")) :: pd_gt) (pd_rm 4 1 (pd_U * 1)) true 1 (pd_U * 1) sh F [pd_R x0, pd_I x1] (some (pd_R ρ)) shz Fz := by
  unfold pfJ5_append_c97b9 at hf
  have hU : 8 ≤ pd_U := by decide
  refine pd_body (L := [pd_R x0, pd_I x1, pd_N, pd_N]) (by decide +kernel) (Nat.le_of_ble_eq_true rfl) rfl (fun E => ?_)
  refine pd_aload_n (i := 0) dJ5_append_c97b9_0 rfl rfl ?_
  obtain ⟨hg1, hf⟩ := pd_ig hf
  refine pd_get (x := pd_I (F x0 3)) 3 dJ5_append_c97b9_1 (show vwCl[13]? = some (RX13, TX13, 4) from rfl) pin_13 (by decide) pq_28 hg1 rfl ?_
  refine pd_topI (fun x2_4 ex2_4 => ?_)
  have hf := pd_lt hf ex2_4
  clear ex2_4
  refine pd_istore_n (L' := [pd_R x0, pd_I x1, pd_I x2_4, pd_N]) dJ5_append_c97b9_4 rfl (by decide) rfl ?_
  refine pd_iload_n (i := 2) dJ5_append_c97b9_5 rfl rfl ?_
  refine pd_iload_n (i := 1) dJ5_append_c97b9_6 rfl rfl ?_
  obtain ⟨r3, F2, hr, hf⟩ := pd_ob2 hf
  refine pd_callS (pkJ6_stringSize_0f7a4 l hr) dJ5_append_c97b9_7 pq_106 pq_109 (pd_okA (by omega) (by decide) (by omega) (by omega) pq_107 pq_108 (by decide) (show (parseMethodDescriptor yJ6_stringSize_0f7a4.desc).map (fun d => d.parameters.length) = some 1 from by decide +kernel)) (Nat.le_of_ble_eq_true rfl) rfl ?_
  refine pd_iadd dJ5_append_c97b9_10 ?_
  refine pd_topI (fun x3_11 ex3_11 => ?_)
  have hf := pd_lt hf ex3_11
  clear ex3_11
  refine pd_istore_n (L' := [pd_R x0, pd_I x1, pd_I x2_4, pd_I x3_11]) dJ5_append_c97b9_11 rfl (by decide) rfl ?_
  refine pd_aload_n (i := 0) dJ5_append_c97b9_12 rfl rfl ?_
  refine pd_iload_n (i := 3) dJ5_append_c97b9_13 rfl rfl ?_
  obtain ⟨sh5, F4, hr, hf⟩ := pd_ob2 hf
  refine pd_callVC (Cn := RX13) (pkJ5_ensureCapacityInternal_d00df l hr) dJ5_append_c97b9_14 pq_87 pq_90 pq_91 (show vwCl[13]? = some (RX13, TX13, 4) from rfl) hg1 (pd_okA (by omega) (by decide) (by omega) (by omega) pq_88 pq_89 (by decide) (show (parseMethodDescriptor yJ5_ensureCapacityInternal_d00df.desc).map (fun d => d.parameters.length) = some 1 from by decide +kernel)) (Nat.le_of_ble_eq_true rfl) rfl ?_
  refine pd_aload_n (i := 0) dJ5_append_c97b9_17 rfl rfl ?_
  obtain ⟨hg7, hf⟩ := pd_ig hf
  obtain ⟨r8, F6, hr, hf⟩ := pd_ob2 hf
  refine pd_callVC (Cn := RX13) (pkJ5_isLatin1_aae02 l hr) dJ5_append_c97b9_18 pq_97 pq_100 pq_101 (show vwCl[13]? = some (RX13, TX13, 4) from rfl) hg7 (pd_okA (by omega) (by decide) (by omega) (by omega) pq_98 pq_99 (by decide) (show (parseMethodDescriptor yJ5_isLatin1_aae02.desc).map (fun d => d.parameters.length) = some 0 from by decide +kernel)) (Nat.le_of_ble_eq_true rfl) rfl ?_
  refine pd_if_eq (tgt := 37) dJ5_append_c97b9_21 (by decide) (fun hc => ?_) (fun hc => ?_)
  · have hf := pd_ip hf hc
    refine pd_iload_n (i := 1) dJ5_append_c97b9_37 rfl rfl ?_
    refine pd_iload_n (i := 2) dJ5_append_c97b9_38 rfl rfl ?_
    refine pd_iload_n (i := 3) dJ5_append_c97b9_39 rfl rfl ?_
    refine pd_aload_n (i := 0) dJ5_append_c97b9_40 rfl rfl ?_
    refine pd_get (x := pd_R (F6 x0 0)) 0 dJ5_append_c97b9_41 (show vwCl[13]? = some (RX13, TX13, 4) from rfl) pin_13 (by decide) pq_35 hg7 rfl ?_
    exact absurd hf (fun h => nomatch h)
  · have hf := pd_in_ hf hc
    refine pd_iload_n (i := 1) dJ5_append_c97b9_24 rfl rfl ?_
    refine pd_iload_n (i := 3) dJ5_append_c97b9_25 rfl rfl ?_
    refine pd_aload_n (i := 0) dJ5_append_c97b9_26 rfl rfl ?_
    refine pd_get (x := pd_R (F6 x0 0)) 0 dJ5_append_c97b9_27 (show vwCl[13]? = some (RX13, TX13, 4) from rfl) pin_13 (by decide) pq_35 hg7 rfl ?_
    obtain ⟨r10, F9, hr, hf⟩ := pd_ob2 hf
    refine pd_callS (pkJ6_getChars_ba4f3 l hr) dJ5_append_c97b9_30 pq_110 pq_113 (pd_okA (by omega) (by decide) (by omega) (by omega) pq_111 pq_112 (by decide) (show (parseMethodDescriptor yJ6_getChars_ba4f3.desc).map (fun d => d.parameters.length) = some 3 from by decide +kernel)) (Nat.le_of_ble_eq_true rfl) rfl ?_
    refine pd_pop dJ5_append_c97b9_33 rfl ?_
    refine pd_goto (tgt := 48) dJ5_append_c97b9_34 (by decide) ?_
    refine pd_aload_n (i := 0) dJ5_append_c97b9_48 rfl rfl ?_
    refine pd_iload_n (i := 3) dJ5_append_c97b9_49 rfl rfl ?_
    refine pd_put (n := x3_11) (x := pd_I x3_11) 3 dJ5_append_c97b9_50 (show vwCl[13]? = some (RX13, TX13, 4) from rfl) pin_13 tyX13_ok nmX13 (by decide) pq_28 rfl hg7 rfl pd_nrI pd_ftI ?_
    refine pd_topF (fun F11 eF11 => ?_)
    have hf := pd_lt hf eF11
    clear eF11
    refine pd_aload_n (i := 0) dJ5_append_c97b9_53 rfl rfl ?_
    obtain ⟨h1, h2, h3⟩ := pd_inj3 hf
    subst h1 h2 h3
    exact pd_aret dJ5_append_c97b9_54 rfl (by first | exact Or.inl ⟨_, rfl⟩ | exact Or.inr ⟨_, rfl⟩) (by omega) (by omega)
set_option maxHeartbeats 8000000 in
set_option maxRecDepth 100000 in
theorem pkJ4_append_15ec4 (l : Launch) {sh : pd_S} {n : Nat} {F : pd_F} {x0 : Int} {x1 : Int} {ρ : Int} {shz : pd_S} {Fz : pd_F} (hf : pfJ4_append_15ec4 sh n F x0 x1 = some (ρ, shz, Fz)) : pd_C l yJ4_append_15ec4 (Cond.code yJ4_append_15ec4 cJ4_append_15ec4 2 (some (.object "java/lang/StringBuilder")) :: pd_gt) (pd_rm 5 1 (pd_U * 1)) true 1 (pd_U * 1) sh F [pd_R x0, pd_R x1] (some (pd_R ρ)) shz Fz := by
  unfold pfJ4_append_15ec4 at hf
  have hU : 8 ≤ pd_U := by decide
  refine pd_body (L := [pd_R x0, pd_R x1]) (by decide +kernel) (Nat.le_of_ble_eq_true rfl) rfl (fun E => ?_)
  refine pd_aload_n (i := 0) dJ4_append_15ec4_0 rfl rfl ?_
  refine pd_aload_n (i := 1) dJ4_append_15ec4_1 rfl rfl ?_
  obtain ⟨hg2, hf⟩ := pd_ig hf
  obtain ⟨r4, sh3, F1, hr, hf⟩ := pd_ob3 hf
  refine pd_callSU (Cn := RX13) (pkJ5_append_cf1ce l hr) dJ4_append_15ec4_2 pq_114 pq_117 pq_118 pq_119 (by decide) (show vwCl[13]? = some (RX13, TX13, 4) from rfl) hg2 (pd_okA (by omega) (by decide) (by omega) (by omega) pq_115 pq_116 (by decide) (show (parseMethodDescriptor yJ5_append_cf1ce.desc).map (fun d => d.parameters.length) = some 1 from by decide +kernel)) (Nat.le_of_ble_eq_true rfl) rfl ?_
  refine pd_pop dJ4_append_15ec4_5 rfl ?_
  refine pd_aload_n (i := 0) dJ4_append_15ec4_6 rfl rfl ?_
  obtain ⟨h1, h2, h3⟩ := pd_inj3 hf
  subst h1 h2 h3
  exact pd_aret dJ4_append_15ec4_7 rfl (by first | exact Or.inl ⟨_, rfl⟩ | exact Or.inr ⟨_, rfl⟩) (by omega) (by omega)
set_option maxHeartbeats 8000000 in
set_option maxRecDepth 100000 in
theorem pkJ4_append_cf468 (l : Launch) {sh : pd_S} {n : Nat} {F : pd_F} {x0 : Int} {x1 : Int} {ρ : Int} {shz : pd_S} {Fz : pd_F} (hf : pfJ4_append_cf468 sh n F x0 x1 = some (ρ, shz, Fz)) : pd_C l yJ4_append_cf468 (Cond.code yJ4_append_cf468 cJ4_append_cf468 2 (some (.object "java/lang/StringBuilder")) :: pd_gt) (pd_rm 5 1 (pd_U * 1)) true 1 (pd_U * 1) sh F [pd_R x0, pd_I x1] (some (pd_R ρ)) shz Fz := by
  unfold pfJ4_append_cf468 at hf
  have hU : 8 ≤ pd_U := by decide
  refine pd_body (L := [pd_R x0, pd_I x1]) (by decide +kernel) (Nat.le_of_ble_eq_true rfl) rfl (fun E => ?_)
  refine pd_aload_n (i := 0) dJ4_append_cf468_0 rfl rfl ?_
  refine pd_iload_n (i := 1) dJ4_append_cf468_1 rfl rfl ?_
  obtain ⟨hg2, hf⟩ := pd_ig hf
  obtain ⟨r4, sh3, F1, hr, hf⟩ := pd_ob3 hf
  refine pd_callSU (Cn := RX13) (pkJ5_append_3fe6f l hr) dJ4_append_cf468_2 pq_120 pq_123 pq_124 pq_125 (by decide) (show vwCl[13]? = some (RX13, TX13, 4) from rfl) hg2 (pd_okA (by omega) (by decide) (by omega) (by omega) pq_121 pq_122 (by decide) (show (parseMethodDescriptor yJ5_append_3fe6f.desc).map (fun d => d.parameters.length) = some 1 from by decide +kernel)) (Nat.le_of_ble_eq_true rfl) rfl ?_
  refine pd_pop dJ4_append_cf468_5 rfl ?_
  refine pd_aload_n (i := 0) dJ4_append_cf468_6 rfl rfl ?_
  obtain ⟨h1, h2, h3⟩ := pd_inj3 hf
  subst h1 h2 h3
  exact pd_aret dJ4_append_cf468_7 rfl (by first | exact Or.inl ⟨_, rfl⟩ | exact Or.inr ⟨_, rfl⟩) (by omega) (by omega)
set_option maxHeartbeats 8000000 in
set_option maxRecDepth 100000 in
theorem pkJ4_append_bf812 (l : Launch) {sh : pd_S} {n : Nat} {F : pd_F} {x0 : Int} {x1 : Int} {ρ : Int} {shz : pd_S} {Fz : pd_F} (hf : pfJ4_append_bf812 sh n F x0 x1 = some (ρ, shz, Fz)) : pd_C l yJ4_append_bf812 (Cond.code yJ4_append_bf812 cJ4_append_bf812 2 (some (.object "java/lang/StringBuilder")) :: pd_gt) (pd_rm 5 1 (pd_U * 1)) true 1 (pd_U * 1) sh F [pd_R x0, pd_I x1] (some (pd_R ρ)) shz Fz := by
  unfold pfJ4_append_bf812 at hf
  have hU : 8 ≤ pd_U := by decide
  refine pd_body (L := [pd_R x0, pd_I x1]) (by decide +kernel) (Nat.le_of_ble_eq_true rfl) rfl (fun E => ?_)
  refine pd_aload_n (i := 0) dJ4_append_bf812_0 rfl rfl ?_
  refine pd_iload_n (i := 1) dJ4_append_bf812_1 rfl rfl ?_
  obtain ⟨hg2, hf⟩ := pd_ig hf
  obtain ⟨r4, sh3, F1, hr, hf⟩ := pd_ob3 hf
  refine pd_callSU (Cn := RX13) (pkJ5_append_c97b9 l hr) dJ4_append_bf812_2 pq_126 pq_129 pq_130 pq_131 (by decide) (show vwCl[13]? = some (RX13, TX13, 4) from rfl) hg2 (pd_okA (by omega) (by decide) (by omega) (by omega) pq_127 pq_128 (by decide) (show (parseMethodDescriptor yJ5_append_c97b9.desc).map (fun d => d.parameters.length) = some 1 from by decide +kernel)) (Nat.le_of_ble_eq_true rfl) rfl ?_
  refine pd_pop dJ4_append_bf812_5 rfl ?_
  refine pd_aload_n (i := 0) dJ4_append_bf812_6 rfl rfl ?_
  obtain ⟨h1, h2, h3⟩ := pd_inj3 hf
  subst h1 h2 h3
  exact pd_aret dJ4_append_bf812_7 rfl (by first | exact Or.inl ⟨_, rfl⟩ | exact Or.inr ⟨_, rfl⟩) (by omega) (by omega)
set_option maxHeartbeats 8000000 in
set_option maxRecDepth 100000 in
theorem pkJ7_copyOfRangeByte_39247 (l : Launch) {sh : pd_S} {n : Nat} {F : pd_F} {x0 : Int} {x1 : Int} {x2 : Int} {ρ : Int} {shz : pd_S} {Fz : pd_F} (hf : pfJ7_copyOfRangeByte_39247 sh n F x0 x1 x2 = some (ρ, shz, Fz)) : pd_C l yJ7_copyOfRangeByte_39247 (Cond.code yJ7_copyOfRangeByte_39247 cJ7_copyOfRangeByte_39247 5 (some (.array .byte)) :: pd_gt) (pd_rm 2 1 (pd_U * 1)) true 1 (pd_U * 1) sh F [pd_R x0, pd_I x1, pd_I x2] (some (pd_R ρ)) shz Fz := by
  unfold pfJ7_copyOfRangeByte_39247 at hf
  have hU : 8 ≤ pd_U := by decide
  refine pd_body (L := [pd_R x0, pd_I x1, pd_I x2, pd_N, pd_N]) (by decide +kernel) (Nat.le_of_ble_eq_true rfl) rfl (fun E => ?_)
  refine pd_iload_n (i := 1) dJ7_copyOfRangeByte_39247_0 rfl rfl ?_
  refine pd_iload_n (i := 2) dJ7_copyOfRangeByte_39247_1 rfl rfl ?_
  obtain ⟨F1, hr, hf⟩ := pd_ob1 hf
  refine pd_callS (pkJ7_checkLength_df160 l hr) dJ7_copyOfRangeByte_39247_2 pq_132 pq_135 (pd_okA (by omega) (by decide) (by omega) (by omega) pq_133 pq_134 (by decide) (show (parseMethodDescriptor yJ7_checkLength_df160.desc).map (fun d => d.parameters.length) = some 2 from by decide +kernel)) (Nat.le_of_ble_eq_true rfl) rfl ?_
  refine pd_iload_n (i := 2) dJ7_copyOfRangeByte_39247_5 rfl rfl ?_
  refine pd_iload_n (i := 1) dJ7_copyOfRangeByte_39247_6 rfl rfl ?_
  refine pd_isub dJ7_copyOfRangeByte_39247_7 ?_
  refine pd_topI (fun x3_8 ex3_8 => ?_)
  have hf := pd_lt hf ex3_8
  clear ex3_8
  refine pd_istore_n (L' := [pd_R x0, pd_I x1, pd_I x2, pd_I x3_8, pd_N]) dJ7_copyOfRangeByte_39247_8 rfl (by decide) rfl ?_
  refine pd_iload_n (i := 3) dJ7_copyOfRangeByte_39247_9 rfl rfl ?_
  obtain ⟨hg5, hf⟩ := pd_ig hf
  have hg5U : Int.toNat x3_8 ≤ pd_U := by unfold pd_U; omega
  refine pd_newB (N := Int.toNat x3_8) dJ7_copyOfRangeByte_39247_10 pq_61 (by omega) (by omega) ⟨by show _ ≤ 1; omega, by show _ ≤ pd_U * 1; omega⟩ ?_
  refine pd_topR (fun o4 eo4 => ?_)
  have hf := pd_lt hf eo4
  refine pd_topF (fun F3 eF3 => ?_)
  have hf := pd_lt hf eF3
  refine pd_topS (fun sh2 esh2 => ?_)
  have hf := pd_lt hf esh2
  clear esh2 eF3 eo4
  obtain ⟨hg6, hf⟩ := pd_ig hf
  refine pd_astore (L' := [pd_R x0, pd_I x1, pd_I x2, pd_I x3_8, pd_R o4]) dJ7_copyOfRangeByte_39247_12 (by decide) hg6 rfl ?_
  refine pd_aload_n (i := 0) dJ7_copyOfRangeByte_39247_14 rfl rfl ?_
  refine pd_iload_n (i := 1) dJ7_copyOfRangeByte_39247_15 rfl rfl ?_
  refine pd_aload (i := 4) dJ7_copyOfRangeByte_39247_16 rfl ?_
  refine pd_iconst dJ7_copyOfRangeByte_39247_18 (by decide) ?_
  refine pd_aload_n (i := 0) dJ7_copyOfRangeByte_39247_19 rfl rfl ?_
  obtain ⟨hg7, hf⟩ := pd_ig hf
  refine pd_alen dJ7_copyOfRangeByte_39247_20 (by decide) hg7 ?_
  refine pd_iload_n (i := 1) dJ7_copyOfRangeByte_39247_21 rfl rfl ?_
  refine pd_isub dJ7_copyOfRangeByte_39247_22 ?_
  refine pd_iload_n (i := 3) dJ7_copyOfRangeByte_39247_23 rfl rfl ?_
  refine pd_mmin dJ7_copyOfRangeByte_39247_24 pq_62 pq_63 pq_40 pq_64 ⟨by show 1 ≤ 2; omega, by show 64 ≤ 64 * 2; omega, by show _ ≤ 1; omega, by show _ ≤ pd_U * 1; omega⟩ (Nat.le_of_ble_eq_true rfl) ?_
  obtain ⟨hg8, hf⟩ := pd_ig hf
  obtain ⟨hg9, hf⟩ := pd_ig hf
  refine pd_copyk (kk := 1) dJ7_copyOfRangeByte_39247_27 pq_65 pq_25 pq_26 pq_27 pd_rmR2 (Nat.le_of_ble_eq_true rfl) hg8 (Or.inr ⟨rfl, hg9⟩) ?_
  refine pd_topF (fun F10 eF10 => ?_)
  have hf := pd_lt hf eF10
  clear eF10
  refine pd_aload (i := 4) dJ7_copyOfRangeByte_39247_30 rfl ?_
  obtain ⟨h1, h2, h3⟩ := pd_inj3 hf
  subst h1 h2 h3
  exact pd_aret dJ7_copyOfRangeByte_39247_32 rfl (by first | exact Or.inl ⟨_, rfl⟩ | exact Or.inr ⟨_, rfl⟩) (by omega) (by omega)
set_option maxHeartbeats 8000000 in
set_option maxRecDepth 100000 in
theorem pkJ7_copyOfRange_39247_b10 (E : pd_E) (l : Launch) {n : Nat} {shz : pd_S} {ρ : Int} {Fz : pd_F}  (cells slots : Nat) (hc0 : cells + 1 ≤ 1) (hs0 : slots + pd_U * 1 ≤ pd_U * 1) (sh : pd_S) (F : pd_F) (x0 : Int) (x1 : Int) (x2 : Int) (hf : pfJ7_copyOfRange_39247_b10 n  sh F x0 x1 x2 = some (ρ, shz, Fz)) : pd_V E l (pd_rm 3 1 (pd_U * 1)) (RJ7, cJ7_copyOfRange_39247, 3, (some (.array .byte)), "copyOfRange") (pd_Qm E true (some (pd_R ρ)) shz Fz 1 (pd_U * 1)) true cells slots sh F 10 [pd_R x0, pd_I x1, pd_I x2] [] := by
  unfold pfJ7_copyOfRange_39247_b10 at hf
  have hU : 8 ≤ pd_U := by decide
  refine pd_aload_n (i := 0) dJ7_copyOfRange_39247_10 rfl rfl ?_
  refine pd_iload_n (i := 1) dJ7_copyOfRange_39247_11 rfl rfl ?_
  refine pd_iload_n (i := 2) dJ7_copyOfRange_39247_12 rfl rfl ?_
  obtain ⟨r3, sh2, F1, hr, hf⟩ := pd_ob3 hf
  refine pd_callS (pkJ7_copyOfRangeByte_39247 l hr) dJ7_copyOfRange_39247_13 pq_136 pq_139 (pd_okA (by omega) (by decide) (by omega) (by omega) pq_137 pq_138 (by decide) (show (parseMethodDescriptor yJ7_copyOfRangeByte_39247.desc).map (fun d => d.parameters.length) = some 3 from by decide +kernel)) (Nat.le_of_ble_eq_true rfl) rfl ?_
  obtain ⟨h1, h2, h3⟩ := pd_inj3 hf
  subst h1 h2 h3
  exact pd_aret dJ7_copyOfRange_39247_16 rfl (by first | exact Or.inl ⟨_, rfl⟩ | exact Or.inr ⟨_, rfl⟩) (by omega) (by omega)
set_option maxHeartbeats 8000000 in
set_option maxRecDepth 100000 in
theorem pkJ7_copyOfRange_39247 (l : Launch) {sh : pd_S} {n : Nat} {F : pd_F} {x0 : Int} {x1 : Int} {x2 : Int} {ρ : Int} {shz : pd_S} {Fz : pd_F} (hf : pfJ7_copyOfRange_39247 sh n F x0 x1 x2 = some (ρ, shz, Fz)) : pd_C l yJ7_copyOfRange_39247 (Cond.code yJ7_copyOfRange_39247 cJ7_copyOfRange_39247 3 (some (.array .byte)) :: pd_gt) (pd_rm 3 1 (pd_U * 1)) true 1 (pd_U * 1) sh F [pd_R x0, pd_I x1, pd_I x2] (some (pd_R ρ)) shz Fz := by
  unfold pfJ7_copyOfRange_39247 at hf
  have hU : 8 ≤ pd_U := by decide
  refine pd_body (L := [pd_R x0, pd_I x1, pd_I x2]) (by decide +kernel) (Nat.le_of_ble_eq_true rfl) rfl (fun E => ?_)
  refine pd_iload_n (i := 1) dJ7_copyOfRange_39247_0 rfl rfl ?_
  refine pd_if_ne (tgt := 10) dJ7_copyOfRange_39247_1 (by decide) (fun hc => ?_) (fun hc => ?_)
  · have hf := pd_ip hf hc
    exact pd_weak (L' := [pd_R x0, pd_I x1, pd_I x2]) ⟨Or.inr rfl, Or.inr rfl, Or.inr rfl, trivial⟩ (pkJ7_copyOfRange_39247_b10 E l _ _ (by omega) (by omega) _ _ _ _ _ hf)
  · have hf := pd_iq hf hc
    refine pd_iload_n (i := 2) dJ7_copyOfRange_39247_4 rfl rfl ?_
    refine pd_aload_n (i := 0) dJ7_copyOfRange_39247_5 rfl rfl ?_
    obtain ⟨hg4, hf⟩ := pd_ig hf
    refine pd_alen dJ7_copyOfRange_39247_6 (by decide) hg4 ?_
    refine pd_icmp_eq (tgt := 17) dJ7_copyOfRange_39247_7 (by decide) (fun hc => ?_) (fun hc => ?_)
    · have hf := pd_ip hf hc
      refine pd_aload_n (i := 0) dJ7_copyOfRange_39247_17 rfl rfl ?_
      obtain ⟨hg8, hf⟩ := pd_ig hf
      have hg8U : Int.toNat (pd_ln sh 0 1 x0) ≤ pd_U := by unfold pd_U; omega
      obtain ⟨hg9, hf⟩ := pd_ig hf
      refine pd_cloneB dJ7_copyOfRange_39247_18 hg8.1 (by omega) hg9 ⟨by show _ ≤ 1; omega, by show _ ≤ pd_U * 1; omega, by show 1 ≤ 3; omega, by show 64 ≤ 64 * 3; omega⟩ (Nat.le_of_ble_eq_true rfl) ?_
      refine pd_topR (fun o7 eo7 => ?_)
      have hf := pd_lt hf eo7
      refine pd_topF (fun F6 eF6 => ?_)
      have hf := pd_lt hf eF6
      refine pd_topS (fun sh5 esh5 => ?_)
      have hf := pd_lt hf esh5
      clear esh5 eF6 eo7
      obtain ⟨hg10, hf⟩ := pd_ig hf
      refine pd_castB dJ7_copyOfRange_39247_21 pq_140 hg10 ?_
      obtain ⟨h1, h2, h3⟩ := pd_inj3 hf
      subst h1 h2 h3
      exact pd_aret dJ7_copyOfRange_39247_24 rfl (by first | exact Or.inl ⟨_, rfl⟩ | exact Or.inr ⟨_, rfl⟩) (by omega) (by omega)
    · have hf := pd_in_ hf hc
      exact pd_weak (L' := [pd_R x0, pd_I x1, pd_I x2]) ⟨Or.inr rfl, Or.inr rfl, Or.inr rfl, trivial⟩ (pkJ7_copyOfRange_39247_b10 E l _ _ (by omega) (by omega) _ _ _ _ _ hf)
set_option maxHeartbeats 8000000 in
set_option maxRecDepth 100000 in
theorem pkJ0_init_db425_b79 (E : pd_E) (l : Launch) {n : Nat} {shz : pd_S} {Fz : pd_F}  (cells slots : Nat) (hc0 : cells + 1 ≤ 1) (hs0 : slots + pd_U * 1 ≤ pd_U * 1) (sh : pd_S) (F : pd_F) (x0 : Int) (x3 : Int) (x4 : Int) (hf : pfJ0_init_db425_b79 n  sh F x0 x3 x4 = some (shz, Fz)) : pd_V E l (pd_rm 4 1 (pd_U * 1)) (RJ0, cJ0_init_db425, 5, none, "<init>") (pd_Qm E true none shz Fz 1 (pd_U * 1)) true cells slots sh F 79 [pd_R x0, pd_N, pd_N, pd_R x3, pd_I x4] [] := by
  unfold pfJ0_init_db425_b79 at hf
  have hU : 8 ≤ pd_U := by decide
  refine pd_aload_n (i := 0) dJ0_init_db425_79 rfl rfl ?_
  refine pd_iconst dJ0_init_db425_80 (by decide) ?_
  obtain ⟨hg1, hf⟩ := pd_ig hf
  refine pd_putF (n := 1) (x := pd_I 1) 1 dJ0_init_db425_81 (show vwCl[12]? = some (RX12, TX12, 4) from rfl) pin_12 tyX12_ok nmX12 (by decide) pq_4 rfl rfl rfl hg1 rfl (pd_nrB (by decide)) (pd_ftB (by decide)) ?_
  refine pd_topF (fun F2 eF2 => ?_)
  have hf := pd_lt hf eF2
  clear eF2
  refine pd_aload_n (i := 0) dJ0_init_db425_84 rfl rfl ?_
  refine pd_aload_n (i := 3) dJ0_init_db425_85 rfl rfl ?_
  refine pd_iconst dJ0_init_db425_86 (by decide) ?_
  refine pd_iload (i := 4) dJ0_init_db425_87 rfl ?_
  refine pd_iconst dJ0_init_db425_89 (by decide) ?_
  refine pd_ishl dJ0_init_db425_90 ?_
  obtain ⟨r5, sh4, F3, hr, hf⟩ := pd_ob3 hf
  refine pd_callS (pkJ7_copyOfRange_39247 l hr) dJ0_init_db425_91 pq_141 pq_144 (pd_okA (by omega) (by decide) (by omega) (by omega) pq_142 pq_143 (by decide) (show (parseMethodDescriptor yJ7_copyOfRange_39247.desc).map (fun d => d.parameters.length) = some 3 from by decide +kernel)) (Nat.le_of_ble_eq_true rfl) rfl ?_
  obtain ⟨hg6, hf⟩ := pd_ig hf
  refine pd_putF (n := r5) (x := pd_R r5) 0 dJ0_init_db425_94 (show vwCl[12]? = some (RX12, TX12, 4) from rfl) pin_12 tyX12_ok nmX12 (by decide) pq_5 rfl rfl rfl hg6 rfl (pd_nrR (Or.inr ⟨_, rfl⟩)) (pd_ftR (Or.inr ⟨_, rfl⟩)) ?_
  refine pd_topF (fun F7 eF7 => ?_)
  have hf := pd_lt hf eF7
  clear eF7
  obtain ⟨h1, h2⟩ := pd_inj hf
  subst h1 h2
  exact pd_vret dJ0_init_db425_97 rfl (by omega) (by omega)
set_option maxHeartbeats 8000000 in
set_option maxRecDepth 100000 in
theorem pkJ0_init_db425 (l : Launch) {sh : pd_S} {n : Nat} {F : pd_F} {x0 : Int} {x1 : Int} {x2 : Int} {shz : pd_S} {Fz : pd_F} (hf : pfJ0_init_db425 sh n F x0 x1 x2 = some (shz, Fz)) : pd_C l yJ0_init_db425 (Cond.code yJ0_init_db425 cJ0_init_db425 5 none :: pd_gt) (pd_rm 4 1 (pd_U * 1)) true 1 (pd_U * 1) sh F [pd_R x0, pd_R x1, pd_R x2] none shz Fz := by
  unfold pfJ0_init_db425 at hf
  have hU : 8 ≤ pd_U := by decide
  refine pd_body (L := [pd_R x0, pd_R x1, pd_R x2, pd_N, pd_N]) (by decide +kernel) (Nat.le_of_ble_eq_true rfl) rfl (fun E => ?_)
  refine pd_aload_n (i := 0) dJ0_init_db425_0 rfl rfl ?_
  obtain ⟨hg8, hf⟩ := pd_ig hf
  refine pd_oinit dJ0_init_db425_1 pq_145 pq_76 pq_77 hg8 pd_rmR2 (Nat.le_of_ble_eq_true rfl) ?_
  refine pd_aload_n (i := 1) dJ0_init_db425_4 rfl rfl ?_
  obtain ⟨hg10, hf⟩ := pd_ig hf
  obtain ⟨r11, F9, hr, hf⟩ := pd_ob2 hf
  refine pd_callVC (Cn := RX13) (pkJ5_getValue_6d5f1 l hr) dJ0_init_db425_5 pq_146 pq_149 pq_150 (show vwCl[13]? = some (RX13, TX13, 4) from rfl) hg10 (pd_okA (by omega) (by decide) (by omega) (by omega) pq_147 pq_148 (by decide) (show (parseMethodDescriptor yJ5_getValue_6d5f1.desc).map (fun d => d.parameters.length) = some 0 from by decide +kernel)) (Nat.le_of_ble_eq_true rfl) rfl ?_
  obtain ⟨hg12, hf⟩ := pd_ig hf
  refine pd_astore_n (L' := [pd_R x0, pd_R x1, pd_R x2, pd_R r11, pd_N]) dJ0_init_db425_8 rfl (by decide) hg12 rfl ?_
  refine pd_aload_n (i := 1) dJ0_init_db425_9 rfl rfl ?_
  obtain ⟨r14, F13, hr, hf⟩ := pd_ob2 hf
  refine pd_callVO (Cn := RX13) (x := yJ5_length_8abf5) (pkJ4_length_8abf5 l hr) dJ0_init_db425_10 pq_151 pq_33 pq_32 pq_30 (by decide) rfl pq_154 pq_155 (show vwCl[13]? = some (RX13, TX13, 4) from rfl) hg10 (pd_okA (by omega) (by decide) (by omega) (by omega) pq_152 pq_153 (by decide) (show (parseMethodDescriptor yJ4_length_8abf5.desc).map (fun d => d.parameters.length) = some 0 from by decide +kernel)) (Nat.le_of_ble_eq_true rfl) rfl ?_
  refine pd_istore (L' := [pd_R x0, pd_R x1, pd_R x2, pd_R r11, pd_I r14]) dJ0_init_db425_13 (by decide) rfl ?_
  refine pd_aload_n (i := 1) dJ0_init_db425_15 rfl rfl ?_
  obtain ⟨r16, F15, hr, hf⟩ := pd_ob2 hf
  refine pd_callVC (Cn := RX13) (pkJ5_isLatin1_aae02 l hr) dJ0_init_db425_16 pq_156 pq_100 pq_101 (show vwCl[13]? = some (RX13, TX13, 4) from rfl) hg10 (pd_okA (by omega) (by decide) (by omega) (by omega) pq_98 pq_99 (by decide) (show (parseMethodDescriptor yJ5_isLatin1_aae02.desc).map (fun d => d.parameters.length) = some 0 from by decide +kernel)) (Nat.le_of_ble_eq_true rfl) rfl ?_
  refine pd_if_eq (tgt := 41) dJ0_init_db425_19 (by decide) (fun hc => ?_) (fun hc => ?_)
  · have hf := pd_ip hf hc
    refine pd_gsC dJ0_init_db425_41 pq_3 ?_
    refine pd_if_eq (tgt := 79) dJ0_init_db425_44 (by decide) (fun hc => ?_) (fun hc => ?_)
    · have hf := pd_ip hf hc
      exact pd_weak (L' := [pd_R x0, pd_N, pd_N, pd_R r11, pd_I r14]) ⟨Or.inr rfl, Or.inl rfl, Or.inl rfl, Or.inr rfl, Or.inr rfl, trivial⟩ (pkJ0_init_db425_b79 E l _ _ (by omega) (by omega) _ _ _ _ _ hf)
    · have hf := pd_in_ hf hc
      refine pd_aload_n (i := 1) dJ0_init_db425_47 rfl rfl ?_
      refine pd_get (x := pd_I (F15 x1 2)) 2 dJ0_init_db425_48 (show vwCl[13]? = some (RX13, TX13, 4) from rfl) pin_13 (by decide) pq_157 hg10 rfl ?_
      refine pd_if_eq (tgt := 79) dJ0_init_db425_51 (by decide) (fun hc => ?_) (fun hc => ?_)
      · have hf := pd_ip hf hc
        exact pd_weak (L' := [pd_R x0, pd_N, pd_N, pd_R r11, pd_I r14]) ⟨Or.inr rfl, Or.inl rfl, Or.inl rfl, Or.inr rfl, Or.inr rfl, trivial⟩ (pkJ0_init_db425_b79 E l _ _ (by omega) (by omega) _ _ _ _ _ hf)
      · have hf := pd_in_ hf hc
        refine pd_aload_n (i := 0) dJ0_init_db425_54 rfl rfl ?_
        refine pd_aload_n (i := 3) dJ0_init_db425_55 rfl rfl ?_
        refine pd_iconst dJ0_init_db425_56 (by decide) ?_
        refine pd_iload (i := 4) dJ0_init_db425_57 rfl ?_
        exact absurd hf (fun h => nomatch h)
  · have hf := pd_in_ hf hc
    refine pd_aload_n (i := 0) dJ0_init_db425_22 rfl rfl ?_
    refine pd_iconst dJ0_init_db425_23 (by decide) ?_
    obtain ⟨hg17, hf⟩ := pd_ig hf
    refine pd_putF (n := 0) (x := pd_I 0) 1 dJ0_init_db425_24 (show vwCl[12]? = some (RX12, TX12, 4) from rfl) pin_12 tyX12_ok nmX12 (by decide) pq_4 rfl rfl rfl hg17 rfl (pd_nrB (by decide)) (pd_ftB (by decide)) ?_
    refine pd_topF (fun F18 eF18 => ?_)
    have hf := pd_lt hf eF18
    clear eF18
    refine pd_aload_n (i := 0) dJ0_init_db425_27 rfl rfl ?_
    refine pd_aload_n (i := 3) dJ0_init_db425_28 rfl rfl ?_
    refine pd_iconst dJ0_init_db425_29 (by decide) ?_
    refine pd_iload (i := 4) dJ0_init_db425_30 rfl ?_
    obtain ⟨r21, sh20, F19, hr, hf⟩ := pd_ob3 hf
    refine pd_callS (pkJ7_copyOfRange_39247 l hr) dJ0_init_db425_32 pq_141 pq_144 (pd_okA (by omega) (by decide) (by omega) (by omega) pq_142 pq_143 (by decide) (show (parseMethodDescriptor yJ7_copyOfRange_39247.desc).map (fun d => d.parameters.length) = some 3 from by decide +kernel)) (Nat.le_of_ble_eq_true rfl) rfl ?_
    obtain ⟨hg22, hf⟩ := pd_ig hf
    refine pd_putF (n := r21) (x := pd_R r21) 0 dJ0_init_db425_35 (show vwCl[12]? = some (RX12, TX12, 4) from rfl) pin_12 tyX12_ok nmX12 (by decide) pq_5 rfl rfl rfl hg22 rfl (pd_nrR (Or.inr ⟨_, rfl⟩)) (pd_ftR (Or.inr ⟨_, rfl⟩)) ?_
    refine pd_topF (fun F23 eF23 => ?_)
    have hf := pd_lt hf eF23
    clear eF23
    refine pd_goto (tgt := 97) dJ0_init_db425_38 (by decide) ?_
    obtain ⟨h1, h2⟩ := pd_inj hf
    subst h1 h2
    exact pd_vret dJ0_init_db425_97 rfl (by omega) (by omega)
set_option maxHeartbeats 8000000 in
set_option maxRecDepth 100000 in
theorem pkJ0_init_81219 (l : Launch) {sh : pd_S} {n : Nat} {F : pd_F} {x0 : Int} {x1 : Int} {shz : pd_S} {Fz : pd_F} (hf : pfJ0_init_81219 sh n F x0 x1 = some (shz, Fz)) : pd_C l yJ0_init_81219 (Cond.code yJ0_init_81219 cJ0_init_81219 2 none :: pd_gt) (pd_rm 5 1 (pd_U * 1)) true 1 (pd_U * 1) sh F [pd_R x0, pd_R x1] none shz Fz := by
  unfold pfJ0_init_81219 at hf
  have hU : 8 ≤ pd_U := by decide
  refine pd_body (L := [pd_R x0, pd_R x1]) (by decide +kernel) (Nat.le_of_ble_eq_true rfl) rfl (fun E => ?_)
  refine pd_aload_n (i := 0) dJ0_init_81219_0 rfl rfl ?_
  refine pd_aload_n (i := 1) dJ0_init_81219_1 rfl rfl ?_
  refine pd_null dJ0_init_81219_2 ?_
  obtain ⟨hg2, hf⟩ := pd_ig hf
  obtain ⟨sh3, F1, hr, hf⟩ := pd_ob2 hf
  refine pd_callI (pkJ0_init_db425 l hr) dJ0_init_81219_3 pq_158 pq_161 rfl hg2 (pd_okA (by omega) (by decide) (by omega) (by omega) pq_159 pq_160 (by decide) (show (parseMethodDescriptor yJ0_init_db425.desc).map (fun d => d.parameters.length) = some 2 from by decide +kernel)) (Nat.le_of_ble_eq_true rfl) rfl ?_
  obtain ⟨h1, h2⟩ := pd_inj hf
  subst h1 h2
  exact pd_vret dJ0_init_81219_6 rfl (by omega) (by omega)
set_option maxHeartbeats 8000000 in
set_option maxRecDepth 100000 in
theorem pkJ4_toString_0e30d (l : Launch) {sh : pd_S} {n : Nat} {F : pd_F} {x0 : Int} {ρ : Int} {shz : pd_S} {Fz : pd_F} (hf : pfJ4_toString_0e30d sh n F x0 = some (ρ, shz, Fz)) : pd_C l yJ4_toString_0e30d (Cond.code yJ4_toString_0e30d cJ4_toString_0e30d 1 (some (.object "java/lang/String")) :: pd_gt) (pd_rm 6 2 (pd_U * 2)) true 2 (pd_U * 2) sh F [pd_R x0] (some (pd_R ρ)) shz Fz := by
  unfold pfJ4_toString_0e30d at hf
  have hU : 8 ≤ pd_U := by decide
  refine pd_body (L := [pd_R x0]) (by decide +kernel) (Nat.le_of_ble_eq_true rfl) rfl (fun E => ?_)
  refine pd_new dJ4_toString_0e30d_0 (show vwCl[12]? = some (RX12, TX12, 4) from rfl) pin_12 tyX12_ok pq_162 pq_163 pq_164 (by decide) ⟨by show _ ≤ 2; omega, by show _ ≤ pd_U * 2; omega⟩ ?_
  refine pd_topR (fun o3 eo3 => ?_)
  have hf := pd_lt hf eo3
  refine pd_topF (fun F2 eF2 => ?_)
  have hf := pd_lt hf eF2
  refine pd_topS (fun sh1 esh1 => ?_)
  have hf := pd_lt hf esh1
  clear esh1 eF2 eo3
  refine pd_dup dJ4_toString_0e30d_3 rfl ?_
  refine pd_aload_n (i := 0) dJ4_toString_0e30d_4 rfl rfl ?_
  obtain ⟨hg5, hf⟩ := pd_ig hf
  obtain ⟨sh6, F4, hr, hf⟩ := pd_ob2 hf
  refine pd_callI (pkJ0_init_81219 l hr) dJ4_toString_0e30d_5 pq_165 pq_168 rfl hg5 (pd_okA (by omega) (by decide) (by omega) (by omega) pq_166 pq_167 (by decide) (show (parseMethodDescriptor yJ0_init_81219.desc).map (fun d => d.parameters.length) = some 1 from by decide +kernel)) (Nat.le_of_ble_eq_true rfl) rfl ?_
  obtain ⟨h1, h2, h3⟩ := pd_inj3 hf
  subst h1 h2 h3
  exact pd_aret dJ4_toString_0e30d_8 rfl (by first | exact Or.inl ⟨_, rfl⟩ | exact Or.inr ⟨_, rfl⟩) (by omega) (by omega)
