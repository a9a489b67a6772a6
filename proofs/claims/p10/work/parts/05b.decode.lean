theorem dX1_init_0 : decode cX1_init 0 = .ok (.aload_n 0, 1) := by decide +kernel
theorem dX1_init_1 : decode cX1_init 1 = .ok (.invokespecial 3, 3) := by decide +kernel
theorem dX1_init_4 : decode cX1_init 4 = .ok (.aload_n 0, 1) := by decide +kernel
theorem dX1_init_5 : decode cX1_init 5 = .ok (.new 9, 3) := by decide +kernel
theorem dX1_init_8 : decode cX1_init 8 = .ok (.dup, 1) := by decide +kernel
theorem dX1_init_9 : decode cX1_init 9 = .ok (.invokespecial 11, 3) := by decide +kernel
theorem dX1_init_12 : decode cX1_init 12 = .ok (.putfield 12, 3) := by decide +kernel
theorem dX1_init_15 : decode cX1_init 15 = .ok (.aload_n 0, 1) := by decide +kernel
theorem dX1_init_16 : decode cX1_init 16 = .ok (.lconst 1, 1) := by decide +kernel
theorem dX1_init_17 : decode cX1_init 17 = .ok (.putfield 18, 3) := by decide +kernel
theorem dX1_init_20 : decode cX1_init 20 = .ok (.aload_n 0, 1) := by decide +kernel
theorem dX1_init_21 : decode cX1_init 21 = .ok (.lconst 1, 1) := by decide +kernel
theorem dX1_init_22 : decode cX1_init 22 = .ok (.putfield 22, 3) := by decide +kernel
theorem dX1_init_25 : decode cX1_init 25 = .ok (.aload_n 0, 1) := by decide +kernel
theorem dX1_init_26 : decode cX1_init 26 = .ok (.iload_n 1, 1) := by decide +kernel
theorem dX1_init_27 : decode cX1_init 27 = .ok (.putfield 25, 3) := by decide +kernel
theorem dX1_init_30 : decode cX1_init 30 = .ok (.aload_n 0, 1) := by decide +kernel
theorem dX1_init_31 : decode cX1_init 31 = .ok (.iload_n 2, 1) := by decide +kernel
theorem dX1_init_32 : decode cX1_init 32 = .ok (.putfield 29, 3) := by decide +kernel
theorem dX1_init_35 : decode cX1_init 35 = .ok (.aload_n 0, 1) := by decide +kernel
theorem dX1_init_36 : decode cX1_init 36 = .ok (.lload_n 3, 1) := by decide +kernel
theorem dX1_init_37 : decode cX1_init 37 = .ok (.putfield 32, 3) := by decide +kernel
theorem dX1_init_40 : decode cX1_init 40 = .ok (.return_, 1) := by decide +kernel
theorem dX1_rawAt_0 : decode cX1_rawAt 0 = .ok (.lconst 0, 1) := by decide +kernel
theorem dX1_rawAt_1 : decode cX1_rawAt 1 = .ok (.lstore_n 3, 1) := by decide +kernel
theorem dX1_rawAt_2 : decode cX1_rawAt 2 = .ok (.iconst 0, 1) := by decide +kernel
theorem dX1_rawAt_3 : decode cX1_rawAt 3 = .ok (.istore 5, 2) := by decide +kernel
theorem dX1_rawAt_5 : decode cX1_rawAt 5 = .ok (.iload 5, 2) := by decide +kernel
theorem dX1_rawAt_7 : decode cX1_rawAt 7 = .ok (.aload_n 0, 1) := by decide +kernel
theorem dX1_rawAt_8 : decode cX1_rawAt 8 = .ok (.getfield 35, 3) := by decide +kernel
theorem dX1_rawAt_11 : decode cX1_rawAt 11 = .ok (.if_icmp .ge 25, 3) := by decide +kernel
theorem dX1_rawAt_14 : decode cX1_rawAt 14 = .ok (.lload_n 3, 1) := by decide +kernel
theorem dX1_rawAt_15 : decode cX1_rawAt 15 = .ok (.ldc2_w 38, 3) := by decide +kernel
theorem dX1_rawAt_18 : decode cX1_rawAt 18 = .ok (.lmul, 1) := by decide +kernel
theorem dX1_rawAt_19 : decode cX1_rawAt 19 = .ok (.aload_n 1, 1) := by decide +kernel
theorem dX1_rawAt_20 : decode cX1_rawAt 20 = .ok (.iload_n 2, 1) := by decide +kernel
theorem dX1_rawAt_21 : decode cX1_rawAt 21 = .ok (.iload 5, 2) := by decide +kernel
theorem dX1_rawAt_23 : decode cX1_rawAt 23 = .ok (.iadd, 1) := by decide +kernel
theorem dX1_rawAt_24 : decode cX1_rawAt 24 = .ok (.invokevirtual 40, 3) := by decide +kernel
theorem dX1_rawAt_27 : decode cX1_rawAt 27 = .ok (.i2l, 1) := by decide +kernel
theorem dX1_rawAt_28 : decode cX1_rawAt 28 = .ok (.ladd, 1) := by decide +kernel
theorem dX1_rawAt_29 : decode cX1_rawAt 29 = .ok (.lstore_n 3, 1) := by decide +kernel
theorem dX1_rawAt_30 : decode cX1_rawAt 30 = .ok (.iinc 5 1, 3) := by decide +kernel
theorem dX1_rawAt_33 : decode cX1_rawAt 33 = .ok (.goto (-28), 3) := by decide +kernel
theorem dX1_rawAt_36 : decode cX1_rawAt 36 = .ok (.aload_n 0, 1) := by decide +kernel
theorem dX1_rawAt_37 : decode cX1_rawAt 37 = .ok (.getfield 45, 3) := by decide +kernel
theorem dX1_rawAt_40 : decode cX1_rawAt 40 = .ok (.ifCond .eq 26, 3) := by decide +kernel
theorem dX1_rawAt_43 : decode cX1_rawAt 43 = .ok (.lload_n 3, 1) := by decide +kernel
theorem dX1_rawAt_44 : decode cX1_rawAt 44 = .ok (.aload_n 0, 1) := by decide +kernel
theorem dX1_rawAt_45 : decode cX1_rawAt 45 = .ok (.invokevirtual 49, 3) := by decide +kernel
theorem dX1_rawAt_48 : decode cX1_rawAt 48 = .ok (.lcmp, 1) := by decide +kernel
theorem dX1_rawAt_49 : decode cX1_rawAt 49 = .ok (.ifCond .le 17, 3) := by decide +kernel
theorem dX1_rawAt_52 : decode cX1_rawAt 52 = .ok (.lload_n 3, 1) := by decide +kernel
theorem dX1_rawAt_53 : decode cX1_rawAt 53 = .ok (.lconst 1, 1) := by decide +kernel
theorem dX1_rawAt_54 : decode cX1_rawAt 54 = .ok (.bipush 8, 2) := by decide +kernel
theorem dX1_rawAt_56 : decode cX1_rawAt 56 = .ok (.aload_n 0, 1) := by decide +kernel
theorem dX1_rawAt_57 : decode cX1_rawAt 57 = .ok (.getfield 35, 3) := by decide +kernel
theorem dX1_rawAt_60 : decode cX1_rawAt 60 = .ok (.imul, 1) := by decide +kernel
theorem dX1_rawAt_61 : decode cX1_rawAt 61 = .ok (.lshl, 1) := by decide +kernel
theorem dX1_rawAt_62 : decode cX1_rawAt 62 = .ok (.lsub, 1) := by decide +kernel
theorem dX1_rawAt_63 : decode cX1_rawAt 63 = .ok (.goto 4, 3) := by decide +kernel
theorem dX1_rawAt_66 : decode cX1_rawAt 66 = .ok (.lload_n 3, 1) := by decide +kernel
theorem dX1_rawAt_67 : decode cX1_rawAt 67 = .ok (.lreturn, 1) := by decide +kernel
theorem dX1_highest_0 : decode cX1_highest 0 = .ok (.lconst 1, 1) := by decide +kernel
theorem dX1_highest_1 : decode cX1_highest 1 = .ok (.aload_n 0, 1) := by decide +kernel
theorem dX1_highest_2 : decode cX1_highest 2 = .ok (.getfield 45, 3) := by decide +kernel
theorem dX1_highest_5 : decode cX1_highest 5 = .ok (.ifCond .eq 15, 3) := by decide +kernel
theorem dX1_highest_8 : decode cX1_highest 8 = .ok (.bipush 8, 2) := by decide +kernel
theorem dX1_highest_10 : decode cX1_highest 10 = .ok (.aload_n 0, 1) := by decide +kernel
theorem dX1_highest_11 : decode cX1_highest 11 = .ok (.getfield 35, 3) := by decide +kernel
theorem dX1_highest_14 : decode cX1_highest 14 = .ok (.imul, 1) := by decide +kernel
theorem dX1_highest_15 : decode cX1_highest 15 = .ok (.iconst 1, 1) := by decide +kernel
theorem dX1_highest_16 : decode cX1_highest 16 = .ok (.isub, 1) := by decide +kernel
theorem dX1_highest_17 : decode cX1_highest 17 = .ok (.goto 10, 3) := by decide +kernel
theorem dX1_highest_20 : decode cX1_highest 20 = .ok (.bipush 8, 2) := by decide +kernel
theorem dX1_highest_22 : decode cX1_highest 22 = .ok (.aload_n 0, 1) := by decide +kernel
theorem dX1_highest_23 : decode cX1_highest 23 = .ok (.getfield 35, 3) := by decide +kernel
theorem dX1_highest_26 : decode cX1_highest 26 = .ok (.imul, 1) := by decide +kernel
theorem dX1_highest_27 : decode cX1_highest 27 = .ok (.lshl, 1) := by decide +kernel
theorem dX1_highest_28 : decode cX1_highest 28 = .ok (.lconst 1, 1) := by decide +kernel
theorem dX1_highest_29 : decode cX1_highest 29 = .ok (.lsub, 1) := by decide +kernel
theorem dX1_highest_30 : decode cX1_highest 30 = .ok (.lreturn, 1) := by decide +kernel
theorem dX1_lowest_0 : decode cX1_lowest 0 = .ok (.aload_n 0, 1) := by decide +kernel
theorem dX1_lowest_1 : decode cX1_lowest 1 = .ok (.getfield 45, 3) := by decide +kernel
theorem dX1_lowest_4 : decode cX1_lowest 4 = .ok (.ifCond .eq 18, 3) := by decide +kernel
theorem dX1_lowest_7 : decode cX1_lowest 7 = .ok (.lconst 1, 1) := by decide +kernel
theorem dX1_lowest_8 : decode cX1_lowest 8 = .ok (.bipush 8, 2) := by decide +kernel
theorem dX1_lowest_10 : decode cX1_lowest 10 = .ok (.aload_n 0, 1) := by decide +kernel
theorem dX1_lowest_11 : decode cX1_lowest 11 = .ok (.getfield 35, 3) := by decide +kernel
theorem dX1_lowest_14 : decode cX1_lowest 14 = .ok (.imul, 1) := by decide +kernel
theorem dX1_lowest_15 : decode cX1_lowest 15 = .ok (.iconst 1, 1) := by decide +kernel
theorem dX1_lowest_16 : decode cX1_lowest 16 = .ok (.isub, 1) := by decide +kernel
theorem dX1_lowest_17 : decode cX1_lowest 17 = .ok (.lshl, 1) := by decide +kernel
theorem dX1_lowest_18 : decode cX1_lowest 18 = .ok (.lneg, 1) := by decide +kernel
theorem dX1_lowest_19 : decode cX1_lowest 19 = .ok (.goto 4, 3) := by decide +kernel
theorem dX1_lowest_22 : decode cX1_lowest 22 = .ok (.lconst 0, 1) := by decide +kernel
theorem dX1_lowest_23 : decode cX1_lowest 23 = .ok (.lreturn, 1) := by decide +kernel
theorem dX1_whole_0 : decode cX1_whole 0 = .ok (.lload_n 1, 1) := by decide +kernel
theorem dX1_whole_1 : decode cX1_whole 1 = .ok (.aload_n 0, 1) := by decide +kernel
theorem dX1_whole_2 : decode cX1_whole 2 = .ok (.getfield 18, 3) := by decide +kernel
theorem dX1_whole_5 : decode cX1_whole 5 = .ok (.lmul, 1) := by decide +kernel
theorem dX1_whole_6 : decode cX1_whole 6 = .ok (.aload_n 0, 1) := by decide +kernel
theorem dX1_whole_7 : decode cX1_whole 7 = .ok (.getfield 53, 3) := by decide +kernel
theorem dX1_whole_10 : decode cX1_whole 10 = .ok (.aload_n 0, 1) := by decide +kernel
theorem dX1_whole_11 : decode cX1_whole 11 = .ok (.getfield 22, 3) := by decide +kernel
theorem dX1_whole_14 : decode cX1_whole 14 = .ok (.lmul, 1) := by decide +kernel
theorem dX1_whole_15 : decode cX1_whole 15 = .ok (.ladd, 1) := by decide +kernel
theorem dX1_whole_16 : decode cX1_whole 16 = .ok (.lreturn, 1) := by decide +kernel
theorem dX1_above_0 : decode cX1_above 0 = .ok (.aload_n 0, 1) := by decide +kernel
theorem dX1_above_1 : decode cX1_above 1 = .ok (.lload_n 1, 1) := by decide +kernel
theorem dX1_above_2 : decode cX1_above 2 = .ok (.invokevirtual 56, 3) := by decide +kernel
theorem dX1_above_5 : decode cX1_above 5 = .ok (.aload_n 0, 1) := by decide +kernel
theorem dX1_above_6 : decode cX1_above 6 = .ok (.getfield 22, 3) := by decide +kernel
theorem dX1_above_9 : decode cX1_above 9 = .ok (.invokestatic 60, 3) := by decide +kernel
theorem dX1_above_12 : decode cX1_above 12 = .ok (.lstore_n 3, 1) := by decide +kernel
theorem dX1_above_13 : decode cX1_above 13 = .ok (.lload_n 3, 1) := by decide +kernel
theorem dX1_above_14 : decode cX1_above 14 = .ok (.lconst 0, 1) := by decide +kernel
theorem dX1_above_15 : decode cX1_above 15 = .ok (.lcmp, 1) := by decide +kernel
theorem dX1_above_16 : decode cX1_above 16 = .ok (.ifCond .ne 7, 3) := by decide +kernel
theorem dX1_above_19 : decode cX1_above 19 = .ok (.lconst 0, 1) := by decide +kernel
theorem dX1_above_20 : decode cX1_above 20 = .ok (.goto 10, 3) := by decide +kernel
theorem dX1_above_23 : decode cX1_above 23 = .ok (.aload_n 0, 1) := by decide +kernel
theorem dX1_above_24 : decode cX1_above 24 = .ok (.lload_n 1, 1) := by decide +kernel
theorem dX1_above_25 : decode cX1_above 25 = .ok (.invokevirtual 56, 3) := by decide +kernel
theorem dX1_above_28 : decode cX1_above 28 = .ok (.lload_n 3, 1) := by decide +kernel
theorem dX1_above_29 : decode cX1_above 29 = .ok (.ldiv, 1) := by decide +kernel
theorem dX1_above_30 : decode cX1_above 30 = .ok (.lreturn, 1) := by decide +kernel
theorem dX1_below_0 : decode cX1_below 0 = .ok (.aload_n 0, 1) := by decide +kernel
theorem dX1_below_1 : decode cX1_below 1 = .ok (.lload_n 1, 1) := by decide +kernel
theorem dX1_below_2 : decode cX1_below 2 = .ok (.invokevirtual 56, 3) := by decide +kernel
theorem dX1_below_5 : decode cX1_below 5 = .ok (.aload_n 0, 1) := by decide +kernel
theorem dX1_below_6 : decode cX1_below 6 = .ok (.getfield 22, 3) := by decide +kernel
theorem dX1_below_9 : decode cX1_below 9 = .ok (.invokestatic 60, 3) := by decide +kernel
theorem dX1_below_12 : decode cX1_below 12 = .ok (.lstore_n 3, 1) := by decide +kernel
theorem dX1_below_13 : decode cX1_below 13 = .ok (.lload_n 3, 1) := by decide +kernel
theorem dX1_below_14 : decode cX1_below 14 = .ok (.lconst 0, 1) := by decide +kernel
theorem dX1_below_15 : decode cX1_below 15 = .ok (.lcmp, 1) := by decide +kernel
theorem dX1_below_16 : decode cX1_below 16 = .ok (.ifCond .ne 7, 3) := by decide +kernel
theorem dX1_below_19 : decode cX1_below 19 = .ok (.lconst 0, 1) := by decide +kernel
theorem dX1_below_20 : decode cX1_below 20 = .ok (.goto 9, 3) := by decide +kernel
theorem dX1_below_23 : decode cX1_below 23 = .ok (.aload_n 0, 1) := by decide +kernel
theorem dX1_below_24 : decode cX1_below 24 = .ok (.getfield 22, 3) := by decide +kernel
theorem dX1_below_27 : decode cX1_below 27 = .ok (.lload_n 3, 1) := by decide +kernel
theorem dX1_below_28 : decode cX1_below 28 = .ok (.ldiv, 1) := by decide +kernel
theorem dX1_below_29 : decode cX1_below 29 = .ok (.lreturn, 1) := by decide +kernel
theorem dX1_floor_0 : decode cX1_floor 0 = .ok (.aload_n 0, 1) := by decide +kernel
theorem dX1_floor_1 : decode cX1_floor 1 = .ok (.getfield 22, 3) := by decide +kernel
theorem dX1_floor_4 : decode cX1_floor 4 = .ok (.lconst 0, 1) := by decide +kernel
theorem dX1_floor_5 : decode cX1_floor 5 = .ok (.lcmp, 1) := by decide +kernel
theorem dX1_floor_6 : decode cX1_floor 6 = .ok (.ifCond .ne 7, 3) := by decide +kernel
theorem dX1_floor_9 : decode cX1_floor 9 = .ok (.lconst 0, 1) := by decide +kernel
theorem dX1_floor_10 : decode cX1_floor 10 = .ok (.goto 15, 3) := by decide +kernel
theorem dX1_floor_13 : decode cX1_floor 13 = .ok (.aload_n 0, 1) := by decide +kernel
theorem dX1_floor_14 : decode cX1_floor 14 = .ok (.lload_n 1, 1) := by decide +kernel
theorem dX1_floor_15 : decode cX1_floor 15 = .ok (.invokevirtual 56, 3) := by decide +kernel
theorem dX1_floor_18 : decode cX1_floor 18 = .ok (.aload_n 0, 1) := by decide +kernel
theorem dX1_floor_19 : decode cX1_floor 19 = .ok (.getfield 22, 3) := by decide +kernel
theorem dX1_floor_22 : decode cX1_floor 22 = .ok (.invokestatic 64, 3) := by decide +kernel
theorem dX1_floor_25 : decode cX1_floor 25 = .ok (.lreturn, 1) := by decide +kernel
theorem dX1_commonDivisor_0 : decode cX1_commonDivisor 0 = .ok (.lload_n 0, 1) := by decide +kernel
theorem dX1_commonDivisor_1 : decode cX1_commonDivisor 1 = .ok (.invokestatic 69, 3) := by decide +kernel
theorem dX1_commonDivisor_4 : decode cX1_commonDivisor 4 = .ok (.lstore 4, 2) := by decide +kernel
theorem dX1_commonDivisor_6 : decode cX1_commonDivisor 6 = .ok (.lload_n 2, 1) := by decide +kernel
theorem dX1_commonDivisor_7 : decode cX1_commonDivisor 7 = .ok (.lstore 6, 2) := by decide +kernel
theorem dX1_commonDivisor_9 : decode cX1_commonDivisor 9 = .ok (.iconst 0, 1) := by decide +kernel
theorem dX1_commonDivisor_10 : decode cX1_commonDivisor 10 = .ok (.istore 8, 2) := by decide +kernel
theorem dX1_commonDivisor_12 : decode cX1_commonDivisor 12 = .ok (.iload 8, 2) := by decide +kernel
theorem dX1_commonDivisor_14 : decode cX1_commonDivisor 14 = .ok (.sipush 200, 3) := by decide +kernel
theorem dX1_commonDivisor_17 : decode cX1_commonDivisor 17 = .ok (.if_icmp .ge 31, 3) := by decide +kernel
theorem dX1_commonDivisor_20 : decode cX1_commonDivisor 20 = .ok (.lload 6, 2) := by decide +kernel
theorem dX1_commonDivisor_22 : decode cX1_commonDivisor 22 = .ok (.lconst 0, 1) := by decide +kernel
theorem dX1_commonDivisor_23 : decode cX1_commonDivisor 23 = .ok (.lcmp, 1) := by decide +kernel
theorem dX1_commonDivisor_24 : decode cX1_commonDivisor 24 = .ok (.ifCond .eq 24, 3) := by decide +kernel
theorem dX1_commonDivisor_27 : decode cX1_commonDivisor 27 = .ok (.lload 4, 2) := by decide +kernel
theorem dX1_commonDivisor_29 : decode cX1_commonDivisor 29 = .ok (.lload 6, 2) := by decide +kernel
theorem dX1_commonDivisor_31 : decode cX1_commonDivisor 31 = .ok (.lrem, 1) := by decide +kernel
theorem dX1_commonDivisor_32 : decode cX1_commonDivisor 32 = .ok (.lstore 9, 2) := by decide +kernel
theorem dX1_commonDivisor_34 : decode cX1_commonDivisor 34 = .ok (.lload 6, 2) := by decide +kernel
theorem dX1_commonDivisor_36 : decode cX1_commonDivisor 36 = .ok (.lstore 4, 2) := by decide +kernel
theorem dX1_commonDivisor_38 : decode cX1_commonDivisor 38 = .ok (.lload 9, 2) := by decide +kernel
theorem dX1_commonDivisor_40 : decode cX1_commonDivisor 40 = .ok (.lstore 6, 2) := by decide +kernel
theorem dX1_commonDivisor_42 : decode cX1_commonDivisor 42 = .ok (.iinc 8 1, 3) := by decide +kernel
theorem dX1_commonDivisor_45 : decode cX1_commonDivisor 45 = .ok (.goto (-33), 3) := by decide +kernel
theorem dX1_commonDivisor_48 : decode cX1_commonDivisor 48 = .ok (.lload 4, 2) := by decide +kernel
theorem dX1_commonDivisor_50 : decode cX1_commonDivisor 50 = .ok (.lreturn, 1) := by decide +kernel
theorem dX1_rawFor_0 : decode cX1_rawFor 0 = .ok (.aload_n 0, 1) := by decide +kernel
theorem dX1_rawFor_1 : decode cX1_rawFor 1 = .ok (.getfield 18, 3) := by decide +kernel
theorem dX1_rawFor_4 : decode cX1_rawFor 4 = .ok (.lconst 0, 1) := by decide +kernel
theorem dX1_rawFor_5 : decode cX1_rawFor 5 = .ok (.lcmp, 1) := by decide +kernel
theorem dX1_rawFor_6 : decode cX1_rawFor 6 = .ok (.ifCond .eq 28, 3) := by decide +kernel
theorem dX1_rawFor_9 : decode cX1_rawFor 9 = .ok (.aload_n 0, 1) := by decide +kernel
theorem dX1_rawFor_10 : decode cX1_rawFor 10 = .ok (.getfield 22, 3) := by decide +kernel
theorem dX1_rawFor_13 : decode cX1_rawFor 13 = .ok (.lconst 0, 1) := by decide +kernel
theorem dX1_rawFor_14 : decode cX1_rawFor 14 = .ok (.lcmp, 1) := by decide +kernel
theorem dX1_rawFor_15 : decode cX1_rawFor 15 = .ok (.ifCond .eq 19, 3) := by decide +kernel
theorem dX1_rawFor_18 : decode cX1_rawFor 18 = .ok (.lload_n 1, 1) := by decide +kernel
theorem dX1_rawFor_19 : decode cX1_rawFor 19 = .ok (.ldc2_w 72, 3) := by decide +kernel
theorem dX1_rawFor_22 : decode cX1_rawFor 22 = .ok (.lcmp, 1) := by decide +kernel
theorem dX1_rawFor_23 : decode cX1_rawFor 23 = .ok (.ifCond .lt 11, 3) := by decide +kernel
theorem dX1_rawFor_26 : decode cX1_rawFor 26 = .ok (.lload_n 1, 1) := by decide +kernel
theorem dX1_rawFor_27 : decode cX1_rawFor 27 = .ok (.ldc2_w 74, 3) := by decide +kernel
theorem dX1_rawFor_30 : decode cX1_rawFor 30 = .ok (.lcmp, 1) := by decide +kernel
theorem dX1_rawFor_31 : decode cX1_rawFor 31 = .ok (.ifCond .le 7, 3) := by decide +kernel
theorem dX1_rawFor_34 : decode cX1_rawFor 34 = .ok (.ldc2_w 76, 3) := by decide +kernel
theorem dX1_rawFor_37 : decode cX1_rawFor 37 = .ok (.lreturn, 1) := by decide +kernel
theorem dX1_rawFor_38 : decode cX1_rawFor 38 = .ok (.lload_n 1, 1) := by decide +kernel
theorem dX1_rawFor_39 : decode cX1_rawFor 39 = .ok (.aload_n 0, 1) := by decide +kernel
theorem dX1_rawFor_40 : decode cX1_rawFor 40 = .ok (.getfield 53, 3) := by decide +kernel
theorem dX1_rawFor_43 : decode cX1_rawFor 43 = .ok (.lsub, 1) := by decide +kernel
theorem dX1_rawFor_44 : decode cX1_rawFor 44 = .ok (.lstore_n 3, 1) := by decide +kernel
theorem dX1_rawFor_45 : decode cX1_rawFor 45 = .ok (.lload_n 3, 1) := by decide +kernel
theorem dX1_rawFor_46 : decode cX1_rawFor 46 = .ok (.invokestatic 69, 3) := by decide +kernel
theorem dX1_rawFor_49 : decode cX1_rawFor 49 = .ok (.ldc2_w 78, 3) := by decide +kernel
theorem dX1_rawFor_52 : decode cX1_rawFor 52 = .ok (.aload_n 0, 1) := by decide +kernel
theorem dX1_rawFor_53 : decode cX1_rawFor 53 = .ok (.getfield 18, 3) := by decide +kernel
theorem dX1_rawFor_56 : decode cX1_rawFor 56 = .ok (.invokestatic 69, 3) := by decide +kernel
theorem dX1_rawFor_59 : decode cX1_rawFor 59 = .ok (.lmul, 1) := by decide +kernel
theorem dX1_rawFor_60 : decode cX1_rawFor 60 = .ok (.aload_n 0, 1) := by decide +kernel
theorem dX1_rawFor_61 : decode cX1_rawFor 61 = .ok (.getfield 22, 3) := by decide +kernel
theorem dX1_rawFor_64 : decode cX1_rawFor 64 = .ok (.ldiv, 1) := by decide +kernel
theorem dX1_rawFor_65 : decode cX1_rawFor 65 = .ok (.lcmp, 1) := by decide +kernel
theorem dX1_rawFor_66 : decode cX1_rawFor 66 = .ok (.ifCond .le 7, 3) := by decide +kernel
theorem dX1_rawFor_69 : decode cX1_rawFor 69 = .ok (.ldc2_w 76, 3) := by decide +kernel
theorem dX1_rawFor_72 : decode cX1_rawFor 72 = .ok (.lreturn, 1) := by decide +kernel
theorem dX1_rawFor_73 : decode cX1_rawFor 73 = .ok (.lload_n 3, 1) := by decide +kernel
theorem dX1_rawFor_74 : decode cX1_rawFor 74 = .ok (.aload_n 0, 1) := by decide +kernel
theorem dX1_rawFor_75 : decode cX1_rawFor 75 = .ok (.getfield 22, 3) := by decide +kernel
theorem dX1_rawFor_78 : decode cX1_rawFor 78 = .ok (.lmul, 1) := by decide +kernel
theorem dX1_rawFor_79 : decode cX1_rawFor 79 = .ok (.lstore 5, 2) := by decide +kernel
theorem dX1_rawFor_81 : decode cX1_rawFor 81 = .ok (.lload 5, 2) := by decide +kernel
theorem dX1_rawFor_83 : decode cX1_rawFor 83 = .ok (.aload_n 0, 1) := by decide +kernel
theorem dX1_rawFor_84 : decode cX1_rawFor 84 = .ok (.getfield 18, 3) := by decide +kernel
theorem dX1_rawFor_87 : decode cX1_rawFor 87 = .ok (.lrem, 1) := by decide +kernel
theorem dX1_rawFor_88 : decode cX1_rawFor 88 = .ok (.lconst 0, 1) := by decide +kernel
theorem dX1_rawFor_89 : decode cX1_rawFor 89 = .ok (.lcmp, 1) := by decide +kernel
theorem dX1_rawFor_90 : decode cX1_rawFor 90 = .ok (.ifCond .eq 7, 3) := by decide +kernel
theorem dX1_rawFor_93 : decode cX1_rawFor 93 = .ok (.ldc2_w 76, 3) := by decide +kernel
theorem dX1_rawFor_96 : decode cX1_rawFor 96 = .ok (.lreturn, 1) := by decide +kernel
theorem dX1_rawFor_97 : decode cX1_rawFor 97 = .ok (.lload 5, 2) := by decide +kernel
theorem dX1_rawFor_99 : decode cX1_rawFor 99 = .ok (.aload_n 0, 1) := by decide +kernel
theorem dX1_rawFor_100 : decode cX1_rawFor 100 = .ok (.getfield 18, 3) := by decide +kernel
theorem dX1_rawFor_103 : decode cX1_rawFor 103 = .ok (.ldiv, 1) := by decide +kernel
theorem dX1_rawFor_104 : decode cX1_rawFor 104 = .ok (.lstore 7, 2) := by decide +kernel
theorem dX1_rawFor_106 : decode cX1_rawFor 106 = .ok (.lload 7, 2) := by decide +kernel
theorem dX1_rawFor_108 : decode cX1_rawFor 108 = .ok (.aload_n 0, 1) := by decide +kernel
theorem dX1_rawFor_109 : decode cX1_rawFor 109 = .ok (.invokevirtual 80, 3) := by decide +kernel
theorem dX1_rawFor_112 : decode cX1_rawFor 112 = .ok (.lcmp, 1) := by decide +kernel
theorem dX1_rawFor_113 : decode cX1_rawFor 113 = .ok (.ifCond .lt 13, 3) := by decide +kernel
theorem dX1_rawFor_116 : decode cX1_rawFor 116 = .ok (.lload 7, 2) := by decide +kernel
theorem dX1_rawFor_118 : decode cX1_rawFor 118 = .ok (.aload_n 0, 1) := by decide +kernel
theorem dX1_rawFor_119 : decode cX1_rawFor 119 = .ok (.invokevirtual 49, 3) := by decide +kernel
theorem dX1_rawFor_122 : decode cX1_rawFor 122 = .ok (.lcmp, 1) := by decide +kernel
theorem dX1_rawFor_123 : decode cX1_rawFor 123 = .ok (.ifCond .le 9, 3) := by decide +kernel
theorem dX1_rawFor_126 : decode cX1_rawFor 126 = .ok (.ldc2_w 76, 3) := by decide +kernel
theorem dX1_rawFor_129 : decode cX1_rawFor 129 = .ok (.goto 5, 3) := by decide +kernel
theorem dX1_rawFor_132 : decode cX1_rawFor 132 = .ok (.lload 7, 2) := by decide +kernel
theorem dX1_rawFor_134 : decode cX1_rawFor 134 = .ok (.lreturn, 1) := by decide +kernel
theorem dX1_rowName_0 : decode cX1_rowName 0 = .ok (.aload_n 0, 1) := by decide +kernel
theorem dX1_rowName_1 : decode cX1_rowName 1 = .ok (.getfield 12, 3) := by decide +kernel
theorem dX1_rowName_4 : decode cX1_rowName 4 = .ok (.lload_n 1, 1) := by decide +kernel
theorem dX1_rowName_5 : decode cX1_rowName 5 = .ok (.invokestatic 83, 3) := by decide +kernel
theorem dX1_rowName_8 : decode cX1_rowName 8 = .ok (.astore_n 3, 1) := by decide +kernel
theorem dX1_rowName_9 : decode cX1_rowName 9 = .ok (.aload_n 3, 1) := by decide +kernel
theorem dX1_rowName_10 : decode cX1_rowName 10 = .ok (.ifnonnull 7, 3) := by decide +kernel
theorem dX1_rowName_13 : decode cX1_rowName 13 = .ok (.lconst 0, 1) := by decide +kernel
theorem dX1_rowName_14 : decode cX1_rowName 14 = .ok (.goto 7, 3) := by decide +kernel
theorem dX1_rowName_17 : decode cX1_rowName 17 = .ok (.aload_n 3, 1) := by decide +kernel
theorem dX1_rowName_18 : decode cX1_rowName 18 = .ok (.getfield 87, 3) := by decide +kernel
theorem dX1_rowName_21 : decode cX1_rowName 21 = .ok (.lreturn, 1) := by decide +kernel
theorem dX1_isLike_0 : decode cX1_isLike 0 = .ok (.aload_n 0, 1) := by decide +kernel
theorem dX1_isLike_1 : decode cX1_isLike 1 = .ok (.getfield 35, 3) := by decide +kernel
theorem dX1_isLike_4 : decode cX1_isLike 4 = .ok (.aload_n 1, 1) := by decide +kernel
theorem dX1_isLike_5 : decode cX1_isLike 5 = .ok (.getfield 35, 3) := by decide +kernel
theorem dX1_isLike_8 : decode cX1_isLike 8 = .ok (.if_icmp .ne 25, 3) := by decide +kernel
theorem dX1_isLike_11 : decode cX1_isLike 11 = .ok (.aload_n 0, 1) := by decide +kernel
theorem dX1_isLike_12 : decode cX1_isLike 12 = .ok (.getfield 45, 3) := by decide +kernel
theorem dX1_isLike_15 : decode cX1_isLike 15 = .ok (.aload_n 1, 1) := by decide +kernel
theorem dX1_isLike_16 : decode cX1_isLike 16 = .ok (.getfield 45, 3) := by decide +kernel
theorem dX1_isLike_19 : decode cX1_isLike 19 = .ok (.if_icmp .ne 14, 3) := by decide +kernel
theorem dX1_isLike_22 : decode cX1_isLike 22 = .ok (.aload_n 0, 1) := by decide +kernel
theorem dX1_isLike_23 : decode cX1_isLike 23 = .ok (.getfield 90, 3) := by decide +kernel
theorem dX1_isLike_26 : decode cX1_isLike 26 = .ok (.aload_n 1, 1) := by decide +kernel
theorem dX1_isLike_27 : decode cX1_isLike 27 = .ok (.getfield 90, 3) := by decide +kernel
theorem dX1_isLike_30 : decode cX1_isLike 30 = .ok (.if_icmp .eq 5, 3) := by decide +kernel
theorem dX1_isLike_33 : decode cX1_isLike 33 = .ok (.iconst 0, 1) := by decide +kernel
theorem dX1_isLike_34 : decode cX1_isLike 34 = .ok (.ireturn, 1) := by decide +kernel
theorem dX1_isLike_35 : decode cX1_isLike 35 = .ok (.aload_n 0, 1) := by decide +kernel
theorem dX1_isLike_36 : decode cX1_isLike 36 = .ok (.getfield 18, 3) := by decide +kernel
theorem dX1_isLike_39 : decode cX1_isLike 39 = .ok (.aload_n 1, 1) := by decide +kernel
theorem dX1_isLike_40 : decode cX1_isLike 40 = .ok (.getfield 18, 3) := by decide +kernel
theorem dX1_isLike_43 : decode cX1_isLike 43 = .ok (.lcmp, 1) := by decide +kernel
theorem dX1_isLike_44 : decode cX1_isLike 44 = .ok (.ifCond .ne 27, 3) := by decide +kernel
theorem dX1_isLike_47 : decode cX1_isLike 47 = .ok (.aload_n 0, 1) := by decide +kernel
theorem dX1_isLike_48 : decode cX1_isLike 48 = .ok (.getfield 22, 3) := by decide +kernel
theorem dX1_isLike_51 : decode cX1_isLike 51 = .ok (.aload_n 1, 1) := by decide +kernel
theorem dX1_isLike_52 : decode cX1_isLike 52 = .ok (.getfield 22, 3) := by decide +kernel
theorem dX1_isLike_55 : decode cX1_isLike 55 = .ok (.lcmp, 1) := by decide +kernel
theorem dX1_isLike_56 : decode cX1_isLike 56 = .ok (.ifCond .ne 15, 3) := by decide +kernel
theorem dX1_isLike_59 : decode cX1_isLike 59 = .ok (.aload_n 0, 1) := by decide +kernel
theorem dX1_isLike_60 : decode cX1_isLike 60 = .ok (.getfield 53, 3) := by decide +kernel
theorem dX1_isLike_63 : decode cX1_isLike 63 = .ok (.aload_n 1, 1) := by decide +kernel
theorem dX1_isLike_64 : decode cX1_isLike 64 = .ok (.getfield 53, 3) := by decide +kernel
theorem dX1_isLike_67 : decode cX1_isLike 67 = .ok (.lcmp, 1) := by decide +kernel
theorem dX1_isLike_68 : decode cX1_isLike 68 = .ok (.ifCond .eq 5, 3) := by decide +kernel
theorem dX1_isLike_71 : decode cX1_isLike 71 = .ok (.iconst 0, 1) := by decide +kernel
theorem dX1_isLike_72 : decode cX1_isLike 72 = .ok (.ireturn, 1) := by decide +kernel
theorem dX1_isLike_73 : decode cX1_isLike 73 = .ok (.aload_n 0, 1) := by decide +kernel
theorem dX1_isLike_74 : decode cX1_isLike 74 = .ok (.getfield 12, 3) := by decide +kernel
theorem dX1_isLike_77 : decode cX1_isLike 77 = .ok (.invokevirtual 93, 3) := by decide +kernel
theorem dX1_isLike_80 : decode cX1_isLike 80 = .ok (.aload_n 1, 1) := by decide +kernel
theorem dX1_isLike_81 : decode cX1_isLike 81 = .ok (.getfield 12, 3) := by decide +kernel
theorem dX1_isLike_84 : decode cX1_isLike 84 = .ok (.invokevirtual 93, 3) := by decide +kernel
theorem dX1_isLike_87 : decode cX1_isLike 87 = .ok (.if_icmp .ne 7, 3) := by decide +kernel
theorem dX1_isLike_90 : decode cX1_isLike 90 = .ok (.iconst 1, 1) := by decide +kernel
theorem dX1_isLike_91 : decode cX1_isLike 91 = .ok (.goto 4, 3) := by decide +kernel
theorem dX1_isLike_94 : decode cX1_isLike 94 = .ok (.iconst 0, 1) := by decide +kernel
theorem dX1_isLike_95 : decode cX1_isLike 95 = .ok (.istore_n 2, 1) := by decide +kernel
theorem dX1_isLike_96 : decode cX1_isLike 96 = .ok (.iconst 0, 1) := by decide +kernel
theorem dX1_isLike_97 : decode cX1_isLike 97 = .ok (.istore_n 3, 1) := by decide +kernel
theorem dX1_isLike_98 : decode cX1_isLike 98 = .ok (.iload_n 2, 1) := by decide +kernel
theorem dX1_isLike_99 : decode cX1_isLike 99 = .ok (.ifCond .eq 90, 3) := by decide +kernel
theorem dX1_isLike_102 : decode cX1_isLike 102 = .ok (.iload_n 3, 1) := by decide +kernel
theorem dX1_isLike_103 : decode cX1_isLike 103 = .ok (.aload_n 0, 1) := by decide +kernel
theorem dX1_isLike_104 : decode cX1_isLike 104 = .ok (.getfield 12, 3) := by decide +kernel
theorem dX1_isLike_107 : decode cX1_isLike 107 = .ok (.invokevirtual 93, 3) := by decide +kernel
theorem dX1_isLike_110 : decode cX1_isLike 110 = .ok (.if_icmp .ge 79, 3) := by decide +kernel
theorem dX1_isLike_113 : decode cX1_isLike 113 = .ok (.iload_n 3, 1) := by decide +kernel
theorem dX1_isLike_114 : decode cX1_isLike 114 = .ok (.aload_n 1, 1) := by decide +kernel
theorem dX1_isLike_115 : decode cX1_isLike 115 = .ok (.getfield 12, 3) := by decide +kernel
theorem dX1_isLike_118 : decode cX1_isLike 118 = .ok (.invokevirtual 93, 3) := by decide +kernel
theorem dX1_isLike_121 : decode cX1_isLike 121 = .ok (.if_icmp .ge 68, 3) := by decide +kernel
theorem dX1_isLike_124 : decode cX1_isLike 124 = .ok (.aload_n 0, 1) := by decide +kernel
theorem dX1_isLike_125 : decode cX1_isLike 125 = .ok (.getfield 12, 3) := by decide +kernel
theorem dX1_isLike_128 : decode cX1_isLike 128 = .ok (.iload_n 3, 1) := by decide +kernel
theorem dX1_isLike_129 : decode cX1_isLike 129 = .ok (.invokevirtual 97, 3) := by decide +kernel
theorem dX1_isLike_132 : decode cX1_isLike 132 = .ok (.checkcast 88, 3) := by decide +kernel
theorem dX1_isLike_135 : decode cX1_isLike 135 = .ok (.astore 4, 2) := by decide +kernel
theorem dX1_isLike_137 : decode cX1_isLike 137 = .ok (.aload_n 1, 1) := by decide +kernel
theorem dX1_isLike_138 : decode cX1_isLike 138 = .ok (.getfield 12, 3) := by decide +kernel
theorem dX1_isLike_141 : decode cX1_isLike 141 = .ok (.iload_n 3, 1) := by decide +kernel
theorem dX1_isLike_142 : decode cX1_isLike 142 = .ok (.invokevirtual 97, 3) := by decide +kernel
theorem dX1_isLike_145 : decode cX1_isLike 145 = .ok (.checkcast 88, 3) := by decide +kernel
theorem dX1_isLike_148 : decode cX1_isLike 148 = .ok (.astore 5, 2) := by decide +kernel
theorem dX1_isLike_150 : decode cX1_isLike 150 = .ok (.aload 4, 2) := by decide +kernel
theorem dX1_isLike_152 : decode cX1_isLike 152 = .ok (.getfield 101, 3) := by decide +kernel
theorem dX1_isLike_155 : decode cX1_isLike 155 = .ok (.aload 5, 2) := by decide +kernel
theorem dX1_isLike_157 : decode cX1_isLike 157 = .ok (.getfield 101, 3) := by decide +kernel
theorem dX1_isLike_160 : decode cX1_isLike 160 = .ok (.if_icmp .ne 21, 3) := by decide +kernel
theorem dX1_isLike_163 : decode cX1_isLike 163 = .ok (.aload 4, 2) := by decide +kernel
theorem dX1_isLike_165 : decode cX1_isLike 165 = .ok (.getfield 87, 3) := by decide +kernel
theorem dX1_isLike_168 : decode cX1_isLike 168 = .ok (.aload 5, 2) := by decide +kernel
theorem dX1_isLike_170 : decode cX1_isLike 170 = .ok (.getfield 87, 3) := by decide +kernel
theorem dX1_isLike_173 : decode cX1_isLike 173 = .ok (.lcmp, 1) := by decide +kernel
theorem dX1_isLike_174 : decode cX1_isLike 174 = .ok (.ifCond .ne 7, 3) := by decide +kernel
theorem dX1_isLike_177 : decode cX1_isLike 177 = .ok (.iconst 1, 1) := by decide +kernel
theorem dX1_isLike_178 : decode cX1_isLike 178 = .ok (.goto 4, 3) := by decide +kernel
theorem dX1_isLike_181 : decode cX1_isLike 181 = .ok (.iconst 0, 1) := by decide +kernel
theorem dX1_isLike_182 : decode cX1_isLike 182 = .ok (.istore_n 2, 1) := by decide +kernel
theorem dX1_isLike_183 : decode cX1_isLike 183 = .ok (.iinc 3 1, 3) := by decide +kernel
theorem dX1_isLike_186 : decode cX1_isLike 186 = .ok (.goto (-88), 3) := by decide +kernel
theorem dX1_isLike_189 : decode cX1_isLike 189 = .ok (.iload_n 2, 1) := by decide +kernel
theorem dX1_isLike_190 : decode cX1_isLike 190 = .ok (.ireturn, 1) := by decide +kernel
theorem dX2_init_0 : decode cX2_init 0 = .ok (.aload_n 0, 1) := by decide +kernel
theorem dX2_init_1 : decode cX2_init 1 = .ok (.invokespecial 3, 3) := by decide +kernel
theorem dX2_init_4 : decode cX2_init 4 = .ok (.aload_n 0, 1) := by decide +kernel
theorem dX2_init_5 : decode cX2_init 5 = .ok (.new 9, 3) := by decide +kernel
theorem dX2_init_8 : decode cX2_init 8 = .ok (.dup, 1) := by decide +kernel
theorem dX2_init_9 : decode cX2_init 9 = .ok (.invokespecial 11, 3) := by decide +kernel
theorem dX2_init_12 : decode cX2_init 12 = .ok (.putfield 12, 3) := by decide +kernel
theorem dX2_init_15 : decode cX2_init 15 = .ok (.aload_n 0, 1) := by decide +kernel
theorem dX2_init_16 : decode cX2_init 16 = .ok (.new 9, 3) := by decide +kernel
theorem dX2_init_19 : decode cX2_init 19 = .ok (.dup, 1) := by decide +kernel
theorem dX2_init_20 : decode cX2_init 20 = .ok (.invokespecial 11, 3) := by decide +kernel
theorem dX2_init_23 : decode cX2_init 23 = .ok (.putfield 18, 3) := by decide +kernel
theorem dX2_init_26 : decode cX2_init 26 = .ok (.aload_n 0, 1) := by decide +kernel
theorem dX2_init_27 : decode cX2_init 27 = .ok (.new 9, 3) := by decide +kernel
theorem dX2_init_30 : decode cX2_init 30 = .ok (.dup, 1) := by decide +kernel
theorem dX2_init_31 : decode cX2_init 31 = .ok (.invokespecial 11, 3) := by decide +kernel
theorem dX2_init_34 : decode cX2_init 34 = .ok (.putfield 21, 3) := by decide +kernel
theorem dX2_init_37 : decode cX2_init 37 = .ok (.aload_n 0, 1) := by decide +kernel
theorem dX2_init_38 : decode cX2_init 38 = .ok (.new 9, 3) := by decide +kernel
theorem dX2_init_41 : decode cX2_init 41 = .ok (.dup, 1) := by decide +kernel
theorem dX2_init_42 : decode cX2_init 42 = .ok (.invokespecial 11, 3) := by decide +kernel
theorem dX2_init_45 : decode cX2_init 45 = .ok (.putfield 24, 3) := by decide +kernel
theorem dX2_init_48 : decode cX2_init 48 = .ok (.aload_n 0, 1) := by decide +kernel
theorem dX2_init_49 : decode cX2_init 49 = .ok (.new 9, 3) := by decide +kernel
theorem dX2_init_52 : decode cX2_init 52 = .ok (.dup, 1) := by decide +kernel
theorem dX2_init_53 : decode cX2_init 53 = .ok (.invokespecial 11, 3) := by decide +kernel
theorem dX2_init_56 : decode cX2_init 56 = .ok (.putfield 27, 3) := by decide +kernel
theorem dX2_init_59 : decode cX2_init 59 = .ok (.aload_n 0, 1) := by decide +kernel
theorem dX2_init_60 : decode cX2_init 60 = .ok (.new 9, 3) := by decide +kernel
theorem dX2_init_63 : decode cX2_init 63 = .ok (.dup, 1) := by decide +kernel
theorem dX2_init_64 : decode cX2_init 64 = .ok (.invokespecial 11, 3) := by decide +kernel
theorem dX2_init_67 : decode cX2_init 67 = .ok (.putfield 30, 3) := by decide +kernel
theorem dX2_init_70 : decode cX2_init 70 = .ok (.aload_n 0, 1) := by decide +kernel
theorem dX2_init_71 : decode cX2_init 71 = .ok (.bipush 8, 2) := by decide +kernel
theorem dX2_init_73 : decode cX2_init 73 = .ok (.newarray .long, 2) := by decide +kernel
theorem dX2_init_75 : decode cX2_init 75 = .ok (.putfield 33, 3) := by decide +kernel
theorem dX2_init_78 : decode cX2_init 78 = .ok (.aload_n 0, 1) := by decide +kernel
theorem dX2_init_79 : decode cX2_init 79 = .ok (.iconst (-1), 1) := by decide +kernel
theorem dX2_init_80 : decode cX2_init 80 = .ok (.putfield 37, 3) := by decide +kernel
theorem dX2_init_83 : decode cX2_init 83 = .ok (.return_, 1) := by decide +kernel
theorem dX2_note_0 : decode cX2_note 0 = .ok (.aload_n 0, 1) := by decide +kernel
theorem dX2_note_1 : decode cX2_note 1 = .ok (.lload_n 1, 1) := by decide +kernel
theorem dX2_note_2 : decode cX2_note 2 = .ok (.invokevirtual 41, 3) := by decide +kernel
theorem dX2_note_5 : decode cX2_note 5 = .ok (.ifCond .eq 4, 3) := by decide +kernel
theorem dX2_note_8 : decode cX2_note 8 = .ok (.return_, 1) := by decide +kernel
theorem dX2_note_9 : decode cX2_note 9 = .ok (.aload_n 0, 1) := by decide +kernel
theorem dX2_note_10 : decode cX2_note 10 = .ok (.getfield 45, 3) := by decide +kernel
theorem dX2_note_13 : decode cX2_note 13 = .ok (.aload_n 0, 1) := by decide +kernel
theorem dX2_note_14 : decode cX2_note 14 = .ok (.getfield 33, 3) := by decide +kernel
theorem dX2_note_17 : decode cX2_note 17 = .ok (.arraylength, 1) := by decide +kernel
theorem dX2_note_18 : decode cX2_note 18 = .ok (.if_icmp .lt 20, 3) := by decide +kernel
theorem dX2_note_21 : decode cX2_note 21 = .ok (.aload_n 0, 1) := by decide +kernel
theorem dX2_note_22 : decode cX2_note 22 = .ok (.aload_n 0, 1) := by decide +kernel
theorem dX2_note_23 : decode cX2_note 23 = .ok (.getfield 33, 3) := by decide +kernel
theorem dX2_note_26 : decode cX2_note 26 = .ok (.iconst 2, 1) := by decide +kernel
theorem dX2_note_27 : decode cX2_note 27 = .ok (.aload_n 0, 1) := by decide +kernel
theorem dX2_note_28 : decode cX2_note 28 = .ok (.getfield 45, 3) := by decide +kernel
theorem dX2_note_31 : decode cX2_note 31 = .ok (.imul, 1) := by decide +kernel
theorem dX2_note_32 : decode cX2_note 32 = .ok (.invokestatic 48, 3) := by decide +kernel
theorem dX2_note_35 : decode cX2_note 35 = .ok (.putfield 33, 3) := by decide +kernel
theorem dX2_note_38 : decode cX2_note 38 = .ok (.aload_n 0, 1) := by decide +kernel
theorem dX2_note_39 : decode cX2_note 39 = .ok (.getfield 33, 3) := by decide +kernel
theorem dX2_note_42 : decode cX2_note 42 = .ok (.aload_n 0, 1) := by decide +kernel
theorem dX2_note_43 : decode cX2_note 43 = .ok (.getfield 45, 3) := by decide +kernel
theorem dX2_note_46 : decode cX2_note 46 = .ok (.lload_n 1, 1) := by decide +kernel
theorem dX2_note_47 : decode cX2_note 47 = .ok (.lastore, 1) := by decide +kernel
theorem dX2_note_48 : decode cX2_note 48 = .ok (.aload_n 0, 1) := by decide +kernel
theorem dX2_note_49 : decode cX2_note 49 = .ok (.dup, 1) := by decide +kernel
theorem dX2_note_50 : decode cX2_note 50 = .ok (.getfield 45, 3) := by decide +kernel
theorem dX2_note_53 : decode cX2_note 53 = .ok (.iconst 1, 1) := by decide +kernel
theorem dX2_note_54 : decode cX2_note 54 = .ok (.iadd, 1) := by decide +kernel
theorem dX2_note_55 : decode cX2_note 55 = .ok (.putfield 45, 3) := by decide +kernel
theorem dX2_note_58 : decode cX2_note 58 = .ok (.return_, 1) := by decide +kernel
theorem dX2_numberOf_0 : decode cX2_numberOf 0 = .ok (.iconst 0, 1) := by decide +kernel
theorem dX2_numberOf_1 : decode cX2_numberOf 1 = .ok (.istore_n 3, 1) := by decide +kernel
theorem dX2_numberOf_2 : decode cX2_numberOf 2 = .ok (.iload_n 3, 1) := by decide +kernel
theorem dX2_numberOf_3 : decode cX2_numberOf 3 = .ok (.aload_n 0, 1) := by decide +kernel
theorem dX2_numberOf_4 : decode cX2_numberOf 4 = .ok (.getfield 45, 3) := by decide +kernel
theorem dX2_numberOf_7 : decode cX2_numberOf 7 = .ok (.if_icmp .ge 33, 3) := by decide +kernel
theorem dX2_numberOf_10 : decode cX2_numberOf 10 = .ok (.iload_n 3, 1) := by decide +kernel
theorem dX2_numberOf_11 : decode cX2_numberOf 11 = .ok (.aload_n 0, 1) := by decide +kernel
theorem dX2_numberOf_12 : decode cX2_numberOf 12 = .ok (.getfield 33, 3) := by decide +kernel
theorem dX2_numberOf_15 : decode cX2_numberOf 15 = .ok (.arraylength, 1) := by decide +kernel
theorem dX2_numberOf_16 : decode cX2_numberOf 16 = .ok (.if_icmp .ge 24, 3) := by decide +kernel
theorem dX2_numberOf_19 : decode cX2_numberOf 19 = .ok (.aload_n 0, 1) := by decide +kernel
theorem dX2_numberOf_20 : decode cX2_numberOf 20 = .ok (.getfield 33, 3) := by decide +kernel
theorem dX2_numberOf_23 : decode cX2_numberOf 23 = .ok (.iload_n 3, 1) := by decide +kernel
theorem dX2_numberOf_24 : decode cX2_numberOf 24 = .ok (.laload, 1) := by decide +kernel
theorem dX2_numberOf_25 : decode cX2_numberOf 25 = .ok (.lload_n 1, 1) := by decide +kernel
theorem dX2_numberOf_26 : decode cX2_numberOf 26 = .ok (.lcmp, 1) := by decide +kernel
theorem dX2_numberOf_27 : decode cX2_numberOf 27 = .ok (.ifCond .ne 7, 3) := by decide +kernel
theorem dX2_numberOf_30 : decode cX2_numberOf 30 = .ok (.iload_n 3, 1) := by decide +kernel
theorem dX2_numberOf_31 : decode cX2_numberOf 31 = .ok (.iconst 1, 1) := by decide +kernel
theorem dX2_numberOf_32 : decode cX2_numberOf 32 = .ok (.iadd, 1) := by decide +kernel
theorem dX2_numberOf_33 : decode cX2_numberOf 33 = .ok (.ireturn, 1) := by decide +kernel
theorem dX2_numberOf_34 : decode cX2_numberOf 34 = .ok (.iinc 3 1, 3) := by decide +kernel
theorem dX2_numberOf_37 : decode cX2_numberOf 37 = .ok (.goto (-35), 3) := by decide +kernel
theorem dX2_numberOf_40 : decode cX2_numberOf 40 = .ok (.iconst 0, 1) := by decide +kernel
theorem dX2_numberOf_41 : decode cX2_numberOf 41 = .ok (.ireturn, 1) := by decide +kernel
theorem dX2_findMeanings_0 : decode cX2_findMeanings 0 = .ok (.aload_n 0, 1) := by decide +kernel
theorem dX2_findMeanings_1 : decode cX2_findMeanings 1 = .ok (.invokevirtual 54, 3) := by decide +kernel
theorem dX2_findMeanings_4 : decode cX2_findMeanings 4 = .ok (.iconst 0, 1) := by decide +kernel
theorem dX2_findMeanings_5 : decode cX2_findMeanings 5 = .ok (.istore_n 1, 1) := by decide +kernel
theorem dX2_findMeanings_6 : decode cX2_findMeanings 6 = .ok (.iload_n 1, 1) := by decide +kernel
theorem dX2_findMeanings_7 : decode cX2_findMeanings 7 = .ok (.aload_n 0, 1) := by decide +kernel
theorem dX2_findMeanings_8 : decode cX2_findMeanings 8 = .ok (.getfield 12, 3) := by decide +kernel
theorem dX2_findMeanings_11 : decode cX2_findMeanings 11 = .ok (.invokevirtual 57, 3) := by decide +kernel
theorem dX2_findMeanings_14 : decode cX2_findMeanings 14 = .ok (.if_icmp .ge 54, 3) := by decide +kernel
theorem dX2_findMeanings_17 : decode cX2_findMeanings 17 = .ok (.aload_n 0, 1) := by decide +kernel
theorem dX2_findMeanings_18 : decode cX2_findMeanings 18 = .ok (.getfield 12, 3) := by decide +kernel
theorem dX2_findMeanings_21 : decode cX2_findMeanings 21 = .ok (.iload_n 1, 1) := by decide +kernel
theorem dX2_findMeanings_22 : decode cX2_findMeanings 22 = .ok (.invokevirtual 61, 3) := by decide +kernel
theorem dX2_findMeanings_25 : decode cX2_findMeanings 25 = .ok (.checkcast 65, 3) := by decide +kernel
theorem dX2_findMeanings_28 : decode cX2_findMeanings 28 = .ok (.astore_n 2, 1) := by decide +kernel
theorem dX2_findMeanings_29 : decode cX2_findMeanings 29 = .ok (.aload_n 0, 1) := by decide +kernel
theorem dX2_findMeanings_30 : decode cX2_findMeanings 30 = .ok (.aload_n 0, 1) := by decide +kernel
theorem dX2_findMeanings_31 : decode cX2_findMeanings 31 = .ok (.aload_n 2, 1) := by decide +kernel
theorem dX2_findMeanings_32 : decode cX2_findMeanings 32 = .ok (.getfield 67, 3) := by decide +kernel
theorem dX2_findMeanings_35 : decode cX2_findMeanings 35 = .ok (.invokevirtual 71, 3) := by decide +kernel
theorem dX2_findMeanings_38 : decode cX2_findMeanings 38 = .ok (.aload_n 2, 1) := by decide +kernel
theorem dX2_findMeanings_39 : decode cX2_findMeanings 39 = .ok (.if_acmp .ne 7, 3) := by decide +kernel
theorem dX2_findMeanings_42 : decode cX2_findMeanings 42 = .ok (.iconst 1, 1) := by decide +kernel
theorem dX2_findMeanings_43 : decode cX2_findMeanings 43 = .ok (.goto 4, 3) := by decide +kernel
theorem dX2_findMeanings_46 : decode cX2_findMeanings 46 = .ok (.iconst 0, 1) := by decide +kernel
theorem dX2_findMeanings_47 : decode cX2_findMeanings 47 = .ok (.aload_n 2, 1) := by decide +kernel
theorem dX2_findMeanings_48 : decode cX2_findMeanings 48 = .ok (.getfield 75, 3) := by decide +kernel
theorem dX2_findMeanings_51 : decode cX2_findMeanings 51 = .ok (.invokevirtual 78, 3) := by decide +kernel
theorem dX2_findMeanings_54 : decode cX2_findMeanings 54 = .ok (.aload_n 0, 1) := by decide +kernel
theorem dX2_findMeanings_55 : decode cX2_findMeanings 55 = .ok (.aload_n 2, 1) := by decide +kernel
theorem dX2_findMeanings_56 : decode cX2_findMeanings 56 = .ok (.getfield 82, 3) := by decide +kernel
theorem dX2_findMeanings_59 : decode cX2_findMeanings 59 = .ok (.invokevirtual 85, 3) := by decide +kernel
theorem dX2_findMeanings_62 : decode cX2_findMeanings 62 = .ok (.iinc 1 1, 3) := by decide +kernel
theorem dX2_findMeanings_65 : decode cX2_findMeanings 65 = .ok (.goto (-59), 3) := by decide +kernel
theorem dX2_findMeanings_68 : decode cX2_findMeanings 68 = .ok (.iconst 0, 1) := by decide +kernel
theorem dX2_findMeanings_69 : decode cX2_findMeanings 69 = .ok (.istore_n 1, 1) := by decide +kernel
theorem dX2_findMeanings_70 : decode cX2_findMeanings 70 = .ok (.iload_n 1, 1) := by decide +kernel
theorem dX2_findMeanings_71 : decode cX2_findMeanings 71 = .ok (.aload_n 0, 1) := by decide +kernel
theorem dX2_findMeanings_72 : decode cX2_findMeanings 72 = .ok (.getfield 21, 3) := by decide +kernel
theorem dX2_findMeanings_75 : decode cX2_findMeanings 75 = .ok (.invokevirtual 57, 3) := by decide +kernel
theorem dX2_findMeanings_78 : decode cX2_findMeanings 78 = .ok (.if_icmp .ge 55, 3) := by decide +kernel
theorem dX2_findMeanings_81 : decode cX2_findMeanings 81 = .ok (.aload_n 0, 1) := by decide +kernel
theorem dX2_findMeanings_82 : decode cX2_findMeanings 82 = .ok (.getfield 21, 3) := by decide +kernel
theorem dX2_findMeanings_85 : decode cX2_findMeanings 85 = .ok (.iload_n 1, 1) := by decide +kernel
theorem dX2_findMeanings_86 : decode cX2_findMeanings 86 = .ok (.invokevirtual 61, 3) := by decide +kernel
theorem dX2_findMeanings_89 : decode cX2_findMeanings 89 = .ok (.checkcast 89, 3) := by decide +kernel
theorem dX2_findMeanings_92 : decode cX2_findMeanings 92 = .ok (.astore_n 2, 1) := by decide +kernel
theorem dX2_findMeanings_93 : decode cX2_findMeanings 93 = .ok (.aload_n 0, 1) := by decide +kernel
theorem dX2_findMeanings_94 : decode cX2_findMeanings 94 = .ok (.aload_n 0, 1) := by decide +kernel
theorem dX2_findMeanings_95 : decode cX2_findMeanings 95 = .ok (.aload_n 2, 1) := by decide +kernel
theorem dX2_findMeanings_96 : decode cX2_findMeanings 96 = .ok (.getfield 91, 3) := by decide +kernel
theorem dX2_findMeanings_99 : decode cX2_findMeanings 99 = .ok (.aload_n 2, 1) := by decide +kernel
theorem dX2_findMeanings_100 : decode cX2_findMeanings 100 = .ok (.getfield 95, 3) := by decide +kernel
theorem dX2_findMeanings_103 : decode cX2_findMeanings 103 = .ok (.invokevirtual 96, 3) := by decide +kernel
theorem dX2_findMeanings_106 : decode cX2_findMeanings 106 = .ok (.aload_n 2, 1) := by decide +kernel
theorem dX2_findMeanings_107 : decode cX2_findMeanings 107 = .ok (.if_acmp .ne 7, 3) := by decide +kernel
theorem dX2_findMeanings_110 : decode cX2_findMeanings 110 = .ok (.iconst 1, 1) := by decide +kernel
theorem dX2_findMeanings_111 : decode cX2_findMeanings 111 = .ok (.goto 4, 3) := by decide +kernel
theorem dX2_findMeanings_114 : decode cX2_findMeanings 114 = .ok (.iconst 0, 1) := by decide +kernel
theorem dX2_findMeanings_115 : decode cX2_findMeanings 115 = .ok (.aload_n 2, 1) := by decide +kernel
theorem dX2_findMeanings_116 : decode cX2_findMeanings 116 = .ok (.getfield 100, 3) := by decide +kernel
theorem dX2_findMeanings_119 : decode cX2_findMeanings 119 = .ok (.invokevirtual 78, 3) := by decide +kernel
theorem dX2_findMeanings_122 : decode cX2_findMeanings 122 = .ok (.aload_n 0, 1) := by decide +kernel
theorem dX2_findMeanings_123 : decode cX2_findMeanings 123 = .ok (.aload_n 2, 1) := by decide +kernel
theorem dX2_findMeanings_124 : decode cX2_findMeanings 124 = .ok (.invokevirtual 101, 3) := by decide +kernel
theorem dX2_findMeanings_127 : decode cX2_findMeanings 127 = .ok (.iinc 1 1, 3) := by decide +kernel
theorem dX2_findMeanings_130 : decode cX2_findMeanings 130 = .ok (.goto (-60), 3) := by decide +kernel
theorem dX2_findMeanings_133 : decode cX2_findMeanings 133 = .ok (.aload_n 0, 1) := by decide +kernel
theorem dX2_findMeanings_134 : decode cX2_findMeanings 134 = .ok (.aload_n 0, 1) := by decide +kernel
theorem dX2_findMeanings_135 : decode cX2_findMeanings 135 = .ok (.getfield 24, 3) := by decide +kernel
theorem dX2_findMeanings_138 : decode cX2_findMeanings 138 = .ok (.invokevirtual 85, 3) := by decide +kernel
theorem dX2_findMeanings_141 : decode cX2_findMeanings 141 = .ok (.aload_n 0, 1) := by decide +kernel
theorem dX2_findMeanings_142 : decode cX2_findMeanings 142 = .ok (.invokevirtual 105, 3) := by decide +kernel
theorem dX2_findMeanings_145 : decode cX2_findMeanings 145 = .ok (.iconst 0, 1) := by decide +kernel
theorem dX2_findMeanings_146 : decode cX2_findMeanings 146 = .ok (.istore_n 1, 1) := by decide +kernel
theorem dX2_findMeanings_147 : decode cX2_findMeanings 147 = .ok (.iload_n 1, 1) := by decide +kernel
theorem dX2_findMeanings_148 : decode cX2_findMeanings 148 = .ok (.aload_n 0, 1) := by decide +kernel
theorem dX2_findMeanings_149 : decode cX2_findMeanings 149 = .ok (.getfield 30, 3) := by decide +kernel
theorem dX2_findMeanings_152 : decode cX2_findMeanings 152 = .ok (.invokevirtual 57, 3) := by decide +kernel
theorem dX2_findMeanings_155 : decode cX2_findMeanings 155 = .ok (.if_icmp .ge 51, 3) := by decide +kernel
theorem dX2_findMeanings_158 : decode cX2_findMeanings 158 = .ok (.aload_n 0, 1) := by decide +kernel
theorem dX2_findMeanings_159 : decode cX2_findMeanings 159 = .ok (.getfield 30, 3) := by decide +kernel
theorem dX2_findMeanings_162 : decode cX2_findMeanings 162 = .ok (.iload_n 1, 1) := by decide +kernel
theorem dX2_findMeanings_163 : decode cX2_findMeanings 163 = .ok (.invokevirtual 61, 3) := by decide +kernel
theorem dX2_findMeanings_166 : decode cX2_findMeanings 166 = .ok (.checkcast 108, 3) := by decide +kernel
theorem dX2_findMeanings_169 : decode cX2_findMeanings 169 = .ok (.astore_n 2, 1) := by decide +kernel
theorem dX2_findMeanings_170 : decode cX2_findMeanings 170 = .ok (.aload_n 0, 1) := by decide +kernel
theorem dX2_findMeanings_171 : decode cX2_findMeanings 171 = .ok (.aload_n 0, 1) := by decide +kernel
theorem dX2_findMeanings_172 : decode cX2_findMeanings 172 = .ok (.aload_n 2, 1) := by decide +kernel
theorem dX2_findMeanings_173 : decode cX2_findMeanings 173 = .ok (.getfield 110, 3) := by decide +kernel
theorem dX2_findMeanings_176 : decode cX2_findMeanings 176 = .ok (.invokevirtual 111, 3) := by decide +kernel
theorem dX2_findMeanings_179 : decode cX2_findMeanings 179 = .ok (.aload_n 2, 1) := by decide +kernel
theorem dX2_findMeanings_180 : decode cX2_findMeanings 180 = .ok (.if_acmp .ne 7, 3) := by decide +kernel
theorem dX2_findMeanings_183 : decode cX2_findMeanings 183 = .ok (.iconst 1, 1) := by decide +kernel
theorem dX2_findMeanings_184 : decode cX2_findMeanings 184 = .ok (.goto 4, 3) := by decide +kernel
theorem dX2_findMeanings_187 : decode cX2_findMeanings 187 = .ok (.iconst 0, 1) := by decide +kernel
theorem dX2_findMeanings_188 : decode cX2_findMeanings 188 = .ok (.aload_n 2, 1) := by decide +kernel
theorem dX2_findMeanings_189 : decode cX2_findMeanings 189 = .ok (.getfield 115, 3) := by decide +kernel
theorem dX2_findMeanings_192 : decode cX2_findMeanings 192 = .ok (.invokevirtual 78, 3) := by decide +kernel
theorem dX2_findMeanings_195 : decode cX2_findMeanings 195 = .ok (.aload_n 0, 1) := by decide +kernel
theorem dX2_findMeanings_196 : decode cX2_findMeanings 196 = .ok (.aload_n 2, 1) := by decide +kernel
theorem dX2_findMeanings_197 : decode cX2_findMeanings 197 = .ok (.invokevirtual 116, 3) := by decide +kernel
theorem dX2_findMeanings_200 : decode cX2_findMeanings 200 = .ok (.iinc 1 1, 3) := by decide +kernel
theorem dX2_findMeanings_203 : decode cX2_findMeanings 203 = .ok (.goto (-56), 3) := by decide +kernel
theorem dX2_findMeanings_206 : decode cX2_findMeanings 206 = .ok (.return_, 1) := by decide +kernel
theorem dX2_findLayers_0 : decode cX2_findLayers 0 = .ok (.iconst 0, 1) := by decide +kernel
theorem dX2_findLayers_1 : decode cX2_findLayers 1 = .ok (.istore_n 1, 1) := by decide +kernel
theorem dX2_findLayers_2 : decode cX2_findLayers 2 = .ok (.iload_n 1, 1) := by decide +kernel
theorem dX2_findLayers_3 : decode cX2_findLayers 3 = .ok (.aload_n 0, 1) := by decide +kernel
theorem dX2_findLayers_4 : decode cX2_findLayers 4 = .ok (.getfield 18, 3) := by decide +kernel
theorem dX2_findLayers_7 : decode cX2_findLayers 7 = .ok (.invokevirtual 57, 3) := by decide +kernel
theorem dX2_findLayers_10 : decode cX2_findLayers 10 = .ok (.if_icmp .ge 87, 3) := by decide +kernel
theorem dX2_findLayers_13 : decode cX2_findLayers 13 = .ok (.aload_n 0, 1) := by decide +kernel
theorem dX2_findLayers_14 : decode cX2_findLayers 14 = .ok (.getfield 18, 3) := by decide +kernel
theorem dX2_findLayers_17 : decode cX2_findLayers 17 = .ok (.iload_n 1, 1) := by decide +kernel
theorem dX2_findLayers_18 : decode cX2_findLayers 18 = .ok (.invokevirtual 61, 3) := by decide +kernel
theorem dX2_findLayers_21 : decode cX2_findLayers 21 = .ok (.checkcast 120, 3) := by decide +kernel
theorem dX2_findLayers_24 : decode cX2_findLayers 24 = .ok (.astore_n 2, 1) := by decide +kernel
theorem dX2_findLayers_25 : decode cX2_findLayers 25 = .ok (.aload_n 0, 1) := by decide +kernel
theorem dX2_findLayers_26 : decode cX2_findLayers 26 = .ok (.aload_n 0, 1) := by decide +kernel
theorem dX2_findLayers_27 : decode cX2_findLayers 27 = .ok (.aload_n 2, 1) := by decide +kernel
theorem dX2_findLayers_28 : decode cX2_findLayers 28 = .ok (.getfield 122, 3) := by decide +kernel
theorem dX2_findLayers_31 : decode cX2_findLayers 31 = .ok (.invokevirtual 123, 3) := by decide +kernel
theorem dX2_findLayers_34 : decode cX2_findLayers 34 = .ok (.aload_n 2, 1) := by decide +kernel
theorem dX2_findLayers_35 : decode cX2_findLayers 35 = .ok (.if_acmp .ne 7, 3) := by decide +kernel
theorem dX2_findLayers_38 : decode cX2_findLayers 38 = .ok (.iconst 1, 1) := by decide +kernel
theorem dX2_findLayers_39 : decode cX2_findLayers 39 = .ok (.goto 4, 3) := by decide +kernel
theorem dX2_findLayers_42 : decode cX2_findLayers 42 = .ok (.iconst 0, 1) := by decide +kernel
theorem dX2_findLayers_43 : decode cX2_findLayers 43 = .ok (.aload_n 2, 1) := by decide +kernel
theorem dX2_findLayers_44 : decode cX2_findLayers 44 = .ok (.getfield 127, 3) := by decide +kernel
theorem dX2_findLayers_47 : decode cX2_findLayers 47 = .ok (.invokevirtual 78, 3) := by decide +kernel
theorem dX2_findLayers_50 : decode cX2_findLayers 50 = .ok (.aload_n 2, 1) := by decide +kernel
theorem dX2_findLayers_51 : decode cX2_findLayers 51 = .ok (.getfield 128, 3) := by decide +kernel
theorem dX2_findLayers_54 : decode cX2_findLayers 54 = .ok (.lconst 0, 1) := by decide +kernel
theorem dX2_findLayers_55 : decode cX2_findLayers 55 = .ok (.lcmp, 1) := by decide +kernel
theorem dX2_findLayers_56 : decode cX2_findLayers 56 = .ok (.ifCond .eq 35, 3) := by decide +kernel
theorem dX2_findLayers_59 : decode cX2_findLayers 59 = .ok (.aload_n 2, 1) := by decide +kernel
theorem dX2_findLayers_60 : decode cX2_findLayers 60 = .ok (.aload_n 0, 1) := by decide +kernel
theorem dX2_findLayers_61 : decode cX2_findLayers 61 = .ok (.aload_n 2, 1) := by decide +kernel
theorem dX2_findLayers_62 : decode cX2_findLayers 62 = .ok (.getfield 128, 3) := by decide +kernel
theorem dX2_findLayers_65 : decode cX2_findLayers 65 = .ok (.invokevirtual 123, 3) := by decide +kernel
theorem dX2_findLayers_68 : decode cX2_findLayers 68 = .ok (.putfield 131, 3) := by decide +kernel
theorem dX2_findLayers_71 : decode cX2_findLayers 71 = .ok (.aload_n 0, 1) := by decide +kernel
theorem dX2_findLayers_72 : decode cX2_findLayers 72 = .ok (.aload_n 2, 1) := by decide +kernel
theorem dX2_findLayers_73 : decode cX2_findLayers 73 = .ok (.getfield 131, 3) := by decide +kernel
theorem dX2_findLayers_76 : decode cX2_findLayers 76 = .ok (.ifnull 7, 3) := by decide +kernel
theorem dX2_findLayers_79 : decode cX2_findLayers 79 = .ok (.iconst 1, 1) := by decide +kernel
theorem dX2_findLayers_80 : decode cX2_findLayers 80 = .ok (.goto 4, 3) := by decide +kernel
theorem dX2_findLayers_83 : decode cX2_findLayers 83 = .ok (.iconst 0, 1) := by decide +kernel
theorem dX2_findLayers_84 : decode cX2_findLayers 84 = .ok (.aload_n 2, 1) := by decide +kernel
theorem dX2_findLayers_85 : decode cX2_findLayers 85 = .ok (.getfield 134, 3) := by decide +kernel
theorem dX2_findLayers_88 : decode cX2_findLayers 88 = .ok (.invokevirtual 78, 3) := by decide +kernel
theorem dX2_findLayers_91 : decode cX2_findLayers 91 = .ok (.iinc 1 1, 3) := by decide +kernel
theorem dX2_findLayers_94 : decode cX2_findLayers 94 = .ok (.goto (-92), 3) := by decide +kernel
theorem dX2_findLayers_97 : decode cX2_findLayers 97 = .ok (.iconst 0, 1) := by decide +kernel
theorem dX2_findLayers_98 : decode cX2_findLayers 98 = .ok (.istore_n 1, 1) := by decide +kernel
theorem dX2_findLayers_99 : decode cX2_findLayers 99 = .ok (.iload_n 1, 1) := by decide +kernel
theorem dX2_findLayers_100 : decode cX2_findLayers 100 = .ok (.aload_n 0, 1) := by decide +kernel
theorem dX2_findLayers_101 : decode cX2_findLayers 101 = .ok (.getfield 18, 3) := by decide +kernel
theorem dX2_findLayers_104 : decode cX2_findLayers 104 = .ok (.invokevirtual 57, 3) := by decide +kernel
theorem dX2_findLayers_107 : decode cX2_findLayers 107 = .ok (.if_icmp .ge 53, 3) := by decide +kernel
theorem dX2_findLayers_110 : decode cX2_findLayers 110 = .ok (.aload_n 0, 1) := by decide +kernel
theorem dX2_findLayers_111 : decode cX2_findLayers 111 = .ok (.getfield 18, 3) := by decide +kernel
theorem dX2_findLayers_114 : decode cX2_findLayers 114 = .ok (.iload_n 1, 1) := by decide +kernel
theorem dX2_findLayers_115 : decode cX2_findLayers 115 = .ok (.invokevirtual 61, 3) := by decide +kernel
theorem dX2_findLayers_118 : decode cX2_findLayers 118 = .ok (.checkcast 120, 3) := by decide +kernel
theorem dX2_findLayers_121 : decode cX2_findLayers 121 = .ok (.astore_n 2, 1) := by decide +kernel
theorem dX2_findLayers_122 : decode cX2_findLayers 122 = .ok (.aload_n 2, 1) := by decide +kernel
theorem dX2_findLayers_123 : decode cX2_findLayers 123 = .ok (.invokevirtual 137, 3) := by decide +kernel
theorem dX2_findLayers_126 : decode cX2_findLayers 126 = .ok (.ifCond .eq 28, 3) := by decide +kernel
theorem dX2_findLayers_129 : decode cX2_findLayers 129 = .ok (.aload_n 0, 1) := by decide +kernel
theorem dX2_findLayers_130 : decode cX2_findLayers 130 = .ok (.aload_n 2, 1) := by decide +kernel
theorem dX2_findLayers_131 : decode cX2_findLayers 131 = .ok (.getfield 134, 3) := by decide +kernel
theorem dX2_findLayers_134 : decode cX2_findLayers 134 = .ok (.invokevirtual 141, 3) := by decide +kernel
theorem dX2_findLayers_137 : decode cX2_findLayers 137 = .ok (.ifCond .eq 17, 3) := by decide +kernel
theorem dX2_findLayers_140 : decode cX2_findLayers 140 = .ok (.aload_n 0, 1) := by decide +kernel
theorem dX2_findLayers_141 : decode cX2_findLayers 141 = .ok (.iconst 0, 1) := by decide +kernel
theorem dX2_findLayers_142 : decode cX2_findLayers 142 = .ok (.aload_n 2, 1) := by decide +kernel
theorem dX2_findLayers_143 : decode cX2_findLayers 143 = .ok (.getfield 134, 3) := by decide +kernel
theorem dX2_findLayers_146 : decode cX2_findLayers 146 = .ok (.invokevirtual 78, 3) := by decide +kernel
theorem dX2_findLayers_149 : decode cX2_findLayers 149 = .ok (.aload_n 0, 1) := by decide +kernel
theorem dX2_findLayers_150 : decode cX2_findLayers 150 = .ok (.aload_n 2, 1) := by decide +kernel
theorem dX2_findLayers_151 : decode cX2_findLayers 151 = .ok (.putfield 145, 3) := by decide +kernel
theorem dX2_findLayers_154 : decode cX2_findLayers 154 = .ok (.iinc 1 1, 3) := by decide +kernel
theorem dX2_findLayers_157 : decode cX2_findLayers 157 = .ok (.goto (-58), 3) := by decide +kernel
theorem dX2_findLayers_160 : decode cX2_findLayers 160 = .ok (.return_, 1) := by decide +kernel
theorem dX2_findParameters_0 : decode cX2_findParameters 0 = .ok (.iconst 0, 1) := by decide +kernel
theorem dX2_findParameters_1 : decode cX2_findParameters 1 = .ok (.istore_n 2, 1) := by decide +kernel
theorem dX2_findParameters_2 : decode cX2_findParameters 2 = .ok (.iload_n 2, 1) := by decide +kernel
theorem dX2_findParameters_3 : decode cX2_findParameters 3 = .ok (.aload_n 1, 1) := by decide +kernel
theorem dX2_findParameters_4 : decode cX2_findParameters 4 = .ok (.getfield 148, 3) := by decide +kernel
theorem dX2_findParameters_7 : decode cX2_findParameters 7 = .ok (.invokevirtual 57, 3) := by decide +kernel
theorem dX2_findParameters_10 : decode cX2_findParameters 10 = .ok (.if_icmp .ge 142, 3) := by decide +kernel
theorem dX2_findParameters_13 : decode cX2_findParameters 13 = .ok (.aload_n 1, 1) := by decide +kernel
theorem dX2_findParameters_14 : decode cX2_findParameters 14 = .ok (.getfield 148, 3) := by decide +kernel
theorem dX2_findParameters_17 : decode cX2_findParameters 17 = .ok (.iload_n 2, 1) := by decide +kernel
theorem dX2_findParameters_18 : decode cX2_findParameters 18 = .ok (.invokevirtual 61, 3) := by decide +kernel
theorem dX2_findParameters_21 : decode cX2_findParameters 21 = .ok (.checkcast 151, 3) := by decide +kernel
theorem dX2_findParameters_24 : decode cX2_findParameters 24 = .ok (.astore_n 3, 1) := by decide +kernel
theorem dX2_findParameters_25 : decode cX2_findParameters 25 = .ok (.aload_n 0, 1) := by decide +kernel
theorem dX2_findParameters_26 : decode cX2_findParameters 26 = .ok (.aload_n 1, 1) := by decide +kernel
theorem dX2_findParameters_27 : decode cX2_findParameters 27 = .ok (.aload_n 3, 1) := by decide +kernel
theorem dX2_findParameters_28 : decode cX2_findParameters 28 = .ok (.getfield 153, 3) := by decide +kernel
theorem dX2_findParameters_31 : decode cX2_findParameters 31 = .ok (.invokevirtual 154, 3) := by decide +kernel
theorem dX2_findParameters_34 : decode cX2_findParameters 34 = .ok (.aload_n 3, 1) := by decide +kernel
theorem dX2_findParameters_35 : decode cX2_findParameters 35 = .ok (.if_acmp .ne 7, 3) := by decide +kernel
theorem dX2_findParameters_38 : decode cX2_findParameters 38 = .ok (.iconst 1, 1) := by decide +kernel
theorem dX2_findParameters_39 : decode cX2_findParameters 39 = .ok (.goto 4, 3) := by decide +kernel
theorem dX2_findParameters_42 : decode cX2_findParameters 42 = .ok (.iconst 0, 1) := by decide +kernel
theorem dX2_findParameters_43 : decode cX2_findParameters 43 = .ok (.aload_n 3, 1) := by decide +kernel
theorem dX2_findParameters_44 : decode cX2_findParameters 44 = .ok (.getfield 158, 3) := by decide +kernel
theorem dX2_findParameters_47 : decode cX2_findParameters 47 = .ok (.invokevirtual 78, 3) := by decide +kernel
theorem dX2_findParameters_50 : decode cX2_findParameters 50 = .ok (.aload_n 3, 1) := by decide +kernel
theorem dX2_findParameters_51 : decode cX2_findParameters 51 = .ok (.aload_n 0, 1) := by decide +kernel
theorem dX2_findParameters_52 : decode cX2_findParameters 52 = .ok (.aload_n 3, 1) := by decide +kernel
theorem dX2_findParameters_53 : decode cX2_findParameters 53 = .ok (.getfield 159, 3) := by decide +kernel
theorem dX2_findParameters_56 : decode cX2_findParameters 56 = .ok (.invokevirtual 71, 3) := by decide +kernel
theorem dX2_findParameters_59 : decode cX2_findParameters 59 = .ok (.putfield 162, 3) := by decide +kernel
theorem dX2_findParameters_62 : decode cX2_findParameters 62 = .ok (.aload_n 0, 1) := by decide +kernel
theorem dX2_findParameters_63 : decode cX2_findParameters 63 = .ok (.aload_n 3, 1) := by decide +kernel
theorem dX2_findParameters_64 : decode cX2_findParameters 64 = .ok (.getfield 162, 3) := by decide +kernel
theorem dX2_findParameters_67 : decode cX2_findParameters 67 = .ok (.ifnull 7, 3) := by decide +kernel
theorem dX2_findParameters_70 : decode cX2_findParameters 70 = .ok (.iconst 1, 1) := by decide +kernel
theorem dX2_findParameters_71 : decode cX2_findParameters 71 = .ok (.goto 4, 3) := by decide +kernel
theorem dX2_findParameters_74 : decode cX2_findParameters 74 = .ok (.iconst 0, 1) := by decide +kernel
theorem dX2_findParameters_75 : decode cX2_findParameters 75 = .ok (.aload_n 3, 1) := by decide +kernel
theorem dX2_findParameters_76 : decode cX2_findParameters 76 = .ok (.getfield 166, 3) := by decide +kernel
theorem dX2_findParameters_79 : decode cX2_findParameters 79 = .ok (.invokevirtual 78, 3) := by decide +kernel
theorem dX2_findParameters_82 : decode cX2_findParameters 82 = .ok (.aload_n 3, 1) := by decide +kernel
theorem dX2_findParameters_83 : decode cX2_findParameters 83 = .ok (.getfield 169, 3) := by decide +kernel
theorem dX2_findParameters_86 : decode cX2_findParameters 86 = .ok (.ifCond .eq 60, 3) := by decide +kernel
theorem dX2_findParameters_89 : decode cX2_findParameters 89 = .ok (.aload_n 1, 1) := by decide +kernel
theorem dX2_findParameters_90 : decode cX2_findParameters 90 = .ok (.aload_n 3, 1) := by decide +kernel
theorem dX2_findParameters_91 : decode cX2_findParameters 91 = .ok (.getfield 172, 3) := by decide +kernel
theorem dX2_findParameters_94 : decode cX2_findParameters 94 = .ok (.invokevirtual 154, 3) := by decide +kernel
theorem dX2_findParameters_97 : decode cX2_findParameters 97 = .ok (.astore 4, 2) := by decide +kernel
theorem dX2_findParameters_99 : decode cX2_findParameters 99 = .ok (.aload_n 3, 1) := by decide +kernel
theorem dX2_findParameters_100 : decode cX2_findParameters 100 = .ok (.aload 4, 2) := by decide +kernel
theorem dX2_findParameters_102 : decode cX2_findParameters 102 = .ok (.ifnull 20, 3) := by decide +kernel
theorem dX2_findParameters_105 : decode cX2_findParameters 105 = .ok (.aload 4, 2) := by decide +kernel
theorem dX2_findParameters_107 : decode cX2_findParameters 107 = .ok (.getfield 175, 3) := by decide +kernel
theorem dX2_findParameters_110 : decode cX2_findParameters 110 = .ok (.aload_n 3, 1) := by decide +kernel
theorem dX2_findParameters_111 : decode cX2_findParameters 111 = .ok (.getfield 175, 3) := by decide +kernel
theorem dX2_findParameters_114 : decode cX2_findParameters 114 = .ok (.if_icmp .ge 8, 3) := by decide +kernel
theorem dX2_findParameters_117 : decode cX2_findParameters 117 = .ok (.aload 4, 2) := by decide +kernel
theorem dX2_findParameters_119 : decode cX2_findParameters 119 = .ok (.goto 4, 3) := by decide +kernel
theorem dX2_findParameters_122 : decode cX2_findParameters 122 = .ok (.aconst_null, 1) := by decide +kernel
theorem dX2_findParameters_123 : decode cX2_findParameters 123 = .ok (.putfield 178, 3) := by decide +kernel
theorem dX2_findParameters_126 : decode cX2_findParameters 126 = .ok (.aload_n 0, 1) := by decide +kernel
theorem dX2_findParameters_127 : decode cX2_findParameters 127 = .ok (.aload_n 3, 1) := by decide +kernel
theorem dX2_findParameters_128 : decode cX2_findParameters 128 = .ok (.getfield 178, 3) := by decide +kernel
theorem dX2_findParameters_131 : decode cX2_findParameters 131 = .ok (.ifnull 7, 3) := by decide +kernel
theorem dX2_findParameters_134 : decode cX2_findParameters 134 = .ok (.iconst 1, 1) := by decide +kernel
theorem dX2_findParameters_135 : decode cX2_findParameters 135 = .ok (.goto 4, 3) := by decide +kernel
theorem dX2_findParameters_138 : decode cX2_findParameters 138 = .ok (.iconst 0, 1) := by decide +kernel
theorem dX2_findParameters_139 : decode cX2_findParameters 139 = .ok (.aload_n 3, 1) := by decide +kernel
theorem dX2_findParameters_140 : decode cX2_findParameters 140 = .ok (.getfield 182, 3) := by decide +kernel
theorem dX2_findParameters_143 : decode cX2_findParameters 143 = .ok (.invokevirtual 78, 3) := by decide +kernel
theorem dX2_findParameters_146 : decode cX2_findParameters 146 = .ok (.iinc 2 1, 3) := by decide +kernel
theorem dX2_findParameters_149 : decode cX2_findParameters 149 = .ok (.goto (-147), 3) := by decide +kernel
theorem dX2_findParameters_152 : decode cX2_findParameters 152 = .ok (.return_, 1) := by decide +kernel
theorem dX2_findVariants_0 : decode cX2_findVariants 0 = .ok (.aload_n 0, 1) := by decide +kernel
theorem dX2_findVariants_1 : decode cX2_findVariants 1 = .ok (.aload_n 0, 1) := by decide +kernel
theorem dX2_findVariants_2 : decode cX2_findVariants 2 = .ok (.getfield 27, 3) := by decide +kernel
theorem dX2_findVariants_5 : decode cX2_findVariants 5 = .ok (.invokevirtual 85, 3) := by decide +kernel
theorem dX2_findVariants_8 : decode cX2_findVariants 8 = .ok (.iconst 0, 1) := by decide +kernel
theorem dX2_findVariants_9 : decode cX2_findVariants 9 = .ok (.istore_n 1, 1) := by decide +kernel
theorem dX2_findVariants_10 : decode cX2_findVariants 10 = .ok (.iload_n 1, 1) := by decide +kernel
theorem dX2_findVariants_11 : decode cX2_findVariants 11 = .ok (.aload_n 0, 1) := by decide +kernel
theorem dX2_findVariants_12 : decode cX2_findVariants 12 = .ok (.getfield 27, 3) := by decide +kernel
theorem dX2_findVariants_15 : decode cX2_findVariants 15 = .ok (.invokevirtual 57, 3) := by decide +kernel
theorem dX2_findVariants_18 : decode cX2_findVariants 18 = .ok (.if_icmp .ge 53, 3) := by decide +kernel
theorem dX2_findVariants_21 : decode cX2_findVariants 21 = .ok (.aload_n 0, 1) := by decide +kernel
theorem dX2_findVariants_22 : decode cX2_findVariants 22 = .ok (.getfield 27, 3) := by decide +kernel
theorem dX2_findVariants_25 : decode cX2_findVariants 25 = .ok (.iload_n 1, 1) := by decide +kernel
theorem dX2_findVariants_26 : decode cX2_findVariants 26 = .ok (.invokevirtual 61, 3) := by decide +kernel
theorem dX2_findVariants_29 : decode cX2_findVariants 29 = .ok (.checkcast 185, 3) := by decide +kernel
theorem dX2_findVariants_32 : decode cX2_findVariants 32 = .ok (.astore_n 2, 1) := by decide +kernel
theorem dX2_findVariants_33 : decode cX2_findVariants 33 = .ok (.aload_n 2, 1) := by decide +kernel
theorem dX2_findVariants_34 : decode cX2_findVariants 34 = .ok (.aload_n 0, 1) := by decide +kernel
theorem dX2_findVariants_35 : decode cX2_findVariants 35 = .ok (.aload_n 2, 1) := by decide +kernel
theorem dX2_findVariants_36 : decode cX2_findVariants 36 = .ok (.getfield 187, 3) := by decide +kernel
theorem dX2_findVariants_39 : decode cX2_findVariants 39 = .ok (.invokevirtual 123, 3) := by decide +kernel
theorem dX2_findVariants_42 : decode cX2_findVariants 42 = .ok (.putfield 188, 3) := by decide +kernel
theorem dX2_findVariants_45 : decode cX2_findVariants 45 = .ok (.aload_n 0, 1) := by decide +kernel
theorem dX2_findVariants_46 : decode cX2_findVariants 46 = .ok (.aload_n 2, 1) := by decide +kernel
theorem dX2_findVariants_47 : decode cX2_findVariants 47 = .ok (.getfield 188, 3) := by decide +kernel
theorem dX2_findVariants_50 : decode cX2_findVariants 50 = .ok (.ifnull 7, 3) := by decide +kernel
theorem dX2_findVariants_53 : decode cX2_findVariants 53 = .ok (.iconst 1, 1) := by decide +kernel
theorem dX2_findVariants_54 : decode cX2_findVariants 54 = .ok (.goto 4, 3) := by decide +kernel
theorem dX2_findVariants_57 : decode cX2_findVariants 57 = .ok (.iconst 0, 1) := by decide +kernel
theorem dX2_findVariants_58 : decode cX2_findVariants 58 = .ok (.aload_n 2, 1) := by decide +kernel
theorem dX2_findVariants_59 : decode cX2_findVariants 59 = .ok (.getfield 189, 3) := by decide +kernel
theorem dX2_findVariants_62 : decode cX2_findVariants 62 = .ok (.invokevirtual 78, 3) := by decide +kernel
theorem dX2_findVariants_65 : decode cX2_findVariants 65 = .ok (.iinc 1 1, 3) := by decide +kernel
theorem dX2_findVariants_68 : decode cX2_findVariants 68 = .ok (.goto (-58), 3) := by decide +kernel
theorem dX2_findVariants_71 : decode cX2_findVariants 71 = .ok (.return_, 1) := by decide +kernel
theorem dX2_findGets_0 : decode cX2_findGets 0 = .ok (.iconst 0, 1) := by decide +kernel
theorem dX2_findGets_1 : decode cX2_findGets 1 = .ok (.istore_n 2, 1) := by decide +kernel
theorem dX2_findGets_2 : decode cX2_findGets 2 = .ok (.iload_n 2, 1) := by decide +kernel
theorem dX2_findGets_3 : decode cX2_findGets 3 = .ok (.aload_n 1, 1) := by decide +kernel
theorem dX2_findGets_4 : decode cX2_findGets 4 = .ok (.getfield 192, 3) := by decide +kernel
theorem dX2_findGets_7 : decode cX2_findGets 7 = .ok (.invokevirtual 57, 3) := by decide +kernel
theorem dX2_findGets_10 : decode cX2_findGets 10 = .ok (.if_icmp .ge 109, 3) := by decide +kernel
theorem dX2_findGets_13 : decode cX2_findGets 13 = .ok (.aload_n 1, 1) := by decide +kernel
theorem dX2_findGets_14 : decode cX2_findGets 14 = .ok (.getfield 192, 3) := by decide +kernel
theorem dX2_findGets_17 : decode cX2_findGets 17 = .ok (.iload_n 2, 1) := by decide +kernel
theorem dX2_findGets_18 : decode cX2_findGets 18 = .ok (.invokevirtual 61, 3) := by decide +kernel
theorem dX2_findGets_21 : decode cX2_findGets 21 = .ok (.checkcast 195, 3) := by decide +kernel
theorem dX2_findGets_24 : decode cX2_findGets 24 = .ok (.astore_n 3, 1) := by decide +kernel
theorem dX2_findGets_25 : decode cX2_findGets 25 = .ok (.aload_n 3, 1) := by decide +kernel
theorem dX2_findGets_26 : decode cX2_findGets 26 = .ok (.getfield 197, 3) := by decide +kernel
theorem dX2_findGets_29 : decode cX2_findGets 29 = .ok (.getstatic 200, 3) := by decide +kernel
theorem dX2_findGets_32 : decode cX2_findGets 32 = .ok (.if_acmp .ne 81, 3) := by decide +kernel
theorem dX2_findGets_35 : decode cX2_findGets 35 = .ok (.aload_n 3, 1) := by decide +kernel
theorem dX2_findGets_36 : decode cX2_findGets 36 = .ok (.aload_n 0, 1) := by decide +kernel
theorem dX2_findGets_37 : decode cX2_findGets 37 = .ok (.aload_n 3, 1) := by decide +kernel
theorem dX2_findGets_38 : decode cX2_findGets 38 = .ok (.getfield 205, 3) := by decide +kernel
theorem dX2_findGets_41 : decode cX2_findGets 41 = .ok (.invokevirtual 208, 3) := by decide +kernel
theorem dX2_findGets_44 : decode cX2_findGets 44 = .ok (.putfield 212, 3) := by decide +kernel
theorem dX2_findGets_47 : decode cX2_findGets 47 = .ok (.aload_n 0, 1) := by decide +kernel
theorem dX2_findGets_48 : decode cX2_findGets 48 = .ok (.aload_n 3, 1) := by decide +kernel
theorem dX2_findGets_49 : decode cX2_findGets 49 = .ok (.getfield 212, 3) := by decide +kernel
theorem dX2_findGets_52 : decode cX2_findGets 52 = .ok (.ifnull 7, 3) := by decide +kernel
theorem dX2_findGets_55 : decode cX2_findGets 55 = .ok (.iconst 1, 1) := by decide +kernel
theorem dX2_findGets_56 : decode cX2_findGets 56 = .ok (.goto 4, 3) := by decide +kernel
theorem dX2_findGets_59 : decode cX2_findGets 59 = .ok (.iconst 0, 1) := by decide +kernel
theorem dX2_findGets_60 : decode cX2_findGets 60 = .ok (.aload_n 3, 1) := by decide +kernel
theorem dX2_findGets_61 : decode cX2_findGets 61 = .ok (.getfield 216, 3) := by decide +kernel
theorem dX2_findGets_64 : decode cX2_findGets 64 = .ok (.invokevirtual 78, 3) := by decide +kernel
theorem dX2_findGets_67 : decode cX2_findGets 67 = .ok (.aload_n 3, 1) := by decide +kernel
theorem dX2_findGets_68 : decode cX2_findGets 68 = .ok (.aload_n 3, 1) := by decide +kernel
theorem dX2_findGets_69 : decode cX2_findGets 69 = .ok (.getfield 212, 3) := by decide +kernel
theorem dX2_findGets_72 : decode cX2_findGets 72 = .ok (.ifnonnull 7, 3) := by decide +kernel
theorem dX2_findGets_75 : decode cX2_findGets 75 = .ok (.aconst_null, 1) := by decide +kernel
theorem dX2_findGets_76 : decode cX2_findGets 76 = .ok (.goto 14, 3) := by decide +kernel
theorem dX2_findGets_79 : decode cX2_findGets 79 = .ok (.aload_n 3, 1) := by decide +kernel
theorem dX2_findGets_80 : decode cX2_findGets 80 = .ok (.getfield 212, 3) := by decide +kernel
theorem dX2_findGets_83 : decode cX2_findGets 83 = .ok (.aload_n 3, 1) := by decide +kernel
theorem dX2_findGets_84 : decode cX2_findGets 84 = .ok (.getfield 219, 3) := by decide +kernel
theorem dX2_findGets_87 : decode cX2_findGets 87 = .ok (.invokevirtual 154, 3) := by decide +kernel
theorem dX2_findGets_90 : decode cX2_findGets 90 = .ok (.putfield 222, 3) := by decide +kernel
theorem dX2_findGets_93 : decode cX2_findGets 93 = .ok (.aload_n 0, 1) := by decide +kernel
theorem dX2_findGets_94 : decode cX2_findGets 94 = .ok (.aload_n 3, 1) := by decide +kernel
theorem dX2_findGets_95 : decode cX2_findGets 95 = .ok (.getfield 222, 3) := by decide +kernel
theorem dX2_findGets_98 : decode cX2_findGets 98 = .ok (.ifnull 7, 3) := by decide +kernel
theorem dX2_findGets_101 : decode cX2_findGets 101 = .ok (.iconst 1, 1) := by decide +kernel
theorem dX2_findGets_102 : decode cX2_findGets 102 = .ok (.goto 4, 3) := by decide +kernel
theorem dX2_findGets_105 : decode cX2_findGets 105 = .ok (.iconst 0, 1) := by decide +kernel
theorem dX2_findGets_106 : decode cX2_findGets 106 = .ok (.aload_n 3, 1) := by decide +kernel
theorem dX2_findGets_107 : decode cX2_findGets 107 = .ok (.getfield 225, 3) := by decide +kernel
theorem dX2_findGets_110 : decode cX2_findGets 110 = .ok (.invokevirtual 78, 3) := by decide +kernel
theorem dX2_findGets_113 : decode cX2_findGets 113 = .ok (.iinc 2 1, 3) := by decide +kernel
theorem dX2_findGets_116 : decode cX2_findGets 116 = .ok (.goto (-114), 3) := by decide +kernel
theorem dX2_findGets_119 : decode cX2_findGets 119 = .ok (.return_, 1) := by decide +kernel
theorem dX2_expectNumbersOnce_0 : decode cX2_expectNumbersOnce 0 = .ok (.iconst 0, 1) := by decide +kernel
theorem dX2_expectNumbersOnce_1 : decode cX2_expectNumbersOnce 1 = .ok (.istore_n 2, 1) := by decide +kernel
theorem dX2_expectNumbersOnce_2 : decode cX2_expectNumbersOnce 2 = .ok (.iload_n 2, 1) := by decide +kernel
theorem dX2_expectNumbersOnce_3 : decode cX2_expectNumbersOnce 3 = .ok (.aload_n 1, 1) := by decide +kernel
theorem dX2_expectNumbersOnce_4 : decode cX2_expectNumbersOnce 4 = .ok (.invokevirtual 57, 3) := by decide +kernel
theorem dX2_expectNumbersOnce_7 : decode cX2_expectNumbersOnce 7 = .ok (.if_icmp .ge 44, 3) := by decide +kernel
theorem dX2_expectNumbersOnce_10 : decode cX2_expectNumbersOnce 10 = .ok (.aload_n 1, 1) := by decide +kernel
theorem dX2_expectNumbersOnce_11 : decode cX2_expectNumbersOnce 11 = .ok (.iload_n 2, 1) := by decide +kernel
theorem dX2_expectNumbersOnce_12 : decode cX2_expectNumbersOnce 12 = .ok (.invokevirtual 61, 3) := by decide +kernel
theorem dX2_expectNumbersOnce_15 : decode cX2_expectNumbersOnce 15 = .ok (.checkcast 185, 3) := by decide +kernel
theorem dX2_expectNumbersOnce_18 : decode cX2_expectNumbersOnce 18 = .ok (.astore_n 3, 1) := by decide +kernel
theorem dX2_expectNumbersOnce_19 : decode cX2_expectNumbersOnce 19 = .ok (.aload_n 0, 1) := by decide +kernel
theorem dX2_expectNumbersOnce_20 : decode cX2_expectNumbersOnce 20 = .ok (.aload_n 1, 1) := by decide +kernel
theorem dX2_expectNumbersOnce_21 : decode cX2_expectNumbersOnce 21 = .ok (.aload_n 3, 1) := by decide +kernel
theorem dX2_expectNumbersOnce_22 : decode cX2_expectNumbersOnce 22 = .ok (.getfield 228, 3) := by decide +kernel
theorem dX2_expectNumbersOnce_25 : decode cX2_expectNumbersOnce 25 = .ok (.i2l, 1) := by decide +kernel
theorem dX2_expectNumbersOnce_26 : decode cX2_expectNumbersOnce 26 = .ok (.invokestatic 231, 3) := by decide +kernel
theorem dX2_expectNumbersOnce_29 : decode cX2_expectNumbersOnce 29 = .ok (.aload_n 3, 1) := by decide +kernel
theorem dX2_expectNumbersOnce_30 : decode cX2_expectNumbersOnce 30 = .ok (.if_acmp .ne 7, 3) := by decide +kernel
theorem dX2_expectNumbersOnce_33 : decode cX2_expectNumbersOnce 33 = .ok (.iconst 1, 1) := by decide +kernel
theorem dX2_expectNumbersOnce_34 : decode cX2_expectNumbersOnce 34 = .ok (.goto 4, 3) := by decide +kernel
theorem dX2_expectNumbersOnce_37 : decode cX2_expectNumbersOnce 37 = .ok (.iconst 0, 1) := by decide +kernel
theorem dX2_expectNumbersOnce_38 : decode cX2_expectNumbersOnce 38 = .ok (.aload_n 3, 1) := by decide +kernel
theorem dX2_expectNumbersOnce_39 : decode cX2_expectNumbersOnce 39 = .ok (.getfield 235, 3) := by decide +kernel
theorem dX2_expectNumbersOnce_42 : decode cX2_expectNumbersOnce 42 = .ok (.invokevirtual 78, 3) := by decide +kernel
theorem dX2_expectNumbersOnce_45 : decode cX2_expectNumbersOnce 45 = .ok (.iinc 2 1, 3) := by decide +kernel
theorem dX2_expectNumbersOnce_48 : decode cX2_expectNumbersOnce 48 = .ok (.goto (-46), 3) := by decide +kernel
theorem dX2_expectNumbersOnce_51 : decode cX2_expectNumbersOnce 51 = .ok (.return_, 1) := by decide +kernel
theorem dX2_expect_0 : decode cX2_expect 0 = .ok (.iload_n 1, 1) := by decide +kernel
theorem dX2_expect_1 : decode cX2_expect 1 = .ok (.ifCond .ne 21, 3) := by decide +kernel
theorem dX2_expect_4 : decode cX2_expect 4 = .ok (.aload_n 0, 1) := by decide +kernel
theorem dX2_expect_5 : decode cX2_expect 5 = .ok (.iload_n 2, 1) := by decide +kernel
theorem dX2_expect_6 : decode cX2_expect 6 = .ok (.invokevirtual 141, 3) := by decide +kernel
theorem dX2_expect_9 : decode cX2_expect 9 = .ok (.ifCond .eq 13, 3) := by decide +kernel
theorem dX2_expect_12 : decode cX2_expect 12 = .ok (.aload_n 0, 1) := by decide +kernel
theorem dX2_expect_13 : decode cX2_expect 13 = .ok (.iload_n 2, 1) := by decide +kernel
theorem dX2_expect_14 : decode cX2_expect 14 = .ok (.putfield 37, 3) := by decide +kernel
theorem dX2_expect_17 : decode cX2_expect 17 = .ok (.aload_n 0, 1) := by decide +kernel
theorem dX2_expect_18 : decode cX2_expect 18 = .ok (.aconst_null, 1) := by decide +kernel
theorem dX2_expect_19 : decode cX2_expect 19 = .ok (.putfield 145, 3) := by decide +kernel
theorem dX2_expect_22 : decode cX2_expect 22 = .ok (.return_, 1) := by decide +kernel
theorem dX2_isFirst_0 : decode cX2_isFirst 0 = .ok (.aload_n 0, 1) := by decide +kernel
theorem dX2_isFirst_1 : decode cX2_isFirst 1 = .ok (.getfield 37, 3) := by decide +kernel
theorem dX2_isFirst_4 : decode cX2_isFirst 4 = .ok (.ifCond .lt 11, 3) := by decide +kernel
theorem dX2_isFirst_7 : decode cX2_isFirst 7 = .ok (.iload_n 1, 1) := by decide +kernel
theorem dX2_isFirst_8 : decode cX2_isFirst 8 = .ok (.aload_n 0, 1) := by decide +kernel
theorem dX2_isFirst_9 : decode cX2_isFirst 9 = .ok (.getfield 37, 3) := by decide +kernel
theorem dX2_isFirst_12 : decode cX2_isFirst 12 = .ok (.if_icmp .ge 7, 3) := by decide +kernel
theorem dX2_isFirst_15 : decode cX2_isFirst 15 = .ok (.iconst 1, 1) := by decide +kernel
theorem dX2_isFirst_16 : decode cX2_isFirst 16 = .ok (.goto 4, 3) := by decide +kernel
theorem dX2_isFirst_19 : decode cX2_isFirst 19 = .ok (.iconst 0, 1) := by decide +kernel
theorem dX2_isFirst_20 : decode cX2_isFirst 20 = .ok (.ireturn, 1) := by decide +kernel
theorem dX2_codingNamed_0 : decode cX2_codingNamed 0 = .ok (.iconst 0, 1) := by decide +kernel
theorem dX2_codingNamed_1 : decode cX2_codingNamed 1 = .ok (.istore_n 3, 1) := by decide +kernel
theorem dX2_codingNamed_2 : decode cX2_codingNamed 2 = .ok (.iload_n 3, 1) := by decide +kernel
theorem dX2_codingNamed_3 : decode cX2_codingNamed 3 = .ok (.aload_n 0, 1) := by decide +kernel
theorem dX2_codingNamed_4 : decode cX2_codingNamed 4 = .ok (.getfield 12, 3) := by decide +kernel
theorem dX2_codingNamed_7 : decode cX2_codingNamed 7 = .ok (.invokevirtual 57, 3) := by decide +kernel
theorem dX2_codingNamed_10 : decode cX2_codingNamed 10 = .ok (.if_icmp .ge 35, 3) := by decide +kernel
theorem dX2_codingNamed_13 : decode cX2_codingNamed 13 = .ok (.aload_n 0, 1) := by decide +kernel
theorem dX2_codingNamed_14 : decode cX2_codingNamed 14 = .ok (.getfield 12, 3) := by decide +kernel
theorem dX2_codingNamed_17 : decode cX2_codingNamed 17 = .ok (.iload_n 3, 1) := by decide +kernel
theorem dX2_codingNamed_18 : decode cX2_codingNamed 18 = .ok (.invokevirtual 61, 3) := by decide +kernel
theorem dX2_codingNamed_21 : decode cX2_codingNamed 21 = .ok (.checkcast 65, 3) := by decide +kernel
theorem dX2_codingNamed_24 : decode cX2_codingNamed 24 = .ok (.astore 4, 2) := by decide +kernel
theorem dX2_codingNamed_26 : decode cX2_codingNamed 26 = .ok (.aload 4, 2) := by decide +kernel
theorem dX2_codingNamed_28 : decode cX2_codingNamed 28 = .ok (.getfield 67, 3) := by decide +kernel
theorem dX2_codingNamed_31 : decode cX2_codingNamed 31 = .ok (.lload_n 1, 1) := by decide +kernel
theorem dX2_codingNamed_32 : decode cX2_codingNamed 32 = .ok (.lcmp, 1) := by decide +kernel
theorem dX2_codingNamed_33 : decode cX2_codingNamed 33 = .ok (.ifCond .ne 6, 3) := by decide +kernel
theorem dX2_codingNamed_36 : decode cX2_codingNamed 36 = .ok (.aload 4, 2) := by decide +kernel
theorem dX2_codingNamed_38 : decode cX2_codingNamed 38 = .ok (.areturn, 1) := by decide +kernel
theorem dX2_codingNamed_39 : decode cX2_codingNamed 39 = .ok (.iinc 3 1, 3) := by decide +kernel
theorem dX2_codingNamed_42 : decode cX2_codingNamed 42 = .ok (.goto (-40), 3) := by decide +kernel
theorem dX2_codingNamed_45 : decode cX2_codingNamed 45 = .ok (.aconst_null, 1) := by decide +kernel
theorem dX2_codingNamed_46 : decode cX2_codingNamed 46 = .ok (.areturn, 1) := by decide +kernel
theorem dX2_layerNamed_0 : decode cX2_layerNamed 0 = .ok (.iconst 0, 1) := by decide +kernel
theorem dX2_layerNamed_1 : decode cX2_layerNamed 1 = .ok (.istore_n 3, 1) := by decide +kernel
theorem dX2_layerNamed_2 : decode cX2_layerNamed 2 = .ok (.iload_n 3, 1) := by decide +kernel
theorem dX2_layerNamed_3 : decode cX2_layerNamed 3 = .ok (.aload_n 0, 1) := by decide +kernel
theorem dX2_layerNamed_4 : decode cX2_layerNamed 4 = .ok (.getfield 18, 3) := by decide +kernel
theorem dX2_layerNamed_7 : decode cX2_layerNamed 7 = .ok (.invokevirtual 57, 3) := by decide +kernel
theorem dX2_layerNamed_10 : decode cX2_layerNamed 10 = .ok (.if_icmp .ge 35, 3) := by decide +kernel
theorem dX2_layerNamed_13 : decode cX2_layerNamed 13 = .ok (.aload_n 0, 1) := by decide +kernel
theorem dX2_layerNamed_14 : decode cX2_layerNamed 14 = .ok (.getfield 18, 3) := by decide +kernel
theorem dX2_layerNamed_17 : decode cX2_layerNamed 17 = .ok (.iload_n 3, 1) := by decide +kernel
theorem dX2_layerNamed_18 : decode cX2_layerNamed 18 = .ok (.invokevirtual 61, 3) := by decide +kernel
theorem dX2_layerNamed_21 : decode cX2_layerNamed 21 = .ok (.checkcast 120, 3) := by decide +kernel
theorem dX2_layerNamed_24 : decode cX2_layerNamed 24 = .ok (.astore 4, 2) := by decide +kernel
theorem dX2_layerNamed_26 : decode cX2_layerNamed 26 = .ok (.aload 4, 2) := by decide +kernel
theorem dX2_layerNamed_28 : decode cX2_layerNamed 28 = .ok (.getfield 122, 3) := by decide +kernel
theorem dX2_layerNamed_31 : decode cX2_layerNamed 31 = .ok (.lload_n 1, 1) := by decide +kernel
theorem dX2_layerNamed_32 : decode cX2_layerNamed 32 = .ok (.lcmp, 1) := by decide +kernel
theorem dX2_layerNamed_33 : decode cX2_layerNamed 33 = .ok (.ifCond .ne 6, 3) := by decide +kernel
theorem dX2_layerNamed_36 : decode cX2_layerNamed 36 = .ok (.aload 4, 2) := by decide +kernel
theorem dX2_layerNamed_38 : decode cX2_layerNamed 38 = .ok (.areturn, 1) := by decide +kernel
theorem dX2_layerNamed_39 : decode cX2_layerNamed 39 = .ok (.iinc 3 1, 3) := by decide +kernel
theorem dX2_layerNamed_42 : decode cX2_layerNamed 42 = .ok (.goto (-40), 3) := by decide +kernel
theorem dX2_layerNamed_45 : decode cX2_layerNamed 45 = .ok (.aconst_null, 1) := by decide +kernel
theorem dX2_layerNamed_46 : decode cX2_layerNamed 46 = .ok (.areturn, 1) := by decide +kernel
theorem dX2_serviceNamed_0 : decode cX2_serviceNamed 0 = .ok (.iconst 0, 1) := by decide +kernel
theorem dX2_serviceNamed_1 : decode cX2_serviceNamed 1 = .ok (.istore_n 3, 1) := by decide +kernel
theorem dX2_serviceNamed_2 : decode cX2_serviceNamed 2 = .ok (.iload_n 3, 1) := by decide +kernel
theorem dX2_serviceNamed_3 : decode cX2_serviceNamed 3 = .ok (.aload_n 0, 1) := by decide +kernel
theorem dX2_serviceNamed_4 : decode cX2_serviceNamed 4 = .ok (.getfield 21, 3) := by decide +kernel
theorem dX2_serviceNamed_7 : decode cX2_serviceNamed 7 = .ok (.invokevirtual 57, 3) := by decide +kernel
theorem dX2_serviceNamed_10 : decode cX2_serviceNamed 10 = .ok (.if_icmp .ge 35, 3) := by decide +kernel
theorem dX2_serviceNamed_13 : decode cX2_serviceNamed 13 = .ok (.aload_n 0, 1) := by decide +kernel
theorem dX2_serviceNamed_14 : decode cX2_serviceNamed 14 = .ok (.getfield 21, 3) := by decide +kernel
theorem dX2_serviceNamed_17 : decode cX2_serviceNamed 17 = .ok (.iload_n 3, 1) := by decide +kernel
theorem dX2_serviceNamed_18 : decode cX2_serviceNamed 18 = .ok (.invokevirtual 61, 3) := by decide +kernel
theorem dX2_serviceNamed_21 : decode cX2_serviceNamed 21 = .ok (.checkcast 89, 3) := by decide +kernel
theorem dX2_serviceNamed_24 : decode cX2_serviceNamed 24 = .ok (.astore 4, 2) := by decide +kernel
theorem dX2_serviceNamed_26 : decode cX2_serviceNamed 26 = .ok (.aload 4, 2) := by decide +kernel
theorem dX2_serviceNamed_28 : decode cX2_serviceNamed 28 = .ok (.getfield 95, 3) := by decide +kernel
theorem dX2_serviceNamed_31 : decode cX2_serviceNamed 31 = .ok (.lload_n 1, 1) := by decide +kernel
theorem dX2_serviceNamed_32 : decode cX2_serviceNamed 32 = .ok (.lcmp, 1) := by decide +kernel
theorem dX2_serviceNamed_33 : decode cX2_serviceNamed 33 = .ok (.ifCond .ne 6, 3) := by decide +kernel
theorem dX2_serviceNamed_36 : decode cX2_serviceNamed 36 = .ok (.aload 4, 2) := by decide +kernel
theorem dX2_serviceNamed_38 : decode cX2_serviceNamed 38 = .ok (.areturn, 1) := by decide +kernel
theorem dX2_serviceNamed_39 : decode cX2_serviceNamed 39 = .ok (.iinc 3 1, 3) := by decide +kernel
theorem dX2_serviceNamed_42 : decode cX2_serviceNamed 42 = .ok (.goto (-40), 3) := by decide +kernel
theorem dX2_serviceNamed_45 : decode cX2_serviceNamed 45 = .ok (.aconst_null, 1) := by decide +kernel
theorem dX2_serviceNamed_46 : decode cX2_serviceNamed 46 = .ok (.areturn, 1) := by decide +kernel
theorem dX2_jobNamed_0 : decode cX2_jobNamed 0 = .ok (.iconst 0, 1) := by decide +kernel
theorem dX2_jobNamed_1 : decode cX2_jobNamed 1 = .ok (.istore_n 3, 1) := by decide +kernel
theorem dX2_jobNamed_2 : decode cX2_jobNamed 2 = .ok (.iload_n 3, 1) := by decide +kernel
theorem dX2_jobNamed_3 : decode cX2_jobNamed 3 = .ok (.aload_n 0, 1) := by decide +kernel
theorem dX2_jobNamed_4 : decode cX2_jobNamed 4 = .ok (.getfield 30, 3) := by decide +kernel
theorem dX2_jobNamed_7 : decode cX2_jobNamed 7 = .ok (.invokevirtual 57, 3) := by decide +kernel
theorem dX2_jobNamed_10 : decode cX2_jobNamed 10 = .ok (.if_icmp .ge 35, 3) := by decide +kernel
theorem dX2_jobNamed_13 : decode cX2_jobNamed 13 = .ok (.aload_n 0, 1) := by decide +kernel
theorem dX2_jobNamed_14 : decode cX2_jobNamed 14 = .ok (.getfield 30, 3) := by decide +kernel
theorem dX2_jobNamed_17 : decode cX2_jobNamed 17 = .ok (.iload_n 3, 1) := by decide +kernel
theorem dX2_jobNamed_18 : decode cX2_jobNamed 18 = .ok (.invokevirtual 61, 3) := by decide +kernel
theorem dX2_jobNamed_21 : decode cX2_jobNamed 21 = .ok (.checkcast 108, 3) := by decide +kernel
theorem dX2_jobNamed_24 : decode cX2_jobNamed 24 = .ok (.astore 4, 2) := by decide +kernel
theorem dX2_jobNamed_26 : decode cX2_jobNamed 26 = .ok (.aload 4, 2) := by decide +kernel
theorem dX2_jobNamed_28 : decode cX2_jobNamed 28 = .ok (.getfield 110, 3) := by decide +kernel
theorem dX2_jobNamed_31 : decode cX2_jobNamed 31 = .ok (.lload_n 1, 1) := by decide +kernel
theorem dX2_jobNamed_32 : decode cX2_jobNamed 32 = .ok (.lcmp, 1) := by decide +kernel
theorem dX2_jobNamed_33 : decode cX2_jobNamed 33 = .ok (.ifCond .ne 6, 3) := by decide +kernel
theorem dX2_jobNamed_36 : decode cX2_jobNamed 36 = .ok (.aload 4, 2) := by decide +kernel
theorem dX2_jobNamed_38 : decode cX2_jobNamed 38 = .ok (.areturn, 1) := by decide +kernel
theorem dX2_jobNamed_39 : decode cX2_jobNamed 39 = .ok (.iinc 3 1, 3) := by decide +kernel
theorem dX2_jobNamed_42 : decode cX2_jobNamed 42 = .ok (.goto (-40), 3) := by decide +kernel
theorem dX2_jobNamed_45 : decode cX2_jobNamed 45 = .ok (.aconst_null, 1) := by decide +kernel
theorem dX2_jobNamed_46 : decode cX2_jobNamed 46 = .ok (.areturn, 1) := by decide +kernel
theorem dX2_serviceIn_0 : decode cX2_serviceIn 0 = .ok (.iconst 0, 1) := by decide +kernel
theorem dX2_serviceIn_1 : decode cX2_serviceIn 1 = .ok (.istore 4, 2) := by decide +kernel
theorem dX2_serviceIn_3 : decode cX2_serviceIn 3 = .ok (.iload 4, 2) := by decide +kernel
theorem dX2_serviceIn_5 : decode cX2_serviceIn 5 = .ok (.aload_n 0, 1) := by decide +kernel
theorem dX2_serviceIn_6 : decode cX2_serviceIn 6 = .ok (.getfield 21, 3) := by decide +kernel
theorem dX2_serviceIn_9 : decode cX2_serviceIn 9 = .ok (.invokevirtual 57, 3) := by decide +kernel
theorem dX2_serviceIn_12 : decode cX2_serviceIn 12 = .ok (.if_icmp .ge 45, 3) := by decide +kernel
theorem dX2_serviceIn_15 : decode cX2_serviceIn 15 = .ok (.aload_n 0, 1) := by decide +kernel
theorem dX2_serviceIn_16 : decode cX2_serviceIn 16 = .ok (.getfield 21, 3) := by decide +kernel
theorem dX2_serviceIn_19 : decode cX2_serviceIn 19 = .ok (.iload 4, 2) := by decide +kernel
theorem dX2_serviceIn_21 : decode cX2_serviceIn 21 = .ok (.invokevirtual 61, 3) := by decide +kernel
theorem dX2_serviceIn_24 : decode cX2_serviceIn 24 = .ok (.checkcast 89, 3) := by decide +kernel
theorem dX2_serviceIn_27 : decode cX2_serviceIn 27 = .ok (.astore 5, 2) := by decide +kernel
theorem dX2_serviceIn_29 : decode cX2_serviceIn 29 = .ok (.aload 5, 2) := by decide +kernel
theorem dX2_serviceIn_31 : decode cX2_serviceIn 31 = .ok (.getfield 91, 3) := by decide +kernel
theorem dX2_serviceIn_34 : decode cX2_serviceIn 34 = .ok (.aload_n 1, 1) := by decide +kernel
theorem dX2_serviceIn_35 : decode cX2_serviceIn 35 = .ok (.if_acmp .ne 16, 3) := by decide +kernel
theorem dX2_serviceIn_38 : decode cX2_serviceIn 38 = .ok (.aload 5, 2) := by decide +kernel
theorem dX2_serviceIn_40 : decode cX2_serviceIn 40 = .ok (.getfield 95, 3) := by decide +kernel
theorem dX2_serviceIn_43 : decode cX2_serviceIn 43 = .ok (.lload_n 2, 1) := by decide +kernel
theorem dX2_serviceIn_44 : decode cX2_serviceIn 44 = .ok (.lcmp, 1) := by decide +kernel
theorem dX2_serviceIn_45 : decode cX2_serviceIn 45 = .ok (.ifCond .ne 6, 3) := by decide +kernel
theorem dX2_serviceIn_48 : decode cX2_serviceIn 48 = .ok (.aload 5, 2) := by decide +kernel
theorem dX2_serviceIn_50 : decode cX2_serviceIn 50 = .ok (.areturn, 1) := by decide +kernel
theorem dX2_serviceIn_51 : decode cX2_serviceIn 51 = .ok (.iinc 4 1, 3) := by decide +kernel
theorem dX2_serviceIn_54 : decode cX2_serviceIn 54 = .ok (.goto (-51), 3) := by decide +kernel
theorem dX2_serviceIn_57 : decode cX2_serviceIn 57 = .ok (.aconst_null, 1) := by decide +kernel
theorem dX2_serviceIn_58 : decode cX2_serviceIn 58 = .ok (.areturn, 1) := by decide +kernel
theorem dX2_numberInUse_0 : decode cX2_numberInUse 0 = .ok (.aload_n 0, 1) := by decide +kernel
theorem dX2_numberInUse_1 : decode cX2_numberInUse 1 = .ok (.getfield 238, 3) := by decide +kernel
theorem dX2_numberInUse_4 : decode cX2_numberInUse 4 = .ok (.astore_n 3, 1) := by decide +kernel
theorem dX2_numberInUse_5 : decode cX2_numberInUse 5 = .ok (.iconst 0, 1) := by decide +kernel
theorem dX2_numberInUse_6 : decode cX2_numberInUse 6 = .ok (.istore 4, 2) := by decide +kernel
theorem dX2_numberInUse_8 : decode cX2_numberInUse 8 = .ok (.iload 4, 2) := by decide +kernel
theorem dX2_numberInUse_10 : decode cX2_numberInUse 10 = .ok (.bipush 6, 2) := by decide +kernel
theorem dX2_numberInUse_12 : decode cX2_numberInUse 12 = .ok (.if_icmp .ge 37, 3) := by decide +kernel
theorem dX2_numberInUse_15 : decode cX2_numberInUse 15 = .ok (.aload_n 3, 1) := by decide +kernel
theorem dX2_numberInUse_16 : decode cX2_numberInUse 16 = .ok (.ifnull 33, 3) := by decide +kernel
theorem dX2_numberInUse_19 : decode cX2_numberInUse 19 = .ok (.aload_n 0, 1) := by decide +kernel
theorem dX2_numberInUse_20 : decode cX2_numberInUse 20 = .ok (.aload_n 3, 1) := by decide +kernel
theorem dX2_numberInUse_21 : decode cX2_numberInUse 21 = .ok (.lload_n 1, 1) := by decide +kernel
theorem dX2_numberInUse_22 : decode cX2_numberInUse 22 = .ok (.invokevirtual 96, 3) := by decide +kernel
theorem dX2_numberInUse_25 : decode cX2_numberInUse 25 = .ok (.astore 5, 2) := by decide +kernel
theorem dX2_numberInUse_27 : decode cX2_numberInUse 27 = .ok (.aload 5, 2) := by decide +kernel
theorem dX2_numberInUse_29 : decode cX2_numberInUse 29 = .ok (.ifnull 9, 3) := by decide +kernel
theorem dX2_numberInUse_32 : decode cX2_numberInUse 32 = .ok (.aload 5, 2) := by decide +kernel
theorem dX2_numberInUse_34 : decode cX2_numberInUse 34 = .ok (.getfield 241, 3) := by decide +kernel
theorem dX2_numberInUse_37 : decode cX2_numberInUse 37 = .ok (.ireturn, 1) := by decide +kernel
theorem dX2_numberInUse_38 : decode cX2_numberInUse 38 = .ok (.aload_n 3, 1) := by decide +kernel
theorem dX2_numberInUse_39 : decode cX2_numberInUse 39 = .ok (.getfield 131, 3) := by decide +kernel
theorem dX2_numberInUse_42 : decode cX2_numberInUse 42 = .ok (.astore_n 3, 1) := by decide +kernel
theorem dX2_numberInUse_43 : decode cX2_numberInUse 43 = .ok (.iinc 4 1, 3) := by decide +kernel
theorem dX2_numberInUse_46 : decode cX2_numberInUse 46 = .ok (.goto (-38), 3) := by decide +kernel
theorem dX2_numberInUse_49 : decode cX2_numberInUse 49 = .ok (.iconst 0, 1) := by decide +kernel
theorem dX2_numberInUse_50 : decode cX2_numberInUse 50 = .ok (.ireturn, 1) := by decide +kernel
theorem dX2_layerFor_0 : decode cX2_layerFor 0 = .ok (.aload_n 0, 1) := by decide +kernel
theorem dX2_layerFor_1 : decode cX2_layerFor 1 = .ok (.getfield 27, 3) := by decide +kernel
theorem dX2_layerFor_4 : decode cX2_layerFor 4 = .ok (.iload_n 1, 1) := by decide +kernel
theorem dX2_layerFor_5 : decode cX2_layerFor 5 = .ok (.i2l, 1) := by decide +kernel
theorem dX2_layerFor_6 : decode cX2_layerFor 6 = .ok (.invokestatic 231, 3) := by decide +kernel
theorem dX2_layerFor_9 : decode cX2_layerFor 9 = .ok (.astore_n 2, 1) := by decide +kernel
theorem dX2_layerFor_10 : decode cX2_layerFor 10 = .ok (.aload_n 2, 1) := by decide +kernel
theorem dX2_layerFor_11 : decode cX2_layerFor 11 = .ok (.ifnull 8, 3) := by decide +kernel
theorem dX2_layerFor_14 : decode cX2_layerFor 14 = .ok (.aload_n 2, 1) := by decide +kernel
theorem dX2_layerFor_15 : decode cX2_layerFor 15 = .ok (.getfield 188, 3) := by decide +kernel
theorem dX2_layerFor_18 : decode cX2_layerFor 18 = .ok (.areturn, 1) := by decide +kernel
theorem dX2_layerFor_19 : decode cX2_layerFor 19 = .ok (.iconst 0, 1) := by decide +kernel
theorem dX2_layerFor_20 : decode cX2_layerFor 20 = .ok (.istore_n 3, 1) := by decide +kernel
theorem dX2_layerFor_21 : decode cX2_layerFor 21 = .ok (.iload_n 3, 1) := by decide +kernel
theorem dX2_layerFor_22 : decode cX2_layerFor 22 = .ok (.aload_n 0, 1) := by decide +kernel
theorem dX2_layerFor_23 : decode cX2_layerFor 23 = .ok (.getfield 18, 3) := by decide +kernel
theorem dX2_layerFor_26 : decode cX2_layerFor 26 = .ok (.invokevirtual 57, 3) := by decide +kernel
theorem dX2_layerFor_29 : decode cX2_layerFor 29 = .ok (.if_icmp .ge 34, 3) := by decide +kernel
theorem dX2_layerFor_32 : decode cX2_layerFor 32 = .ok (.aload_n 0, 1) := by decide +kernel
theorem dX2_layerFor_33 : decode cX2_layerFor 33 = .ok (.getfield 18, 3) := by decide +kernel
theorem dX2_layerFor_36 : decode cX2_layerFor 36 = .ok (.iload_n 3, 1) := by decide +kernel
theorem dX2_layerFor_37 : decode cX2_layerFor 37 = .ok (.invokevirtual 61, 3) := by decide +kernel
theorem dX2_layerFor_40 : decode cX2_layerFor 40 = .ok (.checkcast 120, 3) := by decide +kernel
theorem dX2_layerFor_43 : decode cX2_layerFor 43 = .ok (.astore 4, 2) := by decide +kernel
theorem dX2_layerFor_45 : decode cX2_layerFor 45 = .ok (.aload_n 0, 1) := by decide +kernel
theorem dX2_layerFor_46 : decode cX2_layerFor 46 = .ok (.aload 4, 2) := by decide +kernel
theorem dX2_layerFor_48 : decode cX2_layerFor 48 = .ok (.invokevirtual 242, 3) := by decide +kernel
theorem dX2_layerFor_51 : decode cX2_layerFor 51 = .ok (.ifCond .ne 6, 3) := by decide +kernel
theorem dX2_layerFor_54 : decode cX2_layerFor 54 = .ok (.aload 4, 2) := by decide +kernel
theorem dX2_layerFor_56 : decode cX2_layerFor 56 = .ok (.areturn, 1) := by decide +kernel
theorem dX2_layerFor_57 : decode cX2_layerFor 57 = .ok (.iinc 3 1, 3) := by decide +kernel
theorem dX2_layerFor_60 : decode cX2_layerFor 60 = .ok (.goto (-39), 3) := by decide +kernel
theorem dX2_layerFor_63 : decode cX2_layerFor 63 = .ok (.aconst_null, 1) := by decide +kernel
theorem dX2_layerFor_64 : decode cX2_layerFor 64 = .ok (.areturn, 1) := by decide +kernel
theorem dX2_isVariant_0 : decode cX2_isVariant 0 = .ok (.iconst 0, 1) := by decide +kernel
theorem dX2_isVariant_1 : decode cX2_isVariant 1 = .ok (.istore_n 2, 1) := by decide +kernel
theorem dX2_isVariant_2 : decode cX2_isVariant 2 = .ok (.iload_n 2, 1) := by decide +kernel
theorem dX2_isVariant_3 : decode cX2_isVariant 3 = .ok (.aload_n 0, 1) := by decide +kernel
theorem dX2_isVariant_4 : decode cX2_isVariant 4 = .ok (.getfield 27, 3) := by decide +kernel
theorem dX2_isVariant_7 : decode cX2_isVariant 7 = .ok (.invokevirtual 57, 3) := by decide +kernel
theorem dX2_isVariant_10 : decode cX2_isVariant 10 = .ok (.if_icmp .ge 29, 3) := by decide +kernel
theorem dX2_isVariant_13 : decode cX2_isVariant 13 = .ok (.aload_n 0, 1) := by decide +kernel
theorem dX2_isVariant_14 : decode cX2_isVariant 14 = .ok (.getfield 27, 3) := by decide +kernel
theorem dX2_isVariant_17 : decode cX2_isVariant 17 = .ok (.iload_n 2, 1) := by decide +kernel
theorem dX2_isVariant_18 : decode cX2_isVariant 18 = .ok (.invokevirtual 61, 3) := by decide +kernel
theorem dX2_isVariant_21 : decode cX2_isVariant 21 = .ok (.checkcast 185, 3) := by decide +kernel
theorem dX2_isVariant_24 : decode cX2_isVariant 24 = .ok (.getfield 188, 3) := by decide +kernel
theorem dX2_isVariant_27 : decode cX2_isVariant 27 = .ok (.aload_n 1, 1) := by decide +kernel
theorem dX2_isVariant_28 : decode cX2_isVariant 28 = .ok (.if_acmp .ne 5, 3) := by decide +kernel
theorem dX2_isVariant_31 : decode cX2_isVariant 31 = .ok (.iconst 1, 1) := by decide +kernel
theorem dX2_isVariant_32 : decode cX2_isVariant 32 = .ok (.ireturn, 1) := by decide +kernel
theorem dX2_isVariant_33 : decode cX2_isVariant 33 = .ok (.iinc 2 1, 3) := by decide +kernel
theorem dX2_isVariant_36 : decode cX2_isVariant 36 = .ok (.goto (-34), 3) := by decide +kernel
theorem dX2_isVariant_39 : decode cX2_isVariant 39 = .ok (.iconst 0, 1) := by decide +kernel
theorem dX2_isVariant_40 : decode cX2_isVariant 40 = .ok (.ireturn, 1) := by decide +kernel
theorem dX2_countUnlike_0 : decode cX2_countUnlike 0 = .ok (.iconst 0, 1) := by decide +kernel
theorem dX2_countUnlike_1 : decode cX2_countUnlike 1 = .ok (.istore_n 2, 1) := by decide +kernel
theorem dX2_countUnlike_2 : decode cX2_countUnlike 2 = .ok (.iconst 0, 1) := by decide +kernel
theorem dX2_countUnlike_3 : decode cX2_countUnlike 3 = .ok (.istore_n 3, 1) := by decide +kernel
theorem dX2_countUnlike_4 : decode cX2_countUnlike 4 = .ok (.iload_n 3, 1) := by decide +kernel
theorem dX2_countUnlike_5 : decode cX2_countUnlike 5 = .ok (.aload_n 0, 1) := by decide +kernel
theorem dX2_countUnlike_6 : decode cX2_countUnlike 6 = .ok (.getfield 21, 3) := by decide +kernel
theorem dX2_countUnlike_9 : decode cX2_countUnlike 9 = .ok (.invokevirtual 57, 3) := by decide +kernel
theorem dX2_countUnlike_12 : decode cX2_countUnlike 12 = .ok (.if_icmp .ge 30, 3) := by decide +kernel
theorem dX2_countUnlike_15 : decode cX2_countUnlike 15 = .ok (.aload_n 1, 1) := by decide +kernel
theorem dX2_countUnlike_16 : decode cX2_countUnlike 16 = .ok (.aload_n 0, 1) := by decide +kernel
theorem dX2_countUnlike_17 : decode cX2_countUnlike 17 = .ok (.getfield 21, 3) := by decide +kernel
theorem dX2_countUnlike_20 : decode cX2_countUnlike 20 = .ok (.iload_n 3, 1) := by decide +kernel
theorem dX2_countUnlike_21 : decode cX2_countUnlike 21 = .ok (.invokevirtual 61, 3) := by decide +kernel
theorem dX2_countUnlike_24 : decode cX2_countUnlike 24 = .ok (.checkcast 89, 3) := by decide +kernel
theorem dX2_countUnlike_27 : decode cX2_countUnlike 27 = .ok (.invokevirtual 246, 3) := by decide +kernel
theorem dX2_countUnlike_30 : decode cX2_countUnlike 30 = .ok (.ifCond .ne 6, 3) := by decide +kernel
theorem dX2_countUnlike_33 : decode cX2_countUnlike 33 = .ok (.iinc 2 1, 3) := by decide +kernel
theorem dX2_countUnlike_36 : decode cX2_countUnlike 36 = .ok (.iinc 3 1, 3) := by decide +kernel
theorem dX2_countUnlike_39 : decode cX2_countUnlike 39 = .ok (.goto (-35), 3) := by decide +kernel
theorem dX2_countUnlike_42 : decode cX2_countUnlike 42 = .ok (.iload_n 2, 1) := by decide +kernel
theorem dX2_countUnlike_43 : decode cX2_countUnlike 43 = .ok (.ireturn, 1) := by decide +kernel
theorem dX2_hasLike_0 : decode cX2_hasLike 0 = .ok (.iconst 0, 1) := by decide +kernel
theorem dX2_hasLike_1 : decode cX2_hasLike 1 = .ok (.istore_n 2, 1) := by decide +kernel
theorem dX2_hasLike_2 : decode cX2_hasLike 2 = .ok (.iload_n 2, 1) := by decide +kernel
theorem dX2_hasLike_3 : decode cX2_hasLike 3 = .ok (.aload_n 0, 1) := by decide +kernel
theorem dX2_hasLike_4 : decode cX2_hasLike 4 = .ok (.getfield 21, 3) := by decide +kernel
theorem dX2_hasLike_7 : decode cX2_hasLike 7 = .ok (.invokevirtual 57, 3) := by decide +kernel
theorem dX2_hasLike_10 : decode cX2_hasLike 10 = .ok (.if_icmp .ge 29, 3) := by decide +kernel
theorem dX2_hasLike_13 : decode cX2_hasLike 13 = .ok (.aload_n 0, 1) := by decide +kernel
theorem dX2_hasLike_14 : decode cX2_hasLike 14 = .ok (.getfield 21, 3) := by decide +kernel
theorem dX2_hasLike_17 : decode cX2_hasLike 17 = .ok (.iload_n 2, 1) := by decide +kernel
theorem dX2_hasLike_18 : decode cX2_hasLike 18 = .ok (.invokevirtual 61, 3) := by decide +kernel
theorem dX2_hasLike_21 : decode cX2_hasLike 21 = .ok (.checkcast 89, 3) := by decide +kernel
theorem dX2_hasLike_24 : decode cX2_hasLike 24 = .ok (.aload_n 1, 1) := by decide +kernel
theorem dX2_hasLike_25 : decode cX2_hasLike 25 = .ok (.invokevirtual 250, 3) := by decide +kernel
theorem dX2_hasLike_28 : decode cX2_hasLike 28 = .ok (.ifCond .eq 5, 3) := by decide +kernel
theorem dX2_hasLike_31 : decode cX2_hasLike 31 = .ok (.iconst 1, 1) := by decide +kernel
theorem dX2_hasLike_32 : decode cX2_hasLike 32 = .ok (.ireturn, 1) := by decide +kernel
theorem dX2_hasLike_33 : decode cX2_hasLike 33 = .ok (.iinc 2 1, 3) := by decide +kernel
theorem dX2_hasLike_36 : decode cX2_hasLike 36 = .ok (.goto (-34), 3) := by decide +kernel
theorem dX2_hasLike_39 : decode cX2_hasLike 39 = .ok (.iconst 0, 1) := by decide +kernel
theorem dX2_hasLike_40 : decode cX2_hasLike 40 = .ok (.ireturn, 1) := by decide +kernel
theorem dX3_init_0 : decode cX3_init 0 = .ok (.aload_n 0, 1) := by decide +kernel
theorem dX3_init_1 : decode cX3_init 1 = .ok (.invokespecial 1, 3) := by decide +kernel
theorem dX3_init_4 : decode cX3_init 4 = .ok (.return_, 1) := by decide +kernel
theorem dX4_init_0 : decode cX4_init 0 = .ok (.aload_n 0, 1) := by decide +kernel
theorem dX4_init_1 : decode cX4_init 1 = .ok (.invokespecial 3, 3) := by decide +kernel
theorem dX4_init_4 : decode cX4_init 4 = .ok (.aload_n 0, 1) := by decide +kernel
theorem dX4_init_5 : decode cX4_init 5 = .ok (.new 9, 3) := by decide +kernel
theorem dX4_init_8 : decode cX4_init 8 = .ok (.dup, 1) := by decide +kernel
theorem dX4_init_9 : decode cX4_init 9 = .ok (.invokespecial 11, 3) := by decide +kernel
theorem dX4_init_12 : decode cX4_init 12 = .ok (.putfield 12, 3) := by decide +kernel
theorem dX4_init_15 : decode cX4_init 15 = .ok (.aload_n 0, 1) := by decide +kernel
theorem dX4_init_16 : decode cX4_init 16 = .ok (.bipush 16, 2) := by decide +kernel
theorem dX4_init_18 : decode cX4_init 18 = .ok (.newarray .long, 2) := by decide +kernel
theorem dX4_init_20 : decode cX4_init 20 = .ok (.putfield 18, 3) := by decide +kernel
theorem dX4_init_23 : decode cX4_init 23 = .ok (.aload_n 0, 1) := by decide +kernel
theorem dX4_init_24 : decode cX4_init 24 = .ok (.iload_n 1, 1) := by decide +kernel
theorem dX4_init_25 : decode cX4_init 25 = .ok (.putfield 22, 3) := by decide +kernel
theorem dX4_init_28 : decode cX4_init 28 = .ok (.aload_n 0, 1) := by decide +kernel
theorem dX4_init_29 : decode cX4_init 29 = .ok (.lload_n 2, 1) := by decide +kernel
theorem dX4_init_30 : decode cX4_init 30 = .ok (.putfield 26, 3) := by decide +kernel
theorem dX4_init_33 : decode cX4_init 33 = .ok (.return_, 1) := by decide +kernel
theorem dX4_run_0 : decode cX4_run 0 = .ok (.aload_n 0, 1) := by decide +kernel
theorem dX4_run_1 : decode cX4_run 1 = .ok (.iconst 0, 1) := by decide +kernel
theorem dX4_run_2 : decode cX4_run 2 = .ok (.putfield 30, 3) := by decide +kernel
theorem dX4_run_5 : decode cX4_run 5 = .ok (.aload_n 3, 1) := by decide +kernel
theorem dX4_run_6 : decode cX4_run 6 = .ok (.iconst 0, 1) := by decide +kernel
theorem dX4_run_7 : decode cX4_run 7 = .ok (.putfield 33, 3) := by decide +kernel
theorem dX4_run_10 : decode cX4_run 10 = .ok (.iload_n 1, 1) := by decide +kernel
theorem dX4_run_11 : decode cX4_run 11 = .ok (.istore 4, 2) := by decide +kernel
theorem dX4_run_13 : decode cX4_run 13 = .ok (.iconst 0, 1) := by decide +kernel
theorem dX4_run_14 : decode cX4_run 14 = .ok (.istore 5, 2) := by decide +kernel
theorem dX4_run_16 : decode cX4_run 16 = .ok (.iconst 0, 1) := by decide +kernel
theorem dX4_run_17 : decode cX4_run 17 = .ok (.istore 6, 2) := by decide +kernel
theorem dX4_run_19 : decode cX4_run 19 = .ok (.iload 6, 2) := by decide +kernel
theorem dX4_run_21 : decode cX4_run 21 = .ok (.sipush 10002, 3) := by decide +kernel
theorem dX4_run_24 : decode cX4_run 24 = .ok (.if_icmp .gt 141, 3) := by decide +kernel
theorem dX4_run_27 : decode cX4_run 27 = .ok (.iload 5, 2) := by decide +kernel
theorem dX4_run_29 : decode cX4_run 29 = .ok (.ifCond .lt 15, 3) := by decide +kernel
theorem dX4_run_32 : decode cX4_run 32 = .ok (.iload 5, 2) := by decide +kernel
theorem dX4_run_34 : decode cX4_run 34 = .ok (.aload_n 0, 1) := by decide +kernel
theorem dX4_run_35 : decode cX4_run 35 = .ok (.getfield 12, 3) := by decide +kernel
theorem dX4_run_38 : decode cX4_run 38 = .ok (.invokevirtual 38, 3) := by decide +kernel
theorem dX4_run_41 : decode cX4_run 41 = .ok (.if_icmp .lt 5, 3) := by decide +kernel
theorem dX4_run_44 : decode cX4_run 44 = .ok (.iconst 1, 1) := by decide +kernel
theorem dX4_run_45 : decode cX4_run 45 = .ok (.ireturn, 1) := by decide +kernel
theorem dX4_run_46 : decode cX4_run 46 = .ok (.aload_n 0, 1) := by decide +kernel
theorem dX4_run_47 : decode cX4_run 47 = .ok (.getfield 12, 3) := by decide +kernel
theorem dX4_run_50 : decode cX4_run 50 = .ok (.iload 5, 2) := by decide +kernel
theorem dX4_run_52 : decode cX4_run 52 = .ok (.invokevirtual 42, 3) := by decide +kernel
theorem dX4_run_55 : decode cX4_run 55 = .ok (.checkcast 46, 3) := by decide +kernel
theorem dX4_run_58 : decode cX4_run 58 = .ok (.astore 7, 2) := by decide +kernel
theorem dX4_run_60 : decode cX4_run 60 = .ok (.aload 7, 2) := by decide +kernel
theorem dX4_run_62 : decode cX4_run 62 = .ok (.getfield 48, 3) := by decide +kernel
theorem dX4_run_65 : decode cX4_run 65 = .ok (.getstatic 52, 3) := by decide +kernel
theorem dX4_run_68 : decode cX4_run 68 = .ok (.if_acmp .ne 13, 3) := by decide +kernel
theorem dX4_run_71 : decode cX4_run 71 = .ok (.aload 7, 2) := by decide +kernel
theorem dX4_run_73 : decode cX4_run 73 = .ok (.getfield 57, 3) := by decide +kernel
theorem dX4_run_76 : decode cX4_run 76 = .ok (.istore 5, 2) := by decide +kernel
theorem dX4_run_78 : decode cX4_run 78 = .ok (.goto 81, 3) := by decide +kernel
theorem dX4_run_81 : decode cX4_run 81 = .ok (.iload 4, 2) := by decide +kernel
theorem dX4_run_83 : decode cX4_run 83 = .ok (.ifCond .ne 5, 3) := by decide +kernel
theorem dX4_run_86 : decode cX4_run 86 = .ok (.iconst 0, 1) := by decide +kernel
theorem dX4_run_87 : decode cX4_run 87 = .ok (.ireturn, 1) := by decide +kernel
theorem dX4_run_88 : decode cX4_run 88 = .ok (.iinc 4 (-1), 3) := by decide +kernel
theorem dX4_run_91 : decode cX4_run 91 = .ok (.aload_n 0, 1) := by decide +kernel
theorem dX4_run_92 : decode cX4_run 92 = .ok (.aload 7, 2) := by decide +kernel
theorem dX4_run_94 : decode cX4_run 94 = .ok (.getfield 48, 3) := by decide +kernel
theorem dX4_run_97 : decode cX4_run 97 = .ok (.aload_n 3, 1) := by decide +kernel
theorem dX4_run_98 : decode cX4_run 98 = .ok (.invokevirtual 60, 3) := by decide +kernel
theorem dX4_run_101 : decode cX4_run 101 = .ok (.istore 8, 2) := by decide +kernel
theorem dX4_run_103 : decode cX4_run 103 = .ok (.iload 8, 2) := by decide +kernel
theorem dX4_run_105 : decode cX4_run 105 = .ok (.ifCond .eq 6, 3) := by decide +kernel
theorem dX4_run_108 : decode cX4_run 108 = .ok (.iload 8, 2) := by decide +kernel
theorem dX4_run_110 : decode cX4_run 110 = .ok (.ireturn, 1) := by decide +kernel
theorem dX4_run_111 : decode cX4_run 111 = .ok (.aload 7, 2) := by decide +kernel
theorem dX4_run_113 : decode cX4_run 113 = .ok (.getfield 48, 3) := by decide +kernel
theorem dX4_run_116 : decode cX4_run 116 = .ok (.getstatic 64, 3) := by decide +kernel
theorem dX4_run_119 : decode cX4_run 119 = .ok (.if_acmp .ne 29, 3) := by decide +kernel
theorem dX4_run_122 : decode cX4_run 122 = .ok (.aload_n 0, 1) := by decide +kernel
theorem dX4_run_123 : decode cX4_run 123 = .ok (.invokevirtual 67, 3) := by decide +kernel
theorem dX4_run_126 : decode cX4_run 126 = .ok (.lconst 0, 1) := by decide +kernel
theorem dX4_run_127 : decode cX4_run 127 = .ok (.lcmp, 1) := by decide +kernel
theorem dX4_run_128 : decode cX4_run 128 = .ok (.ifCond .ne 11, 3) := by decide +kernel
theorem dX4_run_131 : decode cX4_run 131 = .ok (.aload 7, 2) := by decide +kernel
theorem dX4_run_133 : decode cX4_run 133 = .ok (.getfield 57, 3) := by decide +kernel
theorem dX4_run_136 : decode cX4_run 136 = .ok (.goto 7, 3) := by decide +kernel
theorem dX4_run_139 : decode cX4_run 139 = .ok (.iload 5, 2) := by decide +kernel
theorem dX4_run_141 : decode cX4_run 141 = .ok (.iconst 1, 1) := by decide +kernel
theorem dX4_run_142 : decode cX4_run 142 = .ok (.iadd, 1) := by decide +kernel
theorem dX4_run_143 : decode cX4_run 143 = .ok (.istore 5, 2) := by decide +kernel
theorem dX4_run_145 : decode cX4_run 145 = .ok (.goto 14, 3) := by decide +kernel
theorem dX4_run_148 : decode cX4_run 148 = .ok (.aload_n 0, 1) := by decide +kernel
theorem dX4_run_149 : decode cX4_run 149 = .ok (.aload 7, 2) := by decide +kernel
theorem dX4_run_151 : decode cX4_run 151 = .ok (.aload_n 2, 1) := by decide +kernel
theorem dX4_run_152 : decode cX4_run 152 = .ok (.aload_n 3, 1) := by decide +kernel
theorem dX4_run_153 : decode cX4_run 153 = .ok (.invokevirtual 71, 3) := by decide +kernel
theorem dX4_run_156 : decode cX4_run 156 = .ok (.iinc 5 1, 3) := by decide +kernel
theorem dX4_run_159 : decode cX4_run 159 = .ok (.iinc 6 1, 3) := by decide +kernel
theorem dX4_run_162 : decode cX4_run 162 = .ok (.goto (-143), 3) := by decide +kernel
theorem dX4_run_165 : decode cX4_run 165 = .ok (.iconst 0, 1) := by decide +kernel
theorem dX4_run_166 : decode cX4_run 166 = .ok (.ireturn, 1) := by decide +kernel
theorem dX4_refusalOf_0 : decode cX4_refusalOf 0 = .ok (.aload_n 0, 1) := by decide +kernel
theorem dX4_refusalOf_1 : decode cX4_refusalOf 1 = .ok (.getfield 30, 3) := by decide +kernel
theorem dX4_refusalOf_4 : decode cX4_refusalOf 4 = .ok (.aload_n 1, 1) := by decide +kernel
theorem dX4_refusalOf_5 : decode cX4_refusalOf 5 = .ok (.getfield 75, 3) := by decide +kernel
theorem dX4_refusalOf_8 : decode cX4_refusalOf 8 = .ok (.if_icmp .lt 22, 3) := by decide +kernel
theorem dX4_refusalOf_11 : decode cX4_refusalOf 11 = .ok (.aload_n 0, 1) := by decide +kernel
theorem dX4_refusalOf_12 : decode cX4_refusalOf 12 = .ok (.getfield 30, 3) := by decide +kernel
theorem dX4_refusalOf_15 : decode cX4_refusalOf 15 = .ok (.aload_n 1, 1) := by decide +kernel
theorem dX4_refusalOf_16 : decode cX4_refusalOf 16 = .ok (.getfield 75, 3) := by decide +kernel
theorem dX4_refusalOf_19 : decode cX4_refusalOf 19 = .ok (.isub, 1) := by decide +kernel
theorem dX4_refusalOf_20 : decode cX4_refusalOf 20 = .ok (.aload_n 1, 1) := by decide +kernel
theorem dX4_refusalOf_21 : decode cX4_refusalOf 21 = .ok (.getfield 78, 3) := by decide +kernel
theorem dX4_refusalOf_24 : decode cX4_refusalOf 24 = .ok (.iadd, 1) := by decide +kernel
theorem dX4_refusalOf_25 : decode cX4_refusalOf 25 = .ok (.bipush 16, 2) := by decide +kernel
theorem dX4_refusalOf_27 : decode cX4_refusalOf 27 = .ok (.if_icmp .le 6, 3) := by decide +kernel
theorem dX4_refusalOf_30 : decode cX4_refusalOf 30 = .ok (.bipush (-3), 2) := by decide +kernel
theorem dX4_refusalOf_32 : decode cX4_refusalOf 32 = .ok (.ireturn, 1) := by decide +kernel
theorem dX4_refusalOf_33 : decode cX4_refusalOf 33 = .ok (.aload_n 1, 1) := by decide +kernel
theorem dX4_refusalOf_34 : decode cX4_refusalOf 34 = .ok (.getstatic 81, 3) := by decide +kernel
theorem dX4_refusalOf_37 : decode cX4_refusalOf 37 = .ok (.if_acmp .ne 17, 3) := by decide +kernel
theorem dX4_refusalOf_40 : decode cX4_refusalOf 40 = .ok (.aload_n 2, 1) := by decide +kernel
theorem dX4_refusalOf_41 : decode cX4_refusalOf 41 = .ok (.getfield 33, 3) := by decide +kernel
theorem dX4_refusalOf_44 : decode cX4_refusalOf 44 = .ok (.bipush 64, 2) := by decide +kernel
theorem dX4_refusalOf_46 : decode cX4_refusalOf 46 = .ok (.if_icmp .lt 8, 3) := by decide +kernel
theorem dX4_refusalOf_49 : decode cX4_refusalOf 49 = .ok (.bipush (-4), 2) := by decide +kernel
theorem dX4_refusalOf_51 : decode cX4_refusalOf 51 = .ok (.goto 4, 3) := by decide +kernel
theorem dX4_refusalOf_54 : decode cX4_refusalOf 54 = .ok (.iconst 0, 1) := by decide +kernel
theorem dX4_refusalOf_55 : decode cX4_refusalOf 55 = .ok (.ireturn, 1) := by decide +kernel
theorem dX4_step_0 : decode cX4_step 0 = .ok (.getstatic 84, 3) := by decide +kernel
theorem dX4_step_3 : decode cX4_step 3 = .ok (.aload_n 1, 1) := by decide +kernel
theorem dX4_step_4 : decode cX4_step 4 = .ok (.getfield 48, 3) := by decide +kernel
theorem dX4_step_7 : decode cX4_step 7 = .ok (.invokevirtual 90, 3) := by decide +kernel
theorem dX4_step_10 : decode cX4_step 10 = .ok (.iaload, 1) := by decide +kernel
theorem dX4_step_11 : decode cX4_step 11 = .ok (.tableswitch 97 6 10 #[33, 44, 56, 64, 76], 33) := by decide +kernel
theorem dX4_step_44 : decode cX4_step 44 = .ok (.aload_n 0, 1) := by decide +kernel
theorem dX4_step_45 : decode cX4_step 45 = .ok (.aload_n 1, 1) := by decide +kernel
theorem dX4_step_46 : decode cX4_step 46 = .ok (.getfield 93, 3) := by decide +kernel
theorem dX4_step_49 : decode cX4_step 49 = .ok (.invokevirtual 96, 3) := by decide +kernel
theorem dX4_step_52 : decode cX4_step 52 = .ok (.goto 64, 3) := by decide +kernel
theorem dX4_step_55 : decode cX4_step 55 = .ok (.aload_n 0, 1) := by decide +kernel
theorem dX4_step_56 : decode cX4_step 56 = .ok (.aload_n 1, 1) := by decide +kernel
theorem dX4_step_57 : decode cX4_step 57 = .ok (.aload_n 2, 1) := by decide +kernel
theorem dX4_step_58 : decode cX4_step 58 = .ok (.invokevirtual 100, 3) := by decide +kernel
theorem dX4_step_61 : decode cX4_step 61 = .ok (.invokevirtual 96, 3) := by decide +kernel
theorem dX4_step_64 : decode cX4_step 64 = .ok (.goto 52, 3) := by decide +kernel
theorem dX4_step_67 : decode cX4_step 67 = .ok (.aload_n 0, 1) := by decide +kernel
theorem dX4_step_68 : decode cX4_step 68 = .ok (.invokevirtual 67, 3) := by decide +kernel
theorem dX4_step_71 : decode cX4_step 71 = .ok (.pop2, 1) := by decide +kernel
theorem dX4_step_72 : decode cX4_step 72 = .ok (.goto 44, 3) := by decide +kernel
theorem dX4_step_75 : decode cX4_step 75 = .ok (.aload_n 3, 1) := by decide +kernel
theorem dX4_step_76 : decode cX4_step 76 = .ok (.aload_n 0, 1) := by decide +kernel
theorem dX4_step_77 : decode cX4_step 77 = .ok (.invokevirtual 67, 3) := by decide +kernel
theorem dX4_step_80 : decode cX4_step 80 = .ok (.l2i, 1) := by decide +kernel
theorem dX4_step_81 : decode cX4_step 81 = .ok (.invokevirtual 104, 3) := by decide +kernel
theorem dX4_step_84 : decode cX4_step 84 = .ok (.goto 32, 3) := by decide +kernel
theorem dX4_step_87 : decode cX4_step 87 = .ok (.aload_n 0, 1) := by decide +kernel
theorem dX4_step_88 : decode cX4_step 88 = .ok (.invokevirtual 67, 3) := by decide +kernel
theorem dX4_step_91 : decode cX4_step 91 = .ok (.lstore 4, 2) := by decide +kernel
theorem dX4_step_93 : decode cX4_step 93 = .ok (.aload_n 0, 1) := by decide +kernel
theorem dX4_step_94 : decode cX4_step 94 = .ok (.lload 4, 2) := by decide +kernel
theorem dX4_step_96 : decode cX4_step 96 = .ok (.invokevirtual 96, 3) := by decide +kernel
theorem dX4_step_99 : decode cX4_step 99 = .ok (.aload_n 0, 1) := by decide +kernel
theorem dX4_step_100 : decode cX4_step 100 = .ok (.lload 4, 2) := by decide +kernel
theorem dX4_step_102 : decode cX4_step 102 = .ok (.invokevirtual 96, 3) := by decide +kernel
theorem dX4_step_105 : decode cX4_step 105 = .ok (.goto 11, 3) := by decide +kernel
theorem dX4_step_108 : decode cX4_step 108 = .ok (.aload_n 0, 1) := by decide +kernel
theorem dX4_step_109 : decode cX4_step 109 = .ok (.aload_n 1, 1) := by decide +kernel
theorem dX4_step_110 : decode cX4_step 110 = .ok (.getfield 48, 3) := by decide +kernel
theorem dX4_step_113 : decode cX4_step 113 = .ok (.invokevirtual 108, 3) := by decide +kernel
theorem dX4_step_116 : decode cX4_step 116 = .ok (.return_, 1) := by decide +kernel
theorem dX4_join_0 : decode cX4_join 0 = .ok (.aload_n 0, 1) := by decide +kernel
theorem dX4_join_1 : decode cX4_join 1 = .ok (.invokevirtual 67, 3) := by decide +kernel
theorem dX4_join_4 : decode cX4_join 4 = .ok (.lstore_n 2, 1) := by decide +kernel
theorem dX4_join_5 : decode cX4_join 5 = .ok (.aload_n 0, 1) := by decide +kernel
theorem dX4_join_6 : decode cX4_join 6 = .ok (.invokevirtual 67, 3) := by decide +kernel
theorem dX4_join_9 : decode cX4_join 9 = .ok (.lstore 4, 2) := by decide +kernel
theorem dX4_join_11 : decode cX4_join 11 = .ok (.getstatic 84, 3) := by decide +kernel
theorem dX4_join_14 : decode cX4_join 14 = .ok (.aload_n 1, 1) := by decide +kernel
theorem dX4_join_15 : decode cX4_join 15 = .ok (.invokevirtual 90, 3) := by decide +kernel
theorem dX4_join_18 : decode cX4_join 18 = .ok (.iaload, 1) := by decide +kernel
theorem dX4_join_19 : decode cX4_join 19 = .ok (.tableswitch 58 11 13 #[25, 36, 47], 25) := by decide +kernel
theorem dX4_join_44 : decode cX4_join 44 = .ok (.aload_n 0, 1) := by decide +kernel
theorem dX4_join_45 : decode cX4_join 45 = .ok (.lload 4, 2) := by decide +kernel
theorem dX4_join_47 : decode cX4_join 47 = .ok (.lload_n 2, 1) := by decide +kernel
theorem dX4_join_48 : decode cX4_join 48 = .ok (.ladd, 1) := by decide +kernel
theorem dX4_join_49 : decode cX4_join 49 = .ok (.invokevirtual 96, 3) := by decide +kernel
theorem dX4_join_52 : decode cX4_join 52 = .ok (.goto 36, 3) := by decide +kernel
theorem dX4_join_55 : decode cX4_join 55 = .ok (.aload_n 0, 1) := by decide +kernel
theorem dX4_join_56 : decode cX4_join 56 = .ok (.lload 4, 2) := by decide +kernel
theorem dX4_join_58 : decode cX4_join 58 = .ok (.lload_n 2, 1) := by decide +kernel
theorem dX4_join_59 : decode cX4_join 59 = .ok (.lsub, 1) := by decide +kernel
theorem dX4_join_60 : decode cX4_join 60 = .ok (.invokevirtual 96, 3) := by decide +kernel
theorem dX4_join_63 : decode cX4_join 63 = .ok (.goto 25, 3) := by decide +kernel
theorem dX4_join_66 : decode cX4_join 66 = .ok (.aload_n 0, 1) := by decide +kernel
theorem dX4_join_67 : decode cX4_join 67 = .ok (.lload 4, 2) := by decide +kernel
theorem dX4_join_69 : decode cX4_join 69 = .ok (.lload_n 2, 1) := by decide +kernel
theorem dX4_join_70 : decode cX4_join 70 = .ok (.lmul, 1) := by decide +kernel
theorem dX4_join_71 : decode cX4_join 71 = .ok (.invokevirtual 96, 3) := by decide +kernel
theorem dX4_join_74 : decode cX4_join 74 = .ok (.goto 14, 3) := by decide +kernel
theorem dX4_join_77 : decode cX4_join 77 = .ok (.aload_n 0, 1) := by decide +kernel
theorem dX4_join_78 : decode cX4_join 78 = .ok (.lload_n 2, 1) := by decide +kernel
theorem dX4_join_79 : decode cX4_join 79 = .ok (.invokevirtual 96, 3) := by decide +kernel
theorem dX4_join_82 : decode cX4_join 82 = .ok (.aload_n 0, 1) := by decide +kernel
theorem dX4_join_83 : decode cX4_join 83 = .ok (.lload 4, 2) := by decide +kernel
theorem dX4_join_85 : decode cX4_join 85 = .ok (.invokevirtual 96, 3) := by decide +kernel
theorem dX4_join_88 : decode cX4_join 88 = .ok (.return_, 1) := by decide +kernel
theorem dX4_lay_0 : decode cX4_lay 0 = .ok (.aload_n 0, 1) := by decide +kernel
theorem dX4_lay_1 : decode cX4_lay 1 = .ok (.getfield 30, 3) := by decide +kernel
theorem dX4_lay_4 : decode cX4_lay 4 = .ok (.ifCond .lt 35, 3) := by decide +kernel
theorem dX4_lay_7 : decode cX4_lay 7 = .ok (.aload_n 0, 1) := by decide +kernel
theorem dX4_lay_8 : decode cX4_lay 8 = .ok (.getfield 30, 3) := by decide +kernel
theorem dX4_lay_11 : decode cX4_lay 11 = .ok (.aload_n 0, 1) := by decide +kernel
theorem dX4_lay_12 : decode cX4_lay 12 = .ok (.getfield 18, 3) := by decide +kernel
theorem dX4_lay_15 : decode cX4_lay 15 = .ok (.arraylength, 1) := by decide +kernel
theorem dX4_lay_16 : decode cX4_lay 16 = .ok (.if_icmp .ge 23, 3) := by decide +kernel
theorem dX4_lay_19 : decode cX4_lay 19 = .ok (.aload_n 0, 1) := by decide +kernel
theorem dX4_lay_20 : decode cX4_lay 20 = .ok (.getfield 18, 3) := by decide +kernel
theorem dX4_lay_23 : decode cX4_lay 23 = .ok (.aload_n 0, 1) := by decide +kernel
theorem dX4_lay_24 : decode cX4_lay 24 = .ok (.getfield 30, 3) := by decide +kernel
theorem dX4_lay_27 : decode cX4_lay 27 = .ok (.lload_n 1, 1) := by decide +kernel
theorem dX4_lay_28 : decode cX4_lay 28 = .ok (.lastore, 1) := by decide +kernel
theorem dX4_lay_29 : decode cX4_lay 29 = .ok (.aload_n 0, 1) := by decide +kernel
theorem dX4_lay_30 : decode cX4_lay 30 = .ok (.dup, 1) := by decide +kernel
theorem dX4_lay_31 : decode cX4_lay 31 = .ok (.getfield 30, 3) := by decide +kernel
theorem dX4_lay_34 : decode cX4_lay 34 = .ok (.iconst 1, 1) := by decide +kernel
theorem dX4_lay_35 : decode cX4_lay 35 = .ok (.iadd, 1) := by decide +kernel
theorem dX4_lay_36 : decode cX4_lay 36 = .ok (.putfield 30, 3) := by decide +kernel
theorem dX4_lay_39 : decode cX4_lay 39 = .ok (.return_, 1) := by decide +kernel
theorem dX4_lift_0 : decode cX4_lift 0 = .ok (.aload_n 0, 1) := by decide +kernel
theorem dX4_lift_1 : decode cX4_lift 1 = .ok (.getfield 30, 3) := by decide +kernel
theorem dX4_lift_4 : decode cX4_lift 4 = .ok (.iconst 1, 1) := by decide +kernel
theorem dX4_lift_5 : decode cX4_lift 5 = .ok (.if_icmp .lt 15, 3) := by decide +kernel
theorem dX4_lift_8 : decode cX4_lift 8 = .ok (.aload_n 0, 1) := by decide +kernel
theorem dX4_lift_9 : decode cX4_lift 9 = .ok (.getfield 30, 3) := by decide +kernel
theorem dX4_lift_12 : decode cX4_lift 12 = .ok (.aload_n 0, 1) := by decide +kernel
theorem dX4_lift_13 : decode cX4_lift 13 = .ok (.getfield 18, 3) := by decide +kernel
theorem dX4_lift_16 : decode cX4_lift 16 = .ok (.arraylength, 1) := by decide +kernel
theorem dX4_lift_17 : decode cX4_lift 17 = .ok (.if_icmp .le 5, 3) := by decide +kernel
theorem dX4_lift_20 : decode cX4_lift 20 = .ok (.lconst 0, 1) := by decide +kernel
theorem dX4_lift_21 : decode cX4_lift 21 = .ok (.lreturn, 1) := by decide +kernel
theorem dX4_lift_22 : decode cX4_lift 22 = .ok (.aload_n 0, 1) := by decide +kernel
theorem dX4_lift_23 : decode cX4_lift 23 = .ok (.dup, 1) := by decide +kernel
theorem dX4_lift_24 : decode cX4_lift 24 = .ok (.getfield 30, 3) := by decide +kernel
theorem dX4_lift_27 : decode cX4_lift 27 = .ok (.iconst 1, 1) := by decide +kernel
theorem dX4_lift_28 : decode cX4_lift 28 = .ok (.isub, 1) := by decide +kernel
theorem dX4_lift_29 : decode cX4_lift 29 = .ok (.putfield 30, 3) := by decide +kernel
theorem dX4_lift_32 : decode cX4_lift 32 = .ok (.aload_n 0, 1) := by decide +kernel
theorem dX4_lift_33 : decode cX4_lift 33 = .ok (.getfield 18, 3) := by decide +kernel
theorem dX4_lift_36 : decode cX4_lift 36 = .ok (.aload_n 0, 1) := by decide +kernel
theorem dX4_lift_37 : decode cX4_lift 37 = .ok (.getfield 30, 3) := by decide +kernel
theorem dX4_lift_40 : decode cX4_lift 40 = .ok (.laload, 1) := by decide +kernel
theorem dX4_lift_41 : decode cX4_lift 41 = .ok (.lreturn, 1) := by decide +kernel
theorem dX5_init_0 : decode cX5_init 0 = .ok (.aload_n 0, 1) := by decide +kernel
theorem dX5_init_1 : decode cX5_init 1 = .ok (.invokespecial 3, 3) := by decide +kernel
theorem dX5_init_4 : decode cX5_init 4 = .ok (.aload_n 0, 1) := by decide +kernel
theorem dX5_init_5 : decode cX5_init 5 = .ok (.iload_n 1, 1) := by decide +kernel
theorem dX5_init_6 : decode cX5_init 6 = .ok (.putfield 9, 3) := by decide +kernel
theorem dX5_init_9 : decode cX5_init 9 = .ok (.aload_n 0, 1) := by decide +kernel
theorem dX5_init_10 : decode cX5_init 10 = .ok (.iload_n 2, 1) := by decide +kernel
theorem dX5_init_11 : decode cX5_init 11 = .ok (.putfield 15, 3) := by decide +kernel
theorem dX5_init_14 : decode cX5_init 14 = .ok (.aload_n 0, 1) := by decide +kernel
theorem dX5_init_15 : decode cX5_init 15 = .ok (.lload_n 3, 1) := by decide +kernel
theorem dX5_init_16 : decode cX5_init 16 = .ok (.putfield 18, 3) := by decide +kernel
theorem dX5_init_19 : decode cX5_init 19 = .ok (.return_, 1) := by decide +kernel
theorem dX5_isInRing_0 : decode cX5_isInRing 0 = .ok (.aload_n 0, 1) := by decide +kernel
theorem dX5_isInRing_1 : decode cX5_isInRing 1 = .ok (.getfield 22, 3) := by decide +kernel
theorem dX5_isInRing_4 : decode cX5_isInRing 4 = .ok (.astore_n 1, 1) := by decide +kernel
theorem dX5_isInRing_5 : decode cX5_isInRing 5 = .ok (.iconst 0, 1) := by decide +kernel
theorem dX5_isInRing_6 : decode cX5_isInRing 6 = .ok (.istore_n 2, 1) := by decide +kernel
theorem dX5_isInRing_7 : decode cX5_isInRing 7 = .ok (.iload_n 2, 1) := by decide +kernel
theorem dX5_isInRing_8 : decode cX5_isInRing 8 = .ok (.bipush 6, 2) := by decide +kernel
theorem dX5_isInRing_10 : decode cX5_isInRing 10 = .ok (.if_icmp .ge 25, 3) := by decide +kernel
theorem dX5_isInRing_13 : decode cX5_isInRing 13 = .ok (.aload_n 1, 1) := by decide +kernel
theorem dX5_isInRing_14 : decode cX5_isInRing 14 = .ok (.ifnull 21, 3) := by decide +kernel
theorem dX5_isInRing_17 : decode cX5_isInRing 17 = .ok (.aload_n 1, 1) := by decide +kernel
theorem dX5_isInRing_18 : decode cX5_isInRing 18 = .ok (.aload_n 0, 1) := by decide +kernel
theorem dX5_isInRing_19 : decode cX5_isInRing 19 = .ok (.if_acmp .ne 5, 3) := by decide +kernel
theorem dX5_isInRing_22 : decode cX5_isInRing 22 = .ok (.iconst 1, 1) := by decide +kernel
theorem dX5_isInRing_23 : decode cX5_isInRing 23 = .ok (.ireturn, 1) := by decide +kernel
theorem dX5_isInRing_24 : decode cX5_isInRing 24 = .ok (.aload_n 1, 1) := by decide +kernel
theorem dX5_isInRing_25 : decode cX5_isInRing 25 = .ok (.getfield 22, 3) := by decide +kernel
theorem dX5_isInRing_28 : decode cX5_isInRing 28 = .ok (.astore_n 1, 1) := by decide +kernel
theorem dX5_isInRing_29 : decode cX5_isInRing 29 = .ok (.iinc 2 1, 3) := by decide +kernel
theorem dX5_isInRing_32 : decode cX5_isInRing 32 = .ok (.goto (-25), 3) := by decide +kernel
theorem dX5_isInRing_35 : decode cX5_isInRing 35 = .ok (.iconst 0, 1) := by decide +kernel
theorem dX5_isInRing_36 : decode cX5_isInRing 36 = .ok (.ireturn, 1) := by decide +kernel
theorem dX6_init_0 : decode cX6_init 0 = .ok (.aload_n 0, 1) := by decide +kernel
theorem dX6_init_1 : decode cX6_init 1 = .ok (.invokespecial 3, 3) := by decide +kernel
theorem dX6_init_4 : decode cX6_init 4 = .ok (.aload_n 0, 1) := by decide +kernel
theorem dX6_init_5 : decode cX6_init 5 = .ok (.bipush 64, 2) := by decide +kernel
theorem dX6_init_7 : decode cX6_init 7 = .ok (.newarray .byte, 2) := by decide +kernel
theorem dX6_init_9 : decode cX6_init 9 = .ok (.putfield 9, 3) := by decide +kernel
theorem dX6_init_12 : decode cX6_init 12 = .ok (.return_, 1) := by decide +kernel
theorem dX6_add_0 : decode cX6_add 0 = .ok (.aload_n 0, 1) := by decide +kernel
theorem dX6_add_1 : decode cX6_add 1 = .ok (.getfield 15, 3) := by decide +kernel
theorem dX6_add_4 : decode cX6_add 4 = .ok (.ifCond .lt 36, 3) := by decide +kernel
theorem dX6_add_7 : decode cX6_add 7 = .ok (.aload_n 0, 1) := by decide +kernel
theorem dX6_add_8 : decode cX6_add 8 = .ok (.getfield 15, 3) := by decide +kernel
theorem dX6_add_11 : decode cX6_add 11 = .ok (.aload_n 0, 1) := by decide +kernel
theorem dX6_add_12 : decode cX6_add 12 = .ok (.getfield 9, 3) := by decide +kernel
theorem dX6_add_15 : decode cX6_add 15 = .ok (.arraylength, 1) := by decide +kernel
theorem dX6_add_16 : decode cX6_add 16 = .ok (.if_icmp .ge 24, 3) := by decide +kernel
theorem dX6_add_19 : decode cX6_add 19 = .ok (.aload_n 0, 1) := by decide +kernel
theorem dX6_add_20 : decode cX6_add 20 = .ok (.getfield 9, 3) := by decide +kernel
theorem dX6_add_23 : decode cX6_add 23 = .ok (.aload_n 0, 1) := by decide +kernel
theorem dX6_add_24 : decode cX6_add 24 = .ok (.getfield 15, 3) := by decide +kernel
theorem dX6_add_27 : decode cX6_add 27 = .ok (.iload_n 1, 1) := by decide +kernel
theorem dX6_add_28 : decode cX6_add 28 = .ok (.i2b, 1) := by decide +kernel
theorem dX6_add_29 : decode cX6_add 29 = .ok (.bastore, 1) := by decide +kernel
theorem dX6_add_30 : decode cX6_add 30 = .ok (.aload_n 0, 1) := by decide +kernel
theorem dX6_add_31 : decode cX6_add 31 = .ok (.dup, 1) := by decide +kernel
theorem dX6_add_32 : decode cX6_add 32 = .ok (.getfield 15, 3) := by decide +kernel
theorem dX6_add_35 : decode cX6_add 35 = .ok (.iconst 1, 1) := by decide +kernel
theorem dX6_add_36 : decode cX6_add 36 = .ok (.iadd, 1) := by decide +kernel
theorem dX6_add_37 : decode cX6_add 37 = .ok (.putfield 15, 3) := by decide +kernel
theorem dX6_add_40 : decode cX6_add 40 = .ok (.return_, 1) := by decide +kernel
theorem dX6_at_0 : decode cX6_at 0 = .ok (.iload_n 1, 1) := by decide +kernel
theorem dX6_at_1 : decode cX6_at 1 = .ok (.ifCond .lt 20, 3) := by decide +kernel
theorem dX6_at_4 : decode cX6_at 4 = .ok (.iload_n 1, 1) := by decide +kernel
theorem dX6_at_5 : decode cX6_at 5 = .ok (.aload_n 0, 1) := by decide +kernel
theorem dX6_at_6 : decode cX6_at 6 = .ok (.getfield 15, 3) := by decide +kernel
theorem dX6_at_9 : decode cX6_at 9 = .ok (.if_icmp .ge 12, 3) := by decide +kernel
theorem dX6_at_12 : decode cX6_at 12 = .ok (.iload_n 1, 1) := by decide +kernel
theorem dX6_at_13 : decode cX6_at 13 = .ok (.aload_n 0, 1) := by decide +kernel
theorem dX6_at_14 : decode cX6_at 14 = .ok (.getfield 9, 3) := by decide +kernel
theorem dX6_at_17 : decode cX6_at 17 = .ok (.arraylength, 1) := by decide +kernel
theorem dX6_at_18 : decode cX6_at 18 = .ok (.if_icmp .lt 7, 3) := by decide +kernel
theorem dX6_at_21 : decode cX6_at 21 = .ok (.iconst 0, 1) := by decide +kernel
theorem dX6_at_22 : decode cX6_at 22 = .ok (.goto 13, 3) := by decide +kernel
theorem dX6_at_25 : decode cX6_at 25 = .ok (.aload_n 0, 1) := by decide +kernel
theorem dX6_at_26 : decode cX6_at 26 = .ok (.getfield 9, 3) := by decide +kernel
theorem dX6_at_29 : decode cX6_at 29 = .ok (.iload_n 1, 1) := by decide +kernel
theorem dX6_at_30 : decode cX6_at 30 = .ok (.baload, 1) := by decide +kernel
theorem dX6_at_31 : decode cX6_at 31 = .ok (.sipush 255, 3) := by decide +kernel
theorem dX6_at_34 : decode cX6_at 34 = .ok (.iand, 1) := by decide +kernel
theorem dX6_at_35 : decode cX6_at 35 = .ok (.ireturn, 1) := by decide +kernel
theorem dX7_init_0 : decode cX7_init 0 = .ok (.aload_n 0, 1) := by decide +kernel
theorem dX7_init_1 : decode cX7_init 1 = .ok (.invokespecial 1, 3) := by decide +kernel
theorem dX7_init_4 : decode cX7_init 4 = .ok (.aload_n 0, 1) := by decide +kernel
theorem dX7_init_5 : decode cX7_init 5 = .ok (.aload_n 1, 1) := by decide +kernel
theorem dX7_init_6 : decode cX7_init 6 = .ok (.putfield 7, 3) := by decide +kernel
theorem dX7_init_9 : decode cX7_init 9 = .ok (.return_, 1) := by decide +kernel
theorem dX7_valueIn_0 : decode cX7_valueIn 0 = .ok (.aload_n 0, 1) := by decide +kernel
theorem dX7_valueIn_1 : decode cX7_valueIn 1 = .ok (.getfield 13, 3) := by decide +kernel
theorem dX7_valueIn_4 : decode cX7_valueIn 4 = .ok (.ifnull 20, 3) := by decide +kernel
theorem dX7_valueIn_7 : decode cX7_valueIn 7 = .ok (.aload_n 0, 1) := by decide +kernel
theorem dX7_valueIn_8 : decode cX7_valueIn 8 = .ok (.getfield 17, 3) := by decide +kernel
theorem dX7_valueIn_11 : decode cX7_valueIn 11 = .ok (.ifnull 13, 3) := by decide +kernel
theorem dX7_valueIn_14 : decode cX7_valueIn 14 = .ok (.aload_n 0, 1) := by decide +kernel
theorem dX7_valueIn_15 : decode cX7_valueIn 15 = .ok (.getfield 17, 3) := by decide +kernel
theorem dX7_valueIn_18 : decode cX7_valueIn 18 = .ok (.getfield 21, 3) := by decide +kernel
theorem dX7_valueIn_21 : decode cX7_valueIn 21 = .ok (.ifnonnull 5, 3) := by decide +kernel
theorem dX7_valueIn_24 : decode cX7_valueIn 24 = .ok (.lconst 0, 1) := by decide +kernel
theorem dX7_valueIn_25 : decode cX7_valueIn 25 = .ok (.lreturn, 1) := by decide +kernel
theorem dX7_valueIn_26 : decode cX7_valueIn 26 = .ok (.aload_n 0, 1) := by decide +kernel
theorem dX7_valueIn_27 : decode cX7_valueIn 27 = .ok (.getfield 13, 3) := by decide +kernel
theorem dX7_valueIn_30 : decode cX7_valueIn 30 = .ok (.aload_n 1, 1) := by decide +kernel
theorem dX7_valueIn_31 : decode cX7_valueIn 31 = .ok (.invokevirtual 27, 3) := by decide +kernel
theorem dX7_valueIn_34 : decode cX7_valueIn 34 = .ok (.aload_n 0, 1) := by decide +kernel
theorem dX7_valueIn_35 : decode cX7_valueIn 35 = .ok (.getfield 17, 3) := by decide +kernel
theorem dX7_valueIn_38 : decode cX7_valueIn 38 = .ok (.getfield 33, 3) := by decide +kernel
theorem dX7_valueIn_41 : decode cX7_valueIn 41 = .ok (.ifCond .ne 7, 3) := by decide +kernel
theorem dX7_valueIn_44 : decode cX7_valueIn 44 = .ok (.lconst 0, 1) := by decide +kernel
theorem dX7_valueIn_45 : decode cX7_valueIn 45 = .ok (.goto 20, 3) := by decide +kernel
theorem dX7_valueIn_48 : decode cX7_valueIn 48 = .ok (.aload_n 0, 1) := by decide +kernel
theorem dX7_valueIn_49 : decode cX7_valueIn 49 = .ok (.getfield 17, 3) := by decide +kernel
theorem dX7_valueIn_52 : decode cX7_valueIn 52 = .ok (.getfield 21, 3) := by decide +kernel
theorem dX7_valueIn_55 : decode cX7_valueIn 55 = .ok (.aload_n 0, 1) := by decide +kernel
theorem dX7_valueIn_56 : decode cX7_valueIn 56 = .ok (.getfield 17, 3) := by decide +kernel
theorem dX7_valueIn_59 : decode cX7_valueIn 59 = .ok (.getfield 37, 3) := by decide +kernel
theorem dX7_valueIn_62 : decode cX7_valueIn 62 = .ok (.invokevirtual 41, 3) := by decide +kernel
theorem dX7_valueIn_65 : decode cX7_valueIn 65 = .ok (.lreturn, 1) := by decide +kernel
theorem dX8_init_0 : decode cX8_init 0 = .ok (.aload_n 0, 1) := by decide +kernel
theorem dX8_init_1 : decode cX8_init 1 = .ok (.invokespecial 3, 3) := by decide +kernel
theorem dX8_init_4 : decode cX8_init 4 = .ok (.aload_n 0, 1) := by decide +kernel
theorem dX8_init_5 : decode cX8_init 5 = .ok (.iconst 0, 1) := by decide +kernel
theorem dX8_init_6 : decode cX8_init 6 = .ok (.putfield 9, 3) := by decide +kernel
theorem dX8_init_9 : decode cX8_init 9 = .ok (.aload_n 0, 1) := by decide +kernel
theorem dX8_init_10 : decode cX8_init 10 = .ok (.iload_n 1, 1) := by decide +kernel
theorem dX8_init_11 : decode cX8_init 11 = .ok (.putfield 15, 3) := by decide +kernel
theorem dX8_init_14 : decode cX8_init 14 = .ok (.aload_n 0, 1) := by decide +kernel
theorem dX8_init_15 : decode cX8_init 15 = .ok (.iload_n 2, 1) := by decide +kernel
theorem dX8_init_16 : decode cX8_init 16 = .ok (.putfield 18, 3) := by decide +kernel
theorem dX8_init_19 : decode cX8_init 19 = .ok (.aload_n 0, 1) := by decide +kernel
theorem dX8_init_20 : decode cX8_init 20 = .ok (.lload_n 3, 1) := by decide +kernel
theorem dX8_init_21 : decode cX8_init 21 = .ok (.putfield 21, 3) := by decide +kernel
theorem dX8_init_24 : decode cX8_init 24 = .ok (.return_, 1) := by decide +kernel
theorem dX8_wantedSize_0 : decode cX8_wantedSize 0 = .ok (.aload_n 0, 1) := by decide +kernel
theorem dX8_wantedSize_1 : decode cX8_wantedSize 1 = .ok (.getfield 25, 3) := by decide +kernel
theorem dX8_wantedSize_4 : decode cX8_wantedSize 4 = .ok (.ifnonnull 7, 3) := by decide +kernel
theorem dX8_wantedSize_7 : decode cX8_wantedSize 7 = .ok (.iconst 0, 1) := by decide +kernel
theorem dX8_wantedSize_8 : decode cX8_wantedSize 8 = .ok (.goto 15, 3) := by decide +kernel
theorem dX8_wantedSize_11 : decode cX8_wantedSize 11 = .ok (.aload_n 0, 1) := by decide +kernel
theorem dX8_wantedSize_12 : decode cX8_wantedSize 12 = .ok (.invokevirtual 29, 3) := by decide +kernel
theorem dX8_wantedSize_15 : decode cX8_wantedSize 15 = .ok (.aload_n 0, 1) := by decide +kernel
theorem dX8_wantedSize_16 : decode cX8_wantedSize 16 = .ok (.getfield 25, 3) := by decide +kernel
theorem dX8_wantedSize_19 : decode cX8_wantedSize 19 = .ok (.getfield 33, 3) := by decide +kernel
theorem dX8_wantedSize_22 : decode cX8_wantedSize 22 = .ok (.imul, 1) := by decide +kernel
theorem dX8_wantedSize_23 : decode cX8_wantedSize 23 = .ok (.ireturn, 1) := by decide +kernel
theorem dX8_groups_0 : decode cX8_groups 0 = .ok (.aload_n 0, 1) := by decide +kernel
theorem dX8_groups_1 : decode cX8_groups 1 = .ok (.getfield 9, 3) := by decide +kernel
theorem dX8_groups_4 : decode cX8_groups 4 = .ok (.ifCond .ne 5, 3) := by decide +kernel
theorem dX8_groups_7 : decode cX8_groups 7 = .ok (.iconst 1, 1) := by decide +kernel
theorem dX8_groups_8 : decode cX8_groups 8 = .ok (.ireturn, 1) := by decide +kernel
theorem dX8_groups_9 : decode cX8_groups 9 = .ok (.aload_n 0, 1) := by decide +kernel
theorem dX8_groups_10 : decode cX8_groups 10 = .ok (.getfield 38, 3) := by decide +kernel
theorem dX8_groups_13 : decode cX8_groups 13 = .ok (.ifnull 13, 3) := by decide +kernel
theorem dX8_groups_16 : decode cX8_groups 16 = .ok (.aload_n 0, 1) := by decide +kernel
theorem dX8_groups_17 : decode cX8_groups 17 = .ok (.getfield 38, 3) := by decide +kernel
theorem dX8_groups_20 : decode cX8_groups 20 = .ok (.getfield 42, 3) := by decide +kernel
theorem dX8_groups_23 : decode cX8_groups 23 = .ok (.ifCond .ne 5, 3) := by decide +kernel
theorem dX8_groups_26 : decode cX8_groups 26 = .ok (.iconst 0, 1) := by decide +kernel
theorem dX8_groups_27 : decode cX8_groups 27 = .ok (.ireturn, 1) := by decide +kernel
theorem dX8_groups_28 : decode cX8_groups 28 = .ok (.aload_n 0, 1) := by decide +kernel
theorem dX8_groups_29 : decode cX8_groups 29 = .ok (.getfield 9, 3) := by decide +kernel
theorem dX8_groups_32 : decode cX8_groups 32 = .ok (.iconst 1, 1) := by decide +kernel
theorem dX8_groups_33 : decode cX8_groups 33 = .ok (.if_icmp .ne 25, 3) := by decide +kernel
theorem dX8_groups_36 : decode cX8_groups 36 = .ok (.aload_n 0, 1) := by decide +kernel
theorem dX8_groups_37 : decode cX8_groups 37 = .ok (.getfield 38, 3) := by decide +kernel
theorem dX8_groups_40 : decode cX8_groups 40 = .ok (.getfield 45, 3) := by decide +kernel
theorem dX8_groups_43 : decode cX8_groups 43 = .ok (.aload_n 0, 1) := by decide +kernel
theorem dX8_groups_44 : decode cX8_groups 44 = .ok (.getfield 48, 3) := by decide +kernel
theorem dX8_groups_47 : decode cX8_groups 47 = .ok (.i2l, 1) := by decide +kernel
theorem dX8_groups_48 : decode cX8_groups 48 = .ok (.lcmp, 1) := by decide +kernel
theorem dX8_groups_49 : decode cX8_groups 49 = .ok (.ifCond .ne 7, 3) := by decide +kernel
theorem dX8_groups_52 : decode cX8_groups 52 = .ok (.iconst 1, 1) := by decide +kernel
theorem dX8_groups_53 : decode cX8_groups 53 = .ok (.goto 4, 3) := by decide +kernel
theorem dX8_groups_56 : decode cX8_groups 56 = .ok (.iconst 0, 1) := by decide +kernel
theorem dX8_groups_57 : decode cX8_groups 57 = .ok (.ireturn, 1) := by decide +kernel
theorem dX8_groups_58 : decode cX8_groups 58 = .ok (.lconst 0, 1) := by decide +kernel
theorem dX8_groups_59 : decode cX8_groups 59 = .ok (.aload_n 0, 1) := by decide +kernel
theorem dX8_groups_60 : decode cX8_groups 60 = .ok (.getfield 38, 3) := by decide +kernel
theorem dX8_groups_63 : decode cX8_groups 63 = .ok (.getfield 45, 3) := by decide +kernel
theorem dX8_groups_66 : decode cX8_groups 66 = .ok (.ldc2_w 51, 3) := by decide +kernel
theorem dX8_groups_69 : decode cX8_groups 69 = .ok (.invokestatic 53, 3) := by decide +kernel
theorem dX8_groups_72 : decode cX8_groups 72 = .ok (.invokestatic 59, 3) := by decide +kernel
theorem dX8_groups_75 : decode cX8_groups 75 = .ok (.l2i, 1) := by decide +kernel
theorem dX8_groups_76 : decode cX8_groups 76 = .ok (.ireturn, 1) := by decide +kernel
theorem dX8_lay_0 : decode cX8_lay 0 = .ok (.aload_n 0, 1) := by decide +kernel
theorem dX8_lay_1 : decode cX8_lay 1 = .ok (.iload_n 1, 1) := by decide +kernel
theorem dX8_lay_2 : decode cX8_lay 2 = .ok (.putfield 62, 3) := by decide +kernel
theorem dX8_lay_5 : decode cX8_lay 5 = .ok (.aload_n 0, 1) := by decide +kernel
theorem dX8_lay_6 : decode cX8_lay 6 = .ok (.iload_n 2, 1) := by decide +kernel
theorem dX8_lay_7 : decode cX8_lay 7 = .ok (.putfield 42, 3) := by decide +kernel
theorem dX8_lay_10 : decode cX8_lay 10 = .ok (.aload_n 0, 1) := by decide +kernel
theorem dX8_lay_11 : decode cX8_lay 11 = .ok (.lload_n 3, 1) := by decide +kernel
theorem dX8_lay_12 : decode cX8_lay 12 = .ok (.putfield 45, 3) := by decide +kernel
theorem dX8_lay_15 : decode cX8_lay 15 = .ok (.return_, 1) := by decide +kernel
theorem dX8_write_0 : decode cX8_write 0 = .ok (.aload_n 0, 1) := by decide +kernel
theorem dX8_write_1 : decode cX8_write 1 = .ok (.getfield 25, 3) := by decide +kernel
theorem dX8_write_4 : decode cX8_write 4 = .ok (.ifnonnull 7, 3) := by decide +kernel
theorem dX8_write_7 : decode cX8_write 7 = .ok (.iconst 0, 1) := by decide +kernel
theorem dX8_write_8 : decode cX8_write 8 = .ok (.goto 10, 3) := by decide +kernel
theorem dX8_write_11 : decode cX8_write 11 = .ok (.aload_n 0, 1) := by decide +kernel
theorem dX8_write_12 : decode cX8_write 12 = .ok (.getfield 25, 3) := by decide +kernel
theorem dX8_write_15 : decode cX8_write 15 = .ok (.getfield 33, 3) := by decide +kernel
theorem dX8_write_18 : decode cX8_write 18 = .ok (.istore_n 2, 1) := by decide +kernel
theorem dX8_write_19 : decode cX8_write 19 = .ok (.iconst 0, 1) := by decide +kernel
theorem dX8_write_20 : decode cX8_write 20 = .ok (.istore_n 3, 1) := by decide +kernel
theorem dX8_write_21 : decode cX8_write 21 = .ok (.iload_n 3, 1) := by decide +kernel
theorem dX8_write_22 : decode cX8_write 22 = .ok (.aload_n 0, 1) := by decide +kernel
theorem dX8_write_23 : decode cX8_write 23 = .ok (.getfield 42, 3) := by decide +kernel
theorem dX8_write_26 : decode cX8_write 26 = .ok (.if_icmp .ge 36, 3) := by decide +kernel
theorem dX8_write_29 : decode cX8_write 29 = .ok (.aload_n 1, 1) := by decide +kernel
theorem dX8_write_30 : decode cX8_write 30 = .ok (.iload_n 3, 1) := by decide +kernel
theorem dX8_write_31 : decode cX8_write 31 = .ok (.iload_n 2, 1) := by decide +kernel
theorem dX8_write_32 : decode cX8_write 32 = .ok (.if_icmp .ge 20, 3) := by decide +kernel
theorem dX8_write_35 : decode cX8_write 35 = .ok (.aload_n 0, 1) := by decide +kernel
theorem dX8_write_36 : decode cX8_write 36 = .ok (.getfield 45, 3) := by decide +kernel
theorem dX8_write_39 : decode cX8_write 39 = .ok (.bipush 8, 2) := by decide +kernel
theorem dX8_write_41 : decode cX8_write 41 = .ok (.iload_n 2, 1) := by decide +kernel
theorem dX8_write_42 : decode cX8_write 42 = .ok (.iconst 1, 1) := by decide +kernel
theorem dX8_write_43 : decode cX8_write 43 = .ok (.isub, 1) := by decide +kernel
theorem dX8_write_44 : decode cX8_write 44 = .ok (.iload_n 3, 1) := by decide +kernel
theorem dX8_write_45 : decode cX8_write 45 = .ok (.isub, 1) := by decide +kernel
theorem dX8_write_46 : decode cX8_write 46 = .ok (.imul, 1) := by decide +kernel
theorem dX8_write_47 : decode cX8_write 47 = .ok (.lshr, 1) := by decide +kernel
theorem dX8_write_48 : decode cX8_write 48 = .ok (.l2i, 1) := by decide +kernel
theorem dX8_write_49 : decode cX8_write 49 = .ok (.goto 4, 3) := by decide +kernel
theorem dX8_write_52 : decode cX8_write 52 = .ok (.iconst 0, 1) := by decide +kernel
theorem dX8_write_53 : decode cX8_write 53 = .ok (.invokevirtual 65, 3) := by decide +kernel
theorem dX8_write_56 : decode cX8_write 56 = .ok (.iinc 3 1, 3) := by decide +kernel
theorem dX8_write_59 : decode cX8_write 59 = .ok (.goto (-38), 3) := by decide +kernel
theorem dX8_write_62 : decode cX8_write 62 = .ok (.return_, 1) := by decide +kernel
theorem dX8_isLike_0 : decode cX8_isLike 0 = .ok (.aload_n 0, 1) := by decide +kernel
theorem dX8_isLike_1 : decode cX8_isLike 1 = .ok (.getfield 21, 3) := by decide +kernel
theorem dX8_isLike_4 : decode cX8_isLike 4 = .ok (.aload_n 1, 1) := by decide +kernel
theorem dX8_isLike_5 : decode cX8_isLike 5 = .ok (.getfield 21, 3) := by decide +kernel
theorem dX8_isLike_8 : decode cX8_isLike 8 = .ok (.lcmp, 1) := by decide +kernel
theorem dX8_isLike_9 : decode cX8_isLike 9 = .ok (.ifCond .ne 25, 3) := by decide +kernel
theorem dX8_isLike_12 : decode cX8_isLike 12 = .ok (.aload_n 0, 1) := by decide +kernel
theorem dX8_isLike_13 : decode cX8_isLike 13 = .ok (.getfield 9, 3) := by decide +kernel
theorem dX8_isLike_16 : decode cX8_isLike 16 = .ok (.aload_n 1, 1) := by decide +kernel
theorem dX8_isLike_17 : decode cX8_isLike 17 = .ok (.getfield 9, 3) := by decide +kernel
theorem dX8_isLike_20 : decode cX8_isLike 20 = .ok (.if_icmp .ne 14, 3) := by decide +kernel
theorem dX8_isLike_23 : decode cX8_isLike 23 = .ok (.aload_n 0, 1) := by decide +kernel
theorem dX8_isLike_24 : decode cX8_isLike 24 = .ok (.getfield 48, 3) := by decide +kernel
theorem dX8_isLike_27 : decode cX8_isLike 27 = .ok (.aload_n 1, 1) := by decide +kernel
theorem dX8_isLike_28 : decode cX8_isLike 28 = .ok (.getfield 48, 3) := by decide +kernel
theorem dX8_isLike_31 : decode cX8_isLike 31 = .ok (.if_icmp .eq 5, 3) := by decide +kernel
theorem dX8_isLike_34 : decode cX8_isLike 34 = .ok (.iconst 0, 1) := by decide +kernel
theorem dX8_isLike_35 : decode cX8_isLike 35 = .ok (.ireturn, 1) := by decide +kernel
theorem dX8_isLike_36 : decode cX8_isLike 36 = .ok (.aload_n 0, 1) := by decide +kernel
theorem dX8_isLike_37 : decode cX8_isLike 37 = .ok (.getfield 71, 3) := by decide +kernel
theorem dX8_isLike_40 : decode cX8_isLike 40 = .ok (.aload_n 1, 1) := by decide +kernel
theorem dX8_isLike_41 : decode cX8_isLike 41 = .ok (.getfield 71, 3) := by decide +kernel
theorem dX8_isLike_44 : decode cX8_isLike 44 = .ok (.lcmp, 1) := by decide +kernel
theorem dX8_isLike_45 : decode cX8_isLike 45 = .ok (.ifCond .ne 17, 3) := by decide +kernel
theorem dX8_isLike_48 : decode cX8_isLike 48 = .ok (.aload_n 0, 1) := by decide +kernel
theorem dX8_isLike_49 : decode cX8_isLike 49 = .ok (.getfield 25, 3) := by decide +kernel
theorem dX8_isLike_52 : decode cX8_isLike 52 = .ok (.ifnull 10, 3) := by decide +kernel
theorem dX8_isLike_55 : decode cX8_isLike 55 = .ok (.aload_n 1, 1) := by decide +kernel
theorem dX8_isLike_56 : decode cX8_isLike 56 = .ok (.getfield 25, 3) := by decide +kernel
theorem dX8_isLike_59 : decode cX8_isLike 59 = .ok (.ifnonnull 5, 3) := by decide +kernel
theorem dX8_isLike_62 : decode cX8_isLike 62 = .ok (.iconst 0, 1) := by decide +kernel
theorem dX8_isLike_63 : decode cX8_isLike 63 = .ok (.ireturn, 1) := by decide +kernel
theorem dX8_isLike_64 : decode cX8_isLike 64 = .ok (.aload_n 0, 1) := by decide +kernel
theorem dX8_isLike_65 : decode cX8_isLike 65 = .ok (.getfield 25, 3) := by decide +kernel
theorem dX8_isLike_68 : decode cX8_isLike 68 = .ok (.aload_n 1, 1) := by decide +kernel
theorem dX8_isLike_69 : decode cX8_isLike 69 = .ok (.getfield 25, 3) := by decide +kernel
theorem dX8_isLike_72 : decode cX8_isLike 72 = .ok (.invokevirtual 74, 3) := by decide +kernel
theorem dX8_isLike_75 : decode cX8_isLike 75 = .ok (.ireturn, 1) := by decide +kernel
theorem dX9_init_0 : decode cX9_init 0 = .ok (.aload_n 0, 1) := by decide +kernel
theorem dX9_init_1 : decode cX9_init 1 = .ok (.invokespecial 3, 3) := by decide +kernel
theorem dX9_init_4 : decode cX9_init 4 = .ok (.aload_n 0, 1) := by decide +kernel
theorem dX9_init_5 : decode cX9_init 5 = .ok (.new 9, 3) := by decide +kernel
theorem dX9_init_8 : decode cX9_init 8 = .ok (.dup, 1) := by decide +kernel
theorem dX9_init_9 : decode cX9_init 9 = .ok (.invokespecial 11, 3) := by decide +kernel
theorem dX9_init_12 : decode cX9_init 12 = .ok (.putfield 12, 3) := by decide +kernel
theorem dX9_init_15 : decode cX9_init 15 = .ok (.aload_n 0, 1) := by decide +kernel
theorem dX9_init_16 : decode cX9_init 16 = .ok (.iconst 3, 1) := by decide +kernel
theorem dX9_init_17 : decode cX9_init 17 = .ok (.newarray .int, 2) := by decide +kernel
theorem dX9_init_19 : decode cX9_init 19 = .ok (.putfield 18, 3) := by decide +kernel
theorem dX9_init_22 : decode cX9_init 22 = .ok (.return_, 1) := by decide +kernel
theorem dX9_fill_0 : decode cX9_fill 0 = .ok (.aload_n 0, 1) := by decide +kernel
theorem dX9_fill_1 : decode cX9_fill 1 = .ok (.getfield 12, 3) := by decide +kernel
theorem dX9_fill_4 : decode cX9_fill 4 = .ok (.aload_n 2, 1) := by decide +kernel
theorem dX9_fill_5 : decode cX9_fill 5 = .ok (.iload_n 3, 1) := by decide +kernel
theorem dX9_fill_6 : decode cX9_fill 6 = .ok (.invokevirtual 22, 3) := by decide +kernel
theorem dX9_fill_9 : decode cX9_fill 9 = .ok (.aload_n 0, 1) := by decide +kernel
theorem dX9_fill_10 : decode cX9_fill 10 = .ok (.aload_n 1, 1) := by decide +kernel
theorem dX9_fill_11 : decode cX9_fill 11 = .ok (.putfield 26, 3) := by decide +kernel
theorem dX9_fill_14 : decode cX9_fill 14 = .ok (.aload_n 0, 1) := by decide +kernel
theorem dX9_fill_15 : decode cX9_fill 15 = .ok (.iconst 0, 1) := by decide +kernel
theorem dX9_fill_16 : decode cX9_fill 16 = .ok (.putfield 30, 3) := by decide +kernel
theorem dX9_fill_19 : decode cX9_fill 19 = .ok (.aload_n 0, 1) := by decide +kernel
theorem dX9_fill_20 : decode cX9_fill 20 = .ok (.iconst (-1), 1) := by decide +kernel
theorem dX9_fill_21 : decode cX9_fill 21 = .ok (.putfield 34, 3) := by decide +kernel
theorem dX9_fill_24 : decode cX9_fill 24 = .ok (.iconst 0, 1) := by decide +kernel
theorem dX9_fill_25 : decode cX9_fill 25 = .ok (.istore 4, 2) := by decide +kernel
theorem dX9_fill_27 : decode cX9_fill 27 = .ok (.iload 4, 2) := by decide +kernel
theorem dX9_fill_29 : decode cX9_fill 29 = .ok (.aload_n 0, 1) := by decide +kernel
theorem dX9_fill_30 : decode cX9_fill 30 = .ok (.getfield 12, 3) := by decide +kernel
theorem dX9_fill_33 : decode cX9_fill 33 = .ok (.getfield 37, 3) := by decide +kernel
theorem dX9_fill_36 : decode cX9_fill 36 = .ok (.if_icmp .ge 117, 3) := by decide +kernel
theorem dX9_fill_39 : decode cX9_fill 39 = .ok (.aload_n 0, 1) := by decide +kernel
theorem dX9_fill_40 : decode cX9_fill 40 = .ok (.getfield 34, 3) := by decide +kernel
theorem dX9_fill_43 : decode cX9_fill 43 = .ok (.ifCond .ge 110, 3) := by decide +kernel
theorem dX9_fill_46 : decode cX9_fill 46 = .ok (.aload_n 0, 1) := by decide +kernel
theorem dX9_fill_47 : decode cX9_fill 47 = .ok (.getstatic 40, 3) := by decide +kernel
theorem dX9_fill_50 : decode cX9_fill 50 = .ok (.invokevirtual 46, 3) := by decide +kernel
theorem dX9_fill_53 : decode cX9_fill 53 = .ok (.ifCond .ne 100, 3) := by decide +kernel
theorem dX9_fill_56 : decode cX9_fill 56 = .ok (.getstatic 50, 3) := by decide +kernel
theorem dX9_fill_59 : decode cX9_fill 59 = .ok (.aload_n 0, 1) := by decide +kernel
theorem dX9_fill_60 : decode cX9_fill 60 = .ok (.getfield 12, 3) := by decide +kernel
theorem dX9_fill_63 : decode cX9_fill 63 = .ok (.aload_n 0, 1) := by decide +kernel
theorem dX9_fill_64 : decode cX9_fill 64 = .ok (.getfield 30, 3) := by decide +kernel
theorem dX9_fill_67 : decode cX9_fill 67 = .ok (.invokevirtual 55, 3) := by decide +kernel
theorem dX9_fill_70 : decode cX9_fill 70 = .ok (.invokevirtual 59, 3) := by decide +kernel
theorem dX9_fill_73 : decode cX9_fill 73 = .ok (.iaload, 1) := by decide +kernel
theorem dX9_fill_74 : decode cX9_fill 74 = .ok (.tableswitch 69 1 5 #[34, 41, 48, 55, 62], 34) := by decide +kernel
theorem dX9_fill_108 : decode cX9_fill 108 = .ok (.aload_n 0, 1) := by decide +kernel
theorem dX9_fill_109 : decode cX9_fill 109 = .ok (.invokevirtual 63, 3) := by decide +kernel
theorem dX9_fill_112 : decode cX9_fill 112 = .ok (.goto 35, 3) := by decide +kernel
theorem dX9_fill_115 : decode cX9_fill 115 = .ok (.aload_n 0, 1) := by decide +kernel
theorem dX9_fill_116 : decode cX9_fill 116 = .ok (.invokevirtual 66, 3) := by decide +kernel
theorem dX9_fill_119 : decode cX9_fill 119 = .ok (.goto 28, 3) := by decide +kernel
theorem dX9_fill_122 : decode cX9_fill 122 = .ok (.aload_n 0, 1) := by decide +kernel
theorem dX9_fill_123 : decode cX9_fill 123 = .ok (.invokevirtual 69, 3) := by decide +kernel
theorem dX9_fill_126 : decode cX9_fill 126 = .ok (.goto 21, 3) := by decide +kernel
theorem dX9_fill_129 : decode cX9_fill 129 = .ok (.aload_n 0, 1) := by decide +kernel
theorem dX9_fill_130 : decode cX9_fill 130 = .ok (.invokevirtual 72, 3) := by decide +kernel
theorem dX9_fill_133 : decode cX9_fill 133 = .ok (.goto 14, 3) := by decide +kernel
theorem dX9_fill_136 : decode cX9_fill 136 = .ok (.aload_n 0, 1) := by decide +kernel
theorem dX9_fill_137 : decode cX9_fill 137 = .ok (.invokevirtual 75, 3) := by decide +kernel
theorem dX9_fill_140 : decode cX9_fill 140 = .ok (.goto 7, 3) := by decide +kernel
theorem dX9_fill_143 : decode cX9_fill 143 = .ok (.aload_n 0, 1) := by decide +kernel
theorem dX9_fill_144 : decode cX9_fill 144 = .ok (.invokevirtual 78, 3) := by decide +kernel
theorem dX9_fill_147 : decode cX9_fill 147 = .ok (.iinc 4 1, 3) := by decide +kernel
theorem dX9_fill_150 : decode cX9_fill 150 = .ok (.goto (-123), 3) := by decide +kernel
theorem dX9_fill_153 : decode cX9_fill 153 = .ok (.aload_n 0, 1) := by decide +kernel
theorem dX9_fill_154 : decode cX9_fill 154 = .ok (.invokevirtual 81, 3) := by decide +kernel
theorem dX9_fill_157 : decode cX9_fill 157 = .ok (.aload_n 0, 1) := by decide +kernel
theorem dX9_fill_158 : decode cX9_fill 158 = .ok (.getfield 34, 3) := by decide +kernel
theorem dX9_fill_161 : decode cX9_fill 161 = .ok (.ireturn, 1) := by decide +kernel
theorem dX9_noteNames_0 : decode cX9_noteNames 0 = .ok (.iconst 0, 1) := by decide +kernel
theorem dX9_noteNames_1 : decode cX9_noteNames 1 = .ok (.istore_n 1, 1) := by decide +kernel
theorem dX9_noteNames_2 : decode cX9_noteNames 2 = .ok (.iload_n 1, 1) := by decide +kernel
theorem dX9_noteNames_3 : decode cX9_noteNames 3 = .ok (.aload_n 0, 1) := by decide +kernel
theorem dX9_noteNames_4 : decode cX9_noteNames 4 = .ok (.getfield 12, 3) := by decide +kernel
theorem dX9_noteNames_7 : decode cX9_noteNames 7 = .ok (.getfield 37, 3) := by decide +kernel
theorem dX9_noteNames_10 : decode cX9_noteNames 10 = .ok (.if_icmp .ge 45, 3) := by decide +kernel
theorem dX9_noteNames_13 : decode cX9_noteNames 13 = .ok (.aload_n 0, 1) := by decide +kernel
theorem dX9_noteNames_14 : decode cX9_noteNames 14 = .ok (.getfield 34, 3) := by decide +kernel
theorem dX9_noteNames_17 : decode cX9_noteNames 17 = .ok (.ifCond .ge 38, 3) := by decide +kernel
theorem dX9_noteNames_20 : decode cX9_noteNames 20 = .ok (.aload_n 0, 1) := by decide +kernel
theorem dX9_noteNames_21 : decode cX9_noteNames 21 = .ok (.getfield 12, 3) := by decide +kernel
theorem dX9_noteNames_24 : decode cX9_noteNames 24 = .ok (.iload_n 1, 1) := by decide +kernel
theorem dX9_noteNames_25 : decode cX9_noteNames 25 = .ok (.invokevirtual 55, 3) := by decide +kernel
theorem dX9_noteNames_28 : decode cX9_noteNames 28 = .ok (.getstatic 84, 3) := by decide +kernel
theorem dX9_noteNames_31 : decode cX9_noteNames 31 = .ok (.if_acmp .ne 18, 3) := by decide +kernel
theorem dX9_noteNames_34 : decode cX9_noteNames 34 = .ok (.aload_n 0, 1) := by decide +kernel
theorem dX9_noteNames_35 : decode cX9_noteNames 35 = .ok (.getfield 26, 3) := by decide +kernel
theorem dX9_noteNames_38 : decode cX9_noteNames 38 = .ok (.aload_n 0, 1) := by decide +kernel
theorem dX9_noteNames_39 : decode cX9_noteNames 39 = .ok (.getfield 12, 3) := by decide +kernel
theorem dX9_noteNames_42 : decode cX9_noteNames 42 = .ok (.iload_n 1, 1) := by decide +kernel
theorem dX9_noteNames_43 : decode cX9_noteNames 43 = .ok (.invokevirtual 87, 3) := by decide +kernel
theorem dX9_noteNames_46 : decode cX9_noteNames 46 = .ok (.invokevirtual 91, 3) := by decide +kernel
theorem dX9_noteNames_49 : decode cX9_noteNames 49 = .ok (.iinc 1 1, 3) := by decide +kernel
theorem dX9_noteNames_52 : decode cX9_noteNames 52 = .ok (.goto (-50), 3) := by decide +kernel
theorem dX9_noteNames_55 : decode cX9_noteNames 55 = .ok (.return_, 1) := by decide +kernel
theorem dX9_takeCoding_0 : decode cX9_takeCoding 0 = .ok (.aload_n 0, 1) := by decide +kernel
theorem dX9_takeCoding_1 : decode cX9_takeCoding 1 = .ok (.aload_n 0, 1) := by decide +kernel
theorem dX9_takeCoding_2 : decode cX9_takeCoding 2 = .ok (.getfield 26, 3) := by decide +kernel
theorem dX9_takeCoding_5 : decode cX9_takeCoding 5 = .ok (.getfield 97, 3) := by decide +kernel
theorem dX9_takeCoding_8 : decode cX9_takeCoding 8 = .ok (.invokevirtual 101, 3) := by decide +kernel
theorem dX9_takeCoding_11 : decode cX9_takeCoding 11 = .ok (.bipush 12, 2) := by decide +kernel
theorem dX9_takeCoding_13 : decode cX9_takeCoding 13 = .ok (.invokevirtual 106, 3) := by decide +kernel
theorem dX9_takeCoding_16 : decode cX9_takeCoding 16 = .ok (.new 110, 3) := by decide +kernel
theorem dX9_takeCoding_19 : decode cX9_takeCoding 19 = .ok (.dup, 1) := by decide +kernel
theorem dX9_takeCoding_20 : decode cX9_takeCoding 20 = .ok (.aload_n 0, 1) := by decide +kernel
theorem dX9_takeCoding_21 : decode cX9_takeCoding 21 = .ok (.getfield 26, 3) := by decide +kernel
theorem dX9_takeCoding_24 : decode cX9_takeCoding 24 = .ok (.getfield 97, 3) := by decide +kernel
theorem dX9_takeCoding_27 : decode cX9_takeCoding 27 = .ok (.invokevirtual 101, 3) := by decide +kernel
theorem dX9_takeCoding_30 : decode cX9_takeCoding 30 = .ok (.iconst 1, 1) := by decide +kernel
theorem dX9_takeCoding_31 : decode cX9_takeCoding 31 = .ok (.iadd, 1) := by decide +kernel
theorem dX9_takeCoding_32 : decode cX9_takeCoding 32 = .ok (.aload_n 0, 1) := by decide +kernel
theorem dX9_takeCoding_33 : decode cX9_takeCoding 33 = .ok (.invokevirtual 112, 3) := by decide +kernel
theorem dX9_takeCoding_36 : decode cX9_takeCoding 36 = .ok (.aload_n 0, 1) := by decide +kernel
theorem dX9_takeCoding_37 : decode cX9_takeCoding 37 = .ok (.invokevirtual 115, 3) := by decide +kernel
theorem dX9_takeCoding_40 : decode cX9_takeCoding 40 = .ok (.invokespecial 119, 3) := by decide +kernel
theorem dX9_takeCoding_43 : decode cX9_takeCoding 43 = .ok (.astore_n 1, 1) := by decide +kernel
theorem dX9_takeCoding_44 : decode cX9_takeCoding 44 = .ok (.aload_n 0, 1) := by decide +kernel
theorem dX9_takeCoding_45 : decode cX9_takeCoding 45 = .ok (.getstatic 122, 3) := by decide +kernel
theorem dX9_takeCoding_48 : decode cX9_takeCoding 48 = .ok (.invokevirtual 125, 3) := by decide +kernel
theorem dX9_takeCoding_51 : decode cX9_takeCoding 51 = .ok (.aload_n 1, 1) := by decide +kernel
theorem dX9_takeCoding_52 : decode cX9_takeCoding 52 = .ok (.aload_n 0, 1) := by decide +kernel
theorem dX9_takeCoding_53 : decode cX9_takeCoding 53 = .ok (.iconst 1, 1) := by decide +kernel
theorem dX9_takeCoding_54 : decode cX9_takeCoding 54 = .ok (.iconst 4, 1) := by decide +kernel
theorem dX9_takeCoding_55 : decode cX9_takeCoding 55 = .ok (.invokevirtual 129, 3) := by decide +kernel
theorem dX9_takeCoding_58 : decode cX9_takeCoding 58 = .ok (.putfield 133, 3) := by decide +kernel
theorem dX9_takeCoding_61 : decode cX9_takeCoding 61 = .ok (.aload_n 0, 1) := by decide +kernel
theorem dX9_takeCoding_62 : decode cX9_takeCoding 62 = .ok (.getstatic 136, 3) := by decide +kernel
theorem dX9_takeCoding_65 : decode cX9_takeCoding 65 = .ok (.invokevirtual 125, 3) := by decide +kernel
theorem dX9_takeCoding_68 : decode cX9_takeCoding 68 = .ok (.aload_n 0, 1) := by decide +kernel
theorem dX9_takeCoding_69 : decode cX9_takeCoding 69 = .ok (.getstatic 139, 3) := by decide +kernel
theorem dX9_takeCoding_72 : decode cX9_takeCoding 72 = .ok (.invokevirtual 46, 3) := by decide +kernel
theorem dX9_takeCoding_75 : decode cX9_takeCoding 75 = .ok (.ifCond .eq 11, 3) := by decide +kernel
theorem dX9_takeCoding_78 : decode cX9_takeCoding 78 = .ok (.aload_n 0, 1) := by decide +kernel
theorem dX9_takeCoding_79 : decode cX9_takeCoding 79 = .ok (.aload_n 1, 1) := by decide +kernel
theorem dX9_takeCoding_80 : decode cX9_takeCoding 80 = .ok (.invokevirtual 142, 3) := by decide +kernel
theorem dX9_takeCoding_83 : decode cX9_takeCoding 83 = .ok (.goto 8, 3) := by decide +kernel
theorem dX9_takeCoding_86 : decode cX9_takeCoding 86 = .ok (.aload_n 0, 1) := by decide +kernel
theorem dX9_takeCoding_87 : decode cX9_takeCoding 87 = .ok (.aload_n 1, 1) := by decide +kernel
theorem dX9_takeCoding_88 : decode cX9_takeCoding 88 = .ok (.invokevirtual 146, 3) := by decide +kernel
theorem dX9_takeCoding_91 : decode cX9_takeCoding 91 = .ok (.aload_n 0, 1) := by decide +kernel
theorem dX9_takeCoding_92 : decode cX9_takeCoding 92 = .ok (.getfield 26, 3) := by decide +kernel
theorem dX9_takeCoding_95 : decode cX9_takeCoding 95 = .ok (.getfield 97, 3) := by decide +kernel
theorem dX9_takeCoding_98 : decode cX9_takeCoding 98 = .ok (.aload_n 1, 1) := by decide +kernel
theorem dX9_takeCoding_99 : decode cX9_takeCoding 99 = .ok (.invokevirtual 149, 3) := by decide +kernel
theorem dX9_takeCoding_102 : decode cX9_takeCoding 102 = .ok (.pop, 1) := by decide +kernel
theorem dX9_takeCoding_103 : decode cX9_takeCoding 103 = .ok (.return_, 1) := by decide +kernel
theorem dX9_takeForm_0 : decode cX9_takeForm 0 = .ok (.aload_n 0, 1) := by decide +kernel
theorem dX9_takeForm_1 : decode cX9_takeForm 1 = .ok (.getstatic 153, 3) := by decide +kernel
theorem dX9_takeForm_4 : decode cX9_takeForm 4 = .ok (.invokevirtual 46, 3) := by decide +kernel
theorem dX9_takeForm_7 : decode cX9_takeForm 7 = .ok (.ifCond .eq 21, 3) := by decide +kernel
theorem dX9_takeForm_10 : decode cX9_takeForm 10 = .ok (.aload_n 0, 1) := by decide +kernel
theorem dX9_takeForm_11 : decode cX9_takeForm 11 = .ok (.dup, 1) := by decide +kernel
theorem dX9_takeForm_12 : decode cX9_takeForm 12 = .ok (.getfield 30, 3) := by decide +kernel
theorem dX9_takeForm_15 : decode cX9_takeForm 15 = .ok (.iconst 1, 1) := by decide +kernel
theorem dX9_takeForm_16 : decode cX9_takeForm 16 = .ok (.iadd, 1) := by decide +kernel
theorem dX9_takeForm_17 : decode cX9_takeForm 17 = .ok (.putfield 30, 3) := by decide +kernel
theorem dX9_takeForm_20 : decode cX9_takeForm 20 = .ok (.aload_n 1, 1) := by decide +kernel
theorem dX9_takeForm_21 : decode cX9_takeForm 21 = .ok (.iconst 1, 1) := by decide +kernel
theorem dX9_takeForm_22 : decode cX9_takeForm 22 = .ok (.putfield 156, 3) := by decide +kernel
theorem dX9_takeForm_25 : decode cX9_takeForm 25 = .ok (.goto 72, 3) := by decide +kernel
theorem dX9_takeForm_28 : decode cX9_takeForm 28 = .ok (.aload_n 0, 1) := by decide +kernel
theorem dX9_takeForm_29 : decode cX9_takeForm 29 = .ok (.getstatic 160, 3) := by decide +kernel
theorem dX9_takeForm_32 : decode cX9_takeForm 32 = .ok (.invokevirtual 46, 3) := by decide +kernel
theorem dX9_takeForm_35 : decode cX9_takeForm 35 = .ok (.ifCond .eq 62, 3) := by decide +kernel
theorem dX9_takeForm_38 : decode cX9_takeForm 38 = .ok (.aload_n 0, 1) := by decide +kernel
theorem dX9_takeForm_39 : decode cX9_takeForm 39 = .ok (.dup, 1) := by decide +kernel
theorem dX9_takeForm_40 : decode cX9_takeForm 40 = .ok (.getfield 30, 3) := by decide +kernel
theorem dX9_takeForm_43 : decode cX9_takeForm 43 = .ok (.iconst 1, 1) := by decide +kernel
theorem dX9_takeForm_44 : decode cX9_takeForm 44 = .ok (.iadd, 1) := by decide +kernel
theorem dX9_takeForm_45 : decode cX9_takeForm 45 = .ok (.putfield 30, 3) := by decide +kernel
theorem dX9_takeForm_48 : decode cX9_takeForm 48 = .ok (.aload_n 1, 1) := by decide +kernel
theorem dX9_takeForm_49 : decode cX9_takeForm 49 = .ok (.iconst 1, 1) := by decide +kernel
theorem dX9_takeForm_50 : decode cX9_takeForm 50 = .ok (.putfield 163, 3) := by decide +kernel
theorem dX9_takeForm_53 : decode cX9_takeForm 53 = .ok (.aload_n 1, 1) := by decide +kernel
theorem dX9_takeForm_54 : decode cX9_takeForm 54 = .ok (.aload_n 0, 1) := by decide +kernel
theorem dX9_takeForm_55 : decode cX9_takeForm 55 = .ok (.invokevirtual 166, 3) := by decide +kernel
theorem dX9_takeForm_58 : decode cX9_takeForm 58 = .ok (.i2l, 1) := by decide +kernel
theorem dX9_takeForm_59 : decode cX9_takeForm 59 = .ok (.putfield 169, 3) := by decide +kernel
theorem dX9_takeForm_62 : decode cX9_takeForm 62 = .ok (.aload_n 0, 1) := by decide +kernel
theorem dX9_takeForm_63 : decode cX9_takeForm 63 = .ok (.getstatic 173, 3) := by decide +kernel
theorem dX9_takeForm_66 : decode cX9_takeForm 66 = .ok (.invokevirtual 125, 3) := by decide +kernel
theorem dX9_takeForm_69 : decode cX9_takeForm 69 = .ok (.aload_n 1, 1) := by decide +kernel
theorem dX9_takeForm_70 : decode cX9_takeForm 70 = .ok (.aload_n 0, 1) := by decide +kernel
theorem dX9_takeForm_71 : decode cX9_takeForm 71 = .ok (.iconst 1, 1) := by decide +kernel
theorem dX9_takeForm_72 : decode cX9_takeForm 72 = .ok (.ldc 176, 2) := by decide +kernel
theorem dX9_takeForm_74 : decode cX9_takeForm 74 = .ok (.invokevirtual 129, 3) := by decide +kernel
theorem dX9_takeForm_77 : decode cX9_takeForm 77 = .ok (.i2l, 1) := by decide +kernel
theorem dX9_takeForm_78 : decode cX9_takeForm 78 = .ok (.putfield 177, 3) := by decide +kernel
theorem dX9_takeForm_81 : decode cX9_takeForm 81 = .ok (.aload_n 0, 1) := by decide +kernel
theorem dX9_takeForm_82 : decode cX9_takeForm 82 = .ok (.getstatic 180, 3) := by decide +kernel
theorem dX9_takeForm_85 : decode cX9_takeForm 85 = .ok (.invokevirtual 125, 3) := by decide +kernel
theorem dX9_takeForm_88 : decode cX9_takeForm 88 = .ok (.aload_n 1, 1) := by decide +kernel
theorem dX9_takeForm_89 : decode cX9_takeForm 89 = .ok (.aload_n 0, 1) := by decide +kernel
theorem dX9_takeForm_90 : decode cX9_takeForm 90 = .ok (.invokevirtual 166, 3) := by decide +kernel
theorem dX9_takeForm_93 : decode cX9_takeForm 93 = .ok (.i2l, 1) := by decide +kernel
theorem dX9_takeForm_94 : decode cX9_takeForm 94 = .ok (.putfield 183, 3) := by decide +kernel
theorem dX9_takeForm_97 : decode cX9_takeForm 97 = .ok (.aload_n 0, 1) := by decide +kernel
theorem dX9_takeForm_98 : decode cX9_takeForm 98 = .ok (.getstatic 186, 3) := by decide +kernel
theorem dX9_takeForm_101 : decode cX9_takeForm 101 = .ok (.invokevirtual 125, 3) := by decide +kernel
theorem dX9_takeForm_104 : decode cX9_takeForm 104 = .ok (.return_, 1) := by decide +kernel
theorem dX9_takeRows_0 : decode cX9_takeRows 0 = .ok (.aload_n 0, 1) := by decide +kernel
theorem dX9_takeRows_1 : decode cX9_takeRows 1 = .ok (.dup, 1) := by decide +kernel
theorem dX9_takeRows_2 : decode cX9_takeRows 2 = .ok (.getfield 30, 3) := by decide +kernel
theorem dX9_takeRows_5 : decode cX9_takeRows 5 = .ok (.iconst 1, 1) := by decide +kernel
theorem dX9_takeRows_6 : decode cX9_takeRows 6 = .ok (.iadd, 1) := by decide +kernel
theorem dX9_takeRows_7 : decode cX9_takeRows 7 = .ok (.putfield 30, 3) := by decide +kernel
theorem dX9_takeRows_10 : decode cX9_takeRows 10 = .ok (.iconst 0, 1) := by decide +kernel
theorem dX9_takeRows_11 : decode cX9_takeRows 11 = .ok (.istore_n 2, 1) := by decide +kernel
theorem dX9_takeRows_12 : decode cX9_takeRows 12 = .ok (.iload_n 2, 1) := by decide +kernel
theorem dX9_takeRows_13 : decode cX9_takeRows 13 = .ok (.bipush 8, 2) := by decide +kernel
theorem dX9_takeRows_15 : decode cX9_takeRows 15 = .ok (.if_icmp .gt 63, 3) := by decide +kernel
theorem dX9_takeRows_18 : decode cX9_takeRows 18 = .ok (.aload_n 0, 1) := by decide +kernel
theorem dX9_takeRows_19 : decode cX9_takeRows 19 = .ok (.getstatic 189, 3) := by decide +kernel
theorem dX9_takeRows_22 : decode cX9_takeRows 22 = .ok (.invokevirtual 46, 3) := by decide +kernel
theorem dX9_takeRows_25 : decode cX9_takeRows 25 = .ok (.ifCond .eq 53, 3) := by decide +kernel
theorem dX9_takeRows_28 : decode cX9_takeRows 28 = .ok (.iload_n 2, 1) := by decide +kernel
theorem dX9_takeRows_29 : decode cX9_takeRows 29 = .ok (.bipush 8, 2) := by decide +kernel
theorem dX9_takeRows_31 : decode cX9_takeRows 31 = .ok (.if_icmp .ne 7, 3) := by decide +kernel
theorem dX9_takeRows_34 : decode cX9_takeRows 34 = .ok (.aload_n 0, 1) := by decide +kernel
theorem dX9_takeRows_35 : decode cX9_takeRows 35 = .ok (.invokevirtual 78, 3) := by decide +kernel
theorem dX9_takeRows_38 : decode cX9_takeRows 38 = .ok (.new 192, 3) := by decide +kernel
theorem dX9_takeRows_41 : decode cX9_takeRows 41 = .ok (.dup, 1) := by decide +kernel
theorem dX9_takeRows_42 : decode cX9_takeRows 42 = .ok (.invokespecial 194, 3) := by decide +kernel
theorem dX9_takeRows_45 : decode cX9_takeRows 45 = .ok (.astore_n 3, 1) := by decide +kernel
theorem dX9_takeRows_46 : decode cX9_takeRows 46 = .ok (.aload_n 0, 1) := by decide +kernel
theorem dX9_takeRows_47 : decode cX9_takeRows 47 = .ok (.aload_n 3, 1) := by decide +kernel
theorem dX9_takeRows_48 : decode cX9_takeRows 48 = .ok (.invokevirtual 195, 3) := by decide +kernel
theorem dX9_takeRows_51 : decode cX9_takeRows 51 = .ok (.aload_n 0, 1) := by decide +kernel
theorem dX9_takeRows_52 : decode cX9_takeRows 52 = .ok (.aload_n 3, 1) := by decide +kernel
theorem dX9_takeRows_53 : decode cX9_takeRows 53 = .ok (.invokevirtual 199, 3) := by decide +kernel
theorem dX9_takeRows_56 : decode cX9_takeRows 56 = .ok (.aload_n 0, 1) := by decide +kernel
theorem dX9_takeRows_57 : decode cX9_takeRows 57 = .ok (.getstatic 186, 3) := by decide +kernel
theorem dX9_takeRows_60 : decode cX9_takeRows 60 = .ok (.invokevirtual 125, 3) := by decide +kernel
theorem dX9_takeRows_63 : decode cX9_takeRows 63 = .ok (.aload_n 1, 1) := by decide +kernel
theorem dX9_takeRows_64 : decode cX9_takeRows 64 = .ok (.getfield 202, 3) := by decide +kernel
theorem dX9_takeRows_67 : decode cX9_takeRows 67 = .ok (.aload_n 3, 1) := by decide +kernel
theorem dX9_takeRows_68 : decode cX9_takeRows 68 = .ok (.invokevirtual 149, 3) := by decide +kernel
theorem dX9_takeRows_71 : decode cX9_takeRows 71 = .ok (.pop, 1) := by decide +kernel
theorem dX9_takeRows_72 : decode cX9_takeRows 72 = .ok (.iinc 2 1, 3) := by decide +kernel
theorem dX9_takeRows_75 : decode cX9_takeRows 75 = .ok (.goto (-63), 3) := by decide +kernel
theorem dX9_takeRows_78 : decode cX9_takeRows 78 = .ok (.aload_n 0, 1) := by decide +kernel
theorem dX9_takeRows_79 : decode cX9_takeRows 79 = .ok (.getstatic 205, 3) := by decide +kernel
theorem dX9_takeRows_82 : decode cX9_takeRows 82 = .ok (.invokevirtual 125, 3) := by decide +kernel
theorem dX9_takeRows_85 : decode cX9_takeRows 85 = .ok (.return_, 1) := by decide +kernel
theorem dX9_takeLayer_0 : decode cX9_takeLayer 0 = .ok (.aload_n 0, 1) := by decide +kernel
theorem dX9_takeLayer_1 : decode cX9_takeLayer 1 = .ok (.aload_n 0, 1) := by decide +kernel
theorem dX9_takeLayer_2 : decode cX9_takeLayer 2 = .ok (.getfield 26, 3) := by decide +kernel
theorem dX9_takeLayer_5 : decode cX9_takeLayer 5 = .ok (.getfield 208, 3) := by decide +kernel
theorem dX9_takeLayer_8 : decode cX9_takeLayer 8 = .ok (.invokevirtual 101, 3) := by decide +kernel
theorem dX9_takeLayer_11 : decode cX9_takeLayer 11 = .ok (.bipush 6, 2) := by decide +kernel
theorem dX9_takeLayer_13 : decode cX9_takeLayer 13 = .ok (.invokevirtual 106, 3) := by decide +kernel
theorem dX9_takeLayer_16 : decode cX9_takeLayer 16 = .ok (.new 211, 3) := by decide +kernel
theorem dX9_takeLayer_19 : decode cX9_takeLayer 19 = .ok (.dup, 1) := by decide +kernel
theorem dX9_takeLayer_20 : decode cX9_takeLayer 20 = .ok (.aload_n 0, 1) := by decide +kernel
theorem dX9_takeLayer_21 : decode cX9_takeLayer 21 = .ok (.getfield 26, 3) := by decide +kernel
theorem dX9_takeLayer_24 : decode cX9_takeLayer 24 = .ok (.getfield 208, 3) := by decide +kernel
theorem dX9_takeLayer_27 : decode cX9_takeLayer 27 = .ok (.invokevirtual 101, 3) := by decide +kernel
theorem dX9_takeLayer_30 : decode cX9_takeLayer 30 = .ok (.iconst 1, 1) := by decide +kernel
theorem dX9_takeLayer_31 : decode cX9_takeLayer 31 = .ok (.iadd, 1) := by decide +kernel
theorem dX9_takeLayer_32 : decode cX9_takeLayer 32 = .ok (.aload_n 0, 1) := by decide +kernel
theorem dX9_takeLayer_33 : decode cX9_takeLayer 33 = .ok (.invokevirtual 112, 3) := by decide +kernel
theorem dX9_takeLayer_36 : decode cX9_takeLayer 36 = .ok (.aload_n 0, 1) := by decide +kernel
theorem dX9_takeLayer_37 : decode cX9_takeLayer 37 = .ok (.invokevirtual 115, 3) := by decide +kernel
theorem dX9_takeLayer_40 : decode cX9_takeLayer 40 = .ok (.invokespecial 213, 3) := by decide +kernel
theorem dX9_takeLayer_43 : decode cX9_takeLayer 43 = .ok (.astore_n 1, 1) := by decide +kernel
theorem dX9_takeLayer_44 : decode cX9_takeLayer 44 = .ok (.aload_n 0, 1) := by decide +kernel
theorem dX9_takeLayer_45 : decode cX9_takeLayer 45 = .ok (.getstatic 214, 3) := by decide +kernel
theorem dX9_takeLayer_48 : decode cX9_takeLayer 48 = .ok (.invokevirtual 46, 3) := by decide +kernel
theorem dX9_takeLayer_51 : decode cX9_takeLayer 51 = .ok (.ifCond .eq 29, 3) := by decide +kernel
theorem dX9_takeLayer_54 : decode cX9_takeLayer 54 = .ok (.aload_n 0, 1) := by decide +kernel
theorem dX9_takeLayer_55 : decode cX9_takeLayer 55 = .ok (.dup, 1) := by decide +kernel
theorem dX9_takeLayer_56 : decode cX9_takeLayer 56 = .ok (.getfield 30, 3) := by decide +kernel
theorem dX9_takeLayer_59 : decode cX9_takeLayer 59 = .ok (.iconst 1, 1) := by decide +kernel
theorem dX9_takeLayer_60 : decode cX9_takeLayer 60 = .ok (.iadd, 1) := by decide +kernel
theorem dX9_takeLayer_61 : decode cX9_takeLayer 61 = .ok (.putfield 30, 3) := by decide +kernel
theorem dX9_takeLayer_64 : decode cX9_takeLayer 64 = .ok (.aload_n 1, 1) := by decide +kernel
theorem dX9_takeLayer_65 : decode cX9_takeLayer 65 = .ok (.aload_n 0, 1) := by decide +kernel
theorem dX9_takeLayer_66 : decode cX9_takeLayer 66 = .ok (.invokevirtual 112, 3) := by decide +kernel
theorem dX9_takeLayer_69 : decode cX9_takeLayer 69 = .ok (.putfield 217, 3) := by decide +kernel
theorem dX9_takeLayer_72 : decode cX9_takeLayer 72 = .ok (.aload_n 1, 1) := by decide +kernel
theorem dX9_takeLayer_73 : decode cX9_takeLayer 73 = .ok (.aload_n 0, 1) := by decide +kernel
theorem dX9_takeLayer_74 : decode cX9_takeLayer 74 = .ok (.invokevirtual 115, 3) := by decide +kernel
theorem dX9_takeLayer_77 : decode cX9_takeLayer 77 = .ok (.putfield 220, 3) := by decide +kernel
theorem dX9_takeLayer_80 : decode cX9_takeLayer 80 = .ok (.aload_n 0, 1) := by decide +kernel
theorem dX9_takeLayer_81 : decode cX9_takeLayer 81 = .ok (.getfield 26, 3) := by decide +kernel
theorem dX9_takeLayer_84 : decode cX9_takeLayer 84 = .ok (.getfield 208, 3) := by decide +kernel
theorem dX9_takeLayer_87 : decode cX9_takeLayer 87 = .ok (.aload_n 1, 1) := by decide +kernel
theorem dX9_takeLayer_88 : decode cX9_takeLayer 88 = .ok (.invokevirtual 149, 3) := by decide +kernel
theorem dX9_takeLayer_91 : decode cX9_takeLayer 91 = .ok (.pop, 1) := by decide +kernel
theorem dX9_takeLayer_92 : decode cX9_takeLayer 92 = .ok (.aload_n 0, 1) := by decide +kernel
theorem dX9_takeLayer_93 : decode cX9_takeLayer 93 = .ok (.getstatic 139, 3) := by decide +kernel
theorem dX9_takeLayer_96 : decode cX9_takeLayer 96 = .ok (.invokevirtual 125, 3) := by decide +kernel
theorem dX9_takeLayer_99 : decode cX9_takeLayer 99 = .ok (.iconst 0, 1) := by decide +kernel
theorem dX9_takeLayer_100 : decode cX9_takeLayer 100 = .ok (.istore_n 2, 1) := by decide +kernel
theorem dX9_takeLayer_101 : decode cX9_takeLayer 101 = .ok (.iload_n 2, 1) := by decide +kernel
theorem dX9_takeLayer_102 : decode cX9_takeLayer 102 = .ok (.bipush 16, 2) := by decide +kernel
theorem dX9_takeLayer_104 : decode cX9_takeLayer 104 = .ok (.if_icmp .gt 24, 3) := by decide +kernel
theorem dX9_takeLayer_107 : decode cX9_takeLayer 107 = .ok (.aload_n 0, 1) := by decide +kernel
theorem dX9_takeLayer_108 : decode cX9_takeLayer 108 = .ok (.getstatic 223, 3) := by decide +kernel
theorem dX9_takeLayer_111 : decode cX9_takeLayer 111 = .ok (.invokevirtual 46, 3) := by decide +kernel
theorem dX9_takeLayer_114 : decode cX9_takeLayer 114 = .ok (.ifCond .eq 14, 3) := by decide +kernel
theorem dX9_takeLayer_117 : decode cX9_takeLayer 117 = .ok (.aload_n 0, 1) := by decide +kernel
theorem dX9_takeLayer_118 : decode cX9_takeLayer 118 = .ok (.aload_n 1, 1) := by decide +kernel
theorem dX9_takeLayer_119 : decode cX9_takeLayer 119 = .ok (.invokevirtual 226, 3) := by decide +kernel
theorem dX9_takeLayer_122 : decode cX9_takeLayer 122 = .ok (.iinc 2 1, 3) := by decide +kernel
theorem dX9_takeLayer_125 : decode cX9_takeLayer 125 = .ok (.goto (-24), 3) := by decide +kernel
theorem dX9_takeLayer_128 : decode cX9_takeLayer 128 = .ok (.aload_n 0, 1) := by decide +kernel
theorem dX9_takeLayer_129 : decode cX9_takeLayer 129 = .ok (.getstatic 205, 3) := by decide +kernel
theorem dX9_takeLayer_132 : decode cX9_takeLayer 132 = .ok (.invokevirtual 125, 3) := by decide +kernel
theorem dX9_takeLayer_135 : decode cX9_takeLayer 135 = .ok (.return_, 1) := by decide +kernel
theorem dX9_takeService_0 : decode cX9_takeService 0 = .ok (.aload_n 0, 1) := by decide +kernel
theorem dX9_takeService_1 : decode cX9_takeService 1 = .ok (.aload_n 0, 1) := by decide +kernel
theorem dX9_takeService_2 : decode cX9_takeService 2 = .ok (.getfield 26, 3) := by decide +kernel
theorem dX9_takeService_5 : decode cX9_takeService 5 = .ok (.getfield 230, 3) := by decide +kernel
theorem dX9_takeService_8 : decode cX9_takeService 8 = .ok (.invokevirtual 101, 3) := by decide +kernel
theorem dX9_takeService_11 : decode cX9_takeService 11 = .ok (.bipush 16, 2) := by decide +kernel
theorem dX9_takeService_13 : decode cX9_takeService 13 = .ok (.invokevirtual 106, 3) := by decide +kernel
theorem dX9_takeService_16 : decode cX9_takeService 16 = .ok (.new 233, 3) := by decide +kernel
theorem dX9_takeService_19 : decode cX9_takeService 19 = .ok (.dup, 1) := by decide +kernel
theorem dX9_takeService_20 : decode cX9_takeService 20 = .ok (.aload_n 0, 1) := by decide +kernel
theorem dX9_takeService_21 : decode cX9_takeService 21 = .ok (.getfield 26, 3) := by decide +kernel
theorem dX9_takeService_24 : decode cX9_takeService 24 = .ok (.getfield 230, 3) := by decide +kernel
theorem dX9_takeService_27 : decode cX9_takeService 27 = .ok (.invokevirtual 101, 3) := by decide +kernel
theorem dX9_takeService_30 : decode cX9_takeService 30 = .ok (.iconst 1, 1) := by decide +kernel
theorem dX9_takeService_31 : decode cX9_takeService 31 = .ok (.iadd, 1) := by decide +kernel
theorem dX9_takeService_32 : decode cX9_takeService 32 = .ok (.aload_n 1, 1) := by decide +kernel
theorem dX9_takeService_33 : decode cX9_takeService 33 = .ok (.aload_n 0, 1) := by decide +kernel
theorem dX9_takeService_34 : decode cX9_takeService 34 = .ok (.invokevirtual 112, 3) := by decide +kernel
theorem dX9_takeService_37 : decode cX9_takeService 37 = .ok (.aload_n 0, 1) := by decide +kernel
theorem dX9_takeService_38 : decode cX9_takeService 38 = .ok (.invokevirtual 115, 3) := by decide +kernel
theorem dX9_takeService_41 : decode cX9_takeService 41 = .ok (.invokespecial 235, 3) := by decide +kernel
theorem dX9_takeService_44 : decode cX9_takeService 44 = .ok (.astore_n 2, 1) := by decide +kernel
theorem dX9_takeService_45 : decode cX9_takeService 45 = .ok (.aload_n 0, 1) := by decide +kernel
theorem dX9_takeService_46 : decode cX9_takeService 46 = .ok (.getstatic 122, 3) := by decide +kernel
theorem dX9_takeService_49 : decode cX9_takeService 49 = .ok (.invokevirtual 125, 3) := by decide +kernel
theorem dX9_takeService_52 : decode cX9_takeService 52 = .ok (.aload_n 2, 1) := by decide +kernel
theorem dX9_takeService_53 : decode cX9_takeService 53 = .ok (.aload_n 0, 1) := by decide +kernel
theorem dX9_takeService_54 : decode cX9_takeService 54 = .ok (.iconst 0, 1) := by decide +kernel
theorem dX9_takeService_55 : decode cX9_takeService 55 = .ok (.sipush 191, 3) := by decide +kernel
theorem dX9_takeService_58 : decode cX9_takeService 58 = .ok (.invokevirtual 129, 3) := by decide +kernel
theorem dX9_takeService_61 : decode cX9_takeService 61 = .ok (.putfield 238, 3) := by decide +kernel
theorem dX9_takeService_64 : decode cX9_takeService 64 = .ok (.aload_n 0, 1) := by decide +kernel
theorem dX9_takeService_65 : decode cX9_takeService 65 = .ok (.getstatic 139, 3) := by decide +kernel
theorem dX9_takeService_68 : decode cX9_takeService 68 = .ok (.invokevirtual 125, 3) := by decide +kernel
theorem dX9_takeService_71 : decode cX9_takeService 71 = .ok (.iconst 0, 1) := by decide +kernel
theorem dX9_takeService_72 : decode cX9_takeService 72 = .ok (.istore_n 3, 1) := by decide +kernel
theorem dX9_takeService_73 : decode cX9_takeService 73 = .ok (.iload_n 3, 1) := by decide +kernel
theorem dX9_takeService_74 : decode cX9_takeService 74 = .ok (.bipush 8, 2) := by decide +kernel
theorem dX9_takeService_76 : decode cX9_takeService 76 = .ok (.if_icmp .gt 24, 3) := by decide +kernel
theorem dX9_takeService_79 : decode cX9_takeService 79 = .ok (.aload_n 0, 1) := by decide +kernel
theorem dX9_takeService_80 : decode cX9_takeService 80 = .ok (.getstatic 241, 3) := by decide +kernel
theorem dX9_takeService_83 : decode cX9_takeService 83 = .ok (.invokevirtual 46, 3) := by decide +kernel
theorem dX9_takeService_86 : decode cX9_takeService 86 = .ok (.ifCond .eq 14, 3) := by decide +kernel
theorem dX9_takeService_89 : decode cX9_takeService 89 = .ok (.aload_n 0, 1) := by decide +kernel
theorem dX9_takeService_90 : decode cX9_takeService 90 = .ok (.aload_n 2, 1) := by decide +kernel
theorem dX9_takeService_91 : decode cX9_takeService 91 = .ok (.invokevirtual 244, 3) := by decide +kernel
theorem dX9_takeService_94 : decode cX9_takeService 94 = .ok (.iinc 3 1, 3) := by decide +kernel
theorem dX9_takeService_97 : decode cX9_takeService 97 = .ok (.goto (-24), 3) := by decide +kernel
theorem dX9_takeService_100 : decode cX9_takeService 100 = .ok (.aload_n 0, 1) := by decide +kernel
theorem dX9_takeService_101 : decode cX9_takeService 101 = .ok (.getstatic 205, 3) := by decide +kernel
theorem dX9_takeService_104 : decode cX9_takeService 104 = .ok (.invokevirtual 125, 3) := by decide +kernel
theorem dX9_takeService_107 : decode cX9_takeService 107 = .ok (.aload_n 0, 1) := by decide +kernel
theorem dX9_takeService_108 : decode cX9_takeService 108 = .ok (.getfield 26, 3) := by decide +kernel
theorem dX9_takeService_111 : decode cX9_takeService 111 = .ok (.getfield 230, 3) := by decide +kernel
theorem dX9_takeService_114 : decode cX9_takeService 114 = .ok (.aload_n 2, 1) := by decide +kernel
theorem dX9_takeService_115 : decode cX9_takeService 115 = .ok (.invokevirtual 149, 3) := by decide +kernel
theorem dX9_takeService_118 : decode cX9_takeService 118 = .ok (.pop, 1) := by decide +kernel
theorem dX9_takeService_119 : decode cX9_takeService 119 = .ok (.return_, 1) := by decide +kernel
theorem dX9_takeParameter_0 : decode cX9_takeParameter 0 = .ok (.aload_n 0, 1) := by decide +kernel
theorem dX9_takeParameter_1 : decode cX9_takeParameter 1 = .ok (.aload_n 1, 1) := by decide +kernel
theorem dX9_takeParameter_2 : decode cX9_takeParameter 2 = .ok (.getfield 248, 3) := by decide +kernel
theorem dX9_takeParameter_5 : decode cX9_takeParameter 5 = .ok (.invokevirtual 101, 3) := by decide +kernel
theorem dX9_takeParameter_8 : decode cX9_takeParameter 8 = .ok (.bipush 8, 2) := by decide +kernel
theorem dX9_takeParameter_10 : decode cX9_takeParameter 10 = .ok (.invokevirtual 106, 3) := by decide +kernel
theorem dX9_takeParameter_13 : decode cX9_takeParameter 13 = .ok (.new 251, 3) := by decide +kernel
theorem dX9_takeParameter_16 : decode cX9_takeParameter 16 = .ok (.dup, 1) := by decide +kernel
theorem dX9_takeParameter_17 : decode cX9_takeParameter 17 = .ok (.aload_n 1, 1) := by decide +kernel
theorem dX9_takeParameter_18 : decode cX9_takeParameter 18 = .ok (.getfield 248, 3) := by decide +kernel
theorem dX9_takeParameter_21 : decode cX9_takeParameter 21 = .ok (.invokevirtual 101, 3) := by decide +kernel
theorem dX9_takeParameter_24 : decode cX9_takeParameter 24 = .ok (.iconst 1, 1) := by decide +kernel
theorem dX9_takeParameter_25 : decode cX9_takeParameter 25 = .ok (.iadd, 1) := by decide +kernel
theorem dX9_takeParameter_26 : decode cX9_takeParameter 26 = .ok (.aload_n 0, 1) := by decide +kernel
theorem dX9_takeParameter_27 : decode cX9_takeParameter 27 = .ok (.invokevirtual 112, 3) := by decide +kernel
theorem dX9_takeParameter_30 : decode cX9_takeParameter 30 = .ok (.aload_n 0, 1) := by decide +kernel
theorem dX9_takeParameter_31 : decode cX9_takeParameter 31 = .ok (.invokevirtual 115, 3) := by decide +kernel
theorem dX9_takeParameter_34 : decode cX9_takeParameter 34 = .ok (.invokespecial 253, 3) := by decide +kernel
theorem dX9_takeParameter_37 : decode cX9_takeParameter 37 = .ok (.astore_n 2, 1) := by decide +kernel
theorem dX9_takeParameter_38 : decode cX9_takeParameter 38 = .ok (.aload_n 0, 1) := by decide +kernel
theorem dX9_takeParameter_39 : decode cX9_takeParameter 39 = .ok (.getstatic 254, 3) := by decide +kernel
theorem dX9_takeParameter_42 : decode cX9_takeParameter 42 = .ok (.invokevirtual 125, 3) := by decide +kernel
theorem dX9_takeParameter_45 : decode cX9_takeParameter 45 = .ok (.aload_n 2, 1) := by decide +kernel
theorem dX9_takeParameter_46 : decode cX9_takeParameter 46 = .ok (.aload_n 0, 1) := by decide +kernel
theorem dX9_takeParameter_47 : decode cX9_takeParameter 47 = .ok (.invokevirtual 112, 3) := by decide +kernel
theorem dX9_takeParameter_50 : decode cX9_takeParameter 50 = .ok (.putfield 257, 3) := by decide +kernel
theorem dX9_takeParameter_53 : decode cX9_takeParameter 53 = .ok (.aload_n 2, 1) := by decide +kernel
theorem dX9_takeParameter_54 : decode cX9_takeParameter 54 = .ok (.aload_n 0, 1) := by decide +kernel
theorem dX9_takeParameter_55 : decode cX9_takeParameter 55 = .ok (.invokevirtual 115, 3) := by decide +kernel
theorem dX9_takeParameter_58 : decode cX9_takeParameter 58 = .ok (.putfield 260, 3) := by decide +kernel
theorem dX9_takeParameter_61 : decode cX9_takeParameter 61 = .ok (.aload_n 0, 1) := by decide +kernel
theorem dX9_takeParameter_62 : decode cX9_takeParameter 62 = .ok (.getstatic 263, 3) := by decide +kernel
theorem dX9_takeParameter_65 : decode cX9_takeParameter 65 = .ok (.invokevirtual 46, 3) := by decide +kernel
theorem dX9_takeParameter_68 : decode cX9_takeParameter 68 = .ok (.ifCond .eq 11, 3) := by decide +kernel
theorem dX9_takeParameter_71 : decode cX9_takeParameter 71 = .ok (.aload_n 2, 1) := by decide +kernel
theorem dX9_takeParameter_72 : decode cX9_takeParameter 72 = .ok (.iconst 1, 1) := by decide +kernel
theorem dX9_takeParameter_73 : decode cX9_takeParameter 73 = .ok (.putfield 266, 3) := by decide +kernel
theorem dX9_takeParameter_76 : decode cX9_takeParameter 76 = .ok (.goto 18, 3) := by decide +kernel
theorem dX9_takeParameter_79 : decode cX9_takeParameter 79 = .ok (.aload_n 0, 1) := by decide +kernel
theorem dX9_takeParameter_80 : decode cX9_takeParameter 80 = .ok (.getstatic 268, 3) := by decide +kernel
theorem dX9_takeParameter_83 : decode cX9_takeParameter 83 = .ok (.invokevirtual 46, 3) := by decide +kernel
theorem dX9_takeParameter_86 : decode cX9_takeParameter 86 = .ok (.ifCond .eq 8, 3) := by decide +kernel
theorem dX9_takeParameter_89 : decode cX9_takeParameter 89 = .ok (.aload_n 2, 1) := by decide +kernel
theorem dX9_takeParameter_90 : decode cX9_takeParameter 90 = .ok (.iconst 2, 1) := by decide +kernel
theorem dX9_takeParameter_91 : decode cX9_takeParameter 91 = .ok (.putfield 266, 3) := by decide +kernel
theorem dX9_takeParameter_94 : decode cX9_takeParameter 94 = .ok (.aload_n 2, 1) := by decide +kernel
theorem dX9_takeParameter_95 : decode cX9_takeParameter 95 = .ok (.getfield 266, 3) := by decide +kernel
theorem dX9_takeParameter_98 : decode cX9_takeParameter 98 = .ok (.ifCond .eq 29, 3) := by decide +kernel
theorem dX9_takeParameter_101 : decode cX9_takeParameter 101 = .ok (.aload_n 0, 1) := by decide +kernel
theorem dX9_takeParameter_102 : decode cX9_takeParameter 102 = .ok (.dup, 1) := by decide +kernel
theorem dX9_takeParameter_103 : decode cX9_takeParameter 103 = .ok (.getfield 30, 3) := by decide +kernel
theorem dX9_takeParameter_106 : decode cX9_takeParameter 106 = .ok (.iconst 1, 1) := by decide +kernel
theorem dX9_takeParameter_107 : decode cX9_takeParameter 107 = .ok (.iadd, 1) := by decide +kernel
theorem dX9_takeParameter_108 : decode cX9_takeParameter 108 = .ok (.putfield 30, 3) := by decide +kernel
theorem dX9_takeParameter_111 : decode cX9_takeParameter 111 = .ok (.aload_n 2, 1) := by decide +kernel
theorem dX9_takeParameter_112 : decode cX9_takeParameter 112 = .ok (.aload_n 0, 1) := by decide +kernel
theorem dX9_takeParameter_113 : decode cX9_takeParameter 113 = .ok (.invokevirtual 112, 3) := by decide +kernel
theorem dX9_takeParameter_116 : decode cX9_takeParameter 116 = .ok (.putfield 271, 3) := by decide +kernel
theorem dX9_takeParameter_119 : decode cX9_takeParameter 119 = .ok (.aload_n 2, 1) := by decide +kernel
theorem dX9_takeParameter_120 : decode cX9_takeParameter 120 = .ok (.aload_n 0, 1) := by decide +kernel
theorem dX9_takeParameter_121 : decode cX9_takeParameter 121 = .ok (.invokevirtual 115, 3) := by decide +kernel
theorem dX9_takeParameter_124 : decode cX9_takeParameter 124 = .ok (.putfield 274, 3) := by decide +kernel
theorem dX9_takeParameter_127 : decode cX9_takeParameter 127 = .ok (.aload_n 2, 1) := by decide +kernel
theorem dX9_takeParameter_128 : decode cX9_takeParameter 128 = .ok (.getfield 266, 3) := by decide +kernel
theorem dX9_takeParameter_131 : decode cX9_takeParameter 131 = .ok (.iconst 1, 1) := by decide +kernel
theorem dX9_takeParameter_132 : decode cX9_takeParameter 132 = .ok (.if_icmp .ne 21, 3) := by decide +kernel
theorem dX9_takeParameter_135 : decode cX9_takeParameter 135 = .ok (.aload_n 0, 1) := by decide +kernel
theorem dX9_takeParameter_136 : decode cX9_takeParameter 136 = .ok (.getstatic 122, 3) := by decide +kernel
theorem dX9_takeParameter_139 : decode cX9_takeParameter 139 = .ok (.invokevirtual 125, 3) := by decide +kernel
theorem dX9_takeParameter_142 : decode cX9_takeParameter 142 = .ok (.aload_n 2, 1) := by decide +kernel
theorem dX9_takeParameter_143 : decode cX9_takeParameter 143 = .ok (.aload_n 0, 1) := by decide +kernel
theorem dX9_takeParameter_144 : decode cX9_takeParameter 144 = .ok (.iconst 0, 1) := by decide +kernel
theorem dX9_takeParameter_145 : decode cX9_takeParameter 145 = .ok (.ldc 176, 2) := by decide +kernel
theorem dX9_takeParameter_147 : decode cX9_takeParameter 147 = .ok (.invokevirtual 129, 3) := by decide +kernel
theorem dX9_takeParameter_150 : decode cX9_takeParameter 150 = .ok (.putfield 277, 3) := by decide +kernel
theorem dX9_takeParameter_153 : decode cX9_takeParameter 153 = .ok (.aload_n 0, 1) := by decide +kernel
theorem dX9_takeParameter_154 : decode cX9_takeParameter 154 = .ok (.getstatic 186, 3) := by decide +kernel
theorem dX9_takeParameter_157 : decode cX9_takeParameter 157 = .ok (.invokevirtual 125, 3) := by decide +kernel
theorem dX9_takeParameter_160 : decode cX9_takeParameter 160 = .ok (.aload_n 1, 1) := by decide +kernel
theorem dX9_takeParameter_161 : decode cX9_takeParameter 161 = .ok (.getfield 248, 3) := by decide +kernel
theorem dX9_takeParameter_164 : decode cX9_takeParameter 164 = .ok (.aload_n 2, 1) := by decide +kernel
theorem dX9_takeParameter_165 : decode cX9_takeParameter 165 = .ok (.invokevirtual 149, 3) := by decide +kernel
theorem dX9_takeParameter_168 : decode cX9_takeParameter 168 = .ok (.pop, 1) := by decide +kernel
theorem dX9_takeParameter_169 : decode cX9_takeParameter 169 = .ok (.return_, 1) := by decide +kernel
theorem dX9_takeCode_0 : decode cX9_takeCode 0 = .ok (.aload_n 0, 1) := by decide +kernel
theorem dX9_takeCode_1 : decode cX9_takeCode 1 = .ok (.aload_n 0, 1) := by decide +kernel
theorem dX9_takeCode_2 : decode cX9_takeCode 2 = .ok (.getfield 26, 3) := by decide +kernel
theorem dX9_takeCode_5 : decode cX9_takeCode 5 = .ok (.getfield 278, 3) := by decide +kernel
theorem dX9_takeCode_8 : decode cX9_takeCode 8 = .ok (.invokevirtual 101, 3) := by decide +kernel
theorem dX9_takeCode_11 : decode cX9_takeCode 11 = .ok (.bipush 12, 2) := by decide +kernel
theorem dX9_takeCode_13 : decode cX9_takeCode 13 = .ok (.invokevirtual 106, 3) := by decide +kernel
theorem dX9_takeCode_16 : decode cX9_takeCode 16 = .ok (.new 192, 3) := by decide +kernel
theorem dX9_takeCode_19 : decode cX9_takeCode 19 = .ok (.dup, 1) := by decide +kernel
theorem dX9_takeCode_20 : decode cX9_takeCode 20 = .ok (.invokespecial 194, 3) := by decide +kernel
theorem dX9_takeCode_23 : decode cX9_takeCode 23 = .ok (.astore_n 1, 1) := by decide +kernel
theorem dX9_takeCode_24 : decode cX9_takeCode 24 = .ok (.aload_n 0, 1) := by decide +kernel
theorem dX9_takeCode_25 : decode cX9_takeCode 25 = .ok (.aload_n 1, 1) := by decide +kernel
theorem dX9_takeCode_26 : decode cX9_takeCode 26 = .ok (.invokevirtual 195, 3) := by decide +kernel
theorem dX9_takeCode_29 : decode cX9_takeCode 29 = .ok (.aload_n 0, 1) := by decide +kernel
theorem dX9_takeCode_30 : decode cX9_takeCode 30 = .ok (.getstatic 122, 3) := by decide +kernel
theorem dX9_takeCode_33 : decode cX9_takeCode 33 = .ok (.invokevirtual 125, 3) := by decide +kernel
theorem dX9_takeCode_36 : decode cX9_takeCode 36 = .ok (.aload_n 0, 1) := by decide +kernel
theorem dX9_takeCode_37 : decode cX9_takeCode 37 = .ok (.aload_n 1, 1) := by decide +kernel
theorem dX9_takeCode_38 : decode cX9_takeCode 38 = .ok (.invokevirtual 199, 3) := by decide +kernel
theorem dX9_takeCode_41 : decode cX9_takeCode 41 = .ok (.aload_n 0, 1) := by decide +kernel
theorem dX9_takeCode_42 : decode cX9_takeCode 42 = .ok (.getstatic 186, 3) := by decide +kernel
theorem dX9_takeCode_45 : decode cX9_takeCode 45 = .ok (.invokevirtual 125, 3) := by decide +kernel
theorem dX9_takeCode_48 : decode cX9_takeCode 48 = .ok (.aload_n 0, 1) := by decide +kernel
theorem dX9_takeCode_49 : decode cX9_takeCode 49 = .ok (.getfield 26, 3) := by decide +kernel
theorem dX9_takeCode_52 : decode cX9_takeCode 52 = .ok (.getfield 278, 3) := by decide +kernel
theorem dX9_takeCode_55 : decode cX9_takeCode 55 = .ok (.aload_n 1, 1) := by decide +kernel
theorem dX9_takeCode_56 : decode cX9_takeCode 56 = .ok (.invokevirtual 149, 3) := by decide +kernel
theorem dX9_takeCode_59 : decode cX9_takeCode 59 = .ok (.pop, 1) := by decide +kernel
theorem dX9_takeCode_60 : decode cX9_takeCode 60 = .ok (.return_, 1) := by decide +kernel
theorem dX9_takeVariant_0 : decode cX9_takeVariant 0 = .ok (.aload_n 0, 1) := by decide +kernel
theorem dX9_takeVariant_1 : decode cX9_takeVariant 1 = .ok (.aload_n 0, 1) := by decide +kernel
theorem dX9_takeVariant_2 : decode cX9_takeVariant 2 = .ok (.getfield 26, 3) := by decide +kernel
theorem dX9_takeVariant_5 : decode cX9_takeVariant 5 = .ok (.getfield 281, 3) := by decide +kernel
theorem dX9_takeVariant_8 : decode cX9_takeVariant 8 = .ok (.invokevirtual 101, 3) := by decide +kernel
theorem dX9_takeVariant_11 : decode cX9_takeVariant 11 = .ok (.bipush 6, 2) := by decide +kernel
theorem dX9_takeVariant_13 : decode cX9_takeVariant 13 = .ok (.invokevirtual 106, 3) := by decide +kernel
theorem dX9_takeVariant_16 : decode cX9_takeVariant 16 = .ok (.new 192, 3) := by decide +kernel
theorem dX9_takeVariant_19 : decode cX9_takeVariant 19 = .ok (.dup, 1) := by decide +kernel
theorem dX9_takeVariant_20 : decode cX9_takeVariant 20 = .ok (.invokespecial 194, 3) := by decide +kernel
theorem dX9_takeVariant_23 : decode cX9_takeVariant 23 = .ok (.astore_n 1, 1) := by decide +kernel
theorem dX9_takeVariant_24 : decode cX9_takeVariant 24 = .ok (.aload_n 0, 1) := by decide +kernel
theorem dX9_takeVariant_25 : decode cX9_takeVariant 25 = .ok (.aload_n 1, 1) := by decide +kernel
theorem dX9_takeVariant_26 : decode cX9_takeVariant 26 = .ok (.invokevirtual 199, 3) := by decide +kernel
theorem dX9_takeVariant_29 : decode cX9_takeVariant 29 = .ok (.aload_n 0, 1) := by decide +kernel
theorem dX9_takeVariant_30 : decode cX9_takeVariant 30 = .ok (.getstatic 122, 3) := by decide +kernel
theorem dX9_takeVariant_33 : decode cX9_takeVariant 33 = .ok (.invokevirtual 125, 3) := by decide +kernel
theorem dX9_takeVariant_36 : decode cX9_takeVariant 36 = .ok (.aload_n 0, 1) := by decide +kernel
theorem dX9_takeVariant_37 : decode cX9_takeVariant 37 = .ok (.aload_n 1, 1) := by decide +kernel
theorem dX9_takeVariant_38 : decode cX9_takeVariant 38 = .ok (.invokevirtual 195, 3) := by decide +kernel
theorem dX9_takeVariant_41 : decode cX9_takeVariant 41 = .ok (.aload_n 0, 1) := by decide +kernel
theorem dX9_takeVariant_42 : decode cX9_takeVariant 42 = .ok (.getstatic 186, 3) := by decide +kernel
theorem dX9_takeVariant_45 : decode cX9_takeVariant 45 = .ok (.invokevirtual 125, 3) := by decide +kernel
theorem dX9_takeVariant_48 : decode cX9_takeVariant 48 = .ok (.aload_n 0, 1) := by decide +kernel
theorem dX9_takeVariant_49 : decode cX9_takeVariant 49 = .ok (.getfield 26, 3) := by decide +kernel
theorem dX9_takeVariant_52 : decode cX9_takeVariant 52 = .ok (.getfield 281, 3) := by decide +kernel
theorem dX9_takeVariant_55 : decode cX9_takeVariant 55 = .ok (.aload_n 1, 1) := by decide +kernel
theorem dX9_takeVariant_56 : decode cX9_takeVariant 56 = .ok (.invokevirtual 149, 3) := by decide +kernel
theorem dX9_takeVariant_59 : decode cX9_takeVariant 59 = .ok (.pop, 1) := by decide +kernel
theorem dX9_takeVariant_60 : decode cX9_takeVariant 60 = .ok (.return_, 1) := by decide +kernel
theorem dX9_takeJob_0 : decode cX9_takeJob 0 = .ok (.aload_n 0, 1) := by decide +kernel
theorem dX9_takeJob_1 : decode cX9_takeJob 1 = .ok (.aload_n 0, 1) := by decide +kernel
theorem dX9_takeJob_2 : decode cX9_takeJob 2 = .ok (.getfield 26, 3) := by decide +kernel
theorem dX9_takeJob_5 : decode cX9_takeJob 5 = .ok (.getfield 284, 3) := by decide +kernel
theorem dX9_takeJob_8 : decode cX9_takeJob 8 = .ok (.invokevirtual 101, 3) := by decide +kernel
theorem dX9_takeJob_11 : decode cX9_takeJob 11 = .ok (.iconst 4, 1) := by decide +kernel
theorem dX9_takeJob_12 : decode cX9_takeJob 12 = .ok (.invokevirtual 106, 3) := by decide +kernel
theorem dX9_takeJob_15 : decode cX9_takeJob 15 = .ok (.new 287, 3) := by decide +kernel
theorem dX9_takeJob_18 : decode cX9_takeJob 18 = .ok (.dup, 1) := by decide +kernel
theorem dX9_takeJob_19 : decode cX9_takeJob 19 = .ok (.aload_n 0, 1) := by decide +kernel
theorem dX9_takeJob_20 : decode cX9_takeJob 20 = .ok (.invokevirtual 112, 3) := by decide +kernel
theorem dX9_takeJob_23 : decode cX9_takeJob 23 = .ok (.aload_n 0, 1) := by decide +kernel
theorem dX9_takeJob_24 : decode cX9_takeJob 24 = .ok (.invokevirtual 115, 3) := by decide +kernel
theorem dX9_takeJob_27 : decode cX9_takeJob 27 = .ok (.invokespecial 289, 3) := by decide +kernel
theorem dX9_takeJob_30 : decode cX9_takeJob 30 = .ok (.astore_n 1, 1) := by decide +kernel
theorem dX9_takeJob_31 : decode cX9_takeJob 31 = .ok (.aload_n 0, 1) := by decide +kernel
theorem dX9_takeJob_32 : decode cX9_takeJob 32 = .ok (.getstatic 139, 3) := by decide +kernel
theorem dX9_takeJob_35 : decode cX9_takeJob 35 = .ok (.invokevirtual 125, 3) := by decide +kernel
theorem dX9_takeJob_38 : decode cX9_takeJob 38 = .ok (.iconst 0, 1) := by decide +kernel
theorem dX9_takeJob_39 : decode cX9_takeJob 39 = .ok (.istore_n 2, 1) := by decide +kernel
theorem dX9_takeJob_40 : decode cX9_takeJob 40 = .ok (.iconst 0, 1) := by decide +kernel
theorem dX9_takeJob_41 : decode cX9_takeJob 41 = .ok (.istore_n 3, 1) := by decide +kernel
theorem dX9_takeJob_42 : decode cX9_takeJob 42 = .ok (.iconst 0, 1) := by decide +kernel
theorem dX9_takeJob_43 : decode cX9_takeJob 43 = .ok (.istore 4, 2) := by decide +kernel
theorem dX9_takeJob_45 : decode cX9_takeJob 45 = .ok (.iload 4, 2) := by decide +kernel
theorem dX9_takeJob_47 : decode cX9_takeJob 47 = .ok (.bipush 80, 2) := by decide +kernel
theorem dX9_takeJob_49 : decode cX9_takeJob 49 = .ok (.if_icmp .gt 70, 3) := by decide +kernel
theorem dX9_takeJob_52 : decode cX9_takeJob 52 = .ok (.iload_n 3, 1) := by decide +kernel
theorem dX9_takeJob_53 : decode cX9_takeJob 53 = .ok (.ifCond .le 25, 3) := by decide +kernel
theorem dX9_takeJob_56 : decode cX9_takeJob 56 = .ok (.aload_n 0, 1) := by decide +kernel
theorem dX9_takeJob_57 : decode cX9_takeJob 57 = .ok (.getstatic 205, 3) := by decide +kernel
theorem dX9_takeJob_60 : decode cX9_takeJob 60 = .ok (.invokevirtual 46, 3) := by decide +kernel
theorem dX9_takeJob_63 : decode cX9_takeJob 63 = .ok (.ifCond .eq 15, 3) := by decide +kernel
theorem dX9_takeJob_66 : decode cX9_takeJob 66 = .ok (.iinc 3 (-1), 3) := by decide +kernel
theorem dX9_takeJob_69 : decode cX9_takeJob 69 = .ok (.aload_n 0, 1) := by decide +kernel
theorem dX9_takeJob_70 : decode cX9_takeJob 70 = .ok (.aload_n 1, 1) := by decide +kernel
theorem dX9_takeJob_71 : decode cX9_takeJob 71 = .ok (.iload_n 3, 1) := by decide +kernel
theorem dX9_takeJob_72 : decode cX9_takeJob 72 = .ok (.invokevirtual 292, 3) := by decide +kernel
theorem dX9_takeJob_75 : decode cX9_takeJob 75 = .ok (.goto 38, 3) := by decide +kernel
theorem dX9_takeJob_78 : decode cX9_takeJob 78 = .ok (.aload_n 0, 1) := by decide +kernel
theorem dX9_takeJob_79 : decode cX9_takeJob 79 = .ok (.getfield 12, 3) := by decide +kernel
theorem dX9_takeJob_82 : decode cX9_takeJob 82 = .ok (.aload_n 0, 1) := by decide +kernel
theorem dX9_takeJob_83 : decode cX9_takeJob 83 = .ok (.getfield 30, 3) := by decide +kernel
theorem dX9_takeJob_86 : decode cX9_takeJob 86 = .ok (.invokevirtual 55, 3) := by decide +kernel
theorem dX9_takeJob_89 : decode cX9_takeJob 89 = .ok (.invokevirtual 296, 3) := by decide +kernel
theorem dX9_takeJob_92 : decode cX9_takeJob 92 = .ok (.ifCond .eq 27, 3) := by decide +kernel
theorem dX9_takeJob_95 : decode cX9_takeJob 95 = .ok (.aload_n 0, 1) := by decide +kernel
theorem dX9_takeJob_96 : decode cX9_takeJob 96 = .ok (.getfield 34, 3) := by decide +kernel
theorem dX9_takeJob_99 : decode cX9_takeJob 99 = .ok (.ifCond .ge 20, 3) := by decide +kernel
theorem dX9_takeJob_102 : decode cX9_takeJob 102 = .ok (.aload_n 0, 1) := by decide +kernel
theorem dX9_takeJob_103 : decode cX9_takeJob 103 = .ok (.aload_n 1, 1) := by decide +kernel
theorem dX9_takeJob_104 : decode cX9_takeJob 104 = .ok (.iload_n 2, 1) := by decide +kernel
theorem dX9_takeJob_105 : decode cX9_takeJob 105 = .ok (.iload_n 3, 1) := by decide +kernel
theorem dX9_takeJob_106 : decode cX9_takeJob 106 = .ok (.invokevirtual 300, 3) := by decide +kernel
theorem dX9_takeJob_109 : decode cX9_takeJob 109 = .ok (.istore_n 3, 1) := by decide +kernel
theorem dX9_takeJob_110 : decode cX9_takeJob 110 = .ok (.iinc 2 1, 3) := by decide +kernel
theorem dX9_takeJob_113 : decode cX9_takeJob 113 = .ok (.iinc 4 1, 3) := by decide +kernel
theorem dX9_takeJob_116 : decode cX9_takeJob 116 = .ok (.goto (-71), 3) := by decide +kernel
theorem dX9_takeJob_119 : decode cX9_takeJob 119 = .ok (.aload_n 0, 1) := by decide +kernel
theorem dX9_takeJob_120 : decode cX9_takeJob 120 = .ok (.getstatic 205, 3) := by decide +kernel
theorem dX9_takeJob_123 : decode cX9_takeJob 123 = .ok (.invokevirtual 125, 3) := by decide +kernel
theorem dX9_takeJob_126 : decode cX9_takeJob 126 = .ok (.aload_n 0, 1) := by decide +kernel
theorem dX9_takeJob_127 : decode cX9_takeJob 127 = .ok (.getfield 26, 3) := by decide +kernel
theorem dX9_takeJob_130 : decode cX9_takeJob 130 = .ok (.getfield 284, 3) := by decide +kernel
theorem dX9_takeJob_133 : decode cX9_takeJob 133 = .ok (.aload_n 1, 1) := by decide +kernel
theorem dX9_takeJob_134 : decode cX9_takeJob 134 = .ok (.invokevirtual 149, 3) := by decide +kernel
theorem dX9_takeJob_137 : decode cX9_takeJob 137 = .ok (.pop, 1) := by decide +kernel
theorem dX9_takeJob_138 : decode cX9_takeJob 138 = .ok (.return_, 1) := by decide +kernel
theorem dX9_takeOp_0 : decode cX9_takeOp 0 = .ok (.new 304, 3) := by decide +kernel
theorem dX9_takeOp_3 : decode cX9_takeOp 3 = .ok (.dup, 1) := by decide +kernel
theorem dX9_takeOp_4 : decode cX9_takeOp 4 = .ok (.aload_n 0, 1) := by decide +kernel
theorem dX9_takeOp_5 : decode cX9_takeOp 5 = .ok (.getfield 12, 3) := by decide +kernel
theorem dX9_takeOp_8 : decode cX9_takeOp 8 = .ok (.aload_n 0, 1) := by decide +kernel
theorem dX9_takeOp_9 : decode cX9_takeOp 9 = .ok (.getfield 30, 3) := by decide +kernel
theorem dX9_takeOp_12 : decode cX9_takeOp 12 = .ok (.invokevirtual 55, 3) := by decide +kernel
theorem dX9_takeOp_15 : decode cX9_takeOp 15 = .ok (.invokespecial 306, 3) := by decide +kernel
theorem dX9_takeOp_18 : decode cX9_takeOp 18 = .ok (.astore 4, 2) := by decide +kernel
theorem dX9_takeOp_20 : decode cX9_takeOp 20 = .ok (.aload 4, 2) := by decide +kernel
theorem dX9_takeOp_22 : decode cX9_takeOp 22 = .ok (.getfield 308, 3) := by decide +kernel
theorem dX9_takeOp_25 : decode cX9_takeOp 25 = .ok (.getstatic 310, 3) := by decide +kernel
theorem dX9_takeOp_28 : decode cX9_takeOp 28 = .ok (.if_acmp .ne 12, 3) := by decide +kernel
theorem dX9_takeOp_31 : decode cX9_takeOp 31 = .ok (.iload_n 3, 1) := by decide +kernel
theorem dX9_takeOp_32 : decode cX9_takeOp 32 = .ok (.iconst 3, 1) := by decide +kernel
theorem dX9_takeOp_33 : decode cX9_takeOp 33 = .ok (.if_icmp .lt 7, 3) := by decide +kernel
theorem dX9_takeOp_36 : decode cX9_takeOp 36 = .ok (.aload_n 0, 1) := by decide +kernel
theorem dX9_takeOp_37 : decode cX9_takeOp 37 = .ok (.invokevirtual 78, 3) := by decide +kernel
theorem dX9_takeOp_40 : decode cX9_takeOp 40 = .ok (.aload_n 0, 1) := by decide +kernel
theorem dX9_takeOp_41 : decode cX9_takeOp 41 = .ok (.iload_n 2, 1) := by decide +kernel
theorem dX9_takeOp_42 : decode cX9_takeOp 42 = .ok (.bipush 40, 2) := by decide +kernel
theorem dX9_takeOp_44 : decode cX9_takeOp 44 = .ok (.invokevirtual 106, 3) := by decide +kernel
theorem dX9_takeOp_47 : decode cX9_takeOp 47 = .ok (.aload_n 1, 1) := by decide +kernel
theorem dX9_takeOp_48 : decode cX9_takeOp 48 = .ok (.getfield 313, 3) := by decide +kernel
theorem dX9_takeOp_51 : decode cX9_takeOp 51 = .ok (.aload 4, 2) := by decide +kernel
theorem dX9_takeOp_53 : decode cX9_takeOp 53 = .ok (.invokevirtual 149, 3) := by decide +kernel
theorem dX9_takeOp_56 : decode cX9_takeOp 56 = .ok (.pop, 1) := by decide +kernel
theorem dX9_takeOp_57 : decode cX9_takeOp 57 = .ok (.aload 4, 2) := by decide +kernel
theorem dX9_takeOp_59 : decode cX9_takeOp 59 = .ok (.getfield 308, 3) := by decide +kernel
theorem dX9_takeOp_62 : decode cX9_takeOp 62 = .ok (.getstatic 310, 3) := by decide +kernel
theorem dX9_takeOp_65 : decode cX9_takeOp 65 = .ok (.if_acmp .ne 10, 3) := by decide +kernel
theorem dX9_takeOp_68 : decode cX9_takeOp 68 = .ok (.aload_n 0, 1) := by decide +kernel
theorem dX9_takeOp_69 : decode cX9_takeOp 69 = .ok (.aload_n 1, 1) := by decide +kernel
theorem dX9_takeOp_70 : decode cX9_takeOp 70 = .ok (.iload_n 3, 1) := by decide +kernel
theorem dX9_takeOp_71 : decode cX9_takeOp 71 = .ok (.invokevirtual 316, 3) := by decide +kernel
theorem dX9_takeOp_74 : decode cX9_takeOp 74 = .ok (.ireturn, 1) := by decide +kernel
theorem dX9_takeOp_75 : decode cX9_takeOp 75 = .ok (.aload 4, 2) := by decide +kernel
theorem dX9_takeOp_77 : decode cX9_takeOp 77 = .ok (.getfield 308, 3) := by decide +kernel
theorem dX9_takeOp_80 : decode cX9_takeOp 80 = .ok (.getstatic 320, 3) := by decide +kernel
theorem dX9_takeOp_83 : decode cX9_takeOp 83 = .ok (.if_acmp .ne 16, 3) := by decide +kernel
theorem dX9_takeOp_86 : decode cX9_takeOp 86 = .ok (.aload 4, 2) := by decide +kernel
theorem dX9_takeOp_88 : decode cX9_takeOp 88 = .ok (.aload_n 0, 1) := by decide +kernel
theorem dX9_takeOp_89 : decode cX9_takeOp 89 = .ok (.invokevirtual 166, 3) := by decide +kernel
theorem dX9_takeOp_92 : decode cX9_takeOp 92 = .ok (.i2l, 1) := by decide +kernel
theorem dX9_takeOp_93 : decode cX9_takeOp 93 = .ok (.putfield 323, 3) := by decide +kernel
theorem dX9_takeOp_96 : decode cX9_takeOp 96 = .ok (.goto 50, 3) := by decide +kernel
theorem dX9_takeOp_99 : decode cX9_takeOp 99 = .ok (.aload 4, 2) := by decide +kernel
theorem dX9_takeOp_101 : decode cX9_takeOp 101 = .ok (.getfield 308, 3) := by decide +kernel
theorem dX9_takeOp_104 : decode cX9_takeOp 104 = .ok (.getstatic 326, 3) := by decide +kernel
theorem dX9_takeOp_107 : decode cX9_takeOp 107 = .ok (.if_acmp .ne 39, 3) := by decide +kernel
theorem dX9_takeOp_110 : decode cX9_takeOp 110 = .ok (.aload 4, 2) := by decide +kernel
theorem dX9_takeOp_112 : decode cX9_takeOp 112 = .ok (.aload_n 0, 1) := by decide +kernel
theorem dX9_takeOp_113 : decode cX9_takeOp 113 = .ok (.invokevirtual 112, 3) := by decide +kernel
theorem dX9_takeOp_116 : decode cX9_takeOp 116 = .ok (.putfield 329, 3) := by decide +kernel
theorem dX9_takeOp_119 : decode cX9_takeOp 119 = .ok (.aload 4, 2) := by decide +kernel
theorem dX9_takeOp_121 : decode cX9_takeOp 121 = .ok (.aload_n 0, 1) := by decide +kernel
theorem dX9_takeOp_122 : decode cX9_takeOp 122 = .ok (.invokevirtual 115, 3) := by decide +kernel
theorem dX9_takeOp_125 : decode cX9_takeOp 125 = .ok (.putfield 332, 3) := by decide +kernel
theorem dX9_takeOp_128 : decode cX9_takeOp 128 = .ok (.aload 4, 2) := by decide +kernel
theorem dX9_takeOp_130 : decode cX9_takeOp 130 = .ok (.aload_n 0, 1) := by decide +kernel
theorem dX9_takeOp_131 : decode cX9_takeOp 131 = .ok (.invokevirtual 112, 3) := by decide +kernel
theorem dX9_takeOp_134 : decode cX9_takeOp 134 = .ok (.putfield 335, 3) := by decide +kernel
theorem dX9_takeOp_137 : decode cX9_takeOp 137 = .ok (.aload 4, 2) := by decide +kernel
theorem dX9_takeOp_139 : decode cX9_takeOp 139 = .ok (.aload_n 0, 1) := by decide +kernel
theorem dX9_takeOp_140 : decode cX9_takeOp 140 = .ok (.invokevirtual 115, 3) := by decide +kernel
theorem dX9_takeOp_143 : decode cX9_takeOp 143 = .ok (.putfield 338, 3) := by decide +kernel
theorem dX9_takeOp_146 : decode cX9_takeOp 146 = .ok (.aload_n 0, 1) := by decide +kernel
theorem dX9_takeOp_147 : decode cX9_takeOp 147 = .ok (.getstatic 186, 3) := by decide +kernel
theorem dX9_takeOp_150 : decode cX9_takeOp 150 = .ok (.invokevirtual 125, 3) := by decide +kernel
theorem dX9_takeOp_153 : decode cX9_takeOp 153 = .ok (.iload_n 3, 1) := by decide +kernel
theorem dX9_takeOp_154 : decode cX9_takeOp 154 = .ok (.ireturn, 1) := by decide +kernel
theorem dX9_openWhile_0 : decode cX9_openWhile 0 = .ok (.iload_n 2, 1) := by decide +kernel
theorem dX9_openWhile_1 : decode cX9_openWhile 1 = .ok (.ifCond .lt 12, 3) := by decide +kernel
theorem dX9_openWhile_4 : decode cX9_openWhile 4 = .ok (.iload_n 2, 1) := by decide +kernel
theorem dX9_openWhile_5 : decode cX9_openWhile 5 = .ok (.aload_n 0, 1) := by decide +kernel
theorem dX9_openWhile_6 : decode cX9_openWhile 6 = .ok (.getfield 18, 3) := by decide +kernel
theorem dX9_openWhile_9 : decode cX9_openWhile 9 = .ok (.arraylength, 1) := by decide +kernel
theorem dX9_openWhile_10 : decode cX9_openWhile 10 = .ok (.if_icmp .lt 5, 3) := by decide +kernel
theorem dX9_openWhile_13 : decode cX9_openWhile 13 = .ok (.iload_n 2, 1) := by decide +kernel
theorem dX9_openWhile_14 : decode cX9_openWhile 14 = .ok (.ireturn, 1) := by decide +kernel
theorem dX9_openWhile_15 : decode cX9_openWhile 15 = .ok (.aload_n 0, 1) := by decide +kernel
theorem dX9_openWhile_16 : decode cX9_openWhile 16 = .ok (.getfield 18, 3) := by decide +kernel
theorem dX9_openWhile_19 : decode cX9_openWhile 19 = .ok (.iload_n 2, 1) := by decide +kernel
theorem dX9_openWhile_20 : decode cX9_openWhile 20 = .ok (.aload_n 1, 1) := by decide +kernel
theorem dX9_openWhile_21 : decode cX9_openWhile 21 = .ok (.getfield 313, 3) := by decide +kernel
theorem dX9_openWhile_24 : decode cX9_openWhile 24 = .ok (.invokevirtual 101, 3) := by decide +kernel
theorem dX9_openWhile_27 : decode cX9_openWhile 27 = .ok (.iconst 1, 1) := by decide +kernel
theorem dX9_openWhile_28 : decode cX9_openWhile 28 = .ok (.isub, 1) := by decide +kernel
theorem dX9_openWhile_29 : decode cX9_openWhile 29 = .ok (.iastore, 1) := by decide +kernel
theorem dX9_openWhile_30 : decode cX9_openWhile 30 = .ok (.aload_n 0, 1) := by decide +kernel
theorem dX9_openWhile_31 : decode cX9_openWhile 31 = .ok (.getstatic 139, 3) := by decide +kernel
theorem dX9_openWhile_34 : decode cX9_openWhile 34 = .ok (.invokevirtual 125, 3) := by decide +kernel
theorem dX9_openWhile_37 : decode cX9_openWhile 37 = .ok (.iload_n 2, 1) := by decide +kernel
theorem dX9_openWhile_38 : decode cX9_openWhile 38 = .ok (.iconst 1, 1) := by decide +kernel
theorem dX9_openWhile_39 : decode cX9_openWhile 39 = .ok (.iadd, 1) := by decide +kernel
theorem dX9_openWhile_40 : decode cX9_openWhile 40 = .ok (.ireturn, 1) := by decide +kernel
theorem dX9_closeWhile_0 : decode cX9_closeWhile 0 = .ok (.aload_n 0, 1) := by decide +kernel
theorem dX9_closeWhile_1 : decode cX9_closeWhile 1 = .ok (.getstatic 205, 3) := by decide +kernel
theorem dX9_closeWhile_4 : decode cX9_closeWhile 4 = .ok (.invokevirtual 125, 3) := by decide +kernel
theorem dX9_closeWhile_7 : decode cX9_closeWhile 7 = .ok (.iload_n 2, 1) := by decide +kernel
theorem dX9_closeWhile_8 : decode cX9_closeWhile 8 = .ok (.ifCond .lt 12, 3) := by decide +kernel
theorem dX9_closeWhile_11 : decode cX9_closeWhile 11 = .ok (.iload_n 2, 1) := by decide +kernel
theorem dX9_closeWhile_12 : decode cX9_closeWhile 12 = .ok (.aload_n 0, 1) := by decide +kernel
theorem dX9_closeWhile_13 : decode cX9_closeWhile 13 = .ok (.getfield 18, 3) := by decide +kernel
theorem dX9_closeWhile_16 : decode cX9_closeWhile 16 = .ok (.arraylength, 1) := by decide +kernel
theorem dX9_closeWhile_17 : decode cX9_closeWhile 17 = .ok (.if_icmp .lt 4, 3) := by decide +kernel
theorem dX9_closeWhile_20 : decode cX9_closeWhile 20 = .ok (.return_, 1) := by decide +kernel
theorem dX9_closeWhile_21 : decode cX9_closeWhile 21 = .ok (.aload_n 0, 1) := by decide +kernel
theorem dX9_closeWhile_22 : decode cX9_closeWhile 22 = .ok (.getfield 18, 3) := by decide +kernel
theorem dX9_closeWhile_25 : decode cX9_closeWhile 25 = .ok (.iload_n 2, 1) := by decide +kernel
theorem dX9_closeWhile_26 : decode cX9_closeWhile 26 = .ok (.iaload, 1) := by decide +kernel
theorem dX9_closeWhile_27 : decode cX9_closeWhile 27 = .ok (.istore_n 3, 1) := by decide +kernel
theorem dX9_closeWhile_28 : decode cX9_closeWhile 28 = .ok (.new 304, 3) := by decide +kernel
theorem dX9_closeWhile_31 : decode cX9_closeWhile 31 = .ok (.dup, 1) := by decide +kernel
theorem dX9_closeWhile_32 : decode cX9_closeWhile 32 = .ok (.getstatic 205, 3) := by decide +kernel
theorem dX9_closeWhile_35 : decode cX9_closeWhile 35 = .ok (.invokespecial 306, 3) := by decide +kernel
theorem dX9_closeWhile_38 : decode cX9_closeWhile 38 = .ok (.astore 4, 2) := by decide +kernel
theorem dX9_closeWhile_40 : decode cX9_closeWhile 40 = .ok (.aload 4, 2) := by decide +kernel
theorem dX9_closeWhile_42 : decode cX9_closeWhile 42 = .ok (.iload_n 3, 1) := by decide +kernel
theorem dX9_closeWhile_43 : decode cX9_closeWhile 43 = .ok (.putfield 341, 3) := by decide +kernel
theorem dX9_closeWhile_46 : decode cX9_closeWhile 46 = .ok (.aload_n 1, 1) := by decide +kernel
theorem dX9_closeWhile_47 : decode cX9_closeWhile 47 = .ok (.getfield 313, 3) := by decide +kernel
theorem dX9_closeWhile_50 : decode cX9_closeWhile 50 = .ok (.aload 4, 2) := by decide +kernel
theorem dX9_closeWhile_52 : decode cX9_closeWhile 52 = .ok (.invokevirtual 149, 3) := by decide +kernel
theorem dX9_closeWhile_55 : decode cX9_closeWhile 55 = .ok (.pop, 1) := by decide +kernel
theorem dX9_closeWhile_56 : decode cX9_closeWhile 56 = .ok (.iload_n 3, 1) := by decide +kernel
theorem dX9_closeWhile_57 : decode cX9_closeWhile 57 = .ok (.ifCond .lt 35, 3) := by decide +kernel
theorem dX9_closeWhile_60 : decode cX9_closeWhile 60 = .ok (.iload_n 3, 1) := by decide +kernel
theorem dX9_closeWhile_61 : decode cX9_closeWhile 61 = .ok (.aload_n 1, 1) := by decide +kernel
theorem dX9_closeWhile_62 : decode cX9_closeWhile 62 = .ok (.getfield 313, 3) := by decide +kernel
theorem dX9_closeWhile_65 : decode cX9_closeWhile 65 = .ok (.invokevirtual 101, 3) := by decide +kernel
theorem dX9_closeWhile_68 : decode cX9_closeWhile 68 = .ok (.if_icmp .ge 24, 3) := by decide +kernel
theorem dX9_closeWhile_71 : decode cX9_closeWhile 71 = .ok (.aload_n 1, 1) := by decide +kernel
theorem dX9_closeWhile_72 : decode cX9_closeWhile 72 = .ok (.getfield 313, 3) := by decide +kernel
theorem dX9_closeWhile_75 : decode cX9_closeWhile 75 = .ok (.iload_n 3, 1) := by decide +kernel
theorem dX9_closeWhile_76 : decode cX9_closeWhile 76 = .ok (.invokevirtual 344, 3) := by decide +kernel
theorem dX9_closeWhile_79 : decode cX9_closeWhile 79 = .ok (.checkcast 304, 3) := by decide +kernel
theorem dX9_closeWhile_82 : decode cX9_closeWhile 82 = .ok (.aload_n 1, 1) := by decide +kernel
theorem dX9_closeWhile_83 : decode cX9_closeWhile 83 = .ok (.getfield 313, 3) := by decide +kernel
theorem dX9_closeWhile_86 : decode cX9_closeWhile 86 = .ok (.invokevirtual 101, 3) := by decide +kernel
theorem dX9_closeWhile_89 : decode cX9_closeWhile 89 = .ok (.putfield 341, 3) := by decide +kernel
theorem dX9_closeWhile_92 : decode cX9_closeWhile 92 = .ok (.return_, 1) := by decide +kernel
theorem dX9_begin_0 : decode cX9_begin 0 = .ok (.iload_n 1, 1) := by decide +kernel
theorem dX9_begin_1 : decode cX9_begin 1 = .ok (.iload_n 2, 1) := by decide +kernel
theorem dX9_begin_2 : decode cX9_begin 2 = .ok (.if_icmp .lt 10, 3) := by decide +kernel
theorem dX9_begin_5 : decode cX9_begin 5 = .ok (.aload_n 0, 1) := by decide +kernel
theorem dX9_begin_6 : decode cX9_begin 6 = .ok (.invokevirtual 78, 3) := by decide +kernel
theorem dX9_begin_9 : decode cX9_begin 9 = .ok (.goto 20, 3) := by decide +kernel
theorem dX9_begin_12 : decode cX9_begin 12 = .ok (.aload_n 0, 1) := by decide +kernel
theorem dX9_begin_13 : decode cX9_begin 13 = .ok (.getfield 34, 3) := by decide +kernel
theorem dX9_begin_16 : decode cX9_begin 16 = .ok (.ifCond .ge 13, 3) := by decide +kernel
theorem dX9_begin_19 : decode cX9_begin 19 = .ok (.aload_n 0, 1) := by decide +kernel
theorem dX9_begin_20 : decode cX9_begin 20 = .ok (.dup, 1) := by decide +kernel
theorem dX9_begin_21 : decode cX9_begin 21 = .ok (.getfield 30, 3) := by decide +kernel
theorem dX9_begin_24 : decode cX9_begin 24 = .ok (.iconst 1, 1) := by decide +kernel
theorem dX9_begin_25 : decode cX9_begin 25 = .ok (.iadd, 1) := by decide +kernel
theorem dX9_begin_26 : decode cX9_begin 26 = .ok (.putfield 30, 3) := by decide +kernel
theorem dX9_begin_29 : decode cX9_begin 29 = .ok (.return_, 1) := by decide +kernel
theorem dX9_take_0 : decode cX9_take 0 = .ok (.aload_n 0, 1) := by decide +kernel
theorem dX9_take_1 : decode cX9_take 1 = .ok (.aload_n 1, 1) := by decide +kernel
theorem dX9_take_2 : decode cX9_take 2 = .ok (.invokevirtual 46, 3) := by decide +kernel
theorem dX9_take_5 : decode cX9_take 5 = .ok (.ifCond .eq 16, 3) := by decide +kernel
theorem dX9_take_8 : decode cX9_take 8 = .ok (.aload_n 0, 1) := by decide +kernel
theorem dX9_take_9 : decode cX9_take 9 = .ok (.dup, 1) := by decide +kernel
theorem dX9_take_10 : decode cX9_take 10 = .ok (.getfield 30, 3) := by decide +kernel
theorem dX9_take_13 : decode cX9_take 13 = .ok (.iconst 1, 1) := by decide +kernel
theorem dX9_take_14 : decode cX9_take 14 = .ok (.iadd, 1) := by decide +kernel
theorem dX9_take_15 : decode cX9_take 15 = .ok (.putfield 30, 3) := by decide +kernel
theorem dX9_take_18 : decode cX9_take 18 = .ok (.goto 7, 3) := by decide +kernel
theorem dX9_take_21 : decode cX9_take 21 = .ok (.aload_n 0, 1) := by decide +kernel
theorem dX9_take_22 : decode cX9_take 22 = .ok (.invokevirtual 78, 3) := by decide +kernel
theorem dX9_take_25 : decode cX9_take 25 = .ok (.return_, 1) := by decide +kernel
theorem dX9_takeNumber_0 : decode cX9_takeNumber 0 = .ok (.aload_n 0, 1) := by decide +kernel
theorem dX9_takeNumber_1 : decode cX9_takeNumber 1 = .ok (.getfield 12, 3) := by decide +kernel
theorem dX9_takeNumber_4 : decode cX9_takeNumber 4 = .ok (.aload_n 0, 1) := by decide +kernel
theorem dX9_takeNumber_5 : decode cX9_takeNumber 5 = .ok (.getfield 30, 3) := by decide +kernel
theorem dX9_takeNumber_8 : decode cX9_takeNumber 8 = .ok (.invokevirtual 87, 3) := by decide +kernel
theorem dX9_takeNumber_11 : decode cX9_takeNumber 11 = .ok (.lstore_n 3, 1) := by decide +kernel
theorem dX9_takeNumber_12 : decode cX9_takeNumber 12 = .ok (.aload_n 0, 1) := by decide +kernel
theorem dX9_takeNumber_13 : decode cX9_takeNumber 13 = .ok (.getstatic 189, 3) := by decide +kernel
theorem dX9_takeNumber_16 : decode cX9_takeNumber 16 = .ok (.invokevirtual 46, 3) := by decide +kernel
theorem dX9_takeNumber_19 : decode cX9_takeNumber 19 = .ok (.ifCond .eq 17, 3) := by decide +kernel
theorem dX9_takeNumber_22 : decode cX9_takeNumber 22 = .ok (.lload_n 3, 1) := by decide +kernel
theorem dX9_takeNumber_23 : decode cX9_takeNumber 23 = .ok (.iload_n 1, 1) := by decide +kernel
theorem dX9_takeNumber_24 : decode cX9_takeNumber 24 = .ok (.i2l, 1) := by decide +kernel
theorem dX9_takeNumber_25 : decode cX9_takeNumber 25 = .ok (.lcmp, 1) := by decide +kernel
theorem dX9_takeNumber_26 : decode cX9_takeNumber 26 = .ok (.ifCond .lt 10, 3) := by decide +kernel
theorem dX9_takeNumber_29 : decode cX9_takeNumber 29 = .ok (.lload_n 3, 1) := by decide +kernel
theorem dX9_takeNumber_30 : decode cX9_takeNumber 30 = .ok (.iload_n 2, 1) := by decide +kernel
theorem dX9_takeNumber_31 : decode cX9_takeNumber 31 = .ok (.i2l, 1) := by decide +kernel
theorem dX9_takeNumber_32 : decode cX9_takeNumber 32 = .ok (.lcmp, 1) := by decide +kernel
theorem dX9_takeNumber_33 : decode cX9_takeNumber 33 = .ok (.ifCond .le 9, 3) := by decide +kernel
theorem dX9_takeNumber_36 : decode cX9_takeNumber 36 = .ok (.aload_n 0, 1) := by decide +kernel
theorem dX9_takeNumber_37 : decode cX9_takeNumber 37 = .ok (.invokevirtual 78, 3) := by decide +kernel
theorem dX9_takeNumber_40 : decode cX9_takeNumber 40 = .ok (.iload_n 1, 1) := by decide +kernel
theorem dX9_takeNumber_41 : decode cX9_takeNumber 41 = .ok (.ireturn, 1) := by decide +kernel
theorem dX9_takeNumber_42 : decode cX9_takeNumber 42 = .ok (.aload_n 0, 1) := by decide +kernel
theorem dX9_takeNumber_43 : decode cX9_takeNumber 43 = .ok (.dup, 1) := by decide +kernel
theorem dX9_takeNumber_44 : decode cX9_takeNumber 44 = .ok (.getfield 30, 3) := by decide +kernel
theorem dX9_takeNumber_47 : decode cX9_takeNumber 47 = .ok (.iconst 1, 1) := by decide +kernel
theorem dX9_takeNumber_48 : decode cX9_takeNumber 48 = .ok (.iadd, 1) := by decide +kernel
theorem dX9_takeNumber_49 : decode cX9_takeNumber 49 = .ok (.putfield 30, 3) := by decide +kernel
theorem dX9_takeNumber_52 : decode cX9_takeNumber 52 = .ok (.lload_n 3, 1) := by decide +kernel
theorem dX9_takeNumber_53 : decode cX9_takeNumber 53 = .ok (.l2i, 1) := by decide +kernel
theorem dX9_takeNumber_54 : decode cX9_takeNumber 54 = .ok (.ireturn, 1) := by decide +kernel
theorem dX9_takeValue_0 : decode cX9_takeValue 0 = .ok (.aload_n 0, 1) := by decide +kernel
theorem dX9_takeValue_1 : decode cX9_takeValue 1 = .ok (.getstatic 348, 3) := by decide +kernel
theorem dX9_takeValue_4 : decode cX9_takeValue 4 = .ok (.invokevirtual 46, 3) := by decide +kernel
theorem dX9_takeValue_7 : decode cX9_takeValue 7 = .ok (.istore_n 1, 1) := by decide +kernel
theorem dX9_takeValue_8 : decode cX9_takeValue 8 = .ok (.iload_n 1, 1) := by decide +kernel
theorem dX9_takeValue_9 : decode cX9_takeValue 9 = .ok (.ifCond .eq 13, 3) := by decide +kernel
theorem dX9_takeValue_12 : decode cX9_takeValue 12 = .ok (.aload_n 0, 1) := by decide +kernel
theorem dX9_takeValue_13 : decode cX9_takeValue 13 = .ok (.dup, 1) := by decide +kernel
theorem dX9_takeValue_14 : decode cX9_takeValue 14 = .ok (.getfield 30, 3) := by decide +kernel
theorem dX9_takeValue_17 : decode cX9_takeValue 17 = .ok (.iconst 1, 1) := by decide +kernel
theorem dX9_takeValue_18 : decode cX9_takeValue 18 = .ok (.iadd, 1) := by decide +kernel
theorem dX9_takeValue_19 : decode cX9_takeValue 19 = .ok (.putfield 30, 3) := by decide +kernel
theorem dX9_takeValue_22 : decode cX9_takeValue 22 = .ok (.aload_n 0, 1) := by decide +kernel
theorem dX9_takeValue_23 : decode cX9_takeValue 23 = .ok (.iconst 0, 1) := by decide +kernel
theorem dX9_takeValue_24 : decode cX9_takeValue 24 = .ok (.ldc 176, 2) := by decide +kernel
theorem dX9_takeValue_26 : decode cX9_takeValue 26 = .ok (.invokevirtual 129, 3) := by decide +kernel
theorem dX9_takeValue_29 : decode cX9_takeValue 29 = .ok (.istore_n 2, 1) := by decide +kernel
theorem dX9_takeValue_30 : decode cX9_takeValue 30 = .ok (.iload_n 1, 1) := by decide +kernel
theorem dX9_takeValue_31 : decode cX9_takeValue 31 = .ok (.ifCond .eq 8, 3) := by decide +kernel
theorem dX9_takeValue_34 : decode cX9_takeValue 34 = .ok (.iload_n 2, 1) := by decide +kernel
theorem dX9_takeValue_35 : decode cX9_takeValue 35 = .ok (.ineg, 1) := by decide +kernel
theorem dX9_takeValue_36 : decode cX9_takeValue 36 = .ok (.goto 4, 3) := by decide +kernel
theorem dX9_takeValue_39 : decode cX9_takeValue 39 = .ok (.iload_n 2, 1) := by decide +kernel
theorem dX9_takeValue_40 : decode cX9_takeValue 40 = .ok (.ireturn, 1) := by decide +kernel
theorem dX9_takeName_0 : decode cX9_takeName 0 = .ok (.aload_n 0, 1) := by decide +kernel
theorem dX9_takeName_1 : decode cX9_takeName 1 = .ok (.getstatic 84, 3) := by decide +kernel
theorem dX9_takeName_4 : decode cX9_takeName 4 = .ok (.invokevirtual 46, 3) := by decide +kernel
theorem dX9_takeName_7 : decode cX9_takeName 7 = .ok (.ifCond .ne 9, 3) := by decide +kernel
theorem dX9_takeName_10 : decode cX9_takeName 10 = .ok (.aload_n 0, 1) := by decide +kernel
theorem dX9_takeName_11 : decode cX9_takeName 11 = .ok (.invokevirtual 78, 3) := by decide +kernel
theorem dX9_takeName_14 : decode cX9_takeName 14 = .ok (.lconst 0, 1) := by decide +kernel
theorem dX9_takeName_15 : decode cX9_takeName 15 = .ok (.lreturn, 1) := by decide +kernel
theorem dX9_takeName_16 : decode cX9_takeName 16 = .ok (.aload_n 0, 1) := by decide +kernel
theorem dX9_takeName_17 : decode cX9_takeName 17 = .ok (.getfield 12, 3) := by decide +kernel
theorem dX9_takeName_20 : decode cX9_takeName 20 = .ok (.aload_n 0, 1) := by decide +kernel
theorem dX9_takeName_21 : decode cX9_takeName 21 = .ok (.getfield 30, 3) := by decide +kernel
theorem dX9_takeName_24 : decode cX9_takeName 24 = .ok (.invokevirtual 87, 3) := by decide +kernel
theorem dX9_takeName_27 : decode cX9_takeName 27 = .ok (.lstore_n 1, 1) := by decide +kernel
theorem dX9_takeName_28 : decode cX9_takeName 28 = .ok (.aload_n 0, 1) := by decide +kernel
theorem dX9_takeName_29 : decode cX9_takeName 29 = .ok (.dup, 1) := by decide +kernel
theorem dX9_takeName_30 : decode cX9_takeName 30 = .ok (.getfield 30, 3) := by decide +kernel
theorem dX9_takeName_33 : decode cX9_takeName 33 = .ok (.iconst 1, 1) := by decide +kernel
theorem dX9_takeName_34 : decode cX9_takeName 34 = .ok (.iadd, 1) := by decide +kernel
theorem dX9_takeName_35 : decode cX9_takeName 35 = .ok (.putfield 30, 3) := by decide +kernel
theorem dX9_takeName_38 : decode cX9_takeName 38 = .ok (.lload_n 1, 1) := by decide +kernel
theorem dX9_takeName_39 : decode cX9_takeName 39 = .ok (.lreturn, 1) := by decide +kernel
theorem dX9_takeNumberOf_0 : decode cX9_takeNumberOf 0 = .ok (.aload_n 1, 1) := by decide +kernel
theorem dX9_takeNumberOf_1 : decode cX9_takeNumberOf 1 = .ok (.aload_n 0, 1) := by decide +kernel
theorem dX9_takeNumberOf_2 : decode cX9_takeNumberOf 2 = .ok (.invokevirtual 112, 3) := by decide +kernel
theorem dX9_takeNumberOf_5 : decode cX9_takeNumberOf 5 = .ok (.putfield 351, 3) := by decide +kernel
theorem dX9_takeNumberOf_8 : decode cX9_takeNumberOf 8 = .ok (.aload_n 1, 1) := by decide +kernel
theorem dX9_takeNumberOf_9 : decode cX9_takeNumberOf 9 = .ok (.aload_n 0, 1) := by decide +kernel
theorem dX9_takeNumberOf_10 : decode cX9_takeNumberOf 10 = .ok (.iconst 0, 1) := by decide +kernel
theorem dX9_takeNumberOf_11 : decode cX9_takeNumberOf 11 = .ok (.ldc 176, 2) := by decide +kernel
theorem dX9_takeNumberOf_13 : decode cX9_takeNumberOf 13 = .ok (.invokevirtual 129, 3) := by decide +kernel
theorem dX9_takeNumberOf_16 : decode cX9_takeNumberOf 16 = .ok (.putfield 354, 3) := by decide +kernel
theorem dX9_takeNumberOf_19 : decode cX9_takeNumberOf 19 = .ok (.return_, 1) := by decide +kernel
theorem dX9_takeNameOf_0 : decode cX9_takeNameOf 0 = .ok (.aload_n 1, 1) := by decide +kernel
theorem dX9_takeNameOf_1 : decode cX9_takeNameOf 1 = .ok (.aload_n 0, 1) := by decide +kernel
theorem dX9_takeNameOf_2 : decode cX9_takeNameOf 2 = .ok (.invokevirtual 112, 3) := by decide +kernel
theorem dX9_takeNameOf_5 : decode cX9_takeNameOf 5 = .ok (.putfield 355, 3) := by decide +kernel
theorem dX9_takeNameOf_8 : decode cX9_takeNameOf 8 = .ok (.aload_n 1, 1) := by decide +kernel
theorem dX9_takeNameOf_9 : decode cX9_takeNameOf 9 = .ok (.aload_n 0, 1) := by decide +kernel
theorem dX9_takeNameOf_10 : decode cX9_takeNameOf 10 = .ok (.invokevirtual 115, 3) := by decide +kernel
theorem dX9_takeNameOf_13 : decode cX9_takeNameOf 13 = .ok (.putfield 358, 3) := by decide +kernel
theorem dX9_takeNameOf_16 : decode cX9_takeNameOf 16 = .ok (.return_, 1) := by decide +kernel
theorem dX9_sees_0 : decode cX9_sees 0 = .ok (.aload_n 0, 1) := by decide +kernel
theorem dX9_sees_1 : decode cX9_sees 1 = .ok (.getfield 34, 3) := by decide +kernel
theorem dX9_sees_4 : decode cX9_sees 4 = .ok (.ifCond .ge 22, 3) := by decide +kernel
theorem dX9_sees_7 : decode cX9_sees 7 = .ok (.aload_n 0, 1) := by decide +kernel
theorem dX9_sees_8 : decode cX9_sees 8 = .ok (.getfield 12, 3) := by decide +kernel
theorem dX9_sees_11 : decode cX9_sees 11 = .ok (.aload_n 0, 1) := by decide +kernel
theorem dX9_sees_12 : decode cX9_sees 12 = .ok (.getfield 30, 3) := by decide +kernel
theorem dX9_sees_15 : decode cX9_sees 15 = .ok (.invokevirtual 55, 3) := by decide +kernel
theorem dX9_sees_18 : decode cX9_sees 18 = .ok (.aload_n 1, 1) := by decide +kernel
theorem dX9_sees_19 : decode cX9_sees 19 = .ok (.if_acmp .ne 7, 3) := by decide +kernel
theorem dX9_sees_22 : decode cX9_sees 22 = .ok (.iconst 1, 1) := by decide +kernel
theorem dX9_sees_23 : decode cX9_sees 23 = .ok (.goto 4, 3) := by decide +kernel
theorem dX9_sees_26 : decode cX9_sees 26 = .ok (.iconst 0, 1) := by decide +kernel
theorem dX9_sees_27 : decode cX9_sees 27 = .ok (.ireturn, 1) := by decide +kernel
theorem dX9_start_0 : decode cX9_start 0 = .ok (.aload_n 0, 1) := by decide +kernel
theorem dX9_start_1 : decode cX9_start 1 = .ok (.getfield 12, 3) := by decide +kernel
theorem dX9_start_4 : decode cX9_start 4 = .ok (.aload_n 0, 1) := by decide +kernel
theorem dX9_start_5 : decode cX9_start 5 = .ok (.getfield 30, 3) := by decide +kernel
theorem dX9_start_8 : decode cX9_start 8 = .ok (.invokevirtual 361, 3) := by decide +kernel
theorem dX9_start_11 : decode cX9_start 11 = .ok (.ireturn, 1) := by decide +kernel
theorem dX9_fail_0 : decode cX9_fail 0 = .ok (.aload_n 0, 1) := by decide +kernel
theorem dX9_fail_1 : decode cX9_fail 1 = .ok (.getfield 34, 3) := by decide +kernel
theorem dX9_fail_4 : decode cX9_fail 4 = .ok (.ifCond .ge 18, 3) := by decide +kernel
theorem dX9_fail_7 : decode cX9_fail 7 = .ok (.aload_n 0, 1) := by decide +kernel
theorem dX9_fail_8 : decode cX9_fail 8 = .ok (.aload_n 0, 1) := by decide +kernel
theorem dX9_fail_9 : decode cX9_fail 9 = .ok (.getfield 12, 3) := by decide +kernel
theorem dX9_fail_12 : decode cX9_fail 12 = .ok (.aload_n 0, 1) := by decide +kernel
theorem dX9_fail_13 : decode cX9_fail 13 = .ok (.getfield 30, 3) := by decide +kernel
theorem dX9_fail_16 : decode cX9_fail 16 = .ok (.invokevirtual 361, 3) := by decide +kernel
theorem dX9_fail_19 : decode cX9_fail 19 = .ok (.putfield 34, 3) := by decide +kernel
theorem dX9_fail_22 : decode cX9_fail 22 = .ok (.return_, 1) := by decide +kernel
theorem dX10_init_0 : decode cX10_init 0 = .ok (.aload_n 0, 1) := by decide +kernel
theorem dX10_init_1 : decode cX10_init 1 = .ok (.invokespecial 3, 3) := by decide +kernel
theorem dX10_init_4 : decode cX10_init 4 = .ok (.aload_n 0, 1) := by decide +kernel
theorem dX10_init_5 : decode cX10_init 5 = .ok (.new 9, 3) := by decide +kernel
theorem dX10_init_8 : decode cX10_init 8 = .ok (.dup, 1) := by decide +kernel
theorem dX10_init_9 : decode cX10_init 9 = .ok (.invokespecial 11, 3) := by decide +kernel
theorem dX10_init_12 : decode cX10_init 12 = .ok (.putfield 12, 3) := by decide +kernel
theorem dX10_init_15 : decode cX10_init 15 = .ok (.aload_n 0, 1) := by decide +kernel
theorem dX10_init_16 : decode cX10_init 16 = .ok (.iload_n 1, 1) := by decide +kernel
theorem dX10_init_17 : decode cX10_init 17 = .ok (.putfield 18, 3) := by decide +kernel
theorem dX10_init_20 : decode cX10_init 20 = .ok (.aload_n 0, 1) := by decide +kernel
theorem dX10_init_21 : decode cX10_init 21 = .ok (.aload_n 2, 1) := by decide +kernel
theorem dX10_init_22 : decode cX10_init 22 = .ok (.putfield 22, 3) := by decide +kernel
theorem dX10_init_25 : decode cX10_init 25 = .ok (.aload_n 0, 1) := by decide +kernel
theorem dX10_init_26 : decode cX10_init 26 = .ok (.iload_n 3, 1) := by decide +kernel
theorem dX10_init_27 : decode cX10_init 27 = .ok (.putfield 26, 3) := by decide +kernel
theorem dX10_init_30 : decode cX10_init 30 = .ok (.aload_n 0, 1) := by decide +kernel
theorem dX10_init_31 : decode cX10_init 31 = .ok (.lload 4, 2) := by decide +kernel
theorem dX10_init_33 : decode cX10_init 33 = .ok (.putfield 29, 3) := by decide +kernel
theorem dX10_init_36 : decode cX10_init 36 = .ok (.return_, 1) := by decide +kernel
theorem dX10_named_0 : decode cX10_named 0 = .ok (.iconst 0, 1) := by decide +kernel
theorem dX10_named_1 : decode cX10_named 1 = .ok (.istore_n 3, 1) := by decide +kernel
theorem dX10_named_2 : decode cX10_named 2 = .ok (.iload_n 3, 1) := by decide +kernel
theorem dX10_named_3 : decode cX10_named 3 = .ok (.aload_n 0, 1) := by decide +kernel
theorem dX10_named_4 : decode cX10_named 4 = .ok (.getfield 12, 3) := by decide +kernel
theorem dX10_named_7 : decode cX10_named 7 = .ok (.invokevirtual 33, 3) := by decide +kernel
theorem dX10_named_10 : decode cX10_named 10 = .ok (.if_icmp .ge 35, 3) := by decide +kernel
theorem dX10_named_13 : decode cX10_named 13 = .ok (.aload_n 0, 1) := by decide +kernel
theorem dX10_named_14 : decode cX10_named 14 = .ok (.getfield 12, 3) := by decide +kernel
theorem dX10_named_17 : decode cX10_named 17 = .ok (.iload_n 3, 1) := by decide +kernel
theorem dX10_named_18 : decode cX10_named 18 = .ok (.invokevirtual 37, 3) := by decide +kernel
theorem dX10_named_21 : decode cX10_named 21 = .ok (.checkcast 41, 3) := by decide +kernel
theorem dX10_named_24 : decode cX10_named 24 = .ok (.astore 4, 2) := by decide +kernel
theorem dX10_named_26 : decode cX10_named 26 = .ok (.aload 4, 2) := by decide +kernel
theorem dX10_named_28 : decode cX10_named 28 = .ok (.getfield 43, 3) := by decide +kernel
theorem dX10_named_31 : decode cX10_named 31 = .ok (.lload_n 1, 1) := by decide +kernel
theorem dX10_named_32 : decode cX10_named 32 = .ok (.lcmp, 1) := by decide +kernel
theorem dX10_named_33 : decode cX10_named 33 = .ok (.ifCond .ne 6, 3) := by decide +kernel
theorem dX10_named_36 : decode cX10_named 36 = .ok (.aload 4, 2) := by decide +kernel
theorem dX10_named_38 : decode cX10_named 38 = .ok (.areturn, 1) := by decide +kernel
theorem dX10_named_39 : decode cX10_named 39 = .ok (.iinc 3 1, 3) := by decide +kernel
theorem dX10_named_42 : decode cX10_named 42 = .ok (.goto (-40), 3) := by decide +kernel
theorem dX10_named_45 : decode cX10_named 45 = .ok (.aconst_null, 1) := by decide +kernel
theorem dX10_named_46 : decode cX10_named 46 = .ok (.areturn, 1) := by decide +kernel
theorem dX10_tell_0 : decode cX10_tell 0 = .ok (.aload_n 0, 1) := by decide +kernel
theorem dX10_tell_1 : decode cX10_tell 1 = .ok (.invokevirtual 44, 3) := by decide +kernel
theorem dX10_tell_4 : decode cX10_tell 4 = .ok (.aload_n 1, 1) := by decide +kernel
theorem dX10_tell_5 : decode cX10_tell 5 = .ok (.getfield 47, 3) := by decide +kernel
theorem dX10_tell_8 : decode cX10_tell 8 = .ok (.ifCond .eq 18, 3) := by decide +kernel
theorem dX10_tell_11 : decode cX10_tell 11 = .ok (.aload_n 1, 1) := by decide +kernel
theorem dX10_tell_12 : decode cX10_tell 12 = .ok (.iconst 0, 1) := by decide +kernel
theorem dX10_tell_13 : decode cX10_tell 13 = .ok (.invokevirtual 52, 3) := by decide +kernel
theorem dX10_tell_16 : decode cX10_tell 16 = .ok (.aload_n 0, 1) := by decide +kernel
theorem dX10_tell_17 : decode cX10_tell 17 = .ok (.getfield 55, 3) := by decide +kernel
theorem dX10_tell_20 : decode cX10_tell 20 = .ok (.bipush 64, 2) := by decide +kernel
theorem dX10_tell_22 : decode cX10_tell 22 = .ok (.iadd, 1) := by decide +kernel
theorem dX10_tell_23 : decode cX10_tell 23 = .ok (.if_icmp .eq 4, 3) := by decide +kernel
theorem dX10_tell_26 : decode cX10_tell 26 = .ok (.return_, 1) := by decide +kernel
theorem dX10_tell_27 : decode cX10_tell 27 = .ok (.iconst 1, 1) := by decide +kernel
theorem dX10_tell_28 : decode cX10_tell 28 = .ok (.istore_n 2, 1) := by decide +kernel
theorem dX10_tell_29 : decode cX10_tell 29 = .ok (.iconst 0, 1) := by decide +kernel
theorem dX10_tell_30 : decode cX10_tell 30 = .ok (.istore_n 3, 1) := by decide +kernel
theorem dX10_tell_31 : decode cX10_tell 31 = .ok (.iload_n 3, 1) := by decide +kernel
theorem dX10_tell_32 : decode cX10_tell 32 = .ok (.aload_n 0, 1) := by decide +kernel
theorem dX10_tell_33 : decode cX10_tell 33 = .ok (.getfield 12, 3) := by decide +kernel
theorem dX10_tell_36 : decode cX10_tell 36 = .ok (.invokevirtual 33, 3) := by decide +kernel
theorem dX10_tell_39 : decode cX10_tell 39 = .ok (.if_icmp .ge 77, 3) := by decide +kernel
theorem dX10_tell_42 : decode cX10_tell 42 = .ok (.aload_n 0, 1) := by decide +kernel
theorem dX10_tell_43 : decode cX10_tell 43 = .ok (.getfield 12, 3) := by decide +kernel
theorem dX10_tell_46 : decode cX10_tell 46 = .ok (.iload_n 3, 1) := by decide +kernel
theorem dX10_tell_47 : decode cX10_tell 47 = .ok (.invokevirtual 37, 3) := by decide +kernel
theorem dX10_tell_50 : decode cX10_tell 50 = .ok (.checkcast 41, 3) := by decide +kernel
theorem dX10_tell_53 : decode cX10_tell 53 = .ok (.astore 4, 2) := by decide +kernel
theorem dX10_tell_55 : decode cX10_tell 55 = .ok (.aload 4, 2) := by decide +kernel
theorem dX10_tell_57 : decode cX10_tell 57 = .ok (.invokevirtual 58, 3) := by decide +kernel
theorem dX10_tell_60 : decode cX10_tell 60 = .ok (.istore 5, 2) := by decide +kernel
theorem dX10_tell_62 : decode cX10_tell 62 = .ok (.iload_n 2, 1) := by decide +kernel
theorem dX10_tell_63 : decode cX10_tell 63 = .ok (.iload 5, 2) := by decide +kernel
theorem dX10_tell_65 : decode cX10_tell 65 = .ok (.iadd, 1) := by decide +kernel
theorem dX10_tell_66 : decode cX10_tell 66 = .ok (.aload_n 1, 1) := by decide +kernel
theorem dX10_tell_67 : decode cX10_tell 67 = .ok (.getfield 47, 3) := by decide +kernel
theorem dX10_tell_70 : decode cX10_tell 70 = .ok (.if_icmp .le 4, 3) := by decide +kernel
theorem dX10_tell_73 : decode cX10_tell 73 = .ok (.return_, 1) := by decide +kernel
theorem dX10_tell_74 : decode cX10_tell 74 = .ok (.iload 5, 2) := by decide +kernel
theorem dX10_tell_76 : decode cX10_tell 76 = .ok (.ifCond .le 29, 3) := by decide +kernel
theorem dX10_tell_79 : decode cX10_tell 79 = .ok (.aload 4, 2) := by decide +kernel
theorem dX10_tell_81 : decode cX10_tell 81 = .ok (.getfield 61, 3) := by decide +kernel
theorem dX10_tell_84 : decode cX10_tell 84 = .ok (.ifnull 21, 3) := by decide +kernel
theorem dX10_tell_87 : decode cX10_tell 87 = .ok (.aload 4, 2) := by decide +kernel
theorem dX10_tell_89 : decode cX10_tell 89 = .ok (.iload_n 2, 1) := by decide +kernel
theorem dX10_tell_90 : decode cX10_tell 90 = .ok (.iload 5, 2) := by decide +kernel
theorem dX10_tell_92 : decode cX10_tell 92 = .ok (.aload 4, 2) := by decide +kernel
theorem dX10_tell_94 : decode cX10_tell 94 = .ok (.getfield 61, 3) := by decide +kernel
theorem dX10_tell_97 : decode cX10_tell 97 = .ok (.aload_n 1, 1) := by decide +kernel
theorem dX10_tell_98 : decode cX10_tell 98 = .ok (.iload_n 2, 1) := by decide +kernel
theorem dX10_tell_99 : decode cX10_tell 99 = .ok (.invokevirtual 65, 3) := by decide +kernel
theorem dX10_tell_102 : decode cX10_tell 102 = .ok (.invokevirtual 71, 3) := by decide +kernel
theorem dX10_tell_105 : decode cX10_tell 105 = .ok (.iload_n 2, 1) := by decide +kernel
theorem dX10_tell_106 : decode cX10_tell 106 = .ok (.iload 5, 2) := by decide +kernel
theorem dX10_tell_108 : decode cX10_tell 108 = .ok (.iadd, 1) := by decide +kernel
theorem dX10_tell_109 : decode cX10_tell 109 = .ok (.istore_n 2, 1) := by decide +kernel
theorem dX10_tell_110 : decode cX10_tell 110 = .ok (.iinc 3 1, 3) := by decide +kernel
theorem dX10_tell_113 : decode cX10_tell 113 = .ok (.goto (-82), 3) := by decide +kernel
theorem dX10_tell_116 : decode cX10_tell 116 = .ok (.return_, 1) := by decide +kernel
theorem dX10_make_0 : decode cX10_make 0 = .ok (.aload_n 0, 1) := by decide +kernel
theorem dX10_make_1 : decode cX10_make 1 = .ok (.invokevirtual 44, 3) := by decide +kernel
theorem dX10_make_4 : decode cX10_make 4 = .ok (.aload_n 1, 1) := by decide +kernel
theorem dX10_make_5 : decode cX10_make 5 = .ok (.iconst 0, 1) := by decide +kernel
theorem dX10_make_6 : decode cX10_make 6 = .ok (.putfield 47, 3) := by decide +kernel
theorem dX10_make_9 : decode cX10_make 9 = .ok (.aload_n 1, 1) := by decide +kernel
theorem dX10_make_10 : decode cX10_make 10 = .ok (.aload_n 0, 1) := by decide +kernel
theorem dX10_make_11 : decode cX10_make 11 = .ok (.getfield 55, 3) := by decide +kernel
theorem dX10_make_14 : decode cX10_make 14 = .ok (.bipush 64, 2) := by decide +kernel
theorem dX10_make_16 : decode cX10_make 16 = .ok (.iadd, 1) := by decide +kernel
theorem dX10_make_17 : decode cX10_make 17 = .ok (.invokevirtual 75, 3) := by decide +kernel
theorem dX10_make_20 : decode cX10_make 20 = .ok (.iconst 0, 1) := by decide +kernel
theorem dX10_make_21 : decode cX10_make 21 = .ok (.istore_n 2, 1) := by decide +kernel
theorem dX10_make_22 : decode cX10_make 22 = .ok (.iload_n 2, 1) := by decide +kernel
theorem dX10_make_23 : decode cX10_make 23 = .ok (.aload_n 0, 1) := by decide +kernel
theorem dX10_make_24 : decode cX10_make 24 = .ok (.getfield 12, 3) := by decide +kernel
theorem dX10_make_27 : decode cX10_make 27 = .ok (.invokevirtual 33, 3) := by decide +kernel
theorem dX10_make_30 : decode cX10_make 30 = .ok (.if_icmp .ge 59, 3) := by decide +kernel
theorem dX10_make_33 : decode cX10_make 33 = .ok (.aload_n 0, 1) := by decide +kernel
theorem dX10_make_34 : decode cX10_make 34 = .ok (.getfield 12, 3) := by decide +kernel
theorem dX10_make_37 : decode cX10_make 37 = .ok (.iload_n 2, 1) := by decide +kernel
theorem dX10_make_38 : decode cX10_make 38 = .ok (.invokevirtual 37, 3) := by decide +kernel
theorem dX10_make_41 : decode cX10_make 41 = .ok (.checkcast 41, 3) := by decide +kernel
theorem dX10_make_44 : decode cX10_make 44 = .ok (.astore_n 3, 1) := by decide +kernel
theorem dX10_make_45 : decode cX10_make 45 = .ok (.aload_n 3, 1) := by decide +kernel
theorem dX10_make_46 : decode cX10_make 46 = .ok (.invokevirtual 58, 3) := by decide +kernel
theorem dX10_make_49 : decode cX10_make 49 = .ok (.istore 4, 2) := by decide +kernel
theorem dX10_make_51 : decode cX10_make 51 = .ok (.aload_n 1, 1) := by decide +kernel
theorem dX10_make_52 : decode cX10_make 52 = .ok (.getfield 47, 3) := by decide +kernel
theorem dX10_make_55 : decode cX10_make 55 = .ok (.iload 4, 2) := by decide +kernel
theorem dX10_make_57 : decode cX10_make 57 = .ok (.iadd, 1) := by decide +kernel
theorem dX10_make_58 : decode cX10_make 58 = .ok (.bipush 64, 2) := by decide +kernel
theorem dX10_make_60 : decode cX10_make 60 = .ok (.if_icmp .le 4, 3) := by decide +kernel
theorem dX10_make_63 : decode cX10_make 63 = .ok (.return_, 1) := by decide +kernel
theorem dX10_make_64 : decode cX10_make 64 = .ok (.aload_n 3, 1) := by decide +kernel
theorem dX10_make_65 : decode cX10_make 65 = .ok (.aload_n 1, 1) := by decide +kernel
theorem dX10_make_66 : decode cX10_make 66 = .ok (.getfield 47, 3) := by decide +kernel
theorem dX10_make_69 : decode cX10_make 69 = .ok (.iload 4, 2) := by decide +kernel
theorem dX10_make_71 : decode cX10_make 71 = .ok (.aload_n 3, 1) := by decide +kernel
theorem dX10_make_72 : decode cX10_make 72 = .ok (.getfield 79, 3) := by decide +kernel
theorem dX10_make_75 : decode cX10_make 75 = .ok (.invokevirtual 71, 3) := by decide +kernel
theorem dX10_make_78 : decode cX10_make 78 = .ok (.aload_n 3, 1) := by decide +kernel
theorem dX10_make_79 : decode cX10_make 79 = .ok (.aload_n 1, 1) := by decide +kernel
theorem dX10_make_80 : decode cX10_make 80 = .ok (.invokevirtual 82, 3) := by decide +kernel
theorem dX10_make_83 : decode cX10_make 83 = .ok (.iinc 2 1, 3) := by decide +kernel
theorem dX10_make_86 : decode cX10_make 86 = .ok (.goto (-64), 3) := by decide +kernel
theorem dX10_make_89 : decode cX10_make 89 = .ok (.return_, 1) := by decide +kernel
theorem dX10_forget_0 : decode cX10_forget 0 = .ok (.iconst 0, 1) := by decide +kernel
theorem dX10_forget_1 : decode cX10_forget 1 = .ok (.istore_n 1, 1) := by decide +kernel
theorem dX10_forget_2 : decode cX10_forget 2 = .ok (.iload_n 1, 1) := by decide +kernel
theorem dX10_forget_3 : decode cX10_forget 3 = .ok (.aload_n 0, 1) := by decide +kernel
theorem dX10_forget_4 : decode cX10_forget 4 = .ok (.getfield 12, 3) := by decide +kernel
theorem dX10_forget_7 : decode cX10_forget 7 = .ok (.invokevirtual 33, 3) := by decide +kernel
theorem dX10_forget_10 : decode cX10_forget 10 = .ok (.if_icmp .ge 26, 3) := by decide +kernel
theorem dX10_forget_13 : decode cX10_forget 13 = .ok (.aload_n 0, 1) := by decide +kernel
theorem dX10_forget_14 : decode cX10_forget 14 = .ok (.getfield 12, 3) := by decide +kernel
theorem dX10_forget_17 : decode cX10_forget 17 = .ok (.iload_n 1, 1) := by decide +kernel
theorem dX10_forget_18 : decode cX10_forget 18 = .ok (.invokevirtual 37, 3) := by decide +kernel
theorem dX10_forget_21 : decode cX10_forget 21 = .ok (.checkcast 41, 3) := by decide +kernel
theorem dX10_forget_24 : decode cX10_forget 24 = .ok (.iconst 0, 1) := by decide +kernel
theorem dX10_forget_25 : decode cX10_forget 25 = .ok (.iconst 0, 1) := by decide +kernel
theorem dX10_forget_26 : decode cX10_forget 26 = .ok (.lconst 0, 1) := by decide +kernel
theorem dX10_forget_27 : decode cX10_forget 27 = .ok (.invokevirtual 71, 3) := by decide +kernel
theorem dX10_forget_30 : decode cX10_forget 30 = .ok (.iinc 1 1, 3) := by decide +kernel
theorem dX10_forget_33 : decode cX10_forget 33 = .ok (.goto (-31), 3) := by decide +kernel
theorem dX10_forget_36 : decode cX10_forget 36 = .ok (.return_, 1) := by decide +kernel
theorem dX10_isLike_0 : decode cX10_isLike 0 = .ok (.aload_n 0, 1) := by decide +kernel
theorem dX10_isLike_1 : decode cX10_isLike 1 = .ok (.getfield 29, 3) := by decide +kernel
theorem dX10_isLike_4 : decode cX10_isLike 4 = .ok (.aload_n 1, 1) := by decide +kernel
theorem dX10_isLike_5 : decode cX10_isLike 5 = .ok (.getfield 29, 3) := by decide +kernel
theorem dX10_isLike_8 : decode cX10_isLike 8 = .ok (.lcmp, 1) := by decide +kernel
theorem dX10_isLike_9 : decode cX10_isLike 9 = .ok (.ifCond .ne 53, 3) := by decide +kernel
theorem dX10_isLike_12 : decode cX10_isLike 12 = .ok (.aload_n 0, 1) := by decide +kernel
theorem dX10_isLike_13 : decode cX10_isLike 13 = .ok (.getfield 55, 3) := by decide +kernel
theorem dX10_isLike_16 : decode cX10_isLike 16 = .ok (.aload_n 1, 1) := by decide +kernel
theorem dX10_isLike_17 : decode cX10_isLike 17 = .ok (.getfield 55, 3) := by decide +kernel
theorem dX10_isLike_20 : decode cX10_isLike 20 = .ok (.if_icmp .ne 42, 3) := by decide +kernel
theorem dX10_isLike_23 : decode cX10_isLike 23 = .ok (.aload_n 0, 1) := by decide +kernel
theorem dX10_isLike_24 : decode cX10_isLike 24 = .ok (.getfield 22, 3) := by decide +kernel
theorem dX10_isLike_27 : decode cX10_isLike 27 = .ok (.getfield 86, 3) := by decide +kernel
theorem dX10_isLike_30 : decode cX10_isLike 30 = .ok (.aload_n 1, 1) := by decide +kernel
theorem dX10_isLike_31 : decode cX10_isLike 31 = .ok (.getfield 22, 3) := by decide +kernel
theorem dX10_isLike_34 : decode cX10_isLike 34 = .ok (.getfield 86, 3) := by decide +kernel
theorem dX10_isLike_37 : decode cX10_isLike 37 = .ok (.lcmp, 1) := by decide +kernel
theorem dX10_isLike_38 : decode cX10_isLike 38 = .ok (.ifCond .ne 24, 3) := by decide +kernel
theorem dX10_isLike_41 : decode cX10_isLike 41 = .ok (.aload_n 0, 1) := by decide +kernel
theorem dX10_isLike_42 : decode cX10_isLike 42 = .ok (.getfield 12, 3) := by decide +kernel
theorem dX10_isLike_45 : decode cX10_isLike 45 = .ok (.invokevirtual 33, 3) := by decide +kernel
theorem dX10_isLike_48 : decode cX10_isLike 48 = .ok (.aload_n 1, 1) := by decide +kernel
theorem dX10_isLike_49 : decode cX10_isLike 49 = .ok (.getfield 12, 3) := by decide +kernel
theorem dX10_isLike_52 : decode cX10_isLike 52 = .ok (.invokevirtual 33, 3) := by decide +kernel
theorem dX10_isLike_55 : decode cX10_isLike 55 = .ok (.if_icmp .ne 7, 3) := by decide +kernel
theorem dX10_isLike_58 : decode cX10_isLike 58 = .ok (.iconst 1, 1) := by decide +kernel
theorem dX10_isLike_59 : decode cX10_isLike 59 = .ok (.goto 4, 3) := by decide +kernel
theorem dX10_isLike_62 : decode cX10_isLike 62 = .ok (.iconst 0, 1) := by decide +kernel
theorem dX10_isLike_63 : decode cX10_isLike 63 = .ok (.istore_n 2, 1) := by decide +kernel
theorem dX10_isLike_64 : decode cX10_isLike 64 = .ok (.iconst 0, 1) := by decide +kernel
theorem dX10_isLike_65 : decode cX10_isLike 65 = .ok (.istore_n 3, 1) := by decide +kernel
theorem dX10_isLike_66 : decode cX10_isLike 66 = .ok (.iload_n 2, 1) := by decide +kernel
theorem dX10_isLike_67 : decode cX10_isLike 67 = .ok (.ifCond .eq 57, 3) := by decide +kernel
theorem dX10_isLike_70 : decode cX10_isLike 70 = .ok (.iload_n 3, 1) := by decide +kernel
theorem dX10_isLike_71 : decode cX10_isLike 71 = .ok (.aload_n 0, 1) := by decide +kernel
theorem dX10_isLike_72 : decode cX10_isLike 72 = .ok (.getfield 12, 3) := by decide +kernel
theorem dX10_isLike_75 : decode cX10_isLike 75 = .ok (.invokevirtual 33, 3) := by decide +kernel
theorem dX10_isLike_78 : decode cX10_isLike 78 = .ok (.if_icmp .ge 46, 3) := by decide +kernel
theorem dX10_isLike_81 : decode cX10_isLike 81 = .ok (.iload_n 3, 1) := by decide +kernel
theorem dX10_isLike_82 : decode cX10_isLike 82 = .ok (.aload_n 1, 1) := by decide +kernel
theorem dX10_isLike_83 : decode cX10_isLike 83 = .ok (.getfield 12, 3) := by decide +kernel
theorem dX10_isLike_86 : decode cX10_isLike 86 = .ok (.invokevirtual 33, 3) := by decide +kernel
theorem dX10_isLike_89 : decode cX10_isLike 89 = .ok (.if_icmp .ge 35, 3) := by decide +kernel
theorem dX10_isLike_92 : decode cX10_isLike 92 = .ok (.aload_n 0, 1) := by decide +kernel
theorem dX10_isLike_93 : decode cX10_isLike 93 = .ok (.getfield 12, 3) := by decide +kernel
theorem dX10_isLike_96 : decode cX10_isLike 96 = .ok (.iload_n 3, 1) := by decide +kernel
theorem dX10_isLike_97 : decode cX10_isLike 97 = .ok (.invokevirtual 37, 3) := by decide +kernel
theorem dX10_isLike_100 : decode cX10_isLike 100 = .ok (.checkcast 41, 3) := by decide +kernel
theorem dX10_isLike_103 : decode cX10_isLike 103 = .ok (.aload_n 1, 1) := by decide +kernel
theorem dX10_isLike_104 : decode cX10_isLike 104 = .ok (.getfield 12, 3) := by decide +kernel
theorem dX10_isLike_107 : decode cX10_isLike 107 = .ok (.iload_n 3, 1) := by decide +kernel
theorem dX10_isLike_108 : decode cX10_isLike 108 = .ok (.invokevirtual 37, 3) := by decide +kernel
theorem dX10_isLike_111 : decode cX10_isLike 111 = .ok (.checkcast 41, 3) := by decide +kernel
theorem dX10_isLike_114 : decode cX10_isLike 114 = .ok (.invokevirtual 89, 3) := by decide +kernel
theorem dX10_isLike_117 : decode cX10_isLike 117 = .ok (.istore_n 2, 1) := by decide +kernel
theorem dX10_isLike_118 : decode cX10_isLike 118 = .ok (.iinc 3 1, 3) := by decide +kernel
theorem dX10_isLike_121 : decode cX10_isLike 121 = .ok (.goto (-55), 3) := by decide +kernel
theorem dX10_isLike_124 : decode cX10_isLike 124 = .ok (.iload_n 2, 1) := by decide +kernel
theorem dX10_isLike_125 : decode cX10_isLike 125 = .ok (.ireturn, 1) := by decide +kernel
theorem dX11_standing_0 : decode cX11_standing 0 = .ok (.iconst 0, 1) := by decide +kernel
theorem dX11_standing_1 : decode cX11_standing 1 = .ok (.istore_n 3, 1) := by decide +kernel
theorem dX11_standing_2 : decode cX11_standing 2 = .ok (.iload_n 3, 1) := by decide +kernel
theorem dX11_standing_3 : decode cX11_standing 3 = .ok (.getstatic 142, 3) := by decide +kernel
theorem dX11_standing_6 : decode cX11_standing 6 = .ok (.arraylength, 1) := by decide +kernel
theorem dX11_standing_7 : decode cX11_standing 7 = .ok (.if_icmp .ge 29, 3) := by decide +kernel
theorem dX11_standing_10 : decode cX11_standing 10 = .ok (.getstatic 142, 3) := by decide +kernel
theorem dX11_standing_13 : decode cX11_standing 13 = .ok (.iload_n 3, 1) := by decide +kernel
theorem dX11_standing_14 : decode cX11_standing 14 = .ok (.aaload, 1) := by decide +kernel
theorem dX11_standing_15 : decode cX11_standing 15 = .ok (.aload_n 0, 1) := by decide +kernel
theorem dX11_standing_16 : decode cX11_standing 16 = .ok (.iload_n 1, 1) := by decide +kernel
theorem dX11_standing_17 : decode cX11_standing 17 = .ok (.iload_n 2, 1) := by decide +kernel
theorem dX11_standing_18 : decode cX11_standing 18 = .ok (.invokevirtual 145, 3) := by decide +kernel
theorem dX11_standing_21 : decode cX11_standing 21 = .ok (.ifCond .eq 9, 3) := by decide +kernel
theorem dX11_standing_24 : decode cX11_standing 24 = .ok (.getstatic 142, 3) := by decide +kernel
theorem dX11_standing_27 : decode cX11_standing 27 = .ok (.iload_n 3, 1) := by decide +kernel
theorem dX11_standing_28 : decode cX11_standing 28 = .ok (.aaload, 1) := by decide +kernel
theorem dX11_standing_29 : decode cX11_standing 29 = .ok (.areturn, 1) := by decide +kernel
theorem dX11_standing_30 : decode cX11_standing 30 = .ok (.iinc 3 1, 3) := by decide +kernel
theorem dX11_standing_33 : decode cX11_standing 33 = .ok (.goto (-31), 3) := by decide +kernel
theorem dX11_standing_36 : decode cX11_standing 36 = .ok (.aconst_null, 1) := by decide +kernel
theorem dX11_standing_37 : decode cX11_standing 37 = .ok (.areturn, 1) := by decide +kernel
theorem dX11_stands_0 : decode cX11_stands 0 = .ok (.aload_n 0, 1) := by decide +kernel
theorem dX11_stands_1 : decode cX11_stands 1 = .ok (.getfield 131, 3) := by decide +kernel
theorem dX11_stands_4 : decode cX11_stands 4 = .ok (.invokevirtual 149, 3) := by decide +kernel
theorem dX11_stands_7 : decode cX11_stands 7 = .ok (.istore 4, 2) := by decide +kernel
theorem dX11_stands_9 : decode cX11_stands 9 = .ok (.iload_n 3, 1) := by decide +kernel
theorem dX11_stands_10 : decode cX11_stands 10 = .ok (.iload_n 2, 1) := by decide +kernel
theorem dX11_stands_11 : decode cX11_stands 11 = .ok (.isub, 1) := by decide +kernel
theorem dX11_stands_12 : decode cX11_stands 12 = .ok (.iload 4, 2) := by decide +kernel
theorem dX11_stands_14 : decode cX11_stands 14 = .ok (.if_icmp .ne 18, 3) := by decide +kernel
theorem dX11_stands_17 : decode cX11_stands 17 = .ok (.iload 4, 2) := by decide +kernel
theorem dX11_stands_19 : decode cX11_stands 19 = .ok (.ifCond .eq 13, 3) := by decide +kernel
theorem dX11_stands_22 : decode cX11_stands 22 = .ok (.iload_n 2, 1) := by decide +kernel
theorem dX11_stands_23 : decode cX11_stands 23 = .ok (.ifCond .lt 9, 3) := by decide +kernel
theorem dX11_stands_26 : decode cX11_stands 26 = .ok (.iload_n 3, 1) := by decide +kernel
theorem dX11_stands_27 : decode cX11_stands 27 = .ok (.aload_n 1, 1) := by decide +kernel
theorem dX11_stands_28 : decode cX11_stands 28 = .ok (.arraylength, 1) := by decide +kernel
theorem dX11_stands_29 : decode cX11_stands 29 = .ok (.if_icmp .le 5, 3) := by decide +kernel
theorem dX11_stands_32 : decode cX11_stands 32 = .ok (.iconst 0, 1) := by decide +kernel
theorem dX11_stands_33 : decode cX11_stands 33 = .ok (.ireturn, 1) := by decide +kernel
theorem dX11_stands_34 : decode cX11_stands 34 = .ok (.iconst 0, 1) := by decide +kernel
theorem dX11_stands_35 : decode cX11_stands 35 = .ok (.istore 5, 2) := by decide +kernel
theorem dX11_stands_37 : decode cX11_stands 37 = .ok (.iload 5, 2) := by decide +kernel
theorem dX11_stands_39 : decode cX11_stands 39 = .ok (.iload 4, 2) := by decide +kernel
theorem dX11_stands_41 : decode cX11_stands 41 = .ok (.if_icmp .ge 29, 3) := by decide +kernel
theorem dX11_stands_44 : decode cX11_stands 44 = .ok (.aload_n 1, 1) := by decide +kernel
theorem dX11_stands_45 : decode cX11_stands 45 = .ok (.iload_n 2, 1) := by decide +kernel
theorem dX11_stands_46 : decode cX11_stands 46 = .ok (.iload 5, 2) := by decide +kernel
theorem dX11_stands_48 : decode cX11_stands 48 = .ok (.iadd, 1) := by decide +kernel
theorem dX11_stands_49 : decode cX11_stands 49 = .ok (.baload, 1) := by decide +kernel
theorem dX11_stands_50 : decode cX11_stands 50 = .ok (.aload_n 0, 1) := by decide +kernel
theorem dX11_stands_51 : decode cX11_stands 51 = .ok (.getfield 131, 3) := by decide +kernel
theorem dX11_stands_54 : decode cX11_stands 54 = .ok (.iload 5, 2) := by decide +kernel
theorem dX11_stands_56 : decode cX11_stands 56 = .ok (.invokevirtual 155, 3) := by decide +kernel
theorem dX11_stands_59 : decode cX11_stands 59 = .ok (.if_icmp .eq 5, 3) := by decide +kernel
theorem dX11_stands_62 : decode cX11_stands 62 = .ok (.iconst 0, 1) := by decide +kernel
theorem dX11_stands_63 : decode cX11_stands 63 = .ok (.ireturn, 1) := by decide +kernel
theorem dX11_stands_64 : decode cX11_stands 64 = .ok (.iinc 5 1, 3) := by decide +kernel
theorem dX11_stands_67 : decode cX11_stands 67 = .ok (.goto (-30), 3) := by decide +kernel
theorem dX11_stands_70 : decode cX11_stands 70 = .ok (.iconst 1, 1) := by decide +kernel
theorem dX11_stands_71 : decode cX11_stands 71 = .ok (.ireturn, 1) := by decide +kernel
theorem dX11_isOp_0 : decode cX11_isOp 0 = .ok (.aload_n 0, 1) := by decide +kernel
theorem dX11_isOp_1 : decode cX11_isOp 1 = .ok (.getfield 135, 3) := by decide +kernel
theorem dX11_isOp_4 : decode cX11_isOp 4 = .ok (.aload_n 0, 1) := by decide +kernel
theorem dX11_isOp_5 : decode cX11_isOp 5 = .ok (.getfield 139, 3) := by decide +kernel
theorem dX11_isOp_8 : decode cX11_isOp 8 = .ok (.iadd, 1) := by decide +kernel
theorem dX11_isOp_9 : decode cX11_isOp 9 = .ok (.ifCond .le 7, 3) := by decide +kernel
theorem dX11_isOp_12 : decode cX11_isOp 12 = .ok (.iconst 1, 1) := by decide +kernel
theorem dX11_isOp_13 : decode cX11_isOp 13 = .ok (.goto 4, 3) := by decide +kernel
theorem dX11_isOp_16 : decode cX11_isOp 16 = .ok (.iconst 0, 1) := by decide +kernel
theorem dX11_isOp_17 : decode cX11_isOp 17 = .ok (.ireturn, 1) := by decide +kernel
theorem dX12_init_0 : decode cX12_init 0 = .ok (.aload_n 0, 1) := by decide +kernel
theorem dX12_init_1 : decode cX12_init 1 = .ok (.invokespecial 3, 3) := by decide +kernel
theorem dX12_init_4 : decode cX12_init 4 = .ok (.aload_n 0, 1) := by decide +kernel
theorem dX12_init_5 : decode cX12_init 5 = .ok (.sipush 2001, 3) := by decide +kernel
theorem dX12_init_8 : decode cX12_init 8 = .ok (.anewarray 9, 3) := by decide +kernel
theorem dX12_init_11 : decode cX12_init 11 = .ok (.putfield 11, 3) := by decide +kernel
theorem dX12_init_14 : decode cX12_init 14 = .ok (.aload_n 0, 1) := by decide +kernel
theorem dX12_init_15 : decode cX12_init 15 = .ok (.sipush 2001, 3) := by decide +kernel
theorem dX12_init_18 : decode cX12_init 18 = .ok (.newarray .int, 2) := by decide +kernel
theorem dX12_init_20 : decode cX12_init 20 = .ok (.putfield 17, 3) := by decide +kernel
theorem dX12_init_23 : decode cX12_init 23 = .ok (.aload_n 0, 1) := by decide +kernel
theorem dX12_init_24 : decode cX12_init 24 = .ok (.sipush 2001, 3) := by decide +kernel
theorem dX12_init_27 : decode cX12_init 27 = .ok (.newarray .long, 2) := by decide +kernel
theorem dX12_init_29 : decode cX12_init 29 = .ok (.putfield 21, 3) := by decide +kernel
theorem dX12_init_32 : decode cX12_init 32 = .ok (.return_, 1) := by decide +kernel
theorem dX12_cut_0 : decode cX12_cut 0 = .ok (.aload_n 0, 1) := by decide +kernel
theorem dX12_cut_1 : decode cX12_cut 1 = .ok (.iconst 0, 1) := by decide +kernel
theorem dX12_cut_2 : decode cX12_cut 2 = .ok (.putfield 25, 3) := by decide +kernel
theorem dX12_cut_5 : decode cX12_cut 5 = .ok (.iload_n 2, 1) := by decide +kernel
theorem dX12_cut_6 : decode cX12_cut 6 = .ok (.aload_n 1, 1) := by decide +kernel
theorem dX12_cut_7 : decode cX12_cut 7 = .ok (.arraylength, 1) := by decide +kernel
theorem dX12_cut_8 : decode cX12_cut 8 = .ok (.invokestatic 29, 3) := by decide +kernel
theorem dX12_cut_11 : decode cX12_cut 11 = .ok (.istore_n 3, 1) := by decide +kernel
theorem dX12_cut_12 : decode cX12_cut 12 = .ok (.iconst 0, 1) := by decide +kernel
theorem dX12_cut_13 : decode cX12_cut 13 = .ok (.istore 4, 2) := by decide +kernel
theorem dX12_cut_15 : decode cX12_cut 15 = .ok (.iconst 0, 1) := by decide +kernel
theorem dX12_cut_16 : decode cX12_cut 16 = .ok (.istore 5, 2) := by decide +kernel
theorem dX12_cut_18 : decode cX12_cut 18 = .ok (.iload 5, 2) := by decide +kernel
theorem dX12_cut_20 : decode cX12_cut 20 = .ok (.iload_n 3, 1) := by decide +kernel
theorem dX12_cut_21 : decode cX12_cut 21 = .ok (.if_icmp .ge 42, 3) := by decide +kernel
theorem dX12_cut_24 : decode cX12_cut 24 = .ok (.iload 4, 2) := by decide +kernel
theorem dX12_cut_26 : decode cX12_cut 26 = .ok (.iload_n 3, 1) := by decide +kernel
theorem dX12_cut_27 : decode cX12_cut 27 = .ok (.if_icmp .ge 36, 3) := by decide +kernel
theorem dX12_cut_30 : decode cX12_cut 30 = .ok (.aload_n 1, 1) := by decide +kernel
theorem dX12_cut_31 : decode cX12_cut 31 = .ok (.iload 4, 2) := by decide +kernel
theorem dX12_cut_33 : decode cX12_cut 33 = .ok (.baload, 1) := by decide +kernel
theorem dX12_cut_34 : decode cX12_cut 34 = .ok (.invokestatic 35, 3) := by decide +kernel
theorem dX12_cut_37 : decode cX12_cut 37 = .ok (.ifCond .eq 10, 3) := by decide +kernel
theorem dX12_cut_40 : decode cX12_cut 40 = .ok (.iload 4, 2) := by decide +kernel
theorem dX12_cut_42 : decode cX12_cut 42 = .ok (.iconst 1, 1) := by decide +kernel
theorem dX12_cut_43 : decode cX12_cut 43 = .ok (.iadd, 1) := by decide +kernel
theorem dX12_cut_44 : decode cX12_cut 44 = .ok (.goto 11, 3) := by decide +kernel
theorem dX12_cut_47 : decode cX12_cut 47 = .ok (.aload_n 0, 1) := by decide +kernel
theorem dX12_cut_48 : decode cX12_cut 48 = .ok (.aload_n 1, 1) := by decide +kernel
theorem dX12_cut_49 : decode cX12_cut 49 = .ok (.iload 4, 2) := by decide +kernel
theorem dX12_cut_51 : decode cX12_cut 51 = .ok (.iload_n 3, 1) := by decide +kernel
theorem dX12_cut_52 : decode cX12_cut 52 = .ok (.invokevirtual 39, 3) := by decide +kernel
theorem dX12_cut_55 : decode cX12_cut 55 = .ok (.istore 4, 2) := by decide +kernel
theorem dX12_cut_57 : decode cX12_cut 57 = .ok (.iinc 5 1, 3) := by decide +kernel
theorem dX12_cut_60 : decode cX12_cut 60 = .ok (.goto (-42), 3) := by decide +kernel
theorem dX12_cut_63 : decode cX12_cut 63 = .ok (.aload_n 0, 1) := by decide +kernel
theorem dX12_cut_64 : decode cX12_cut 64 = .ok (.getstatic 43, 3) := by decide +kernel
theorem dX12_cut_67 : decode cX12_cut 67 = .ok (.iload_n 3, 1) := by decide +kernel
theorem dX12_cut_68 : decode cX12_cut 68 = .ok (.lconst 0, 1) := by decide +kernel
theorem dX12_cut_69 : decode cX12_cut 69 = .ok (.invokevirtual 47, 3) := by decide +kernel
theorem dX12_cut_72 : decode cX12_cut 72 = .ok (.return_, 1) := by decide +kernel
theorem dX12_kind_0 : decode cX12_kind 0 = .ok (.iload_n 1, 1) := by decide +kernel
theorem dX12_kind_1 : decode cX12_kind 1 = .ok (.ifCond .lt 20, 3) := by decide +kernel
theorem dX12_kind_4 : decode cX12_kind 4 = .ok (.iload_n 1, 1) := by decide +kernel
theorem dX12_kind_5 : decode cX12_kind 5 = .ok (.aload_n 0, 1) := by decide +kernel
theorem dX12_kind_6 : decode cX12_kind 6 = .ok (.getfield 25, 3) := by decide +kernel
theorem dX12_kind_9 : decode cX12_kind 9 = .ok (.if_icmp .ge 12, 3) := by decide +kernel
theorem dX12_kind_12 : decode cX12_kind 12 = .ok (.iload_n 1, 1) := by decide +kernel
theorem dX12_kind_13 : decode cX12_kind 13 = .ok (.aload_n 0, 1) := by decide +kernel
theorem dX12_kind_14 : decode cX12_kind 14 = .ok (.getfield 11, 3) := by decide +kernel
theorem dX12_kind_17 : decode cX12_kind 17 = .ok (.arraylength, 1) := by decide +kernel
theorem dX12_kind_18 : decode cX12_kind 18 = .ok (.if_icmp .lt 7, 3) := by decide +kernel
theorem dX12_kind_21 : decode cX12_kind 21 = .ok (.getstatic 51, 3) := by decide +kernel
theorem dX12_kind_24 : decode cX12_kind 24 = .ok (.areturn, 1) := by decide +kernel
theorem dX12_kind_25 : decode cX12_kind 25 = .ok (.aload_n 0, 1) := by decide +kernel
theorem dX12_kind_26 : decode cX12_kind 26 = .ok (.getfield 11, 3) := by decide +kernel
theorem dX12_kind_29 : decode cX12_kind 29 = .ok (.iload_n 1, 1) := by decide +kernel
theorem dX12_kind_30 : decode cX12_kind 30 = .ok (.aaload, 1) := by decide +kernel
theorem dX12_kind_31 : decode cX12_kind 31 = .ok (.astore_n 2, 1) := by decide +kernel
theorem dX12_kind_32 : decode cX12_kind 32 = .ok (.aload_n 2, 1) := by decide +kernel
theorem dX12_kind_33 : decode cX12_kind 33 = .ok (.ifnonnull 9, 3) := by decide +kernel
theorem dX12_kind_36 : decode cX12_kind 36 = .ok (.getstatic 51, 3) := by decide +kernel
theorem dX12_kind_39 : decode cX12_kind 39 = .ok (.goto 4, 3) := by decide +kernel
theorem dX12_kind_42 : decode cX12_kind 42 = .ok (.aload_n 2, 1) := by decide +kernel
theorem dX12_kind_43 : decode cX12_kind 43 = .ok (.areturn, 1) := by decide +kernel
theorem dX12_start_0 : decode cX12_start 0 = .ok (.iload_n 1, 1) := by decide +kernel
theorem dX12_start_1 : decode cX12_start 1 = .ok (.ifCond .lt 20, 3) := by decide +kernel
theorem dX12_start_4 : decode cX12_start 4 = .ok (.iload_n 1, 1) := by decide +kernel
theorem dX12_start_5 : decode cX12_start 5 = .ok (.aload_n 0, 1) := by decide +kernel
theorem dX12_start_6 : decode cX12_start 6 = .ok (.getfield 25, 3) := by decide +kernel
theorem dX12_start_9 : decode cX12_start 9 = .ok (.if_icmp .ge 12, 3) := by decide +kernel
theorem dX12_start_12 : decode cX12_start 12 = .ok (.iload_n 1, 1) := by decide +kernel
theorem dX12_start_13 : decode cX12_start 13 = .ok (.aload_n 0, 1) := by decide +kernel
theorem dX12_start_14 : decode cX12_start 14 = .ok (.getfield 17, 3) := by decide +kernel
theorem dX12_start_17 : decode cX12_start 17 = .ok (.arraylength, 1) := by decide +kernel
theorem dX12_start_18 : decode cX12_start 18 = .ok (.if_icmp .lt 7, 3) := by decide +kernel
theorem dX12_start_21 : decode cX12_start 21 = .ok (.iconst 0, 1) := by decide +kernel
theorem dX12_start_22 : decode cX12_start 22 = .ok (.goto 9, 3) := by decide +kernel
theorem dX12_start_25 : decode cX12_start 25 = .ok (.aload_n 0, 1) := by decide +kernel
theorem dX12_start_26 : decode cX12_start 26 = .ok (.getfield 17, 3) := by decide +kernel
theorem dX12_start_29 : decode cX12_start 29 = .ok (.iload_n 1, 1) := by decide +kernel
theorem dX12_start_30 : decode cX12_start 30 = .ok (.iaload, 1) := by decide +kernel
theorem dX12_start_31 : decode cX12_start 31 = .ok (.ireturn, 1) := by decide +kernel
theorem dX12_value_0 : decode cX12_value 0 = .ok (.iload_n 1, 1) := by decide +kernel
theorem dX12_value_1 : decode cX12_value 1 = .ok (.ifCond .lt 20, 3) := by decide +kernel
theorem dX12_value_4 : decode cX12_value 4 = .ok (.iload_n 1, 1) := by decide +kernel
theorem dX12_value_5 : decode cX12_value 5 = .ok (.aload_n 0, 1) := by decide +kernel
theorem dX12_value_6 : decode cX12_value 6 = .ok (.getfield 25, 3) := by decide +kernel
theorem dX12_value_9 : decode cX12_value 9 = .ok (.if_icmp .ge 12, 3) := by decide +kernel
theorem dX12_value_12 : decode cX12_value 12 = .ok (.iload_n 1, 1) := by decide +kernel
theorem dX12_value_13 : decode cX12_value 13 = .ok (.aload_n 0, 1) := by decide +kernel
theorem dX12_value_14 : decode cX12_value 14 = .ok (.getfield 21, 3) := by decide +kernel
theorem dX12_value_17 : decode cX12_value 17 = .ok (.arraylength, 1) := by decide +kernel
theorem dX12_value_18 : decode cX12_value 18 = .ok (.if_icmp .lt 7, 3) := by decide +kernel
theorem dX12_value_21 : decode cX12_value 21 = .ok (.lconst 0, 1) := by decide +kernel
theorem dX12_value_22 : decode cX12_value 22 = .ok (.goto 9, 3) := by decide +kernel
theorem dX12_value_25 : decode cX12_value 25 = .ok (.aload_n 0, 1) := by decide +kernel
theorem dX12_value_26 : decode cX12_value 26 = .ok (.getfield 21, 3) := by decide +kernel
theorem dX12_value_29 : decode cX12_value 29 = .ok (.iload_n 1, 1) := by decide +kernel
theorem dX12_value_30 : decode cX12_value 30 = .ok (.laload, 1) := by decide +kernel
theorem dX12_value_31 : decode cX12_value 31 = .ok (.lreturn, 1) := by decide +kernel
theorem dX12_cutOne_0 : decode cX12_cutOne 0 = .ok (.aload_n 1, 1) := by decide +kernel
theorem dX12_cutOne_1 : decode cX12_cutOne 1 = .ok (.iload_n 2, 1) := by decide +kernel
theorem dX12_cutOne_2 : decode cX12_cutOne 2 = .ok (.baload, 1) := by decide +kernel
theorem dX12_cutOne_3 : decode cX12_cutOne 3 = .ok (.invokestatic 54, 3) := by decide +kernel
theorem dX12_cutOne_6 : decode cX12_cutOne 6 = .ok (.ifCond .eq 11, 3) := by decide +kernel
theorem dX12_cutOne_9 : decode cX12_cutOne 9 = .ok (.aload_n 0, 1) := by decide +kernel
theorem dX12_cutOne_10 : decode cX12_cutOne 10 = .ok (.aload_n 1, 1) := by decide +kernel
theorem dX12_cutOne_11 : decode cX12_cutOne 11 = .ok (.iload_n 2, 1) := by decide +kernel
theorem dX12_cutOne_12 : decode cX12_cutOne 12 = .ok (.iload_n 3, 1) := by decide +kernel
theorem dX12_cutOne_13 : decode cX12_cutOne 13 = .ok (.invokevirtual 57, 3) := by decide +kernel
theorem dX12_cutOne_16 : decode cX12_cutOne 16 = .ok (.ireturn, 1) := by decide +kernel
theorem dX12_cutOne_17 : decode cX12_cutOne 17 = .ok (.aload_n 1, 1) := by decide +kernel
theorem dX12_cutOne_18 : decode cX12_cutOne 18 = .ok (.iload_n 2, 1) := by decide +kernel
theorem dX12_cutOne_19 : decode cX12_cutOne 19 = .ok (.baload, 1) := by decide +kernel
theorem dX12_cutOne_20 : decode cX12_cutOne 20 = .ok (.invokestatic 60, 3) := by decide +kernel
theorem dX12_cutOne_23 : decode cX12_cutOne 23 = .ok (.ifCond .eq 11, 3) := by decide +kernel
theorem dX12_cutOne_26 : decode cX12_cutOne 26 = .ok (.aload_n 0, 1) := by decide +kernel
theorem dX12_cutOne_27 : decode cX12_cutOne 27 = .ok (.aload_n 1, 1) := by decide +kernel
theorem dX12_cutOne_28 : decode cX12_cutOne 28 = .ok (.iload_n 2, 1) := by decide +kernel
theorem dX12_cutOne_29 : decode cX12_cutOne 29 = .ok (.iload_n 3, 1) := by decide +kernel
theorem dX12_cutOne_30 : decode cX12_cutOne 30 = .ok (.invokevirtual 63, 3) := by decide +kernel
theorem dX12_cutOne_33 : decode cX12_cutOne 33 = .ok (.ireturn, 1) := by decide +kernel
theorem dX12_cutOne_34 : decode cX12_cutOne 34 = .ok (.aload_n 1, 1) := by decide +kernel
theorem dX12_cutOne_35 : decode cX12_cutOne 35 = .ok (.iload_n 2, 1) := by decide +kernel
theorem dX12_cutOne_36 : decode cX12_cutOne 36 = .ok (.iload_n 2, 1) := by decide +kernel
theorem dX12_cutOne_37 : decode cX12_cutOne 37 = .ok (.iconst 1, 1) := by decide +kernel
theorem dX12_cutOne_38 : decode cX12_cutOne 38 = .ok (.iadd, 1) := by decide +kernel
theorem dX12_cutOne_39 : decode cX12_cutOne 39 = .ok (.invokestatic 66, 3) := by decide +kernel
theorem dX12_cutOne_42 : decode cX12_cutOne 42 = .ok (.astore 4, 2) := by decide +kernel
theorem dX12_cutOne_44 : decode cX12_cutOne 44 = .ok (.aload 4, 2) := by decide +kernel
theorem dX12_cutOne_46 : decode cX12_cutOne 46 = .ok (.ifnonnull 10, 3) := by decide +kernel
theorem dX12_cutOne_49 : decode cX12_cutOne 49 = .ok (.aload_n 0, 1) := by decide +kernel
theorem dX12_cutOne_50 : decode cX12_cutOne 50 = .ok (.iload_n 2, 1) := by decide +kernel
theorem dX12_cutOne_51 : decode cX12_cutOne 51 = .ok (.iload_n 3, 1) := by decide +kernel
theorem dX12_cutOne_52 : decode cX12_cutOne 52 = .ok (.invokevirtual 70, 3) := by decide +kernel
theorem dX12_cutOne_55 : decode cX12_cutOne 55 = .ok (.ireturn, 1) := by decide +kernel
theorem dX12_cutOne_56 : decode cX12_cutOne 56 = .ok (.aload_n 0, 1) := by decide +kernel
theorem dX12_cutOne_57 : decode cX12_cutOne 57 = .ok (.aload 4, 2) := by decide +kernel
theorem dX12_cutOne_59 : decode cX12_cutOne 59 = .ok (.iload_n 2, 1) := by decide +kernel
theorem dX12_cutOne_60 : decode cX12_cutOne 60 = .ok (.lconst 0, 1) := by decide +kernel
theorem dX12_cutOne_61 : decode cX12_cutOne 61 = .ok (.invokevirtual 47, 3) := by decide +kernel
theorem dX12_cutOne_64 : decode cX12_cutOne 64 = .ok (.iload_n 2, 1) := by decide +kernel
theorem dX12_cutOne_65 : decode cX12_cutOne 65 = .ok (.iconst 1, 1) := by decide +kernel
theorem dX12_cutOne_66 : decode cX12_cutOne 66 = .ok (.iadd, 1) := by decide +kernel
theorem dX12_cutOne_67 : decode cX12_cutOne 67 = .ok (.ireturn, 1) := by decide +kernel
theorem dX12_cutName_0 : decode cX12_cutName 0 = .ok (.lconst 0, 1) := by decide +kernel
theorem dX12_cutName_1 : decode cX12_cutName 1 = .ok (.lstore 4, 2) := by decide +kernel
theorem dX12_cutName_3 : decode cX12_cutName 3 = .ok (.iload_n 2, 1) := by decide +kernel
theorem dX12_cutName_4 : decode cX12_cutName 4 = .ok (.istore 6, 2) := by decide +kernel
theorem dX12_cutName_6 : decode cX12_cutName 6 = .ok (.iload 6, 2) := by decide +kernel
theorem dX12_cutName_8 : decode cX12_cutName 8 = .ok (.iload_n 3, 1) := by decide +kernel
theorem dX12_cutName_9 : decode cX12_cutName 9 = .ok (.if_icmp .ge 92, 3) := by decide +kernel
theorem dX12_cutName_12 : decode cX12_cutName 12 = .ok (.aload_n 1, 1) := by decide +kernel
theorem dX12_cutName_13 : decode cX12_cutName 13 = .ok (.iload 6, 2) := by decide +kernel
theorem dX12_cutName_15 : decode cX12_cutName 15 = .ok (.baload, 1) := by decide +kernel
theorem dX12_cutName_16 : decode cX12_cutName 16 = .ok (.invokestatic 54, 3) := by decide +kernel
theorem dX12_cutName_19 : decode cX12_cutName 19 = .ok (.ifCond .ne 13, 3) := by decide +kernel
theorem dX12_cutName_22 : decode cX12_cutName 22 = .ok (.aload_n 1, 1) := by decide +kernel
theorem dX12_cutName_23 : decode cX12_cutName 23 = .ok (.iload 6, 2) := by decide +kernel
theorem dX12_cutName_25 : decode cX12_cutName 25 = .ok (.baload, 1) := by decide +kernel
theorem dX12_cutName_26 : decode cX12_cutName 26 = .ok (.invokestatic 60, 3) := by decide +kernel
theorem dX12_cutName_29 : decode cX12_cutName 29 = .ok (.ifCond .eq 72, 3) := by decide +kernel
theorem dX12_cutName_32 : decode cX12_cutName 32 = .ok (.iload 6, 2) := by decide +kernel
theorem dX12_cutName_34 : decode cX12_cutName 34 = .ok (.iload_n 2, 1) := by decide +kernel
theorem dX12_cutName_35 : decode cX12_cutName 35 = .ok (.isub, 1) := by decide +kernel
theorem dX12_cutName_36 : decode cX12_cutName 36 = .ok (.bipush 12, 2) := by decide +kernel
theorem dX12_cutName_38 : decode cX12_cutName 38 = .ok (.if_icmp .ne 11, 3) := by decide +kernel
theorem dX12_cutName_41 : decode cX12_cutName 41 = .ok (.aload_n 0, 1) := by decide +kernel
theorem dX12_cutName_42 : decode cX12_cutName 42 = .ok (.iload 6, 2) := by decide +kernel
theorem dX12_cutName_44 : decode cX12_cutName 44 = .ok (.iload_n 3, 1) := by decide +kernel
theorem dX12_cutName_45 : decode cX12_cutName 45 = .ok (.invokevirtual 70, 3) := by decide +kernel
theorem dX12_cutName_48 : decode cX12_cutName 48 = .ok (.ireturn, 1) := by decide +kernel
theorem dX12_cutName_49 : decode cX12_cutName 49 = .ok (.aload_n 1, 1) := by decide +kernel
theorem dX12_cutName_50 : decode cX12_cutName 50 = .ok (.iload 6, 2) := by decide +kernel
theorem dX12_cutName_52 : decode cX12_cutName 52 = .ok (.baload, 1) := by decide +kernel
theorem dX12_cutName_53 : decode cX12_cutName 53 = .ok (.invokestatic 54, 3) := by decide +kernel
theorem dX12_cutName_56 : decode cX12_cutName 56 = .ok (.ifCond .eq 15, 3) := by decide +kernel
theorem dX12_cutName_59 : decode cX12_cutName 59 = .ok (.aload_n 1, 1) := by decide +kernel
theorem dX12_cutName_60 : decode cX12_cutName 60 = .ok (.iload 6, 2) := by decide +kernel
theorem dX12_cutName_62 : decode cX12_cutName 62 = .ok (.baload, 1) := by decide +kernel
theorem dX12_cutName_63 : decode cX12_cutName 63 = .ok (.bipush 97, 2) := by decide +kernel
theorem dX12_cutName_65 : decode cX12_cutName 65 = .ok (.isub, 1) := by decide +kernel
theorem dX12_cutName_66 : decode cX12_cutName 66 = .ok (.iconst 1, 1) := by decide +kernel
theorem dX12_cutName_67 : decode cX12_cutName 67 = .ok (.iadd, 1) := by decide +kernel
theorem dX12_cutName_68 : decode cX12_cutName 68 = .ok (.goto 13, 3) := by decide +kernel
theorem dX12_cutName_71 : decode cX12_cutName 71 = .ok (.aload_n 1, 1) := by decide +kernel
theorem dX12_cutName_72 : decode cX12_cutName 72 = .ok (.iload 6, 2) := by decide +kernel
theorem dX12_cutName_74 : decode cX12_cutName 74 = .ok (.baload, 1) := by decide +kernel
theorem dX12_cutName_75 : decode cX12_cutName 75 = .ok (.bipush 48, 2) := by decide +kernel
theorem dX12_cutName_77 : decode cX12_cutName 77 = .ok (.isub, 1) := by decide +kernel
theorem dX12_cutName_78 : decode cX12_cutName 78 = .ok (.bipush 27, 2) := by decide +kernel
theorem dX12_cutName_80 : decode cX12_cutName 80 = .ok (.iadd, 1) := by decide +kernel
theorem dX12_cutName_81 : decode cX12_cutName 81 = .ok (.istore 7, 2) := by decide +kernel
theorem dX12_cutName_83 : decode cX12_cutName 83 = .ok (.lload 4, 2) := by decide +kernel
theorem dX12_cutName_85 : decode cX12_cutName 85 = .ok (.ldc2_w 73, 3) := by decide +kernel
theorem dX12_cutName_88 : decode cX12_cutName 88 = .ok (.lmul, 1) := by decide +kernel
theorem dX12_cutName_89 : decode cX12_cutName 89 = .ok (.iload 7, 2) := by decide +kernel
theorem dX12_cutName_91 : decode cX12_cutName 91 = .ok (.i2l, 1) := by decide +kernel
theorem dX12_cutName_92 : decode cX12_cutName 92 = .ok (.ladd, 1) := by decide +kernel
theorem dX12_cutName_93 : decode cX12_cutName 93 = .ok (.lstore 4, 2) := by decide +kernel
theorem dX12_cutName_95 : decode cX12_cutName 95 = .ok (.iinc 6 1, 3) := by decide +kernel
theorem dX12_cutName_98 : decode cX12_cutName 98 = .ok (.goto (-92), 3) := by decide +kernel
theorem dX12_cutName_101 : decode cX12_cutName 101 = .ok (.aload_n 1, 1) := by decide +kernel
theorem dX12_cutName_102 : decode cX12_cutName 102 = .ok (.iload_n 2, 1) := by decide +kernel
theorem dX12_cutName_103 : decode cX12_cutName 103 = .ok (.iload 6, 2) := by decide +kernel
theorem dX12_cutName_105 : decode cX12_cutName 105 = .ok (.invokestatic 66, 3) := by decide +kernel
theorem dX12_cutName_108 : decode cX12_cutName 108 = .ok (.astore 7, 2) := by decide +kernel
theorem dX12_cutName_110 : decode cX12_cutName 110 = .ok (.aload_n 0, 1) := by decide +kernel
theorem dX12_cutName_111 : decode cX12_cutName 111 = .ok (.aload 7, 2) := by decide +kernel
theorem dX12_cutName_113 : decode cX12_cutName 113 = .ok (.ifnonnull 9, 3) := by decide +kernel
theorem dX12_cutName_116 : decode cX12_cutName 116 = .ok (.getstatic 75, 3) := by decide +kernel
theorem dX12_cutName_119 : decode cX12_cutName 119 = .ok (.goto 5, 3) := by decide +kernel
theorem dX12_cutName_122 : decode cX12_cutName 122 = .ok (.aload 7, 2) := by decide +kernel
theorem dX12_cutName_124 : decode cX12_cutName 124 = .ok (.iload_n 2, 1) := by decide +kernel
theorem dX12_cutName_125 : decode cX12_cutName 125 = .ok (.lload 4, 2) := by decide +kernel
theorem dX12_cutName_127 : decode cX12_cutName 127 = .ok (.invokevirtual 47, 3) := by decide +kernel
theorem dX12_cutName_130 : decode cX12_cutName 130 = .ok (.iload 6, 2) := by decide +kernel
theorem dX12_cutName_132 : decode cX12_cutName 132 = .ok (.ireturn, 1) := by decide +kernel
theorem dX12_cutNumber_0 : decode cX12_cutNumber 0 = .ok (.lconst 0, 1) := by decide +kernel
theorem dX12_cutNumber_1 : decode cX12_cutNumber 1 = .ok (.lstore 4, 2) := by decide +kernel
theorem dX12_cutNumber_3 : decode cX12_cutNumber 3 = .ok (.iload_n 2, 1) := by decide +kernel
theorem dX12_cutNumber_4 : decode cX12_cutNumber 4 = .ok (.istore 6, 2) := by decide +kernel
theorem dX12_cutNumber_6 : decode cX12_cutNumber 6 = .ok (.iload 6, 2) := by decide +kernel
theorem dX12_cutNumber_8 : decode cX12_cutNumber 8 = .ok (.iload_n 3, 1) := by decide +kernel
theorem dX12_cutNumber_9 : decode cX12_cutNumber 9 = .ok (.if_icmp .ge 53, 3) := by decide +kernel
theorem dX12_cutNumber_12 : decode cX12_cutNumber 12 = .ok (.aload_n 1, 1) := by decide +kernel
theorem dX12_cutNumber_13 : decode cX12_cutNumber 13 = .ok (.iload 6, 2) := by decide +kernel
theorem dX12_cutNumber_15 : decode cX12_cutNumber 15 = .ok (.baload, 1) := by decide +kernel
theorem dX12_cutNumber_16 : decode cX12_cutNumber 16 = .ok (.invokestatic 60, 3) := by decide +kernel
theorem dX12_cutNumber_19 : decode cX12_cutNumber 19 = .ok (.ifCond .eq 43, 3) := by decide +kernel
theorem dX12_cutNumber_22 : decode cX12_cutNumber 22 = .ok (.iload 6, 2) := by decide +kernel
theorem dX12_cutNumber_24 : decode cX12_cutNumber 24 = .ok (.iload_n 2, 1) := by decide +kernel
theorem dX12_cutNumber_25 : decode cX12_cutNumber 25 = .ok (.isub, 1) := by decide +kernel
theorem dX12_cutNumber_26 : decode cX12_cutNumber 26 = .ok (.bipush 6, 2) := by decide +kernel
theorem dX12_cutNumber_28 : decode cX12_cutNumber 28 = .ok (.if_icmp .ne 11, 3) := by decide +kernel
theorem dX12_cutNumber_31 : decode cX12_cutNumber 31 = .ok (.aload_n 0, 1) := by decide +kernel
theorem dX12_cutNumber_32 : decode cX12_cutNumber 32 = .ok (.iload 6, 2) := by decide +kernel
theorem dX12_cutNumber_34 : decode cX12_cutNumber 34 = .ok (.iload_n 3, 1) := by decide +kernel
theorem dX12_cutNumber_35 : decode cX12_cutNumber 35 = .ok (.invokevirtual 70, 3) := by decide +kernel
theorem dX12_cutNumber_38 : decode cX12_cutNumber 38 = .ok (.ireturn, 1) := by decide +kernel
theorem dX12_cutNumber_39 : decode cX12_cutNumber 39 = .ok (.lload 4, 2) := by decide +kernel
theorem dX12_cutNumber_41 : decode cX12_cutNumber 41 = .ok (.ldc2_w 78, 3) := by decide +kernel
theorem dX12_cutNumber_44 : decode cX12_cutNumber 44 = .ok (.lmul, 1) := by decide +kernel
theorem dX12_cutNumber_45 : decode cX12_cutNumber 45 = .ok (.aload_n 1, 1) := by decide +kernel
theorem dX12_cutNumber_46 : decode cX12_cutNumber 46 = .ok (.iload 6, 2) := by decide +kernel
theorem dX12_cutNumber_48 : decode cX12_cutNumber 48 = .ok (.baload, 1) := by decide +kernel
theorem dX12_cutNumber_49 : decode cX12_cutNumber 49 = .ok (.bipush 48, 2) := by decide +kernel
theorem dX12_cutNumber_51 : decode cX12_cutNumber 51 = .ok (.isub, 1) := by decide +kernel
theorem dX12_cutNumber_52 : decode cX12_cutNumber 52 = .ok (.i2l, 1) := by decide +kernel
theorem dX12_cutNumber_53 : decode cX12_cutNumber 53 = .ok (.ladd, 1) := by decide +kernel
theorem dX12_cutNumber_54 : decode cX12_cutNumber 54 = .ok (.lstore 4, 2) := by decide +kernel
theorem dX12_cutNumber_56 : decode cX12_cutNumber 56 = .ok (.iinc 6 1, 3) := by decide +kernel
theorem dX12_cutNumber_59 : decode cX12_cutNumber 59 = .ok (.goto (-53), 3) := by decide +kernel
theorem dX12_cutNumber_62 : decode cX12_cutNumber 62 = .ok (.iload 6, 2) := by decide +kernel
theorem dX12_cutNumber_64 : decode cX12_cutNumber 64 = .ok (.iload_n 3, 1) := by decide +kernel
theorem dX12_cutNumber_65 : decode cX12_cutNumber 65 = .ok (.if_icmp .ge 21, 3) := by decide +kernel
theorem dX12_cutNumber_68 : decode cX12_cutNumber 68 = .ok (.aload_n 1, 1) := by decide +kernel
theorem dX12_cutNumber_69 : decode cX12_cutNumber 69 = .ok (.iload 6, 2) := by decide +kernel
theorem dX12_cutNumber_71 : decode cX12_cutNumber 71 = .ok (.baload, 1) := by decide +kernel
theorem dX12_cutNumber_72 : decode cX12_cutNumber 72 = .ok (.invokestatic 54, 3) := by decide +kernel
theorem dX12_cutNumber_75 : decode cX12_cutNumber 75 = .ok (.ifCond .eq 11, 3) := by decide +kernel
theorem dX12_cutNumber_78 : decode cX12_cutNumber 78 = .ok (.aload_n 0, 1) := by decide +kernel
theorem dX12_cutNumber_79 : decode cX12_cutNumber 79 = .ok (.iload 6, 2) := by decide +kernel
theorem dX12_cutNumber_81 : decode cX12_cutNumber 81 = .ok (.iload_n 3, 1) := by decide +kernel
theorem dX12_cutNumber_82 : decode cX12_cutNumber 82 = .ok (.invokevirtual 70, 3) := by decide +kernel
theorem dX12_cutNumber_85 : decode cX12_cutNumber 85 = .ok (.ireturn, 1) := by decide +kernel
theorem dX12_cutNumber_86 : decode cX12_cutNumber 86 = .ok (.aload_n 0, 1) := by decide +kernel
theorem dX12_cutNumber_87 : decode cX12_cutNumber 87 = .ok (.getstatic 80, 3) := by decide +kernel
theorem dX12_cutNumber_90 : decode cX12_cutNumber 90 = .ok (.iload_n 2, 1) := by decide +kernel
theorem dX12_cutNumber_91 : decode cX12_cutNumber 91 = .ok (.lload 4, 2) := by decide +kernel
theorem dX12_cutNumber_93 : decode cX12_cutNumber 93 = .ok (.invokevirtual 47, 3) := by decide +kernel
theorem dX12_cutNumber_96 : decode cX12_cutNumber 96 = .ok (.iload 6, 2) := by decide +kernel
theorem dX12_cutNumber_98 : decode cX12_cutNumber 98 = .ok (.ireturn, 1) := by decide +kernel
theorem dX12_stop_0 : decode cX12_stop 0 = .ok (.aload_n 0, 1) := by decide +kernel
theorem dX12_stop_1 : decode cX12_stop 1 = .ok (.getstatic 51, 3) := by decide +kernel
theorem dX12_stop_4 : decode cX12_stop 4 = .ok (.iload_n 1, 1) := by decide +kernel
theorem dX12_stop_5 : decode cX12_stop 5 = .ok (.lconst 0, 1) := by decide +kernel
theorem dX12_stop_6 : decode cX12_stop 6 = .ok (.invokevirtual 47, 3) := by decide +kernel
theorem dX12_stop_9 : decode cX12_stop 9 = .ok (.iload_n 2, 1) := by decide +kernel
theorem dX12_stop_10 : decode cX12_stop 10 = .ok (.ireturn, 1) := by decide +kernel
theorem dX12_add_0 : decode cX12_add 0 = .ok (.aload_n 0, 1) := by decide +kernel
theorem dX12_add_1 : decode cX12_add 1 = .ok (.getfield 25, 3) := by decide +kernel
theorem dX12_add_4 : decode cX12_add 4 = .ok (.aload_n 0, 1) := by decide +kernel
theorem dX12_add_5 : decode cX12_add 5 = .ok (.getfield 11, 3) := by decide +kernel
theorem dX12_add_8 : decode cX12_add 8 = .ok (.arraylength, 1) := by decide +kernel
theorem dX12_add_9 : decode cX12_add 9 = .ok (.if_icmp .ge 43, 3) := by decide +kernel
theorem dX12_add_12 : decode cX12_add 12 = .ok (.aload_n 0, 1) := by decide +kernel
theorem dX12_add_13 : decode cX12_add 13 = .ok (.getfield 11, 3) := by decide +kernel
theorem dX12_add_16 : decode cX12_add 16 = .ok (.aload_n 0, 1) := by decide +kernel
theorem dX12_add_17 : decode cX12_add 17 = .ok (.getfield 25, 3) := by decide +kernel
theorem dX12_add_20 : decode cX12_add 20 = .ok (.aload_n 1, 1) := by decide +kernel
theorem dX12_add_21 : decode cX12_add 21 = .ok (.aastore, 1) := by decide +kernel
theorem dX12_add_22 : decode cX12_add 22 = .ok (.aload_n 0, 1) := by decide +kernel
theorem dX12_add_23 : decode cX12_add 23 = .ok (.getfield 17, 3) := by decide +kernel
theorem dX12_add_26 : decode cX12_add 26 = .ok (.aload_n 0, 1) := by decide +kernel
theorem dX12_add_27 : decode cX12_add 27 = .ok (.getfield 25, 3) := by decide +kernel
theorem dX12_add_30 : decode cX12_add 30 = .ok (.iload_n 2, 1) := by decide +kernel
theorem dX12_add_31 : decode cX12_add 31 = .ok (.iastore, 1) := by decide +kernel
theorem dX12_add_32 : decode cX12_add 32 = .ok (.aload_n 0, 1) := by decide +kernel
theorem dX12_add_33 : decode cX12_add 33 = .ok (.getfield 21, 3) := by decide +kernel
theorem dX12_add_36 : decode cX12_add 36 = .ok (.aload_n 0, 1) := by decide +kernel
theorem dX12_add_37 : decode cX12_add 37 = .ok (.getfield 25, 3) := by decide +kernel
theorem dX12_add_40 : decode cX12_add 40 = .ok (.lload_n 3, 1) := by decide +kernel
theorem dX12_add_41 : decode cX12_add 41 = .ok (.lastore, 1) := by decide +kernel
theorem dX12_add_42 : decode cX12_add 42 = .ok (.aload_n 0, 1) := by decide +kernel
theorem dX12_add_43 : decode cX12_add 43 = .ok (.dup, 1) := by decide +kernel
theorem dX12_add_44 : decode cX12_add 44 = .ok (.getfield 25, 3) := by decide +kernel
theorem dX12_add_47 : decode cX12_add 47 = .ok (.iconst 1, 1) := by decide +kernel
theorem dX12_add_48 : decode cX12_add 48 = .ok (.iadd, 1) := by decide +kernel
theorem dX12_add_49 : decode cX12_add 49 = .ok (.putfield 25, 3) := by decide +kernel
theorem dX12_add_52 : decode cX12_add 52 = .ok (.return_, 1) := by decide +kernel
theorem dX12_isBlank_0 : decode cX12_isBlank 0 = .ok (.iload_n 0, 1) := by decide +kernel
theorem dX12_isBlank_1 : decode cX12_isBlank 1 = .ok (.bipush 32, 2) := by decide +kernel
theorem dX12_isBlank_3 : decode cX12_isBlank 3 = .ok (.if_icmp .eq 21, 3) := by decide +kernel
theorem dX12_isBlank_6 : decode cX12_isBlank 6 = .ok (.iload_n 0, 1) := by decide +kernel
theorem dX12_isBlank_7 : decode cX12_isBlank 7 = .ok (.bipush 9, 2) := by decide +kernel
theorem dX12_isBlank_9 : decode cX12_isBlank 9 = .ok (.if_icmp .eq 15, 3) := by decide +kernel
theorem dX12_isBlank_12 : decode cX12_isBlank 12 = .ok (.iload_n 0, 1) := by decide +kernel
theorem dX12_isBlank_13 : decode cX12_isBlank 13 = .ok (.bipush 10, 2) := by decide +kernel
theorem dX12_isBlank_15 : decode cX12_isBlank 15 = .ok (.if_icmp .eq 9, 3) := by decide +kernel
theorem dX12_isBlank_18 : decode cX12_isBlank 18 = .ok (.iload_n 0, 1) := by decide +kernel
theorem dX12_isBlank_19 : decode cX12_isBlank 19 = .ok (.bipush 13, 2) := by decide +kernel
theorem dX12_isBlank_21 : decode cX12_isBlank 21 = .ok (.if_icmp .ne 7, 3) := by decide +kernel
theorem dX12_isBlank_24 : decode cX12_isBlank 24 = .ok (.iconst 1, 1) := by decide +kernel
theorem dX12_isBlank_25 : decode cX12_isBlank 25 = .ok (.goto 4, 3) := by decide +kernel
theorem dX12_isBlank_28 : decode cX12_isBlank 28 = .ok (.iconst 0, 1) := by decide +kernel
theorem dX12_isBlank_29 : decode cX12_isBlank 29 = .ok (.ireturn, 1) := by decide +kernel
theorem dX12_isLetter_0 : decode cX12_isLetter 0 = .ok (.iload_n 0, 1) := by decide +kernel
theorem dX12_isLetter_1 : decode cX12_isLetter 1 = .ok (.bipush 97, 2) := by decide +kernel
theorem dX12_isLetter_3 : decode cX12_isLetter 3 = .ok (.if_icmp .lt 13, 3) := by decide +kernel
theorem dX12_isLetter_6 : decode cX12_isLetter 6 = .ok (.iload_n 0, 1) := by decide +kernel
theorem dX12_isLetter_7 : decode cX12_isLetter 7 = .ok (.bipush 122, 2) := by decide +kernel
theorem dX12_isLetter_9 : decode cX12_isLetter 9 = .ok (.if_icmp .gt 7, 3) := by decide +kernel
theorem dX12_isLetter_12 : decode cX12_isLetter 12 = .ok (.iconst 1, 1) := by decide +kernel
theorem dX12_isLetter_13 : decode cX12_isLetter 13 = .ok (.goto 4, 3) := by decide +kernel
theorem dX12_isLetter_16 : decode cX12_isLetter 16 = .ok (.iconst 0, 1) := by decide +kernel
theorem dX12_isLetter_17 : decode cX12_isLetter 17 = .ok (.ireturn, 1) := by decide +kernel
theorem dX12_isDigit_0 : decode cX12_isDigit 0 = .ok (.iload_n 0, 1) := by decide +kernel
theorem dX12_isDigit_1 : decode cX12_isDigit 1 = .ok (.bipush 48, 2) := by decide +kernel
theorem dX12_isDigit_3 : decode cX12_isDigit 3 = .ok (.if_icmp .lt 13, 3) := by decide +kernel
theorem dX12_isDigit_6 : decode cX12_isDigit 6 = .ok (.iload_n 0, 1) := by decide +kernel
theorem dX12_isDigit_7 : decode cX12_isDigit 7 = .ok (.bipush 57, 2) := by decide +kernel
theorem dX12_isDigit_9 : decode cX12_isDigit 9 = .ok (.if_icmp .gt 7, 3) := by decide +kernel
theorem dX12_isDigit_12 : decode cX12_isDigit 12 = .ok (.iconst 1, 1) := by decide +kernel
theorem dX12_isDigit_13 : decode cX12_isDigit 13 = .ok (.goto 4, 3) := by decide +kernel
theorem dX12_isDigit_16 : decode cX12_isDigit 16 = .ok (.iconst 0, 1) := by decide +kernel
theorem dX12_isDigit_17 : decode cX12_isDigit 17 = .ok (.ireturn, 1) := by decide +kernel
theorem dX13_init_0 : decode cX13_init 0 = .ok (.aload_n 0, 1) := by decide +kernel
theorem dX13_init_1 : decode cX13_init 1 = .ok (.invokespecial 3, 3) := by decide +kernel
theorem dX13_init_4 : decode cX13_init 4 = .ok (.aload_n 0, 1) := by decide +kernel
theorem dX13_init_5 : decode cX13_init 5 = .ok (.sipush 2000, 3) := by decide +kernel
theorem dX13_init_8 : decode cX13_init 8 = .ok (.newarray .byte, 2) := by decide +kernel
theorem dX13_init_10 : decode cX13_init 10 = .ok (.putfield 11, 3) := by decide +kernel
theorem dX13_init_13 : decode cX13_init 13 = .ok (.aload_n 0, 1) := by decide +kernel
theorem dX13_init_14 : decode cX13_init 14 = .ok (.new 15, 3) := by decide +kernel
theorem dX13_init_17 : decode cX13_init 17 = .ok (.dup, 1) := by decide +kernel
theorem dX13_init_18 : decode cX13_init 18 = .ok (.invokespecial 17, 3) := by decide +kernel
theorem dX13_init_21 : decode cX13_init 21 = .ok (.putfield 18, 3) := by decide +kernel
theorem dX13_init_24 : decode cX13_init 24 = .ok (.aload_n 0, 1) := by decide +kernel
theorem dX13_init_25 : decode cX13_init 25 = .ok (.new 22, 3) := by decide +kernel
theorem dX13_init_28 : decode cX13_init 28 = .ok (.dup, 1) := by decide +kernel
theorem dX13_init_29 : decode cX13_init 29 = .ok (.invokespecial 24, 3) := by decide +kernel
theorem dX13_init_32 : decode cX13_init 32 = .ok (.putfield 25, 3) := by decide +kernel
theorem dX13_init_35 : decode cX13_init 35 = .ok (.aload_n 0, 1) := by decide +kernel
theorem dX13_init_36 : decode cX13_init 36 = .ok (.new 22, 3) := by decide +kernel
theorem dX13_init_39 : decode cX13_init 39 = .ok (.dup, 1) := by decide +kernel
theorem dX13_init_40 : decode cX13_init 40 = .ok (.invokespecial 24, 3) := by decide +kernel
theorem dX13_init_43 : decode cX13_init 43 = .ok (.putfield 29, 3) := by decide +kernel
theorem dX13_init_46 : decode cX13_init 46 = .ok (.aload_n 0, 1) := by decide +kernel
theorem dX13_init_47 : decode cX13_init 47 = .ok (.iconst 4, 1) := by decide +kernel
theorem dX13_init_48 : decode cX13_init 48 = .ok (.anewarray 32, 3) := by decide +kernel
theorem dX13_init_51 : decode cX13_init 51 = .ok (.putfield 34, 3) := by decide +kernel
theorem dX13_init_54 : decode cX13_init 54 = .ok (.return_, 1) := by decide +kernel
theorem dX13_sign_0 : decode cX13_sign 0 = .ok (.bipush 24, 2) := by decide +kernel
theorem dX13_sign_2 : decode cX13_sign 2 = .ok (.istore_n 2, 1) := by decide +kernel
theorem dX13_sign_3 : decode cX13_sign 3 = .ok (.iload_n 2, 1) := by decide +kernel
theorem dX13_sign_4 : decode cX13_sign 4 = .ok (.ifCond .lt 52, 3) := by decide +kernel
theorem dX13_sign_7 : decode cX13_sign 7 = .ok (.iload_n 1, 1) := by decide +kernel
theorem dX13_sign_8 : decode cX13_sign 8 = .ok (.iload_n 2, 1) := by decide +kernel
theorem dX13_sign_9 : decode cX13_sign 9 = .ok (.iushr, 1) := by decide +kernel
theorem dX13_sign_10 : decode cX13_sign 10 = .ok (.sipush 255, 3) := by decide +kernel
theorem dX13_sign_13 : decode cX13_sign 13 = .ok (.iand, 1) := by decide +kernel
theorem dX13_sign_14 : decode cX13_sign 14 = .ok (.istore_n 3, 1) := by decide +kernel
theorem dX13_sign_15 : decode cX13_sign 15 = .ok (.iload_n 3, 1) := by decide +kernel
theorem dX13_sign_16 : decode cX13_sign 16 = .ok (.ifCond .eq 34, 3) := by decide +kernel
theorem dX13_sign_19 : decode cX13_sign 19 = .ok (.aload_n 0, 1) := by decide +kernel
theorem dX13_sign_20 : decode cX13_sign 20 = .ok (.getfield 38, 3) := by decide +kernel
theorem dX13_sign_23 : decode cX13_sign 23 = .ok (.sipush 2000, 3) := by decide +kernel
theorem dX13_sign_26 : decode cX13_sign 26 = .ok (.if_icmp .ge 24, 3) := by decide +kernel
theorem dX13_sign_29 : decode cX13_sign 29 = .ok (.aload_n 0, 1) := by decide +kernel
theorem dX13_sign_30 : decode cX13_sign 30 = .ok (.getfield 11, 3) := by decide +kernel
theorem dX13_sign_33 : decode cX13_sign 33 = .ok (.aload_n 0, 1) := by decide +kernel
theorem dX13_sign_34 : decode cX13_sign 34 = .ok (.getfield 38, 3) := by decide +kernel
theorem dX13_sign_37 : decode cX13_sign 37 = .ok (.iload_n 3, 1) := by decide +kernel
theorem dX13_sign_38 : decode cX13_sign 38 = .ok (.i2b, 1) := by decide +kernel
theorem dX13_sign_39 : decode cX13_sign 39 = .ok (.bastore, 1) := by decide +kernel
theorem dX13_sign_40 : decode cX13_sign 40 = .ok (.aload_n 0, 1) := by decide +kernel
theorem dX13_sign_41 : decode cX13_sign 41 = .ok (.dup, 1) := by decide +kernel
theorem dX13_sign_42 : decode cX13_sign 42 = .ok (.getfield 38, 3) := by decide +kernel
theorem dX13_sign_45 : decode cX13_sign 45 = .ok (.iconst 1, 1) := by decide +kernel
theorem dX13_sign_46 : decode cX13_sign 46 = .ok (.iadd, 1) := by decide +kernel
theorem dX13_sign_47 : decode cX13_sign 47 = .ok (.putfield 38, 3) := by decide +kernel
theorem dX13_sign_50 : decode cX13_sign 50 = .ok (.iinc 2 (-8), 3) := by decide +kernel
theorem dX13_sign_53 : decode cX13_sign 53 = .ok (.goto (-50), 3) := by decide +kernel
theorem dX13_sign_56 : decode cX13_sign 56 = .ok (.return_, 1) := by decide +kernel
theorem dX13_read_0 : decode cX13_read 0 = .ok (.new 32, 3) := by decide +kernel
theorem dX13_read_3 : decode cX13_read 3 = .ok (.dup, 1) := by decide +kernel
theorem dX13_read_4 : decode cX13_read 4 = .ok (.invokespecial 42, 3) := by decide +kernel
theorem dX13_read_7 : decode cX13_read 7 = .ok (.astore_n 1, 1) := by decide +kernel
theorem dX13_read_8 : decode cX13_read 8 = .ok (.aload_n 0, 1) := by decide +kernel
theorem dX13_read_9 : decode cX13_read 9 = .ok (.aconst_null, 1) := by decide +kernel
theorem dX13_read_10 : decode cX13_read 10 = .ok (.putfield 43, 3) := by decide +kernel
theorem dX13_read_13 : decode cX13_read 13 = .ok (.aload_n 0, 1) := by decide +kernel
theorem dX13_read_14 : decode cX13_read 14 = .ok (.getfield 18, 3) := by decide +kernel
theorem dX13_read_17 : decode cX13_read 17 = .ok (.aload_n 1, 1) := by decide +kernel
theorem dX13_read_18 : decode cX13_read 18 = .ok (.aload_n 0, 1) := by decide +kernel
theorem dX13_read_19 : decode cX13_read 19 = .ok (.getfield 11, 3) := by decide +kernel
theorem dX13_read_22 : decode cX13_read 22 = .ok (.aload_n 0, 1) := by decide +kernel
theorem dX13_read_23 : decode cX13_read 23 = .ok (.getfield 38, 3) := by decide +kernel
theorem dX13_read_26 : decode cX13_read 26 = .ok (.invokevirtual 47, 3) := by decide +kernel
theorem dX13_read_29 : decode cX13_read 29 = .ok (.istore_n 2, 1) := by decide +kernel
theorem dX13_read_30 : decode cX13_read 30 = .ok (.iload_n 2, 1) := by decide +kernel
theorem dX13_read_31 : decode cX13_read 31 = .ok (.ifCond .ge 20, 3) := by decide +kernel
theorem dX13_read_34 : decode cX13_read 34 = .ok (.aload_n 1, 1) := by decide +kernel
theorem dX13_read_35 : decode cX13_read 35 = .ok (.invokevirtual 51, 3) := by decide +kernel
theorem dX13_read_38 : decode cX13_read 38 = .ok (.aload_n 1, 1) := by decide +kernel
theorem dX13_read_39 : decode cX13_read 39 = .ok (.getfield 54, 3) := by decide +kernel
theorem dX13_read_42 : decode cX13_read 42 = .ok (.istore_n 2, 1) := by decide +kernel
theorem dX13_read_43 : decode cX13_read 43 = .ok (.aload_n 0, 1) := by decide +kernel
theorem dX13_read_44 : decode cX13_read 44 = .ok (.aload_n 1, 1) := by decide +kernel
theorem dX13_read_45 : decode cX13_read 45 = .ok (.getfield 57, 3) := by decide +kernel
theorem dX13_read_48 : decode cX13_read 48 = .ok (.putfield 43, 3) := by decide +kernel
theorem dX13_read_51 : decode cX13_read 51 = .ok (.aload_n 0, 1) := by decide +kernel
theorem dX13_read_52 : decode cX13_read 52 = .ok (.iload_n 2, 1) := by decide +kernel
theorem dX13_read_53 : decode cX13_read 53 = .ok (.invokevirtual 58, 3) := by decide +kernel
theorem dX13_read_56 : decode cX13_read 56 = .ok (.istore_n 3, 1) := by decide +kernel
theorem dX13_read_57 : decode cX13_read 57 = .ok (.aload_n 0, 1) := by decide +kernel
theorem dX13_read_58 : decode cX13_read 58 = .ok (.iconst 0, 1) := by decide +kernel
theorem dX13_read_59 : decode cX13_read 59 = .ok (.putfield 38, 3) := by decide +kernel
theorem dX13_read_62 : decode cX13_read 62 = .ok (.iload_n 2, 1) := by decide +kernel
theorem dX13_read_63 : decode cX13_read 63 = .ok (.ifCond .lt 6, 3) := by decide +kernel
theorem dX13_read_66 : decode cX13_read 66 = .ok (.iload_n 3, 1) := by decide +kernel
theorem dX13_read_67 : decode cX13_read 67 = .ok (.ineg, 1) := by decide +kernel
theorem dX13_read_68 : decode cX13_read 68 = .ok (.ireturn, 1) := by decide +kernel
theorem dX13_read_69 : decode cX13_read 69 = .ok (.aload_n 0, 1) := by decide +kernel
theorem dX13_read_70 : decode cX13_read 70 = .ok (.aload_n 1, 1) := by decide +kernel
theorem dX13_read_71 : decode cX13_read 71 = .ok (.invokevirtual 62, 3) := by decide +kernel
theorem dX13_read_74 : decode cX13_read 74 = .ok (.aload_n 1, 1) := by decide +kernel
theorem dX13_read_75 : decode cX13_read 75 = .ok (.getfield 66, 3) := by decide +kernel
theorem dX13_read_78 : decode cX13_read 78 = .ok (.invokevirtual 70, 3) := by decide +kernel
theorem dX13_read_81 : decode cX13_read 81 = .ok (.ireturn, 1) := by decide +kernel
theorem dX13_service_0 : decode cX13_service 0 = .ok (.aload_n 0, 1) := by decide +kernel
theorem dX13_service_1 : decode cX13_service 1 = .ok (.iload_n 1, 1) := by decide +kernel
theorem dX13_service_2 : decode cX13_service 2 = .ok (.invokevirtual 76, 3) := by decide +kernel
theorem dX13_service_5 : decode cX13_service 5 = .ok (.astore_n 3, 1) := by decide +kernel
theorem dX13_service_6 : decode cX13_service 6 = .ok (.aload_n 3, 1) := by decide +kernel
theorem dX13_service_7 : decode cX13_service 7 = .ok (.ifnull 10, 3) := by decide +kernel
theorem dX13_service_10 : decode cX13_service 10 = .ok (.aload_n 0, 1) := by decide +kernel
theorem dX13_service_11 : decode cX13_service 11 = .ok (.getfield 80, 3) := by decide +kernel
theorem dX13_service_14 : decode cX13_service 14 = .ok (.ifnonnull 5, 3) := by decide +kernel
theorem dX13_service_17 : decode cX13_service 17 = .ok (.iconst (-1), 1) := by decide +kernel
theorem dX13_service_18 : decode cX13_service 18 = .ok (.ireturn, 1) := by decide +kernel
theorem dX13_service_19 : decode cX13_service 19 = .ok (.iload_n 2, 1) := by decide +kernel
theorem dX13_service_20 : decode cX13_service 20 = .ok (.tableswitch 81 0 4 #[36, 48, 53, 61, 69], 36) := by decide +kernel
theorem dX13_service_56 : decode cX13_service 56 = .ok (.aload_n 0, 1) := by decide +kernel
theorem dX13_service_57 : decode cX13_service 57 = .ok (.getfield 80, 3) := by decide +kernel
theorem dX13_service_60 : decode cX13_service 60 = .ok (.aload_n 3, 1) := by decide +kernel
theorem dX13_service_61 : decode cX13_service 61 = .ok (.getfield 84, 3) := by decide +kernel
theorem dX13_service_64 : decode cX13_service 64 = .ok (.invokevirtual 90, 3) := by decide +kernel
theorem dX13_service_67 : decode cX13_service 67 = .ok (.ireturn, 1) := by decide +kernel
theorem dX13_service_68 : decode cX13_service 68 = .ok (.aload_n 3, 1) := by decide +kernel
theorem dX13_service_69 : decode cX13_service 69 = .ok (.getfield 94, 3) := by decide +kernel
theorem dX13_service_72 : decode cX13_service 72 = .ok (.ireturn, 1) := by decide +kernel
theorem dX13_service_73 : decode cX13_service 73 = .ok (.aload_n 3, 1) := by decide +kernel
theorem dX13_service_74 : decode cX13_service 74 = .ok (.getfield 97, 3) := by decide +kernel
theorem dX13_service_77 : decode cX13_service 77 = .ok (.invokevirtual 70, 3) := by decide +kernel
theorem dX13_service_80 : decode cX13_service 80 = .ok (.ireturn, 1) := by decide +kernel
theorem dX13_service_81 : decode cX13_service 81 = .ok (.aload_n 3, 1) := by decide +kernel
theorem dX13_service_82 : decode cX13_service 82 = .ok (.getfield 100, 3) := by decide +kernel
theorem dX13_service_85 : decode cX13_service 85 = .ok (.getfield 103, 3) := by decide +kernel
theorem dX13_service_88 : decode cX13_service 88 = .ok (.ireturn, 1) := by decide +kernel
theorem dX13_service_89 : decode cX13_service 89 = .ok (.aload_n 0, 1) := by decide +kernel
theorem dX13_service_90 : decode cX13_service 90 = .ok (.getfield 80, 3) := by decide +kernel
theorem dX13_service_93 : decode cX13_service 93 = .ok (.aload_n 3, 1) := by decide +kernel
theorem dX13_service_94 : decode cX13_service 94 = .ok (.getfield 84, 3) := by decide +kernel
theorem dX13_service_97 : decode cX13_service 97 = .ok (.invokevirtual 108, 3) := by decide +kernel
theorem dX13_service_100 : decode cX13_service 100 = .ok (.ireturn, 1) := by decide +kernel
theorem dX13_service_101 : decode cX13_service 101 = .ok (.bipush (-2), 2) := by decide +kernel
theorem dX13_service_103 : decode cX13_service 103 = .ok (.ireturn, 1) := by decide +kernel
theorem dX13_parameter_0 : decode cX13_parameter 0 = .ok (.aload_n 0, 1) := by decide +kernel
theorem dX13_parameter_1 : decode cX13_parameter 1 = .ok (.iload_n 1, 1) := by decide +kernel
theorem dX13_parameter_2 : decode cX13_parameter 2 = .ok (.invokevirtual 76, 3) := by decide +kernel
theorem dX13_parameter_5 : decode cX13_parameter 5 = .ok (.iload_n 2, 1) := by decide +kernel
theorem dX13_parameter_6 : decode cX13_parameter 6 = .ok (.invokestatic 111, 3) := by decide +kernel
theorem dX13_parameter_9 : decode cX13_parameter 9 = .ok (.astore 4, 2) := by decide +kernel
theorem dX13_parameter_11 : decode cX13_parameter 11 = .ok (.aload 4, 2) := by decide +kernel
theorem dX13_parameter_13 : decode cX13_parameter 13 = .ok (.ifnull 10, 3) := by decide +kernel
theorem dX13_parameter_16 : decode cX13_parameter 16 = .ok (.aload_n 0, 1) := by decide +kernel
theorem dX13_parameter_17 : decode cX13_parameter 17 = .ok (.getfield 80, 3) := by decide +kernel
theorem dX13_parameter_20 : decode cX13_parameter 20 = .ok (.ifnonnull 5, 3) := by decide +kernel
theorem dX13_parameter_23 : decode cX13_parameter 23 = .ok (.iconst (-1), 1) := by decide +kernel
theorem dX13_parameter_24 : decode cX13_parameter 24 = .ok (.ireturn, 1) := by decide +kernel
theorem dX13_parameter_25 : decode cX13_parameter 25 = .ok (.iload_n 3, 1) := by decide +kernel
theorem dX13_parameter_26 : decode cX13_parameter 26 = .ok (.tableswitch 101 0 4 #[34, 47, 68, 74, 95], 34) := by decide +kernel
theorem dX13_parameter_60 : decode cX13_parameter 60 = .ok (.aload_n 0, 1) := by decide +kernel
theorem dX13_parameter_61 : decode cX13_parameter 61 = .ok (.getfield 80, 3) := by decide +kernel
theorem dX13_parameter_64 : decode cX13_parameter 64 = .ok (.aload 4, 2) := by decide +kernel
theorem dX13_parameter_66 : decode cX13_parameter 66 = .ok (.getfield 115, 3) := by decide +kernel
theorem dX13_parameter_69 : decode cX13_parameter 69 = .ok (.invokevirtual 90, 3) := by decide +kernel
theorem dX13_parameter_72 : decode cX13_parameter 72 = .ok (.ireturn, 1) := by decide +kernel
theorem dX13_parameter_73 : decode cX13_parameter 73 = .ok (.aload 4, 2) := by decide +kernel
theorem dX13_parameter_75 : decode cX13_parameter 75 = .ok (.getfield 118, 3) := by decide +kernel
theorem dX13_parameter_78 : decode cX13_parameter 78 = .ok (.ifnonnull 7, 3) := by decide +kernel
theorem dX13_parameter_81 : decode cX13_parameter 81 = .ok (.iconst 0, 1) := by decide +kernel
theorem dX13_parameter_82 : decode cX13_parameter 82 = .ok (.goto 11, 3) := by decide +kernel
theorem dX13_parameter_85 : decode cX13_parameter 85 = .ok (.aload 4, 2) := by decide +kernel
theorem dX13_parameter_87 : decode cX13_parameter 87 = .ok (.getfield 118, 3) := by decide +kernel
theorem dX13_parameter_90 : decode cX13_parameter 90 = .ok (.getfield 122, 3) := by decide +kernel
theorem dX13_parameter_93 : decode cX13_parameter 93 = .ok (.ireturn, 1) := by decide +kernel
theorem dX13_parameter_94 : decode cX13_parameter 94 = .ok (.aload 4, 2) := by decide +kernel
theorem dX13_parameter_96 : decode cX13_parameter 96 = .ok (.getfield 125, 3) := by decide +kernel
theorem dX13_parameter_99 : decode cX13_parameter 99 = .ok (.ireturn, 1) := by decide +kernel
theorem dX13_parameter_100 : decode cX13_parameter 100 = .ok (.aload 4, 2) := by decide +kernel
theorem dX13_parameter_102 : decode cX13_parameter 102 = .ok (.getfield 128, 3) := by decide +kernel
theorem dX13_parameter_105 : decode cX13_parameter 105 = .ok (.ifnonnull 7, 3) := by decide +kernel
theorem dX13_parameter_108 : decode cX13_parameter 108 = .ok (.iconst 0, 1) := by decide +kernel
theorem dX13_parameter_109 : decode cX13_parameter 109 = .ok (.goto 11, 3) := by decide +kernel
theorem dX13_parameter_112 : decode cX13_parameter 112 = .ok (.aload 4, 2) := by decide +kernel
theorem dX13_parameter_114 : decode cX13_parameter 114 = .ok (.getfield 128, 3) := by decide +kernel
theorem dX13_parameter_117 : decode cX13_parameter 117 = .ok (.getfield 132, 3) := by decide +kernel
theorem dX13_parameter_120 : decode cX13_parameter 120 = .ok (.ireturn, 1) := by decide +kernel
theorem dX13_parameter_121 : decode cX13_parameter 121 = .ok (.aload 4, 2) := by decide +kernel
theorem dX13_parameter_123 : decode cX13_parameter 123 = .ok (.getfield 133, 3) := by decide +kernel
theorem dX13_parameter_126 : decode cX13_parameter 126 = .ok (.ireturn, 1) := by decide +kernel
theorem dX13_parameter_127 : decode cX13_parameter 127 = .ok (.bipush (-2), 2) := by decide +kernel
theorem dX13_parameter_129 : decode cX13_parameter 129 = .ok (.ireturn, 1) := by decide +kernel
theorem dX13_decode_0 : decode cX13_decode 0 = .ok (.aload_n 0, 1) := by decide +kernel
theorem dX13_decode_1 : decode cX13_decode 1 = .ok (.iload_n 1, 1) := by decide +kernel
theorem dX13_decode_2 : decode cX13_decode 2 = .ok (.invokevirtual 76, 3) := by decide +kernel
theorem dX13_decode_5 : decode cX13_decode 5 = .ok (.astore 4, 2) := by decide +kernel
theorem dX13_decode_7 : decode cX13_decode 7 = .ok (.aload 4, 2) := by decide +kernel
theorem dX13_decode_9 : decode cX13_decode 9 = .ok (.iload_n 2, 1) := by decide +kernel
theorem dX13_decode_10 : decode cX13_decode 10 = .ok (.invokestatic 111, 3) := by decide +kernel
theorem dX13_decode_13 : decode cX13_decode 13 = .ok (.astore 5, 2) := by decide +kernel
theorem dX13_decode_15 : decode cX13_decode 15 = .ok (.aload 4, 2) := by decide +kernel
theorem dX13_decode_17 : decode cX13_decode 17 = .ok (.ifnull 15, 3) := by decide +kernel
theorem dX13_decode_20 : decode cX13_decode 20 = .ok (.aload 5, 2) := by decide +kernel
theorem dX13_decode_22 : decode cX13_decode 22 = .ok (.ifnull 10, 3) := by decide +kernel
theorem dX13_decode_25 : decode cX13_decode 25 = .ok (.aload_n 0, 1) := by decide +kernel
theorem dX13_decode_26 : decode cX13_decode 26 = .ok (.getfield 80, 3) := by decide +kernel
theorem dX13_decode_29 : decode cX13_decode 29 = .ok (.ifnonnull 7, 3) := by decide +kernel
theorem dX13_decode_32 : decode cX13_decode 32 = .ok (.ldc2_w 134, 3) := by decide +kernel
theorem dX13_decode_35 : decode cX13_decode 35 = .ok (.lreturn, 1) := by decide +kernel
theorem dX13_decode_36 : decode cX13_decode 36 = .ok (.iload_n 3, 1) := by decide +kernel
theorem dX13_decode_37 : decode cX13_decode 37 = .ok (.ifCond .lt 8, 3) := by decide +kernel
theorem dX13_decode_40 : decode cX13_decode 40 = .ok (.iload_n 3, 1) := by decide +kernel
theorem dX13_decode_41 : decode cX13_decode 41 = .ok (.iconst 4, 1) := by decide +kernel
theorem dX13_decode_42 : decode cX13_decode 42 = .ok (.if_icmp .le 7, 3) := by decide +kernel
theorem dX13_decode_45 : decode cX13_decode 45 = .ok (.ldc2_w 136, 3) := by decide +kernel
theorem dX13_decode_48 : decode cX13_decode 48 = .ok (.lreturn, 1) := by decide +kernel
theorem dX13_decode_49 : decode cX13_decode 49 = .ok (.aload 4, 2) := by decide +kernel
theorem dX13_decode_51 : decode cX13_decode 51 = .ok (.aload_n 0, 1) := by decide +kernel
theorem dX13_decode_52 : decode cX13_decode 52 = .ok (.getfield 25, 3) := by decide +kernel
theorem dX13_decode_55 : decode cX13_decode 55 = .ok (.invokevirtual 138, 3) := by decide +kernel
theorem dX13_decode_58 : decode cX13_decode 58 = .ok (.aload 5, 2) := by decide +kernel
theorem dX13_decode_60 : decode cX13_decode 60 = .ok (.getfield 142, 3) := by decide +kernel
theorem dX13_decode_63 : decode cX13_decode 63 = .ok (.ifCond .eq 11, 3) := by decide +kernel
theorem dX13_decode_66 : decode cX13_decode 66 = .ok (.aload 5, 2) := by decide +kernel
theorem dX13_decode_68 : decode cX13_decode 68 = .ok (.getfield 118, 3) := by decide +kernel
theorem dX13_decode_71 : decode cX13_decode 71 = .ok (.ifnonnull 16, 3) := by decide +kernel
theorem dX13_decode_74 : decode cX13_decode 74 = .ok (.iload_n 3, 1) := by decide +kernel
theorem dX13_decode_75 : decode cX13_decode 75 = .ok (.iconst 2, 1) := by decide +kernel
theorem dX13_decode_76 : decode cX13_decode 76 = .ok (.if_icmp .ne 9, 3) := by decide +kernel
theorem dX13_decode_79 : decode cX13_decode 79 = .ok (.ldc2_w 134, 3) := by decide +kernel
theorem dX13_decode_82 : decode cX13_decode 82 = .ok (.goto 4, 3) := by decide +kernel
theorem dX13_decode_85 : decode cX13_decode 85 = .ok (.lconst 0, 1) := by decide +kernel
theorem dX13_decode_86 : decode cX13_decode 86 = .ok (.lreturn, 1) := by decide +kernel
theorem dX13_decode_87 : decode cX13_decode 87 = .ok (.iload_n 3, 1) := by decide +kernel
theorem dX13_decode_88 : decode cX13_decode 88 = .ok (.tableswitch 74 0 3 #[32, 46, 60, 67], 32) := by decide +kernel
theorem dX13_decode_120 : decode cX13_decode 120 = .ok (.aload 5, 2) := by decide +kernel
theorem dX13_decode_122 : decode cX13_decode 122 = .ok (.getfield 118, 3) := by decide +kernel
theorem dX13_decode_125 : decode cX13_decode 125 = .ok (.aload 5, 2) := by decide +kernel
theorem dX13_decode_127 : decode cX13_decode 127 = .ok (.getfield 144, 3) := by decide +kernel
theorem dX13_decode_130 : decode cX13_decode 130 = .ok (.invokevirtual 147, 3) := by decide +kernel
theorem dX13_decode_133 : decode cX13_decode 133 = .ok (.lreturn, 1) := by decide +kernel
theorem dX13_decode_134 : decode cX13_decode 134 = .ok (.aload 5, 2) := by decide +kernel
theorem dX13_decode_136 : decode cX13_decode 136 = .ok (.getfield 118, 3) := by decide +kernel
theorem dX13_decode_139 : decode cX13_decode 139 = .ok (.aload 5, 2) := by decide +kernel
theorem dX13_decode_141 : decode cX13_decode 141 = .ok (.getfield 144, 3) := by decide +kernel
theorem dX13_decode_144 : decode cX13_decode 144 = .ok (.invokevirtual 151, 3) := by decide +kernel
theorem dX13_decode_147 : decode cX13_decode 147 = .ok (.lreturn, 1) := by decide +kernel
theorem dX13_decode_148 : decode cX13_decode 148 = .ok (.aload 5, 2) := by decide +kernel
theorem dX13_decode_150 : decode cX13_decode 150 = .ok (.getfield 154, 3) := by decide +kernel
theorem dX13_decode_153 : decode cX13_decode 153 = .ok (.i2l, 1) := by decide +kernel
theorem dX13_decode_154 : decode cX13_decode 154 = .ok (.lreturn, 1) := by decide +kernel
theorem dX13_decode_155 : decode cX13_decode 155 = .ok (.aload 5, 2) := by decide +kernel
theorem dX13_decode_157 : decode cX13_decode 157 = .ok (.getfield 142, 3) := by decide +kernel
theorem dX13_decode_160 : decode cX13_decode 160 = .ok (.i2l, 1) := by decide +kernel
theorem dX13_decode_161 : decode cX13_decode 161 = .ok (.lreturn, 1) := by decide +kernel
theorem dX13_decode_162 : decode cX13_decode 162 = .ok (.aload_n 0, 1) := by decide +kernel
theorem dX13_decode_163 : decode cX13_decode 163 = .ok (.getfield 80, 3) := by decide +kernel
theorem dX13_decode_166 : decode cX13_decode 166 = .ok (.aload 5, 2) := by decide +kernel
theorem dX13_decode_168 : decode cX13_decode 168 = .ok (.getfield 118, 3) := by decide +kernel
theorem dX13_decode_171 : decode cX13_decode 171 = .ok (.aload 5, 2) := by decide +kernel
theorem dX13_decode_173 : decode cX13_decode 173 = .ok (.getfield 144, 3) := by decide +kernel
theorem dX13_decode_176 : decode cX13_decode 176 = .ok (.invokevirtual 157, 3) := by decide +kernel
theorem dX13_decode_179 : decode cX13_decode 179 = .ok (.invokevirtual 90, 3) := by decide +kernel
theorem dX13_decode_182 : decode cX13_decode 182 = .ok (.i2l, 1) := by decide +kernel
theorem dX13_decode_183 : decode cX13_decode 183 = .ok (.lreturn, 1) := by decide +kernel
theorem dX13_octet_0 : decode cX13_octet 0 = .ok (.aload_n 0, 1) := by decide +kernel
theorem dX13_octet_1 : decode cX13_octet 1 = .ok (.getfield 25, 3) := by decide +kernel
theorem dX13_octet_4 : decode cX13_octet 4 = .ok (.getfield 160, 3) := by decide +kernel
theorem dX13_octet_7 : decode cX13_octet 7 = .ok (.bipush 64, 2) := by decide +kernel
theorem dX13_octet_9 : decode cX13_octet 9 = .ok (.if_icmp .ne 11, 3) := by decide +kernel
theorem dX13_octet_12 : decode cX13_octet 12 = .ok (.aload_n 0, 1) := by decide +kernel
theorem dX13_octet_13 : decode cX13_octet 13 = .ok (.getfield 25, 3) := by decide +kernel
theorem dX13_octet_16 : decode cX13_octet 16 = .ok (.iconst 0, 1) := by decide +kernel
theorem dX13_octet_17 : decode cX13_octet 17 = .ok (.putfield 160, 3) := by decide +kernel
theorem dX13_octet_20 : decode cX13_octet 20 = .ok (.aload_n 0, 1) := by decide +kernel
theorem dX13_octet_21 : decode cX13_octet 21 = .ok (.getfield 25, 3) := by decide +kernel
theorem dX13_octet_24 : decode cX13_octet 24 = .ok (.iload_n 1, 1) := by decide +kernel
theorem dX13_octet_25 : decode cX13_octet 25 = .ok (.invokevirtual 163, 3) := by decide +kernel
theorem dX13_octet_28 : decode cX13_octet 28 = .ok (.return_, 1) := by decide +kernel
theorem dX13_encode_0 : decode cX13_encode 0 = .ok (.aload_n 0, 1) := by decide +kernel
theorem dX13_encode_1 : decode cX13_encode 1 = .ok (.iload_n 1, 1) := by decide +kernel
theorem dX13_encode_2 : decode cX13_encode 2 = .ok (.invokevirtual 76, 3) := by decide +kernel
theorem dX13_encode_5 : decode cX13_encode 5 = .ok (.astore 5, 2) := by decide +kernel
theorem dX13_encode_7 : decode cX13_encode 7 = .ok (.aload 5, 2) := by decide +kernel
theorem dX13_encode_9 : decode cX13_encode 9 = .ok (.iload_n 2, 1) := by decide +kernel
theorem dX13_encode_10 : decode cX13_encode 10 = .ok (.invokestatic 111, 3) := by decide +kernel
theorem dX13_encode_13 : decode cX13_encode 13 = .ok (.astore 6, 2) := by decide +kernel
theorem dX13_encode_15 : decode cX13_encode 15 = .ok (.aload 5, 2) := by decide +kernel
theorem dX13_encode_17 : decode cX13_encode 17 = .ok (.ifnull 16, 3) := by decide +kernel
theorem dX13_encode_20 : decode cX13_encode 20 = .ok (.aload 6, 2) := by decide +kernel
theorem dX13_encode_22 : decode cX13_encode 22 = .ok (.ifnull 11, 3) := by decide +kernel
theorem dX13_encode_25 : decode cX13_encode 25 = .ok (.aload 6, 2) := by decide +kernel
theorem dX13_encode_27 : decode cX13_encode 27 = .ok (.getfield 118, 3) := by decide +kernel
theorem dX13_encode_30 : decode cX13_encode 30 = .ok (.ifnonnull 5, 3) := by decide +kernel
theorem dX13_encode_33 : decode cX13_encode 33 = .ok (.iconst (-1), 1) := by decide +kernel
theorem dX13_encode_34 : decode cX13_encode 34 = .ok (.ireturn, 1) := by decide +kernel
theorem dX13_encode_35 : decode cX13_encode 35 = .ok (.aload 6, 2) := by decide +kernel
theorem dX13_encode_37 : decode cX13_encode 37 = .ok (.getfield 118, 3) := by decide +kernel
theorem dX13_encode_40 : decode cX13_encode 40 = .ok (.lload_n 3, 1) := by decide +kernel
theorem dX13_encode_41 : decode cX13_encode 41 = .ok (.invokevirtual 167, 3) := by decide +kernel
theorem dX13_encode_44 : decode cX13_encode 44 = .ok (.lstore 7, 2) := by decide +kernel
theorem dX13_encode_46 : decode cX13_encode 46 = .ok (.lload 7, 2) := by decide +kernel
theorem dX13_encode_48 : decode cX13_encode 48 = .ok (.ldc2_w 170, 3) := by decide +kernel
theorem dX13_encode_51 : decode cX13_encode 51 = .ok (.lcmp, 1) := by decide +kernel
theorem dX13_encode_52 : decode cX13_encode 52 = .ok (.ifCond .ne 5, 3) := by decide +kernel
theorem dX13_encode_55 : decode cX13_encode 55 = .ok (.iconst 0, 1) := by decide +kernel
theorem dX13_encode_56 : decode cX13_encode 56 = .ok (.ireturn, 1) := by decide +kernel
theorem dX13_encode_57 : decode cX13_encode 57 = .ok (.aload 6, 2) := by decide +kernel
theorem dX13_encode_59 : decode cX13_encode 59 = .ok (.lload 7, 2) := by decide +kernel
theorem dX13_encode_61 : decode cX13_encode 61 = .ok (.putfield 172, 3) := by decide +kernel
theorem dX13_encode_64 : decode cX13_encode 64 = .ok (.aload 5, 2) := by decide +kernel
theorem dX13_encode_66 : decode cX13_encode 66 = .ok (.aload_n 0, 1) := by decide +kernel
theorem dX13_encode_67 : decode cX13_encode 67 = .ok (.getfield 29, 3) := by decide +kernel
theorem dX13_encode_70 : decode cX13_encode 70 = .ok (.invokevirtual 175, 3) := by decide +kernel
theorem dX13_encode_73 : decode cX13_encode 73 = .ok (.iconst 1, 1) := by decide +kernel
theorem dX13_encode_74 : decode cX13_encode 74 = .ok (.ireturn, 1) := by decide +kernel
theorem dX13_out_0 : decode cX13_out 0 = .ok (.iload_n 1, 1) := by decide +kernel
theorem dX13_out_1 : decode cX13_out 1 = .ok (.ifCond .lt 14, 3) := by decide +kernel
theorem dX13_out_4 : decode cX13_out 4 = .ok (.iload_n 1, 1) := by decide +kernel
theorem dX13_out_5 : decode cX13_out 5 = .ok (.aload_n 0, 1) := by decide +kernel
theorem dX13_out_6 : decode cX13_out 6 = .ok (.getfield 29, 3) := by decide +kernel
theorem dX13_out_9 : decode cX13_out 9 = .ok (.getfield 160, 3) := by decide +kernel
theorem dX13_out_12 : decode cX13_out 12 = .ok (.if_icmp .lt 11, 3) := by decide +kernel
theorem dX13_out_15 : decode cX13_out 15 = .ok (.new 178, 3) := by decide +kernel
theorem dX13_out_18 : decode cX13_out 18 = .ok (.dup, 1) := by decide +kernel
theorem dX13_out_19 : decode cX13_out 19 = .ok (.invokespecial 180, 3) := by decide +kernel
theorem dX13_out_22 : decode cX13_out 22 = .ok (.athrow, 1) := by decide +kernel
theorem dX13_out_23 : decode cX13_out 23 = .ok (.aload_n 0, 1) := by decide +kernel
theorem dX13_out_24 : decode cX13_out 24 = .ok (.getfield 29, 3) := by decide +kernel
theorem dX13_out_27 : decode cX13_out 27 = .ok (.iload_n 1, 1) := by decide +kernel
theorem dX13_out_28 : decode cX13_out 28 = .ok (.invokevirtual 181, 3) := by decide +kernel
theorem dX13_out_31 : decode cX13_out 31 = .ok (.i2b, 1) := by decide +kernel
theorem dX13_out_32 : decode cX13_out 32 = .ok (.ireturn, 1) := by decide +kernel
theorem dX13_variant_0 : decode cX13_variant 0 = .ok (.aload_n 0, 1) := by decide +kernel
theorem dX13_variant_1 : decode cX13_variant 1 = .ok (.getfield 80, 3) := by decide +kernel
theorem dX13_variant_4 : decode cX13_variant 4 = .ok (.ifnonnull 6, 3) := by decide +kernel
theorem dX13_variant_7 : decode cX13_variant 7 = .ok (.bipush (-3), 2) := by decide +kernel
theorem dX13_variant_9 : decode cX13_variant 9 = .ok (.ireturn, 1) := by decide +kernel
theorem dX13_variant_10 : decode cX13_variant 10 = .ok (.aload_n 0, 1) := by decide +kernel
theorem dX13_variant_11 : decode cX13_variant 11 = .ok (.getfield 80, 3) := by decide +kernel
theorem dX13_variant_14 : decode cX13_variant 14 = .ok (.aload_n 0, 1) := by decide +kernel
theorem dX13_variant_15 : decode cX13_variant 15 = .ok (.getfield 80, 3) := by decide +kernel
theorem dX13_variant_18 : decode cX13_variant 18 = .ok (.iload_n 1, 1) := by decide +kernel
theorem dX13_variant_19 : decode cX13_variant 19 = .ok (.invokevirtual 184, 3) := by decide +kernel
theorem dX13_variant_22 : decode cX13_variant 22 = .ok (.putfield 188, 3) := by decide +kernel
theorem dX13_variant_25 : decode cX13_variant 25 = .ok (.aload_n 0, 1) := by decide +kernel
theorem dX13_variant_26 : decode cX13_variant 26 = .ok (.getfield 80, 3) := by decide +kernel
theorem dX13_variant_29 : decode cX13_variant 29 = .ok (.getfield 188, 3) := by decide +kernel
theorem dX13_variant_32 : decode cX13_variant 32 = .ok (.ifnonnull 7, 3) := by decide +kernel
theorem dX13_variant_35 : decode cX13_variant 35 = .ok (.iconst 0, 1) := by decide +kernel
theorem dX13_variant_36 : decode cX13_variant 36 = .ok (.goto 13, 3) := by decide +kernel
theorem dX13_variant_39 : decode cX13_variant 39 = .ok (.aload_n 0, 1) := by decide +kernel
theorem dX13_variant_40 : decode cX13_variant 40 = .ok (.getfield 80, 3) := by decide +kernel
theorem dX13_variant_43 : decode cX13_variant 43 = .ok (.getfield 188, 3) := by decide +kernel
theorem dX13_variant_46 : decode cX13_variant 46 = .ok (.getfield 103, 3) := by decide +kernel
theorem dX13_variant_49 : decode cX13_variant 49 = .ok (.ireturn, 1) := by decide +kernel
theorem dX13_job_0 : decode cX13_job 0 = .ok (.aload_n 0, 1) := by decide +kernel
theorem dX13_job_1 : decode cX13_job 1 = .ok (.getfield 80, 3) := by decide +kernel
theorem dX13_job_4 : decode cX13_job 4 = .ok (.ifnull 22, 3) := by decide +kernel
theorem dX13_job_7 : decode cX13_job 7 = .ok (.iload_n 1, 1) := by decide +kernel
theorem dX13_job_8 : decode cX13_job 8 = .ok (.iconst 1, 1) := by decide +kernel
theorem dX13_job_9 : decode cX13_job 9 = .ok (.if_icmp .lt 17, 3) := by decide +kernel
theorem dX13_job_12 : decode cX13_job 12 = .ok (.iload_n 1, 1) := by decide +kernel
theorem dX13_job_13 : decode cX13_job 13 = .ok (.aload_n 0, 1) := by decide +kernel
theorem dX13_job_14 : decode cX13_job 14 = .ok (.getfield 80, 3) := by decide +kernel
theorem dX13_job_17 : decode cX13_job 17 = .ok (.getfield 191, 3) := by decide +kernel
theorem dX13_job_20 : decode cX13_job 20 = .ok (.invokevirtual 70, 3) := by decide +kernel
theorem dX13_job_23 : decode cX13_job 23 = .ok (.if_icmp .le 5, 3) := by decide +kernel
theorem dX13_job_26 : decode cX13_job 26 = .ok (.iconst (-1), 1) := by decide +kernel
theorem dX13_job_27 : decode cX13_job 27 = .ok (.ireturn, 1) := by decide +kernel
theorem dX13_job_28 : decode cX13_job 28 = .ok (.lload_n 2, 1) := by decide +kernel
theorem dX13_job_29 : decode cX13_job 29 = .ok (.lconst 0, 1) := by decide +kernel
theorem dX13_job_30 : decode cX13_job 30 = .ok (.lcmp, 1) := by decide +kernel
theorem dX13_job_31 : decode cX13_job 31 = .ok (.ifCond .lt 11, 3) := by decide +kernel
theorem dX13_job_34 : decode cX13_job 34 = .ok (.lload_n 2, 1) := by decide +kernel
theorem dX13_job_35 : decode cX13_job 35 = .ok (.ldc2_w 194, 3) := by decide +kernel
theorem dX13_job_38 : decode cX13_job 38 = .ok (.lcmp, 1) := by decide +kernel
theorem dX13_job_39 : decode cX13_job 39 = .ok (.ifCond .le 6, 3) := by decide +kernel
theorem dX13_job_42 : decode cX13_job 42 = .ok (.bipush (-2), 2) := by decide +kernel
theorem dX13_job_44 : decode cX13_job 44 = .ok (.ireturn, 1) := by decide +kernel
theorem dX13_job_45 : decode cX13_job 45 = .ok (.aload_n 0, 1) := by decide +kernel
theorem dX13_job_46 : decode cX13_job 46 = .ok (.getfield 80, 3) := by decide +kernel
theorem dX13_job_49 : decode cX13_job 49 = .ok (.getfield 191, 3) := by decide +kernel
theorem dX13_job_52 : decode cX13_job 52 = .ok (.iload_n 1, 1) := by decide +kernel
theorem dX13_job_53 : decode cX13_job 53 = .ok (.iconst 1, 1) := by decide +kernel
theorem dX13_job_54 : decode cX13_job 54 = .ok (.isub, 1) := by decide +kernel
theorem dX13_job_55 : decode cX13_job 55 = .ok (.invokevirtual 196, 3) := by decide +kernel
theorem dX13_job_58 : decode cX13_job 58 = .ok (.checkcast 200, 3) := by decide +kernel
theorem dX13_job_61 : decode cX13_job 61 = .ok (.lload_n 2, 1) := by decide +kernel
theorem dX13_job_62 : decode cX13_job 62 = .ok (.l2i, 1) := by decide +kernel
theorem dX13_job_63 : decode cX13_job 63 = .ok (.aload_n 0, 1) := by decide +kernel
theorem dX13_job_64 : decode cX13_job 64 = .ok (.getfield 25, 3) := by decide +kernel
theorem dX13_job_67 : decode cX13_job 67 = .ok (.aload_n 0, 1) := by decide +kernel
theorem dX13_job_68 : decode cX13_job 68 = .ok (.getfield 29, 3) := by decide +kernel
theorem dX13_job_71 : decode cX13_job 71 = .ok (.invokevirtual 202, 3) := by decide +kernel
theorem dX13_job_74 : decode cX13_job 74 = .ok (.ireturn, 1) := by decide +kernel
theorem dX13_ring_0 : decode cX13_ring 0 = .ok (.iload_n 1, 1) := by decide +kernel
theorem dX13_ring_1 : decode cX13_ring 1 = .ok (.ifCond .lt 9, 3) := by decide +kernel
theorem dX13_ring_4 : decode cX13_ring 4 = .ok (.iload_n 1, 1) := by decide +kernel
theorem dX13_ring_5 : decode cX13_ring 5 = .ok (.bipush 6, 2) := by decide +kernel
theorem dX13_ring_7 : decode cX13_ring 7 = .ok (.if_icmp .lt 5, 3) := by decide +kernel
theorem dX13_ring_10 : decode cX13_ring 10 = .ok (.iconst 0, 1) := by decide +kernel
theorem dX13_ring_11 : decode cX13_ring 11 = .ok (.ireturn, 1) := by decide +kernel
theorem dX13_ring_12 : decode cX13_ring 12 = .ok (.aload_n 0, 1) := by decide +kernel
theorem dX13_ring_13 : decode cX13_ring 13 = .ok (.getfield 43, 3) := by decide +kernel
theorem dX13_ring_16 : decode cX13_ring 16 = .ok (.astore_n 2, 1) := by decide +kernel
theorem dX13_ring_17 : decode cX13_ring 17 = .ok (.iconst 0, 1) := by decide +kernel
theorem dX13_ring_18 : decode cX13_ring 18 = .ok (.istore_n 3, 1) := by decide +kernel
theorem dX13_ring_19 : decode cX13_ring 19 = .ok (.iload_n 3, 1) := by decide +kernel
theorem dX13_ring_20 : decode cX13_ring 20 = .ok (.iload_n 1, 1) := by decide +kernel
theorem dX13_ring_21 : decode cX13_ring 21 = .ok (.if_icmp .ge 33, 3) := by decide +kernel
theorem dX13_ring_24 : decode cX13_ring 24 = .ok (.aload_n 2, 1) := by decide +kernel
theorem dX13_ring_25 : decode cX13_ring 25 = .ok (.ifnull 29, 3) := by decide +kernel
theorem dX13_ring_28 : decode cX13_ring 28 = .ok (.aload_n 2, 1) := by decide +kernel
theorem dX13_ring_29 : decode cX13_ring 29 = .ok (.getfield 206, 3) := by decide +kernel
theorem dX13_ring_32 : decode cX13_ring 32 = .ok (.aload_n 0, 1) := by decide +kernel
theorem dX13_ring_33 : decode cX13_ring 33 = .ok (.getfield 43, 3) := by decide +kernel
theorem dX13_ring_36 : decode cX13_ring 36 = .ok (.if_acmp .ne 7, 3) := by decide +kernel
theorem dX13_ring_39 : decode cX13_ring 39 = .ok (.aconst_null, 1) := by decide +kernel
theorem dX13_ring_40 : decode cX13_ring 40 = .ok (.goto 7, 3) := by decide +kernel
theorem dX13_ring_43 : decode cX13_ring 43 = .ok (.aload_n 2, 1) := by decide +kernel
theorem dX13_ring_44 : decode cX13_ring 44 = .ok (.getfield 206, 3) := by decide +kernel
theorem dX13_ring_47 : decode cX13_ring 47 = .ok (.astore_n 2, 1) := by decide +kernel
theorem dX13_ring_48 : decode cX13_ring 48 = .ok (.iinc 3 1, 3) := by decide +kernel
theorem dX13_ring_51 : decode cX13_ring 51 = .ok (.goto (-32), 3) := by decide +kernel
theorem dX13_ring_54 : decode cX13_ring 54 = .ok (.aload_n 2, 1) := by decide +kernel
theorem dX13_ring_55 : decode cX13_ring 55 = .ok (.ifnonnull 7, 3) := by decide +kernel
theorem dX13_ring_58 : decode cX13_ring 58 = .ok (.iconst 0, 1) := by decide +kernel
theorem dX13_ring_59 : decode cX13_ring 59 = .ok (.goto 7, 3) := by decide +kernel
theorem dX13_ring_62 : decode cX13_ring 62 = .ok (.aload_n 2, 1) := by decide +kernel
theorem dX13_ring_63 : decode cX13_ring 63 = .ok (.getfield 103, 3) := by decide +kernel
theorem dX13_ring_66 : decode cX13_ring 66 = .ok (.ireturn, 1) := by decide +kernel
theorem dX13_compare_0 : decode cX13_compare 0 = .ok (.aload_n 0, 1) := by decide +kernel
theorem dX13_compare_1 : decode cX13_compare 1 = .ok (.getfield 80, 3) := by decide +kernel
theorem dX13_compare_4 : decode cX13_compare 4 = .ok (.ifnull 21, 3) := by decide +kernel
theorem dX13_compare_7 : decode cX13_compare 7 = .ok (.iload_n 1, 1) := by decide +kernel
theorem dX13_compare_8 : decode cX13_compare 8 = .ok (.iconst 1, 1) := by decide +kernel
theorem dX13_compare_9 : decode cX13_compare 9 = .ok (.if_icmp .lt 16, 3) := by decide +kernel
theorem dX13_compare_12 : decode cX13_compare 12 = .ok (.iload_n 1, 1) := by decide +kernel
theorem dX13_compare_13 : decode cX13_compare 13 = .ok (.aload_n 0, 1) := by decide +kernel
theorem dX13_compare_14 : decode cX13_compare 14 = .ok (.getfield 209, 3) := by decide +kernel
theorem dX13_compare_17 : decode cX13_compare 17 = .ok (.if_icmp .gt 8, 3) := by decide +kernel
theorem dX13_compare_20 : decode cX13_compare 20 = .ok (.iload_n 1, 1) := by decide +kernel
theorem dX13_compare_21 : decode cX13_compare 21 = .ok (.iconst 4, 1) := by decide +kernel
theorem dX13_compare_22 : decode cX13_compare 22 = .ok (.if_icmp .le 5, 3) := by decide +kernel
theorem dX13_compare_25 : decode cX13_compare 25 = .ok (.iconst (-1), 1) := by decide +kernel
theorem dX13_compare_26 : decode cX13_compare 26 = .ok (.ireturn, 1) := by decide +kernel
theorem dX13_compare_27 : decode cX13_compare 27 = .ok (.aload_n 0, 1) := by decide +kernel
theorem dX13_compare_28 : decode cX13_compare 28 = .ok (.getfield 34, 3) := by decide +kernel
theorem dX13_compare_31 : decode cX13_compare 31 = .ok (.iload_n 1, 1) := by decide +kernel
theorem dX13_compare_32 : decode cX13_compare 32 = .ok (.iconst 1, 1) := by decide +kernel
theorem dX13_compare_33 : decode cX13_compare 33 = .ok (.isub, 1) := by decide +kernel
theorem dX13_compare_34 : decode cX13_compare 34 = .ok (.aaload, 1) := by decide +kernel
theorem dX13_compare_35 : decode cX13_compare 35 = .ok (.astore_n 2, 1) := by decide +kernel
theorem dX13_compare_36 : decode cX13_compare 36 = .ok (.aload_n 2, 1) := by decide +kernel
theorem dX13_compare_37 : decode cX13_compare 37 = .ok (.ifnonnull 7, 3) := by decide +kernel
theorem dX13_compare_40 : decode cX13_compare 40 = .ok (.iconst (-1), 1) := by decide +kernel
theorem dX13_compare_41 : decode cX13_compare 41 = .ok (.goto 11, 3) := by decide +kernel
theorem dX13_compare_44 : decode cX13_compare 44 = .ok (.aload_n 0, 1) := by decide +kernel
theorem dX13_compare_45 : decode cX13_compare 45 = .ok (.getfield 80, 3) := by decide +kernel
theorem dX13_compare_48 : decode cX13_compare 48 = .ok (.aload_n 2, 1) := by decide +kernel
theorem dX13_compare_49 : decode cX13_compare 49 = .ok (.invokevirtual 212, 3) := by decide +kernel
theorem dX13_compare_52 : decode cX13_compare 52 = .ok (.ireturn, 1) := by decide +kernel
theorem dX13_code_0 : decode cX13_code 0 = .ok (.aload_n 0, 1) := by decide +kernel
theorem dX13_code_1 : decode cX13_code 1 = .ok (.getfield 80, 3) := by decide +kernel
theorem dX13_code_4 : decode cX13_code 4 = .ok (.ifnonnull 5, 3) := by decide +kernel
theorem dX13_code_7 : decode cX13_code 7 = .ok (.iconst 0, 1) := by decide +kernel
theorem dX13_code_8 : decode cX13_code 8 = .ok (.ireturn, 1) := by decide +kernel
theorem dX13_code_9 : decode cX13_code 9 = .ok (.aload_n 0, 1) := by decide +kernel
theorem dX13_code_10 : decode cX13_code 10 = .ok (.getfield 80, 3) := by decide +kernel
theorem dX13_code_13 : decode cX13_code 13 = .ok (.getfield 216, 3) := by decide +kernel
theorem dX13_code_16 : decode cX13_code 16 = .ok (.iload_n 1, 1) := by decide +kernel
theorem dX13_code_17 : decode cX13_code 17 = .ok (.i2l, 1) := by decide +kernel
theorem dX13_code_18 : decode cX13_code 18 = .ok (.invokestatic 219, 3) := by decide +kernel
theorem dX13_code_21 : decode cX13_code 21 = .ok (.astore_n 2, 1) := by decide +kernel
theorem dX13_code_22 : decode cX13_code 22 = .ok (.aload_n 2, 1) := by decide +kernel
theorem dX13_code_23 : decode cX13_code 23 = .ok (.ifnonnull 7, 3) := by decide +kernel
theorem dX13_code_26 : decode cX13_code 26 = .ok (.iconst 0, 1) := by decide +kernel
theorem dX13_code_27 : decode cX13_code 27 = .ok (.goto 14, 3) := by decide +kernel
theorem dX13_code_30 : decode cX13_code 30 = .ok (.aload_n 0, 1) := by decide +kernel
theorem dX13_code_31 : decode cX13_code 31 = .ok (.getfield 80, 3) := by decide +kernel
theorem dX13_code_34 : decode cX13_code 34 = .ok (.aload_n 2, 1) := by decide +kernel
theorem dX13_code_35 : decode cX13_code 35 = .ok (.getfield 223, 3) := by decide +kernel
theorem dX13_code_38 : decode cX13_code 38 = .ok (.invokevirtual 90, 3) := by decide +kernel
theorem dX13_code_41 : decode cX13_code 41 = .ok (.ireturn, 1) := by decide +kernel
theorem dX13_take_0 : decode cX13_take 0 = .ok (.aload_n 0, 1) := by decide +kernel
theorem dX13_take_1 : decode cX13_take 1 = .ok (.aload_n 1, 1) := by decide +kernel
theorem dX13_take_2 : decode cX13_take 2 = .ok (.putfield 80, 3) := by decide +kernel
theorem dX13_take_5 : decode cX13_take 5 = .ok (.aload_n 1, 1) := by decide +kernel
theorem dX13_take_6 : decode cX13_take 6 = .ok (.getfield 226, 3) := by decide +kernel
theorem dX13_take_9 : decode cX13_take 9 = .ok (.invokevirtual 229, 3) := by decide +kernel
theorem dX13_take_12 : decode cX13_take 12 = .ok (.ifCond .ne 18, 3) := by decide +kernel
theorem dX13_take_15 : decode cX13_take 15 = .ok (.aload_n 1, 1) := by decide +kernel
theorem dX13_take_16 : decode cX13_take 16 = .ok (.aload_n 1, 1) := by decide +kernel
theorem dX13_take_17 : decode cX13_take 17 = .ok (.getfield 226, 3) := by decide +kernel
theorem dX13_take_20 : decode cX13_take 20 = .ok (.iconst 0, 1) := by decide +kernel
theorem dX13_take_21 : decode cX13_take 21 = .ok (.invokevirtual 196, 3) := by decide +kernel
theorem dX13_take_24 : decode cX13_take 24 = .ok (.checkcast 104, 3) := by decide +kernel
theorem dX13_take_27 : decode cX13_take 27 = .ok (.putfield 188, 3) := by decide +kernel
theorem dX13_take_30 : decode cX13_take 30 = .ok (.aload_n 0, 1) := by decide +kernel
theorem dX13_take_31 : decode cX13_take 31 = .ok (.getfield 209, 3) := by decide +kernel
theorem dX13_take_34 : decode cX13_take 34 = .ok (.iconst 4, 1) := by decide +kernel
theorem dX13_take_35 : decode cX13_take 35 = .ok (.if_icmp .ge 23, 3) := by decide +kernel
theorem dX13_take_38 : decode cX13_take 38 = .ok (.aload_n 0, 1) := by decide +kernel
theorem dX13_take_39 : decode cX13_take 39 = .ok (.getfield 34, 3) := by decide +kernel
theorem dX13_take_42 : decode cX13_take 42 = .ok (.aload_n 0, 1) := by decide +kernel
theorem dX13_take_43 : decode cX13_take 43 = .ok (.getfield 209, 3) := by decide +kernel
theorem dX13_take_46 : decode cX13_take 46 = .ok (.aload_n 1, 1) := by decide +kernel
theorem dX13_take_47 : decode cX13_take 47 = .ok (.aastore, 1) := by decide +kernel
theorem dX13_take_48 : decode cX13_take 48 = .ok (.aload_n 0, 1) := by decide +kernel
theorem dX13_take_49 : decode cX13_take 49 = .ok (.dup, 1) := by decide +kernel
theorem dX13_take_50 : decode cX13_take 50 = .ok (.getfield 209, 3) := by decide +kernel
theorem dX13_take_53 : decode cX13_take 53 = .ok (.iconst 1, 1) := by decide +kernel
theorem dX13_take_54 : decode cX13_take 54 = .ok (.iadd, 1) := by decide +kernel
theorem dX13_take_55 : decode cX13_take 55 = .ok (.putfield 209, 3) := by decide +kernel
theorem dX13_take_58 : decode cX13_take 58 = .ok (.return_, 1) := by decide +kernel
theorem dX13_lineAt_0 : decode cX13_lineAt 0 = .ok (.iconst 1, 1) := by decide +kernel
theorem dX13_lineAt_1 : decode cX13_lineAt 1 = .ok (.istore_n 2, 1) := by decide +kernel
theorem dX13_lineAt_2 : decode cX13_lineAt 2 = .ok (.iconst 0, 1) := by decide +kernel
theorem dX13_lineAt_3 : decode cX13_lineAt 3 = .ok (.istore_n 3, 1) := by decide +kernel
theorem dX13_lineAt_4 : decode cX13_lineAt 4 = .ok (.iload_n 3, 1) := by decide +kernel
theorem dX13_lineAt_5 : decode cX13_lineAt 5 = .ok (.iload_n 1, 1) := by decide +kernel
theorem dX13_lineAt_6 : decode cX13_lineAt 6 = .ok (.if_icmp .ge 31, 3) := by decide +kernel
theorem dX13_lineAt_9 : decode cX13_lineAt 9 = .ok (.iload_n 3, 1) := by decide +kernel
theorem dX13_lineAt_10 : decode cX13_lineAt 10 = .ok (.aload_n 0, 1) := by decide +kernel
theorem dX13_lineAt_11 : decode cX13_lineAt 11 = .ok (.getfield 38, 3) := by decide +kernel
theorem dX13_lineAt_14 : decode cX13_lineAt 14 = .ok (.if_icmp .ge 23, 3) := by decide +kernel
theorem dX13_lineAt_17 : decode cX13_lineAt 17 = .ok (.aload_n 0, 1) := by decide +kernel
theorem dX13_lineAt_18 : decode cX13_lineAt 18 = .ok (.getfield 11, 3) := by decide +kernel
theorem dX13_lineAt_21 : decode cX13_lineAt 21 = .ok (.iload_n 3, 1) := by decide +kernel
theorem dX13_lineAt_22 : decode cX13_lineAt 22 = .ok (.baload, 1) := by decide +kernel
theorem dX13_lineAt_23 : decode cX13_lineAt 23 = .ok (.bipush 10, 2) := by decide +kernel
theorem dX13_lineAt_25 : decode cX13_lineAt 25 = .ok (.if_icmp .ne 6, 3) := by decide +kernel
theorem dX13_lineAt_28 : decode cX13_lineAt 28 = .ok (.iinc 2 1, 3) := by decide +kernel
theorem dX13_lineAt_31 : decode cX13_lineAt 31 = .ok (.iinc 3 1, 3) := by decide +kernel
theorem dX13_lineAt_34 : decode cX13_lineAt 34 = .ok (.goto (-30), 3) := by decide +kernel
theorem dX13_lineAt_37 : decode cX13_lineAt 37 = .ok (.iload_n 2, 1) := by decide +kernel
theorem dX13_lineAt_38 : decode cX13_lineAt 38 = .ok (.ireturn, 1) := by decide +kernel
theorem dX13_serviceNumbered_0 : decode cX13_serviceNumbered 0 = .ok (.aload_n 0, 1) := by decide +kernel
theorem dX13_serviceNumbered_1 : decode cX13_serviceNumbered 1 = .ok (.getfield 80, 3) := by decide +kernel
theorem dX13_serviceNumbered_4 : decode cX13_serviceNumbered 4 = .ok (.ifnull 22, 3) := by decide +kernel
theorem dX13_serviceNumbered_7 : decode cX13_serviceNumbered 7 = .ok (.iload_n 1, 1) := by decide +kernel
theorem dX13_serviceNumbered_8 : decode cX13_serviceNumbered 8 = .ok (.iconst 1, 1) := by decide +kernel
theorem dX13_serviceNumbered_9 : decode cX13_serviceNumbered 9 = .ok (.if_icmp .lt 17, 3) := by decide +kernel
theorem dX13_serviceNumbered_12 : decode cX13_serviceNumbered 12 = .ok (.iload_n 1, 1) := by decide +kernel
theorem dX13_serviceNumbered_13 : decode cX13_serviceNumbered 13 = .ok (.aload_n 0, 1) := by decide +kernel
theorem dX13_serviceNumbered_14 : decode cX13_serviceNumbered 14 = .ok (.getfield 80, 3) := by decide +kernel
theorem dX13_serviceNumbered_17 : decode cX13_serviceNumbered 17 = .ok (.getfield 66, 3) := by decide +kernel
theorem dX13_serviceNumbered_20 : decode cX13_serviceNumbered 20 = .ok (.invokevirtual 70, 3) := by decide +kernel
theorem dX13_serviceNumbered_23 : decode cX13_serviceNumbered 23 = .ok (.if_icmp .le 5, 3) := by decide +kernel
theorem dX13_serviceNumbered_26 : decode cX13_serviceNumbered 26 = .ok (.aconst_null, 1) := by decide +kernel
theorem dX13_serviceNumbered_27 : decode cX13_serviceNumbered 27 = .ok (.areturn, 1) := by decide +kernel
theorem dX13_serviceNumbered_28 : decode cX13_serviceNumbered 28 = .ok (.aload_n 0, 1) := by decide +kernel
theorem dX13_serviceNumbered_29 : decode cX13_serviceNumbered 29 = .ok (.getfield 80, 3) := by decide +kernel
theorem dX13_serviceNumbered_32 : decode cX13_serviceNumbered 32 = .ok (.getfield 66, 3) := by decide +kernel
theorem dX13_serviceNumbered_35 : decode cX13_serviceNumbered 35 = .ok (.iload_n 1, 1) := by decide +kernel
theorem dX13_serviceNumbered_36 : decode cX13_serviceNumbered 36 = .ok (.iconst 1, 1) := by decide +kernel
theorem dX13_serviceNumbered_37 : decode cX13_serviceNumbered 37 = .ok (.isub, 1) := by decide +kernel
theorem dX13_serviceNumbered_38 : decode cX13_serviceNumbered 38 = .ok (.invokevirtual 196, 3) := by decide +kernel
theorem dX13_serviceNumbered_41 : decode cX13_serviceNumbered 41 = .ok (.checkcast 85, 3) := by decide +kernel
theorem dX13_serviceNumbered_44 : decode cX13_serviceNumbered 44 = .ok (.areturn, 1) := by decide +kernel
theorem dX13_parameterNumbered_0 : decode cX13_parameterNumbered 0 = .ok (.aload_n 0, 1) := by decide +kernel
theorem dX13_parameterNumbered_1 : decode cX13_parameterNumbered 1 = .ok (.ifnull 19, 3) := by decide +kernel
theorem dX13_parameterNumbered_4 : decode cX13_parameterNumbered 4 = .ok (.iload_n 1, 1) := by decide +kernel
theorem dX13_parameterNumbered_5 : decode cX13_parameterNumbered 5 = .ok (.iconst 1, 1) := by decide +kernel
theorem dX13_parameterNumbered_6 : decode cX13_parameterNumbered 6 = .ok (.if_icmp .lt 14, 3) := by decide +kernel
theorem dX13_parameterNumbered_9 : decode cX13_parameterNumbered 9 = .ok (.iload_n 1, 1) := by decide +kernel
theorem dX13_parameterNumbered_10 : decode cX13_parameterNumbered 10 = .ok (.aload_n 0, 1) := by decide +kernel
theorem dX13_parameterNumbered_11 : decode cX13_parameterNumbered 11 = .ok (.getfield 97, 3) := by decide +kernel
theorem dX13_parameterNumbered_14 : decode cX13_parameterNumbered 14 = .ok (.invokevirtual 70, 3) := by decide +kernel
theorem dX13_parameterNumbered_17 : decode cX13_parameterNumbered 17 = .ok (.if_icmp .le 5, 3) := by decide +kernel
theorem dX13_parameterNumbered_20 : decode cX13_parameterNumbered 20 = .ok (.aconst_null, 1) := by decide +kernel
theorem dX13_parameterNumbered_21 : decode cX13_parameterNumbered 21 = .ok (.areturn, 1) := by decide +kernel
theorem dX13_parameterNumbered_22 : decode cX13_parameterNumbered 22 = .ok (.aload_n 0, 1) := by decide +kernel
theorem dX13_parameterNumbered_23 : decode cX13_parameterNumbered 23 = .ok (.getfield 97, 3) := by decide +kernel
theorem dX13_parameterNumbered_26 : decode cX13_parameterNumbered 26 = .ok (.iload_n 1, 1) := by decide +kernel
theorem dX13_parameterNumbered_27 : decode cX13_parameterNumbered 27 = .ok (.iconst 1, 1) := by decide +kernel
theorem dX13_parameterNumbered_28 : decode cX13_parameterNumbered 28 = .ok (.isub, 1) := by decide +kernel
theorem dX13_parameterNumbered_29 : decode cX13_parameterNumbered 29 = .ok (.invokevirtual 196, 3) := by decide +kernel
theorem dX13_parameterNumbered_32 : decode cX13_parameterNumbered 32 = .ok (.checkcast 116, 3) := by decide +kernel
theorem dX13_parameterNumbered_35 : decode cX13_parameterNumbered 35 = .ok (.areturn, 1) := by decide +kernel
theorem dX13_firstWithNumber_0 : decode cX13_firstWithNumber 0 = .ok (.iconst 0, 1) := by decide +kernel
theorem dX13_firstWithNumber_1 : decode cX13_firstWithNumber 1 = .ok (.istore_n 3, 1) := by decide +kernel
theorem dX13_firstWithNumber_2 : decode cX13_firstWithNumber 2 = .ok (.iload_n 3, 1) := by decide +kernel
theorem dX13_firstWithNumber_3 : decode cX13_firstWithNumber 3 = .ok (.aload_n 0, 1) := by decide +kernel
theorem dX13_firstWithNumber_4 : decode cX13_firstWithNumber 4 = .ok (.invokevirtual 70, 3) := by decide +kernel
theorem dX13_firstWithNumber_7 : decode cX13_firstWithNumber 7 = .ok (.if_icmp .ge 33, 3) := by decide +kernel
theorem dX13_firstWithNumber_10 : decode cX13_firstWithNumber 10 = .ok (.aload_n 0, 1) := by decide +kernel
theorem dX13_firstWithNumber_11 : decode cX13_firstWithNumber 11 = .ok (.iload_n 3, 1) := by decide +kernel
theorem dX13_firstWithNumber_12 : decode cX13_firstWithNumber 12 = .ok (.invokevirtual 196, 3) := by decide +kernel
theorem dX13_firstWithNumber_15 : decode cX13_firstWithNumber 15 = .ok (.checkcast 224, 3) := by decide +kernel
theorem dX13_firstWithNumber_18 : decode cX13_firstWithNumber 18 = .ok (.astore 4, 2) := by decide +kernel
theorem dX13_firstWithNumber_20 : decode cX13_firstWithNumber 20 = .ok (.aload 4, 2) := by decide +kernel
theorem dX13_firstWithNumber_22 : decode cX13_firstWithNumber 22 = .ok (.getfield 233, 3) := by decide +kernel
theorem dX13_firstWithNumber_25 : decode cX13_firstWithNumber 25 = .ok (.i2l, 1) := by decide +kernel
theorem dX13_firstWithNumber_26 : decode cX13_firstWithNumber 26 = .ok (.lload_n 1, 1) := by decide +kernel
theorem dX13_firstWithNumber_27 : decode cX13_firstWithNumber 27 = .ok (.lcmp, 1) := by decide +kernel
theorem dX13_firstWithNumber_28 : decode cX13_firstWithNumber 28 = .ok (.ifCond .ne 6, 3) := by decide +kernel
theorem dX13_firstWithNumber_31 : decode cX13_firstWithNumber 31 = .ok (.aload 4, 2) := by decide +kernel
theorem dX13_firstWithNumber_33 : decode cX13_firstWithNumber 33 = .ok (.areturn, 1) := by decide +kernel
theorem dX13_firstWithNumber_34 : decode cX13_firstWithNumber 34 = .ok (.iinc 3 1, 3) := by decide +kernel
theorem dX13_firstWithNumber_37 : decode cX13_firstWithNumber 37 = .ok (.goto (-35), 3) := by decide +kernel
theorem dX13_firstWithNumber_40 : decode cX13_firstWithNumber 40 = .ok (.aconst_null, 1) := by decide +kernel
theorem dX13_firstWithNumber_41 : decode cX13_firstWithNumber 41 = .ok (.areturn, 1) := by decide +kernel
theorem dX14_init_0 : decode cX14_init 0 = .ok (.aload_n 0, 1) := by decide +kernel
theorem dX14_init_1 : decode cX14_init 1 = .ok (.invokespecial 1, 3) := by decide +kernel
theorem dX14_init_4 : decode cX14_init 4 = .ok (.aload_n 0, 1) := by decide +kernel
theorem dX14_init_5 : decode cX14_init 5 = .ok (.iconst 2, 1) := by decide +kernel
theorem dX14_init_6 : decode cX14_init 6 = .ok (.newarray .int, 2) := by decide +kernel
theorem dX14_init_8 : decode cX14_init 8 = .ok (.putfield 7, 3) := by decide +kernel
theorem dX14_init_11 : decode cX14_init 11 = .ok (.aload_n 0, 1) := by decide +kernel
theorem dX14_init_12 : decode cX14_init 12 = .ok (.iconst 2, 1) := by decide +kernel
theorem dX14_init_13 : decode cX14_init 13 = .ok (.newarray .int, 2) := by decide +kernel
theorem dX14_init_15 : decode cX14_init 15 = .ok (.putfield 13, 3) := by decide +kernel
theorem dX14_init_18 : decode cX14_init 18 = .ok (.aload_n 0, 1) := by decide +kernel
theorem dX14_init_19 : decode cX14_init 19 = .ok (.iconst 2, 1) := by decide +kernel
theorem dX14_init_20 : decode cX14_init 20 = .ok (.newarray .int, 2) := by decide +kernel
theorem dX14_init_22 : decode cX14_init 22 = .ok (.putfield 16, 3) := by decide +kernel
theorem dX14_init_25 : decode cX14_init 25 = .ok (.aload_n 0, 1) := by decide +kernel
theorem dX14_init_26 : decode cX14_init 26 = .ok (.iconst 2, 1) := by decide +kernel
theorem dX14_init_27 : decode cX14_init 27 = .ok (.newarray .int, 2) := by decide +kernel
theorem dX14_init_29 : decode cX14_init 29 = .ok (.putfield 19, 3) := by decide +kernel
theorem dX14_init_32 : decode cX14_init 32 = .ok (.aload_n 0, 1) := by decide +kernel
theorem dX14_init_33 : decode cX14_init 33 = .ok (.iconst 2, 1) := by decide +kernel
theorem dX14_init_34 : decode cX14_init 34 = .ok (.newarray .int, 2) := by decide +kernel
theorem dX14_init_36 : decode cX14_init 36 = .ok (.putfield 22, 3) := by decide +kernel
theorem dX14_init_39 : decode cX14_init 39 = .ok (.aload_n 0, 1) := by decide +kernel
theorem dX14_init_40 : decode cX14_init 40 = .ok (.iconst 2, 1) := by decide +kernel
theorem dX14_init_41 : decode cX14_init 41 = .ok (.newarray .int, 2) := by decide +kernel
theorem dX14_init_43 : decode cX14_init 43 = .ok (.putfield 25, 3) := by decide +kernel
theorem dX14_init_46 : decode cX14_init 46 = .ok (.aload_n 0, 1) := by decide +kernel
theorem dX14_init_47 : decode cX14_init 47 = .ok (.iconst 2, 1) := by decide +kernel
theorem dX14_init_48 : decode cX14_init 48 = .ok (.newarray .int, 2) := by decide +kernel
theorem dX14_init_50 : decode cX14_init 50 = .ok (.putfield 28, 3) := by decide +kernel
theorem dX14_init_53 : decode cX14_init 53 = .ok (.aload_n 0, 1) := by decide +kernel
theorem dX14_init_54 : decode cX14_init 54 = .ok (.sipush 2002, 3) := by decide +kernel
theorem dX14_init_57 : decode cX14_init 57 = .ok (.newarray .int, 2) := by decide +kernel
theorem dX14_init_59 : decode cX14_init 59 = .ok (.putfield 31, 3) := by decide +kernel
theorem dX14_init_62 : decode cX14_init 62 = .ok (.aload_n 0, 1) := by decide +kernel
theorem dX14_init_63 : decode cX14_init 63 = .ok (.sipush 24024, 3) := by decide +kernel
theorem dX14_init_66 : decode cX14_init 66 = .ok (.newarray .int, 2) := by decide +kernel
theorem dX14_init_68 : decode cX14_init 68 = .ok (.putfield 34, 3) := by decide +kernel
theorem dX14_init_71 : decode cX14_init 71 = .ok (.aload_n 0, 1) := by decide +kernel
theorem dX14_init_72 : decode cX14_init 72 = .ok (.bipush 24, 2) := by decide +kernel
theorem dX14_init_74 : decode cX14_init 74 = .ok (.newarray .int, 2) := by decide +kernel
theorem dX14_init_76 : decode cX14_init 76 = .ok (.putfield 37, 3) := by decide +kernel
theorem dX14_init_79 : decode cX14_init 79 = .ok (.aload_n 0, 1) := by decide +kernel
theorem dX14_init_80 : decode cX14_init 80 = .ok (.bipush 24, 2) := by decide +kernel
theorem dX14_init_82 : decode cX14_init 82 = .ok (.newarray .int, 2) := by decide +kernel
theorem dX14_init_84 : decode cX14_init 84 = .ok (.putfield 40, 3) := by decide +kernel
theorem dX14_init_87 : decode cX14_init 87 = .ok (.aload_n 0, 1) := by decide +kernel
theorem dX14_init_88 : decode cX14_init 88 = .ok (.bipush 24, 2) := by decide +kernel
theorem dX14_init_90 : decode cX14_init 90 = .ok (.newarray .int, 2) := by decide +kernel
theorem dX14_init_92 : decode cX14_init 92 = .ok (.putfield 43, 3) := by decide +kernel
theorem dX14_init_95 : decode cX14_init 95 = .ok (.aload_n 0, 1) := by decide +kernel
theorem dX14_init_96 : decode cX14_init 96 = .ok (.bipush 24, 2) := by decide +kernel
theorem dX14_init_98 : decode cX14_init 98 = .ok (.newarray .int, 2) := by decide +kernel
theorem dX14_init_100 : decode cX14_init 100 = .ok (.putfield 46, 3) := by decide +kernel
theorem dX14_init_103 : decode cX14_init 103 = .ok (.aload_n 0, 1) := by decide +kernel
theorem dX14_init_104 : decode cX14_init 104 = .ok (.bipush 24, 2) := by decide +kernel
theorem dX14_init_106 : decode cX14_init 106 = .ok (.newarray .int, 2) := by decide +kernel
theorem dX14_init_108 : decode cX14_init 108 = .ok (.putfield 49, 3) := by decide +kernel
theorem dX14_init_111 : decode cX14_init 111 = .ok (.aload_n 0, 1) := by decide +kernel
theorem dX14_init_112 : decode cX14_init 112 = .ok (.bipush 24, 2) := by decide +kernel
theorem dX14_init_114 : decode cX14_init 114 = .ok (.newarray .int, 2) := by decide +kernel
theorem dX14_init_116 : decode cX14_init 116 = .ok (.putfield 52, 3) := by decide +kernel
theorem dX14_init_119 : decode cX14_init 119 = .ok (.aload_n 0, 1) := by decide +kernel
theorem dX14_init_120 : decode cX14_init 120 = .ok (.bipush 24, 2) := by decide +kernel
theorem dX14_init_122 : decode cX14_init 122 = .ok (.newarray .int, 2) := by decide +kernel
theorem dX14_init_124 : decode cX14_init 124 = .ok (.putfield 55, 3) := by decide +kernel
theorem dX14_init_127 : decode cX14_init 127 = .ok (.aload_n 0, 1) := by decide +kernel
theorem dX14_init_128 : decode cX14_init 128 = .ok (.sipush 192, 3) := by decide +kernel
theorem dX14_init_131 : decode cX14_init 131 = .ok (.newarray .int, 2) := by decide +kernel
theorem dX14_init_133 : decode cX14_init 133 = .ok (.putfield 58, 3) := by decide +kernel
theorem dX14_init_136 : decode cX14_init 136 = .ok (.aload_n 0, 1) := by decide +kernel
theorem dX14_init_137 : decode cX14_init 137 = .ok (.sipush 192, 3) := by decide +kernel
theorem dX14_init_140 : decode cX14_init 140 = .ok (.newarray .int, 2) := by decide +kernel
theorem dX14_init_142 : decode cX14_init 142 = .ok (.putfield 61, 3) := by decide +kernel
theorem dX14_init_145 : decode cX14_init 145 = .ok (.aload_n 0, 1) := by decide +kernel
theorem dX14_init_146 : decode cX14_init 146 = .ok (.bipush 12, 2) := by decide +kernel
theorem dX14_init_148 : decode cX14_init 148 = .ok (.newarray .int, 2) := by decide +kernel
theorem dX14_init_150 : decode cX14_init 150 = .ok (.putfield 64, 3) := by decide +kernel
theorem dX14_init_153 : decode cX14_init 153 = .ok (.aload_n 0, 1) := by decide +kernel
theorem dX14_init_154 : decode cX14_init 154 = .ok (.bipush 12, 2) := by decide +kernel
theorem dX14_init_156 : decode cX14_init 156 = .ok (.newarray .int, 2) := by decide +kernel
theorem dX14_init_158 : decode cX14_init 158 = .ok (.putfield 67, 3) := by decide +kernel
theorem dX14_init_161 : decode cX14_init 161 = .ok (.aload_n 0, 1) := by decide +kernel
theorem dX14_init_162 : decode cX14_init 162 = .ok (.bipush 32, 2) := by decide +kernel
theorem dX14_init_164 : decode cX14_init 164 = .ok (.newarray .int, 2) := by decide +kernel
theorem dX14_init_166 : decode cX14_init 166 = .ok (.putfield 70, 3) := by decide +kernel
theorem dX14_init_169 : decode cX14_init 169 = .ok (.aload_n 0, 1) := by decide +kernel
theorem dX14_init_170 : decode cX14_init 170 = .ok (.bipush 32, 2) := by decide +kernel
theorem dX14_init_172 : decode cX14_init 172 = .ok (.newarray .int, 2) := by decide +kernel
theorem dX14_init_174 : decode cX14_init 174 = .ok (.putfield 73, 3) := by decide +kernel
theorem dX14_init_177 : decode cX14_init 177 = .ok (.aload_n 0, 1) := by decide +kernel
theorem dX14_init_178 : decode cX14_init 178 = .ok (.bipush 32, 2) := by decide +kernel
theorem dX14_init_180 : decode cX14_init 180 = .ok (.newarray .int, 2) := by decide +kernel
theorem dX14_init_182 : decode cX14_init 182 = .ok (.putfield 76, 3) := by decide +kernel
theorem dX14_init_185 : decode cX14_init 185 = .ok (.aload_n 0, 1) := by decide +kernel
theorem dX14_init_186 : decode cX14_init 186 = .ok (.bipush 32, 2) := by decide +kernel
theorem dX14_init_188 : decode cX14_init 188 = .ok (.newarray .int, 2) := by decide +kernel
theorem dX14_init_190 : decode cX14_init 190 = .ok (.putfield 79, 3) := by decide +kernel
theorem dX14_init_193 : decode cX14_init 193 = .ok (.aload_n 0, 1) := by decide +kernel
theorem dX14_init_194 : decode cX14_init 194 = .ok (.sipush 256, 3) := by decide +kernel
theorem dX14_init_197 : decode cX14_init 197 = .ok (.newarray .int, 2) := by decide +kernel
theorem dX14_init_199 : decode cX14_init 199 = .ok (.putfield 82, 3) := by decide +kernel
theorem dX14_init_202 : decode cX14_init 202 = .ok (.aload_n 0, 1) := by decide +kernel
theorem dX14_init_203 : decode cX14_init 203 = .ok (.sipush 256, 3) := by decide +kernel
theorem dX14_init_206 : decode cX14_init 206 = .ok (.newarray .int, 2) := by decide +kernel
theorem dX14_init_208 : decode cX14_init 208 = .ok (.putfield 85, 3) := by decide +kernel
theorem dX14_init_211 : decode cX14_init 211 = .ok (.aload_n 0, 1) := by decide +kernel
theorem dX14_init_212 : decode cX14_init 212 = .ok (.sipush 256, 3) := by decide +kernel
theorem dX14_init_215 : decode cX14_init 215 = .ok (.newarray .int, 2) := by decide +kernel
theorem dX14_init_217 : decode cX14_init 217 = .ok (.putfield 88, 3) := by decide +kernel
theorem dX14_init_220 : decode cX14_init 220 = .ok (.aload_n 0, 1) := by decide +kernel
theorem dX14_init_221 : decode cX14_init 221 = .ok (.sipush 256, 3) := by decide +kernel
theorem dX14_init_224 : decode cX14_init 224 = .ok (.newarray .int, 2) := by decide +kernel
theorem dX14_init_226 : decode cX14_init 226 = .ok (.putfield 91, 3) := by decide +kernel
theorem dX14_init_229 : decode cX14_init 229 = .ok (.aload_n 0, 1) := by decide +kernel
theorem dX14_init_230 : decode cX14_init 230 = .ok (.sipush 256, 3) := by decide +kernel
theorem dX14_init_233 : decode cX14_init 233 = .ok (.newarray .int, 2) := by decide +kernel
theorem dX14_init_235 : decode cX14_init 235 = .ok (.putfield 94, 3) := by decide +kernel
theorem dX14_init_238 : decode cX14_init 238 = .ok (.aload_n 0, 1) := by decide +kernel
theorem dX14_init_239 : decode cX14_init 239 = .ok (.bipush 24, 2) := by decide +kernel
theorem dX14_init_241 : decode cX14_init 241 = .ok (.newarray .int, 2) := by decide +kernel
theorem dX14_init_243 : decode cX14_init 243 = .ok (.putfield 97, 3) := by decide +kernel
theorem dX14_init_246 : decode cX14_init 246 = .ok (.aload_n 0, 1) := by decide +kernel
theorem dX14_init_247 : decode cX14_init 247 = .ok (.bipush 24, 2) := by decide +kernel
theorem dX14_init_249 : decode cX14_init 249 = .ok (.newarray .int, 2) := by decide +kernel
theorem dX14_init_251 : decode cX14_init 251 = .ok (.putfield 100, 3) := by decide +kernel
theorem dX14_init_254 : decode cX14_init 254 = .ok (.aload_n 0, 1) := by decide +kernel
theorem dX14_init_255 : decode cX14_init 255 = .ok (.bipush 12, 2) := by decide +kernel
theorem dX14_init_257 : decode cX14_init 257 = .ok (.newarray .int, 2) := by decide +kernel
theorem dX14_init_259 : decode cX14_init 259 = .ok (.putfield 103, 3) := by decide +kernel
theorem dX14_init_262 : decode cX14_init 262 = .ok (.aload_n 0, 1) := by decide +kernel
theorem dX14_init_263 : decode cX14_init 263 = .ok (.bipush 12, 2) := by decide +kernel
theorem dX14_init_265 : decode cX14_init 265 = .ok (.newarray .int, 2) := by decide +kernel
theorem dX14_init_267 : decode cX14_init 267 = .ok (.putfield 106, 3) := by decide +kernel
theorem dX14_init_270 : decode cX14_init 270 = .ok (.aload_n 0, 1) := by decide +kernel
theorem dX14_init_271 : decode cX14_init 271 = .ok (.bipush 8, 2) := by decide +kernel
theorem dX14_init_273 : decode cX14_init 273 = .ok (.newarray .int, 2) := by decide +kernel
theorem dX14_init_275 : decode cX14_init 275 = .ok (.putfield 109, 3) := by decide +kernel
theorem dX14_init_278 : decode cX14_init 278 = .ok (.aload_n 0, 1) := by decide +kernel
theorem dX14_init_279 : decode cX14_init 279 = .ok (.bipush 8, 2) := by decide +kernel
theorem dX14_init_281 : decode cX14_init 281 = .ok (.newarray .int, 2) := by decide +kernel
theorem dX14_init_283 : decode cX14_init 283 = .ok (.putfield 112, 3) := by decide +kernel
theorem dX14_init_286 : decode cX14_init 286 = .ok (.aload_n 0, 1) := by decide +kernel
theorem dX14_init_287 : decode cX14_init 287 = .ok (.sipush 800, 3) := by decide +kernel
theorem dX14_init_290 : decode cX14_init 290 = .ok (.newarray .int, 2) := by decide +kernel
theorem dX14_init_292 : decode cX14_init 292 = .ok (.putfield 115, 3) := by decide +kernel
theorem dX14_init_295 : decode cX14_init 295 = .ok (.aload_n 0, 1) := by decide +kernel
theorem dX14_init_296 : decode cX14_init 296 = .ok (.sipush 800, 3) := by decide +kernel
theorem dX14_init_299 : decode cX14_init 299 = .ok (.newarray .int, 2) := by decide +kernel
theorem dX14_init_301 : decode cX14_init 301 = .ok (.putfield 118, 3) := by decide +kernel
theorem dX14_init_304 : decode cX14_init 304 = .ok (.aload_n 0, 1) := by decide +kernel
theorem dX14_init_305 : decode cX14_init 305 = .ok (.sipush 800, 3) := by decide +kernel
theorem dX14_init_308 : decode cX14_init 308 = .ok (.newarray .int, 2) := by decide +kernel
theorem dX14_init_310 : decode cX14_init 310 = .ok (.putfield 121, 3) := by decide +kernel
theorem dX14_init_313 : decode cX14_init 313 = .ok (.aload_n 0, 1) := by decide +kernel
theorem dX14_init_314 : decode cX14_init 314 = .ok (.sipush 2000, 3) := by decide +kernel
theorem dX14_init_317 : decode cX14_init 317 = .ok (.newarray .int, 2) := by decide +kernel
theorem dX14_init_319 : decode cX14_init 319 = .ok (.putfield 124, 3) := by decide +kernel
theorem dX14_init_322 : decode cX14_init 322 = .ok (.aload_n 0, 1) := by decide +kernel
theorem dX14_init_323 : decode cX14_init 323 = .ok (.iconst 1, 1) := by decide +kernel
theorem dX14_init_324 : decode cX14_init 324 = .ok (.putfield 127, 3) := by decide +kernel
theorem dX14_init_327 : decode cX14_init 327 = .ok (.aload_n 0, 1) := by decide +kernel
theorem dX14_init_328 : decode cX14_init 328 = .ok (.iconst 4, 1) := by decide +kernel
theorem dX14_init_329 : decode cX14_init 329 = .ok (.newarray .int, 2) := by decide +kernel
theorem dX14_init_331 : decode cX14_init 331 = .ok (.putfield 131, 3) := by decide +kernel
theorem dX14_init_334 : decode cX14_init 334 = .ok (.aload_n 0, 1) := by decide +kernel
theorem dX14_init_335 : decode cX14_init 335 = .ok (.sipush 8000, 3) := by decide +kernel
theorem dX14_init_338 : decode cX14_init 338 = .ok (.newarray .int, 2) := by decide +kernel
theorem dX14_init_340 : decode cX14_init 340 = .ok (.putfield 134, 3) := by decide +kernel
theorem dX14_init_343 : decode cX14_init 343 = .ok (.aload_n 0, 1) := by decide +kernel
theorem dX14_init_344 : decode cX14_init 344 = .ok (.aload_n 0, 1) := by decide +kernel
theorem dX14_init_345 : decode cX14_init 345 = .ok (.getfield 124, 3) := by decide +kernel
theorem dX14_init_348 : decode cX14_init 348 = .ok (.putfield 137, 3) := by decide +kernel
theorem dX14_init_351 : decode cX14_init 351 = .ok (.aload_n 0, 1) := by decide +kernel
theorem dX14_init_352 : decode cX14_init 352 = .ok (.sipush 2000, 3) := by decide +kernel
theorem dX14_init_355 : decode cX14_init 355 = .ok (.newarray .int, 2) := by decide +kernel
theorem dX14_init_357 : decode cX14_init 357 = .ok (.putfield 140, 3) := by decide +kernel
theorem dX14_init_360 : decode cX14_init 360 = .ok (.aload_n 0, 1) := by decide +kernel
theorem dX14_init_361 : decode cX14_init 361 = .ok (.sipush 2000, 3) := by decide +kernel
theorem dX14_init_364 : decode cX14_init 364 = .ok (.newarray .int, 2) := by decide +kernel
theorem dX14_init_366 : decode cX14_init 366 = .ok (.putfield 143, 3) := by decide +kernel
theorem dX14_init_369 : decode cX14_init 369 = .ok (.aload_n 0, 1) := by decide +kernel
theorem dX14_init_370 : decode cX14_init 370 = .ok (.sipush 2000, 3) := by decide +kernel
theorem dX14_init_373 : decode cX14_init 373 = .ok (.newarray .int, 2) := by decide +kernel
theorem dX14_init_375 : decode cX14_init 375 = .ok (.putfield 146, 3) := by decide +kernel
theorem dX14_init_378 : decode cX14_init 378 = .ok (.aload_n 0, 1) := by decide +kernel
theorem dX14_init_379 : decode cX14_init 379 = .ok (.sipush 2000, 3) := by decide +kernel
theorem dX14_init_382 : decode cX14_init 382 = .ok (.newarray .int, 2) := by decide +kernel
theorem dX14_init_384 : decode cX14_init 384 = .ok (.putfield 149, 3) := by decide +kernel
theorem dX14_init_387 : decode cX14_init 387 = .ok (.aload_n 0, 1) := by decide +kernel
theorem dX14_init_388 : decode cX14_init 388 = .ok (.bipush 6, 2) := by decide +kernel
theorem dX14_init_390 : decode cX14_init 390 = .ok (.newarray .int, 2) := by decide +kernel
theorem dX14_init_392 : decode cX14_init 392 = .ok (.putfield 152, 3) := by decide +kernel
theorem dX14_init_395 : decode cX14_init 395 = .ok (.aload_n 0, 1) := by decide +kernel
theorem dX14_init_396 : decode cX14_init 396 = .ok (.bipush 64, 2) := by decide +kernel
theorem dX14_init_398 : decode cX14_init 398 = .ok (.newarray .int, 2) := by decide +kernel
theorem dX14_init_400 : decode cX14_init 400 = .ok (.putfield 155, 3) := by decide +kernel
theorem dX14_init_403 : decode cX14_init 403 = .ok (.aload_n 0, 1) := by decide +kernel
theorem dX14_init_404 : decode cX14_init 404 = .ok (.bipush 64, 2) := by decide +kernel
theorem dX14_init_406 : decode cX14_init 406 = .ok (.newarray .int, 2) := by decide +kernel
theorem dX14_init_408 : decode cX14_init 408 = .ok (.putfield 158, 3) := by decide +kernel
theorem dX14_init_411 : decode cX14_init 411 = .ok (.aload_n 0, 1) := by decide +kernel
theorem dX14_init_412 : decode cX14_init 412 = .ok (.sipush 128, 3) := by decide +kernel
theorem dX14_init_415 : decode cX14_init 415 = .ok (.newarray .long, 2) := by decide +kernel
theorem dX14_init_417 : decode cX14_init 417 = .ok (.putfield 161, 3) := by decide +kernel
theorem dX14_init_420 : decode cX14_init 420 = .ok (.aload_n 0, 1) := by decide +kernel
theorem dX14_init_421 : decode cX14_init 421 = .ok (.bipush 8, 2) := by decide +kernel
theorem dX14_init_423 : decode cX14_init 423 = .ok (.newarray .boolean, 2) := by decide +kernel
